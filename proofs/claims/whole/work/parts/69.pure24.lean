theorem cy_o {M : Nat → Nat → Int32} {o t f n a j : Nat} (h : a ≠ t) : cyM 0 M o t f n a j = M a j := by
  unfold cyM cfM
  rw [if_pos rfl]
  exact if_neg (fun q => h q.1)
theorem all_o {M : Nat → Nat → Int32} {L : Nat → Nat → Int64} {t a j : Nat} (h : a ≠ t) : (a_X8_all M L t 0).1 a j = M a j := by
  unfold a_X8_all
  rw [if_pos rfl]
  simp only [up2_o _ _ (Or.inl h), cy_o h]
theorem mul160 {s : Int32} {q : Nat} (h : fIx s 8 q) : 160 * s = nI (160 * q) := by
  rw [fIx_eq h, ← nI_mul]
  rfl
/-- the numbers of things and of waiters that a memory of the reference has -/
def tX (D : Nat → Nat → Int32) : Nat := (D 86 1).toNatClampNeg
def wX (D : Nat → Nat → Int32) : Nat := (D 86 0).toNatClampNeg
/-- the reference in the midst of a text -/
def gdJ (s0 en : Nat) (D : Nat → Nat → Int32) : Prop := D 86 32 = nI (160 * s0) ∧ D 86 34 = nI en ∧ D 86 33 = nI (pN D) ∧ pN D ≤ en ∧ D 86 1 = nI (tX D) ∧ tX D ≤ 8 ∧ D 86 0 = nI (wX D) ∧ wX D ≤ 6 ∧ (∀ k, k < 28 → D 106 k = wdA k) ∧ (∀ w, w < 4 → D 107 w = nI (nmN w))
/-- what an item leaves alone -/
def frX (M D : Nat → Nat → Int32) : Prop := ∀ a j, (a < 88 ∨ 99 < a) → a ≠ 110 → (a ≠ 86 ∨ (2 < j ∧ j ≠ 33 ∧ j ≠ 35 ∧ j ≠ 36)) → D a j = M a j
section IJ
variable {M : Nat → Nat → Int32} {L : Nat → Nat → Int64} {s0 en p tc wc : Nat}
theorem lpi_ok (h3 : wdx M L s0 p en = 0 → tc < 8) (h4 : wdx M L s0 p en = 1 → wc < 6) (hen : en ≤ 160) (htc : tc ≤ 8) (hwc : wc ≤ 6) {q : Nat} : ∀ f i D, (D 86 33 = nI (pN D) ∧ pN D ≤ en ∧ q ≤ pN D ∧ D 86 0 = nI wc ∧ D 86 1 = nI tc ∧ frX M D) → ¬ (lp_X8_item_57 M L tc wc s0 p en f i D).1 = 0 →
    ((lp_X8_item_57 M L tc wc s0 p en f i D).2.1 86 33 = nI (pN (lp_X8_item_57 M L tc wc s0 p en f i D).2.1) ∧ pN (lp_X8_item_57 M L tc wc s0 p en f i D).2.1 ≤ en ∧ q ≤ pN (lp_X8_item_57 M L tc wc s0 p en f i D).2.1 ∧ (∃ w, w ≤ 6 ∧ (lp_X8_item_57 M L tc wc s0 p en f i D).2.1 86 0 = nI w) ∧ (∃ t, t ≤ 8 ∧ (lp_X8_item_57 M L tc wc s0 p en f i D).2.1 86 1 = nI t) ∧ frX M (lp_X8_item_57 M L tc wc s0 p en f i D).2.1) := by
  intro f
  induction f with
  | zero =>
    intro i D ⟨j1, j2, j3, j4, j5, j6⟩ _
    rw [lp_X8_item_57_0]
    have key : ∀ X : Nat → Nat → Int32, X 86 33 = D 86 33 → (∃ w, w ≤ 6 ∧ X 86 0 = nI w) → (∃ t, t ≤ 8 ∧ X 86 1 = nI t) → frX D X → (X 86 33 = nI (pN X) ∧ pN X ≤ en ∧ q ≤ pN X ∧ (∃ w, w ≤ 6 ∧ X 86 0 = nI w) ∧ (∃ t, t ≤ 8 ∧ X 86 1 = nI t) ∧ frX M X) := by
      intro X e1 e2 e3 e4
      have e5 : pN X = pN D := by unfold pN; rw [e1]
      exact ⟨by rw [e1, e5]; exact j1, by rw [e5]; exact j2, by rw [e5]; exact j3, e2, e3, fun a j k1 k2 k3 => (e4 a j k1 k2 k3).trans (j6 a j k1 k2 k3)⟩
    by_cases w0 : wdx M L s0 p en = 0
    · rw [if_pos w0]
      unfold a_X8_addsThing
      dsimp only
      have ht := h3 w0
      refine key _ (by repeat rw [up2_o _ _ (by omega)]) ⟨wc, hwc, by rw [← j4]; repeat rw [up2_o _ _ (by omega)]⟩ ⟨tc + 1, by omega, by rw [up2_s]⟩ ?_
      intro a j k1 k2 k3
      repeat rw [up2_o _ _ (by omega)]
    rw [if_neg w0]
    by_cases w1 : wdx M L s0 p en = 1
    · rw [if_pos w1]
      unfold a_X8_addsWaiter
      dsimp only
      have ht := h4 w1
      refine key _ (by repeat rw [up2_o _ _ (by omega)]) ⟨wc + 1, by omega, by rw [up2_s]⟩ ⟨tc, htc, by rw [← j5]; repeat rw [up2_o _ _ (by omega)]⟩ ?_
      intro a j k1 k2 k3
      repeat rw [up2_o _ _ (by omega)]
    rw [if_neg w1]
    by_cases w2 : wdx M L s0 p en = 2
    · rw [if_pos w2]
      dsimp only
      exact key _ (up2_o _ _ (by omega)) ⟨wc, hwc, (up2_o _ _ (by omega)).trans j4⟩ ⟨tc, htc, (up2_o _ _ (by omega)).trans j5⟩ (fun a j k1 k2 k3 => up2_o _ _ (by omega))
    · rw [if_neg w2]
      dsimp only
      exact key _ (up2_o _ _ (by omega)) ⟨wc, hwc, (up2_o _ _ (by omega)).trans j4⟩ ⟨tc, htc, (up2_o _ _ (by omega)).trans j5⟩ (fun a j k1 k2 k3 => up2_o _ _ (by omega))
  | succ f ih =>
    intro i D ⟨j1, j2, j3, j4, j5, j6⟩
    have step : ∀ (X : Nat → Nat → Int32) (r : Nat), (X 86 33 = nI r ∧ r ≤ en ∧ q ≤ r ∧ X 86 0 = nI wc ∧ X 86 1 = nI tc ∧ frX M X) → ¬ (a_X8_reads X L s0 r en).1 = 0 →
        ((up2 (a_X8_reads X L s0 r en).2.1 110 i ((a_X8_reads X L s0 r en).2.1 86 35)) 86 33 = nI (pN (up2 (a_X8_reads X L s0 r en).2.1 110 i ((a_X8_reads X L s0 r en).2.1 86 35))) ∧ pN (up2 (a_X8_reads X L s0 r en).2.1 110 i ((a_X8_reads X L s0 r en).2.1 86 35)) ≤ en ∧ q ≤ pN (up2 (a_X8_reads X L s0 r en).2.1 110 i ((a_X8_reads X L s0 r en).2.1 86 35)) ∧ (up2 (a_X8_reads X L s0 r en).2.1 110 i ((a_X8_reads X L s0 r en).2.1 86 35)) 86 0 = nI wc ∧ (up2 (a_X8_reads X L s0 r en).2.1 110 i ((a_X8_reads X L s0 r en).2.1 86 35)) 86 1 = nI tc ∧ frX M (up2 (a_X8_reads X L s0 r en).2.1 110 i ((a_X8_reads X L s0 r en).2.1 86 35))) := by
      intro X r ⟨x1, x2, x3, x4, x5, x6⟩ hr
      have hrd := rd_sp x1 hen x2 hr
      rw [pN_o (Or.inl (by decide))]
      refine ⟨(up2_o _ _ (Or.inl (by decide))).trans hrd.1, hrd.2.1, by omega, ?_, ?_, ?_⟩
      · rw [up2_o _ _ (Or.inl (by decide)), rd_fr (by decide), x4]
      · rw [up2_o _ _ (Or.inl (by decide)), rd_fr (by decide), x5]
      · intro a j k1 k2 k3
        rw [up2_o _ _ (Or.inl k2), rd_fr (by omega)]
        exact x6 a j k1 k2 k3
    rw [lp_X8_item_57_s]
    by_cases hi : i ≤ 0
    · rw [if_pos hi]
      by_cases hr : (a_X8_reads D L s0 (pN D) en).1 = 0
      · rw [if_pos hr]; exact fun h => absurd rfl h
      rw [if_neg hr]
      by_cases hs : a_X8_isSo (a_X8_reads D L s0 (pN D) en).2.1 L (nI (wdx M L s0 p en)) (nI i) i = 0
      · rw [if_pos hs]; exact fun h => absurd rfl h
      rw [if_neg hs]
      exact ih (i + 1) _ (step D (pN D) ⟨j1, j2, j3, j4, j5, j6⟩ hr)
    rw [if_neg hi]
    by_cases he : en ≤ pN D
    · rw [if_pos he]; exact fun h => absurd rfl h
    rw [if_neg he]
    by_cases hc : (L 104 (160 * s0 + pN D)).toInt32 = 32
    · rw [if_pos hc]
      by_cases hr : (a_X8_reads (up2 D 86 33 (nI (pN D + 1))) L s0 (pN D + 1) en).1 = 0
      · rw [if_pos hr]; exact fun h => absurd rfl h
      rw [if_neg hr]
      by_cases hs : a_X8_isSo (a_X8_reads (up2 D 86 33 (nI (pN D + 1))) L s0 (pN D + 1) en).2.1 L (nI (wdx M L s0 p en)) (nI i) i = 0
      · rw [if_pos hs]; exact fun h => absurd rfl h
      rw [if_neg hs]
      exact ih (i + 1) _ (step _ (pN D + 1) ⟨up2_s _ _ _ _, by omega, by omega, (up2_o _ _ (by omega)).trans j4, (up2_o _ _ (by omega)).trans j5, fun a j k1 k2 k3 => (up2_o _ _ (by omega)).trans (j6 a j k1 k2 k3)⟩ hr)
    · rw [if_neg hc]; exact fun h => absurd rfl h
theorem item_J (hba : M 86 32 = nI (160 * s0)) (hs : s0 < 8) (hpl : M 86 33 = nI p) (hen : M 86 34 = nI en) (hen1 : en ≤ 160) (hpe : p ≤ en) (htc : M 86 1 = nI tc) (htc8 : tc ≤ 8) (hwc : M 86 0 = nI wc) (hwc6 : wc ≤ 6) (hwd : ∀ k, k < 28 → M 106 k = wdA k) (hnm : ∀ w, w < 4 → M 107 w = nI (nmN w)) (h : ¬ (itemR M L tc wc s0 p en).1 = 0) : gdJ s0 en (itemR M L tc wc s0 p en).2.1 ∧ p ≤ pN (itemR M L tc wc s0 p en).2.1 ∧ frX M (itemR M L tc wc s0 p en).2.1 := by
  unfold itemR at h ⊢
  by_cases h1 : (¬ a_X8_stands M L 0 s0 p en 0 = 0 ∧ tc = 8) ∨ (¬ a_X8_stands M L 1 s0 p en 1 = 0 ∧ wc = 6)
  · rw [if_pos h1] at h; exact absurd rfl h
  rw [if_neg h1] at h ⊢
  by_cases h2 : (wordV M L s0 p en).1 = -1
  · rw [if_pos h2] at h; exact absurd rfl h
  rw [if_neg h2] at h ⊢
  have hw := wordV_w hpe h2
  have hJ0 := lpi_ok (fun q => st_add0 h1 hwd hw q htc8) (fun q => st_add1 h1 hwd hw q hwc6) hen1 htc8 hwc6 (q := p) _ 0 (up2 M 86 33 (nI (p + wdL (wdx M L s0 p en)))) ⟨pN_up (by omega), by rw [pN_at (by omega)]; exact hw.2.2.2.2, by rw [pN_at (by omega)]; omega, (up2_o _ _ (by omega)).trans hwc, (up2_o _ _ (by omega)).trans htc, fun a j k1 k2 k3 => up2_o _ _ (by omega)⟩ h
  generalize (lp_X8_item_57 M L tc wc s0 p en (nmN (wdx M L s0 p en)) 0 (up2 M 86 33 (nI (p + (wdL (wdx M L s0 p en)))))).2.1 = X at hJ0 ⊢
  obtain ⟨x1, x2, x3, ⟨w, w1, w2⟩, ⟨t, t1, t2⟩, x6⟩ := hJ0
  have ew : wX X = w := by unfold wX; rw [w2, nI_clamp (by omega)]
  have et : tX X = t := by unfold tX; rw [t2, nI_clamp (by omega)]
  refine ⟨⟨(x6 86 32 (by omega) (by omega) (by omega)).trans hba, (x6 86 34 (by omega) (by omega) (by omega)).trans hen, x1, x2, by rw [et]; exact t2, by omega, by rw [ew]; exact w2, by omega, fun k hk => (x6 106 k (by omega) (by omega) (by omega)).trans (hwd k hk), fun k hk => (x6 107 k (by omega) (by omega) (by omega)).trans (hnm k hk)⟩, x3, x6⟩
/-- the reference as reading begins -/
def gd0 (M : Nat → Nat → Int32) (L : Nat → Nat → Int64) (s0 en : Nat) : Nat → Nat → Int32 := up2 (up2 (up2 (up2 (a_X8_all M L 111 0).1 86 32 (nI (160 * s0))) 86 33 (nI 0)) 86 34 (nI en)) 86 7 (-1)
theorem gd0_o {a j : Nat} (h : a ≠ 111) (h2 : a ≠ 86 ∨ (j ≠ 32 ∧ j ≠ 33 ∧ j ≠ 34 ∧ j ≠ 7)) : gd0 M L s0 en a j = M a j := by
  unfold gd0
  rw [up2_o _ _ (by omega), up2_o _ _ (by omega), up2_o _ _ (by omega), up2_o _ _ (by omega), all_o h]
theorem gd0_J (htc : M 86 1 = nI tc) (htc8 : tc ≤ 8) (hwc : M 86 0 = nI wc) (hwc6 : wc ≤ 6) (hwd : ∀ k, k < 28 → M 106 k = wdA k) (hnm : ∀ w, w < 4 → M 107 w = nI (nmN w)) (hs : s0 < 8) (hen : en ≤ 160) : gd0 M L s0 en 86 32 = nI (160 * s0) ∧ gd0 M L s0 en 86 34 = nI en ∧ gd0 M L s0 en 86 33 = nI 0 ∧ gd0 M L s0 en 86 1 = nI tc ∧ gd0 M L s0 en 86 0 = nI wc ∧ (∀ k, k < 28 → gd0 M L s0 en 106 k = wdA k) ∧ (∀ w, w < 4 → gd0 M L s0 en 107 w = nI (nmN w)) := by
  refine ⟨?_, ?_, ?_, (gd0_o (by decide) (by decide)).trans htc, (gd0_o (by decide) (by decide)).trans hwc, fun k hk => (gd0_o (by decide) (Or.inl (by decide))).trans (hwd k hk), fun w hw => (gd0_o (by decide) (Or.inl (by decide))).trans (hnm w hw)⟩
  · unfold gd0
    rw [up2_o _ _ (by omega), up2_o _ _ (by omega), up2_o _ _ (by omega), up2_s]
  · unfold gd0
    rw [up2_o _ _ (by omega), up2_s]
  · unfold gd0
    rw [up2_o _ _ (by omega), up2_o _ _ (by omega), up2_s]
def gdR (L : Nat → Nat → Int64) (s0 en : Nat) : Nat → Nat → Int32 → (Nat → Nat → Int32) → Nat × Int32 × (Nat → Nat → Int32)
  | 0, n, g, D => (n, g, D)
  | f + 1, n, g, D => if g = 0 then (n, g, D) else if en ≤ pN D then (n, g, D) else if (L 104 (160 * s0 + pN D)).toInt32 = 59 then gdR L s0 en f (n + 1) (itemR (up2 D 86 33 (nI (pN D + 1))) L (tX D) (wX D) s0 (pN D + 1) en).1 (itemR (up2 D 86 33 (nI (pN D + 1))) L (tX D) (wX D) s0 (pN D + 1) en).2.1 else gdR L s0 en f n 0 (up2 D 86 36 (nI (pN D)))
theorem gdR_s (f n : Nat) (g : Int32) (D : Nat → Nat → Int32) : gdR L s0 en (f + 1) n g D = if g = 0 then (n, g, D) else if en ≤ pN D then (n, g, D) else if (L 104 (160 * s0 + pN D)).toInt32 = 59 then gdR L s0 en f (n + 1) (itemR (up2 D 86 33 (nI (pN D + 1))) L (tX D) (wX D) s0 (pN D + 1) en).1 (itemR (up2 D 86 33 (nI (pN D + 1))) L (tX D) (wX D) s0 (pN D + 1) en).2.1 else gdR L s0 en f n 0 (up2 D 86 36 (nI (pN D))) := rfl
variable {f n : Nat} {g : Int32} {D : Nat → Nat → Int32}
theorem gd_stop (h : g = 0 ∨ en ≤ pN D) : gdR L s0 en f n g D = (n, g, D) := by
  cases f with
  | zero => rfl
  | succ f =>
    rw [gdR_s]
    by_cases h1 : g = 0
    · rw [if_pos h1]
    · rw [if_neg h1, if_pos (h.resolve_left h1)]
theorem gd_no (hf : 1 ≤ f) (hg : ¬ g = 0) (hp : ¬ en ≤ pN D) (hc : ¬ (L 104 (160 * s0 + pN D)).toInt32 = 59) : gdR L s0 en f n g D = gdR L s0 en (f - 1) n 0 (up2 D 86 36 (nI (pN D))) := by
  obtain ⟨f, rfl⟩ : ∃ z, f = z + 1 := ⟨f - 1, by omega⟩
  rw [gdR_s, if_neg hg, if_neg hp, if_neg hc]
  rfl
theorem gd_go (hf : 1 ≤ f) (hg : ¬ g = 0) (hp : ¬ en ≤ pN D) (hc : (L 104 (160 * s0 + pN D)).toInt32 = 59) : gdR L s0 en f n g D = gdR L s0 en (f - 1) (n + 1) (itemR (up2 D 86 33 (nI (pN D + 1))) L (tX D) (wX D) s0 (pN D + 1) en).1 (itemR (up2 D 86 33 (nI (pN D + 1))) L (tX D) (wX D) s0 (pN D + 1) en).2.1 := by
  obtain ⟨f, rfl⟩ : ∃ z, f = z + 1 := ⟨f - 1, by omega⟩
  rw [gdR_s, if_neg hg, if_neg hp, if_pos hc]
  rfl
theorem gd_it (hDb : D 86 32 = nI (160 * s0)) (hs : s0 < 8) (hDe : D 86 34 = nI en) (hen : en ≤ 160) (hp : pN D + 1 ≤ en) (hD1 : D 86 1 = nI (tX D)) (hD18 : tX D ≤ 8) (hD0 : D 86 0 = nI (wX D)) (hD06 : wX D ≤ 6) (hDw : ∀ k, k < 28 → D 106 k = wdA k) (hDn : ∀ w, w < 4 → D 107 w = nI (nmN w)) (h : ¬ (itemR (up2 D 86 33 (nI (pN D + 1))) L (tX D) (wX D) s0 (pN D + 1) en).1 = 0) : gdJ s0 en (itemR (up2 D 86 33 (nI (pN D + 1))) L (tX D) (wX D) s0 (pN D + 1) en).2.1 ∧ pN D + 1 ≤ pN (itemR (up2 D 86 33 (nI (pN D + 1))) L (tX D) (wX D) s0 (pN D + 1) en).2.1 ∧ frX (up2 D 86 33 (nI (pN D + 1))) (itemR (up2 D 86 33 (nI (pN D + 1))) L (tX D) (wX D) s0 (pN D + 1) en).2.1 :=
  item_J ((up2_o _ _ (by omega)).trans hDb) hs (up2_s _ _ _ _) ((up2_o _ _ (by omega)).trans hDe) hen hp ((up2_o _ _ (by omega)).trans hD1) hD18 ((up2_o _ _ (by omega)).trans hD0) hD06 (fun k hk => (up2_o _ _ (by omega)).trans (hDw k hk)) (fun k hk => (up2_o _ _ (by omega)).trans (hDn k hk)) h
theorem gd_fu (hDb : D 86 32 = nI (160 * s0)) (hs : s0 < 8) (hDe : D 86 34 = nI en) (hen : en ≤ 160) (hp : pN D + 1 ≤ en) (hD1 : D 86 1 = nI (tX D)) (hD18 : tX D ≤ 8) (hD0 : D 86 0 = nI (wX D)) (hD06 : wX D ≤ 6) (hDw : ∀ k, k < 28 → D 106 k = wdA k) (hDn : ∀ w, w < 4 → D 107 w = nI (nmN w)) (hf : g = 0 ∨ en - pN D < f) (hg : ¬ g = 0) : (itemR (up2 D 86 33 (nI (pN D + 1))) L (tX D) (wX D) s0 (pN D + 1) en).1 = 0 ∨ en - pN (itemR (up2 D 86 33 (nI (pN D + 1))) L (tX D) (wX D) s0 (pN D + 1) en).2.1 < f - 1 := by
  by_cases h : (itemR (up2 D 86 33 (nI (pN D + 1))) L (tX D) (wX D) s0 (pN D + 1) en).1 = 0
  · exact Or.inl h
  · have := (gd_it hDb hs hDe hen hp hD1 hD18 hD0 hD06 hDw hDn h).2.1
    have := hf.resolve_left hg
    right
    omega
def guildR (M : Nat → Nat → Int32) (L : Nat → Nat → Int64) (s1 : Int32) (tc wc : Nat) : fR :=
  if a_X8_wanted M L s1 = 0 then
    (if (gdR L s1.toNatClampNeg (M 102 s1.toNatClampNeg).toNatClampNeg 161 1 (itemR (gd0 M L s1.toNatClampNeg (M 102 s1.toNatClampNeg).toNatClampNeg) L tc wc s1.toNatClampNeg 0 (M 102 s1.toNatClampNeg).toNatClampNeg).1 (itemR (gd0 M L s1.toNatClampNeg (M 102 s1.toNatClampNeg).toNatClampNeg) L tc wc s1.toNatClampNeg 0 (M 102 s1.toNatClampNeg).toNatClampNeg).2.1).2.1 = 0 then
      (-6, noM (up2 (a_X8_all (gdR L s1.toNatClampNeg (M 102 s1.toNatClampNeg).toNatClampNeg 161 1 (itemR (gd0 M L s1.toNatClampNeg (M 102 s1.toNatClampNeg).toNatClampNeg) L tc wc s1.toNatClampNeg 0 (M 102 s1.toNatClampNeg).toNatClampNeg).1 (itemR (gd0 M L s1.toNatClampNeg (M 102 s1.toNatClampNeg).toNatClampNeg) L tc wc s1.toNatClampNeg 0 (M 102 s1.toNatClampNeg).toNatClampNeg).2.1).2.2 L 111 1).1 86 7 ((a_X8_all (gdR L s1.toNatClampNeg (M 102 s1.toNatClampNeg).toNatClampNeg 161 1 (itemR (gd0 M L s1.toNatClampNeg (M 102 s1.toNatClampNeg).toNatClampNeg) L tc wc s1.toNatClampNeg 0 (M 102 s1.toNatClampNeg).toNatClampNeg).1 (itemR (gd0 M L s1.toNatClampNeg (M 102 s1.toNatClampNeg).toNatClampNeg) L tc wc s1.toNatClampNeg 0 (M 102 s1.toNatClampNeg).toNatClampNeg).2.1).2.2 L 111 1).1 86 36)) (-6), L)
    else (nI (gdR L s1.toNatClampNeg (M 102 s1.toNatClampNeg).toNatClampNeg 161 1 (itemR (gd0 M L s1.toNatClampNeg (M 102 s1.toNatClampNeg).toNatClampNeg) L tc wc s1.toNatClampNeg 0 (M 102 s1.toNatClampNeg).toNatClampNeg).1 (itemR (gd0 M L s1.toNatClampNeg (M 102 s1.toNatClampNeg).toNatClampNeg) L tc wc s1.toNatClampNeg 0 (M 102 s1.toNatClampNeg).toNatClampNeg).2.1).1, (gdR L s1.toNatClampNeg (M 102 s1.toNatClampNeg).toNatClampNeg 161 1 (itemR (gd0 M L s1.toNatClampNeg (M 102 s1.toNatClampNeg).toNatClampNeg) L tc wc s1.toNatClampNeg 0 (M 102 s1.toNatClampNeg).toNatClampNeg).1 (itemR (gd0 M L s1.toNatClampNeg (M 102 s1.toNatClampNeg).toNatClampNeg) L tc wc s1.toNatClampNeg 0 (M 102 s1.toNatClampNeg).toNatClampNeg).2.1).2.2, L))
  else (a_X8_wanted M L s1, noM M (a_X8_wanted M L s1), L)
end IJ
