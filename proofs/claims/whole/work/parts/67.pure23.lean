/-- how many numbers follow a word -/
def nmN (w : Nat) : Nat := [7, 5, 2, 1].getD w 0
theorem nmN_le (w : Nat) : nmN w ≤ 7 := by
  unfold nmN
  match w with
  | 0 => decide
  | 1 => decide
  | 2 => decide
  | 3 => decide
  | n + 4 => exact Nat.zero_le 7
theorem so5 {w i : Nat} (hw : w < 4) (hi : ¬ nmN w ≤ i) : nI w = 1 → i < 5 := by
  intro h
  have h1 : w = 1 := (nI_eq (a := w) (b := 1) (by omega) (by omega)).mp h
  subst h1
  have : nmN 1 = 5 := rfl
  omega
/-- the place that a memory of the reference has -/
def pN (D : Nat → Nat → Int32) : Nat := (D 86 33).toNatClampNeg
theorem pN_at {M : Nat → Nat → Int32} {k : Nat} (hk : k < 2 ^ 31) : pN (up2 M 86 33 (nI k)) = k := by
  unfold pN
  rw [up2_s, nI_clamp hk]
theorem pN_up {M : Nat → Nat → Int32} {k : Nat} (hk : k < 2 ^ 31) : up2 M 86 33 (nI k) 86 33 = nI (pN (up2 M 86 33 (nI k))) := by
  rw [pN_at hk, up2_s]
theorem pN_o {M : Nat → Nat → Int32} {a j : Nat} {v : Int32} (h : a ≠ 86 ∨ j ≠ 33) : pN (up2 M a j v) = pN M := by
  unfold pN
  rw [up2_o _ _ (by omega)]
section RD
variable {M : Nat → Nat → Int32} {L : Nat → Nat → Int64} {s0 en p : Nat}
/-- a digit stands there -/
def dgP (L : Nat → Nat → Int64) (s0 en p : Nat) : Prop := p < en ∧ 48 ≤ (L 104 (160 * s0 + p)).toInt32 ∧ (L 104 (160 * s0 + p)).toInt32 ≤ 57
theorem isD_iff : a_X8_isDigit M L s0 p en = 0 ↔ ¬ dgP L s0 en p := by
  unfold a_X8_isDigit dgP
  constructor
  · intro h ⟨h1, h2, h3⟩
    rw [if_neg (by omega), if_neg (Int32.not_lt.mpr h2), if_neg (Int32.not_lt.mpr h3)] at h
    exact absurd h (by decide)
  · intro h
    split
    · rfl
    · next h1 =>
      split
      · rfl
      · next h2 =>
        split
        · rfl
        · next h3 => exact absurd ⟨by omega, Int32.not_lt.mp h2, Int32.not_lt.mp h3⟩ h
theorem reads_0 (h : ¬ dgP L s0 en p) : a_X8_reads M L s0 p en = (0, up2 (up2 M 86 35 0) 86 36 (nI p), L) := by
  unfold a_X8_reads
  rw [if_pos (isD_iff.mpr h)]
theorem rl_no {D : Nat → Nat → Int32} {f i : Nat} (h : ¬ dgP L s0 en (p + i)) : lp_X8_reads_23 M L s0 p en f i D = (1, D, L) := by
  cases f with
  | zero => rfl
  | succ f => rw [lp_X8_reads_23_s, if_pos (isD_iff.mpr h)]
theorem rl_go {D : Nat → Nat → Int32} {f i : Nat} (h : dgP L s0 en (p + i)) : lp_X8_reads_23 M L s0 p en (f + 1) i D = lp_X8_reads_23 M L s0 p en f (i + 1) (up2 (up2 D 86 35 (((10 * (D 86 35)) + ((L 104 ((160 * s0) + (p + i))).toInt32)) - 48)) 86 33 (nI ((p + i) + 1))) := by
  rw [lp_X8_reads_23_s, if_neg (fun q => isD_iff.mp q h)]
theorem reads_1 (h : dgP L s0 en p) (h1 : ¬ dgP L s0 en (p + 1)) : a_X8_reads M L s0 p en = (1, up2 (up2 (up2 M 86 35 0) 86 35 ((L 104 (160 * s0 + p)).toInt32 - 48)) 86 33 (nI (p + 1)), L) := by
  unfold a_X8_reads
  rw [if_neg (fun q => isD_iff.mp q h), rl_go (by exact h), rl_no h1, up2_s, Int32.mul_zero, Int32.zero_add]
  rfl
theorem reads_2 (h : dgP L s0 en p) (h1 : dgP L s0 en (p + 1)) : a_X8_reads M L s0 p en = (1, up2 (up2 (up2 (up2 (up2 M 86 35 0) 86 35 ((L 104 (160 * s0 + p)).toInt32 - 48)) 86 33 (nI (p + 1))) 86 35 (10 * ((L 104 (160 * s0 + p)).toInt32 - 48) + (L 104 (160 * s0 + (p + 1))).toInt32 - 48)) 86 33 (nI (p + 2)), L) := by
  unfold a_X8_reads
  rw [if_neg (fun q => isD_iff.mp q h), rl_go (by exact h), rl_go (by exact h1), lp_X8_reads_23_0, up2_s, Int32.mul_zero, Int32.zero_add, up2_o _ _ (Or.inr (by decide)), up2_s]
  rfl
theorem rd_fr {a j : Nat} (h : a ≠ 86 ∨ (j ≠ 33 ∧ j ≠ 35 ∧ j ≠ 36)) : (a_X8_reads M L s0 p en).2.1 a j = M a j := by
  by_cases h0 : dgP L s0 en p
  · by_cases h1 : dgP L s0 en (p + 1)
    · rw [reads_2 h0 h1]
      dsimp only
      rw [up2_o _ _ (by omega), up2_o _ _ (by omega), up2_o _ _ (by omega), up2_o _ _ (by omega), up2_o _ _ (by omega)]
    · rw [reads_1 h0 h1]
      dsimp only
      rw [up2_o _ _ (by omega), up2_o _ _ (by omega), up2_o _ _ (by omega)]
  · rw [reads_0 h0]
    dsimp only
    rw [up2_o _ _ (by omega), up2_o _ _ (by omega)]
theorem dg_v {c : Int32} (h : 48 ≤ c ∧ c ≤ 57) : 0 ≤ (c - 48).toInt ∧ (c - 48).toInt ≤ 9 := by
  have h1 := Int32.le_iff_toInt_le.mp h.1
  have h2 := Int32.le_iff_toInt_le.mp h.2
  have e1 : (48 : Int32).toInt = 48 := rfl
  have e2 : (57 : Int32).toInt = 57 := rfl
  rw [ti_sub (by omega)]
  omega
theorem dg_w {c d : Int32} (h : 48 ≤ c ∧ c ≤ 57) (h1 : 48 ≤ d ∧ d ≤ 57) : 0 ≤ 10 * (c - 48) + d - 48 := by
  have a1 := dg_v h
  have b1 := Int32.le_iff_toInt_le.mp h1.1
  have b2 := Int32.le_iff_toInt_le.mp h1.2
  have e1 : (48 : Int32).toInt = 48 := rfl
  have e2 : (57 : Int32).toInt = 57 := rfl
  have e0 : (0 : Int32).toInt = 0 := rfl
  have e3 : (10 * (c - 48)).toInt = 10 * (c - 48).toInt := by
    rw [Int32.toInt_mul]
    show (10 * (c - 48).toInt).bmod _ = _
    rw [Int.bmod_eq_of_le (by omega) (by omega)]
  rw [Int32.le_iff_toInt_le, e0, ti_sub (by rw [ti_add (by omega)]; omega), ti_add (by omega)]
  omega
theorem rd_sp (hX : M 86 33 = nI p) (hen : en ≤ 160) (hpe : p ≤ en) (h : ¬ (a_X8_reads M L s0 p en).1 = 0) : (a_X8_reads M L s0 p en).2.1 86 33 = nI (pN (a_X8_reads M L s0 p en).2.1) ∧ pN (a_X8_reads M L s0 p en).2.1 ≤ en ∧ p < pN (a_X8_reads M L s0 p en).2.1 ∧ 0 ≤ (a_X8_reads M L s0 p en).2.1 86 35 := by
  by_cases h0 : dgP L s0 en p
  · by_cases h1 : dgP L s0 en (p + 1)
    · rw [reads_2 h0 h1]
      dsimp only
      have := h1.1
      rw [pN_at (by omega), up2_s, up2_o _ _ (Or.inr (by decide)), up2_s]
      exact ⟨rfl, by omega, by omega, dg_w h0.2 h1.2⟩
    · rw [reads_1 h0 h1]
      dsimp only
      have := h0.1
      have e0 : (0 : Int32).toInt = 0 := rfl
      rw [pN_at (by omega), up2_s, up2_o _ _ (Or.inr (by decide)), up2_s]
      exact ⟨rfl, by omega, by omega, by rw [Int32.le_iff_toInt_le, e0]; exact (dg_v h0.2).1⟩
  · rw [reads_0 h0] at h
    exact absurd rfl h
theorem mt_cond {c q n k : Nat} (h : mtF M L s0 en c q n = k) : ∀ i, i < k → (q + i < en ∧ ¬ M 106 (c + i) = 0 ∧ (L 104 (160 * s0 + (q + i))).toInt32 = M 106 (c + i)) := by
  induction n generalizing k with
  | zero => 
    intro i hi
    have : k = 0 := h.symm
    omega
  | succ n ih =>
    rw [mt_s] at h
    split at h
    · next h1 =>
      intro i hi
      by_cases e : i = n
      · subst e; exact h1.2
      · exact ih h1.1 i (by omega)
    · exact ih h
theorem mt_ge {c q i n : Nat} (h : mtF M L s0 en c q i = i) (hn : i ≤ n) : i ≤ mtF M L s0 en c q n := by
  induction n with
  | zero => omega
  | succ n ih =>
    by_cases e : i = n + 1
    · subst e; rw [h]; exact Nat.le_refl _
    · have := ih (by omega)
      rw [mt_s]
      split <;> omega
theorem mt_en {c q n : Nat} (hq : q ≤ en) : q + mtF M L s0 en c q n ≤ en := by
  by_cases h : mtF M L s0 en c q n = 0
  · omega
  · have := (mt_cond (M := M) (L := L) (s0 := s0) (en := en) (c := c) (q := q) (n := n) rfl (mtF M L s0 en c q n - 1) (by omega)).1
    omega
theorem st_lp {w : Int32} {w0 : Nat} (hwd : ∀ k, k < 28 → M 106 k = wdA k) (hw : w0 ≤ 1) : ∀ f i, i + f = 6 + w0 → i ≤ 5 + w0 → mtF M L s0 en (7 * w0) p i = i → (¬ lp_X8_stands_37 M L w s0 p en w0 f i = 0 ↔ 5 + w0 ≤ mtF M L s0 en (7 * w0) p 8) := by
  intro f
  induction f with
  | zero => intro i h1 h2; omega
  | succ f ih =>
    intro i h1 h2 h3
    have h5 := wd_n hwd hw (i := i) (by omega)
    have hc : M 106 (7 * w0 + i) ≤ 32 ↔ i = 5 + w0 := by
      rw [hwd _ (by omega)]
      exact (show ∀ w, w < 2 → ∀ i, i < 8 → i ≤ 5 + w → (wdA (7 * w + i) ≤ 32 ↔ i = 5 + w) by decide) w0 (by omega) i (by omega) h2
    have h0 : i ≤ 5 + w0 → ¬ M 106 (7 * w0 + i) = 0 := by
      intro _
      rw [hwd _ (by omega)]
      exact (show ∀ w, w < 2 → ∀ i, i < 8 → i ≤ 5 + w → ¬ wdA (7 * w + i) = 0 by decide) w0 (by omega) i (by omega) h2
    rw [lp_X8_stands_37_s]
    by_cases hi : i = 5 + w0
    · rw [if_pos (hc.mpr hi), if_neg (Int32.not_lt.mpr (hc.mpr hi))]
      exact ⟨fun _ => by rw [← hi]; exact mt_ge h3 (by omega), fun _ => by decide⟩
    · have hg : 32 < M 106 (7 * w0 + i) := Int32.not_le.mp (fun q => hi (hc.mp q))
      rw [if_neg (fun q => hi (hc.mp q)), if_pos hg]
      by_cases h6 : en ≤ p + i
      · rw [if_pos h6, mt_K h3 (fun q => absurd q.1 (by omega)) (by omega)]
        exact ⟨fun q => absurd rfl q, fun q => absurd q (by omega)⟩
      · rw [if_neg h6]
        by_cases h7 : (L 104 (160 * s0 + (p + i))).toInt32 = M 106 (7 * w0 + i)
        · rw [if_pos h7]
          exact ih (i + 1) (by omega) (by omega) (mt_go h3 ⟨by omega, h0 h2, h7⟩)
        · rw [if_neg h7, mt_K h3 (fun q => h7 q.2.2) (by omega)]
          exact ⟨fun q => absurd rfl q, fun q => absurd q (by omega)⟩
theorem st_iff {w : Int32} {w0 : Nat} (hwd : ∀ k, k < 28 → M 106 k = wdA k) (hw : w0 ≤ 1) : ¬ a_X8_stands M L w s0 p en w0 = 0 ↔ 5 + w0 ≤ mtF M L s0 en (7 * w0) p 8 := st_lp hwd hw (6 + w0) 0 (by omega) (by omega) rfl
/-- the word found -/
def wdx (M : Nat → Nat → Int32) (L : Nat → Nat → Int64) (s0 p en : Nat) : Nat := (wordV M L s0 p en).1.toNatClampNeg
theorem wordV_w (hpe : p ≤ en) (h : ¬ (wordV M L s0 p en).1 = -1) : (wordV M L s0 p en).1 = nI (wdx M L s0 p en) ∧ wdx M L s0 p en < 4 ∧ mtF M L s0 en (wdS (wdx M L s0 p en)) p 8 = wdL (wdx M L s0 p en) ∧ (wordV M L s0 p en).2 = up2 M 86 33 (nI (p + wdL (wdx M L s0 p en))) ∧ p + wdL (wdx M L s0 p en) ≤ en := by
  have key : ∀ w, w < 4 → mtF M L s0 en (wdS w) p 8 = wdL w → wordV M L s0 p en = (nI w, up2 M 86 33 (nI (p + wdL w))) → (wordV M L s0 p en).1 = nI (wdx M L s0 p en) ∧ wdx M L s0 p en < 4 ∧ mtF M L s0 en (wdS (wdx M L s0 p en)) p 8 = wdL (wdx M L s0 p en) ∧ (wordV M L s0 p en).2 = up2 M 86 33 (nI (p + wdL (wdx M L s0 p en))) ∧ p + wdL (wdx M L s0 p en) ≤ en := by
    intro w hw hk e
    have ex : wdx M L s0 p en = w := by unfold wdx; rw [e]; exact nI_clamp (by omega)
    rw [ex, e]
    exact ⟨rfl, hw, hk, rfl, by rw [← hk]; exact mt_en hpe⟩
  by_cases h0 : mtF M L s0 en (wdS 0) p 8 = wdL 0
  · exact key 0 (by decide) h0 (by unfold wordV; rw [if_pos h0])
  by_cases h1 : mtF M L s0 en (wdS 1) p 8 = wdL 1
  · exact key 1 (by decide) h1 (by unfold wordV; rw [if_neg h0, if_pos h1])
  by_cases h2 : mtF M L s0 en (wdS 2) p 8 = wdL 2
  · exact key 2 (by decide) h2 (by unfold wordV; rw [if_neg h0, if_neg h1, if_pos h2])
  by_cases h3 : mtF M L s0 en (wdS 3) p 8 = wdL 3
  · exact key 3 (by decide) h3 (by unfold wordV; rw [if_neg h0, if_neg h1, if_neg h2, if_pos h3])
  · exact absurd (by unfold wordV; rw [if_neg h0, if_neg h1, if_neg h2, if_neg h3]) h
theorem st_add0 {tc wc : Nat} (hj : ¬ ((¬ a_X8_stands M L 0 s0 p en 0 = 0 ∧ tc = 8) ∨ (¬ a_X8_stands M L 1 s0 p en 1 = 0 ∧ wc = 6))) (hwd : ∀ k, k < 28 → M 106 k = wdA k) (h9 : (wordV M L s0 p en).1 = nI (wdx M L s0 p en) ∧ wdx M L s0 p en < 4 ∧ mtF M L s0 en (wdS (wdx M L s0 p en)) p 8 = wdL (wdx M L s0 p en) ∧ (wordV M L s0 p en).2 = up2 M 86 33 (nI (p + wdL (wdx M L s0 p en))) ∧ p + wdL (wdx M L s0 p en) ≤ en) (h0 : wdx M L s0 p en = 0) (ht : tc ≤ 8) : tc < 8 := by
  have hk := h9.2.2.1
  rw [h0] at hk
  have : ¬ a_X8_stands M L 0 s0 p en 0 = 0 := (st_iff hwd (by decide)).mpr (by rw [show 7 * 0 = wdS 0 from rfl, hk]; decide)
  rcases Nat.lt_or_ge tc 8 with q | q
  · exact q
  · exact absurd (Or.inl ⟨this, by omega⟩) hj
theorem st_add1 {tc wc : Nat} (hj : ¬ ((¬ a_X8_stands M L 0 s0 p en 0 = 0 ∧ tc = 8) ∨ (¬ a_X8_stands M L 1 s0 p en 1 = 0 ∧ wc = 6))) (hwd : ∀ k, k < 28 → M 106 k = wdA k) (h9 : (wordV M L s0 p en).1 = nI (wdx M L s0 p en) ∧ wdx M L s0 p en < 4 ∧ mtF M L s0 en (wdS (wdx M L s0 p en)) p 8 = wdL (wdx M L s0 p en) ∧ (wordV M L s0 p en).2 = up2 M 86 33 (nI (p + wdL (wdx M L s0 p en))) ∧ p + wdL (wdx M L s0 p en) ≤ en) (h0 : wdx M L s0 p en = 1) (ht : wc ≤ 6) : wc < 6 := by
  have hk := h9.2.2.1
  rw [h0] at hk
  have : ¬ a_X8_stands M L 1 s0 p en 1 = 0 := (st_iff hwd (by decide)).mpr (by rw [show 7 * 1 = wdS 1 from rfl, hk]; decide)
  rcases Nat.lt_or_ge wc 6 with q | q
  · exact q
  · exact absurd (Or.inr ⟨this, by omega⟩) hj
theorem dt_s {D Y : Nat → Nat → Int32} {i w : Nat} (hw : w = 2) (hso : ¬ a_X8_isSo Y L (nI w) (nI i) i = 0) (hn : 0 ≤ Y 86 35) (hD : 1 ≤ i → 0 ≤ D 110 0 ∧ D 110 0 < D 86 0) (e0 : Y 86 0 = D 86 0) (e1 : Y 110 0 = D 110 0) : 0 ≤ up2 Y 110 i (Y 86 35) 110 0 ∧ up2 Y 110 i (Y 86 35) 110 0 < up2 Y 110 i (Y 86 35) 86 0 := by
  rw [up2_o (a := 86) _ _ (Or.inl (by decide))]
  by_cases hi : i = 0
  · subst hi
    rw [up2_s]
    refine ⟨hn, ?_⟩
    subst hw
    unfold a_X8_isSo at hso
    rw [if_neg (by decide), if_neg (by decide), if_pos (by decide), if_pos (by decide)] at hso
    split at hso
    · exact absurd rfl hso
    · next h => exact Int32.not_le.mp h
  · rw [up2_o _ _ (Or.inr (by omega)), e0, e1]
    exact hD (by omega)
end RD
