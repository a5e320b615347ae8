/-! a guild read from a text, first: letters and numbers, class and reference -/
section GR
variable {lt : Nat → Int32} {N : Nat → Nat → Int32} {K : Nat → Nat → Int64} {s0 en p tc wc : Nat}
/-- the letters are the text's -/
def ltP (lt : Nat → Int32) (K : Nat → Nat → Int64) (s0 en : Nat) : Prop := ∀ q, q < en → lt q = (K 104 (160 * s0 + q)).toInt32
theorem let_in (h : ltP lt K s0 en) {p : Nat} (hp : p < en) : letF lt en p = (K 104 (160 * s0 + p)).toInt32 := by
  unfold letF
  rw [if_pos hp, h p hp]
theorem let_eq (h : ltP lt K s0 en) {p : Nat} {c : Int32} (hc : ¬ c = 0) : letF lt en p = c ↔ (p < en ∧ (K 104 (160 * s0 + p)).toInt32 = c) := by
  constructor
  · intro q
    have hp : p < en := letF_lt (fun z => hc (q.symm.trans z))
    exact ⟨hp, (let_in h hp).symm.trans q⟩
  · intro ⟨hp, q⟩
    rw [let_in h hp, q]
theorem dg_iff (h : ltP lt K s0 en) {p : Nat} : dgP K s0 en p ↔ (48 ≤ letF lt en p ∧ letF lt en p ≤ 57) := by
  constructor
  · intro ⟨hp, a, b⟩
    rw [let_in h hp]
    exact ⟨a, b⟩
  · intro q
    have hp : p < en := letF_lt (isD_ne q)
    rw [let_in h hp] at q
    exact ⟨hp, q⟩
theorem sg_f {c : Int32} {q : Nat} {f : Int32} (h : ¬ f = -1) : signF lt en c (q, f) = (q, f) := if_neg h
theorem sg_y {c : Int32} {q : Nat} (h : letF lt en q = c) : signF lt en c (q, -1) = (q + 1, -1) := (if_pos rfl).trans (if_pos h)
theorem sg_n {c : Int32} {q : Nat} (h : ¬ letF lt en q = c) : signF lt en c (q, -1) = (q, nI q) := (if_pos rfl).trans (if_neg h)
theorem num_f {lo hi : Int32} {q : Nat} {f : Int32} (h : ¬ f = -1) : numF lt en lo hi (q, f) = (-1, (q, f)) := numF_1 (sg_f h) h
theorem dg_10 (a b : Int32) : 10 * (a - 48) + b - 48 = (a - 48) * 10 + (b - 48) := by
  rw [Int32.mul_comm, Int32.sub_eq_add_neg (a := (a - 48) * 10 + b), Int32.sub_eq_add_neg (a := b), Int32.add_assoc]
theorem num_rd (h : ltP lt K s0 en) {lo hi : Int32} {s : Nat × Int32} {p : Nat} (es : signF lt en 32 s = (p, -1)) (hen : en ≤ 160) {D : Nat → Nat → Int32} :
    ((a_X8_reads D K s0 p en).1 = 0 ∧ (a_X8_reads D K s0 p en).2.1 86 36 = nI p ∧ numF lt en lo hi s = (-1, (p, nI p))) ∨
    (¬ (a_X8_reads D K s0 p en).1 = 0 ∧ numF lt en lo hi s = if lo ≤ (a_X8_reads D K s0 p en).2.1 86 35 ∧ (a_X8_reads D K s0 p en).2.1 86 35 ≤ hi then ((a_X8_reads D K s0 p en).2.1 86 35, (pN (a_X8_reads D K s0 p en).2.1, -1)) else (-1, (pN (a_X8_reads D K s0 p en).2.1, nI p))) := by
  by_cases h0 : dgP K s0 en p
  · right
    have i0 := (dg_iff h).mp h0
    have l0 := let_in h h0.1
    have hp0 := h0.1
    by_cases h1 : dgP K s0 en (p + 1)
    · have i1 := (dg_iff h).mp h1
      have l1 := let_in h h1.1
      have hp1 := h1.1
      have e1 : (a_X8_reads D K s0 p en).1 = 1 := by rw [reads_2 h0 h1]
      have e2 : (a_X8_reads D K s0 p en).2.1 86 35 = (letF lt en p - 48) * 10 + (letF lt en (p + 1) - 48) := by
        rw [reads_2 h0 h1]
        dsimp only
        rw [up2_o _ _ (Or.inr (by decide)), up2_s, ← l0, ← l1, dg_10]
      have e3 : pN (a_X8_reads D K s0 p en).2.1 = p + 2 := by
        rw [reads_2 h0 h1]
        exact pN_at (by omega)
      rw [e1, e2, e3]
      refine ⟨by decide, ?_⟩
      split
      · next c => exact numF_3 es i0 i1 c
      · next c => exact numF_4 es i0 i1 c
    · have i1 : ¬ (48 ≤ letF lt en (p + 1) ∧ letF lt en (p + 1) ≤ 57) := fun z => h1 ((dg_iff h).mpr z)
      have e1 : (a_X8_reads D K s0 p en).1 = 1 := by rw [reads_1 h0 h1]
      have e2 : (a_X8_reads D K s0 p en).2.1 86 35 = letF lt en p - 48 := by
        rw [reads_1 h0 h1]
        dsimp only
        rw [up2_o _ _ (Or.inr (by decide)), up2_s, ← l0]
      have e3 : pN (a_X8_reads D K s0 p en).2.1 = p + 1 := by
        rw [reads_1 h0 h1]
        exact pN_at (by omega)
      rw [e1, e2, e3]
      refine ⟨by decide, ?_⟩
      split
      · next c => exact numF_5 es i0 i1 c
      · next c => exact numF_6 es i0 i1 c
  · left
    rw [reads_0 h0]
    refine ⟨rfl, by dsimp only; exact up2_s _ _ _ _, numF_2 es (fun z => h0 ((dg_iff h).mpr z))⟩
/-- what numbers read leave alone -/
def frZ (D E : Nat → Nat → Int32) : Prop := ∀ a j, a ≠ 110 → (a ≠ 86 ∨ (j ≠ 33 ∧ j ≠ 35 ∧ j ≠ 36)) → E a j = D a j
theorem frZ.rf {D : Nat → Nat → Int32} : frZ D D := fun _ _ _ _ => rfl
theorem frZ.tr {A B C : Nat → Nat → Int32} (h1 : frZ A B) (h2 : frZ B C) : frZ A C := fun a j q1 q2 => (h2 a j q1 q2).trans (h1 a j q1 q2)
/-- a number's turn, the blank passed -/
theorem lp_core (h : ltP lt K s0 en) {R : fR} {g : (Nat → Nat → Int32) → fR} {w : Int32} {i p : Nat} {s : Nat × Int32} {lo hi : Int32} {D D' : Nat → Nat → Int32} (hen : en ≤ 160) (hp : p ≤ en) (es : signF lt en 32 s = (p, -1)) (hX : D' 86 33 = nI p)
    (hD : ∀ a j, (a ≠ 86 ∨ j ≠ 33) → D' a j = D a j)
    (hR : R = if (a_X8_reads D' K s0 p en).1 = 0 then (0, (a_X8_reads D' K s0 p en).2.1, K) else if a_X8_isSo (a_X8_reads D' K s0 p en).2.1 K w (nI i) i = 0 then (0, up2 (a_X8_reads D' K s0 p en).2.1 86 36 (nI p), K) else g (up2 (a_X8_reads D' K s0 p en).2.1 110 i ((a_X8_reads D' K s0 p en).2.1 86 35)))
    (hso : ∀ Y : Nat → Nat → Int32, (∀ a j, (a ≠ 86 ∨ (j ≠ 33 ∧ j ≠ 35 ∧ j ≠ 36)) → Y a j = D a j) → 0 ≤ Y 86 35 → (a_X8_isSo Y K w (nI i) i = 0 ↔ ¬ (lo ≤ Y 86 35 ∧ Y 86 35 ≤ hi))) :
    (∃ E q, (numF lt en lo hi s).2 = (q, -1) ∧ R = g E ∧ E 86 33 = nI q ∧ q ≤ en ∧ p < q ∧ E 110 i = (numF lt en lo hi s).1 ∧ (∀ j, j ≠ i → E 110 j = D 110 j) ∧ frZ D E ∧ lo ≤ (numF lt en lo hi s).1 ∧ (numF lt en lo hi s).1 ≤ hi) ∨
    (∃ E q f, (numF lt en lo hi s).2 = (q, f) ∧ ¬ f = -1 ∧ R = (0, E, K) ∧ E 86 36 = f ∧ frZ D E) := by
  have fr : ∀ a j, (a ≠ 86 ∨ (j ≠ 33 ∧ j ≠ 35 ∧ j ≠ 36)) → (a_X8_reads D' K s0 p en).2.1 a j = D a j := fun a j q => (rd_fr q).trans (hD a j (by omega))
  rcases num_rd h es hen (lo := lo) (hi := hi) (D := D') with ⟨n1, n2, n3⟩ | ⟨n1, n3⟩
  · right
    rw [n3, hR, if_pos n1]
    exact ⟨_, p, nI p, rfl, nI_neg1 p (by omega), rfl, n2, fun a j _ q => fr a j q⟩
  · obtain ⟨m1, m2, m3, m4⟩ := rd_sp hX hen hp n1
    have so := hso _ fr m4
    by_cases c : lo ≤ (a_X8_reads D' K s0 p en).2.1 86 35 ∧ (a_X8_reads D' K s0 p en).2.1 86 35 ≤ hi
    · left
      rw [n3, if_pos c, hR, if_neg n1, if_neg (fun z => so.mp z c)]
      exact ⟨_, _, rfl, rfl, (up2_o _ _ (by omega)).trans m1, m2, m3, up2_s _ _ _ _, fun j q => (up2_o _ _ (by omega)).trans (fr _ _ (by omega)), fun a j q1 q2 => (up2_o _ _ (by omega)).trans (fr a j q2), c.1, c.2⟩
    · right
      rw [n3, if_neg c, hR, if_neg n1, if_pos (so.mpr c)]
      exact ⟨_, _, nI p, rfl, nI_neg1 p (by omega), rfl, up2_s _ _ _ _, fun a j q1 q2 => (up2_o _ _ (by omega)).trans (fr a j q2)⟩
theorem lp_num (h : ltP lt K s0 en) {pl i f p : Nat} {s : Nat × Int32} {lo hi : Int32} {D : Nat → Nat → Int32} (hen : en ≤ 160) (hp : p ≤ en)
    (hs : (i = 0 ∧ signF lt en 32 s = (p, -1)) ∨ (1 ≤ i ∧ s = (p, -1))) (hX : D 86 33 = nI p)
    (hso : ∀ Y : Nat → Nat → Int32, (∀ a j, (a ≠ 86 ∨ (j ≠ 33 ∧ j ≠ 35 ∧ j ≠ 36)) → Y a j = D a j) → 0 ≤ Y 86 35 → (a_X8_isSo Y K (nI (wdx N K s0 pl en)) (nI i) i = 0 ↔ ¬ (lo ≤ Y 86 35 ∧ Y 86 35 ≤ hi))) :
    (∃ E q, (numF lt en lo hi s).2 = (q, -1) ∧ lp_X8_item_57 N K tc wc s0 pl en (f + 1) i D = lp_X8_item_57 N K tc wc s0 pl en f (i + 1) E ∧ E 86 33 = nI q ∧ q ≤ en ∧ p ≤ q ∧ E 110 i = (numF lt en lo hi s).1 ∧ (∀ j, j ≠ i → E 110 j = D 110 j) ∧ frZ D E ∧ lo ≤ (numF lt en lo hi s).1 ∧ (numF lt en lo hi s).1 ≤ hi) ∨
    (∃ E q f', (numF lt en lo hi s).2 = (q, f') ∧ ¬ f' = -1 ∧ lp_X8_item_57 N K tc wc s0 pl en (f + 1) i D = (0, E, K) ∧ E 86 36 = f' ∧ frZ D E) := by
  have hpN : pN D = p := by unfold pN; rw [hX, nI_clamp (by omega)]
  rcases hs with ⟨rfl, es⟩ | ⟨hi1, rfl⟩
  · rcases lp_core h (R := lp_X8_item_57 N K tc wc s0 pl en (f + 1) 0 D) (g := fun E => lp_X8_item_57 N K tc wc s0 pl en f (0 + 1) E) (w := nI (wdx N K s0 pl en)) (i := 0) hen hp es hX (fun _ _ _ => rfl) (by rw [lp_X8_item_57_s, if_pos (Nat.le_refl 0), hpN]) hso with ⟨E, q, a1, a2, a3, a4, a5, a6⟩ | z
    · exact Or.inl ⟨E, q, a1, a2, a3, a4, by omega, a6⟩
    · exact Or.inr z
  · have st : lp_X8_item_57 N K tc wc s0 pl en (f + 1) i D = if en ≤ p then (0, up2 D 86 36 (nI p), K) else if (K 104 (160 * s0 + p)).toInt32 = 32 then (if (a_X8_reads (up2 D 86 33 (nI (p + 1))) K s0 (p + 1) en).1 = 0 then (0, (a_X8_reads (up2 D 86 33 (nI (p + 1))) K s0 (p + 1) en).2.1, K) else if a_X8_isSo (a_X8_reads (up2 D 86 33 (nI (p + 1))) K s0 (p + 1) en).2.1 K (nI (wdx N K s0 pl en)) (nI i) i = 0 then (0, up2 (a_X8_reads (up2 D 86 33 (nI (p + 1))) K s0 (p + 1) en).2.1 86 36 (nI (p + 1)), K) else lp_X8_item_57 N K tc wc s0 pl en f (i + 1) (up2 (a_X8_reads (up2 D 86 33 (nI (p + 1))) K s0 (p + 1) en).2.1 110 i ((a_X8_reads (up2 D 86 33 (nI (p + 1))) K s0 (p + 1) en).2.1 86 35))) else (0, up2 D 86 36 (nI p), K) := by
      rw [lp_X8_item_57_s, if_neg (show ¬ i ≤ 0 by omega), hpN]
    have no : ¬ letF lt en p = 32 → lp_X8_item_57 N K tc wc s0 pl en (f + 1) i D = (0, up2 D 86 36 (nI p), K) → (∃ E q f', (numF lt en lo hi (p, -1)).2 = (q, f') ∧ ¬ f' = -1 ∧ lp_X8_item_57 N K tc wc s0 pl en (f + 1) i D = (0, E, K) ∧ E 86 36 = f' ∧ frZ D E) := by
      intro c e
      rw [e, numF_1 (sg_n c) (nI_neg1 p (by omega))]
      exact ⟨_, p, nI p, rfl, nI_neg1 p (by omega), rfl, up2_s _ _ _ _, fun a j _ q => up2_o _ _ (by omega)⟩
    by_cases h1 : en ≤ p
    · exact Or.inr (no (fun z => absurd ((let_eq h (by decide)).mp z).1 (by omega)) (by rw [st, if_pos h1]))
    · by_cases h2 : (K 104 (160 * s0 + p)).toInt32 = 32
      · rcases lp_core h (R := lp_X8_item_57 N K tc wc s0 pl en (f + 1) i D) (g := fun E => lp_X8_item_57 N K tc wc s0 pl en f (i + 1) E) (w := nI (wdx N K s0 pl en)) (i := i) (D' := up2 D 86 33 (nI (p + 1))) hen (show p + 1 ≤ en by omega) (sg_y ((let_eq h (by decide)).mpr ⟨by omega, h2⟩)) (up2_s _ _ _ _) (fun a j q => up2_o _ _ q) (by rw [st, if_neg h1, if_pos h2]) hso with ⟨E, q, a1, a2, a3, a4, a5, a6⟩ | z
        · exact Or.inl ⟨E, q, a1, a2, a3, a4, by omega, a6⟩
        · exact Or.inr z
      · exact Or.inr (no (fun z => h2 ((let_eq h (by decide)).mp z).2) (by rw [st, if_neg h1, if_neg h2]))
/-- the words' letters -/
theorem ch_wd (hwd : ∀ k, k < 28 → N 106 k = wdA k) {iw n : Nat} (hw : iw < 4) (hn : n < fwl.getD iw 0) : N 106 (wdS iw + n) = chrF iw n := by
  have h := (show ∀ iw, iw < 4 → ∀ n, n < 7 → n < fwl.getD iw 0 → (wdS iw + n < 28 ∧ wdA (wdS iw + n) = chrF iw n) by decide) iw hw n (by
    have := (show ∀ iw, iw < 4 → fwl.getD iw 0 < 7 by decide) iw hw
    omega) hn
  rw [hwd _ h.1, h.2]
theorem fw_L {iw : Nat} (hw : iw < 4) : wdL iw = fwl.getD iw 0 + 1 ∧ 4 ≤ fwl.getD iw 0 ∧ fwl.getD iw 0 ≤ 6 := (show ∀ iw, iw < 4 → (wdL iw = fwl.getD iw 0 + 1 ∧ 4 ≤ fwl.getD iw 0 ∧ fwl.getD iw 0 ≤ 6) by decide) iw hw
theorem ch_bl (hwd : ∀ k, k < 28 → N 106 k = wdA k) {iw : Nat} (hw : iw < 4) : N 106 (wdS iw + fwl.getD iw 0) = 32 := by
  have h := (show ∀ iw, iw < 4 → (wdS iw + fwl.getD iw 0 < 28 ∧ wdA (wdS iw + fwl.getD iw 0) = 32) by decide) iw hw
  rw [hwd _ h.1, h.2]
theorem mt_lo {c k : Nat} (h : k ≤ mtF N K s0 en c p 8) : mtF N K s0 en c p k = k := by
  induction k with
  | zero => rfl
  | succ k ih => exact mt_go (ih (by omega)) (mt_cond (n := 8) rfl k (by omega))
theorem mt_hi {c n : Nat} (h : mtF N K s0 en c p 8 ≤ n) (h8 : mtF N K s0 en c p 8 < 8) : mtF N K s0 en c p n = mtF N K s0 en c p 8 :=
  mt_K (mt_lo (Nat.le_refl _)) (fun z => by
    have := mt_ge (n := 8) (mt_go (mt_lo (Nat.le_refl _)) z) (by omega)
    omega) h
theorem mt_L (hwd : ∀ k, k < 28 → N 106 k = wdA k) {iw : Nat} (hw : iw < 4) : mtF N K s0 en (wdS iw) p 8 ≤ wdL iw := by
  by_cases h : mtF N K s0 en (wdS iw) p 8 ≤ wdL iw
  · exact h
  · exact absurd ((wd_z4 hwd hw (Nat.le_refl _)).mpr rfl) (mt_cond (L := K) (s0 := s0) (en := en) (q := p) (n := 8) rfl (wdL iw) (by omega)).2.1
theorem letters_mt (h : ltP lt K s0 en) (hen : en ≤ 160) (hp : p ≤ en) {iw : Nat} (hw : iw < 4) (hwd : ∀ k, k < 28 → N 106 k = wdA k) : ∀ n, n ≤ fwl.getD iw 0 → lettersF lt en iw (p, -1) n = if mtF N K s0 en (wdS iw) p n = n then (p + n, -1) else (p + mtF N K s0 en (wdS iw) p n, nI (p + mtF N K s0 en (wdS iw) p n)) := by
  intro n
  induction n with
  | zero => intro _; exact (if_pos rfl).symm
  | succ n ih =>
    intro hn
    have s : lettersF lt en iw (p, -1) (n + 1) = signF lt en (chrF iw n) (lettersF lt en iw (p, -1) n) := by
      unfold lettersF
      rw [itF_s]
    have ec : N 106 (wdS iw + n) = chrF iw n := ch_wd hwd hw hn
    have c0 := chrF_ne hw hn
    have ml := mt_le (M := N) (L := K) (s0 := s0) (en := en) (c := wdS iw) (q := p) n
    have me := mt_en (M := N) (L := K) (s0 := s0) (en := en) (c := wdS iw) (q := p) (n := n) hp
    rw [s, ih (by omega)]
    by_cases e : mtF N K s0 en (wdS iw) p n = n
    · rw [if_pos e]
      by_cases q : letF lt en (p + n) = chrF iw n
      · have q' := (let_eq h c0).mp q
        rw [mt_go e ⟨q'.1, by rw [ec]; exact c0, q'.2.trans ec.symm⟩, if_pos rfl]
        exact sg_y q
      · rw [mt_K e (fun z => q ((let_eq h c0).mpr ⟨z.1, z.2.2.trans ec⟩)) (Nat.le_succ n), if_neg (show ¬ n = n + 1 by omega)]
        exact sg_n q
    · have e2 : mtF N K s0 en (wdS iw) p (n + 1) = mtF N K s0 en (wdS iw) p n := by rw [mt_s, if_neg (fun z => e z.1)]
      rw [if_neg e, e2, if_neg (show ¬ mtF N K s0 en (wdS iw) p n = n + 1 by omega)]
      exact sg_f (nI_neg1 _ (by omega))
theorem words_mt (h : ltP lt K s0 en) (hen : en ≤ 160) (hp : p ≤ en) {iw : Nat} (hw : iw < 4) (hwd : ∀ k, k < 28 → N 106 k = wdA k) {rm : Int32} : wordsF lt en iw rm (p, -1) = if fwl.getD iw 0 ≤ mtF N K s0 en (wdS iw) p 8 then (if rm = 0 then (p + fwl.getD iw 0, nI p) else (p + fwl.getD iw 0, -1)) else (p + mtF N K s0 en (wdS iw) p 8, nI (p + mtF N K s0 en (wdS iw) p 8)) := by
  have me := mt_en (M := N) (L := K) (s0 := s0) (en := en) (c := wdS iw) (q := p) (n := 8) hp
  have hl := fw_L hw
  unfold wordsF
  rw [letters_mt h hen hp hw hwd _ (Nat.le_refl _)]
  by_cases c : fwl.getD iw 0 ≤ mtF N K s0 en (wdS iw) p 8
  · rw [if_pos (mt_lo c), if_pos c]
    by_cases z : rm = 0
    · rw [if_pos ⟨rfl, z⟩, if_pos z]
    · rw [if_neg (fun q => z q.2), if_neg z]
  · rw [mt_hi (by omega) (by omega), if_neg (show ¬ mtF N K s0 en (wdS iw) p 8 = fwl.getD iw 0 by omega), if_neg c, if_neg (fun q => nI_neg1 _ (show p + mtF N K s0 en (wdS iw) p 8 < 1000 by omega) q.1)]
end GR
