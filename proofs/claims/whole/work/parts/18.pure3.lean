theorem ch_nar {iw j : Nat} (hi : iw < 4) (hj : j < fwl.getD iw 0) : narrow .char (.int (((fwb.getD iw []).getD j 0 &&& 255).toUInt32 % 65536).toInt32) = .int (((fwb.getD iw []).getD j 0 &&& 255).toUInt32 % 65536).toInt32 :=
  (show ∀ iw, iw < 4 → ∀ j, j < fwl.getD iw 0 → narrow .char (.int (((fwb.getD iw []).getD j 0 &&& 255).toUInt32 % 65536).toInt32) = .int (((fwb.getD iw []).getD j 0 &&& 255).toUInt32 % 65536).toInt32 by decide +kernel) iw hi j hj
theorem ch_eq {iw j : Nat} (hi : iw < 4) (hj : j < fwl.getD iw 0) : (((fwb.getD iw []).getD j 0 &&& 255).toUInt32 % 65536).toInt32 = (fwb.getD iw []).getD j 0 :=
  (show ∀ iw, iw < 4 → ∀ j, j < fwl.getD iw 0 → (((fwb.getD iw []).getD j 0 &&& 255).toUInt32 % 65536).toInt32 = (fwb.getD iw []).getD j 0 by decide +kernel) iw hi j hj
theorem ch_nar2 {iw j : Nat} (hi : iw < 4) (hj : j < fwl.getD iw 0) : narrow .char (.int ((fwb.getD iw []).getD j 0)) = .int ((fwb.getD iw []).getD j 0) := by
  have h := ch_nar hi hj
  rw [ch_eq hi hj] at h
  exact h
/-- the world with the reader at place p, its fault f -/
def pM (M : Nat → Nat → Int32) (p : Nat) (f : Int32) : Nat → Nat → Int32 := up2 (up2 M 72 4 (nI p)) 72 5 f
theorem pM_4 (M : Nat → Nat → Int32) (p : Nat) (f : Int32) : pM M p f 72 4 = nI p := by unfold pM; rw [up2_o _ _ (Or.inr (by decide)), up2_s]
theorem pM_5 (M : Nat → Nat → Int32) (p : Nat) (f : Int32) : pM M p f 72 5 = f := by unfold pM; rw [up2_s]
theorem pM_o (M : Nat → Nat → Int32) (p : Nat) (f : Int32) {a j : Nat} (h : a ≠ 72 ∨ (j ≠ 4 ∧ j ≠ 5)) : pM M p f a j = M a j := by
  unfold pM
  rw [up2_o _ _ (by omega), up2_o _ _ (by omega)]
theorem pM_w4 (M : Nat → Nat → Int32) (p q : Nat) (f : Int32) : pM M q f = up2 (pM M p f) 72 4 (nI q) := by
  funext a j
  unfold pM
  simp only [up2_at]
  by_cases h4 : a = 72 ∧ j = 4
  · obtain ⟨rfl, rfl⟩ := h4; simp
  · by_cases h5 : a = 72 ∧ j = 5
    · obtain ⟨rfl, rfl⟩ := h5; simp
    · simp only [if_neg h4, if_neg h5]
theorem pM_w5 (M : Nat → Nat → Int32) (p : Nat) (f g : Int32) : pM M p g = up2 (pM M p f) 72 5 g := by
  funext a j
  unfold pM
  simp only [up2_at]
  by_cases h5 : a = 72 ∧ j = 5
  · obtain ⟨rfl, rfl⟩ := h5; simp
  · simp only [if_neg h5]
theorem pM_wo (M : Nat → Nat → Int32) (p : Nat) (f : Int32) {a j : Nat} (v : Int32) (h : a ≠ 72 ∨ (j ≠ 4 ∧ j ≠ 5)) : pM (up2 M a j v) p f = up2 (pM M p f) a j v := by
  funext x y
  unfold pM
  simp only [up2_at]
  by_cases h4 : x = 72 ∧ y = 4
  · obtain ⟨rfl, rfl⟩ := h4
    have q : ¬ (72 = a ∧ 4 = j) := by omega
    simp only [if_neg q]
  · by_cases h5 : x = 72 ∧ y = 5
    · obtain ⟨rfl, rfl⟩ := h5
      have q : ¬ (72 = a ∧ 5 = j) := by omega
      simp only [if_neg q]
    · simp only [if_neg h4, if_neg h5]
theorem pM_id (M : Nat → Nat → Int32) {p : Nat} {f : Int32} (h4 : M 72 4 = nI p) (h5 : M 72 5 = f) : pM M p f = M := by
  unfold pM
  rw [← h4, ← h5]
  funext a j
  simp only [up2_at]
  by_cases q5 : a = 72 ∧ j = 5
  · obtain ⟨rfl, rfl⟩ := q5; simp
  · by_cases q4 : a = 72 ∧ j = 4
    · obtain ⟨rfl, rfl⟩ := q4; simp
    · simp only [if_neg q4, if_neg q5]
/-- reading: lt the letters, sz how many; a state is the place and the fault -/
def letF (lt : Nat → Int32) (sz p : Nat) : Int32 := if p < sz then lt p else 0
def signF (lt : Nat → Int32) (sz : Nat) (c : Int32) (s : Nat × Int32) : Nat × Int32 := if s.2 = -1 then (if letF lt sz s.1 = c then (s.1 + 1, s.2) else (s.1, nI s.1)) else s
theorem signF_no {lt : Nat → Int32} {sz p : Nat} {c f : Int32} (h : ¬ f = -1) : signF lt sz c (p, f) = (p, f) := if_neg h
theorem signF_yes {lt : Nat → Int32} {sz p : Nat} {c : Int32} (h : letF lt sz p = c) : signF lt sz c (p, -1) = (p + 1, -1) := by
  unfold signF
  rw [if_pos rfl, if_pos h]
theorem signF_bad {lt : Nat → Int32} {sz p : Nat} {c : Int32} (h : ¬ letF lt sz p = c) : signF lt sz c (p, -1) = (p, nI p) := by
  unfold signF
  rw [if_pos rfl, if_neg h]
