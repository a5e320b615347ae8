theorem wd0 {M : Nat → Nat → Int32} {L : Nat → Nat → Int64} {s : Int32} (h : a_X8_wanted M L s = 0) : 0 ≤ s ∧ s < 8 ∧ ¬ M 100 s.toNatClampNeg = 2 ∧ ¬ M 100 s.toNatClampNeg = 0 := by
  unfold a_X8_wanted at h
  split at h
  · next h1 =>
    split at h
    · exact absurd h (by decide)
    · next h2 =>
      split at h
      · exact absurd h (by decide)
      · next h3 => exact ⟨h1.1, h1.2, h2, h3⟩
  · exact absurd h (by decide)
theorem div_nn {v : Int32} (h : ¬ v < 0) : 0 ≤ v / 100 := by
  have h1 : (0 : Int) ≤ v.toInt := Int32.le_iff_toInt_le.mp (Int32.not_lt.mp h)
  apply Int32.le_iff_toInt_le.mpr
  have e : (v / 100).toInt = v.toInt.tdiv 100 := by
    first
      | exact Int32.toInt_div_of_ne_right v 100 (by decide)
      | exact Int32.toInt_div_of_ne_right (by decide)
      | (rw [Int32.toInt_div_of_ne_right _ _ (by decide)]; rfl)
  rw [e]
  show (0 : Int) ≤ _
  exact Int.tdiv_nonneg h1 (by decide)
