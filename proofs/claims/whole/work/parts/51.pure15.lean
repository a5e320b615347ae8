theorem wd_rg {M : Nat → Nat → Int32} {L : Nat → Nat → Int64} {s : Int32} : 0 ≤ -(a_X8_wanted M L s) ∧ -(a_X8_wanted M L s) ≤ 7 := by
  unfold a_X8_wanted
  repeat' split
  all_goals decide
theorem bars0 {M : Nat → Nat → Int32} {L : Nat → Nat → Int64} {s n : Int32} (h : a_X8_barsOfDay M L s n = 0) : a_X8_wanted M L s = 0 ∧ 0 ≤ n ∧ n ≤ 8 ∧ n ≤ M 102 s.toNatClampNeg := by
  unfold a_X8_barsOfDay at h
  split at h
  · next h1 =>
    split at h
    · next h2 =>
      split at h
      · next h3 =>
        split at h
        · next h4 => exact ⟨h1, by first | exact h2 | exact Int32.not_lt.mp h2, by first | exact h4 | exact Int32.not_lt.mp h4, by first | exact h3 | exact Int32.not_lt.mp h3⟩
        · exact absurd h (by decide)
      · exact absurd h (by decide)
    · exact absurd h (by decide)
  · next h1 => exact absurd h h1
theorem bars_rg {M : Nat → Nat → Int32} {L : Nat → Nat → Int64} {s n : Int32} : 0 ≤ -(a_X8_barsOfDay M L s n) ∧ -(a_X8_barsOfDay M L s n) ≤ 7 := by
  unfold a_X8_barsOfDay
  repeat' split
  all_goals first | decide | exact wd_rg
