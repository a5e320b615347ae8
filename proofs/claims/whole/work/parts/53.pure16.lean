theorem hold24 {M : Nat → Nat → Int32} {L : Nat → Nat → Int64} {w : Int32} {w0 : Nat} : a_X8_holding M L w w0 ≤ 24 := by
  unfold a_X8_holding
  repeat' split
  all_goals first | assumption | exact Int32.not_lt.mp (by assumption) | decide
theorem hold_lt {h : Int32} {i : Nat} (h1 : h ≤ 24) (h2 : ¬ h < nI (i + 1)) (hi : i < 25) : i + 1 < 25 := by
  have h3 : nI (i + 1) ≤ nI 24 := Int32.le_trans (Int32.not_lt.mp h2) h1
  have := (nI_le_iff (by omega) (by omega)).mp h3
  omega
