theorem isD_lt {M : Nat → Nat → Int32} {L : Nat → Nat → Int64} {s0 p1 en : Nat} (h : ¬ a_X8_isDigit M L s0 p1 en = 0) : p1 < en := by
  unfold a_X8_isDigit at h
  by_cases h2 : en ≤ p1
  · rw [if_pos h2] at h
    exact absurd rfl h
  · omega
