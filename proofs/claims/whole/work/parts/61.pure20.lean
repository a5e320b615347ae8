/-- what a day may change: fields 3 to 6 of the reference -/
def frD (M D : Nat → Nat → Int32) : Prop := ∀ a j, (a ≠ 86 ∨ j < 3 ∨ 6 < j) → D a j = M a j
theorem frD.up {M D : Nat → Nat → Int32} (h : frD M D) {j : Nat} {v : Int32} (hj : 3 ≤ j ∧ j ≤ 6) : frD M (up2 D 86 j v) := by
  intro a i hi
  rw [up2_o _ _ (by omega)]
  exact h a i hi
theorem frD.draw {M D : Nat → Nat → Int32} (h : frD M D) {L : Nat → Nat → Int64} {x : Int32} : frD M (a_X8_draw D L x).2.1 := by
  unfold a_X8_draw
  exact h.up (by decide)
theorem cs_ne {M D : Nat → Nat → Int32} (h : frD M D) {L : Nat → Nat → Int64} {t : Int32} {i : Nat} (hc : M 95 i - M 94 i + 1 + M 96 i ≠ 0) : a_X8_cases D L t i ≠ 0 := by
  unfold a_X8_cases
  rw [h 95 i (by omega), h 94 i (by omega), h 96 i (by omega)]
  exact hc
