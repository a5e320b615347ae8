/-! the bodies of the reference -/
def rB (M : Nat → Nat → Int32) (n : Nat) : Prop := ∃ r : Nat, r ≤ n ∧ M 86 45 = nI r
def bodyM (M : Nat → Nat → Int32) (b : Int32) : Nat → Nat → Int32 := up2 (if M 86 45 < 20 then up2 M 114 (M 86 45).toNatClampNeg b else M) 86 45 (M 86 45 + 1)
theorem rB_b {M : Nat → Nat → Int32} {b : Int32} {n : Nat} (h : rB M n) : rB (bodyM M b) (n + 1) := by
  obtain ⟨r, hr, e⟩ := h
  refine ⟨r + 1, by omega, ?_⟩
  unfold bodyM
  rw [up2_s, e]
  exact nI_1 _
theorem bodyM_o {M : Nat → Nat → Int32} {b : Int32} {a j : Nat} (h : (a ≠ 86 ∧ a ≠ 114) ∨ (a = 86 ∧ j ≠ 45)) : bodyM M b a j = M a j := by
  unfold bodyM
  rw [up2_o _ _ (by omega)]
  split
  · exact up2_o _ _ (by omega)
  · rfl
