theorem rB_0 {M : Nat → Nat → Int32} : rB (up2 M 86 45 0) 0 := ⟨0, Nat.le_refl _, up2_s _ _ _ _⟩
theorem rB_mono {M : Nat → Nat → Int32} {a b : Nat} (h : rB M a) (hab : a ≤ b) : rB M b := by
  obtain ⟨r, hr, e⟩ := h
  exact ⟨r, by omega, e⟩
theorem wait_o {M : Nat → Nat → Int32} {L : Nat → Nat → Int64} {w x : Int32} {w0 n0 a j : Nat} (h : (a ≠ 86 ∧ a ≠ 114) ∨ (a = 86 ∧ j ≠ 45)) : (a_X8_waiting M L w x w0 n0).2.1 a j = M a j := by
  unfold a_X8_waiting
  repeat' split
  all_goals simp only [bodyM_o h]
theorem wait_L {M : Nat → Nat → Int32} {L : Nat → Nat → Int64} {w x : Int32} {w0 n0 : Nat} : (a_X8_waiting M L w x w0 n0).2.2 = L := by
  unfold a_X8_waiting
  repeat' split
  all_goals rfl
theorem wait_rB {M : Nat → Nat → Int32} {L : Nat → Nat → Int64} {w x : Int32} {w0 n0 k : Nat} (h : rB M k) : rB (a_X8_waiting M L w x w0 n0).2.1 (k + 3) := by
  unfold a_X8_waiting
  repeat' split
  all_goals first | exact rB_mono (rB_b (rB_b (rB_b h))) (by omega) | exact rB_mono (rB_b (rB_b h)) (by omega) | exact rB_mono (rB_b h) (by omega)
theorem look_o {M : Nat → Nat → Int32} {L : Nat → Nat → Int64} {w x : Int32} {w0 n0 a j : Nat} (h : (a ≠ 86 ∧ a ≠ 114) ∨ (a = 86 ∧ j ≠ 45)) : (a_X8_looking M L w x w0 n0).2.1 a j = M a j := by
  unfold a_X8_looking
  repeat' split
  all_goals simp only [wait_o h, bodyM_o h]
theorem look_rB {M : Nat → Nat → Int32} {L : Nat → Nat → Int64} {w x : Int32} {w0 n0 k : Nat} (h : rB M k) : rB (a_X8_looking M L w x w0 n0).2.1 (k + 6) := by
  unfold a_X8_looking
  repeat' split
  all_goals first | exact rB_mono (wait_rB (rB_b (rB_b (rB_b h)))) (by omega) | exact rB_mono (wait_rB (rB_b (rB_b h))) (by omega) | exact rB_mono (wait_rB (rB_b h)) (by omega)
