theorem lps_o {M : Nat → Nat → Int32} {L : Nat → Nat → Int64} {t w : Int32} {t0 w0 a j : Nat} (h : a ≠ 86 ∨ j ≠ 39) : ∀ (f i : Nat) (iz pd : Int32) (D : Nat → Nat → Int32), (lp_X8_stops_13 M L t w t0 w0 f i iz pd D).2.1 a j = D a j := by
  intro f
  induction f with
  | zero => intro i iz pd D; rfl
  | succ f ih =>
    intro i iz pd D
    rw [lp_X8_stops_13_s]
    repeat' split
    all_goals first | rfl | exact ih _ _ _ _ | exact (ih _ _ _ _).trans (up2_o _ _ h)
theorem stops_o {M : Nat → Nat → Int32} {L : Nat → Nat → Int64} {t w : Int32} {t0 w0 a j : Nat} (h : a ≠ 86 ∨ j ≠ 39) : (a_X8_stops M L t w t0 w0).2.1 a j = M a j := by
  unfold a_X8_stops
  exact (lps_o h _ _ _ _ _).trans (up2_o _ _ h)
