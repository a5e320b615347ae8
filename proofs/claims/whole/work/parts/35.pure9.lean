def qnN (M : Nat → Nat → Int32) (t : Int32) : Nat := (M (22 + t.toNatClampNeg) 2 - M (22 + t.toNatClampNeg) 1 + 1).toNatClampNeg
theorem qnN_eq {M : Nat → Nat → Int32} {t : Int32} (h : okT M (22 + t.toNatClampNeg)) : M (22 + t.toNatClampNeg) 2 - M (22 + t.toNatClampNeg) 1 + 1 = nI (qnN M t) ∧ qnN M t ≤ 24 := by
  unfold qnN
  obtain ⟨b, hb, eb⟩ := i_le 23 (Int32.le_trans h.2.1.1 h.2.1.2.1) h.2.1.2.2 (by decide)
  have h2 := h.2.1.2.1
  rw [eb] at h2 ⊢
  obtain ⟨a, ha, ea⟩ := i_le b h.2.1.1 h2 (by omega)
  rw [ea, nI_sub ha]
  have e1 : nI (b - a) + 1 = nI (b - a + 1) := nI_1 _
  rw [e1, nI_clamp (by omega)]
  exact ⟨rfl, by omega⟩
/-- what rota answers and leaves -/
def rotaR (M : Nat → Nat → Int32) (L : Nat → Nat → Int64) (wc : Nat) (t i r : Int32) (u : fM) : Prop :=
  if 0 ≤ t ∧ t < M 18 3 ∧ t < 8 then
    (if i = -1 ∨ (0 ≤ i ∧ i < M 18 4 ∧ i < 6) then ∃ M1, u = (M1, L) ∧ frR M M1 ∧ M1 74 1 = nI (qnN M t) ∧ (∀ j, j ≤ wc → ∀ q, q ≤ qnN M t → M1 (76 + (wc - j)) q = tabI (wgM M 18) (hdM M 18) wc j q) ∧
      r = (if i = -1 then (if (1000000 : Int32) ≤ M1 76 (qnN M t) then -1 else M1 76 (qnN M t)) else (if (if (1000000 : Int32) ≤ M1 76 (qnN M t) then -1 else M1 76 (qnN M t)) = -1 then -1 else nI (shI (fbM M1 18) (qnN M t) (i.toNatClampNeg + 1)).2))
    else u = (rfM M (-5), L) ∧ r = -5 - 10)
  else u = (rfM M (-1), L) ∧ r = -1 - 10
