/-! a guild read from a text: the call -/
section GC
variable {K : Nat → Nat → Int64} {s0 en : Nat}
def GdR (wc : Nat) (M D : Nat → Nat → Int32) (c : fS) (R : Nat × Int32 × (Nat → Nat → Int32)) : Prop :=
  frI M c.1 ∧ ((∃ E q f n, c.2 = (q, f) ∧ ¬ f = -1 ∧ R = (n, 0, E) ∧ E 86 36 = f ∧ frX D E) ∨ (∃ E q n tc' wc', c.2 = (q, -1) ∧ R = (n, 1, E) ∧ c.1 72 1 = nI n ∧ frX D E ∧ wc ≤ wc' ∧ Rg tc' wc' c.1 E))
theorem GdR.tr {wc wc1 : Nat} {M M1 D D1 : Nat → Nat → Int32} {c : fS} {R : Nat × Int32 × (Nat → Nat → Int32)} (h : GdR wc1 M1 D1 c R) (hM : frI M M1) (hD : frX D D1) (hw : wc ≤ wc1) : GdR wc M D c R := by
  obtain ⟨h1, ⟨E, q, f, n, a1, a2, a3, a4, a5⟩ | ⟨E, q, n, t, w, a1, a2, a3, a4, a5, a6⟩⟩ := h
  · exact ⟨hM.tr h1, Or.inl ⟨E, q, f, n, a1, a2, a3, a4, hD.tr a5⟩⟩
  · exact ⟨hM.tr h1, Or.inr ⟨E, q, n, t, w, a1, a2, a3, hD.tr a4, by omega, a6⟩⟩
theorem Rg.cnt {tc wc : Nat} {M D : Nat → Nat → Int32} (r : Rg tc wc M D) : cntN M ∧ tX D = tc ∧ wX D = wc := by
  obtain ⟨⟨h3, g1, h8, h4, g0, h6⟩, -⟩ := r
  have e3 : tcN M = tc := by unfold tcN; rw [h3, nI_clamp (by omega)]
  have e4 : wcN M = wc := by unfold wcN; rw [h4, nI_clamp (by omega)]
  refine ⟨?_, by unfold tX; rw [g1, nI_clamp (by omega)], by unfold wX; rw [g0, nI_clamp (by omega)]⟩
  unfold cntN
  rw [e3, e4]
  exact ⟨h3, h8, h4, h6⟩
theorem gd_eq (hen : en ≤ 160) : ∀ fc fr n (M D : Nat → Nat → Int32) q tc wc, ltP (M 73) K s0 en → Rg tc wc M D → RlC D → D 86 33 = nI q → q ≤ en → en - q ≤ fc → en - q ≤ fr → M 72 1 = nI n → GdR wc M D (restF en fc (M, (q, -1))) (gdR K s0 en fr n 1 D) := by
  intro fc
  induction fc with
  | zero =>
    intro fr n M D q tc wc h r hc hX hq h1 h2 hn
    have hpN : pN D = q := by unfold pN; rw [hX, nI_clamp (by omega)]
    rw [gd_stop (Or.inr (by omega))]
    exact ⟨frI.rf, Or.inr ⟨D, q, n, tc, wc, rfl, rfl, hn, fun _ _ _ _ _ => rfl, Nat.le_refl _, r⟩⟩
  | succ fc ih =>
    intro fr n M D q tc wc h r hc hX hq h1 h2 hn
    have hpN : pN D = q := by unfold pN; rw [hX, nI_clamp (by omega)]
    obtain ⟨hcn, etX, ewX⟩ := r.cnt
    by_cases hlt : q < en
    · rw [restF_s, if_pos ⟨rfl, hlt⟩]
      dsimp only
      by_cases c : letF (M 73) en q = 59
      · have c' := ((let_eq h (by decide)).mp c).2
        rw [sg_y c, gd_go (by omega) (by decide) (by omega) (by rw [hpN]; exact c'), hpN, etX, ewX]
        have r1 : Rg tc wc M (up2 D 86 33 (nI (q + 1))) := r.mv (fun _ _ _ _ => rfl) (fun a j z => up2_o _ _ (by omega))
        have c1 : RlC (up2 D 86 33 (nI (q + 1))) := hc.mv (fun a j _ _ => up2_o _ _ (by omega))
        have f1 : frX D (up2 D 86 33 (nI (q + 1))) := fun a j _ _ z => up2_o _ _ (by omega)
        obtain ⟨-, ok2, ok3⟩ := itemF_ok (M := M) (sz := en) (p := q + 1) (f := -1) (by omega) hcn
        have e72 := item_72 (en := en) (q := q + 1) hcn
        rcases it_all h hen (show q + 1 ≤ en by omega) r1 c1 with ⟨E, q', f, a1, a2, a3, a4, a5⟩ | ⟨E, q', t, w, a1, a2, a3, a4, a5, a6, a7, a8⟩
        · rw [restF_stop (fun z => a2 (by rw [a1] at z; exact z.1)), a3, gd_stop (Or.inl rfl)]
          exact ⟨ok3, Or.inl ⟨E, q', f, n + 1, a1, a2, rfl, a4, f1.tr a5⟩⟩
        · have es : itemF M en (q + 1, -1) = ((itemF M en (q + 1, -1)).1, (q', -1)) := Prod.ext rfl a1
          rw [es, a2]
          refine (ih (fr - 1) (n + 1) _ E q' t w ?_ a8 ?_ a3 a4 (by omega) (by omega) ?_).tr ok3 (f1.tr a6) a7
          · intro k hk
            rw [ok3 73 k (by omega) (by omega)]
            exact h k hk
          · exact c1.mv (fun a j _ _ => a6 a j (by omega) (by omega) (by omega))
          · rw [e72, hn, nI_1]
      · have c' : ¬ (K 104 (160 * s0 + q)).toInt32 = 59 := fun z => c ((let_eq h (by decide)).mpr ⟨hlt, z⟩)
        rw [sg_n c, gd_no (by omega) (by decide) (by omega) (by rw [hpN]; exact c'), hpN, itemF_no (nI_neg1 q (by omega)), restF_stop (fun z => nI_neg1 q (by omega) z.1), gd_stop (Or.inl rfl)]
        exact ⟨frI.rf, Or.inl ⟨_, q, nI q, n, rfl, nI_neg1 q (by omega), rfl, up2_s _ _ _ _, fun a j _ _ z => up2_o _ _ (by omega)⟩⟩
    · rw [restF_stop (fun z => hlt z.2), gd_stop (Or.inr (by omega))]
      exact ⟨frI.rf, Or.inr ⟨D, q, n, tc, wc, rfl, rfl, hn, fun _ _ _ _ _ => rfl, Nat.le_refl _, r⟩⟩
variable {M N : Nat → Nat → Int32} {L : Nat → Nat → Int64} {tc wc : Nat}
theorem ldM_h {k sz i a j : Nat} (h : 74 ≤ a) : ldM M L 18 k sz i a j = M a j := by
  unfold ldM
  rw [if_neg (by omega), up2_o _ _ (by omega), up2_o _ _ (by omega), cpG_ot (by omega)]
theorem ldM_d {k sz i a j : Nat} (h : a < 72) : ldM M L 18 k sz i a j = cpG M 54 18 a j := by
  unfold ldM
  rw [if_neg (by omega), up2_o _ _ (by omega), up2_o _ _ (by omega)]
theorem gd_all (r : Rl tc wc M L N K) (hs : s0 < 8) (hen : en ≤ 160) : GdR wc (ldM M L 18 (2 + s0) en en) (gd0 N K s0 en) (restF en 160 (itemF (ldM M L 18 (2 + s0) en en) en (0, -1))) (gdR K s0 en 161 1 (itemR (gd0 N K s0 en) K tc wc s0 0 en).1 (itemR (gd0 N K s0 en) K tc wc s0 0 en).2.1) := by
  obtain ⟨h3, g1, h8, h4, g0, h6⟩ := r.n
  have hl : ltP (ldM M L 18 (2 + s0) en en 73) K s0 en := by
    intro q hq
    show (if 73 = 73 ∧ q < en then (L (2 + s0 + 8) q).toInt32 else _) = _
    rw [if_pos ⟨rfl, hq⟩, show 2 + s0 + 8 = 10 + s0 by omega, r.e s0 hs q (by omega)]
  have gc : ∀ a j, 88 ≤ a → a ≠ 111 → gd0 N K s0 en a j = N a j := fun a j q1 q2 => gd0_o q2 (Or.inl (by omega))
  have gn : ∀ j, j ≤ 6 → gd0 N K s0 en 86 j = N 86 j := fun j q => gd0_o (by omega) (Or.inr (by omega))
  have rg : Rg tc wc (ldM M L 18 (2 + s0) en en) (gd0 N K s0 en) := by
    refine ⟨⟨?_, (gn _ (by omega)).trans g1, h8, ?_, (gn _ (by omega)).trans g0, h6⟩, fun t ht j hj => ?_, fun w hw j h1 h5 => ?_, fun j h5 h9 => ?_, ?_⟩
    · rw [ldM_d (by omega), cpG_n (by omega) (by omega), h3]
    · rw [ldM_d (by omega), cpG_n (by omega) (by omega), h4]
    · rw [ldM_d (by omega), show 58 + t = 54 + 4 + t from rfl, cpG_t ht hj, gc _ _ (by omega) (by omega)]
      exact r.t t ht j hj
    · rw [ldM_d (by omega), show 66 + w = 54 + 12 + w from rfl, cpG_w hw h1 (by omega), gc _ _ (by omega) (by omega)]
      exact (r.w w hw).2 j h1 h5
    · rw [ldM_d (by omega), cpG_n (by omega) (by omega), gn _ (by omega)]
      exact r.s j h5 h9
    · exact (RlO.cp r.o).mv (fun a j _ _ => ldM_d (by omega)) (ldM_d (by omega))
  have rc : RlC (gd0 N K s0 en) := r.c.mv (fun a j _ _ => gc a j (by omega) (by omega))
  obtain ⟨hcn, -, -⟩ := rg.cnt
  obtain ⟨-, ok2, ok3⟩ := itemF_ok (M := ldM M L 18 (2 + s0) en en) (sz := en) (p := 0) (f := -1) (by omega) hcn
  have e72 := item_72 (M := ldM M L 18 (2 + s0) en en) (en := en) (q := 0) hcn
  have e1 : ldM M L 18 (2 + s0) en en 72 1 = 0 := by
    unfold ldM
    rw [if_neg (by omega), up2_o _ _ (by omega), up2_s]
  rcases it_all hl hen (Nat.zero_le en) rg rc with ⟨E, q', f, a1, a2, a3, a4, a5⟩ | ⟨E, q', t, w, a1, a2, a3, a4, a5, a6, a7, a8⟩
  · rw [restF_stop (fun z => a2 (by rw [a1] at z; exact z.1)), a3, gd_stop (Or.inl rfl)]
    exact ⟨ok3, Or.inl ⟨E, q', f, 1, a1, a2, rfl, a4, a5⟩⟩
  · have es : itemF (ldM M L 18 (2 + s0) en en) en (0, -1) = ((itemF (ldM M L 18 (2 + s0) en en) en (0, -1)).1, (q', -1)) := Prod.ext rfl a1
    rw [es, a2]
    refine (gd_eq hen 160 161 1 _ E q' t w ?_ a8 ?_ a3 a4 (by omega) (by omega) ?_).tr ok3 a6 a7
    · intro k hk
      rw [ok3 73 k (by omega) (by omega)]
      exact hl k hk
    · exact rc.mv (fun a j _ _ => a6 a j (by omega) (by omega) (by omega))
    · rw [e72, e1]; rfl
theorem e_guild (r : Rl tc wc M L N K) (s : Int32) : Ok M L N K (a_X7_guild M L s tc wc) (guildR N K s tc wc) := by
  unfold a_X7_guild guildR
  rw [← wanted_eq r s]
  by_cases h0 : rrI M s = 0
  · rw [if_pos h0, if_pos h0]
    obtain ⟨hs, hs8, es, e1, e2, e3, e4, e5, e6, e7⟩ := rr_row r h0
    rw [e5]
    obtain ⟨z, hz, ez⟩ := i_le 160 e6 e7 (by decide)
    have hen : (N 102 s.toNatClampNeg).toNatClampNeg ≤ 160 := by rw [ez, nI_clamp (by omega)]; exact hz
    generalize (N 102 s.toNatClampNeg).toNatClampNeg = en at hen ⊢
    generalize s.toNatClampNeg = s0 at hs8 ⊢
    obtain ⟨fi, g⟩ := gd_all r hs8 hen
    generalize restF en 160 (itemF (ldM M L 18 (2 + s0) en en) en (0, -1)) = c at fi g ⊢
    generalize gdR K s0 en 161 1 (itemR (gd0 N K s0 en) K tc wc s0 0 en).1 (itemR (gd0 N K s0 en) K tc wc s0 0 en).2.1 = R at g ⊢
    obtain ⟨c1, cq⟩ := c
    have hm : ∀ a j, (a < 54 ∨ 74 ≤ a) → c1 a j = M a j := fun a j q => (fi a j (by omega) (by omega)).trans (by
      rcases q with q | q
      · exact ldM_o q
      · exact ldM_h q)
    rcases g with ⟨E, q, f, n, a1, a2, a3, a4, a5⟩ | ⟨E, q, n, t, w, a1, a2, a3, a4, a5, a6⟩
    · obtain rfl : cq = (q, f) := a1
      subst a3
      dsimp only
      rw [if_neg a2, if_pos rfl]
      have hX : ∀ a j, (a < 88 ∨ 99 < a) → (a ≠ 86 ∨ (6 < j ∧ j ≠ 7 ∧ (j < 32 ∨ 36 < j))) → a ≠ 110 → a ≠ 111 → (a_X8_all E K 111 1).1 a j = N a j := fun a j q1 q2 q3 q4 => (ld_o q1 (by omega)).trans ((a5 a j q1 q3 (by omega)).trans (gd0_o q4 (by omega)))
      have h111 : ∀ j, E 111 j = (a_X8_all N K 111 0).1 111 j := fun j => (a5 111 j (by omega) (by omega) (by omega)).trans (by
        unfold gd0
        rw [up2_o _ _ (by omega), up2_o _ _ (by omega), up2_o _ _ (by omega), up2_o _ _ (by omega)])
      have h86 : ∀ k, k < 7 → (a_X8_all E K 111 1).1 86 k = N 86 k := fun k hk => by
        rw [ld_num (by omega) hk, h111, sv_num (by omega) hk]
      have h36 : (a_X8_all E K 111 1).1 86 36 = f := (ld_o (by omega) (by omega)).trans a4
      have hN : ∀ a j, (a < 88 ∨ 99 < a) → (a ≠ 86 ∨ (6 < j ∧ j ≠ 7 ∧ (j < 32 ∨ 36 < j))) → a ≠ 110 → a ≠ 111 → up2 (a_X8_all E K 111 1).1 86 7 ((a_X8_all E K 111 1).1 86 36) a j = N a j := fun a j q1 q2 q3 q4 => (up2_o _ _ (by omega)).trans (hX a j q1 q2 q3 q4)
      have hN6 : ∀ j, j ≤ 6 → up2 (a_X8_all E K 111 1).1 86 7 ((a_X8_all E K 111 1).1 86 36) 86 j = N 86 j := fun j q => (up2_o _ _ (by omega)).trans (h86 j (by omega))
      have hM : ∀ a j, (a < 54 ∨ 74 ≤ a) → (a ≠ 0 ∨ j ≠ 8) → pM (up2 c1 0 8 f) q f a j = M a j := fun a j q1 q2 => (pM_o _ _ _ (by omega)).trans ((up2_o _ _ (by omega)).trans (hm a j q1))
      have rl : Rl tc wc (pM (up2 c1 0 8 f) q f) L (up2 (a_X8_all E K 111 1).1 86 7 ((a_X8_all E K 111 1).1 86 36)) K := by
        refine ⟨r.n.mv (hM _ _ (by omega) (by omega)) (hM _ _ (by omega) (by omega)) (hN6 _ (by omega)) (hN6 _ (by omega)), ?_, ?_, r.s.mv (fun j _ _ => hM _ _ (by omega) (by omega)) (fun j _ _ => hN6 _ (by omega)), r.o.mv (fun a j _ _ => hM _ _ (by omega) (by omega)) (hM _ _ (by omega) (by omega)), ⟨?_, fun k k1 k7 => ?_⟩,
          r.h.mv (fun a j _ _ => hM _ _ (by omega) (by omega)) (fun a j _ _ => hN _ _ (by omega) (by omega) (by omega) (by omega)), r.b.mv (hM _ _ (by omega) (by omega)) (hN _ _ (by omega) (by omega) (by omega) (by omega)) (fun j => hM _ _ (by omega) (by omega)) (fun j => hN _ _ (by omega) (by omega) (by omega) (by omega)),
          r.i.mv (hM _ _ (by omega) (by omega)) (hN _ _ (by omega) (by omega) (by omega) (by omega)) (fun a j _ _ => hM _ _ (by omega) (by omega)) (fun j => hN _ _ (by omega) (by omega) (by omega) (by omega)), r.c.mv (fun a j _ _ => hN _ _ (by omega) (by omega) (by omega) (by omega)), r.e⟩
        · intro t ht j hj
          rw [hM _ _ (by omega) (by omega), up2_o _ _ (by omega), ld_cell (by omega), cw1_t (by omega) hj ht, h111, sv_low (by omega), cw0_t (by omega) hj ht]
          exact r.t t ht j hj
        · intro w hw
          refine ⟨by rw [hM _ _ (by omega) (by omega)]; exact (r.w w hw).1, fun j h1 h5 => ?_⟩
          rw [hM _ _ (by omega) (by omega), up2_o _ _ (by omega), ld_cell (by omega), show 87 + j = 88 + (j - 1) by omega, cw1_w (by omega) (by omega) hw, h111, sv_low (by omega), cw0_w (by omega) (by omega) hw, show 88 + (j - 1) = 87 + j by omega]
          exact (r.w w hw).2 j h1 h5
        · rw [up2_s, h36, pM_o _ _ _ (by omega), up2_s]
        · rw [hM _ _ (by omega) (by omega), hN _ _ (by omega) (by omega) (by omega) (by omega)]
          exact r.f.2 k k1 k7
      exact ⟨rfl, ⟨tc, wc, rl.ref (b := -6) (by decide) (by decide)⟩, fun a j y => (rfM_o (b := -6) (by omega)).trans (hM a j (by omega) (by omega)), fun _ _ _ => rfl, fun a j y => (noM_o (b := -6) (by omega)).trans (hN a j (by omega) (by omega) (by omega) (by omega)), fun _ _ _ => rfl⟩
    · obtain rfl : cq = (q, -1) := a1
      subst a2
      dsimp only at a3 a6 ⊢
      rw [if_pos rfl, if_neg (by decide)]
      obtain ⟨⟨h3, g1, h8, h4, g0, h6⟩, rt, rw', rs, ro⟩ := a6
      have hM : ∀ a j, (a < 18 ∨ (36 ≤ a ∧ a < 54) ∨ 74 ≤ a) → (a ≠ 0 ∨ j ≠ 8) → cpG (pM (up2 c1 0 8 (-1)) q (-1)) 18 54 a j = M a j := fun a j q1 q2 => (cpG_ot (by omega)).trans ((pM_o _ _ _ (by omega)).trans ((up2_o _ _ (by omega)).trans (hm a j (by omega))))
      have hP : ∀ a j, 54 ≤ a → a < 72 → pM (up2 c1 0 8 (-1)) q (-1) a j = c1 a j := fun a j q1 q2 => (pM_o _ _ _ (by omega)).trans (up2_o _ _ (by omega))
      have hN : ∀ a j, (a < 88 ∨ 99 < a) → (a ≠ 86 ∨ (6 < j ∧ j ≠ 7 ∧ (j < 32 ∨ 36 < j))) → a ≠ 110 → a ≠ 111 → E a j = N a j := fun a j q1 q2 q3 q4 => (a4 a j q1 q3 (by omega)).trans (gd0_o q4 (by omega))
      have e7 : E 86 7 = -1 := (a4 86 7 (by omega) (by omega) (by omega)).trans (by unfold gd0; exact up2_s _ _ _ _)
      have rl : Rl t w (cpG (pM (up2 c1 0 8 (-1)) q (-1)) 18 54) L E K := by
        refine ⟨⟨?_, g1, h8, ?_, g0, h6⟩, fun i hi j hj => ?_, fun i hi => ⟨?_, fun j h1 h5 => ?_⟩, fun j h5 h9 => ?_, ?_, ⟨?_, fun k k1 k7 => ?_⟩, fun i hi => ?_,
          r.b.mv (hM _ _ (by omega) (by omega)) (hN _ _ (by omega) (by omega) (by omega) (by omega)) (fun j => hM _ _ (by omega) (by omega)) (fun j => hN _ _ (by omega) (by omega) (by omega) (by omega)),
          r.i.mv (hM _ _ (by omega) (by omega)) (hN _ _ (by omega) (by omega) (by omega) (by omega)) (fun a j _ _ => hM _ _ (by omega) (by omega)) (fun j => hN _ _ (by omega) (by omega) (by omega) (by omega)), r.c.mv (fun a j _ _ => hN _ _ (by omega) (by omega) (by omega) (by omega)), r.e⟩
        · show cpG (pM (up2 c1 0 8 (-1)) q (-1)) 18 54 18 3 = _
          rw [cpG_n (by omega) (by omega), hP _ _ (by omega) (by omega), h3]
        · show cpG (pM (up2 c1 0 8 (-1)) q (-1)) 18 54 18 4 = _
          rw [cpG_n (by omega) (by omega), hP _ _ (by omega) (by omega), h4]
        · show cpG (pM (up2 c1 0 8 (-1)) q (-1)) 18 54 (18 + 4 + i) j = _
          rw [cpG_t hi hj, hP _ _ (by omega) (by omega)]
          exact rt i hi j hj
        · show cpG (pM (up2 c1 0 8 (-1)) q (-1)) 18 54 (18 + 12 + i) 0 = _
          rw [cpG_w0 hi, pM_o _ _ _ (by omega), up2_o _ _ (by omega), hm _ _ (by omega)]
          exact (r.w i hi).1
        · show cpG (pM (up2 c1 0 8 (-1)) q (-1)) 18 54 (18 + 12 + i) j = _
          rw [cpG_w hi h1 (by omega), hP _ _ (by omega) (by omega)]
          exact rw' i hi j h1 h5
        · show cpG (pM (up2 c1 0 8 (-1)) q (-1)) 18 54 18 j = _
          rw [cpG_n (by omega) (by omega), hP _ _ (by omega) (by omega)]
          exact rs j h5 h9
        · exact RlO.cp (ro.mv (fun a j _ _ => hP a j (by omega) (by omega)) (hP _ _ (by omega) (by omega)))
        · show cpG (pM (up2 c1 0 8 (-1)) q (-1)) 18 54 0 8 = _
          rw [cpG_ot (by omega), pM_o _ _ _ (by omega), up2_s, e7]
        · show cpG (pM (up2 c1 0 8 (-1)) q (-1)) 18 54 85 k = E 87 k
          rw [hM _ _ (by omega) (by omega), hN _ _ (by omega) (by omega) (by omega) (by omega)]
          exact r.f.2 k k1 k7
        · have := (r.h i hi).mono a5 h6
          show RlH w (cpG (pM (up2 c1 0 8 (-1)) q (-1)) 18 54 (2 + i) 1) (cpG (pM (up2 c1 0 8 (-1)) q (-1)) 18 54 (2 + i) 2) (E 100 i) (E 101 i) (E 102 i) (E 103 i)
          rw [hM _ _ (by omega) (by omega), hM _ _ (by omega) (by omega), hN _ _ (by omega) (by omega) (by omega) (by omega), hN _ _ (by omega) (by omega) (by omega) (by omega), hN _ _ (by omega) (by omega) (by omega) (by omega), hN _ _ (by omega) (by omega) (by omega) (by omega)]
          exact this
      refine ⟨?_, ⟨t, w, rl⟩, fun a j y => hM a j (by omega) (by omega), fun _ _ _ => rfl, fun a j y => hN a j (by omega) (by omega) (by omega) (by omega), fun _ _ _ => rfl⟩
      show cpG (pM (up2 c1 0 8 (-1)) q (-1)) 18 54 72 1 = _
      rw [cpG_ot (by omega), pM_o _ _ _ (by omega), up2_o _ _ (by omega), a3]
  · rw [if_neg h0, if_neg h0]
    exact Ok.ref r (rr_rg h0).1 (rr_rg h0).2 rfl
end GC
