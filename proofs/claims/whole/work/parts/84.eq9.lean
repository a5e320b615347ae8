/-! days by draws -/
section DA
variable {tc wc : Nat} {D E N0 : Nat → Nat → Int32} {L K : Nat → Nat → Int64}
theorem ush16 (x : Int32) : ∃ k, k < 65536 ∧ ush x 16 = nI k := by
  refine ⟨x.toBitVec.toNat / 2 ^ 16, ?_, ?_⟩
  · have := x.toBitVec.isLt
    omega
  · apply Int32.toBitVec_inj.1
    apply BitVec.eq_of_toNat_eq
    have h := pk_ushr x 16 16 (by decide)
    have hl := x.toBitVec.isLt
    rw [pk_tn (by omega)]
    exact h
theorem draw_at {sd cs : Int32} {c : Nat} (hc : cs = nI c) (h1 : 1 ≤ c) (h33 : c ≤ 33) : ∃ d, d < c ∧ ush sd 16 - ush sd 16 / cs * cs = nI d ∧ drawV sd cs = nI d := by
  obtain ⟨k, hk, e⟩ := ush16 sd
  have e2 : ush sd 16 - ush sd 16 / cs * cs = nI (k % c) := by
    rw [e, hc, pk_rem (by omega) (by omega) (by omega)]
  refine ⟨k % c, Nat.mod_lt _ (by omega), e2, ?_⟩
  unfold drawV
  rw [if_neg, e2]
  rw [hc]
  exact nI_nle (by omega) (by omega)
theorem cases_at (r : Rl tc wc D L E K) {t : Nat} (ht : t < 8) : ∃ f l c, E 94 t = nI f ∧ E 95 t = nI l ∧ f ≤ l ∧ l ≤ 23 ∧ E 95 t - E 94 t + 1 + E 96 t = nI c ∧ 1 ≤ c ∧ c ≤ 33 := by
  obtain ⟨-, hfl, hne, -⟩ := r.tok ht
  obtain ⟨f, hf, ef⟩ := i_le 23 hfl.1 (Int32.le_trans hfl.2.1 hfl.2.2) (by decide)
  obtain ⟨l, hl, el⟩ := i_le 23 (Int32.le_trans hfl.1 hfl.2.1) hfl.2.2 (by decide)
  obtain ⟨n, hn, en⟩ := i_le 9 hne.1 hne.2 (by decide)
  have hfl' : f ≤ l := by
    have := hfl.2.1
    rw [ef, el] at this
    exact (nI_le_iff (by omega) (by omega)).mp this
  refine ⟨f, l, l - f + 1 + n, ef, el, hfl', hl, ?_, by omega, by omega⟩
  rw [ef, el, en, pk_sub hfl', nI_1, nI_add]
theorem day_s {fi la ne wo st aw : Nat → Int32} {s0 t0 : Int32} {n : Nat} : dayI fi la ne wo st aw s0 t0 (n + 1) = (drawS (dayI fi la ne wo st aw s0 t0 n).1, if (fi n ≤ fi n + drawV (drawS (dayI fi la ne wo st aw s0 t0 n).1) (la n - fi n + 1 + ne n) ∧ fi n + drawV (drawS (dayI fi la ne wo st aw s0 t0 n).1) (la n - fi n + 1 + ne n) ≤ la n) ∧ aw n ≤ st n then (dayI fi la ne wo st aw s0 t0 n).2 + wo n else (dayI fi la ne wo st aw s0 t0 n).2) := by
  unfold dayI
  rw [itF_s]
def dayX (D : Nat → Nat → Int32) (n : Nat) : Int32 × Int32 := dayI (fun t => (D (18 + 4 + t) 1)) (fun t => (D (18 + 4 + t) 2)) (fun t => (D (18 + 4 + t) 3)) (fun t => (D (18 + 4 + t) 4)) (fun t => (D (18 + 4 + t) 5)) (fun t => (D (18 + 4 + t) 6)) (D 18 9) (D 18 7) n
def wagX (D : Nat → Nat → Int32) (n : Nat) : Int32 := wagesI (fun w => (D (18 + 12 + w) 1)) (fun w => (D (18 + 12 + w) 2)) (fun w => (D (18 + 12 + w) 3)) (fun w => (D (18 + 12 + w) 4)) (D 18 5) (D 18 8) n
theorem pd_eq : pdF D tc wc = up2 (up2 (up2 (up2 D 18 9 (dayX D tc).1) 18 7 (dayX D tc).2) 18 8 (wagX D wc)) 18 6 (D 18 6 + 1) := rfl
theorem days_27 (r : Rl tc wc D L E K) {n0 : Int32} {d1 : Nat} : ∀ n, n ≤ tc → lp_X8_days_27 N0 K n0 tc wc d1 E n 86 6 = (dayX D n).1 ∧ lp_X8_days_27 N0 K n0 tc wc d1 E n 86 4 = (dayX D n).2 ∧ (∀ a j, (a ≠ 86 ∨ (j ≠ 4 ∧ j ≠ 6)) → lp_X8_days_27 N0 K n0 tc wc d1 E n a j = E a j) := by
  have h8 := r.n.2.2.1
  intro n
  induction n with
  | zero => intro _; exact ⟨(r.s 9 (by omega) (by omega)).symm, (r.s 7 (by omega) (by omega)).symm, fun _ _ _ => rfl⟩
  | succ n ih =>
    intro hn
    obtain ⟨i1, i2, i3⟩ := ih (by omega)
    rw [lp_X8_days_27_s]
    generalize lp_X8_days_27 N0 K n0 tc wc d1 E n = S at i1 i2 i3 ⊢
    obtain ⟨e0, e1, e2, e3, e4, e5, e6⟩ := r.tv (show n < 8 by omega)
    obtain ⟨f, l, c, ef, el, hfl, hl, ec, c1, c33⟩ := cases_at r (show n < 8 by omega)
    have sx : dayX D (n + 1) = _ := day_s
    rw [sx]
    have ecs : a_X8_cases S K (nI n) n = nI c := by
      unfold a_X8_cases
      rw [i3 95 n (by omega), i3 94 n (by omega), i3 96 n (by omega)]
      exact ec
    rw [ecs]
    have ecD : D (18 + 4 + n) 2 - D (18 + 4 + n) 1 + 1 + D (18 + 4 + n) 3 = nI c := by
      rw [show 18 + 4 + n = 22 + n from rfl, e1, e2, e3]
      exact ec
    obtain ⟨d, hd, ed1, ed2⟩ := draw_at (sd := drawS (dayX D n).1) (cs := nI c) rfl c1 c33
    have edr : a_X8_draw S K (nI c) = (nI d, up2 S 86 6 (drawS (dayX D n).1), K) := by
      unfold a_X8_draw
      rw [i1]
      exact congrArg (fun z => (z, up2 S 86 6 (drawS (dayX D n).1), K)) ed1
    rw [edr]
    dsimp only
    have ex : dayI (fun t => (D (18 + 4 + t) 1)) (fun t => (D (18 + 4 + t) 2)) (fun t => (D (18 + 4 + t) 3)) (fun t => (D (18 + 4 + t) 4)) (fun t => (D (18 + 4 + t) 5)) (fun t => (D (18 + 4 + t) 6)) (D 18 9) (D 18 7) n = dayX D n := rfl
    have q95 : up2 S 86 6 (drawS (dayX D n).1) 95 n = nI l := (up2_o _ _ (by omega)).trans ((i3 95 n (by omega)).trans el)
    have q94 : S 94 n = nI f := (i3 94 n (by omega)).trans ef
    have q99 : up2 S 86 6 (drawS (dayX D n).1) 99 n = E 99 n := (up2_o _ _ (by omega)).trans (i3 99 n (by omega))
    have q98 : up2 S 86 6 (drawS (dayX D n).1) 98 n = E 98 n := (up2_o _ _ (by omega)).trans (i3 98 n (by omega))
    have q97 : up2 S 86 6 (drawS (dayX D n).1) 97 n = E 97 n := (up2_o _ _ (by omega)).trans (i3 97 n (by omega))
    have q4 : up2 S 86 6 (drawS (dayX D n).1) 86 4 = (dayX D n).2 := (up2_o _ _ (by omega)).trans i2
    have g1 : D (18 + 4 + n) 1 = nI f := e1.trans ef
    have g2 : D (18 + 4 + n) 2 = nI l := e2.trans el
    have g4 : D (18 + 4 + n) 4 = E 97 n := e4
    have g5 : D (18 + 4 + n) 5 = E 98 n := e5
    have g6 : D (18 + 4 + n) 6 = E 99 n := e6
    have ecD2 := ecD
    rw [g1, g2] at ecD2
    simp only [ex, g1, g2, ecD2, ed2, g4, g5, g6, q95, q94, q99, q98, q97, q4, nI_add, if_true]
    have cle : nI f ≤ nI (f + d) := (nI_le_iff (by omega) (by omega)).mpr (by omega)
    by_cases q : l < f + d
    · rw [if_pos ((nI_lt_iff (by omega) (by omega)).mpr q), if_neg (fun z => absurd ((nI_le_iff (by omega) (by omega)).mp z.1.2) (by omega))]
      refine ⟨up2_s _ _ _ _, (up2_o _ _ (by omega)).trans i2, fun a j h => (up2_o _ _ (by omega)).trans (i3 a j h)⟩
    · rw [if_neg (fun z => q ((nI_lt_iff (by omega) (by omega)).mp z))]
      have cl2 : nI (f + d) ≤ nI l := (nI_le_iff (by omega) (by omega)).mpr (by omega)
      by_cases m : E 99 n ≤ E 98 n
      · rw [if_pos m, if_pos ⟨⟨cle, cl2⟩, m⟩]
        refine ⟨(up2_o _ _ (by omega)).trans (up2_s _ _ _ _), up2_s _ _ _ _, fun a j h => (up2_o _ _ (by omega)).trans ((up2_o _ _ (by omega)).trans (i3 a j h))⟩
      · rw [if_neg m, if_neg (fun z => m z.2)]
        refine ⟨up2_s _ _ _ _, (up2_o _ _ (by omega)).trans i2, fun a j h => (up2_o _ _ (by omega)).trans (i3 a j h)⟩
theorem days_96 (r : Rl tc wc D L E K) {n0 : Int32} {d1 : Nat} : ∀ n, n ≤ wc → lp_X8_days_96 N0 K n0 tc wc d1 E n 86 5 = wagX D n ∧ (∀ a j, (a ≠ 86 ∨ j ≠ 5) → lp_X8_days_96 N0 K n0 tc wc d1 E n a j = lp_X8_days_27 N0 K n0 tc wc d1 E tc a j) := by
  obtain ⟨-, -, s3⟩ := days_27 (N0 := N0) (n0 := n0) (d1 := d1) r tc (Nat.le_refl _)
  intro n
  induction n with
  | zero => intro _; exact ⟨(s3 86 5 (by omega)).trans (r.s 8 (by omega) (by omega)).symm, fun _ _ _ => rfl⟩
  | succ n ih =>
    intro hn
    have h6 := r.h6
    obtain ⟨i1, i2⟩ := ih (by omega)
    rw [lp_X8_days_96_s]
    generalize lp_X8_days_96 N0 K n0 tc wc d1 E n = S at i1 i2 ⊢
    have fr : ∀ a j, (a ≠ 86 ∨ (j ≠ 4 ∧ j ≠ 5 ∧ j ≠ 6)) → S a j = E a j := fun a j h => (i2 a j (by omega)).trans (s3 a j (by omega))
    have eh : a_X8_holding S K (nI n) n = a_X8_holding E K (nI n) n := by
      unfold a_X8_holding
      rw [fr 88 n (by omega), fr 91 n (by omega), fr 89 n (by omega), fr 86 2 (by omega)]
    have ecs : ∀ x : Int32, a_X8_costs S K (nI n) x n = a_X8_costs E K (nI n) x n := by
      intro x
      unfold a_X8_costs
      rw [fr 88 n (by omega), fr 91 n (by omega), fr 89 n (by omega), fr 90 n (by omega), fr 86 2 (by omega)]
    have sw : wagX D (n + 1) = wagX D n + wageF (D (18 + 12 + n) 1) (D (18 + 12 + n) 2) (D (18 + 12 + n) 3) (D (18 + 12 + n) 4) (D 18 5) (holdF (D (18 + 12 + n) 1) (D (18 + 12 + n) 2) (D (18 + 12 + n) 4) (D 18 5)) := by
      unfold wagX wagesI
      rw [itF_s]
    have hw6 : n < 6 := by omega
    rw [sw, show 18 + 12 + n = 30 + n from rfl, hold_eq r hw6 (x := nI n), wage_eq r (show n < wc by omega) hw6 (x := nI n) (hold_rg r hw6), eh, ecs, i1]
    exact ⟨up2_s _ _ _ _, fun a j h => (up2_o _ _ (by omega)).trans (i2 a j h)⟩
theorem day_rl (r : Rl tc wc D L E K) {n0 : Int32} {d1 : Nat} : Rl tc wc (pdF D tc wc) L (up2 (lp_X8_days_96 N0 K n0 tc wc d1 E wc) 86 3 ((lp_X8_days_96 N0 K n0 tc wc d1 E wc) 86 3 + 1)) K := by
  obtain ⟨a1, a2, a3⟩ := days_27 (N0 := N0) (n0 := n0) (d1 := d1) r tc (Nat.le_refl _)
  obtain ⟨b1, b2⟩ := days_96 (N0 := N0) (n0 := n0) (d1 := d1) r wc (Nat.le_refl _)
  generalize lp_X8_days_96 N0 K n0 tc wc d1 E wc = T at b1 b2 ⊢
  have fr : ∀ a j, (a ≠ 86 ∨ (j ≠ 4 ∧ j ≠ 5 ∧ j ≠ 6)) → T a j = E a j := fun a j h => (b2 a j (by omega)).trans (a3 a j (by omega))
  have t6 : T 86 6 = (dayX D tc).1 := (b2 86 6 (by omega)).trans a1
  have t4 : T 86 4 = (dayX D tc).2 := (b2 86 4 (by omega)).trans a2
  have t3 : T 86 3 = D 18 6 := (fr 86 3 (by omega)).trans (r.s 6 (by omega) (by omega)).symm
  rw [pd_eq]
  have hm : ∀ a j, (a ≠ 18 ∨ j < 6 ∨ 9 < j) → up2 (up2 (up2 (up2 D 18 9 (dayX D tc).1) 18 7 (dayX D tc).2) 18 8 (wagX D wc)) 18 6 (D 18 6 + 1) a j = D a j := fun a j h => by
    rw [up2_o _ _ (by omega), up2_o _ _ (by omega), up2_o _ _ (by omega), up2_o _ _ (by omega)]
  have hn : ∀ a j, (a ≠ 86 ∨ j < 3 ∨ 6 < j) → up2 T 86 3 (T 86 3 + 1) a j = E a j := fun a j h => (up2_o _ _ (by omega)).trans (fr a j (by omega))
  refine r.gu (fun a j h => hm a j (by omega)) (fun a j h => hn a j (by omega)) (r.n.mv (hm _ _ (by omega)) (hm _ _ (by omega)) (hn _ _ (by omega)) (hn _ _ (by omega))) (r.t.mv (fun a j _ _ => hm a j (by omega)) (fun a j _ _ => hn a j (by omega))) (r.w.mv (fun a j _ _ => hm a j (by omega)) (fun a j _ _ => hn a j (by omega))) ?_ (r.o.mv (fun a j _ _ => hm a j (by omega)) (hm _ _ (by omega))) (Nat.le_refl _)
  intro j h5 h9
  rcases (show j = 5 ∨ j = 6 ∨ j = 7 ∨ j = 8 ∨ j = 9 by omega) with rfl | rfl | rfl | rfl | rfl
  · rw [hm _ _ (by omega), hn _ _ (by omega)]; exact r.s 5 (by omega) (by omega)
  · rw [up2_s, show 6 - 3 = 3 from rfl, up2_s, t3]
  · rw [up2_o _ _ (by omega), up2_o _ _ (by omega), up2_s, show 7 - 3 = 4 from rfl, up2_o _ _ (by omega), t4]
  · rw [up2_o _ _ (by omega), up2_s, show 8 - 3 = 5 from rfl, up2_o _ _ (by omega), b1]
  · rw [up2_o _ _ (by omega), up2_o _ _ (by omega), up2_o _ _ (by omega), up2_s, show 9 - 3 = 6 from rfl, up2_o _ _ (by omega), t6]
theorem pd_hi {a j : Nat} (h : 86 ≤ a) : pdF D tc wc a j = D a j := by
  rw [pd_eq, up2_o _ _ (by omega), up2_o _ _ (by omega), up2_o _ _ (by omega), up2_o _ _ (by omega)]
theorem e_days (r : Rl tc wc D L E K) (n : Int32) : Ok D L E K (daysC D L n tc wc) (a_X8_days E K n tc wc) := by
  unfold daysC a_X8_days
  by_cases h : 1 ≤ n ∧ n ≤ 60
  · rw [if_pos h, if_pos h]
    have key : ∀ k, Rl tc wc (dvF D tc wc k) L (lp_X8_days_20 E K n tc wc k) K ∧ (∀ a j, 86 ≤ a → dvF D tc wc k a j = D a j) ∧ (∀ a j, a < 86 → lp_X8_days_20 E K n tc wc k a j = E a j) := by
      intro k
      induction k with
      | zero => exact ⟨r, fun _ _ _ => rfl, fun _ _ _ => rfl⟩
      | succ k ih =>
        obtain ⟨i1, i2, i3⟩ := ih
        have sD : dvF D tc wc (k + 1) = pdF (dvF D tc wc k) tc wc := by
          unfold dvF
          rw [itF_s]
        rw [sD, lp_X8_days_20_s]
        refine ⟨day_rl i1, fun a j q => (pd_hi q).trans (i2 a j q), fun a j q => ?_⟩
        obtain ⟨-, -, a3⟩ := days_27 (N0 := E) (n0 := n) (d1 := k) i1 tc (Nat.le_refl _)
        obtain ⟨-, b2⟩ := days_96 (N0 := E) (n0 := n) (d1 := k) i1 wc (Nat.le_refl _)
        rw [up2_o _ _ (by omega), b2 a j (by omega), a3 a j (by omega)]
        exact i3 a j q
    obtain ⟨k1, k2, k3⟩ := key n.toNatClampNeg
    exact Ok.chg (k1.s 7 (by omega) (by omega)) k1 k2 k3
  · rw [if_neg h, if_neg h]
    exact Ok.ref r (by decide) (by decide) rfl
end DA
