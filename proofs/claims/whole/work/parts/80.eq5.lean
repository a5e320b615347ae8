/-! till when it pays to wait; the best waiter -/
section ST
variable {tc wc : Nat} {M N : Nat → Nat → Int32} {L K : Nat → Nat → Int64}
/-- what stop() leaves alone in the reference -/
def frS (N D : Nat → Nat → Int32) : Prop := ∀ a j, (a ≠ 86 ∨ j ≠ 39) → D a j = N a j
theorem frS.up {N D : Nat → Nat → Int32} (h : frS N D) {v : Int32} : frS N (up2 D 86 39 v) := fun a j q => (up2_o _ _ (by omega)).trans (h a j q)
theorem hold_frS {D : Nat → Nat → Int32} (h : frS N D) (x : Int32) (w : Nat) : a_X8_holding D K x w = a_X8_holding N K x w := by
  unfold a_X8_holding
  rw [h 88 w (by omega), h 91 w (by omega), h 89 w (by omega), h 86 2 (by omega)]
theorem cost_frS {D : Nat → Nat → Int32} (h : frS N D) (x n : Int32) (w : Nat) : a_X8_costs D K x n w = a_X8_costs N K x n w := by
  unfold a_X8_costs
  rw [h 88 w (by omega), h 91 w (by omega), h 89 w (by omega), h 90 w (by omega), h 86 2 (by omega)]
theorem cases_frS {D : Nat → Nat → Int32} (h : frS N D) (x : Int32) (t : Nat) : a_X8_cases D K x t = a_X8_cases N K x t := by
  unfold a_X8_cases
  rw [h 95 t (by omega), h 94 t (by omega), h 96 t (by omega)]
/-- the class's stop, told by the reference's cells -/
def stX (N : Nat → Nat → Int32) (t w : Nat) : Int32 × Int32 := stopI (N 94 t) (N 95 t) (N 96 t) (N 97 t) (N 88 w) (N 89 w) (N 90 w) (N 91 w) (N 86 2)
theorem paid_s {kd a pay pat hope : Int32} {n : Nat} : paidI kd a pay pat hope (n + 1) = paidI kd a pay pat hope n + wageF kd a pay pat hope (nI (n + 1)) := by
  unfold paidI
  rw [itF_s]
theorem stops_lp (r : Rl tc wc M L N K) {t w : Nat} (ht : t < 8) (hw : w < wc) (h6 : w < 6) {xt xw : Int32} : ∀ f i iz pd D, i + f = 25 → i ≤ stepsI (N 94 t) (N 95 t) (holdF (N 88 w) (N 89 w) (N 91 w) (N 86 2)) → frS N D →
    D 86 39 = (bestI (fun i => gainI (N 94 t) (N 95 t) (N 96 t) (N 97 t) (N 88 w) (N 89 w) (N 90 w) (N 91 w) (N 86 2) (nI ((N 94 t).toNatClampNeg + i)) i) (fun i => nI ((N 94 t).toNatClampNeg + i)) (-1) i).1 →
    iz = (bestI (fun i => gainI (N 94 t) (N 95 t) (N 96 t) (N 97 t) (N 88 w) (N 89 w) (N 90 w) (N 91 w) (N 86 2) (nI ((N 94 t).toNatClampNeg + i)) i) (fun i => nI ((N 94 t).toNatClampNeg + i)) (-1) i).2 →
    pd = paidI (N 88 w) (N 89 w) (N 90 w) (N 91 w) (N 86 2) i →
    (lp_X8_stops_13 N K xt xw t w f i iz pd D).1 = (stX N t w).2 ∧ (lp_X8_stops_13 N K xt xw t w f i iz pd D).2.1 86 39 = (stX N t w).1 := by
  obtain ⟨-, hfl, hne, hwo, -, -⟩ := r.tok ht
  obtain ⟨k1, k2, k3, k4, -⟩ := r.wok h6
  have hpat := r.pat hw h6
  obtain ⟨fn, hf, ef⟩ := i_le 23 hfl.1 (Int32.le_trans hfl.2.1 hfl.2.2) (by decide)
  obtain ⟨ln, hl, el⟩ := i_le 23 (Int32.le_trans hfl.1 hfl.2.1) hfl.2.2 (by decide)
  have hfln : fn ≤ ln := by
    have := hfl.2.1
    rw [ef, el] at this
    exact (nI_le_iff (by omega) (by omega)).mp this
  have hhr := holdF_rg (kd := N 88 w) k2 k4 r.hop
  obtain ⟨hn, hh24, eh⟩ := i_le 24 hhr.1 hhr.2 (by decide)
  have ehx : a_X8_holding N K xw w = nI hn := by
    rw [← eh, hold_pure k1 k2 k4 r.hop]
    rfl
  have est : stepsI (N 94 t) (N 95 t) (holdF (N 88 w) (N 89 w) (N 91 w) (N 86 2)) = min (ln + 1 - fn) hn := by
    unfold stepsI
    rw [ef, el, eh, nI_clamp (by omega), nI_clamp (by omega), nI_clamp (by omega)]
  have efn : (N 94 t).toNatClampNeg = fn := by rw [ef, nI_clamp (by omega)]
  intro f
  induction f with
  | zero =>
    intro i iz pd D hi hs
    rw [est] at hs
    omega
  | succ f ih =>
    intro i iz pd D hi hs hD hd hz hp
    rw [lp_X8_stops_13_s, hold_frS hD, ehx, hD 95 t (by omega), hD 94 t (by omega), hD 97 t (by omega), cost_frS hD, cases_frS hD]
    have ex : N 94 t + nI (i + 1) - 1 = nI (fn + i) := by
      rw [ef, nI_add, show fn + (i + 1) = fn + i + 1 from rfl, nI_pred]
    rw [ex]
    have stop : i = stepsI (N 94 t) (N 95 t) (holdF (N 88 w) (N 89 w) (N 91 w) (N 86 2)) → iz = (stX N t w).2 ∧ D 86 39 = (stX N t w).1 := by
      intro e
      unfold stX stopI
      rw [← e]
      exact ⟨hz, hd⟩
    by_cases c1 : nI hn < nI (i + 1)
    · rw [if_pos c1]
      have := (nI_lt_iff (by omega) (by omega)).mp c1
      exact stop (by rw [est] at hs ⊢; omega)
    rw [if_neg c1]
    have c1' : ¬ hn < i + 1 := fun k => c1 ((nI_lt_iff (by omega) (by omega)).mpr k)
    by_cases c2 : N 95 t < nI (fn + i)
    · rw [if_pos c2]
      rw [el] at c2
      have := (nI_lt_iff (by omega) (by omega)).mp c2
      exact stop (by rw [est] at hs ⊢; omega)
    rw [if_neg c2]
    have c2' : ¬ ln < fn + i := fun k => c2 (by rw [el]; exact (nI_lt_iff (by omega) (by omega)).mpr k)
    have hwg : wageF (N 88 w) (N 89 w) (N 90 w) (N 91 w) (N 86 2) (nI (i + 1)) = a_X8_costs N K xw (nI (i + 1)) w := by
      rw [wage_pure k1 k2 ⟨hpat, k4.2⟩ ⟨nI_pos' (by omega), (nI_le_iff (b := 24) (by omega) (by omega)).mpr (by omega)⟩]
      rfl
    have hby : byF (N 94 t) (N 95 t) (nI (fn + i)) = nI (i + 1) := by
      rw [by_pure hfl ⟨nI_pos' (by omega), (nI_le_iff (b := 23) (by omega) (by omega)).mpr (by omega)⟩, ef, el, if_pos ((nI_le_iff (by omega) (by omega)).mpr (by omega)), if_pos ((nI_le_iff (by omega) (by omega)).mpr (by omega)), pk_sub (by omega), nI_1]
      congr 1
      omega
    have hv : gainI (N 94 t) (N 95 t) (N 96 t) (N 97 t) (N 88 w) (N 89 w) (N 90 w) (N 91 w) (N 86 2) (nI ((N 94 t).toNatClampNeg + i)) i = N 97 t * nI (i + 1) - (pd + a_X8_costs N K xw (nI (i + 1)) w) - (a_X8_cases N K xt t - nI (i + 1)) * a_X8_costs N K xw (nI (i + 1)) w := by
      unfold gainI
      rw [efn, hby, paid_s, hwg, ← hp]
      rfl
    have hb : bestI (fun i => gainI (N 94 t) (N 95 t) (N 96 t) (N 97 t) (N 88 w) (N 89 w) (N 90 w) (N 91 w) (N 86 2) (nI ((N 94 t).toNatClampNeg + i)) i) (fun i => nI ((N 94 t).toNatClampNeg + i)) (-1) (i + 1) = if gainI (N 94 t) (N 95 t) (N 96 t) (N 97 t) (N 88 w) (N 89 w) (N 90 w) (N 91 w) (N 86 2) (nI ((N 94 t).toNatClampNeg + i)) i ≤ (bestI (fun i => gainI (N 94 t) (N 95 t) (N 96 t) (N 97 t) (N 88 w) (N 89 w) (N 90 w) (N 91 w) (N 86 2) (nI ((N 94 t).toNatClampNeg + i)) i) (fun i => nI ((N 94 t).toNatClampNeg + i)) (-1) i).1 then bestI (fun i => gainI (N 94 t) (N 95 t) (N 96 t) (N 97 t) (N 88 w) (N 89 w) (N 90 w) (N 91 w) (N 86 2) (nI ((N 94 t).toNatClampNeg + i)) i) (fun i => nI ((N 94 t).toNatClampNeg + i)) (-1) i else (gainI (N 94 t) (N 95 t) (N 96 t) (N 97 t) (N 88 w) (N 89 w) (N 90 w) (N 91 w) (N 86 2) (nI ((N 94 t).toNatClampNeg + i)) i, nI ((N 94 t).toNatClampNeg + i)) := by
      unfold bestI
      rw [itF_s]
    have hp2 : pd + a_X8_costs N K xw (nI (i + 1)) w = paidI (N 88 w) (N 89 w) (N 90 w) (N 91 w) (N 86 2) (i + 1) := by
      rw [paid_s, hwg, hp]
    by_cases c3 : D 86 39 < N 97 t * nI (i + 1) - (pd + a_X8_costs N K xw (nI (i + 1)) w) - (a_X8_cases N K xt t - nI (i + 1)) * a_X8_costs N K xw (nI (i + 1)) w
    · rw [if_pos c3]
      refine ih (i + 1) _ _ _ (by omega) (by rw [est]; omega) hD.up ?_ ?_ hp2
      · rw [hb, if_neg (by rw [hv, ← hd]; exact Int32.not_le.mpr c3), up2_s]
        exact hv.symm
      · rw [hb, if_neg (by rw [hv, ← hd]; exact Int32.not_le.mpr c3), efn]
    · rw [if_neg c3]
      refine ih (i + 1) _ _ _ (by omega) (by rw [est]; omega) hD ?_ ?_ hp2
      · rw [hb, if_pos (by rw [hv, ← hd]; exact Int32.not_lt.mp c3)]
        exact hd
      · rw [hb, if_pos (by rw [hv, ← hd]; exact Int32.not_lt.mp c3)]
        exact hz
theorem stops_eq (r : Rl tc wc M L N K) {t w : Nat} (ht : t < 8) (hw : w < wc) (h6 : w < 6) {xt xw : Int32} : (a_X8_stops N K xt xw t w).1 = (stX N t w).2 ∧ (a_X8_stops N K xt xw t w).2.1 86 39 = (stX N t w).1 := by
  unfold a_X8_stops
  exact stops_lp r ht hw h6 25 0 (-1) 0 _ rfl (Nat.zero_le _) (frS.up (fun _ _ _ => rfl)) (up2_s _ _ _ _) rfl rfl
theorem stX_eq (r : Rl tc wc M L N K) {t w : Nat} (ht : t < 8) (h6 : w < 6) : stopI (M (22 + t) 1) (M (22 + t) 2) (M (22 + t) 3) (M (22 + t) 4) (M (30 + w) 1) (M (30 + w) 2) (M (30 + w) 3) (M (30 + w) 4) (M 18 5) = stX N t w := by
  obtain ⟨-, e1, e2, e3, e4, -⟩ := r.tv ht
  obtain ⟨f1, f2, f3, f4, -⟩ := r.wv h6
  rw [e1, e2, e3, e4, f1, f2, f3, f4, r.hp]
  rfl
theorem e_stop (r : Rl tc wc M L N K) (t w q : Int32) : Ok M L N K (a_X7_stop M L t w q) (a_X8_stop N K t w q tc wc) := by
  unfold a_X7_stop a_X8_stop
  by_cases h : 0 ≤ t ∧ t < N 86 1
  · rw [if_pos ((r.tc_iff t).mpr h), if_pos h]
    obtain ⟨t0, -, h8, -, et⟩ := r.tx h
    by_cases hw : 0 ≤ w ∧ w < N 86 0
    · rw [if_pos ((r.wc_iff w).mpr hw), if_pos hw]
      obtain ⟨w0, h0, h6, -, ew⟩ := r.wx hw
      rw [et, ew, stX_eq r h8 h6]
      by_cases hq : q < 0
      · rw [if_neg (show ¬ (0 ≤ q ∧ q ≤ 1) from fun k => absurd hq (Int32.not_lt.mpr k.1)), if_pos hq]
        exact Ok.ref r (by decide) (by decide) rfl
      rw [if_neg hq]
      by_cases hq1 : q ≤ 1
      · rw [if_pos (show 0 ≤ q ∧ q ≤ 1 from ⟨Int32.not_lt.mp hq, hq1⟩), if_pos hq1]
        have hs := stops_eq r h8 h0 h6 (xt := t) (xw := w)
        have hn : ∀ a j, ¬ scX a j → (a_X8_stops N K t w t0 w0).2.1 a j = N a j := fun a j k => stops_o (by unfold scX at k; omega)
        by_cases z : q = 0
        · rw [if_pos z, if_pos z]
          exact Ok.scr r hs.1.symm (fun _ _ _ => rfl) hn
        · rw [if_neg z, if_neg z]
          exact Ok.scr r hs.2.symm (fun _ _ _ => rfl) hn
      · rw [if_neg (show ¬ (0 ≤ q ∧ q ≤ 1) from fun k => hq1 k.2), if_neg hq1]
        exact Ok.ref r (by decide) (by decide) rfl
    · rw [if_neg (fun q => hw ((r.wc_iff w).mp q)), if_neg hw]
      exact Ok.ref r (by decide) (by decide) rfl
  · rw [if_neg (fun q => h ((r.tc_iff t).mp q)), if_neg h]
    exact Ok.ref r (by decide) (by decide) rfl
theorem e_best (r : Rl tc wc M L N K) (t : Int32) : Ok M L N K (a_X7_best M L t wc) (a_X8_best N K t tc wc) := by
  unfold a_X7_best a_X8_best
  by_cases h : 0 ≤ t ∧ t < N 86 1
  · rw [if_pos ((r.tc_iff t).mpr h), if_pos h]
    obtain ⟨t0, -, h8, -, et⟩ := r.tx h
    have hc6 := r.h6
    have key : ∀ n, n ≤ wc → (lp_X8_best_21 N K t tc wc n).1 = (bestI (fun w => (stX N t0 w).1) nI (-1) n).2 ∧ (lp_X8_best_21 N K t tc wc n).2.1 = (bestI (fun w => (stX N t0 w).1) nI (-1) n).1 ∧ frS N (lp_X8_best_21 N K t tc wc n).2.2 := by
      intro n
      induction n with
      | zero => intro _; exact ⟨rfl, rfl, fun _ _ _ => rfl⟩
      | succ n ih =>
        intro hn
        obtain ⟨i1, i2, i3⟩ := ih (by omega)
        have s : lp_X8_best_21 N K t tc wc (n + 1) = (if (lp_X8_best_21 N K t tc wc n).2.1 < ((a_X8_stops (lp_X8_best_21 N K t tc wc n).2.2 K t (nI n) t.toNatClampNeg n).2.1 86 39) then ((nI n), ((a_X8_stops (lp_X8_best_21 N K t tc wc n).2.2 K t (nI n) t.toNatClampNeg n).2.1 86 39), (a_X8_stops (lp_X8_best_21 N K t tc wc n).2.2 K t (nI n) t.toNatClampNeg n).2.1) else ((lp_X8_best_21 N K t tc wc n).1, (lp_X8_best_21 N K t tc wc n).2.1, (a_X8_stops (lp_X8_best_21 N K t tc wc n).2.2 K t (nI n) t.toNatClampNeg n).2.1)) := by
          unfold lp_X8_best_21
          rw [itF_s]
        have sb : bestI (fun w => (stX N t0 w).1) nI (-1) (n + 1) = if (stX N t0 n).1 ≤ (bestI (fun w => (stX N t0 w).1) nI (-1) n).1 then bestI (fun w => (stX N t0 w).1) nI (-1) n else ((stX N t0 n).1, nI n) := by
          unfold bestI
          rw [itF_s]
        have rD : Rl tc wc M L (lp_X8_best_21 N K t tc wc n).2.2 K := r.scr (fun _ _ _ => rfl) (fun a j k => i3 a j (by unfold scX at k; omega))
        have hs := (stops_eq rD h8 (show n < wc by omega) (show n < 6 by omega) (xt := t) (xw := nI n)).2
        have e : stX (lp_X8_best_21 N K t tc wc n).2.2 t0 n = stX N t0 n := by
          unfold stX
          rw [i3 94 t0 (by omega), i3 95 t0 (by omega), i3 96 t0 (by omega), i3 97 t0 (by omega), i3 88 n (by omega), i3 89 n (by omega), i3 90 n (by omega), i3 91 n (by omega), i3 86 2 (by omega)]
        have fr : frS N (a_X8_stops (lp_X8_best_21 N K t tc wc n).2.2 K t (nI n) t0 n).2.1 := fun a j k => (stops_o k).trans (i3 a j k)
        rw [e] at hs
        rw [s, sb, et, hs, i2]
        by_cases c : (bestI (fun w => (stX N t0 w).1) nI (-1) n).1 < (stX N t0 n).1
        · rw [if_pos c, if_neg (Int32.not_le.mpr c)]
          exact ⟨rfl, rfl, fr⟩
        · rw [if_neg c, if_pos (Int32.not_lt.mp c)]
          exact ⟨i1, rfl, fr⟩
    obtain ⟨k1, -, k3⟩ := key wc (Nat.le_refl _)
    refine Ok.scr r ?_ (fun _ _ _ => rfl) (fun a j k => k3 a j (by unfold scX at k; omega))
    rw [k1, et]
    have ec : bestI (fun w => (stopI (M (22 + t0) 1) (M (22 + t0) 2) (M (22 + t0) 3) (M (22 + t0) 4) (M (18 + 12 + w) 1) (M (18 + 12 + w) 2) (M (18 + 12 + w) 3) (M (18 + 12 + w) 4) (M 18 5)).1) nI (-1) wc = bestI (fun w => (stX N t0 w).1) nI (-1) wc := by
      unfold bestI
      refine itF_congr wc (fun w hw b => ?_)
      have h1 := stX_eq r h8 (show w < 6 by omega)
      dsimp only
      simp only [show 18 + 12 + w = 30 + w from rfl, h1]
    rw [ec]
  · rw [if_neg (fun q => h ((r.tc_iff t).mp q)), if_neg h]
    exact Ok.ref r (by decide) (by decide) rfl
end ST
