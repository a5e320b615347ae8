/-! a guild read from a text: items one after another, then the call -/
section GT
variable {M D : Nat → Nat → Int32} {K : Nat → Nat → Int64} {s0 en p tc wc : Nat}
theorem mt_z {lt : Nat → Int32} (h : ltP lt K s0 en) (hwd : ∀ k, k < 28 → D 106 k = wdA k) {v : Nat} (hv : v < 4) (hc : ¬ letF lt en p = chrF v 0) : mtF D K s0 en (wdS v) p 8 = 0 := by
  have hl : 0 < fwl.getD v 0 := by have := fw_L hv; omega
  exact mt_K (i := 0) rfl (fun z => hc ((let_eq h (chrF_ne hv hl)).mpr ⟨z.1, z.2.2.trans (ch_wd hwd hv hl)⟩)) (by omega)
theorem far_w {w : Nat} (hw : w < 4) (hf : ∀ v, v < 4 → v ≠ w → mtF D K s0 en (wdS v) p 8 = 0) : farN D K s0 en p 4 = p + mtF D K s0 en (wdS w) p 8 := by
  rw [far_s, far_s, far_s, far_s, show farN D K s0 en p 0 = p from rfl]
  rcases (show w = 0 ∨ w = 1 ∨ w = 2 ∨ w = 3 by omega) with rfl | rfl | rfl | rfl
  · rw [hf 1 (by omega) (by omega), hf 2 (by omega) (by omega), hf 3 (by omega) (by omega)]
    generalize mtF D K s0 en (wdS 0) p 8 = m
    repeat' split
    all_goals omega
  · rw [hf 0 (by omega) (by omega), hf 2 (by omega) (by omega), hf 3 (by omega) (by omega)]
    generalize mtF D K s0 en (wdS 1) p 8 = m
    repeat' split
    all_goals omega
  · rw [hf 1 (by omega) (by omega), hf 0 (by omega) (by omega), hf 3 (by omega) (by omega)]
    generalize mtF D K s0 en (wdS 2) p 8 = m
    repeat' split
    all_goals omega
  · rw [hf 1 (by omega) (by omega), hf 2 (by omega) (by omega), hf 0 (by omega) (by omega)]
    generalize mtF D K s0 en (wdS 3) p 8 = m
    repeat' split
    all_goals omega
/-- no room for what the word says -/
def flP (tc wc w : Nat) : Prop := (w = 0 ∧ tc = 8) ∨ (w = 1 ∧ wc = 6)
theorem st_fl (hwd : ∀ k, k < 28 → D 106 k = wdA k) {w : Nat} (hw : w < 4) (hf : ∀ v, v < 4 → v ≠ w → mtF D K s0 en (wdS v) p 8 = 0) : ((¬ a_X8_stands D K 0 s0 p en 0 = 0 ∧ tc = 8) ∨ (¬ a_X8_stands D K 1 s0 p en 1 = 0 ∧ wc = 6)) ↔ (fwl.getD w 0 ≤ mtF D K s0 en (wdS w) p 8 ∧ flP tc wc w) := by
  rw [st_iff hwd (by omega), st_iff hwd (by omega)]
  rw [show 7 * 0 = wdS 0 from rfl, show 7 * 1 = wdS 1 from rfl]
  unfold flP
  rcases (show w = 0 ∨ w = 1 ∨ w = 2 ∨ w = 3 by omega) with rfl | rfl | rfl | rfl
  · rw [hf 1 (by omega) (by omega), show fwl.getD 0 0 = 5 from rfl]; omega
  · rw [hf 0 (by omega) (by omega), show fwl.getD 1 0 = 6 from rfl]; omega
  · rw [hf 0 (by omega) (by omega), hf 1 (by omega) (by omega)]; omega
  · rw [hf 0 (by omega) (by omega), hf 1 (by omega) (by omega)]; omega
theorem it_first {lt : Nat → Int32} (h : ltP lt K s0 en) (hen : en ≤ 160) (hp : p ≤ en) (hwd : ∀ k, k < 28 → D 106 k = wdA k) {w : Nat} (hw : w < 4) (hf : ∀ v, v < 4 → v ≠ w → mtF D K s0 en (wdS v) p 8 = 0) {rm lo hi : Int32} (hrm : rm = 0 ↔ flP tc wc w) :
    (∃ q f, numF lt en lo hi (wordsF lt en w rm (p, -1)) = (-1, (q, f)) ∧ ¬ f = -1 ∧ itemR D K tc wc s0 p en = (0, up2 D 86 36 f, K)) ∨
    (wordsF lt en w rm (p, -1) = (p + fwl.getD w 0, -1) ∧ signF lt en 32 (p + fwl.getD w 0, -1) = (p + wdL w, -1) ∧ p + wdL w ≤ en ∧ ¬ flP tc wc w ∧ wdx D K s0 p en = w ∧ itemR D K tc wc s0 p en = lp_X8_item_57 D K tc wc s0 p en (nmN w) 0 (up2 D 86 33 (nI (p + wdL w)))) := by
  have hl := fw_L hw
  have hL := mt_L (K := K) (s0 := s0) (en := en) (p := p) hwd hw
  have me := mt_en (M := D) (L := K) (s0 := s0) (en := en) (c := wdS w) (q := p) (n := 8) hp
  have far := far_w hw hf
  have sf := st_fl (tc := tc) (wc := wc) hwd hw hf
  have no : ¬ mtF D K s0 en (wdS w) p 8 = wdL w → ∀ v, v < 4 → ¬ mtF D K s0 en (wdS v) p 8 = wdL v := fun z v hv => by
    by_cases e : v = w
    · rw [e]; exact z
    · rw [hf v hv e]
      have := fw_L hv
      omega
  have bad : ¬ (fwl.getD w 0 ≤ mtF D K s0 en (wdS w) p 8 ∧ flP tc wc w) → ¬ mtF D K s0 en (wdS w) p 8 = wdL w → itemR D K tc wc s0 p en = (0, up2 D 86 36 (nI (p + mtF D K s0 en (wdS w) p 8)), K) := fun z1 z2 => by
    unfold itemR
    rw [if_neg (fun q => z1 (sf.mp q)), wordV_no (no z2), if_pos rfl, far]
  rw [words_mt h hen hp hw hwd]
  by_cases c : fwl.getD w 0 ≤ mtF D K s0 en (wdS w) p 8
  · rw [if_pos c]
    by_cases fl : flP tc wc w
    · left
      rw [if_pos (hrm.mpr fl)]
      refine ⟨p + fwl.getD w 0, nI p, num_f (nI_neg1 p (by omega)), nI_neg1 p (by omega), ?_⟩
      unfold itemR
      rw [if_pos (sf.mpr ⟨c, fl⟩)]
    · rw [if_neg (fun z => fl (hrm.mp z))]
      by_cases d : mtF D K s0 en (wdS w) p 8 = wdL w
      · right
        have e1 : wordV D K s0 p en = (nI w, up2 D 86 33 (nI (p + wdL w))) := wordV_ok hw (fun v hv => by
          rw [hf v (by omega) (by omega)]
          have := fw_L (show v < 4 by omega)
          omega) d
        have e2 : wdx D K s0 p en = w := by unfold wdx; rw [e1, nI_clamp (by omega)]
        have cd := mt_cond (M := D) (L := K) (s0 := s0) (en := en) (c := wdS w) (q := p) (n := 8) rfl (fwl.getD w 0) (by omega)
        refine ⟨rfl, ?_, by omega, fl, e2, ?_⟩
        · rw [sg_y ((let_eq h (by decide)).mpr ⟨cd.1, cd.2.2.trans (ch_bl hwd hw)⟩), hl.1]
          rfl
        · unfold itemR
          rw [if_neg (fun q => fl (sf.mp q).2), e2, if_neg (by rw [e1]; exact nI_neg1 w (by omega))]
      · left
        have em : mtF D K s0 en (wdS w) p 8 = fwl.getD w 0 := by omega
        have nb : ¬ letF lt en (p + fwl.getD w 0) = 32 := fun z => by
          have z' := (let_eq h (by decide)).mp z
          have g := mt_go (M := D) (L := K) (s0 := s0) (en := en) (c := wdS w) (q := p) (i := fwl.getD w 0) (mt_lo c) ⟨z'.1, by rw [ch_bl hwd hw]; decide, z'.2.trans (ch_bl hwd hw).symm⟩
          have := mt_ge (n := 8) g (by omega)
          omega
        refine ⟨p + fwl.getD w 0, nI (p + fwl.getD w 0), numF_1 (sg_n nb) (nI_neg1 _ (by omega)), nI_neg1 _ (by omega), ?_⟩
        rw [bad (fun q => fl q.2) d, em]
  · rw [if_neg c]
    left
    exact ⟨_, _, num_f (nI_neg1 _ (by omega)), nI_neg1 _ (by omega), bad (fun q => c q.1) (by omega)⟩
theorem thF_bad {M : Nat → Nat → Int32} {s : Nat × Int32} {v f : Int32} {q : Nat} (e : numF (M 73) en 0 9 (wordsF (M 73) en 0 (bI (decide (M 54 3 < 8))) s) = (v, (q, f))) (nf : ¬ f = -1) : thF M en s = (M, (q, f)) := by
  unfold thF
  simp only [e, num_f nf]
  rw [if_neg nf]
theorem waF_bad {M : Nat → Nat → Int32} {s : Nat × Int32} {v f : Int32} {q : Nat} (e : numF (M 73) en 0 6 (wordsF (M 73) en 1 (bI (decide (M 54 4 < 6))) s) = (v, (q, f))) (nf : ¬ f = -1) : waF M en s = (M, (q, f)) := by
  unfold waF
  simp only [e, num_f nf]
  rw [if_neg nf]
theorem moF_bad {M : Nat → Nat → Int32} {s : Nat × Int32} {v f : Int32} {q : Nat} (e : numF (M 73) en 0 (M 54 4 - 1) (wordsF (M 73) en 2 1 s) = (v, (q, f))) (nf : ¬ f = -1) : moF M en s = (M, (q, f)) := by
  unfold moF
  simp only [e, num_f nf]
  rw [if_neg nf]
theorem hoF_bad {M : Nat → Nat → Int32} {s : Nat × Int32} {v f : Int32} {q : Nat} (e : numF (M 73) en 0 9 (wordsF (M 73) en 3 1 s) = (v, (q, f))) (nf : ¬ f = -1) : hoF M en s = (M, (q, f)) := by
  unfold hoF
  simp only [e]
  rw [if_neg nf]
theorem ItR.bad {c : fS} {R : fR} {M' : Nat → Nat → Int32} {q : Nat} {f : Int32} (e1 : c = (M', (q, f))) (nf : ¬ f = -1) (e2 : R = (0, up2 D 86 36 f, K)) : ItR wc D K en p c R :=
  Or.inl ⟨up2 D 86 36 f, q, f, by rw [e1], nf, e2, up2_s _ _ _ _, fun a j _ _ z => up2_o _ _ (by omega)⟩
theorem ItR.wk {c : fS} {R : fR} {k x : Nat} (h : ItR wc (up2 D 86 33 (nI x)) K en k c R) (hk : p ≤ k) : ItR wc D K en p c R := by
  have fr : frX D (up2 D 86 33 (nI x)) := fun a j _ _ z => up2_o _ _ (by omega)
  rcases h with ⟨E, q, f, h1, h2, h3, h4, h5⟩ | ⟨E, q, t, w, h1, h2, h3, h4, h5, h6, h7⟩
  · exact Or.inl ⟨E, q, f, h1, h2, h3, h4, fr.tr h5⟩
  · exact Or.inr ⟨E, q, t, w, h1, h2, h3, h4, by omega, fr.tr h6, h7⟩
theorem it_all (h : ltP (M 73) K s0 en) (hen : en ≤ 160) (hp : p ≤ en) (r : Rg tc wc M D) (hc : RlC D) : ItR wc D K en p (itemF M en (p, -1)) (itemR D K tc wc s0 p en) := by
  have hwd := hc.1
  have r' : Rg tc wc (up2 M 72 1 (M 72 1 + 1)) D := r.mv (fun a j _ _ => up2_o _ _ (by omega)) (fun _ _ _ => rfl)
  have e73 : up2 M 72 1 (M 72 1 + 1) 73 = M 73 := up2_ne _ (by decide) _ _
  have h' : ltP (up2 M 72 1 (M 72 1 + 1) 73) K s0 en := by rw [e73]; exact h
  obtain ⟨⟨h3, g1, h8, h4, g0, h6⟩, -⟩ := id r'
  have fz : ∀ {c : Int32}, letF (M 73) en p = c → ∀ w, w < 4 → c = chrF w 0 → ∀ v, v < 4 → v ≠ w → mtF D K s0 en (wdS v) p 8 = 0 := fun {c} q w hw hcw v hv hne => mt_z h hwd hv (fun z => by
    have := z.symm.trans (q.trans hcw)
    exact hne ((show ∀ v, v < 4 → ∀ w, w < 4 → chrF v 0 = chrF w 0 → v = w by decide) v hv w hw this))
  have rW : ∀ x, Rg tc wc (up2 M 72 1 (M 72 1 + 1)) (up2 D 86 33 (nI x)) := fun x => r'.mv (fun _ _ _ _ => rfl) (fun a j q => up2_o _ _ (by omega))
  have cW : ∀ x, RlC (up2 D 86 33 (nI x)) := fun x => hc.mv (fun a j _ _ => up2_o _ _ (by omega))
  by_cases c0 : letF (M 73) en p = 104
  · rw [itemF_h c0]
    rcases it_first (tc := tc) (wc := wc) h' hen hp hwd (w := 3) (by decide) (fz c0 3 (by decide) rfl) (rm := 1) (lo := 0) (hi := 9) (by unfold flP; exact ⟨fun z => absurd z (by decide), fun z => by omega⟩) with ⟨q, f, a1, a2, a3⟩ | ⟨a1, a2, a3, a4, a5, a6⟩
    · exact ItR.bad (hoF_bad a1 a2) a2 a3
    · rw [a6]
      exact (it_hope rfl h' hen (rW _) (cW _) (up2_s _ _ _ _) a3 a1 a2 a5).wk (by omega)
  by_cases c1 : letF (M 73) en p = 109
  · rw [itemF_m c0 c1]
    rcases it_first (tc := tc) (wc := wc) h' hen hp hwd (w := 2) (by decide) (fz c1 2 (by decide) rfl) (rm := 1) (lo := 0) (hi := (up2 M 72 1 (M 72 1 + 1) 54 4 - 1)) (by unfold flP; exact ⟨fun z => absurd z (by decide), fun z => by omega⟩) with ⟨q, f, a1, a2, a3⟩ | ⟨a1, a2, a3, a4, a5, a6⟩
    · exact ItR.bad (moF_bad a1 a2) a2 a3
    · rw [a6]
      exact (it_move rfl h' hen (rW _) (cW _) (up2_s _ _ _ _) a3 a1 a2 a5).wk (by omega)
  by_cases c2 : letF (M 73) en p = 116
  · rw [itemF_t c0 c1 c2]
    have rm : bI (decide (up2 M 72 1 (M 72 1 + 1) 54 3 < 8)) = 0 ↔ flP tc wc 0 := by
      rw [h3]
      have k : nI tc < 8 ↔ tc < 8 := nI_lt_iff (b := 8) (by omega) (by omega)
      unfold flP
      exact ⟨fun z => Or.inl ⟨rfl, by
        have : ¬ tc < 8 := fun q => bI0 z (k.mpr q)
        omega⟩, fun z => bIe (fun q => by
        have := k.mp q
        omega)⟩
    rcases it_first (tc := tc) (wc := wc) h' hen hp hwd (w := 0) (by decide) (fz c2 0 (by decide) rfl) (lo := 0) (hi := 9) rm with ⟨q, f, a1, a2, a3⟩ | ⟨a1, a2, a3, a4, a5, a6⟩
    · exact ItR.bad (thF_bad a1 a2) a2 a3
    · rw [a6]
      exact (it_thing rfl h' hen (rW _) (cW _) (up2_s _ _ _ _) a3 a1 a2 a5 (by unfold flP at a4; omega)).wk (by omega)
  by_cases c3 : letF (M 73) en p = 119
  · rw [itemF_w c0 c1 c2 c3]
    have rm : bI (decide (up2 M 72 1 (M 72 1 + 1) 54 4 < 6)) = 0 ↔ flP tc wc 1 := by
      rw [h4]
      have k : nI wc < 6 ↔ wc < 6 := nI_lt_iff (b := 6) (by omega) (by omega)
      unfold flP
      exact ⟨fun z => Or.inr ⟨rfl, by
        have : ¬ wc < 6 := fun q => bI0 z (k.mpr q)
        omega⟩, fun z => bIe (fun q => by
        have := k.mp q
        omega)⟩
    rcases it_first (tc := tc) (wc := wc) h' hen hp hwd (w := 1) (by decide) (fz c3 1 (by decide) rfl) (lo := 0) (hi := 6) rm with ⟨q, f, a1, a2, a3⟩ | ⟨a1, a2, a3, a4, a5, a6⟩
    · exact ItR.bad (waF_bad a1 a2) a2 a3
    · rw [a6]
      exact (it_waiter rfl h' hen (rW _) (cW _) (up2_s _ _ _ _) a3 a1 a2 a5 (by unfold flP at a4; omega)).wk (by omega)
  · rw [itemF_d c0 c1 c2 c3]
    have hz : ∀ v, v < 4 → mtF D K s0 en (wdS v) p 8 = 0 := fun v hv => mt_z h hwd hv (fun z => by
      rcases (show v = 0 ∨ v = 1 ∨ v = 2 ∨ v = 3 by omega) with rfl | rfl | rfl | rfl
      · exact c2 z
      · exact c3 z
      · exact c1 z
      · exact c0 z)
    have sf := st_fl (tc := tc) (wc := wc) (w := 3) hwd (by decide) (fun v hv _ => hz v hv)
    refine ItR.bad rfl (nI_neg1 p (by omega)) ?_
    unfold itemR
    rw [if_neg (fun q => by have := (sf.mp q).2; unfold flP at this; omega), wordV_no (fun v hv => by
      rw [hz v hv]
      have := fw_L hv
      omega), if_pos rfl, far_w (w := 3) (by decide) (fun v hv _ => hz v hv), hz 3 (by decide)]
    rfl
theorem item_72 {q : Nat} (hc : cntN M) : (itemF M en (q, -1)).1 72 1 = M 72 1 + 1 := by
  have e : up2 M 72 1 (M 72 1 + 1) 72 1 = M 72 1 + 1 := up2_s _ _ _ _
  by_cases c0 : letF (M 73) en q = 104
  · rw [itemF_h c0]
    unfold hoF
    dsimp only
    split
    · rw [up2_o _ _ (by omega), e]
    · exact e
  by_cases c1 : letF (M 73) en q = 109
  · rw [itemF_m c0 c1]
    unfold moF
    dsimp only
    split
    · split
      · next z =>
        have := (fIx_lt 6 z.1 z.2.2 (by decide)).2.2
        rw [up2_o _ _ (by omega), e]
      · exact e
    · exact e
  by_cases c2 : letF (M 73) en q = 116
  · rw [itemF_t c0 c1 c2]
    unfold thF
    dsimp only
    split
    · split
      · next z => rw [aT_o (by omega) (by omega), e]
      · exact e
    · exact e
  by_cases c3 : letF (M 73) en q = 119
  · rw [itemF_w c0 c1 c2 c3]
    unfold waF
    dsimp only
    split
    · split
      · next z => rw [aW_o (by omega) (by omega), e]
      · exact e
    · exact e
  · rw [itemF_d c0 c1 c2 c3]
    exact e
end GT
