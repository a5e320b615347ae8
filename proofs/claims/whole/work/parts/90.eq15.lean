/-! a guild read from a text: one item, class and reference -/
section GI
variable {M D N : Nat → Nat → Int32} {K : Nat → Nat → Int64} {s0 en p tc wc : Nat}
/-- the draft and the reference's own guild -/
def Rg (tc wc : Nat) (M N : Nat → Nat → Int32) : Prop := (M 54 3 = nI tc ∧ N 86 1 = nI tc ∧ tc ≤ 8 ∧ M 54 4 = nI wc ∧ N 86 0 = nI wc ∧ wc ≤ 6) ∧ (∀ t, t < 8 → ∀ j, j < 7 → M (58 + t) j = N (93 + j) t) ∧ (∀ w, w < 6 → ∀ j, 1 ≤ j → j ≤ 5 → M (66 + w) j = N (87 + j) w) ∧ (∀ j, 5 ≤ j → j ≤ 9 → M 54 j = N 86 (j - 3)) ∧ RlO M 54 wc
theorem Rg.mv (h : Rg tc wc M D) {M' D' : Nat → Nat → Int32} (hm : ∀ a j, 54 ≤ a → a < 72 → M' a j = M a j) (hn : ∀ a j, ((88 ≤ a ∧ a ≤ 99) ∨ (a = 86 ∧ j ≤ 6)) → D' a j = D a j) : Rg tc wc M' D' := by
  obtain ⟨⟨a1, a2, a3, a4, a5, a6⟩, b, c, d, e⟩ := h
  refine ⟨⟨(hm _ _ (by omega) (by omega)).trans a1, (hn _ _ (by omega)).trans a2, a3, (hm _ _ (by omega) (by omega)).trans a4, (hn _ _ (by omega)).trans a5, a6⟩, fun t ht j hj => ?_, fun w hw j h1 h5 => ?_, fun j h5 h9 => ?_, e.mv (fun a j q1 q2 => hm a j (by omega) (by omega)) (hm _ _ (by omega) (by omega))⟩
  · rw [hm _ _ (by omega) (by omega), hn _ _ (by omega)]; exact b t ht j hj
  · rw [hm _ _ (by omega) (by omega), hn _ _ (by omega)]; exact c w hw j h1 h5
  · rw [hm _ _ (by omega) (by omega), hn _ _ (by omega)]; exact d j h5 h9
theorem aT_at {t j : Nat} {c f l n w s a : Int32} (hj : j < 7) : addT M 54 t c f l n w s a (58 + t) j = [c, f, l, n, w, s, a].getD j 0 := by
  unfold addT
  rcases (show j = 0 ∨ j = 1 ∨ j = 2 ∨ j = 3 ∨ j = 4 ∨ j = 5 ∨ j = 6 by omega) with rfl | rfl | rfl | rfl | rfl | rfl | rfl <;> (repeat rw [up2_o _ _ (by omega)]) <;> exact up2_s _ _ _ _
theorem aT_o {t b j : Nat} {c f l n w s a : Int32} (h : b ≠ 58 + t) (h2 : b ≠ 54 ∨ j ≠ 3) : addT M 54 t c f l n w s a b j = M b j := by
  unfold addT
  repeat rw [up2_o _ _ (by omega)]
theorem aT_3 {t : Nat} {c f l n w s a : Int32} : addT M 54 t c f l n w s a 54 3 = nI (t + 1) := up2_s _ _ _ _
theorem aW_at {t j : Nat} {k a p q c : Int32} (h1 : 1 ≤ j) (h5 : j ≤ 5) : addW M 54 t k a p q c (66 + t) j = [0, k, a, p, q, c].getD j 0 := by
  unfold addW
  rcases (show j = 1 ∨ j = 2 ∨ j = 3 ∨ j = 4 ∨ j = 5 by omega) with rfl | rfl | rfl | rfl | rfl <;> (repeat rw [up2_o _ _ (by omega)]) <;> exact up2_s _ _ _ _
theorem aW_o {t b j : Nat} {k a p q c : Int32} (h : b ≠ 66 + t ∨ j = 0) (h2 : b ≠ 54 ∨ j ≠ 4) : addW M 54 t k a p q c b j = M b j := by
  unfold addW
  repeat rw [up2_o _ _ (by omega)]
theorem aW_4 {t : Nat} {k a p q c : Int32} : addW M 54 t k a p q c 54 4 = nI (t + 1) := up2_s _ _ _ _
theorem Rg.addT (r : Rg tc wc M D) (ht : tc < 8) {c f l n w s a : Int32} (h : thP c f l n w s a) : Rg (tc + 1) wc (addT M 54 tc c f l n w s a) (a_X8_addsThing D K c f l n w s a tc).2.1 := by
  obtain ⟨⟨h3, g1, h8, h4, g0, h6⟩, rt, rw', rs, o1, o2, o3, o4⟩ := r
  refine ⟨⟨aT_3, addsT_1, by omega, (aT_o (by omega) (by omega)).trans h4, (addsT_o (by omega) (by omega)).trans g0, h6⟩, ?_, ?_, ?_, ?_⟩
  · intro t ht j hj
    by_cases e : t = tc
    · subst e
      rw [aT_at hj, addsT_at hj]
    · rw [aT_o (by omega) (by omega), addsT_o (by omega) (by omega)]
      exact rt t ht j hj
  · intro w hw j h1 h5
    rw [aT_o (by omega) (by omega), addsT_o (by omega) (by omega)]
    exact rw' w hw j h1 h5
  · intro j h5 h9
    rw [aT_o (by omega) (by omega), addsT_o (by omega) (by omega)]
    exact rs j h5 h9
  · refine ⟨fun t ht => ?_, fun w hw => ?_, ?_, fun w hw h6 => ?_⟩
    · rw [show 54 + 4 + t = 58 + t from rfl]
      by_cases e : t = tc
      · subst e
        unfold okT
        rw [aT_at (by omega), aT_at (by omega), aT_at (by omega), aT_at (by omega), aT_at (by omega), aT_at (by omega), aT_at (by omega)]
        exact ⟨h.1, ⟨h.2.1.1, h.2.2.1.1, h.2.2.1.2⟩, h.2.2.2.1, h.2.2.2.2.1, h.2.2.2.2.2.1, h.2.2.2.2.2.2⟩
      · have := o1 t ht
        unfold okT at this ⊢
        rw [aT_o (by omega) (by omega), aT_o (by omega) (by omega), aT_o (by omega) (by omega), aT_o (by omega) (by omega), aT_o (by omega) (by omega), aT_o (by omega) (by omega), aT_o (by omega) (by omega)]
        exact this
    · have := o2 w hw
      unfold okW at this ⊢
      rw [aT_o (by omega) (by omega), aT_o (by omega) (by omega), aT_o (by omega) (by omega), aT_o (by omega) (by omega), aT_o (by omega) (by omega)]
      exact this
    · rw [aT_o (by omega) (by omega)]; exact o3
    · rw [aT_o (by omega) (by omega)]; exact o4 w hw h6
theorem Rg.addW (r : Rg tc wc M D) (hw : wc < 6) {k a p q c : Int32} (hk : 0 ≤ k ∧ k ≤ 6) (h : waP a p q c) : Rg tc (wc + 1) (addW M 54 wc k a p q c) (a_X8_addsWaiter D K k a p q c wc).2.1 := by
  obtain ⟨⟨h3, g1, h8, h4, g0, h6⟩, rt, rw', rs, o1, o2, o3, o4⟩ := r
  obtain ⟨p1, p2, p3, p4⟩ := h
  refine ⟨⟨(aW_o (by omega) (by omega)).trans h3, (addsW_o (by omega) (by omega)).trans g1, h8, aW_4, addsW_0, by omega⟩, ?_, ?_, ?_, ?_⟩
  · intro t ht j hj
    rw [aW_o (by omega) (by omega), addsW_o (by omega) (by omega)]
    exact rt t ht j hj
  · intro w hw j h1 h5
    by_cases e : w = wc
    · subst e
      rw [aW_at h1 h5, addsW_at h1 h5]
    · rw [aW_o (by omega) (by omega), addsW_o (by omega) (by omega)]
      exact rw' w hw j h1 h5
  · intro j h5 h9
    rw [aW_o (by omega) (by omega), addsW_o (by omega) (by omega)]
    exact rs j h5 h9
  · refine ⟨fun t ht => ?_, fun w hw => ?_, ?_, fun w hw h6 => ?_⟩
    · have := o1 t ht
      unfold okT at this ⊢
      rw [aW_o (by omega) (by omega), aW_o (by omega) (by omega), aW_o (by omega) (by omega), aW_o (by omega) (by omega), aW_o (by omega) (by omega), aW_o (by omega) (by omega), aW_o (by omega) (by omega)]
      exact this
    · rw [show 54 + 12 + w = 66 + w from rfl]
      by_cases e : w = wc
      · subst e
        unfold okW
        rw [aW_at (by omega) (by omega), aW_at (by omega) (by omega), aW_at (by omega) (by omega), aW_at (by omega) (by omega), aW_at (by omega) (by omega)]
        exact ⟨hk, p1, ⟨Int32.le_trans (by decide) p2.1, p2.2⟩, ⟨Int32.le_trans (by decide) p3.1, p3.2⟩, p4⟩
      · have := o2 w hw
        unfold okW at this ⊢
        rw [aW_o (by omega) (by omega), aW_o (by omega) (by omega), aW_o (by omega) (by omega), aW_o (by omega) (by omega), aW_o (by omega) (by omega)]
        exact this
    · rw [aW_o (by omega) (by omega)]; exact o3
    · rw [show 54 + 12 + w = 66 + w from rfl]
      by_cases e : w = wc
      · subst e
        rw [aW_at (by omega) (by omega)]
        exact p3.1
      · rw [aW_o (by omega) (by omega)]; exact o4 w (by omega) h6
theorem Rg.mo (r : Rg tc wc M D) {w : Nat} (hw : w < 6) {c : Int32} (hc : 0 ≤ c ∧ c ≤ 9) : Rg tc wc (up2 M (66 + w) 5 c) (up2 D 92 w c) := by
  obtain ⟨⟨h3, g1, h8, h4, g0, h6⟩, rt, rw', rs, o1, o2, o3, o4⟩ := r
  refine ⟨⟨(up2_o _ _ (by omega)).trans h3, (up2_o _ _ (by omega)).trans g1, h8, (up2_o _ _ (by omega)).trans h4, (up2_o _ _ (by omega)).trans g0, h6⟩, ?_, ?_, ?_, ?_⟩
  · intro t ht j hj
    rw [up2_o _ _ (by omega), up2_o _ _ (by omega)]
    exact rt t ht j hj
  · intro v hv j h1 h5
    rw [up2_at, up2_at]
    by_cases e : v = w ∧ j = 5
    · rw [if_pos (by omega), if_pos (by omega)]
    · rw [if_neg (by omega), if_neg (by omega)]
      exact rw' v hv j h1 h5
  · intro j h5 h9
    rw [up2_o _ _ (by omega), up2_o _ _ (by omega)]
    exact rs j h5 h9
  · refine ⟨fun t ht => ?_, fun v hv => ?_, ?_, fun v hv h6 => ?_⟩
    · have := o1 t ht
      unfold okT at this ⊢
      rw [up2_o _ _ (by omega), up2_o _ _ (by omega), up2_o _ _ (by omega), up2_o _ _ (by omega), up2_o _ _ (by omega), up2_o _ _ (by omega), up2_o _ _ (by omega)]
      exact this
    · have := o2 v hv
      unfold okW at this ⊢
      refine ⟨by rw [up2_o _ _ (by omega)]; exact this.1, by rw [up2_o _ _ (by omega)]; exact this.2.1, by rw [up2_o _ _ (by omega)]; exact this.2.2.1, by rw [up2_o _ _ (by omega)]; exact this.2.2.2.1, ?_⟩
      rw [up2_at]
      split
      · exact hc
      · exact this.2.2.2.2
    · rw [up2_o _ _ (by omega)]; exact o3
    · rw [up2_o _ _ (by omega)]; exact o4 v hv h6
theorem Rg.ho (r : Rg tc wc M D) {c : Int32} (hc : 0 ≤ c ∧ c ≤ 9) : Rg tc wc (up2 M 54 5 c) (up2 D 86 2 c) := by
  obtain ⟨⟨h3, g1, h8, h4, g0, h6⟩, rt, rw', rs, ro⟩ := r
  refine ⟨⟨(up2_o _ _ (by omega)).trans h3, (up2_o _ _ (by omega)).trans g1, h8, (up2_o _ _ (by omega)).trans h4, (up2_o _ _ (by omega)).trans g0, h6⟩, ?_, ?_, ?_, ?_⟩
  · intro t ht j hj
    rw [up2_o _ _ (by omega), up2_o _ _ (by omega)]
    exact rt t ht j hj
  · intro v hv j h1 h5
    rw [up2_o _ _ (by omega), up2_o _ _ (by omega)]
    exact rw' v hv j h1 h5
  · intro j h5 h9
    rw [up2_at, up2_at]
    by_cases e : j = 5
    · rw [if_pos (by omega), if_pos (by omega)]
    · rw [if_neg (by omega), if_neg (by omega)]
      exact rs j h5 h9
  · obtain ⟨o1, o2, o3, o4⟩ := ro
    refine ⟨fun t ht => ?_, fun v hv => ?_, ?_, fun v hv h6 => ?_⟩
    · have := o1 t ht
      unfold okT at this ⊢
      rw [up2_o _ _ (by omega), up2_o _ _ (by omega), up2_o _ _ (by omega), up2_o _ _ (by omega), up2_o _ _ (by omega), up2_o _ _ (by omega), up2_o _ _ (by omega)]
      exact this
    · have := o2 v hv
      unfold okW at this ⊢
      rw [up2_o _ _ (by omega), up2_o _ _ (by omega), up2_o _ _ (by omega), up2_o _ _ (by omega), up2_o _ _ (by omega)]
      exact this
    · rw [up2_s]; exact hc
    · rw [up2_o _ _ (by omega)]; exact o4 v hv h6
theorem so_a {b v : Int32} (h : 0 ≤ v) : (if b < v then (0 : Int32) else 1) = 0 ↔ ¬ (0 ≤ v ∧ v ≤ b) := by
  by_cases c : b < v
  · rw [if_pos c]
    exact ⟨fun _ q => Int32.not_le.mpr c q.2, fun _ => rfl⟩
  · rw [if_neg c]
    exact ⟨fun q => absurd q (by decide), fun q => absurd ⟨h, Int32.not_lt.mp c⟩ q⟩
theorem so_b {b lo v : Int32} : (if b < v then (0 : Int32) else if v < lo then 0 else 1) = 0 ↔ ¬ (lo ≤ v ∧ v ≤ b) := by
  by_cases c : b < v
  · rw [if_pos c]
    exact ⟨fun _ q => Int32.not_le.mpr c q.2, fun _ => rfl⟩
  · rw [if_neg c]
    by_cases d : v < lo
    · rw [if_pos d]
      exact ⟨fun _ q => Int32.not_le.mpr d q.1, fun _ => rfl⟩
    · rw [if_neg d]
      exact ⟨fun q => absurd q (by decide), fun q => absurd ⟨Int32.not_lt.mp d, Int32.not_lt.mp c⟩ q⟩
theorem so_c {wc : Nat} (hw : wc ≤ 6) {v : Int32} (h : 0 ≤ v) : (if nI wc ≤ v then (0 : Int32) else 1) = 0 ↔ ¬ (0 ≤ v ∧ v ≤ nI wc - 1) := by
  have k : v ≤ nI wc - 1 ↔ v < nI wc := by
    have e := (show ∀ w, w < 7 → ((nI w - 1).toInt = w - 1 ∧ (nI w).toInt = w) by decide +kernel) wc (by omega)
    rw [Int32.le_iff_toInt_le, Int32.lt_iff_toInt_lt, e.1, e.2]
    omega
  rw [k]
  by_cases c : nI wc ≤ v
  · rw [if_pos c]
    exact ⟨fun _ q => Int32.not_lt.mpr c q.2, fun _ => rfl⟩
  · rw [if_neg c]
    exact ⟨fun q => absurd q (by decide), fun q => absurd ⟨h, Int32.not_le.mp c⟩ q⟩
/-- what an item of a text comes to, with the class and with the reference -/
def ItR (wc : Nat) (D : Nat → Nat → Int32) (K : Nat → Nat → Int64) (en p : Nat) (c : fS) (R : fR) : Prop :=
  (∃ E q f, c.2 = (q, f) ∧ ¬ f = -1 ∧ R = (0, E, K) ∧ E 86 36 = f ∧ frX D E) ∨ (∃ E q tc' wc', c.2 = (q, -1) ∧ R = (1, E, K) ∧ E 86 33 = nI q ∧ q ≤ en ∧ p ≤ q ∧ frX D E ∧ wc ≤ wc' ∧ Rg tc' wc' c.1 E)
theorem frZ.x {E : Nat → Nat → Int32} (h : frZ D E) : frX D E := fun a j _ q2 q3 => h a j q2 (by omega)
theorem frX.tr {A B C : Nat → Nat → Int32} (h1 : frX A B) (h2 : frX B C) : frX A C := fun a j q1 q2 q3 => (h2 a j q1 q2 q3).trans (h1 a j q1 q2 q3)
def soP (D : Nat → Nat → Int32) (K : Nat → Nat → Int64) (w i : Int32) (i0 : Nat) (lo hi : Int32) : Prop := ∀ Y : Nat → Nat → Int32, (∀ a j, (a ≠ 86 ∨ (j ≠ 33 ∧ j ≠ 35 ∧ j ≠ 36)) → Y a j = D a j) → 0 ≤ Y 86 35 → (a_X8_isSo Y K w i i0 = 0 ↔ ¬ (lo ≤ Y 86 35 ∧ Y 86 35 ≤ hi))
theorem lp_nm {lt : Nat → Int32} (h : ltP lt K s0 en) {pl i f p : Nat} {s : Nat × Int32} {lo hi : Int32} {D : Nat → Nat → Int32} (hen : en ≤ 160) (hp : p ≤ en)
    (hs : (i = 0 ∧ signF lt en 32 s = (p, -1)) ∨ (1 ≤ i ∧ s = (p, -1))) (hX : D 86 33 = nI p)
    (hso : soP D K (nI (wdx N K s0 pl en)) (nI i) i lo hi) :
    (∃ v E q, numF lt en lo hi s = (v, (q, -1)) ∧ lp_X8_item_57 N K tc wc s0 pl en (f + 1) i D = lp_X8_item_57 N K tc wc s0 pl en f (i + 1) E ∧ E 86 33 = nI q ∧ q ≤ en ∧ p ≤ q ∧ E 110 i = v ∧ (∀ j, j ≠ i → E 110 j = D 110 j) ∧ frZ D E ∧ lo ≤ v ∧ v ≤ hi) ∨
    (∃ v E q f', numF lt en lo hi s = (v, (q, f')) ∧ ¬ f' = -1 ∧ lp_X8_item_57 N K tc wc s0 pl en (f + 1) i D = (0, E, K) ∧ E 86 36 = f' ∧ frZ D E) := by
  rcases lp_num h hen hp hs hX hso with ⟨E, q, a1, a2, a3, a4, a5, a6, a7⟩ | ⟨E, q, f', a1, a2⟩
  · exact Or.inl ⟨_, E, q, Prod.ext rfl a1, a2, a3, a4, a5, a6, a7⟩
  · exact Or.inr ⟨_, E, q, f', Prod.ext rfl a1, a2⟩
theorem it_thing {lt : Nat → Int32} (hlt : M 73 = lt) (h : ltP lt K s0 en) (hen : en ≤ 160) (r : Rg tc wc M D) (hc : RlC D) {pl q0 : Nat} {s t : Nat × Int32} (hX0 : D 86 33 = nI q0) (hq0 : q0 ≤ en) (hw : wordsF lt en 0 (bI (decide (M 54 3 < 8))) t = s) (es : signF lt en 32 s = (q0, -1)) (hx : wdx N K s0 pl en = 0) (ht : tc < 8) : ItR wc D K en q0 (thF M en t) (lp_X8_item_57 N K tc wc s0 pl en 7 0 D) := by
  obtain ⟨⟨h3, g1, h8, h4, g0, h6⟩, -⟩ := id r
  have etc : tcN M = tc := by unfold tcN; rw [h3, nI_clamp (by omega)]
  unfold thF
  subst hlt
  have so1 : soP D K (nI (wdx N K s0 pl en)) (nI 0) 0 0 9 := by
    intro Y fr h0
    rw [hx]
    unfold a_X8_isSo
    rw [if_pos (show nI 0 = 0 from rfl), fr 108 0 (by omega), hc.2.2.1 0 (by decide), show moA 0 = 9 from rfl, if_neg (show ¬ nI 0 = 2 by decide)]
    exact so_a h0
  rcases lp_nm (tc := tc) (wc := wc) (N := N) h (pl := pl) (i := 0) (f := 6) (s := s) (lo := 0) (hi := 9) (D := D) hen hq0 (Or.inl ⟨rfl, es⟩) hX0 so1 with ⟨v1, E1, q1, e1, l1, hX1, hq1, hp1, at1, oth1, fr1, lo1, hi1⟩ | ⟨v1, E1, q1, f1, e1, nf, l1, ft, fr1⟩
  · have so2 : soP E1 K (nI (wdx N K s0 pl en)) (nI 1) 1 0 23 := by
      intro Y fr h0
      rw [hx]
      unfold a_X8_isSo
      rw [if_pos (show nI 0 = 0 from rfl), fr 108 1 (by omega), fr1 108 1 (by decide) (Or.inl (by decide)), hc.2.2.1 1 (by decide), show moA 1 = 23 from rfl, if_neg (show ¬ nI 1 = 2 by decide)]
      exact so_a h0
    rcases lp_nm (tc := tc) (wc := wc) (N := N) h (pl := pl) (i := 1) (f := 5) (s := (q1, -1)) (lo := 0) (hi := 23) (D := E1) hen hq1 (Or.inr ⟨by decide, rfl⟩) hX1 so2 with ⟨v2, E2, q2, e2, l2, hX2, hq2, hp2, at2, oth2, fr2, lo2, hi2⟩ | ⟨v2, E2, q2, f2, e2, nf, l2, ft, fr2⟩
    · have so3 : soP E2 K (nI (wdx N K s0 pl en)) (nI 2) 2 v2 23 := by
        intro Y fr h0
        rw [hx]
        unfold a_X8_isSo
        rw [if_pos (show nI 0 = 0 from rfl), fr 108 2 (by omega), fr 110 1 (by omega), fr2 108 2 (by decide) (Or.inl (by decide)), fr1 108 2 (by decide) (Or.inl (by decide)), hc.2.2.1 2 (by decide), show moA 2 = 23 from rfl, at2, if_pos (show nI 2 = 2 from rfl)]
        exact so_b
      rcases lp_nm (tc := tc) (wc := wc) (N := N) h (pl := pl) (i := 2) (f := 4) (s := (q2, -1)) (lo := v2) (hi := 23) (D := E2) hen hq2 (Or.inr ⟨by decide, rfl⟩) hX2 so3 with ⟨v3, E3, q3, e3, l3, hX3, hq3, hp3, at3, oth3, fr3, lo3, hi3⟩ | ⟨v3, E3, q3, f3, e3, nf, l3, ft, fr3⟩
      · have so4 : soP E3 K (nI (wdx N K s0 pl en)) (nI 3) 3 0 9 := by
          intro Y fr h0
          rw [hx]
          unfold a_X8_isSo
          rw [if_pos (show nI 0 = 0 from rfl), fr 108 3 (by omega), fr3 108 3 (by decide) (Or.inl (by decide)), fr2 108 3 (by decide) (Or.inl (by decide)), fr1 108 3 (by decide) (Or.inl (by decide)), hc.2.2.1 3 (by decide), show moA 3 = 9 from rfl, if_neg (show ¬ nI 3 = 2 by decide)]
          exact so_a h0
        rcases lp_nm (tc := tc) (wc := wc) (N := N) h (pl := pl) (i := 3) (f := 3) (s := (q3, -1)) (lo := 0) (hi := 9) (D := E3) hen hq3 (Or.inr ⟨by decide, rfl⟩) hX3 so4 with ⟨v4, E4, q4, e4, l4, hX4, hq4, hp4, at4, oth4, fr4, lo4, hi4⟩ | ⟨v4, E4, q4, f4, e4, nf, l4, ft, fr4⟩
        · have so5 : soP E4 K (nI (wdx N K s0 pl en)) (nI 4) 4 0 99 := by
            intro Y fr h0
            rw [hx]
            unfold a_X8_isSo
            rw [if_pos (show nI 0 = 0 from rfl), fr 108 4 (by omega), fr4 108 4 (by decide) (Or.inl (by decide)), fr3 108 4 (by decide) (Or.inl (by decide)), fr2 108 4 (by decide) (Or.inl (by decide)), fr1 108 4 (by decide) (Or.inl (by decide)), hc.2.2.1 4 (by decide), show moA 4 = 99 from rfl, if_neg (show ¬ nI 4 = 2 by decide)]
            exact so_a h0
          rcases lp_nm (tc := tc) (wc := wc) (N := N) h (pl := pl) (i := 4) (f := 2) (s := (q4, -1)) (lo := 0) (hi := 99) (D := E4) hen hq4 (Or.inr ⟨by decide, rfl⟩) hX4 so5 with ⟨v5, E5, q5, e5, l5, hX5, hq5, hp5, at5, oth5, fr5, lo5, hi5⟩ | ⟨v5, E5, q5, f5, e5, nf, l5, ft, fr5⟩
          · have so6 : soP E5 K (nI (wdx N K s0 pl en)) (nI 5) 5 0 9 := by
              intro Y fr h0
              rw [hx]
              unfold a_X8_isSo
              rw [if_pos (show nI 0 = 0 from rfl), fr 108 5 (by omega), fr5 108 5 (by decide) (Or.inl (by decide)), fr4 108 5 (by decide) (Or.inl (by decide)), fr3 108 5 (by decide) (Or.inl (by decide)), fr2 108 5 (by decide) (Or.inl (by decide)), fr1 108 5 (by decide) (Or.inl (by decide)), hc.2.2.1 5 (by decide), show moA 5 = 9 from rfl, if_neg (show ¬ nI 5 = 2 by decide)]
              exact so_a h0
            rcases lp_nm (tc := tc) (wc := wc) (N := N) h (pl := pl) (i := 5) (f := 1) (s := (q5, -1)) (lo := 0) (hi := 9) (D := E5) hen hq5 (Or.inr ⟨by decide, rfl⟩) hX5 so6 with ⟨v6, E6, q6, e6, l6, hX6, hq6, hp6, at6, oth6, fr6, lo6, hi6⟩ | ⟨v6, E6, q6, f6, e6, nf, l6, ft, fr6⟩
            · have so7 : soP E6 K (nI (wdx N K s0 pl en)) (nI 6) 6 0 20 := by
                intro Y fr h0
                rw [hx]
                unfold a_X8_isSo
                rw [if_pos (show nI 0 = 0 from rfl), fr 108 6 (by omega), fr6 108 6 (by decide) (Or.inl (by decide)), fr5 108 6 (by decide) (Or.inl (by decide)), fr4 108 6 (by decide) (Or.inl (by decide)), fr3 108 6 (by decide) (Or.inl (by decide)), fr2 108 6 (by decide) (Or.inl (by decide)), fr1 108 6 (by decide) (Or.inl (by decide)), hc.2.2.1 6 (by decide), show moA 6 = 20 from rfl, if_neg (show ¬ nI 6 = 2 by decide)]
                exact so_a h0
              rcases lp_nm (tc := tc) (wc := wc) (N := N) h (pl := pl) (i := 6) (f := 0) (s := (q6, -1)) (lo := 0) (hi := 20) (D := E6) hen hq6 (Or.inr ⟨by decide, rfl⟩) hX6 so7 with ⟨v7, E7, q7, e7, l7, hX7, hq7, hp7, at7, oth7, fr7, lo7, hi7⟩ | ⟨v7, E7, q7, f7, e7, nf, l7, ft, fr7⟩
              · have x0 : E7 110 0 = v1 := ((oth7 0 (by decide)).trans ((oth6 0 (by decide)).trans ((oth5 0 (by decide)).trans ((oth4 0 (by decide)).trans ((oth3 0 (by decide)).trans ((oth2 0 (by decide)).trans at1))))))
                have x1 : E7 110 1 = v2 := ((oth7 1 (by decide)).trans ((oth6 1 (by decide)).trans ((oth5 1 (by decide)).trans ((oth4 1 (by decide)).trans ((oth3 1 (by decide)).trans at2)))))
                have x2 : E7 110 2 = v3 := ((oth7 2 (by decide)).trans ((oth6 2 (by decide)).trans ((oth5 2 (by decide)).trans ((oth4 2 (by decide)).trans at3))))
                have x3 : E7 110 3 = v4 := ((oth7 3 (by decide)).trans ((oth6 3 (by decide)).trans ((oth5 3 (by decide)).trans at4)))
                have x4 : E7 110 4 = v5 := ((oth7 4 (by decide)).trans ((oth6 4 (by decide)).trans at5))
                have x5 : E7 110 5 = v6 := ((oth7 5 (by decide)).trans at6)
                have x6 : E7 110 6 = v7 := at7
                have FR : frZ D E7 := (fr1.tr (fr2.tr (fr3.tr (fr4.tr (fr5.tr (fr6.tr fr7))))))
                have LL : lp_X8_item_57 N K tc wc s0 pl en 7 0 D = lp_X8_item_57 N K tc wc s0 pl en 0 7 E7 := (l1.trans (l2.trans (l3.trans (l4.trans (l5.trans (l6.trans l7))))))
                have RR : Rg tc wc M E7 := r.mv (fun _ _ _ _ => rfl) (fun a j q => FR a j (by omega) (by omega))
                rw [LL, lp_X8_item_57_0, x0, x1, x2, x3, x4, x5, x6]
                simp only [hw, e1, e2, e3, e4, e5, e6, e7, if_true]
                rw [if_pos hx, if_pos (show tcN M < 8 by omega), etc]
                exact Or.inr ⟨_, q7, tc + 1, wc, rfl, rfl, (addsT_o (by omega) (by omega)).trans hX7, hq7, (Nat.le_trans hp1 (Nat.le_trans hp2 (Nat.le_trans hp3 (Nat.le_trans hp4 (Nat.le_trans hp5 (Nat.le_trans hp6 hp7)))))), fun a j y1 y2 y3 => (addsT_o (by omega) (by omega)).trans (FR a j y2 (by omega)), Nat.le_refl _, RR.addT ht ⟨⟨lo1, hi1⟩, ⟨lo2, hi2⟩, ⟨lo3, hi3⟩, ⟨lo4, hi4⟩, ⟨lo5, hi5⟩, ⟨lo6, hi6⟩, ⟨lo7, hi7⟩⟩⟩
              · simp only [hw, e1, e2, e3, e4, e5, e6, e7, num_f nf]
                exact Or.inl ⟨E7, q7, f7, rfl, nf, (l1.trans (l2.trans (l3.trans (l4.trans (l5.trans (l6.trans l7)))))), ft, (fr1.tr (fr2.tr (fr3.tr (fr4.tr (fr5.tr (fr6.tr fr7)))))).x⟩
            · simp only [hw, e1, e2, e3, e4, e5, e6, num_f nf]
              exact Or.inl ⟨E6, q6, f6, rfl, nf, (l1.trans (l2.trans (l3.trans (l4.trans (l5.trans l6))))), ft, (fr1.tr (fr2.tr (fr3.tr (fr4.tr (fr5.tr fr6))))).x⟩
          · simp only [hw, e1, e2, e3, e4, e5, num_f nf]
            exact Or.inl ⟨E5, q5, f5, rfl, nf, (l1.trans (l2.trans (l3.trans (l4.trans l5)))), ft, (fr1.tr (fr2.tr (fr3.tr (fr4.tr fr5)))).x⟩
        · simp only [hw, e1, e2, e3, e4, num_f nf]
          exact Or.inl ⟨E4, q4, f4, rfl, nf, (l1.trans (l2.trans (l3.trans l4))), ft, (fr1.tr (fr2.tr (fr3.tr fr4))).x⟩
      · simp only [hw, e1, e2, e3, num_f nf]
        exact Or.inl ⟨E3, q3, f3, rfl, nf, (l1.trans (l2.trans l3)), ft, (fr1.tr (fr2.tr fr3)).x⟩
    · simp only [hw, e1, e2, num_f nf]
      exact Or.inl ⟨E2, q2, f2, rfl, nf, (l1.trans l2), ft, (fr1.tr fr2).x⟩
  · simp only [hw, e1, num_f nf]
    exact Or.inl ⟨E1, q1, f1, rfl, nf, l1, ft, fr1.x⟩
theorem it_waiter {lt : Nat → Int32} (hlt : M 73 = lt) (h : ltP lt K s0 en) (hen : en ≤ 160) (r : Rg tc wc M D) (hc : RlC D) {pl q0 : Nat} {s t : Nat × Int32} (hX0 : D 86 33 = nI q0) (hq0 : q0 ≤ en) (hw : wordsF lt en 1 (bI (decide (M 54 4 < 6))) t = s) (es : signF lt en 32 s = (q0, -1)) (hx : wdx N K s0 pl en = 1) (ht : wc < 6) : ItR wc D K en q0 (waF M en t) (lp_X8_item_57 N K tc wc s0 pl en 5 0 D) := by
  obtain ⟨⟨h3, g1, h8, h4, g0, h6⟩, -⟩ := id r
  have ewc : wcN M = wc := by unfold wcN; rw [h4, nI_clamp (by omega)]
  unfold waF
  subst hlt
  have so1 : soP D K (nI (wdx N K s0 pl en)) (nI 0) 0 0 6 := by
    intro Y fr h0
    rw [hx]
    unfold a_X8_isSo
    rw [if_neg (show ¬ nI 1 = 0 by decide), if_pos (show nI 1 = 1 from rfl), fr 109 0 (by omega), hc.2.2.2 0 (by decide), show otA 0 = 6 from rfl, if_neg (show ¬ nI 0 = 2 by decide), if_neg (show ¬ nI 0 = 3 by decide)]
    exact so_a h0
  rcases lp_nm (tc := tc) (wc := wc) (N := N) h (pl := pl) (i := 0) (f := 4) (s := s) (lo := 0) (hi := 6) (D := D) hen hq0 (Or.inl ⟨rfl, es⟩) hX0 so1 with ⟨v1, E1, q1, e1, l1, hX1, hq1, hp1, at1, oth1, fr1, lo1, hi1⟩ | ⟨v1, E1, q1, f1, e1, nf, l1, ft, fr1⟩
  · have so2 : soP E1 K (nI (wdx N K s0 pl en)) (nI 1) 1 0 9 := by
      intro Y fr h0
      rw [hx]
      unfold a_X8_isSo
      rw [if_neg (show ¬ nI 1 = 0 by decide), if_pos (show nI 1 = 1 from rfl), fr 109 1 (by omega), fr1 109 1 (by decide) (Or.inl (by decide)), hc.2.2.2 1 (by decide), show otA 1 = 9 from rfl, if_neg (show ¬ nI 1 = 2 by decide), if_neg (show ¬ nI 1 = 3 by decide)]
      exact so_a h0
    rcases lp_nm (tc := tc) (wc := wc) (N := N) h (pl := pl) (i := 1) (f := 3) (s := (q1, -1)) (lo := 0) (hi := 9) (D := E1) hen hq1 (Or.inr ⟨by decide, rfl⟩) hX1 so2 with ⟨v2, E2, q2, e2, l2, hX2, hq2, hp2, at2, oth2, fr2, lo2, hi2⟩ | ⟨v2, E2, q2, f2, e2, nf, l2, ft, fr2⟩
    · have so3 : soP E2 K (nI (wdx N K s0 pl en)) (nI 2) 2 1 9 := by
        intro Y fr h0
        rw [hx]
        unfold a_X8_isSo
        rw [if_neg (show ¬ nI 1 = 0 by decide), if_pos (show nI 1 = 1 from rfl), fr 109 2 (by omega), fr2 109 2 (by decide) (Or.inl (by decide)), fr1 109 2 (by decide) (Or.inl (by decide)), hc.2.2.2 2 (by decide), show otA 2 = 9 from rfl, if_pos (show nI 2 = 2 from rfl)]
        exact so_b
      rcases lp_nm (tc := tc) (wc := wc) (N := N) h (pl := pl) (i := 2) (f := 2) (s := (q2, -1)) (lo := 1) (hi := 9) (D := E2) hen hq2 (Or.inr ⟨by decide, rfl⟩) hX2 so3 with ⟨v3, E3, q3, e3, l3, hX3, hq3, hp3, at3, oth3, fr3, lo3, hi3⟩ | ⟨v3, E3, q3, f3, e3, nf, l3, ft, fr3⟩
      · have so4 : soP E3 K (nI (wdx N K s0 pl en)) (nI 3) 3 1 24 := by
          intro Y fr h0
          rw [hx]
          unfold a_X8_isSo
          rw [if_neg (show ¬ nI 1 = 0 by decide), if_pos (show nI 1 = 1 from rfl), fr 109 3 (by omega), fr3 109 3 (by decide) (Or.inl (by decide)), fr2 109 3 (by decide) (Or.inl (by decide)), fr1 109 3 (by decide) (Or.inl (by decide)), hc.2.2.2 3 (by decide), show otA 3 = 24 from rfl, if_neg (show ¬ nI 3 = 2 by decide), if_pos (show nI 3 = 3 from rfl)]
          exact so_b
        rcases lp_nm (tc := tc) (wc := wc) (N := N) h (pl := pl) (i := 3) (f := 1) (s := (q3, -1)) (lo := 1) (hi := 24) (D := E3) hen hq3 (Or.inr ⟨by decide, rfl⟩) hX3 so4 with ⟨v4, E4, q4, e4, l4, hX4, hq4, hp4, at4, oth4, fr4, lo4, hi4⟩ | ⟨v4, E4, q4, f4, e4, nf, l4, ft, fr4⟩
        · have so5 : soP E4 K (nI (wdx N K s0 pl en)) (nI 4) 4 0 9 := by
            intro Y fr h0
            rw [hx]
            unfold a_X8_isSo
            rw [if_neg (show ¬ nI 1 = 0 by decide), if_pos (show nI 1 = 1 from rfl), fr 109 4 (by omega), fr4 109 4 (by decide) (Or.inl (by decide)), fr3 109 4 (by decide) (Or.inl (by decide)), fr2 109 4 (by decide) (Or.inl (by decide)), fr1 109 4 (by decide) (Or.inl (by decide)), hc.2.2.2 4 (by decide), show otA 4 = 9 from rfl, if_neg (show ¬ nI 4 = 2 by decide), if_neg (show ¬ nI 4 = 3 by decide)]
            exact so_a h0
          rcases lp_nm (tc := tc) (wc := wc) (N := N) h (pl := pl) (i := 4) (f := 0) (s := (q4, -1)) (lo := 0) (hi := 9) (D := E4) hen hq4 (Or.inr ⟨by decide, rfl⟩) hX4 so5 with ⟨v5, E5, q5, e5, l5, hX5, hq5, hp5, at5, oth5, fr5, lo5, hi5⟩ | ⟨v5, E5, q5, f5, e5, nf, l5, ft, fr5⟩
          · have x0 : E5 110 0 = v1 := ((oth5 0 (by decide)).trans ((oth4 0 (by decide)).trans ((oth3 0 (by decide)).trans ((oth2 0 (by decide)).trans at1))))
            have x1 : E5 110 1 = v2 := ((oth5 1 (by decide)).trans ((oth4 1 (by decide)).trans ((oth3 1 (by decide)).trans at2)))
            have x2 : E5 110 2 = v3 := ((oth5 2 (by decide)).trans ((oth4 2 (by decide)).trans at3))
            have x3 : E5 110 3 = v4 := ((oth5 3 (by decide)).trans at4)
            have x4 : E5 110 4 = v5 := at5
            have FR : frZ D E5 := (fr1.tr (fr2.tr (fr3.tr (fr4.tr fr5))))
            have LL : lp_X8_item_57 N K tc wc s0 pl en 5 0 D = lp_X8_item_57 N K tc wc s0 pl en 0 5 E5 := (l1.trans (l2.trans (l3.trans (l4.trans l5))))
            have RR : Rg tc wc M E5 := r.mv (fun _ _ _ _ => rfl) (fun a j q => FR a j (by omega) (by omega))
            rw [LL, lp_X8_item_57_0, x0, x1, x2, x3, x4]
            simp only [hw, e1, e2, e3, e4, e5, if_true]
            rw [if_neg (show ¬ wdx N K s0 pl en = 0 by omega), if_pos hx, if_pos (show wcN M < 6 by omega), ewc]
            exact Or.inr ⟨_, q5, tc, wc + 1, rfl, rfl, (addsW_o (by omega) (by omega)).trans hX5, hq5, (Nat.le_trans hp1 (Nat.le_trans hp2 (Nat.le_trans hp3 (Nat.le_trans hp4 hp5)))), fun a j y1 y2 y3 => (addsW_o (by omega) (by omega)).trans (FR a j y2 (by omega)), Nat.le_succ _, RR.addW ht ⟨lo1, hi1⟩ ⟨⟨lo2, hi2⟩, ⟨lo3, hi3⟩, ⟨lo4, hi4⟩, ⟨lo5, hi5⟩⟩⟩
          · simp only [hw, e1, e2, e3, e4, e5, num_f nf]
            exact Or.inl ⟨E5, q5, f5, rfl, nf, (l1.trans (l2.trans (l3.trans (l4.trans l5)))), ft, (fr1.tr (fr2.tr (fr3.tr (fr4.tr fr5)))).x⟩
        · simp only [hw, e1, e2, e3, e4, num_f nf]
          exact Or.inl ⟨E4, q4, f4, rfl, nf, (l1.trans (l2.trans (l3.trans l4))), ft, (fr1.tr (fr2.tr (fr3.tr fr4))).x⟩
      · simp only [hw, e1, e2, e3, num_f nf]
        exact Or.inl ⟨E3, q3, f3, rfl, nf, (l1.trans (l2.trans l3)), ft, (fr1.tr (fr2.tr fr3)).x⟩
    · simp only [hw, e1, e2, num_f nf]
      exact Or.inl ⟨E2, q2, f2, rfl, nf, (l1.trans l2), ft, (fr1.tr fr2).x⟩
  · simp only [hw, e1, num_f nf]
    exact Or.inl ⟨E1, q1, f1, rfl, nf, l1, ft, fr1.x⟩
theorem it_move {lt : Nat → Int32} (hlt : M 73 = lt) (h : ltP lt K s0 en) (hen : en ≤ 160) (r : Rg tc wc M D) (hc : RlC D) {pl q0 : Nat} {s t : Nat × Int32} (hX0 : D 86 33 = nI q0) (hq0 : q0 ≤ en) (hw : wordsF lt en 2 1 t = s) (es : signF lt en 32 s = (q0, -1)) (hx : wdx N K s0 pl en = 2) : ItR wc D K en q0 (moF M en t) (lp_X8_item_57 N K tc wc s0 pl en 2 0 D) := by
  obtain ⟨⟨h3, g1, h8, h4, g0, h6⟩, -⟩ := id r
  unfold moF
  subst hlt
  have so1 : soP D K (nI (wdx N K s0 pl en)) (nI 0) 0 0 (M 54 4 - 1) := by
    intro Y fr h0
    rw [hx]
    unfold a_X8_isSo
    rw [if_neg (show ¬ nI 2 = 0 by decide), if_neg (show ¬ nI 2 = 1 by decide), if_pos (show nI 2 = 2 from rfl), if_pos (show nI 0 = 0 from rfl), fr 86 0 (by omega), g0, h4]
    exact so_c h6 h0
  rcases lp_nm (tc := tc) (wc := wc) (N := N) h (pl := pl) (i := 0) (f := 1) (s := s) (lo := 0) (hi := (M 54 4 - 1)) (D := D) hen hq0 (Or.inl ⟨rfl, es⟩) hX0 so1 with ⟨v1, E1, q1, e1, l1, hX1, hq1, hp1, at1, oth1, fr1, lo1, hi1⟩ | ⟨v1, E1, q1, f1, e1, nf, l1, ft, fr1⟩
  · have so2 : soP E1 K (nI (wdx N K s0 pl en)) (nI 1) 1 0 9 := by
      intro Y fr h0
      rw [hx]
      unfold a_X8_isSo
      rw [if_neg (show ¬ nI 2 = 0 by decide), if_neg (show ¬ nI 2 = 1 by decide), if_pos (show nI 2 = 2 from rfl), if_neg (show ¬ nI 1 = 0 by decide)]
      exact so_a h0
    rcases lp_nm (tc := tc) (wc := wc) (N := N) h (pl := pl) (i := 1) (f := 0) (s := (q1, -1)) (lo := 0) (hi := 9) (D := E1) hen hq1 (Or.inr ⟨by decide, rfl⟩) hX1 so2 with ⟨v2, E2, q2, e2, l2, hX2, hq2, hp2, at2, oth2, fr2, lo2, hi2⟩ | ⟨v2, E2, q2, f2, e2, nf, l2, ft, fr2⟩
    · have x0 : E2 110 0 = v1 := ((oth2 0 (by decide)).trans at1)
      have x1 : E2 110 1 = v2 := at2
      have FR : frZ D E2 := (fr1.tr fr2)
      have LL : lp_X8_item_57 N K tc wc s0 pl en 2 0 D = lp_X8_item_57 N K tc wc s0 pl en 0 2 E2 := (l1.trans l2)
      have RR : Rg tc wc M E2 := r.mv (fun _ _ _ _ => rfl) (fun a j q => FR a j (by omega) (by omega))
      rw [LL, lp_X8_item_57_0, x0, x1]
      simp only [hw, e1, e2, if_true]
      have k : v1 ≤ nI wc - 1 ↔ v1 < nI wc := by
        have e := (show ∀ w, w < 7 → ((nI w - 1).toInt = w - 1 ∧ (nI w).toInt = w) by decide +kernel) wc (by omega)
        rw [Int32.le_iff_toInt_le, Int32.lt_iff_toInt_lt, e.1, e.2]
        omega
      have hlt1 : v1 < nI wc := k.mp (h4 ▸ hi1)
      obtain ⟨t1, ht1, et1⟩ := i_lt wc lo1 hlt1 (by omega)
      have h66 : v1 < 6 := by rw [et1]; exact (nI_lt_iff (b := 6) (by omega) (by omega)).mpr (by omega)
      rw [if_neg (show ¬ wdx N K s0 pl en = 0 by omega), if_neg (show ¬ wdx N K s0 pl en = 1 by omega), if_pos hx, if_pos (show 0 ≤ v1 ∧ v1 < M 54 4 ∧ v1 < 6 from ⟨lo1, by rw [h4]; exact hlt1, h66⟩)]
      have ec : v1.toNatClampNeg < 6 := by rw [et1, nI_clamp (by omega)]; omega
      exact Or.inr ⟨_, q2, tc, wc, rfl, rfl, (up2_o _ _ (by omega)).trans hX2, hq2, (Nat.le_trans hp1 hp2), fun a j y1 y2 y3 => (up2_o _ _ (by omega)).trans (FR a j y2 (by omega)), Nat.le_refl _, RR.mo ec ⟨lo2, hi2⟩⟩
    · simp only [hw, e1, e2, num_f nf]
      exact Or.inl ⟨E2, q2, f2, rfl, nf, (l1.trans l2), ft, (fr1.tr fr2).x⟩
  · simp only [hw, e1, num_f nf]
    exact Or.inl ⟨E1, q1, f1, rfl, nf, l1, ft, fr1.x⟩
theorem it_hope {lt : Nat → Int32} (hlt : M 73 = lt) (h : ltP lt K s0 en) (hen : en ≤ 160) (r : Rg tc wc M D) (hc : RlC D) {pl q0 : Nat} {s t : Nat × Int32} (hX0 : D 86 33 = nI q0) (hq0 : q0 ≤ en) (hw : wordsF lt en 3 1 t = s) (es : signF lt en 32 s = (q0, -1)) (hx : wdx N K s0 pl en = 3) : ItR wc D K en q0 (hoF M en t) (lp_X8_item_57 N K tc wc s0 pl en 1 0 D) := by
  obtain ⟨⟨h3, g1, h8, h4, g0, h6⟩, -⟩ := id r
  unfold hoF
  subst hlt
  have so1 : soP D K (nI (wdx N K s0 pl en)) (nI 0) 0 0 9 := by
    intro Y fr h0
    rw [hx]
    unfold a_X8_isSo
    rw [if_neg (show ¬ nI 3 = 0 by decide), if_neg (show ¬ nI 3 = 1 by decide), if_neg (show ¬ nI 3 = 2 by decide)]
    exact so_a h0
  rcases lp_nm (tc := tc) (wc := wc) (N := N) h (pl := pl) (i := 0) (f := 0) (s := s) (lo := 0) (hi := 9) (D := D) hen hq0 (Or.inl ⟨rfl, es⟩) hX0 so1 with ⟨v1, E1, q1, e1, l1, hX1, hq1, hp1, at1, oth1, fr1, lo1, hi1⟩ | ⟨v1, E1, q1, f1, e1, nf, l1, ft, fr1⟩
  · have x0 : E1 110 0 = v1 := at1
    have FR : frZ D E1 := fr1
    have LL : lp_X8_item_57 N K tc wc s0 pl en 1 0 D = lp_X8_item_57 N K tc wc s0 pl en 0 1 E1 := l1
    have RR : Rg tc wc M E1 := r.mv (fun _ _ _ _ => rfl) (fun a j q => FR a j (by omega) (by omega))
    rw [LL, lp_X8_item_57_0, x0]
    simp only [hw, e1, if_true]
    rw [if_neg (show ¬ wdx N K s0 pl en = 0 by omega), if_neg (show ¬ wdx N K s0 pl en = 1 by omega), if_neg (show ¬ wdx N K s0 pl en = 2 by omega)]
    exact Or.inr ⟨_, q1, tc, wc, rfl, rfl, (up2_o _ _ (by omega)).trans hX1, hq1, hp1, fun a j y1 y2 y3 => (up2_o _ _ (by omega)).trans (FR a j y2 (by omega)), Nat.le_refl _, RR.ho ⟨lo1, hi1⟩⟩
  · simp only [hw, e1, num_f nf]
    exact Or.inl ⟨E1, q1, f1, rfl, nf, l1, ft, fr1.x⟩
end GI
