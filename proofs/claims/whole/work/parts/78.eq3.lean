/-! the calls that change the guild -/
section GU
variable {tc wc : Nat} {M N : Nat → Nat → Int32} {L K : Nat → Nat → Int64}
def thP (c f l n w s a : Int32) : Prop := (0 ≤ c ∧ c ≤ 9) ∧ (0 ≤ f ∧ f ≤ 23) ∧ (f ≤ l ∧ l ≤ 23) ∧ (0 ≤ n ∧ n ≤ 9) ∧ (0 ≤ w ∧ w ≤ 99) ∧ (0 ≤ s ∧ s ≤ 9) ∧ (0 ≤ a ∧ a ≤ 20)
def waP (a p q c : Int32) : Prop := (0 ≤ a ∧ a ≤ 9) ∧ (1 ≤ p ∧ p ≤ 9) ∧ (1 ≤ q ∧ q ≤ 24) ∧ (0 ≤ c ∧ c ≤ 9)
theorem addT_at {t j : Nat} {c f l n w s a : Int32} (hj : j < 7) : addT M 18 t c f l n w s a (22 + t) j = [c, f, l, n, w, s, a].getD j 0 := by
  unfold addT
  rcases (show j = 0 ∨ j = 1 ∨ j = 2 ∨ j = 3 ∨ j = 4 ∨ j = 5 ∨ j = 6 by omega) with rfl | rfl | rfl | rfl | rfl | rfl | rfl <;> (repeat rw [up2_o _ _ (by omega)]) <;> exact up2_s _ _ _ _
theorem addT_o {t b j : Nat} {c f l n w s a : Int32} (h : b ≠ 22 + t) (h2 : b ≠ 18 ∨ j ≠ 3) : addT M 18 t c f l n w s a b j = M b j := by
  unfold addT
  repeat rw [up2_o _ _ (by omega)]
theorem addT_3 {t : Nat} {c f l n w s a : Int32} : addT M 18 t c f l n w s a 18 3 = nI (t + 1) := up2_s _ _ _ _
theorem addsT_at {t j : Nat} {c f l n w s a : Int32} (hj : j < 7) : (a_X8_addsThing N K c f l n w s a t).2.1 (93 + j) t = [c, f, l, n, w, s, a].getD j 0 := by
  unfold a_X8_addsThing
  dsimp only
  rcases (show j = 0 ∨ j = 1 ∨ j = 2 ∨ j = 3 ∨ j = 4 ∨ j = 5 ∨ j = 6 by omega) with rfl | rfl | rfl | rfl | rfl | rfl | rfl <;> (repeat rw [up2_o _ _ (by omega)]) <;> exact up2_s _ _ _ _
theorem addsT_o {t b j : Nat} {c f l n w s a : Int32} (h : b < 93 ∨ 99 < b ∨ j ≠ t) (h2 : b ≠ 86 ∨ j ≠ 1) : (a_X8_addsThing N K c f l n w s a t).2.1 b j = N b j := by
  unfold a_X8_addsThing
  dsimp only
  repeat rw [up2_o _ _ (by omega)]
theorem addsT_1 {t : Nat} {c f l n w s a : Int32} : (a_X8_addsThing N K c f l n w s a t).2.1 86 1 = nI (t + 1) := by
  unfold a_X8_addsThing
  dsimp only
  exact up2_s _ _ _ _
theorem addW_at {t j : Nat} {k a p q c : Int32} (h1 : 1 ≤ j) (h5 : j ≤ 5) : addW M 18 t k a p q c (30 + t) j = [0, k, a, p, q, c].getD j 0 := by
  unfold addW
  rcases (show j = 1 ∨ j = 2 ∨ j = 3 ∨ j = 4 ∨ j = 5 by omega) with rfl | rfl | rfl | rfl | rfl <;> (repeat rw [up2_o _ _ (by omega)]) <;> exact up2_s _ _ _ _
theorem addW_o {t b j : Nat} {k a p q c : Int32} (h : b ≠ 30 + t ∨ j = 0) (h2 : b ≠ 18 ∨ j ≠ 4) : addW M 18 t k a p q c b j = M b j := by
  unfold addW
  repeat rw [up2_o _ _ (by omega)]
theorem addW_4 {t : Nat} {k a p q c : Int32} : addW M 18 t k a p q c 18 4 = nI (t + 1) := up2_s _ _ _ _
theorem addsW_at {t j : Nat} {k a p q c : Int32} (h1 : 1 ≤ j) (h5 : j ≤ 5) : (a_X8_addsWaiter N K k a p q c t).2.1 (87 + j) t = [0, k, a, p, q, c].getD j 0 := by
  unfold a_X8_addsWaiter
  dsimp only
  rcases (show j = 1 ∨ j = 2 ∨ j = 3 ∨ j = 4 ∨ j = 5 by omega) with rfl | rfl | rfl | rfl | rfl <;> (repeat rw [up2_o _ _ (by omega)]) <;> exact up2_s _ _ _ _
theorem addsW_o {t b j : Nat} {k a p q c : Int32} (h : b < 88 ∨ 92 < b ∨ j ≠ t) (h2 : b ≠ 86 ∨ j ≠ 0) : (a_X8_addsWaiter N K k a p q c t).2.1 b j = N b j := by
  unfold a_X8_addsWaiter
  dsimp only
  repeat rw [up2_o _ _ (by omega)]
theorem addsW_0 {t : Nat} {k a p q c : Int32} : (a_X8_addsWaiter N K k a p q c t).2.1 86 0 = nI (t + 1) := by
  unfold a_X8_addsWaiter
  dsimp only
  exact up2_s _ _ _ _
/-- a thing more -/
theorem Rl.addT (r : Rl tc wc M L N K) (ht : tc < 8) {c f l n w s a : Int32} (h : thP c f l n w s a) : Rl (tc + 1) wc (addT M 18 tc c f l n w s a) L (a_X8_addsThing N K c f l n w s a tc).2.1 K := by
  obtain ⟨h3, g1, h8, h4, g0, h6⟩ := r.n
  refine r.gu (fun b j q => addT_o (by omega) (by omega)) (fun b j q => addsT_o (by omega) (by omega)) ⟨addT_3, addsT_1, by omega, (addT_o (by omega) (by omega)).trans h4, (addsT_o (by omega) (by omega)).trans g0, h6⟩ ?_ ?_ ?_ ?_ (Nat.le_refl _)
  · intro t ht j hj
    by_cases e : t = tc
    · subst e
      rw [addT_at hj, addsT_at hj]
    · rw [addT_o (by omega) (by omega), addsT_o (by omega) (by omega)]
      exact r.t t ht j hj
  · intro w hw
    rw [addT_o (by omega) (by omega)]
    refine ⟨(r.w w hw).1, fun j h1 h5 => ?_⟩
    rw [addT_o (by omega) (by omega), addsT_o (by omega) (by omega)]
    exact (r.w w hw).2 j h1 h5
  · intro j h5 h9
    rw [addT_o (by omega) (by omega), addsT_o (by omega) (by omega)]
    exact r.s j h5 h9
  · obtain ⟨o1, o2, o3, o4⟩ := r.o
    refine ⟨fun t ht => ?_, fun w hw => ?_, ?_, fun w hw h6 => ?_⟩
    · rw [show 18 + 4 + t = 22 + t from rfl]
      by_cases e : t = tc
      · subst e
        unfold okT
        rw [addT_at (by omega), addT_at (by omega), addT_at (by omega), addT_at (by omega), addT_at (by omega), addT_at (by omega), addT_at (by omega)]
        exact ⟨h.1, ⟨h.2.1.1, h.2.2.1.1, h.2.2.1.2⟩, h.2.2.2.1, h.2.2.2.2.1, h.2.2.2.2.2.1, h.2.2.2.2.2.2⟩
      · have := o1 t ht
        unfold okT at this ⊢
        rw [addT_o (by omega) (by omega), addT_o (by omega) (by omega), addT_o (by omega) (by omega), addT_o (by omega) (by omega), addT_o (by omega) (by omega), addT_o (by omega) (by omega), addT_o (by omega) (by omega)]
        exact this
    · have := o2 w hw
      unfold okW at this ⊢
      rw [addT_o (by omega) (by omega), addT_o (by omega) (by omega), addT_o (by omega) (by omega), addT_o (by omega) (by omega), addT_o (by omega) (by omega)]
      exact this
    · rw [addT_o (by omega) (by omega)]; exact o3
    · rw [addT_o (by omega) (by omega)]; exact o4 w hw h6
/-- a waiter more -/
theorem Rl.addW (r : Rl tc wc M L N K) (hw : wc < 6) {k a p q c : Int32} (hk : 0 ≤ k ∧ k ≤ 6) (h : waP a p q c) : Rl tc (wc + 1) (addW M 18 wc k a p q c) L (a_X8_addsWaiter N K k a p q c wc).2.1 K := by
  obtain ⟨h3, g1, h8, h4, g0, h6⟩ := r.n
  refine r.gu (fun b j q => addW_o (by omega) (by omega)) (fun b j q => addsW_o (by omega) (by omega)) ⟨(addW_o (by omega) (by omega)).trans h3, (addsW_o (by omega) (by omega)).trans g1, h8, addW_4, addsW_0, by omega⟩ ?_ ?_ ?_ ?_ (by omega)
  · intro t ht j hj
    rw [addW_o (by omega) (by omega), addsW_o (by omega) (by omega)]
    exact r.t t ht j hj
  · intro w hw
    rw [addW_o (by omega) (by omega)]
    refine ⟨(r.w w hw).1, fun j h1 h5 => ?_⟩
    by_cases e : w = wc
    · subst e
      rw [addW_at h1 h5, addsW_at h1 h5]
    · rw [addW_o (by omega) (by omega), addsW_o (by omega) (by omega)]
      exact (r.w w hw).2 j h1 h5
  · intro j h5 h9
    rw [addW_o (by omega) (by omega), addsW_o (by omega) (by omega)]
    exact r.s j h5 h9
  · obtain ⟨o1, o2, o3, o4⟩ := r.o
    obtain ⟨p1, p2, p3, p4⟩ := h
    refine ⟨fun t ht => ?_, fun w hw => ?_, ?_, fun w hw h6 => ?_⟩
    · have := o1 t ht
      unfold okT at this ⊢
      rw [addW_o (by omega) (by omega), addW_o (by omega) (by omega), addW_o (by omega) (by omega), addW_o (by omega) (by omega), addW_o (by omega) (by omega), addW_o (by omega) (by omega), addW_o (by omega) (by omega)]
      exact this
    · rw [show 18 + 12 + w = 30 + w from rfl]
      by_cases e : w = wc
      · subst e
        unfold okW
        rw [addW_at (by omega) (by omega), addW_at (by omega) (by omega), addW_at (by omega) (by omega), addW_at (by omega) (by omega), addW_at (by omega) (by omega)]
        exact ⟨hk, p1, ⟨Int32.le_trans (by decide) p2.1, p2.2⟩, ⟨Int32.le_trans (by decide) p3.1, p3.2⟩, p4⟩
      · have := o2 w hw
        unfold okW at this ⊢
        rw [addW_o (by omega) (by omega), addW_o (by omega) (by omega), addW_o (by omega) (by omega), addW_o (by omega) (by omega), addW_o (by omega) (by omega)]
        exact this
    · rw [addW_o (by omega) (by omega)]; exact o3
    · rw [show 18 + 12 + w = 30 + w from rfl]
      by_cases e : w = wc
      · subst e
        rw [addW_at (by omega) (by omega)]
        exact p3.1
      · rw [addW_o (by omega) (by omega)]; exact o4 w (by omega) h6
/-- a waiter goes to a corner -/
theorem Rl.goW (r : Rl tc wc M L N K) {w : Nat} (hw : w < 6) {c : Int32} (hc : 0 ≤ c ∧ c ≤ 9) : Rl tc wc (up2 M (30 + w) 5 c) L (up2 N 92 w c) K := by
  obtain ⟨h3, g1, h8, h4, g0, h6⟩ := r.n
  refine r.gu (fun b j q => up2_o _ _ (by omega)) (fun b j q => up2_o _ _ (by omega)) ⟨(up2_o _ _ (by omega)).trans h3, (up2_o _ _ (by omega)).trans g1, h8, (up2_o _ _ (by omega)).trans h4, (up2_o _ _ (by omega)).trans g0, h6⟩ ?_ ?_ ?_ ?_ (Nat.le_refl _)
  · intro t ht j hj
    rw [up2_o _ _ (by omega), up2_o _ _ (by omega)]
    exact r.t t ht j hj
  · intro v hv
    rw [up2_o _ _ (by omega)]
    refine ⟨(r.w v hv).1, fun j h1 h5 => ?_⟩
    rw [up2_at, up2_at]
    by_cases e : v = w ∧ j = 5
    · rw [if_pos (by omega), if_pos (by omega)]
    · rw [if_neg (by omega), if_neg (by omega)]
      exact (r.w v hv).2 j h1 h5
  · intro j h5 h9
    rw [up2_o _ _ (by omega), up2_o _ _ (by omega)]
    exact r.s j h5 h9
  · obtain ⟨o1, o2, o3, o4⟩ := r.o
    refine ⟨fun t ht => ?_, fun v hv => ?_, ?_, fun v hv h6 => ?_⟩
    · have := o1 t ht
      unfold okT at this ⊢
      rw [up2_o _ _ (by omega), up2_o _ _ (by omega), up2_o _ _ (by omega), up2_o _ _ (by omega), up2_o _ _ (by omega), up2_o _ _ (by omega), up2_o _ _ (by omega)]
      exact this
    · have := o2 v hv
      unfold okW at this ⊢
      refine ⟨by rw [up2_o _ _ (by omega)]; exact this.1, by rw [up2_o _ _ (by omega)]; exact this.2.1, by rw [up2_o _ _ (by omega)]; exact this.2.2.1, by rw [up2_o _ _ (by omega)]; exact this.2.2.2.1, ?_⟩
      rw [up2_at]
      split
      · exact hc
      · exact this.2.2.2.2
    · rw [up2_o _ _ (by omega)]; exact o3
    · rw [up2_o _ _ (by omega)]; exact o4 v hv h6
/-- one of the guild's numbers becomes another -/
theorem Rl.num (r : Rl tc wc M L N K) {i : Nat} (h5 : 5 ≤ i) (h9 : i ≤ 9) {v : Int32} (hv : i = 5 → 0 ≤ v ∧ v ≤ 9) : Rl tc wc (up2 M 18 i v) L (up2 N 86 (i - 3) v) K := by
  obtain ⟨h3, g1, h8, h4, g0, h6⟩ := r.n
  refine r.gu (fun b j q => up2_o _ _ (by omega)) (fun b j q => up2_o _ _ (by omega)) ⟨(up2_o _ _ (by omega)).trans h3, (up2_o _ _ (by omega)).trans g1, h8, (up2_o _ _ (by omega)).trans h4, (up2_o _ _ (by omega)).trans g0, h6⟩ (r.t.mv (fun _ _ _ _ => up2_o _ _ (by omega)) (fun _ _ _ _ => up2_o _ _ (by omega))) (r.w.mv (fun _ _ _ _ => up2_o _ _ (by omega)) (fun _ _ _ _ => up2_o _ _ (by omega))) ?_ ?_ (Nat.le_refl _)
  · intro j j5 j9
    rw [up2_at, up2_at]
    by_cases e : j = i
    · rw [if_pos ⟨rfl, e⟩, if_pos (by omega)]
    · rw [if_neg (fun q => e q.2), if_neg (by omega)]
      exact r.s j j5 j9
  · by_cases e : i = 5
    · subst e
      obtain ⟨o1, o2, o3, o4⟩ := r.o
      refine ⟨fun t ht => ?_, fun v hv => ?_, ?_, fun v hv h6 => ?_⟩
      · have := o1 t ht
        unfold okT at this ⊢
        rw [up2_o _ _ (by omega), up2_o _ _ (by omega), up2_o _ _ (by omega), up2_o _ _ (by omega), up2_o _ _ (by omega), up2_o _ _ (by omega), up2_o _ _ (by omega)]
        exact this
      · have := o2 v hv
        unfold okW at this ⊢
        rw [up2_o _ _ (by omega), up2_o _ _ (by omega), up2_o _ _ (by omega), up2_o _ _ (by omega), up2_o _ _ (by omega)]
        exact this
      · rw [up2_s]; exact hv rfl
      · rw [up2_o _ _ (by omega)]; exact o4 v hv h6
    · exact r.o.mv (fun _ _ _ _ => up2_o _ _ (by omega)) (up2_o _ _ (by omega))
theorem Ok.chg {R : Type} {M' N' : Nat → Nat → Int32} {v v' : R} {tc' wc' : Nat} (e : v = v') (r : Rl tc' wc' M' L N' K) (hm : ∀ a j, 86 ≤ a → M' a j = M a j) (hn : ∀ a j, a < 86 → N' a j = N a j) : Ok M L N K (v, M', L) (v', N', K) := ⟨e, ⟨tc', wc', r⟩, hm, fun _ _ _ => rfl, hn, fun _ _ _ => rfl⟩
theorem th7_no {c f l n w s a : Int32} {t : Nat} (h : ¬ thP c f l n w s a) : a_X7_thing M L c f l n w s a t = (-6, rfM M (-6), L) := by
  unfold a_X7_thing
  repeat' split
  all_goals first | rfl | (exfalso; apply h; exact ⟨by assumption, by assumption, by assumption, by assumption, by assumption, by assumption, by assumption⟩)
theorem th8_no {c f l n w s a : Int32} {t : Nat} (h : ¬ thP c f l n w s a) : a_X8_thing N K c f l n w s a t = (-6, noM N (-6), K) := by
  unfold a_X8_thing
  repeat' split
  all_goals first | rfl | (exfalso; apply h; exact ⟨by assumption, by assumption, by assumption, by assumption, by assumption, by assumption, by assumption⟩)
theorem e_thing (r : Rl tc wc M L N K) (c f l n w s a : Int32) : Ok M L N K (a_X7_thing M L c f l n w s a tc) (a_X8_thing N K c f l n w s a tc) := by
  by_cases h : thP c f l n w s a
  · obtain ⟨p1, p2, p3, p4, p5, p6, p7⟩ := id h
    unfold a_X7_thing a_X8_thing
    rw [if_pos p2, if_pos p3, if_pos p4, if_pos p5, if_pos p6, if_pos p7, if_pos p1, if_pos p1, if_pos p2, if_pos p3, if_pos p4, if_pos p5, if_pos p6, if_pos p7]
    have h8 := r.n.2.2.1
    by_cases ht : tc = 8
    · rw [if_neg (show ¬ M 18 3 < 8 from fun q => by
        rw [r.n.1, ht] at q; exact absurd q (by decide)), if_pos ht]
      exact Ok.ref r (by decide) (by decide) rfl
    · have h9 : tc < 8 := by omega
      rw [if_pos (show M 18 3 < 8 by rw [r.n.1]; exact (nI_lt_iff (b := 8) (by omega) (by omega)).mpr h9), if_neg ht, if_pos h9, if_pos h9]
      exact Ok.chg rfl (r.addT h9 h) (fun b j q => addT_o (by omega) (by omega)) (fun b j q => addsT_o (by omega) (by omega))
  · rw [th7_no h, th8_no h]
    exact Ok.ref r (by decide) (by decide) rfl
theorem e_waiter (r : Rl tc wc M L N K) (k a p q c : Int32) : Ok M L N K (a_X7_waiter M L k a p q c wc) (a_X8_waiter N K k a p q c wc) := by
  unfold a_X7_waiter a_X8_waiter
  by_cases hk : k < 0
  · rw [if_neg (show ¬ (0 ≤ k ∧ k ≤ 6) from fun q => absurd hk (Int32.not_lt.mpr q.1)), if_pos hk]
    exact Ok.ref r (by decide) (by decide) rfl
  rw [if_neg hk]
  by_cases hk6 : k ≤ 6
  · have hk9 : 0 ≤ k ∧ k ≤ 6 := ⟨Int32.not_lt.mp hk, hk6⟩
    rw [if_pos hk9, if_pos hk6]
    by_cases p1 : 0 ≤ a ∧ a ≤ 9
    · rw [if_pos p1, if_pos p1]
      by_cases p2 : 1 ≤ p ∧ p ≤ 9
      · rw [if_pos p2, if_pos p2]
        by_cases p3 : 1 ≤ q ∧ q ≤ 24
        · rw [if_pos p3, if_pos p3]
          by_cases p4 : 0 ≤ c ∧ c ≤ 9
          · rw [if_pos p4, if_pos p4]
            have h6 := r.h6
            by_cases hw : wc = 6
            · rw [if_neg (show ¬ M 18 4 < 6 from fun q => by
                rw [r.n.2.2.2.1, hw] at q; exact absurd q (by decide)), if_pos hw]
              exact Ok.ref r (by decide) (by decide) rfl
            · have h9 : wc < 6 := by omega
              rw [if_pos (show M 18 4 < 6 by rw [r.n.2.2.2.1]; exact (nI_lt_iff (b := 6) (by omega) (by omega)).mpr h9), if_neg hw, if_pos h9, if_pos h9]
              exact Ok.chg rfl (r.addW h9 hk9 ⟨p1, p2, p3, p4⟩) (fun b j q => addW_o (by omega) (by omega)) (fun b j q => addsW_o (by omega) (by omega))
          · rw [if_neg p4, if_neg p4]
            exact Ok.ref r (by decide) (by decide) rfl
        · rw [if_neg p3, if_neg p3]
          exact Ok.ref r (by decide) (by decide) rfl
      · rw [if_neg p2, if_neg p2]
        exact Ok.ref r (by decide) (by decide) rfl
    · rw [if_neg p1, if_neg p1]
      exact Ok.ref r (by decide) (by decide) rfl
  · rw [if_neg (show ¬ (0 ≤ k ∧ k ≤ 6) from fun q => hk6 q.2), if_neg hk6]
    exact Ok.ref r (by decide) (by decide) rfl
theorem e_move (r : Rl tc wc M L N K) (w c : Int32) : Ok M L N K (a_X7_move M L w c) (a_X8_move N K w c wc) := by
  unfold a_X7_move a_X8_move
  by_cases h : 0 ≤ w ∧ w < N 86 0
  · rw [if_pos ((r.wc_iff w).mpr h), if_pos h]
    obtain ⟨w0, h0, h6, -, ew⟩ := r.wx h
    rw [ew]
    by_cases hc : 0 ≤ c ∧ c ≤ 9
    · rw [if_pos hc, if_pos hc]
      exact Ok.chg (r.wv h6).2.2.2.2 (r.goW h6 hc) (fun b j q => up2_o _ _ (by omega)) (fun b j q => up2_o _ _ (by omega))
    · rw [if_neg hc, if_neg hc]
      exact Ok.ref r (by decide) (by decide) rfl
  · rw [if_neg (fun q => h ((r.wc_iff w).mp q)), if_neg h]
    exact Ok.ref r (by decide) (by decide) rfl
theorem e_ask (r : Rl tc wc M L N K) (v : Int32) : Ok M L N K (a_X7_ask M L v) (a_X8_ask N K v) := by
  unfold a_X7_ask a_X8_ask
  by_cases h : 0 ≤ v ∧ v ≤ 9
  · rw [if_pos h, if_pos h]
    exact Ok.chg r.hp (r.num (i := 5) (by omega) (by omega) (fun _ => h)) (fun b j q => up2_o _ _ (by omega)) (fun b j q => up2_o _ _ (by omega))
  · rw [if_neg h, if_neg h]
    exact Ok.ref r (by decide) (by decide) rfl
theorem e_seed (r : Rl tc wc M L N K) (v : Int32) : Ok M L N K (a_X7_seed M L v) (a_X8_seed N K v) :=
  Ok.chg (r.s 9 (by omega) (by omega)) (r.num (i := 9) (by omega) (by omega) (fun h => absurd h (by decide))) (fun b j q => up2_o _ _ (by omega)) (fun b j q => up2_o _ _ (by omega))
end GU
