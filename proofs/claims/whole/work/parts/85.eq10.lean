/-! told days -/
section TD
variable {tc wc : Nat} {M N D : Nat → Nat → Int32} {L K : Nat → Nat → Int64}
theorem bit_in {k t : Nat} (hk : k < 256) (ht : t < 8) : (nI k &&& (1 <<< (nI t &&& 31)) = 0) ↔ ¬ ((nI k >>> (nI t &&& 31)) &&& 1) = 1 := (show ∀ k, k < 256 → ∀ t, t < 8 → ((nI k &&& (1 <<< (nI t &&& 31)) = 0) ↔ ¬ ((nI k >>> (nI t &&& 31)) &&& 1) = 1) by decide +kernel) k hk t ht
theorem bit_or {k t : Nat} (hk : k < 256) (ht : t < 8) (h : nI k &&& (1 <<< (nI t &&& 31)) = 0) : nI k ||| (1 <<< (nI t &&& 31)) = nI (k + 2 ^ t) ∧ k + 2 ^ t < 256 := (show ∀ k, k < 256 → ∀ t, t < 8 → nI k &&& (1 <<< (nI t &&& 31)) = 0 → (nI k ||| (1 <<< (nI t &&& 31)) = nI (k + 2 ^ t) ∧ k + 2 ^ t < 256) by decide +kernel) k hk t ht h
/-- a told number that can be -/
def gdX (N : Nat → Nat → Int32) (tc : Nat) (v : Int32) : Prop := ¬ v < 0 ∧ v / 100 < nI tc ∧ ((N 94 (tT v) ≤ tQ v ∧ tQ v ≤ N 95 (tT v)) ∨ tQ v = 99 ∧ 0 < N 96 (tT v))
theorem gd_t (r : Rl tc wc M L N K) {v : Int32} (h0 : ¬ v < 0) (h1 : v / 100 < nI tc) : tT v < tc ∧ tT v < 8 ∧ v / 100 = nI (tT v) := by
  have h8 := r.n.2.2.1
  obtain ⟨t, ht, e⟩ := i_lt tc (div_nn h0) h1 (by omega)
  have : tT v = t := by unfold tT; rw [e, nI_clamp (by omega)]
  rw [this]
  exact ⟨ht, by omega, e⟩
theorem may_eq (r : Rl tc wc M L N K) (v : Int32) : mayG M v = true ↔ gdX N tc v := by
  have h8 := r.n.2.2.1
  unfold mayG mayB gdX
  rw [decide_eq_true_iff, r.n.1]
  constructor
  · rintro ⟨h1, ⟨h2, h3, h4⟩, h5⟩
    obtain ⟨-, t8, -⟩ := gd_t r h1 h3
    obtain ⟨e0, e1, e2, e3, -⟩ := r.tv t8
    dsimp only at h5
    rw [show 18 + 4 + tT v = 22 + tT v from rfl, e1, e2, e3] at h5
    exact ⟨h1, h3, h5⟩
  · rintro ⟨h1, h3, h5⟩
    obtain ⟨-, t8, et⟩ := gd_t r h1 h3
    obtain ⟨e0, e1, e2, e3, -⟩ := r.tv t8
    refine ⟨h1, ⟨div_nn h1, h3, ?_⟩, ?_⟩
    · rw [et]; exact (nI_lt_iff (b := 8) (by omega) (by omega)).mpr t8
    · dsimp only
      rw [show 18 + 4 + tT v = 22 + tT v from rfl, e1, e2, e3]
      exact h5
theorem not99 (r : Rl tc wc M L N K) {t : Nat} (ht : t < 8) {q : Int32} (h : q ≤ N 95 t) : ¬ q = 99 := by
  rintro rfl
  have := Int32.le_trans h (r.tok ht).2.1.2.2
  exact absurd this (by decide)
def stepD (N D : Nat → Nat → Int32) (v : Int32) : Nat → Nat → Int32 := if tQ v = 99 then up2 D 86 43 (D 86 43 + 1) else if N 99 (tT v) ≤ N 98 (tT v) then up2 (up2 D 86 41 (D 86 41 + 1)) 86 42 (D 86 42 + N 97 (tT v)) else D
def frW (N D : Nat → Nat → Int32) : Prop := ∀ a j, (a ≠ 86 ∨ j < 41 ∨ 43 < j) → D a j = N a j
theorem frW.st {v : Int32} (h : frW N D) : frW N (stepD N D v) := by
  intro a j q
  unfold stepD
  split
  · exact (up2_o _ _ (by omega)).trans (h a j q)
  · split
    · exact (up2_o _ _ (by omega)).trans ((up2_o _ _ (by omega)).trans (h a j q))
    · exact h a j q
theorem w_bad (r : Rl tc wc M L N K) (hD : frW N D) {x n : Int32} {s n0 f i k : Nat} (hk : k < 256) (h : ¬ (gdX N tc (qvF K s i) ∧ nI k &&& (1 <<< ((qvF K s i / 100) &&& 31)) = 0)) : lp_X8_wrongIn_20 N K x n tc s n0 (f + 1) i (nI k) D = (nI i, D, K) := by
  have ev : a_X8_intAt D K x (nI i) s i = qvF K s i := rfl
  rw [lp_X8_wrongIn_20_s, ev]
  generalize qvF K s i = v at h ⊢
  by_cases c1 : v < 0
  · rw [if_pos c1]
  rw [if_neg c1]
  by_cases c2 : nI tc ≤ v / 100
  · rw [if_pos c2]
  rw [if_neg c2]
  obtain ⟨-, t8, et⟩ := gd_t r c1 (Int32.not_le.mp c2)
  by_cases c3 : ((nI k >>> ((v / 100) &&& 31)) &&& 1) = 1
  · rw [if_pos c3]
  rw [if_neg c3]
  have hd : nI k &&& (1 <<< ((v / 100) &&& 31)) = 0 := by
    rw [et] at c3 ⊢
    exact (bit_in hk t8).mpr c3
  have hg : ¬ ((N 94 (tT v) ≤ tQ v ∧ tQ v ≤ N 95 (tT v)) ∨ tQ v = 99 ∧ 0 < N 96 (tT v)) := fun q => h ⟨⟨c1, Int32.not_le.mp c2, q⟩, hd⟩
  have e94 : D 94 ((v / 100).toNatClampNeg) = N 94 (tT v) := hD 94 _ (by omega)
  have e95 : D 95 ((v / 100).toNatClampNeg) = N 95 (tT v) := hD 95 _ (by omega)
  have e96 : D 96 ((v / 100).toNatClampNeg) = N 96 (tT v) := hD 96 _ (by omega)
  have eq : v - v / 100 * 100 = tQ v := rfl
  simp only [e94, e95, e96, eq]
  by_cases c4 : tQ v = 99
  · have c5 : N 96 (tT v) ≤ 0 := Int32.not_lt.mp (fun q => hg (Or.inr ⟨c4, q⟩))
    rw [if_pos c4, if_pos c5, if_neg (fun q => hg (Or.inl q))]
  · rw [if_neg c4, if_neg (fun q => hg (Or.inl q))]
theorem w_good (r : Rl tc wc M L N K) (hD : frW N D) {x n : Int32} {s n0 f i k : Nat} (hk : k < 256) (hg : gdX N tc (qvF K s i)) (hb : nI k &&& (1 <<< ((qvF K s i / 100) &&& 31)) = 0) : lp_X8_wrongIn_20 N K x n tc s n0 (f + 1) i (nI k) D = lp_X8_wrongIn_20 N K x n tc s n0 f (i + 1) (nI (k + 2 ^ tT (qvF K s i))) (stepD N D (qvF K s i)) ∧ k + 2 ^ tT (qvF K s i) < 256 := by
  have ev : a_X8_intAt D K x (nI i) s i = qvF K s i := rfl
  rw [lp_X8_wrongIn_20_s, ev]
  generalize qvF K s i = v at hg hb ⊢
  obtain ⟨c1, c2, c3⟩ := hg
  obtain ⟨-, t8, et⟩ := gd_t r c1 c2
  have hb2 := hb
  rw [et] at hb2
  obtain ⟨-, k2⟩ := bit_or hk t8 hb2
  have c4 : ¬ ((nI k >>> ((v / 100) &&& 31)) &&& 1) = 1 := by
    rw [et]
    exact (bit_in hk t8).mp hb2
  have esn : nI k + (1 <<< ((v / 100) &&& 31)) = nI (k + 2 ^ tT v) := by
    rw [et, add_bit (by omega)]
  have e94 : D 94 ((v / 100).toNatClampNeg) = N 94 (tT v) := hD 94 _ (by omega)
  have e95 : D 95 ((v / 100).toNatClampNeg) = N 95 (tT v) := hD 95 _ (by omega)
  have e96 : D 96 ((v / 100).toNatClampNeg) = N 96 (tT v) := hD 96 _ (by omega)
  have e97 : D 97 ((v / 100).toNatClampNeg) = N 97 (tT v) := hD 97 _ (by omega)
  have e98 : D 98 ((v / 100).toNatClampNeg) = N 98 (tT v) := hD 98 _ (by omega)
  have e99 : D 99 ((v / 100).toNatClampNeg) = N 99 (tT v) := hD 99 _ (by omega)
  have eq : v - v / 100 * 100 = tQ v := rfl
  refine ⟨?_, k2⟩
  rw [if_neg c1, if_neg (Int32.not_le.mpr c2), if_neg c4]
  simp only [e94, e95, e96, e97, e98, e99, eq, esn, if_true]
  unfold stepD
  by_cases c5 : tQ v = 99
  · have c6 : ¬ N 96 (tT v) ≤ 0 := by
      rcases c3 with q | q
      · exact absurd c5 (not99 r t8 q.2)
      · exact Int32.not_le.mpr q.2
    rw [if_pos c5, if_neg c6, if_pos c5]
  · have c6 : N 94 (tT v) ≤ tQ v ∧ tQ v ≤ N 95 (tT v) := c3.resolve_right (fun q => c5 q.1)
    rw [if_neg c5, if_pos c6, if_neg c5]
    by_cases c7 : N 99 (tT v) ≤ N 98 (tT v)
    · rw [if_pos c7, if_pos c7]
    · rw [if_neg c7, if_neg c7]
theorem met_eq (r : Rl tc wc M L N K) {v : Int32} (hg : gdX N tc v) : metT M v = true ↔ (¬ tQ v = 99 ∧ N 99 (tT v) ≤ N 98 (tT v)) := by
  obtain ⟨-, t8, -⟩ := gd_t r hg.1 hg.2.1
  obtain ⟨e0, e1, e2, e3, e4, e5, e6⟩ := r.tv t8
  unfold metT
  rw [(may_eq r v).mpr hg, Bool.true_and, decide_eq_true_iff, show 18 + 4 + tT v = 22 + tT v from rfl, e5, e6]
theorem wor_eq (r : Rl tc wc M L N K) {v : Int32} (hg : gdX N tc v) : worT M v = N 97 (tT v) := by
  obtain ⟨-, t8, -⟩ := gd_t r hg.1 hg.2.1
  unfold worT
  rw [if_pos ((may_eq r v).mpr hg), show 18 + 4 + tT v = 22 + tT v from rfl, (r.tv t8).2.2.2.2.1]
theorem bh_s {tl : Nat → Int32} {i : Nat} : bhF M tl (i + 1) = if tl i - tl i / 100 * 100 = 99 then ((bhF M tl i).1, (bhF M tl i).2.1, (bhF M tl i).2.2 + 1) else if metT M (tl i) = true then ((bhF M tl i).1 + 1, (bhF M tl i).2.1 + worT M (tl i), (bhF M tl i).2.2) else bhF M tl i := by
  unfold bhF
  rw [itF_s]
theorem wrong_lp (r : Rl tc wc M L N K) {x n : Int32} {s n0 : Nat} {tl : Nat → Int32} (htl : ∀ j, j < n0 → tl j = qvF K s j) : ∀ f i k D, i + f = n0 → n0 ≤ 8 → k < 256 → frW N D → (D 86 41 = (bhF M tl i).1 ∧ D 86 42 = (bhF M tl i).2.1 ∧ D 86 43 = (bhF M tl i).2.2) →
    (lp_X8_wrongIn_20 N K x n tc s n0 f i (nI k) D).1 = fwF M tl f i (nI k) ∧ frW N (lp_X8_wrongIn_20 N K x n tc s n0 f i (nI k) D).2.1 ∧ (lp_X8_wrongIn_20 N K x n tc s n0 f i (nI k) D).2.2 = K ∧
    (fwF M tl f i (nI k) = -1 → (∀ j, i ≤ j → j < n0 → gdX N tc (tl j)) ∧ (lp_X8_wrongIn_20 N K x n tc s n0 f i (nI k) D).2.1 86 41 = (bhF M tl n0).1 ∧ (lp_X8_wrongIn_20 N K x n tc s n0 f i (nI k) D).2.1 86 42 = (bhF M tl n0).2.1 ∧ (lp_X8_wrongIn_20 N K x n tc s n0 f i (nI k) D).2.1 86 43 = (bhF M tl n0).2.2) := by
  intro f
  induction f with
  | zero =>
    intro i k D hi hn hk hD hb
    obtain rfl : i = n0 := by omega
    exact ⟨rfl, hD, rfl, fun _ => ⟨fun j q1 q2 => absurd q1 (by omega), hb⟩⟩
  | succ f ih =>
    intro i k D hi hn hk hD hb
    have et := htl i (by omega)
    rw [fwF_s]
    by_cases hg : gdX N tc (qvF K s i)
    · rw [et, if_pos ((may_eq r _).mpr hg)]
      by_cases hz : nI k &&& (1 <<< ((qvF K s i / 100) &&& 31)) = 0
      · obtain ⟨e1, k2⟩ := w_good r hD (x := x) (n := n) (n0 := n0) (f := f) hk hg hz
        obtain ⟨-, t8, etv⟩ := gd_t r hg.1 hg.2.1
        have eor : nI k ||| (1 <<< ((qvF K s i / 100) &&& 31)) = nI (k + 2 ^ tT (qvF K s i)) := by
          rw [etv] at hz ⊢
          rw [(bit_or hk t8 hz).1]
        rw [if_pos hz, e1, eor]
        have hb' : stepD N D (qvF K s i) 86 41 = (bhF M tl (i + 1)).1 ∧ stepD N D (qvF K s i) 86 42 = (bhF M tl (i + 1)).2.1 ∧ stepD N D (qvF K s i) 86 43 = (bhF M tl (i + 1)).2.2 := by
          rw [bh_s, et]
          unfold stepD
          by_cases q : tQ (qvF K s i) = 99
          · rw [if_pos q, if_pos (show qvF K s i - qvF K s i / 100 * 100 = 99 from q), up2_s, up2_o _ _ (by omega), up2_o _ _ (by omega), hb.1, hb.2.1, hb.2.2]
            exact ⟨rfl, rfl, rfl⟩
          · rw [if_neg q, if_neg (show ¬ qvF K s i - qvF K s i / 100 * 100 = 99 from q)]
            by_cases m : N 99 (tT (qvF K s i)) ≤ N 98 (tT (qvF K s i))
            · rw [if_pos m, if_pos ((met_eq r hg).mpr ⟨q, m⟩), wor_eq r hg, up2_s, up2_o _ _ (by omega), up2_s, up2_o _ _ (by omega), up2_o _ _ (by omega), hb.1, hb.2.1, hb.2.2]
              exact ⟨rfl, rfl, rfl⟩
            · rw [if_neg m, if_neg (fun z => m ((met_eq r hg).mp z).2)]
              exact hb
        obtain ⟨j1, j2, j3, j4⟩ := ih (i + 1) _ _ (by omega) hn k2 hD.st hb'
        refine ⟨j1, j2, j3, fun z => ?_⟩
        obtain ⟨y1, y2⟩ := j4 z
        refine ⟨fun j q1 q2 => ?_, y2⟩
        by_cases e : j = i
        · subst e; rw [et]; exact hg
        · exact y1 j (by omega) q2
      · rw [if_neg hz, w_bad r hD hk (fun q => hz q.2)]
        exact ⟨rfl, hD, rfl, fun z => absurd z (nI_neg1 i (by omega))⟩
    · rw [et, if_neg (fun z => hg ((may_eq r _).mp z)), w_bad r hD hk (fun q => hg q.1)]
      exact ⟨rfl, hD, rfl, fun z => absurd z (nI_neg1 i (by omega))⟩
/-- what keeps the first n elements from being a told day -/
theorem bars_eq (r : Rl tc wc M L N K) (s n : Int32) : tdI M s n 8 1 = a_X8_barsOfDay N K s n := by
  have hw := wanted_eq r s
  unfold tdI a_X8_barsOfDay
  by_cases h0 : rrI M s = 0
  · obtain ⟨-, -, -, -, -, -, -, ez, -, -⟩ := rr_row r h0
    rw [if_pos h0, if_pos (hw.symm.trans h0)]
    by_cases hn : 0 ≤ n
    · rw [if_pos hn, if_pos hn, ez]
      by_cases hz : n ≤ N 102 s.toNatClampNeg
      · rw [if_neg (Int32.not_lt.mpr hz), if_pos hz, if_neg (by decide)]
      · rw [if_pos (Int32.not_le.mp hz), if_neg hz]
    · rw [if_neg hn, if_neg hn]
  · rw [if_neg h0, if_neg (fun q => h0 (hw.trans q)), hw]
theorem td_rg {s n : Int32} {tl : Int32} (h : ¬ tdI M s n 8 tl = 0) : 1 ≤ -(tdI M s n 8 tl) ∧ -(tdI M s n 8 tl) ≤ 7 := by
  unfold tdI at h ⊢
  split at h
  · next h1 =>
    rw [if_pos h1]
    split at h
    · next h2 =>
      rw [if_pos h2]
      split at h
      · next h3 => rw [if_pos h3]; decide
      · next h3 =>
        rw [if_neg h3]
        split at h
        · next h4 => rw [if_pos h4]; decide
        · next h4 =>
          rw [if_neg h4]
          split at h
          · exact absurd rfl h
          · next h5 => rw [if_neg h5]; decide
    · next h2 => rw [if_neg h2]; decide
  · next h1 => rw [if_neg h1]; exact rr_rg h1
theorem wrong_eq (r : Rl tc wc M L N K) {s n : Int32} (h : tdI M s n 8 1 = 0) : fwI M L (2 + s.toNatClampNeg) n = (a_X8_wrongIn N K s n tc s.toNatClampNeg n.toNatClampNeg).1 ∧ frW N (a_X8_wrongIn N K s n tc s.toNatClampNeg n.toNatClampNeg).2.1 ∧
    (fwI M L (2 + s.toNatClampNeg) n = -1 → (∀ j, j < n.toNatClampNeg → gdX N tc (tlI M L (2 + s.toNatClampNeg) j)) ∧ (a_X8_wrongIn N K s n tc s.toNatClampNeg n.toNatClampNeg).2.1 86 41 = (bhF M (tlI M L (2 + s.toNatClampNeg)) n.toNatClampNeg).1 ∧ (a_X8_wrongIn N K s n tc s.toNatClampNeg n.toNatClampNeg).2.1 86 42 = (bhF M (tlI M L (2 + s.toNatClampNeg)) n.toNatClampNeg).2.1 ∧ (a_X8_wrongIn N K s n tc s.toNatClampNeg n.toNatClampNeg).2.1 86 43 = (bhF M (tlI M L (2 + s.toNatClampNeg)) n.toNatClampNeg).2.2) := by
  obtain ⟨h0, hn, h8, hz⟩ := td0 h
  obtain ⟨-, hs8, -, -, -, -, -, ez, z0, z1⟩ := rr_row r h0
  obtain ⟨m, hm, rfl⟩ := i_le 8 hn h8 (by decide)
  rw [nI_clamp (by omega)]
  have hl := wrong_lp r (x := s) (n := nI m) (s := s.toNatClampNeg) (n0 := m) (tl := tlI M L (2 + s.toNatClampNeg)) (fun j hj => tl_eq r hs8 (Int32.lt_of_lt_of_le ((nI_lt_iff (by omega) (by omega)).mpr hj) (Int32.not_lt.mp hz)) (ez ▸ z1) (by omega)) m 0 0 (up2 (up2 (up2 N 86 41 0) 86 42 0) 86 43 0) (by omega) hm (by omega) (fun a j q => by rw [up2_o _ _ (by omega), up2_o _ _ (by omega), up2_o _ _ (by omega)]) ⟨by rw [up2_o _ _ (by omega), up2_o _ _ (by omega), up2_s]; rfl, by rw [up2_o _ _ (by omega), up2_s]; rfl, by rw [up2_s]; rfl⟩
  obtain ⟨l1, l2, -, l4⟩ := hl
  unfold fwI a_X8_wrongIn
  rw [nI_clamp (by omega)]
  refine ⟨l1.symm, l2, fun z => ?_⟩
  obtain ⟨y1, y2⟩ := l4 z
  exact ⟨fun j hj => y1 j (Nat.zero_le _) hj, y2⟩
theorem frW.sc (h : frW N D) : ∀ a j, ¬ scX a j → D a j = N a j := fun a j q => h a j (by unfold scX at q; omega)
theorem e_judge (r : Rl tc wc M L N K) (s n : Int32) : Ok M L N K (a_X7_judge M L s n) (a_X8_judge N K s n tc) := by
  have hb := bars_eq r s n
  unfold a_X7_judge a_X8_judge
  by_cases h : tdI M s n 8 1 = 0
  · rw [if_pos h, if_pos (hb.symm.trans h)]
    obtain ⟨e1, e2, -⟩ := wrong_eq r h
    exact Ok.scr r e1 (fun _ _ _ => rfl) e2.sc
  · rw [if_neg h, if_neg (fun q => h (hb.trans q)), ← hb]
    have := td_rg h
    exact Ok.ref r this.1 this.2 rfl
theorem td_bad {s n : Int32} : tdI M s n 8 0 = if tdI M s n 8 1 = 0 ∨ tdI M s n 8 1 = -6 then -5 else tdI M s n 8 1 := by
  unfold tdI
  by_cases h0 : rrI M s = 0
  · simp only [if_pos h0]
    by_cases hn : 0 ≤ n
    · simp only [if_pos hn]
      by_cases hz : M (2 + s.toNatClampNeg) 2 < n
      · simp only [if_pos hz]
        rw [if_neg (by decide)]
      · simp only [if_neg hz]
        simp only [if_true, if_neg (show ¬ (1 : Int32) = 0 by decide)]
        by_cases h8 : n ≤ 8
        · rw [if_pos h8, if_pos (Or.inl rfl)]
        · rw [if_neg h8, if_pos (Or.inr rfl)]
    · simp only [if_neg hn]
      rw [if_neg (by decide)]
  · simp only [if_neg h0]
    rw [if_neg]
    rintro (q | q)
    · exact h0 q
    · unfold rrI at q
      split at q
      · split at q
        · exact absurd q (by decide)
        · split at q <;> exact absurd q (by decide)
      · exact absurd q (by decide)
theorem e_behind (r : Rl tc wc M L N K) (s n q : Int32) : Ok M L N K (behindC M L s n q) (a_X8_behind N K s n q tc) := by
  have hb := bars_eq r s n
  unfold behindC a_X8_behind dyI
  by_cases hq : 0 ≤ q ∧ q ≤ 2
  · have e1 : bI (decide (0 ≤ q ∧ q ≤ 2)) = 1 := by rw [decide_eq_true hq]; rfl
    rw [e1]
    have nq : ¬ q < 0 := Int32.not_lt.mpr hq.1
    by_cases h : tdI M s n 8 1 = 0
    · simp only [if_pos h]
      rw [if_pos (hb.symm.trans h), if_neg nq, if_pos hq.2]
      obtain ⟨e1, e2, e3⟩ := wrong_eq r h
      rw [← e1]
      by_cases z : fwI M L (2 + s.toNatClampNeg) n = -1
      · simp only [if_pos z, if_true]
        obtain ⟨-, y1, y2, y3⟩ := e3 z
        by_cases z0 : q = 0
        · simp only [if_pos z0]
          exact Ok.scr r y1.symm (fun _ _ _ => rfl) e2.sc
        simp only [if_neg z0]
        by_cases z1 : q = 1
        · simp only [if_pos z1]
          exact Ok.scr r y2.symm (fun _ _ _ => rfl) e2.sc
        · simp only [if_neg z1]
          exact Ok.scr r y3.symm (fun _ _ _ => rfl) e2.sc
      · simp only [if_neg z]
        rw [if_neg (show ¬ (-6 : Int32) = 0 by decide)]
        have r2 : Rl tc wc M L (a_X8_wrongIn N K s n tc s.toNatClampNeg n.toNatClampNeg).2.1 K := r.scr (fun _ _ _ => rfl) e2.sc
        exact Ok.chg rfl (r2.ref (b := -6) (by decide) (by decide)) (fun a j k => rfM_o (by omega)) (fun a j k => (noM_o (by omega)).trans (e2 a j (by omega)))
    · have h2 : ¬ a_X8_barsOfDay N K s n = 0 := fun k => h (hb.trans k)
      simp only [if_neg h, if_neg h2]
      have := td_rg h
      rw [if_neg nq, if_pos hq.2, hb]
      rw [hb] at this
      split
      · exact Ok.ref r this.1 this.2 rfl
      · exact Ok.ref r this.1 this.2 rfl
  · have e1 : bI (decide (0 ≤ q ∧ q ≤ 2)) = 0 := by rw [decide_eq_false hq]; rfl
    rw [e1, td_bad]
    have key : ∀ x : fR, (if q < 0 then ((-5 : Int32), noM N (-5), K) else if q ≤ 2 then x else (-5, noM N (-5), K)) = (-5, noM N (-5), K) := by
      intro x
      by_cases c : q < 0
      · rw [if_pos c]
      · rw [if_neg c, if_neg (fun k => hq ⟨Int32.not_lt.mp c, k⟩)]
    rw [key, key]
    by_cases h : tdI M s n 8 1 = 0
    · rw [if_pos (hb.symm.trans h), if_pos (Or.inl h), if_neg (show ¬ (-5 : Int32) = 0 by decide)]
      rw [if_neg (show ¬ (-5 : Int32) = 0 by decide)]
      exact Ok.ref r (by decide) (by decide) rfl
    · rw [if_neg (show ¬ a_X8_barsOfDay N K s n = 0 from fun k => h (hb.trans k))]
      by_cases h6 : tdI M s n 8 1 = -6
      · rw [if_pos (Or.inr h6), if_pos (hb.symm.trans h6), if_neg (show ¬ (-5 : Int32) = 0 by decide), if_neg (show ¬ (-5 : Int32) = 0 by decide)]
        exact Ok.ref r (by decide) (by decide) rfl
      · have := td_rg h
        have hX : (if tdI M s n 8 1 = 0 ∨ tdI M s n 8 1 = -6 then (-5 : Int32) else tdI M s n 8 1) = tdI M s n 8 1 := if_neg (fun k => k.elim h h6)
        rw [hX, if_neg h, if_neg h, if_neg (show ¬ a_X8_barsOfDay N K s n = -6 from fun k => h6 (hb.trans k)), ← hb]
        exact Ok.ref r this.1 this.2 rfl
theorem dn_eq {k : Nat} {n : Nat} : dnF M L k n = up2 M 18 7 (M 18 7 + (itF (fun i w => if metT M (tlI M L k i) = true then w + worT M (tlI M L k i) else w) 0 n)) ∨ 10 ≤ k ∨ k < 2 := by
  by_cases hk : 2 ≤ k ∧ k < 10
  · left
    have fr : ∀ (v : Int32), (∀ x, metT (up2 M 18 7 v) x = metT M x) ∧ (∀ x, worT (up2 M 18 7 v) x = worT M x) ∧ (∀ i, tlI (up2 M 18 7 v) L k i = tlI M L k i) := by
      intro v
      have hg : ∀ x, mayG (up2 M 18 7 v) x = mayG M x := by
        intro x
        unfold mayG
        rw [up2_o _ _ (show (18 : Nat) ≠ 18 ∨ 3 ≠ 7 by omega)]
        congr 1
        · funext t; exact up2_o _ _ (by omega)
        · funext t; exact up2_o _ _ (by omega)
        · funext t; exact up2_o _ _ (by omega)
      refine ⟨fun x => ?_, fun x => ?_, fun i => ?_⟩
      · unfold metT
        rw [hg, up2_o _ _ (by omega), up2_o _ _ (by omega)]
      · unfold worT
        rw [hg, up2_o _ _ (by omega)]
      · unfold tlI numI
        rw [up2_o _ _ (by omega)]
    induction n with
    | zero =>
      show M = up2 M 18 7 (M 18 7 + 0)
      rw [Int32.add_zero, up2_id]
    | succ n ih =>
      have s : dnF M L k (n + 1) = if metT (dnF M L k n) (tlI (dnF M L k n) L k n) = true then up2 (dnF M L k n) 18 7 (dnF M L k n 18 7 + worT (dnF M L k n) (tlI (dnF M L k n) L k n)) else dnF M L k n := by
        unfold dnF
        rw [itF_s]
      rw [s, ih, itF_s]
      generalize itF (fun i w => if metT M (tlI M L k i) = true then w + worT M (tlI M L k i) else w) 0 n = acc
      obtain ⟨f1, f2, f3⟩ := fr (M 18 7 + acc)
      rw [f3, f1, f2, up2_s]
      by_cases c : metT M (tlI M L k n) = true
      · rw [if_pos c, if_pos c, Int32.add_assoc]
        funext a j
        rw [up2_at, up2_at, up2_at]
        split <;> rfl
      · rw [if_neg c, if_neg c]
  · right; omega
theorem bh_w {tl : Nat → Int32} : ∀ n, (∀ j, j < n → tQ (tl j) = 99 → ¬ metT M (tl j) = true) → (bhF M tl n).2.1 = itF (fun i w => if metT M (tl i) = true then w + worT M (tl i) else w) 0 n := by
  intro n
  induction n with
  | zero => intro _; rfl
  | succ n ih =>
    intro h
    have ih := ih (fun j hj => h j (by omega))
    rw [bh_s, itF_s, ← ih]
    by_cases q : tl n - tl n / 100 * 100 = 99
    · rw [if_pos q, if_neg (h n (by omega) q)]
    · rw [if_neg q]
      by_cases c : metT M (tl n) = true
      · rw [if_pos c, if_pos c]
      · rw [if_neg c, if_neg c]
theorem e_done (r : Rl tc wc M L N K) (s n : Int32) : Ok M L N K (doneC M L s n) (a_X8_done N K s n tc) := by
  have hb := bars_eq r s n
  unfold doneC a_X8_done dyI
  by_cases h : tdI M s n 8 1 = 0
  · simp only [if_pos h]
    rw [if_pos (hb.symm.trans h)]
    obtain ⟨e1, e2, e3⟩ := wrong_eq r h
    rw [← e1]
    by_cases z : fwI M L (2 + s.toNatClampNeg) n = -1
    · simp only [if_pos z, if_true]
      obtain ⟨y0, y1, y2, y3⟩ := e3 z
      obtain ⟨-, hs8, -⟩ := rr_row r (td0 h).1
      have ed := (dn_eq (M := M) (L := L) (k := 2 + s.toNatClampNeg) (n := n.toNatClampNeg)).resolve_right (by omega)
      rw [← bh_w _ (fun j hj q99 z9 => absurd q99 ((met_eq r (y0 j hj)).mp z9).1)] at ed
      generalize a_X8_wrongIn N K s n tc s.toNatClampNeg n.toNatClampNeg = W at e2 y1 y2 y3
      have t4 : W.2.1 86 4 + W.2.1 86 42 = M 18 7 + (bhF M (tlI M L (2 + s.toNatClampNeg)) n.toNatClampNeg).2.1 := by
        rw [y2, e2 86 4 (by omega), r.s 7 (by omega) (by omega)]
      rw [ed, t4, up2_s]
      have r2 : Rl tc wc M L W.2.1 K := r.scr (fun _ _ _ => rfl) e2.sc
      have r3 := r2.num (i := 7) (by omega) (by omega) (v := M 18 7 + (bhF M (tlI M L (2 + s.toNatClampNeg)) n.toNatClampNeg).2.1) (fun k => absurd k (by decide))
      have r4 := r3.num (i := 6) (by omega) (by omega) (v := up2 M 18 7 (M 18 7 + (bhF M (tlI M L (2 + s.toNatClampNeg)) n.toNatClampNeg).2.1) 18 6 + 1) (fun k => absurd k (by decide))
      have e36 : W.2.1 86 3 + 1 = up2 M 18 7 (M 18 7 + (bhF M (tlI M L (2 + s.toNatClampNeg)) n.toNatClampNeg).2.1) 18 6 + 1 := by
        rw [up2_o _ _ (by omega), e2 86 3 (by omega), r.s 6 (by omega) (by omega)]
      rw [e36]
      exact Ok.chg rfl r4 (fun a j k => by rw [up2_o _ _ (by omega), up2_o _ _ (by omega)]) (fun a j k => by rw [up2_o _ _ (by omega), up2_o _ _ (by omega)]; exact e2 a j (by omega))
    · simp only [if_neg z]
      rw [if_neg (show ¬ (-6 : Int32) = 0 by decide)]
      have r2 : Rl tc wc M L (a_X8_wrongIn N K s n tc s.toNatClampNeg n.toNatClampNeg).2.1 K := r.scr (fun _ _ _ => rfl) e2.sc
      exact Ok.chg rfl (r2.ref (b := -6) (by decide) (by decide)) (fun a j k => rfM_o (by omega)) (fun a j k => (noM_o (by omega)).trans (e2 a j (by omega)))
  · simp only [if_neg h]
    rw [if_neg (fun k => h (hb.trans k)), ← hb]
    have := td_rg h
    exact Ok.ref r this.1 this.2 rfl
end TD
