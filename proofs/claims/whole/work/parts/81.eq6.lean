/-! posts, and what was waited for by when they left -/
theorem n_and (a b : Nat) : nI a &&& nI b = nI (a &&& b) := by
  apply Int32.toBitVec_inj.1
  show BitVec.ofNat 32 a &&& BitVec.ofNat 32 b = BitVec.ofNat 32 (a &&& b)
  apply BitVec.eq_of_getLsbD_eq
  intro i hi
  simp [hi]
theorem n_or (a b : Nat) : nI a ||| nI b = nI (a ||| b) := by
  apply Int32.toBitVec_inj.1
  show BitVec.ofNat 32 a ||| BitVec.ofNat 32 b = BitVec.ofNat 32 (a ||| b)
  apply BitVec.eq_of_getLsbD_eq
  intro i hi
  simp [hi]
theorem kS_bit (b : Nat → Bool) (n i : Nat) : (kS b n).testBit i = (decide (i < n) && b i) := by
  induction n with
  | zero => 
    show (0 : Nat).testBit i = _
    simp
  | succ n ih =>
    have hl := kS_lt b n
    rw [kS_s]
    by_cases hb : b n = true
    · rw [if_pos hb, Nat.add_comm]
      by_cases hi : i = n
      · subst hi
        rw [Nat.testBit_two_pow_add_eq, Nat.testBit_lt_two_pow hl]
        simp [hb]
      · rcases Nat.lt_or_ge i n with q | q
        · rw [Nat.testBit_two_pow_add_gt q, ih]
          simp [q, Nat.lt_succ_of_lt q]
        · have h1 : 2 ^ n + kS b n < 2 ^ i := by
            have : 2 ^ (n + 1) ≤ 2 ^ i := Nat.pow_le_pow_right (by decide) (by omega)
            rw [Nat.pow_succ] at this
            omega
          rw [Nat.testBit_lt_two_pow h1]
          simp [show ¬ i < n + 1 by omega]
    · rw [if_neg hb, ih]
      by_cases hi : i = n
      · subst hi
        simp [hb]
      · rcases Nat.lt_or_ge i n with q | q
        · simp [q, Nat.lt_succ_of_lt q]
        · simp [show ¬ i < n by omega, show ¬ i < n + 1 by omega]
theorem kS_and (b c : Nat → Bool) (n : Nat) : kS b n &&& kS c n = kS (fun t => b t && c t) n := by
  apply Nat.eq_of_testBit_eq
  intro i
  rw [Nat.testBit_and, kS_bit, kS_bit, kS_bit]
  cases decide (i < n) <;> simp
theorem kS_all (n : Nat) : kS (fun _ => true) n = 2 ^ n - 1 := by
  induction n with
  | zero => rfl
  | succ n ih =>
    have := Nat.pow_pos (n := n) (show 0 < 2 by decide)
    rw [kS_s, if_pos rfl, ih, Nat.pow_succ]
    omega
theorem kS_congr {b c : Nat → Bool} : ∀ n, (∀ t, t < n → b t = c t) → kS b n = kS c n := by
  intro n
  induction n with
  | zero => intro _; rfl
  | succ n ih =>
    intro h
    rw [kS_s, kS_s, ih (fun t ht => h t (by omega)), h n (by omega)]
theorem pop_full {n k : Nat} (hn : n ≤ 8) (hk : k < 2 ^ n) : nI (popF k) = nI n ↔ nI k = nI (2 ^ n - 1) := by
  have h1 : popF k = n ↔ k = 2 ^ n - 1 := (show ∀ n, n < 9 → ∀ k, k < 2 ^ n → (popF k = n ↔ k = 2 ^ n - 1) by decide +kernel) n (by omega) k hk
  have h2 : ∀ k, k < 256 → popF k ≤ 8 := by decide +kernel
  have h3 := h2 k (Nat.lt_of_lt_of_le hk (pow_le hn))
  have h4 := pow_le hn
  rw [nI_eq (by omega) (by omega), nI_eq (by omega) (by omega)]
  exact h1
section PO
variable {tc wc : Nat} {M N : Nat → Nat → Int32} {L K : Nat → Nat → Int64}
theorem all_eq (h8 : tc ≤ 8) : ((1 <<< (nI tc &&& 31)) - 1 : Int32) = nI (2 ^ tc - 1) := by
  rw [bitN (by omega)]
  exact pk_sub (a := 2 ^ tc) (b := 1) (Nat.pow_pos (by decide))
def spX (N : Nat → Nat → Int32) (K : Nat → Nat → Int64) (tc w : Nat) : Int32 := a_X8_seenFrom N K (nI w) (N 92 w) tc w
theorem orI_lt (r : Rl tc wc M L N K) (bits : Int32) : ∀ n, n ≤ 6 → ∃ k, k < 2 ^ tc ∧ orI (spX N K tc) bits n = nI k := by
  intro n
  induction n with
  | zero => intro _; exact ⟨0, Nat.pow_pos (by decide), rfl⟩
  | succ n ih =>
    intro h
    obtain ⟨k, hk, e⟩ := ih (by omega)
    have s : orI (spX N K tc) bits (n + 1) = if hasI bits n = 0 then orI (spX N K tc) bits n else orI (spX N K tc) bits n ||| spX N K tc n := by
      unfold orI
      rw [itF_s]
    rw [s]
    split
    · exact ⟨k, hk, e⟩
    · rw [e, spX, seen_x r (r.wok (w := n) (by omega)).2.2.2.2, n_or]
      exact ⟨_, Nat.or_lt_two_pow hk (kS_lt _ _), rfl⟩
theorem posts_or (r : Rl tc wc M L N K) (q : Int32) (pp : Nat) (ch : Int32) : lp_X8_posts_36 N K q tc wc pp ch wc = orI (spX N K tc) (nI pp) wc := by
  unfold lp_X8_posts_36 orI
  refine itF_congr wc (fun w hw b => ?_)
  have h01 := hasI_01 (nI pp) w
  unfold hasI at h01 ⊢
  rcases h01 with z | z
  · rw [if_pos z, if_neg (show ¬ nI pp >>> (nI w &&& 31) &&& 1 = 1 by rw [z]; decide)]
  · rw [if_pos z, if_neg (show ¬ nI pp >>> (nI w &&& 31) &&& 1 = 0 by rw [z]; decide)]
    rfl
theorem posts_lp (r : Rl tc wc M L N K) (q : Int32) : ∀ n, n ≤ 2 ^ wc → (lp_X8_posts_20 N K q tc wc n = -1 ∧ postsI (spX N K tc) (nI (2 ^ tc - 1)) wc n = (7, -1)) ∨ ∃ s, s < 64 ∧ lp_X8_posts_20 N K q tc wc n = nI s ∧ postsI (spX N K tc) (nI (2 ^ tc - 1)) wc n = (nI (popF s), nI s) := by
  have h8 := r.n.2.2.1
  have h6 := r.h6
  have h64 : 2 ^ wc ≤ 64 := Nat.pow_le_pow_right (by decide) h6
  intro n
  induction n with
  | zero => intro _; exact Or.inl ⟨rfl, rfl⟩
  | succ n ih =>
    intro hn
    obtain ⟨k, hk, ek⟩ := orI_lt r (nI n) wc h6
    have hk2 : k < 256 := Nat.lt_of_lt_of_le hk (pow_le h8)
    have s : lp_X8_posts_20 N K q tc wc (n + 1) = (if (a_X8_many N K (lp_X8_posts_36 N K q tc wc n (lp_X8_posts_20 N K q tc wc n) wc)) = (nI tc) then (if lp_X8_posts_20 N K q tc wc n = (-1) then (nI n) else (if (a_X8_many N K (lp_X8_posts_20 N K q tc wc n)) ≤ (a_X8_many N K (nI n)) then lp_X8_posts_20 N K q tc wc n else (nI n))) else lp_X8_posts_20 N K q tc wc n) := by
      unfold lp_X8_posts_20
      rw [itF_s]
    have sp : postsI (spX N K tc) (nI (2 ^ tc - 1)) wc (n + 1) = (if (postsI (spX N K tc) (nI (2 ^ tc - 1)) wc n).1 ≤ bitc (nI n) then postsI (spX N K tc) (nI (2 ^ tc - 1)) wc n else if orI (spX N K tc) (nI n) wc = nI (2 ^ tc - 1) then (bitc (nI n), nI n) else postsI (spX N K tc) (nI (2 ^ tc - 1)) wc n) := by
      unfold postsI
      rw [itF_s]
    have hp7 : ∀ k, k < 64 → popF k ≤ 6 := by decide +kernel
    have hpn := hp7 n (by omega)
    rw [s, sp, posts_or r, ek, many_at hk2, pop_bc (show n < 256 by omega), many_at (show n < 256 by omega)]
    rcases ih (by omega) with ⟨e1, e2⟩ | ⟨c, hc, e1, e2⟩
    · rw [e1, e2]
      have h7 : ¬ (7 : Int32) ≤ nI (popF n) := fun k => by
        have := (nI_le_iff (a := 7) (by omega) (by omega)).mp k
        omega
      dsimp only
      rw [if_neg h7]
      by_cases z : nI (popF k) = nI tc
      · rw [if_pos z, if_pos rfl, if_pos ((pop_full h8 hk).mp z)]
        exact Or.inr ⟨n, by omega, rfl, rfl⟩
      · rw [if_neg z, if_neg (fun j => z ((pop_full h8 hk).mpr j))]
        exact Or.inl ⟨rfl, rfl⟩
    · rw [e1, e2, many_at (show c < 256 by omega)]
      dsimp only
      have hm1 : ¬ nI c = -1 := nI_neg1 c (by omega)
      by_cases z : nI (popF k) = nI tc
      · rw [if_pos z, if_neg hm1, if_pos ((pop_full h8 hk).mp z)]
        by_cases y : nI (popF c) ≤ nI (popF n)
        · rw [if_pos y, if_pos y]
          exact Or.inr ⟨c, hc, rfl, rfl⟩
        · rw [if_neg y, if_neg y]
          exact Or.inr ⟨n, by omega, rfl, rfl⟩
      · rw [if_neg z, if_neg (fun j => z ((pop_full h8 hk).mpr j))]
        refine Or.inr ⟨c, hc, rfl, ?_⟩
        split <;> rfl
theorem e_posts (r : Rl tc wc M L N K) (q : Int32) : Ok M L N K (a_X7_posts M L q tc wc) (a_X8_posts N K q tc wc) := by
  have h8 := r.n.2.2.1
  have h6 := r.h6
  have ec : ∀ n, n ≤ 2 ^ wc → postsI (fun w9 => seenI (fun t => (M (18 + 4 + t) 0)) (sightF (M (18 + 12 + w9) 1)) (M (18 + 12 + w9) 5) tc) ((1 <<< (nI tc &&& 31)) - 1) wc n = postsI (spX N K tc) (nI (2 ^ tc - 1)) wc n := by
    intro n hn
    rw [all_eq h8]
    unfold postsI
    refine itF_congr n (fun p hp a => ?_)
    have eo : orI (fun w9 => seenI (fun t => (M (18 + 4 + t) 0)) (sightF (M (18 + 12 + w9) 1)) (M (18 + 12 + w9) 5) tc) (nI p) wc = orI (spX N K tc) (nI p) wc := by
      unfold orI
      refine itF_congr wc (fun w hw b => ?_)
      have hs := seen_eq r (show w < 6 by omega) (x := nI w) (c := N 92 w) (r.wok (w := w) (by omega)).2.2.2.2
      have e5 := (r.wv (show w < 6 by omega)).2.2.2.2
      dsimp only
      rw [show 18 + 12 + w = 30 + w from rfl, e5, hs]
      rfl
    simp only [eo]
  have hsc : ∀ f a j, ¬ scC a → spM M 18 f wc a j = M a j := by
    intro f a j k
    unfold spM
    exact if_neg (fun z => k (Or.inl z.1))
  have hl := posts_lp r q (2 ^ wc) (Nat.le_refl _)
  unfold a_X7_posts a_X8_posts
  rw [ec _ (Nat.le_refl _)]
  by_cases hq : q < 0
  · rw [if_neg (show ¬ (0 ≤ q ∧ q ≤ 1) from fun k => absurd hq (Int32.not_lt.mpr k.1)), if_pos hq]
    exact Ok.ref r (by decide) (by decide) rfl
  rw [if_neg hq]
  by_cases hq1 : q ≤ 1
  · rw [if_pos (show 0 ≤ q ∧ q ≤ 1 from ⟨Int32.not_lt.mp hq, hq1⟩), if_pos hq1]
    obtain ⟨b, hb, rfl⟩ := i_le 1 (Int32.not_lt.mp hq) hq1 (by decide)
    rcases (show b = 0 ∨ b = 1 by omega) with rfl | rfl
    · rw [if_pos (show nI 0 = 0 from rfl), if_neg (show ¬ nI 0 = 1 by decide)]
      rcases hl with ⟨e1, e2⟩ | ⟨s, hs, e1, e2⟩
      · rw [e1, e2, if_pos rfl, if_pos rfl]
        exact Ok.scr r rfl (hsc _) (fun _ _ _ => rfl)
      · rw [e1, e2, if_neg (nI_neg1 s (by omega)), if_neg (nI_neg1 s (by omega)), many_at (show s < 256 by omega), pop_bc (show s < 256 by omega)]
        exact Ok.scr r rfl (hsc _) (fun _ _ _ => rfl)
    · rw [if_neg (show ¬ nI 1 = 0 by decide), if_pos (show nI 1 = 1 from rfl)]
      rcases hl with ⟨e1, e2⟩ | ⟨s, hs, e1, e2⟩
      · rw [e1, e2]
        exact Ok.scr r rfl (hsc _) (fun _ _ _ => rfl)
      · rw [e1, e2]
        exact Ok.scr r rfl (hsc _) (fun _ _ _ => rfl)
  · rw [if_neg (show ¬ (0 ≤ q ∧ q ≤ 1) from fun k => hq1 k.2), if_neg hq1]
    exact Ok.ref r (by decide) (by decide) rfl
/-- a told number -/
def qvF (K : Nat → Nat → Int64) (s i : Nat) : Int32 := (K 104 (160 * s + i)).toInt32
theorem tl_eq (r : Rl tc wc M L N K) {s i : Nat} (hs : s < 8) (hi : nI i < M (2 + s) 2) (h160 : M (2 + s) 2 ≤ 160) (hb : i < 2 ^ 31) : tlI M L (2 + s) i = qvF K s i := by
  have h1 : nI i < 160 := Int32.lt_of_lt_of_le hi h160
  have h2 : i < 160 := (nI_lt_iff (b := 160) hb (by omega)).mp h1
  unfold tlI numI qvF
  rw [if_pos ⟨nI_pos' hb, hi, h1⟩, nI_clamp hb, show 2 + s + 8 = 10 + s by omega, r.e s hs i h2]
def aB (N : Nat → Nat → Int32) (K : Nat → Nat → Int64) (s m t : Nat) : Bool := itF (fun j x => x && inB N (qvF K s j) t) true m
theorem aB_s {s m t : Nat} : aB N K s (m + 1) t = (aB N K s m t && inB N (qvF K s m) t) := by
  unfold aB
  rw [itF_s]
theorem is_aB {s m t : Nat} : isF N K s t m = bI (aB N K s m t) := by
  induction m with
  | zero => rfl
  | succ m ih =>
    rw [is_s, ih, aB_s]
    cases h : aB N K s m t
    · rfl
    · show (if bI true = 0 then _ else _) = bI (true && _)
      rw [if_neg (by decide)]
      rfl
theorem st_aB {s m n : Nat} (hn : n ≤ 8) : stF N K s m n = nI (kS (aB N K s m) n) := by
  unfold stF
  refine or_set (aB N K s m) n (fun t k ht hk => ?_)
  simp only [is_aB]
  cases h : aB N K s m t
  · rfl
  · rw [if_neg (by decide), add_bit (by omega), if_pos rfl]
theorem lf_eq (r : Rl tc wc M L N K) {s : Nat} (hs : s < 8) (h160 : M (2 + s) 2 ≤ 160) : ∀ f i, nI (i + f) ≤ M (2 + s) 2 → i + f < 2 ^ 31 → lqF K s i = 0 →
    lfF M L (tlI M L (2 + s)) tc f i (nI (kS (aB N K s i) tc)) = if lqF K s (i + f) = 0 then (nI (kS (aB N K s (i + f)) tc), M, L) else (-6, rfM M (-6), L) := by
  intro f
  induction f with
  | zero =>
    intro i _ _ h0
    rw [Nat.add_zero, if_pos h0]
    rfl
  | succ f ih =>
    intro i hz hb h0
    have hi : nI i < M (2 + s) 2 := Int32.lt_of_lt_of_le ((nI_lt_iff (by omega) hb).mpr (by omega)) hz
    rw [lfF_s, tl_eq r hs hi h160 (by omega)]
    have e : i + (f + 1) = i + 1 + f := by omega
    by_cases c : 0 ≤ qvF K s i ∧ qvF K s i ≤ 23
    · rw [if_pos c, in_c r, n_and, kS_and]
      have h1 : lqF K s (i + 1) = 0 := by rw [lq_s, if_pos h0]; exact if_pos c
      have e2 : kS (fun t => aB N K s i t && inB N (qvF K s i) t) tc = kS (aB N K s (i + 1)) tc := kS_congr tc (fun t _ => aB_s.symm)
      rw [e2, ih (i + 1) (e ▸ hz) (by omega) h1, e]
    · have h1 : lqF K s (i + 1) = -6 := by rw [lq_s, if_pos h0]; exact if_neg c
      have h2 : lqF K s (i + (f + 1)) = lqF K s (i + 1) := lq_stay (by rw [h1]; decide) (by omega)
      rw [if_neg c, h2, h1, if_neg (by decide)]
theorem e_left (r : Rl tc wc M L N K) (s n : Int32) : Ok M L N K (leftC M L s n tc) (leftR N K s n tc) := by
  have h8 := r.n.2.2.1
  have hw := wanted_eq r s
  unfold leftC leftR tdI leftB
  by_cases h0 : rrI M s = 0
  · obtain ⟨hs, hs8, -, -, -, -, -, ez, z0, z1⟩ := rr_row r h0
    have hw0 : a_X8_wanted N K s = 0 := hw.symm.trans h0
    simp only [if_pos h0, if_pos hw0]
    by_cases hn : 0 ≤ n
    · simp only [if_pos hn]
      rw [ez]
      by_cases hz : n ≤ N 102 s.toNatClampNeg
      · simp only [if_pos hz, if_neg (Int32.not_lt.mpr hz), if_neg (show ¬ (1 : Int32) = 0 by decide)]
        by_cases h40 : n ≤ 40
        · simp only [if_pos h40, if_true]
          obtain ⟨m, hm, rfl⟩ := i_le 40 hn h40 (by decide)
          rw [nI_clamp (by omega)]
          have hl := lf_eq r hs8 (ez ▸ z1) m 0 (by rw [Nat.zero_add, ez]; exact hz) (by omega) rfl
          have ei : ((1 <<< (M 18 3 &&& 31)) - 1 : Int32) = nI (kS (aB N K s.toNatClampNeg 0) tc) := by
            rw [r.n.1, all_eq h8, ← kS_all]
            rfl
          rw [Nat.zero_add] at hl
          rw [ei, hl]
          by_cases z : lqF K s.toNatClampNeg m = 0
          · simp only [if_pos z]
            exact Ok.same r (st_aB h8).symm
          · have z6 : lqF K s.toNatClampNeg m = -6 := by
              clear hl ei hm hz h40 hn
              induction m with
              | zero => exact absurd rfl z
              | succ m ih =>
                rw [lq_s] at z ⊢
                by_cases y : lqF K s.toNatClampNeg m = 0
                · rw [if_pos y] at z ⊢
                  split at z
                  · exact absurd rfl z
                  · next y2 => rw [if_neg y2]
                · rw [if_neg y] at z ⊢
                  exact ih y
            simp only [if_neg z]
            rw [z6]
            exact Ok.ref r (by decide) (by decide) rfl
        · simp only [if_neg h40, if_neg (show ¬ (-6 : Int32) = 0 by decide)]
          exact Ok.ref r (by decide) (by decide) rfl
      · simp only [if_neg hz, if_pos (Int32.not_le.mp hz), if_neg (show ¬ (-5 : Int32) = 0 by decide)]
        exact Ok.ref r (by decide) (by decide) rfl
    · simp only [if_neg hn, if_neg (show ¬ (-4 : Int32) = 0 by decide)]
      exact Ok.ref r (by decide) (by decide) rfl
  · have hw0 : ¬ a_X8_wanted N K s = 0 := fun q => h0 (hw.trans q)
    simp only [if_neg h0, if_neg hw0]
    rw [← hw]
    have hrg := rr_rg h0
    exact Ok.ref r hrg.1 hrg.2 rfl
end PO
