/-! sets of things as bits -/
def kS (b : Nat → Bool) (n : Nat) : Nat := itF (fun t k => if b t = true then k + 2 ^ t else k) 0 n
theorem kS_s (b : Nat → Bool) (n : Nat) : kS b (n + 1) = if b n = true then kS b n + 2 ^ n else kS b n := by
  unfold kS
  rw [itF_s]
theorem kS_lt (b : Nat → Bool) (n : Nat) : kS b n < 2 ^ n := by
  induction n with
  | zero => exact Nat.one_pos
  | succ n ih =>
    rw [kS_s, Nat.pow_succ]
    split <;> omega
theorem or_set {f : Nat → Int32 → Int32} (b : Nat → Bool) : ∀ n, (∀ t k, t < n → k < 2 ^ t → f t (nI k) = nI (if b t = true then k + 2 ^ t else k)) → itF f 0 n = nI (kS b n) := by
  intro n
  induction n with
  | zero => intro _; rfl
  | succ n ih =>
    intro h
    rw [itF_s, ih (fun t k ht hk => h t k (by omega) hk), h n _ (by omega) (kS_lt b n), kS_s]
theorem or_bit {t k : Nat} (ht : t < 10) (hk : k < 2 ^ t) : nI k ||| bitI t = nI (k + 2 ^ t) := (show ∀ t, t < 10 → ∀ k, k < 2 ^ t → nI k ||| bitI t = nI (k + 2 ^ t) by decide +kernel) t ht k hk
theorem add_bit {t k : Nat} (ht : t < 10) : nI k + (1 <<< (nI t &&& 31)) = nI (k + 2 ^ t) := by
  rw [bitN (by omega), nI_add]
/-- how many bits -/
def popF (k : Nat) : Nat := itF (fun i s => s + k / 2 ^ i % 2) 0 8
theorem pop_bc {k : Nat} (hk : k < 256) : bitc (nI k) = nI (popF k) := (show ∀ k, k < 256 → bitc (nI k) = nI (popF k) by decide +kernel) k hk
theorem pop_up {t k : Nat} (ht : t < 8) (hk : k < 2 ^ t) : popF (k + 2 ^ t) = popF k + 1 := (show ∀ t, t < 8 → ∀ k, k < 2 ^ t → popF (k + 2 ^ t) = popF k + 1 by decide +kernel) t ht k hk
theorem many_pure {k : Nat} (hk : k < 256) : itF (fun i s9 => (s9 + ((nI k >>> ((nI i) &&& 31)) &&& 1))) 0 8 = nI (popF k) := (show ∀ k, k < 256 → itF (fun i s9 => (s9 + ((nI k >>> ((nI i) &&& 31)) &&& 1))) 0 8 = nI (popF k) by decide +kernel) k hk
theorem many_at {N : Nat → Nat → Int32} {K : Nat → Nat → Int64} {k : Nat} (hk : k < 256) : a_X8_many N K (nI k) = nI (popF k) := many_pure hk
theorem pow_le {n : Nat} (h : n ≤ 8) : 2 ^ n ≤ 256 := Nat.pow_le_pow_right (by decide) h
/-- the first of the greatest, found in two ways -/
theorem best_arg {v : Nat → Int32} {g : Int32 → Int32} (hg : ∀ i, g (nI i) = v i) (h0 : 0 ≤ v 0) : ∀ n, bestI v nI 0 (n + 1) = (g (itF (fun i s9 => if g (nI (i + 1)) ≤ g s9 then s9 else nI (i + 1)) 0 n), itF (fun i s9 => if g (nI (i + 1)) ≤ g s9 then s9 else nI (i + 1)) 0 n) := by
  intro n
  induction n with
  | zero =>
    show (if v 0 ≤ 0 then ((0 : Int32), (0 : Int32)) else (v 0, nI 0)) = (g 0, 0)
    have e : g 0 = v 0 := hg 0
    rw [e]
    by_cases h : v 0 ≤ 0
    · rw [if_pos h, Int32.le_antisymm h h0]
    · rw [if_neg h]; rfl
  | succ n ih =>
    have s : bestI v nI 0 (n + 1 + 1) = if v (n + 1) ≤ (bestI v nI 0 (n + 1)).1 then bestI v nI 0 (n + 1) else (v (n + 1), nI (n + 1)) := by
      unfold bestI
      rw [itF_s]
    rw [s, ih, itF_s]
    dsimp only
    rw [← hg (n + 1)]
    by_cases h : g (nI (n + 1)) ≤ g (itF (fun i s9 => if g (nI (i + 1)) ≤ g s9 then s9 else nI (i + 1)) 0 n)
    · rw [if_pos h, if_pos h]
    · rw [if_neg h, if_neg h]
section SG
variable {tc wc : Nat} {M N : Nat → Nat → Int32} {L K : Nat → Nat → Int64}
/-- whether a thing lies within sight -/
def sgB (N : Nat → Nat → Int32) (sg c : Int32) (t : Nat) : Bool := decide (absI (N 93 t - c) ≤ sg)
theorem abs_pure {x c sg : Int32} (hx : 0 ≤ x ∧ x ≤ 9) (hc : 0 ≤ c ∧ c ≤ 9) : absI (x - c) ≤ sg ↔ (if x ≤ c then ¬ sg < c - x else ¬ sg < x - c) := by
  have e0 : (0 : Int32).toInt = 0 := rfl
  have x1 := ti_bnd (n := 9) hx (by decide)
  have c1 := ti_bnd (n := 9) hc (by decide)
  have h1 : (x - c).toInt = x.toInt - c.toInt := ti_sub (by omega)
  have h2 : (c - x).toInt = c.toInt - x.toInt := ti_sub (by omega)
  have h3 : (0 - (x - c)).toInt = c.toInt - x.toInt := by rw [ti_sub (by omega), h1]; omega
  unfold absI
  by_cases q : x ≤ c
  · have q' := Int32.le_iff_toInt_le.mp q
    rw [if_pos q]
    by_cases q2 : 0 ≤ x - c
    · have q3 := Int32.le_iff_toInt_le.mp q2
      rw [if_pos q2, Int32.le_iff_toInt_le, Int32.lt_iff_toInt_lt, h1, h2]
      omega
    · rw [if_neg q2, Int32.le_iff_toInt_le, Int32.lt_iff_toInt_lt, h3, h2]
      omega
  · have q' : ¬ x.toInt ≤ c.toInt := fun k => q (Int32.le_iff_toInt_le.mpr k)
    rw [if_neg q, if_pos (by rw [Int32.le_iff_toInt_le]; omega), Int32.le_iff_toInt_le, Int32.lt_iff_toInt_lt, h1]
    omega
theorem seen_c (r : Rl tc wc M L N K) {sg c : Int32} (hc : 0 ≤ c ∧ c ≤ 9) : seenI (fun t => M (18 + 4 + t) 0) sg c tc = nI (kS (sgB N sg c) tc) := by
  have h8 := r.n.2.2.1
  unfold seenI
  refine or_set (sgB N sg c) tc (fun t k ht hk => ?_)
  have e : M (18 + 4 + t) 0 = N 93 t := (r.tv (by omega)).1
  dsimp only
  simp only [e]
  unfold sgB
  by_cases q : absI (N 93 t - c) ≤ sg
  · rw [if_pos q, if_pos (decide_eq_true q), or_bit (by omega) hk]
  · rw [if_neg q, if_neg (by rw [decide_eq_true_iff]; exact q)]
theorem seen_x (r : Rl tc wc M L N K) {x c : Int32} {w : Nat} (hc : 0 ≤ c ∧ c ≤ 9) : a_X8_seenFrom N K x c tc w = nI (kS (sgB N (a_X8_sees N K x w) c) tc) := by
  have h8 := r.n.2.2.1
  unfold a_X8_seenFrom lp_X8_seenFrom_5
  refine or_set (sgB N (a_X8_sees N K x w) c) tc (fun t k ht hk => ?_)
  have hp := abs_pure (sg := a_X8_sees N K x w) (r.tok (t := t) (by omega)).1 hc
  unfold sgB
  by_cases q : N 93 t ≤ c
  · rw [if_pos q] at hp
    rw [if_pos q]
    by_cases q2 : a_X8_sees N K x w < c - N 93 t
    · rw [if_pos q2, if_neg (by rw [decide_eq_true_iff]; exact fun k => hp.mp k q2)]
    · rw [if_neg q2, if_pos (decide_eq_true (hp.mpr q2)), add_bit (by omega)]
  · rw [if_neg q] at hp
    rw [if_neg q]
    by_cases q2 : a_X8_sees N K x w < N 93 t - c
    · rw [if_pos q2, if_neg (by rw [decide_eq_true_iff]; exact fun k => hp.mp k q2)]
    · rw [if_neg q2, if_pos (decide_eq_true (hp.mpr q2)), add_bit (by omega)]
theorem seen_eq (r : Rl tc wc M L N K) {x c : Int32} {w : Nat} (h6 : w < 6) (hc : 0 ≤ c ∧ c ≤ 9) : seenI (fun t => M (18 + 4 + t) 0) (sightF (M (30 + w) 1)) c tc = a_X8_seenFrom N K x c tc w := by
  rw [seen_c r hc, seen_x r hc, sight_eq r h6]
theorem hasI_01 (b : Int32) (t : Nat) : hasI b t = 0 ∨ hasI b t = 1 := by
  unfold hasI
  obtain ⟨j, hj, e⟩ := pk_andE (b >>> (nI t &&& 31)) (m := 1) 1 (by decide)
  rw [e]
  rcases (show j = 0 ∨ j = 1 by omega) with rfl | rfl
  · exact Or.inl rfl
  · exact Or.inr rfl
theorem worth_eq (r : Rl tc wc M L N K) (bits : Int32) : worthI (fun t => M (18 + 4 + t) 4) bits tc = a_X8_worthOf N K bits tc := by
  have h8 := r.n.2.2.1
  unfold worthI a_X8_worthOf lp_X8_worthOf_4
  refine itF_congr tc (fun t ht b => ?_)
  have e : M (18 + 4 + t) 4 = N 97 t := (r.tv (by omega)).2.2.2.2.1
  dsimp only
  rw [e]
  have h01 := hasI_01 bits t
  unfold hasI at h01 ⊢
  rcases h01 with q | q
  · rw [if_pos q, if_neg (by rw [q]; decide)]
  · rw [if_neg (by rw [q]; decide), if_pos q]
theorem worth_rg (r : Rl tc wc M L N K) (bits : Int32) : ∀ n, n ≤ 8 → 0 ≤ (a_X8_worthOf N K bits n).toInt ∧ (a_X8_worthOf N K bits n).toInt ≤ 99 * n := by
  intro n
  induction n with
  | zero => intro _; exact ⟨Int.le_refl 0, Int.le_refl 0⟩
  | succ n ih =>
    intro h
    have ih := ih (by omega)
    have hw := ti_bnd (n := 99) (r.tok (t := n) (by omega)).2.2.2.1 (by decide)
    have s : a_X8_worthOf N K bits (n + 1) = if ((bits >>> ((nI n) &&& 31)) &&& 1) = 1 then a_X8_worthOf N K bits n + N 97 n else a_X8_worthOf N K bits n := by
      unfold a_X8_worthOf lp_X8_worthOf_4
      rw [itF_s]
    rw [s]
    split
    · rw [ti_add (by omega)]; omega
    · omega
theorem i_nn {x : Int32} (h : 0 ≤ x.toInt) : 0 ≤ x := by
  rw [Int32.le_iff_toInt_le]
  exact h
theorem nI_c9 {i : Nat} (h : i ≤ 9) : 0 ≤ nI i ∧ nI i ≤ 9 := ⟨nI_pos' (by omega), (nI_le_iff (b := 9) (by omega) (by omega)).mpr h⟩
theorem e_seen (r : Rl tc wc M L N K) (w q : Int32) : Ok M L N K (a_X7_seen M L w q tc) (a_X8_seen N K w q tc wc) := by
  unfold a_X7_seen a_X8_seen
  by_cases h : 0 ≤ w ∧ w < N 86 0
  · rw [if_pos ((r.wc_iff w).mpr h), if_pos h]
    obtain ⟨w0, h0, h6, -, ew⟩ := r.wx h
    rw [ew]
    by_cases hq : q < 0
    · rw [if_neg (show ¬ (0 ≤ q ∧ q ≤ 1) from fun k => absurd hq (Int32.not_lt.mpr k.1)), if_pos hq]
      exact Ok.ref r (by decide) (by decide) rfl
    rw [if_neg hq]
    by_cases hq1 : q ≤ 1
    · rw [if_pos (show 0 ≤ q ∧ q ≤ 1 from ⟨Int32.not_lt.mp hq, hq1⟩), if_pos hq1]
      by_cases z : q = 0
      · rw [if_pos z, if_pos z]
        refine Ok.same r ?_
        rw [(r.wv h6).2.2.2.2]
        exact seen_eq r h6 (r.wok h6).2.2.2.2
      · rw [if_neg z, if_neg z]
        refine Ok.same r ?_
        have hb := best_arg (v := fun c => a_X8_worthOf N K (a_X8_seenFrom N K w (nI c) tc w0) tc) (g := fun x => a_X8_worthOf N K (a_X8_seenFrom N K w x tc w0) tc) (fun _ => rfl) (i_nn (worth_rg r _ tc r.n.2.2.1).1) 9
        have ec : bestI (fun c => worthI (fun t => (M (18 + 4 + t) 4)) (seenI (fun t => (M (18 + 4 + t) 0)) (sightF (M (30 + w0) 1)) (nI c) tc) tc) nI 0 10 = bestI (fun c => a_X8_worthOf N K (a_X8_seenFrom N K w (nI c) tc w0) tc) nI 0 10 := by
          unfold bestI
          refine itF_congr 10 (fun c hc b => ?_)
          dsimp only
          have h1 := seen_eq r h6 (x := w) (c := nI c) (nI_c9 (by omega))
          simp only [h1, worth_eq r]
        rw [ec, hb]
        unfold lp_X8_seen_51
        rw [ew]
    · rw [if_neg (show ¬ (0 ≤ q ∧ q ≤ 1) from fun k => hq1 k.2), if_neg hq1]
      exact Ok.ref r (by decide) (by decide) rfl
  · rw [if_neg (fun q => h ((r.wc_iff w).mp q)), if_neg h]
    exact Ok.ref r (by decide) (by decide) rfl
theorem e_lookouts (r : Rl tc wc M L N K) (w : Int32) : Ok M L N K (a_X7_lookouts M L w tc) (a_X8_lookouts N K w tc wc) := by
  unfold a_X7_lookouts a_X8_lookouts
  by_cases h : 0 ≤ w ∧ w < N 86 0
  · rw [if_pos ((r.wc_iff w).mpr h), if_pos h]
    obtain ⟨w0, h0, h6, -, ew⟩ := r.wx h
    refine Ok.same r ?_
    unfold lookI lp_X8_lookouts_18
    rw [ew]
    rw [or_set (fun c => decide (¬ a_X8_seenFrom N K w (nI c) tc w0 = 0)) 10, or_set (fun c => decide (¬ a_X8_seenFrom N K w (nI c) tc w0 = 0)) 10]
    · intro c k hc hk
      by_cases q : a_X8_seenFrom N K w (nI c) tc w0 = 0
      · rw [if_pos q, if_neg (by rw [decide_eq_true_iff]; exact fun k => k q)]
      · rw [if_neg q, if_pos (decide_eq_true q), add_bit (by omega)]
    · intro c k hc hk
      dsimp only
      have h1 := seen_eq r h6 (x := w) (c := nI c) (nI_c9 (by omega))
      simp only [h1]
      by_cases q : a_X8_seenFrom N K w (nI c) tc w0 = 0
      · rw [if_pos q, if_neg (by rw [decide_eq_true_iff]; exact fun k => k q)]
      · rw [if_neg q, if_pos (decide_eq_true q), or_bit (by omega) hk]
  · rw [if_neg (fun q => h ((r.wc_iff w).mp q)), if_neg h]
    exact Ok.ref r (by decide) (by decide) rfl
/-- whether a thing can come in a quarter -/
def inB (N : Nat → Nat → Int32) (q : Int32) (t : Nat) : Bool := decide (N 94 t ≤ q ∧ q ≤ N 95 t)
theorem in_c (r : Rl tc wc M L N K) (q : Int32) : inI (fun t => M (18 + 4 + t) 1) (fun t => M (18 + 4 + t) 2) q tc = nI (kS (inB N q) tc) := by
  have h8 := r.n.2.2.1
  unfold inI
  refine or_set (inB N q) tc (fun t k ht hk => ?_)
  have e : M (18 + 4 + t) 1 = N 94 t := (r.tv (by omega)).2.1
  have e2 : M (18 + 4 + t) 2 = N 95 t := (r.tv (by omega)).2.2.1
  dsimp only
  simp only [e, e2]
  unfold inB
  by_cases q : N 94 t ≤ q ∧ q ≤ N 95 t
  · rw [if_pos q, if_pos (decide_eq_true q), or_bit (by omega) hk]
  · rw [if_neg q, if_neg (by rw [decide_eq_true_iff]; exact q)]
theorem aw_x (q : Int32) : ∀ n, n ≤ 8 → a_X8_awaited N K q n = nI (popF (kS (inB N q) n)) := by
  intro n
  induction n with
  | zero =>
    intro _
    show (0 : Int32) = nI (popF 0)
    decide
  | succ n ih =>
    intro h
    have s : a_X8_awaited N K q (n + 1) = if ((N 94 n) ≤ q ∧ q ≤ (N 95 n)) then a_X8_awaited N K q n + 1 else a_X8_awaited N K q n := by
      unfold a_X8_awaited lp_X8_awaited_4
      rw [itF_s]
    rw [s, ih (by omega), kS_s]
    unfold inB
    by_cases z : N 94 n ≤ q ∧ q ≤ N 95 n
    · rw [if_pos z, if_pos (decide_eq_true z), pop_up (by omega) (kS_lt _ n), nI_1]
    · rw [if_neg z, if_neg (by rw [decide_eq_true_iff]; exact z)]
theorem await_eq (r : Rl tc wc M L N K) (q : Int32) : bitc (inI (fun t => M (18 + 4 + t) 1) (fun t => M (18 + 4 + t) 2) q tc) = a_X8_awaited N K q tc := by
  have h8 := r.n.2.2.1
  rw [in_c r, aw_x q tc h8, pop_bc (Nat.lt_of_lt_of_le (kS_lt _ _) (pow_le h8))]
theorem e_await (r : Rl tc wc M L N K) (q : Int32) : Ok M L N K (a_X7_await M L q tc) (a_X8_await N K q tc) := by
  unfold a_X7_await a_X8_await
  have h8 := r.n.2.2.1
  by_cases z : q = -1
  · rw [if_pos z, if_pos (by rw [z]; decide), if_pos z]
    refine Ok.same r ?_
    have hb := best_arg (v := fun c => a_X8_awaited N K (nI c) tc) (g := fun x => a_X8_awaited N K x tc) (fun _ => rfl) (by
      rw [aw_x _ tc h8]
      refine nI_pos' ?_
      have : ∀ k, k < 256 → popF k < 2 ^ 31 := by decide +kernel
      exact this _ (Nat.lt_of_lt_of_le (kS_lt _ _) (pow_le h8))) 23
    have ec : bestI (fun q => bitc (inI (fun t => (M (18 + 4 + t) 1)) (fun t => (M (18 + 4 + t) 2)) (nI q) tc)) nI 0 24 = bestI (fun c => a_X8_awaited N K (nI c) tc) nI 0 24 := by
      unfold bestI
      refine itF_congr 24 (fun c hc b => ?_)
      dsimp only
      simp only [await_eq r]
    rw [ec, hb]
    rfl
  · rw [if_neg z]
    by_cases h : 0 ≤ q ∧ q ≤ 23
    · rw [if_pos h, if_pos ⟨Int32.le_trans (by decide) h.1, h.2⟩, if_neg z]
      exact Ok.same r (await_eq r q)
    · rw [if_neg h, if_neg]
      · exact Ok.ref r (by decide) (by decide) rfl
      · intro k
        refine h ⟨?_, k.2⟩
        have e0 : (0 : Int32).toInt = 0 := rfl
        have e1 : (-1 : Int32).toInt = -1 := rfl
        have a1 := Int32.le_iff_toInt_le.mp k.1
        have a2 : ¬ q.toInt = (-1 : Int32).toInt := fun j => z (Int32.toInt_inj.mp j)
        rw [Int32.le_iff_toInt_le]
        omega
end SG
