/-! runners: the worthiest each time, against the best of all sets -/
theorem tb_add {k t i : Nat} (hk : k < 256) (ht : t < 8) (h : k.testBit t = false) : (k + 2 ^ t).testBit i = (k.testBit i || decide (i = t)) ∧ k + 2 ^ t < 256 ∧ popF (k + 2 ^ t) = popF k + 1 := by
  have h0 := (show ∀ k, k < 256 → ∀ t, t < 8 → k.testBit t = false → (k + 2 ^ t < 256 ∧ popF (k + 2 ^ t) = popF k + 1 ∧ k + 2 ^ t = k ||| 2 ^ t) by decide +kernel) k hk t ht h
  refine ⟨?_, h0.1, h0.2.1⟩
  rw [h0.2.2, Nat.testBit_or, Nat.testBit_two_pow]
  congr 1
  by_cases e : i = t
  · subst e; simp
  · simp [e, Ne.symm e]
theorem tb_rm {k t : Nat} (hk : k < 256) (ht : t < 8) (h : k.testBit t = true) : ∃ c, k = c + 2 ^ t ∧ c < 256 ∧ c.testBit t = false := by
  have h0 := (show ∀ k, k < 256 → ∀ t, t < 8 → k.testBit t = true → (k = (k - 2 ^ t) + 2 ^ t ∧ k - 2 ^ t < 256 ∧ (k - 2 ^ t).testBit t = false) by decide +kernel) k hk t ht h
  exact ⟨k - 2 ^ t, h0⟩
theorem tb_some {k : Nat} (hk : k < 256) (h : ¬ k = 0) : ∃ t, t < 8 ∧ k.testBit t = true := by
  have h0 := (show ∀ k, k < 256 → ¬ k = 0 → (∃ t : Fin 8, k.testBit t.val = true) by decide +kernel) k hk h
  obtain ⟨t, ht⟩ := h0
  exact ⟨t.val, t.isLt, ht⟩
theorem tb_has {k t : Nat} (hk : k < 256) (ht : t < 8) : ((nI k >>> (nI t &&& 31)) &&& 1) = (if k.testBit t = true then 1 else 0) := (show ∀ k, k < 256 → ∀ t, t < 8 → ((nI k >>> (nI t &&& 31)) &&& 1) = (if k.testBit t = true then 1 else 0) by decide +kernel) k hk t ht
/-- the worth of a set -/
def wS (w : Nat → Nat) (n S : Nat) : Nat := itF (fun t a => if S.testBit t = true then a + w t else a) 0 n
theorem wS_s {w : Nat → Nat} {n S : Nat} : wS w (n + 1) S = if S.testBit n = true then wS w n S + w n else wS w n S := by
  unfold wS
  rw [itF_s]
theorem wS_add {w : Nat → Nat} {S b : Nat} (hS : S < 256) (hb : b < 8) (h : S.testBit b = false) : ∀ n, wS w n (S + 2 ^ b) = wS w n S + (if b < n then w b else 0) := by
  intro n
  induction n with
  | zero => rfl
  | succ n ih =>
    rw [wS_s, wS_s, ih, (tb_add (i := n) hS hb h).1]
    by_cases e : n = b
    · subst e
      rw [h, if_pos (show (false || decide (n = n)) = true by simp), if_neg (Nat.lt_irrefl n), if_neg (by decide), if_pos (Nat.lt_succ_self n)]
      omega
    · have e2 : decide (n = b) = false := decide_eq_false e
      rw [e2, Bool.or_false]
      have e3 : (b < n + 1) ↔ (b < n) := by omega
      by_cases c : S.testBit n = true
      · rw [if_pos c, if_pos c]
        by_cases z : b < n
        · rw [if_pos z, if_pos (by omega)]; omega
        · rw [if_neg z, if_neg (by omega)]; omega
      · rw [if_neg c, if_neg c]
        by_cases z : b < n
        · rw [if_pos z, if_pos (by omega)]
        · rw [if_neg z, if_neg (by omega)]
theorem wS_zero {w : Nat → Nat} {S : Nat} : ∀ n, (∀ t, t < n → S.testBit t = true → w t = 0) → wS w n S = 0 := by
  intro n
  induction n with
  | zero => intro _; rfl
  | succ n ih =>
    intro h
    rw [wS_s, ih (fun t ht => h t (by omega))]
    by_cases c : S.testBit n = true
    · rw [if_pos c, h n (by omega) c]
    · rw [if_neg c]
/-- one step: the worthiest b that is open, if there is one -/
def stepP (w : Nat → Nat) (m : Nat → Bool) (n : Nat) (step : Nat → Nat) : Prop := ∀ c, c < 256 → (step c = c ∧ ∀ t, t < n → m t = true → c.testBit t = false → w t = 0) ∨ ∃ b, b < n ∧ m b = true ∧ c.testBit b = false ∧ 0 < w b ∧ step c = c + 2 ^ b ∧ (∀ t, t < n → m t = true → c.testBit t = false → w t ≤ w b ∧ (t < b → w t < w b))
def iterN (step : Nat → Nat) : Nat → Nat → Nat
  | 0, c => c
  | k + 1, c => iterN step k (step c)
theorem iter_it {step : Nat → Nat} : ∀ k c, iterN step k c = itF (fun _ z => step z) c k := by
  have sh : ∀ k c, itF (fun _ z => step z) (step c) k = step (itF (fun _ z => step z) c k) := by
    intro k
    induction k with
    | zero => intro c; rfl
    | succ k ih => intro c; rw [itF_s, ih, itF_s]
  intro k
  induction k with
  | zero => intro c; rfl
  | succ k ih =>
    intro c
    show iterN step k (step c) = _
    rw [ih, itF_s, sh]
theorem greedy {w : Nat → Nat} {m : Nat → Bool} {n : Nat} {step : Nat → Nat} (hn : n ≤ 8) (hs : stepP w m n step) : ∀ k c, c < 256 →
    iterN step k c < 256 ∧ (∀ t, (iterN step k c).testBit t = true → c.testBit t = true ∨ (t < n ∧ m t = true)) ∧ popF (iterN step k c) ≤ popF c + k ∧
    ∀ S, S < 256 → (∀ t, S.testBit t = true → t < n ∧ m t = true ∧ c.testBit t = false) → popF S ≤ k → wS w n c + wS w n S ≤ wS w n (iterN step k c) ∧ (wS w n c + wS w n S = wS w n (iterN step k c) → iterN step k c ≤ c + S) := by
  intro k
  induction k with
  | zero =>
    intro c hc
    refine ⟨hc, fun t h => Or.inl h, Nat.le_refl _, fun S hS hm hp => ?_⟩
    have h0 := (show ∀ S, S < 256 → popF S ≤ 0 → S = 0 by decide +kernel) S hS hp
    subst h0
    have hz : wS w n 0 = 0 := wS_zero n (fun t _ h => by rw [Nat.zero_testBit] at h; exact absurd h (by decide))
    rw [hz]
    exact ⟨Nat.le_refl _, fun _ => Nat.le_refl _⟩
  | succ k ih =>
    intro c hc
    show iterN step k (step c) < 256 ∧ (∀ t, (iterN step k (step c)).testBit t = true → c.testBit t = true ∨ (t < n ∧ m t = true)) ∧ popF (iterN step k (step c)) ≤ popF c + (k + 1) ∧ ∀ S, S < 256 → (∀ t, S.testBit t = true → t < n ∧ m t = true ∧ c.testBit t = false) → popF S ≤ k + 1 → wS w n c + wS w n S ≤ wS w n (iterN step k (step c)) ∧ (wS w n c + wS w n S = wS w n (iterN step k (step c)) → iterN step k (step c) ≤ c + S)
    rcases hs c hc with ⟨e, hz⟩ | ⟨b, hb, hmb, hcb, hwb, e, hbest⟩
    · rw [e]
      obtain ⟨i1, i2, i3, i4⟩ := ih c hc
      refine ⟨i1, i2, by omega, fun S hS hm hp => ?_⟩
      have h0 : wS w n S = 0 := wS_zero n (fun t ht h => hz t ht (hm t h).2.1 (hm t h).2.2)
      have i40 := i4 0 (by omega) (fun t h => by rw [Nat.zero_testBit] at h; exact absurd h (by decide)) (by show popF 0 ≤ k; exact Nat.zero_le _)
      have hz0 : wS w n 0 = 0 := wS_zero n (fun t _ h => by rw [Nat.zero_testBit] at h; exact absurd h (by decide))
      rw [hz0] at i40
      rw [h0]
      exact ⟨i40.1, fun q => by have := i40.2 q; omega⟩
    · rw [e]
      obtain ⟨a1, a2, a3⟩ := tb_add (i := b) hc (show b < 8 by omega) hcb
      have tba : ∀ i, (c + 2 ^ b).testBit i = (c.testBit i || decide (i = b)) := fun i => (tb_add (i := i) hc (show b < 8 by omega) hcb).1
      have hwc : wS w n (c + 2 ^ b) = wS w n c + w b := by rw [wS_add hc (by omega) hcb, if_pos hb]
      obtain ⟨i1, i2, i3, i4⟩ := ih (c + 2 ^ b) a2
      refine ⟨i1, fun t h => ?_, by omega, fun S hS hm hp => ?_⟩
      · rcases i2 t h with q | q
        · rw [tba] at q
          by_cases z : t = b
          · subst z; exact Or.inr ⟨hb, hmb⟩
          · rw [decide_eq_false z, Bool.or_false] at q; exact Or.inl q
        · exact Or.inr q
      · by_cases hSb : S.testBit b = true
        · obtain ⟨S', rfl, s2, s3⟩ := tb_rm hS (show b < 8 by omega) hSb
          obtain ⟨b1, b2, b3⟩ := tb_add (i := b) s2 (show b < 8 by omega) s3
          have tbs : ∀ i, (S' + 2 ^ b).testBit i = (S'.testBit i || decide (i = b)) := fun i => (tb_add (i := i) s2 (show b < 8 by omega) s3).1
          have hws : wS w n (S' + 2 ^ b) = wS w n S' + w b := by rw [wS_add s2 (by omega) s3, if_pos hb]
          have j := i4 S' s2 (fun t h => by
            have hne : ¬ t = b := by rintro rfl; rw [s3] at h; exact absurd h (by decide)
            have := hm t (by rw [tbs, h]; rfl)
            refine ⟨this.1, this.2.1, ?_⟩
            rw [tba, this.2.2, decide_eq_false hne]; rfl) (by omega)
          rw [hwc] at j
          rw [hws]
          exact ⟨by omega, fun q => by have := j.2 (by omega); omega⟩
        · have hSb' : S.testBit b = false := Bool.eq_false_iff.mpr hSb
          by_cases hS0 : S = 0
          · subst hS0
            have hz0 : wS w n 0 = 0 := wS_zero n (fun t _ h => by rw [Nat.zero_testBit] at h; exact absurd h (by decide))
            have j := i4 0 (by omega) (fun t h => by rw [Nat.zero_testBit] at h; exact absurd h (by decide)) (by show popF 0 ≤ k; exact Nat.zero_le _)
            rw [hz0, hwc] at j
            rw [hz0]
            exact ⟨by omega, fun q => by omega⟩
          · obtain ⟨u, hu, hSu⟩ := tb_some hS hS0
            obtain ⟨S', rfl, s2, s3⟩ := tb_rm hS hu hSu
            obtain ⟨b1, b2, b3⟩ := tb_add (i := u) s2 hu s3
            have tbs : ∀ i, (S' + 2 ^ u).testBit i = (S'.testBit i || decide (i = u)) := fun i => (tb_add (i := i) s2 hu s3).1
            obtain ⟨u1, u2, u3⟩ := hm u hSu
            have hws : wS w n (S' + 2 ^ u) = wS w n S' + w u := by rw [wS_add s2 hu s3, if_pos u1]
            have hub := hbest u u1 u2 u3
            have hne : ¬ u = b := by rintro rfl; exact hSb hSu
            have j := i4 S' s2 (fun t h => by
              have hnb : ¬ t = b := by
                rintro rfl
                rw [tbs, h] at hSb'
                rw [Bool.true_or] at hSb'
                exact absurd hSb' (by decide)
              have := hm t (by rw [tbs, h]; rfl)
              refine ⟨this.1, this.2.1, ?_⟩
              rw [tba, this.2.2, decide_eq_false hnb]; rfl) (by omega)
            rw [hwc] at j
            rw [hws]
            refine ⟨by omega, fun q => ?_⟩
            have hlt : b < u := by
              rcases Nat.lt_or_ge u b with z | z
              · have := hub.2 z; omega
              · omega
            have hpow : 2 ^ b < 2 ^ u := Nat.pow_lt_pow_right (by decide) hlt
            have := j.2 (by omega)
            omega
/-- the scan over all sets -/
def scanN (w : Nat → Nat) (mk k n : Nat) (c : Nat) : Nat := itF (fun S is => if (S ||| mk) = mk ∧ popF S ≤ k ∧ wS w n is < wS w n S then S else is) 0 c
theorem scan_sp {w : Nat → Nat} {mk k n : Nat} : ∀ c, ((scanN w mk k n c ||| mk) = mk ∧ popF (scanN w mk k n c) ≤ k ∧ scanN w mk k n c ≤ c) ∧ (∀ S, S < c → (S ||| mk) = mk → popF S ≤ k → wS w n S ≤ wS w n (scanN w mk k n c)) ∧ (∀ S, S < scanN w mk k n c → (S ||| mk) = mk → popF S ≤ k → wS w n S < wS w n (scanN w mk k n c)) := by
  intro c
  induction c with
  | zero => exact ⟨⟨Nat.zero_or mk, (by show popF 0 ≤ k; exact Nat.zero_le _), Nat.le_refl _⟩, fun S h => absurd h (Nat.not_lt_zero S), fun S h => absurd h (Nat.not_lt_zero S)⟩
  | succ c ih =>
    obtain ⟨⟨i1, i2, i3⟩, i4, i5⟩ := ih
    have s : scanN w mk k n (c + 1) = if (c ||| mk) = mk ∧ popF c ≤ k ∧ wS w n (scanN w mk k n c) < wS w n c then c else scanN w mk k n c := by
      unfold scanN
      rw [itF_s]
    rw [s]
    by_cases z : (c ||| mk) = mk ∧ popF c ≤ k ∧ wS w n (scanN w mk k n c) < wS w n c
    · rw [if_pos z]
      refine ⟨⟨z.1, z.2.1, by omega⟩, fun S h1 h2 h3 => ?_, fun S h1 h2 h3 => ?_⟩
      · by_cases e : S = c
        · rw [e]; exact Nat.le_refl _
        · have := i4 S (by omega) h2 h3; omega
      · have := i4 S h1 h2 h3; omega
    · rw [if_neg z]
      refine ⟨⟨i1, i2, by omega⟩, fun S h1 h2 h3 => ?_, i5⟩
      by_cases e : S = c
      · rw [e] at h2 h3 ⊢
        exact Nat.not_lt.mp (fun q => z ⟨h2, h3, q⟩)
      · exact i4 S (by omega) h2 h3
theorem or_sub {S mk : Nat} : (S ||| mk) = mk ↔ ∀ t, S.testBit t = true → mk.testBit t = true := by
  constructor
  · intro h t ht
    have := congrArg (fun z => z.testBit t) h
    rw [Nat.testBit_or, ht, Bool.true_or] at this
    exact this.symm
  · intro h
    apply Nat.eq_of_testBit_eq
    intro t
    rw [Nat.testBit_or]
    by_cases c : S.testBit t = true
    · rw [c, h t c]; rfl
    · rw [Bool.eq_false_iff.mpr c, Bool.false_or]
theorem greedy_scan {w : Nat → Nat} {m : Nat → Bool} {n : Nat} {step : Nat → Nat} (hn : n ≤ 8) (hs : stepP w m n step) (k : Nat) : iterN step k 0 = scanN w (kS m n) k n (2 ^ n) := by
  obtain ⟨g1, g2, g3, g4⟩ := greedy hn hs k 0 (by omega)
  obtain ⟨⟨c1, c2, c3⟩, c4, c5⟩ := scan_sp (w := w) (mk := kS m n) (k := k) (n := n) (2 ^ n)
  have h256 := pow_le hn
  have hml := kS_lt m n
  have hp0 : popF 0 = 0 := rfl
  have sub_lt : ∀ S, (S ||| kS m n) = kS m n → S ≤ kS m n := fun S h => by rw [← h]; exact Nat.left_le_or
  have gl : (iterN step k 0 ||| kS m n) = kS m n := or_sub.mpr (fun t ht => by
    rcases g2 t ht with q | q
    · rw [Nat.zero_testBit] at q; exact absurd q (by decide)
    · rw [kS_bit, q.2, decide_eq_true q.1]; rfl)
  have hw0 : wS w n 0 = 0 := wS_zero n (fun t _ h => by rw [Nat.zero_testBit] at h; exact absurd h (by decide))
  have a1 := c4 (iterN step k 0) (Nat.lt_of_le_of_lt (sub_lt _ gl) hml) gl (by omega)
  have a2 := g4 (scanN w (kS m n) k n (2 ^ n)) (Nat.lt_of_lt_of_le (Nat.lt_of_le_of_lt (sub_lt _ c1) hml) h256) (fun t ht => by
    have := or_sub.mp c1 t ht
    rw [kS_bit] at this
    have h2 := Bool.and_eq_true_iff.mp this
    exact ⟨of_decide_eq_true h2.1, h2.2, Nat.zero_testBit t⟩) c2
  rw [hw0] at a2
  have a3 := a2.2 (by omega)
  rcases Nat.lt_or_ge (iterN step k 0) (scanN w (kS m n) k n (2 ^ n)) with q | q
  · have := c5 _ q gl (by omega)
    omega
  · omega
section RU
variable {tc wc : Nat} {M N : Nat → Nat → Int32} {L K : Nat → Nat → Int64}
def wN (N : Nat → Nat → Int32) (t : Nat) : Nat := (N 97 t).toNatClampNeg
def ndB (N : Nat → Nat → Int32) (t : Nat) : Bool := decide (¬ N 99 t ≤ N 98 t ∧ N 99 t / 2 ≤ N 98 t)
theorem wN_at (r : Rl tc wc M L N K) {t : Nat} (ht : t < 8) : N 97 t = nI (wN N t) ∧ wN N t ≤ 99 := nI_self 99 (r.tok ht).2.2.2.1 (by decide)
theorem wS_le (r : Rl tc wc M L N K) {S : Nat} : ∀ n, n ≤ 8 → wS (wN N) n S ≤ 99 * n := by
  intro n
  induction n with
  | zero => intro _; exact Nat.le_refl _
  | succ n ih =>
    intro h
    have := ih (by omega)
    have := (wN_at r (show n < 8 by omega)).2
    rw [wS_s]
    split <;> omega
theorem worth_S (r : Rl tc wc M L N K) {S : Nat} (hS : S < 256) : ∀ n, n ≤ 8 → a_X8_worthOf N K (nI S) n = nI (wS (wN N) n S) := by
  intro n
  induction n with
  | zero => intro _; rfl
  | succ n ih =>
    intro h
    have s : a_X8_worthOf N K (nI S) (n + 1) = if ((nI S >>> ((nI n) &&& 31)) &&& 1) = 1 then a_X8_worthOf N K (nI S) n + N 97 n else a_X8_worthOf N K (nI S) n := by
      unfold a_X8_worthOf lp_X8_worthOf_4
      rw [itF_s]
    rw [s, ih (by omega), tb_has hS (by omega), wS_s, (wN_at r (show n < 8 by omega)).1]
    by_cases c : S.testBit n = true
    · rw [if_pos c, if_pos rfl, if_pos c, nI_add]
    · rw [if_neg c, if_neg (by decide), if_neg c]
theorem run45 (r : Rl tc wc M L N K) (k q : Int32) : ∀ n, n ≤ 8 → (lp_X8_runners_45 N K k q tc n).1 = nI (kS (ndB N) n) := by
  intro n
  induction n with
  | zero => intro _; rfl
  | succ n ih =>
    intro h
    have s : lp_X8_runners_45 N K k q tc (n + 1) = (if ((if (0 : Int32) = 0 then (N 99 n) else (N 99 n) / 2) ≤ (N 98 n)) then ((lp_X8_runners_45 N K k q tc n).1, ((lp_X8_runners_45 N K k q tc n).2 + (N 97 n))) else (if ((if (1 : Int32) = 0 then (N 99 n) else (N 99 n) / 2) ≤ (N 98 n)) then (((lp_X8_runners_45 N K k q tc n).1 + (1 <<< ((nI n) &&& 31))), (lp_X8_runners_45 N K k q tc n).2) else ((lp_X8_runners_45 N K k q tc n).1, (lp_X8_runners_45 N K k q tc n).2))) := by
      unfold lp_X8_runners_45
      rw [itF_s]
    have e0 : (if (0 : Int32) = 0 then (N 99 n) else (N 99 n) / 2) = N 99 n := if_pos rfl
    have e1 : (if (1 : Int32) = 0 then (N 99 n) else (N 99 n) / 2) = N 99 n / 2 := if_neg (by decide)
    rw [s]
    simp only [e1, if_true]
    rw [kS_s]
    by_cases c : N 99 n ≤ N 98 n
    · rw [if_pos c, if_neg (show ¬ ndB N n = true from fun z => (of_decide_eq_true z).1 c)]
      exact ih (by omega)
    · rw [if_neg c]
      by_cases d : N 99 n / 2 ≤ N 98 n
      · rw [if_pos d, if_pos (show ndB N n = true from decide_eq_true ⟨c, d⟩)]
        dsimp only
        rw [ih (by omega), add_bit (by omega)]
      · rw [if_neg d, if_neg (show ¬ ndB N n = true from fun z => d (of_decide_eq_true z).2)]
        exact ih (by omega)
theorem run105 (r : Rl tc wc M L N K) {kn : Nat} (hk : kn ≤ 8) (q : Int32) : ∀ c, c ≤ 2 ^ tc → lp_X8_runners_105 N K (nI kn) q tc c = nI (scanN (wN N) (kS (ndB N) tc) kn tc c) := by
  have h8 := r.n.2.2.1
  have h256 := pow_le h8
  intro c
  induction c with
  | zero => intro _; rfl
  | succ c ih =>
    intro hc
    have hsl := (scan_sp (w := wN N) (mk := kS (ndB N) tc) (k := kn) (n := tc) c).1.2.2
    have hml := kS_lt (ndB N) tc
    have s : lp_X8_runners_105 N K (nI kn) q tc (c + 1) = (if ((nI c) ||| ((lp_X8_runners_45 N K (nI kn) q tc tc).1)) = ((lp_X8_runners_45 N K (nI kn) q tc tc).1) then (if nI kn < (a_X8_many N K (nI c)) then lp_X8_runners_105 N K (nI kn) q tc c else (if (a_X8_worthOf N K (nI c) tc) ≤ (a_X8_worthOf N K (lp_X8_runners_105 N K (nI kn) q tc c) tc) then lp_X8_runners_105 N K (nI kn) q tc c else (nI c))) else lp_X8_runners_105 N K (nI kn) q tc c) := by
      unfold lp_X8_runners_105
      rw [itF_s]
    have ss : scanN (wN N) (kS (ndB N) tc) kn tc (c + 1) = if (c ||| kS (ndB N) tc) = kS (ndB N) tc ∧ popF c ≤ kn ∧ wS (wN N) tc (scanN (wN N) (kS (ndB N) tc) kn tc c) < wS (wN N) tc c then c else scanN (wN N) (kS (ndB N) tc) kn tc c := by
      unfold scanN
      rw [itF_s]
    have hp8 : ∀ k, k < 256 → popF k ≤ 8 := by decide +kernel
    have hpc := hp8 c (by omega)
    have w1 := wS_le r (S := c) tc h8
    have w2 := wS_le r (S := scanN (wN N) (kS (ndB N) tc) kn tc c) tc h8
    rw [s, ss, ih (by omega), run45 r _ _ tc h8, n_or, many_at (show c < 256 by omega), worth_S r (show c < 256 by omega) tc h8, worth_S r (show scanN (wN N) (kS (ndB N) tc) kn tc c < 256 by omega) tc h8]
    have hor : nI (c ||| kS (ndB N) tc) = nI (kS (ndB N) tc) ↔ (c ||| kS (ndB N) tc) = kS (ndB N) tc := nI_eq (by
      have := Nat.or_lt_two_pow (show c < 2 ^ tc by omega) hml
      omega) (by omega)
    by_cases d : (c ||| kS (ndB N) tc) = kS (ndB N) tc
    · rw [if_pos (hor.mpr d)]
      by_cases e : popF c ≤ kn
      · rw [if_neg (show ¬ nI kn < nI (popF c) from fun z => by
          have := (nI_lt_iff (by omega) (by omega)).mp z
          omega)]
        by_cases f : wS (wN N) tc (scanN (wN N) (kS (ndB N) tc) kn tc c) < wS (wN N) tc c
        · rw [if_neg (show ¬ nI (wS (wN N) tc c) ≤ nI (wS (wN N) tc (scanN (wN N) (kS (ndB N) tc) kn tc c)) from fun z => by
            have := (nI_le_iff (by omega) (by omega)).mp z
            omega), if_pos ⟨d, e, f⟩]
        · rw [if_pos ((nI_le_iff (by omega) (by omega)).mpr (by omega)), if_neg (fun z => f z.2.2)]
      · rw [if_pos ((nI_lt_iff (by omega) (by omega)).mpr (by omega)), if_neg (fun z => e z.2.1)]
    · rw [if_neg (fun z => d (hor.mp z)), if_neg (fun z => d z.1)]
/-- the class's step -/
def nxM (M : Nat → Nat → Int32) (tc : Nat) (c : Int32) : Int32 := (needI (fun t => (M (18 + 4 + t) 5)) (fun t => (M (18 + 4 + t) 6)) (fun t => (M (18 + 4 + t) 4)) c tc).2
theorem need_sp (r : Rl tc wc M L N K) {c : Nat} (hc : c < 256) : ∀ n, n ≤ 8 →
    (needI (fun t => (M (18 + 4 + t) 5)) (fun t => (M (18 + 4 + t) 6)) (fun t => (M (18 + 4 + t) 4)) (nI c) n = (0, -1) ∧ ∀ t, t < n → ndB N t = true → c.testBit t = false → wN N t = 0) ∨
    ∃ b, b < n ∧ ndB N b = true ∧ c.testBit b = false ∧ 0 < wN N b ∧ needI (fun t => (M (18 + 4 + t) 5)) (fun t => (M (18 + 4 + t) 6)) (fun t => (M (18 + 4 + t) 4)) (nI c) n = (nI (wN N b), nI b) ∧ (∀ t, t < n → ndB N t = true → c.testBit t = false → wN N t ≤ wN N b ∧ (t < b → wN N t < wN N b)) := by
  intro n
  induction n with
  | zero => intro _; exact Or.inl ⟨rfl, fun t h => absurd h (Nat.not_lt_zero t)⟩
  | succ n ih =>
    intro h
    have s : needI (fun t => (M (18 + 4 + t) 5)) (fun t => (M (18 + 4 + t) 6)) (fun t => (M (18 + 4 + t) 4)) (nI c) (n + 1) = if hasI (nI c) n = 0 ∧ ((¬ M (18 + 4 + n) 6 ≤ M (18 + 4 + n) 5) ∧ M (18 + 4 + n) 6 / 2 ≤ M (18 + 4 + n) 5) ∧ ¬ M (18 + 4 + n) 4 ≤ (needI (fun t => (M (18 + 4 + t) 5)) (fun t => (M (18 + 4 + t) 6)) (fun t => (M (18 + 4 + t) 4)) (nI c) n).1 then (M (18 + 4 + n) 4, nI n) else needI (fun t => (M (18 + 4 + t) 5)) (fun t => (M (18 + 4 + t) 6)) (fun t => (M (18 + 4 + t) 4)) (nI c) n := by
      unfold needI
      rw [itF_s]
    obtain ⟨e0, e1, e2, e3, e4, e5, e6⟩ := r.tv (show n < 8 by omega)
    obtain ⟨ew, hw⟩ := wN_at r (show n < 8 by omega)
    have hh : hasI (nI c) n = 0 ↔ c.testBit n = false := by
      unfold hasI
      rw [tb_has hc (by omega)]
      cases c.testBit n <;> simp
    rw [s, show 18 + 4 + n = 22 + n from rfl, e4, e5, e6, ew]
    rcases ih (by omega) with ⟨i1, i2⟩ | ⟨b, b1, b2, b3, b4, b5, b6⟩
    · rw [i1]
      by_cases z : hasI (nI c) n = 0 ∧ ((¬ N 99 n ≤ N 98 n) ∧ N 99 n / 2 ≤ N 98 n) ∧ ¬ nI (wN N n) ≤ 0
      · rw [if_pos z]
        right
        have hz : ¬ wN N n ≤ 0 := fun k => z.2.2 ((nI_le_iff (b := 0) (by omega) (by omega)).mpr k)
        refine ⟨n, by omega, decide_eq_true z.2.1, hh.mp z.1, by omega, rfl, fun t ht hm hb => ?_⟩
        by_cases e : t = n
        · subst e; exact ⟨Nat.le_refl _, fun k => absurd k (Nat.lt_irrefl _)⟩
        · have := i2 t (by omega) hm hb
          exact ⟨by omega, fun _ => by omega⟩
      · rw [if_neg z]
        left
        refine ⟨rfl, fun t ht hm hb => ?_⟩
        by_cases e : t = n
        · subst e
          rcases Nat.lt_or_ge 0 (wN N t) with k | k
          · exfalso
            refine z ⟨hh.mpr hb, of_decide_eq_true hm, fun y => ?_⟩
            have := (nI_le_iff (b := 0) (by omega) (by omega)).mp y
            omega
          · omega
        · exact i2 t (by omega) hm hb
    · rw [b5]
      have hwb := (wN_at r (show b < 8 by omega)).2
      by_cases z : hasI (nI c) n = 0 ∧ ((¬ N 99 n ≤ N 98 n) ∧ N 99 n / 2 ≤ N 98 n) ∧ ¬ nI (wN N n) ≤ nI (wN N b)
      · rw [if_pos z]
        right
        have hz : ¬ wN N n ≤ wN N b := fun k => z.2.2 ((nI_le_iff (by omega) (by omega)).mpr k)
        refine ⟨n, by omega, decide_eq_true z.2.1, hh.mp z.1, by omega, rfl, fun t ht hm hb => ?_⟩
        by_cases e : t = n
        · subst e; exact ⟨Nat.le_refl _, fun k => absurd k (Nat.lt_irrefl _)⟩
        · have := (b6 t (by omega) hm hb).1
          exact ⟨by omega, fun _ => by omega⟩
      · rw [if_neg z]
        right
        refine ⟨b, by omega, b2, b3, b4, rfl, fun t ht hm hb => ?_⟩
        by_cases e : t = n
        · subst e
          have : wN N t ≤ wN N b := by
            rcases Nat.lt_or_ge (wN N b) (wN N t) with k | k
            · exfalso
              refine z ⟨hh.mpr hb, of_decide_eq_true hm, fun y => ?_⟩
              have := (nI_le_iff (by omega) (by omega)).mp y
              omega
            · exact k
          exact ⟨this, fun k => absurd k (by omega)⟩
        · exact b6 t (by omega) hm hb
def stN (M : Nat → Nat → Int32) (tc c : Nat) : Nat := if nxM M tc (nI c) = -1 then c else c + 2 ^ (nxM M tc (nI c)).toNatClampNeg
theorem st_sp (r : Rl tc wc M L N K) : stepP (wN N) (ndB N) tc (stN M tc) := by
  intro c hc
  have h8 := r.n.2.2.1
  unfold stN nxM
  rcases need_sp r hc tc h8 with ⟨i1, i2⟩ | ⟨b, b1, b2, b3, b4, b5, b6⟩
  · left
    rw [i1]
    exact ⟨if_pos rfl, i2⟩
  · right
    refine ⟨b, b1, b2, b3, b4, ?_, b6⟩
    rw [b5]
    dsimp only
    rw [if_neg (nI_neg1 b (by omega)), nI_clamp (by omega)]
theorem run_eq (r : Rl tc wc M L N K) : ∀ k, runI (nxM M tc) k = nI (iterN (stN M tc) k 0) := by
  have h8 := r.n.2.2.1
  intro k
  rw [iter_it]
  induction k with
  | zero => rfl
  | succ k ih =>
    have hc := (greedy h8 (st_sp r) k 0 (by omega)).1
    rw [iter_it] at hc
    have s : runI (nxM M tc) (k + 1) = if nxM M tc (runI (nxM M tc) k) = -1 then runI (nxM M tc) k else runI (nxM M tc) k ||| (1 <<< (nxM M tc (runI (nxM M tc) k) &&& 31)) := by
      unfold runI
      rw [itF_s]
    rw [s, ih, itF_s]
    generalize itF (fun _ z => stN M tc z) 0 k = c at hc ⊢
    unfold stN nxM
    rcases need_sp r hc tc h8 with ⟨i1, i2⟩ | ⟨b, b1, b2, b3, b4, b5, b6⟩
    · rw [i1]; rfl
    · rw [b5]
      dsimp only
      rw [if_neg (nI_neg1 b (by omega)), if_neg (nI_neg1 b (by omega)), nI_clamp (by omega), bitN (by omega), n_or]
      have := (show ∀ k, k < 256 → ∀ t, t < 8 → k.testBit t = false → k ||| 2 ^ t = k + 2 ^ t by decide +kernel) c hc b (by omega) b3
      rw [this]
theorem wmet_eq (r : Rl tc wc M L N K) {S : Nat} (hS : S < 256) (hm : ∀ t, S.testBit t = true → ndB N t = true) (k q : Int32) : ∀ n, n ≤ 8 → wmetI (fun t => (M (18 + 4 + t) 5)) (fun t => (M (18 + 4 + t) 6)) (fun t => (M (18 + 4 + t) 4)) (nI S) n = (lp_X8_runners_45 N K k q tc n).2 + a_X8_worthOf N K (nI S) n := by
  intro n
  induction n with
  | zero => intro _; rfl
  | succ n ih =>
    intro h
    have s1 : wmetI (fun t => (M (18 + 4 + t) 5)) (fun t => (M (18 + 4 + t) 6)) (fun t => (M (18 + 4 + t) 4)) (nI S) (n + 1) = if (if hasI (nI S) n = 0 then M (18 + 4 + n) 6 else M (18 + 4 + n) 6 / 2) ≤ M (18 + 4 + n) 5 then wmetI (fun t => (M (18 + 4 + t) 5)) (fun t => (M (18 + 4 + t) 6)) (fun t => (M (18 + 4 + t) 4)) (nI S) n + M (18 + 4 + n) 4 else wmetI (fun t => (M (18 + 4 + t) 5)) (fun t => (M (18 + 4 + t) 6)) (fun t => (M (18 + 4 + t) 4)) (nI S) n := by
      unfold wmetI
      rw [itF_s]
    have s2 : (lp_X8_runners_45 N K k q tc (n + 1)).2 = (if N 99 n ≤ N 98 n then (lp_X8_runners_45 N K k q tc n).2 + N 97 n else (lp_X8_runners_45 N K k q tc n).2) := by
      have s : lp_X8_runners_45 N K k q tc (n + 1) = (if ((if (0 : Int32) = 0 then (N 99 n) else (N 99 n) / 2) ≤ (N 98 n)) then ((lp_X8_runners_45 N K k q tc n).1, ((lp_X8_runners_45 N K k q tc n).2 + (N 97 n))) else (if ((if (1 : Int32) = 0 then (N 99 n) else (N 99 n) / 2) ≤ (N 98 n)) then (((lp_X8_runners_45 N K k q tc n).1 + (1 <<< ((nI n) &&& 31))), (lp_X8_runners_45 N K k q tc n).2) else ((lp_X8_runners_45 N K k q tc n).1, (lp_X8_runners_45 N K k q tc n).2))) := by
        unfold lp_X8_runners_45
        rw [itF_s]
      have e0 : (if (0 : Int32) = 0 then (N 99 n) else (N 99 n) / 2) = N 99 n := if_pos rfl
      rw [s]
      simp only [if_true]
      by_cases c : N 99 n ≤ N 98 n
      · rw [if_pos c, if_pos c]
      · rw [if_neg c, if_neg c]
        by_cases d : N 99 n / 2 ≤ N 98 n
        · simp only [show ¬ (1 : Int32) = 0 by decide, d, if_true, if_false]
        · simp only [show ¬ (1 : Int32) = 0 by decide, d, if_false]
    have s3 : a_X8_worthOf N K (nI S) (n + 1) = if ((nI S >>> ((nI n) &&& 31)) &&& 1) = 1 then a_X8_worthOf N K (nI S) n + N 97 n else a_X8_worthOf N K (nI S) n := by
      unfold a_X8_worthOf lp_X8_worthOf_4
      rw [itF_s]
    obtain ⟨e0, e1, e2, e3, e4, e5, e6⟩ := r.tv (show n < 8 by omega)
    have eh : hasI (nI S) n = if S.testBit n = true then 1 else 0 := tb_has hS (by omega)
    rw [s1, s2, s3, tb_has hS (by omega), ih (by omega), show 18 + 4 + n = 22 + n from rfl, e4, e5, e6, eh]
    by_cases c : S.testBit n = true
    · have hnd := of_decide_eq_true (hm n c)
      rw [if_pos c, if_neg (show ¬ (1 : Int32) = 0 by decide), if_pos hnd.2, if_neg hnd.1, if_pos rfl, Int32.add_assoc]
    · rw [if_neg c, if_pos rfl, if_neg (show ¬ (0 : Int32) = 1 by decide)]
      by_cases d : N 99 n ≤ N 98 n
      · rw [if_pos d, if_pos d, Int32.add_assoc, Int32.add_assoc, Int32.add_comm (N 97 n)]
      · rw [if_neg d, if_neg d]
theorem e_runners (r : Rl tc wc M L N K) (k q : Int32) : Ok M L N K (a_X7_runners M L k q tc) (a_X8_runners N K k q tc) := by
  have h8 := r.n.2.2.1
  unfold a_X7_runners a_X8_runners
  by_cases hq : q < 0
  · rw [if_neg (show ¬ (0 ≤ q ∧ q ≤ 1) from fun z => absurd hq (Int32.not_lt.mpr z.1)), if_pos hq]
    exact Ok.ref r (by decide) (by decide) rfl
  rw [if_neg hq]
  by_cases hq1 : q ≤ 1
  · rw [if_pos (show 0 ≤ q ∧ q ≤ 1 from ⟨Int32.not_lt.mp hq, hq1⟩), if_pos hq1]
    by_cases hk : 0 ≤ k ∧ k ≤ 8
    · rw [if_pos hk, if_pos hk]
      obtain ⟨kn, hkn, rfl⟩ := i_le 8 hk.1 hk.2 (by decide)
      rw [nI_clamp (by omega)]
      have e1 : runI (fun bes => (needI (fun t => (M (18 + 4 + t) 5)) (fun t => (M (18 + 4 + t) 6)) (fun t => (M (18 + 4 + t) 4)) bes tc).2) kn = nI (iterN (stN M tc) kn 0) := run_eq r kn
      have e2 : lp_X8_runners_105 N K (nI kn) q tc (2 ^ tc) = nI (iterN (stN M tc) kn 0) := by
        rw [run105 r hkn q _ (Nat.le_refl _), greedy_scan h8 (st_sp r) kn]
      obtain ⟨g1, g2, -, -⟩ := greedy h8 (st_sp r) kn 0 (by omega)
      have gm : ∀ t, (iterN (stN M tc) kn 0).testBit t = true → ndB N t = true := fun t ht => by
        rcases g2 t ht with z | z
        · rw [Nat.zero_testBit] at z; exact absurd z (by decide)
        · exact z.2
      rw [e1, e2]
      by_cases z : q = 0
      · rw [if_pos z, if_pos z]
        exact Ok.same r (wmet_eq r g1 gm (nI kn) q tc h8)
      · rw [if_neg z, if_neg z]
        exact Ok.same r rfl
    · rw [if_neg hk, if_neg hk]
      exact Ok.ref r (by decide) (by decide) rfl
  · rw [if_neg (show ¬ (0 ≤ q ∧ q ≤ 1) from fun z => hq1 z.2), if_neg hq1]
    exact Ok.ref r (by decide) (by decide) rfl
end RU
