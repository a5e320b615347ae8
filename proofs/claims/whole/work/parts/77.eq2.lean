/-! what a waiter costs and how long he holds, by when a thing comes; the calls that tell of one thing or waiter -/
section GS
variable {tc wc tc' wc' : Nat} {M N M' N' : Nat → Nat → Int32} {L K L' K' : Nat → Nat → Int64}
theorem ti_bnd {x : Int32} {n : Nat} (h : 0 ≤ x ∧ x ≤ nI n) (hn : n < 2 ^ 31) : 0 ≤ x.toInt ∧ x.toInt ≤ n := by
  have e0 : (0 : Int32).toInt = 0 := rfl
  have h1 := Int32.le_iff_toInt_le.mp h.1
  have h2 := Int32.le_iff_toInt_le.mp h.2
  rw [nI_toInt hn] at h2
  omega
theorem wage_pure {kd a pay pat hope n : Int32} (hk : 0 ≤ kd ∧ kd ≤ 6) (ha : 0 ≤ a ∧ a ≤ 9) (hp : 1 ≤ pat ∧ pat ≤ 24) (hn : 0 ≤ n ∧ n ≤ 24) : wageF kd a pay pat hope n = (if n = 0 then 0 else (if n ≤ a then (if kd = 1 then ((pay * n) + a) else (if kd = 2 then (((pay * n) + 1) / 2) else (if kd = 3 then (if pat ≤ n then ((pay * pat) + a) else ((pay * n) + a)) else (if kd = 4 then (pay * 0) else (if kd = 5 then ((((pay * n) + 1) / 2) + 1) else (if kd = 6 then ((pay * 0) + (hope * n)) else (pay * n))))))) else (if kd = 1 then ((pay * n) + a) else (if kd = 2 then (((pay * n) + 1) / 2) else (if kd = 3 then (if pat ≤ n then ((pay * pat) + a) else ((pay * n) + a)) else (if kd = 4 then (pay * (n - a)) else (if kd = 5 then ((((pay * n) + 1) / 2) + 1) else (if kd = 6 then ((pay * (n - a)) + (hope * n)) else (pay * n))))))))) := by
  have e0 : (0 : Int32).toInt = 0 := rfl
  have e1 : (1 : Int32).toInt = 1 := rfl
  have a1 := ti_bnd (n := 9) ha (by decide)
  have n1 := ti_bnd (n := 24) hn (by decide)
  have p1 := Int32.le_iff_toInt_le.mp hp.1
  have hna : (n - a).toInt = n.toInt - a.toInt := ti_sub (by omega)
  have hm : (if 0 < n - a then n - a else 0) = (if n ≤ a then 0 else n - a) := by
    by_cases q : n ≤ a
    · have q' := Int32.le_iff_toInt_le.mp q
      rw [if_pos q, if_neg]
      rw [Int32.lt_iff_toInt_lt, hna, e0]; omega
    · have q' : ¬ n.toInt ≤ a.toInt := fun k => q (Int32.le_iff_toInt_le.mpr k)
      rw [if_neg q, if_pos]
      rw [Int32.lt_iff_toInt_lt, hna, e0]; omega
  unfold wageF
  rw [hm]
  by_cases z : n = 0
  · subst z
    rw [if_pos rfl]
    have q0 : (0 : Int32) ≤ a := ha.1
    rw [if_pos q0]
    have hpn : ¬ pat < 0 := by
      rw [Int32.lt_iff_toInt_lt, e0]; omega
    rw [if_neg hpn]
    unfold masterF
    simp only [if_true, Int32.mul_zero, Int32.zero_add]
    repeat' split
    all_goals first | rfl | decide
  · rw [if_neg z]
    have hmin : masterF a pay (if pat < n then pat else n) = (if pat ≤ n then ((pay * pat) + a) else ((pay * n) + a)) := by
      unfold masterF
      by_cases q : pat < n
      · have hz : ¬ pat = 0 := by rintro rfl; exact absurd hp.1 (by decide)
        rw [if_pos q, if_neg hz, if_pos (Int32.le_of_lt q)]
      · rw [if_neg q, if_neg z]
        by_cases q2 : pat ≤ n
        · rw [if_pos q2]
          have : pat = n := Int32.toInt_inj.mp (by
            have := Int32.le_iff_toInt_le.mp q2
            have h3 : ¬ pat.toInt < n.toInt := fun k => q (Int32.lt_iff_toInt_lt.mpr k)
            omega)
          rw [this]
        · rw [if_neg q2]
    have hms : masterF a pay n = pay * n + a := by unfold masterF; rw [if_neg z]
    rw [hmin, hms]
    by_cases q : n ≤ a
    · rw [if_pos q, if_pos q]
      simp only [if_neg z]
    · rw [if_neg q, if_neg q]
      simp only [if_neg z]
theorem Rl.wv (r : Rl tc wc M L N K) {w : Nat} (hw : w < 6) : M (30 + w) 1 = N 88 w ∧ M (30 + w) 2 = N 89 w ∧ M (30 + w) 3 = N 90 w ∧ M (30 + w) 4 = N 91 w ∧ M (30 + w) 5 = N 92 w := by
  have h := (r.w w hw).2
  exact ⟨h 1 (by omega) (by omega), h 2 (by omega) (by omega), h 3 (by omega) (by omega), h 4 (by omega) (by omega), h 5 (by omega) (by omega)⟩
theorem Rl.tv (r : Rl tc wc M L N K) {t : Nat} (ht : t < 8) : M (22 + t) 0 = N 93 t ∧ M (22 + t) 1 = N 94 t ∧ M (22 + t) 2 = N 95 t ∧ M (22 + t) 3 = N 96 t ∧ M (22 + t) 4 = N 97 t ∧ M (22 + t) 5 = N 98 t ∧ M (22 + t) 6 = N 99 t := by
  have h := r.t t ht
  exact ⟨h 0 (by omega), h 1 (by omega), h 2 (by omega), h 3 (by omega), h 4 (by omega), h 5 (by omega), h 6 (by omega)⟩
theorem Rl.hp (r : Rl tc wc M L N K) : M 18 5 = N 86 2 := r.s 5 (by omega) (by omega)
theorem Rl.wok (r : Rl tc wc M L N K) {w : Nat} (hw : w < 6) : (0 ≤ N 88 w ∧ N 88 w ≤ 6) ∧ (0 ≤ N 89 w ∧ N 89 w ≤ 9) ∧ (0 ≤ N 90 w ∧ N 90 w ≤ 9) ∧ (0 ≤ N 91 w ∧ N 91 w ≤ 24) ∧ (0 ≤ N 92 w ∧ N 92 w ≤ 9) := by
  have h := r.o.2.1 w hw
  obtain ⟨e1, e2, e3, e4, e5⟩ := r.wv hw
  unfold okW at h
  rw [show 18 + 12 + w = 30 + w from rfl, e1, e2, e3, e4, e5] at h
  exact h
theorem Rl.tok (r : Rl tc wc M L N K) {t : Nat} (ht : t < 8) : (0 ≤ N 93 t ∧ N 93 t ≤ 9) ∧ (0 ≤ N 94 t ∧ N 94 t ≤ N 95 t ∧ N 95 t ≤ 23) ∧ (0 ≤ N 96 t ∧ N 96 t ≤ 9) ∧ (0 ≤ N 97 t ∧ N 97 t ≤ 99) ∧ (0 ≤ N 98 t ∧ N 98 t ≤ 9) ∧ (0 ≤ N 99 t ∧ N 99 t ≤ 20) := by
  have h := r.o.1 t ht
  obtain ⟨e0, e1, e2, e3, e4, e5, e6⟩ := r.tv ht
  unfold okT at h
  rw [show 18 + 4 + t = 22 + t from rfl, e0, e1, e2, e3, e4, e5, e6] at h
  exact h
theorem Rl.pat (r : Rl tc wc M L N K) {w : Nat} (hw : w < wc) (h6 : w < 6) : 1 ≤ N 91 w := by
  have h := r.o.2.2.2 w hw h6
  rw [show 18 + 12 + w = 30 + w from rfl, (r.wv h6).2.2.2.1] at h
  exact h
theorem Rl.hop (r : Rl tc wc M L N K) : 0 ≤ N 86 2 ∧ N 86 2 ≤ 9 := by
  have h := r.o.2.2.1
  rw [r.hp] at h
  exact h
/-- what n quarters of the w-th waiter cost -/
theorem wage_eq (r : Rl tc wc M L N K) {w : Nat} (hw : w < wc) (h6 : w < 6) {x n : Int32} (hn : 0 ≤ n ∧ n ≤ 24) : wageF (M (30 + w) 1) (M (30 + w) 2) (M (30 + w) 3) (M (30 + w) 4) (M 18 5) n = a_X8_costs N K x n w := by
  obtain ⟨e1, e2, e3, e4, -⟩ := r.wv h6
  obtain ⟨k1, k2, -, k4, -⟩ := r.wok h6
  rw [e1, e2, e3, e4, r.hp]
  exact wage_pure k1 k2 ⟨r.pat hw h6, k4.2⟩ hn
theorem hold_pure {kd a pat hope : Int32} (hk : 0 ≤ kd ∧ kd ≤ 6) (ha : 0 ≤ a ∧ a ≤ 9) (hp : 0 ≤ pat ∧ pat ≤ 24) (hh : 0 ≤ hope ∧ hope ≤ 9) : holdF kd a pat hope = (if kd = 1 then (if (2 * pat) ≤ 24 then (2 * pat) else 24) else (if kd = 2 then (if (pat + a) ≤ 24 then (pat + a) else 24) else (if kd = 3 then 24 else (if kd = 4 then (if ((pat + 1) / 2) ≤ 24 then ((pat + 1) / 2) else 24) else (if kd = 5 then (if (pat + a) ≤ 1 then 1 else (if ((pat + a) - 1) ≤ 24 then ((pat + a) - 1) else 24)) else (if kd = 6 then (if (((pat + 1) / 2) + hope) ≤ 24 then (((pat + 1) / 2) + hope) else 24) else (if pat ≤ 24 then pat else 24))))))) := by
  have e1 : (1 : Int32).toInt = 1 := rfl
  have e24 : (24 : Int32).toInt = 24 := rfl
  have a1 := ti_bnd (n := 9) ha (by decide)
  have p1 := ti_bnd (n := 24) hp (by decide)
  have le24 : ∀ x : Int32, (if x < 24 then x else 24) = (if x ≤ 24 then x else 24) := by
    intro x
    by_cases q : x < 24
    · rw [if_pos q, if_pos (Int32.le_of_lt q)]
    · rw [if_neg q]
      by_cases q2 : x ≤ 24
      · rw [if_pos q2]
        refine (Int32.toInt_inj.mp ?_).symm
        have := Int32.le_iff_toInt_le.mp q2
        have h3 : ¬ x.toInt < (24 : Int32).toInt := fun k => q (Int32.lt_iff_toInt_lt.mpr k)
        omega
      · rw [if_neg q2]
  unfold holdF
  rw [le24]
  unfold wouldF
  by_cases k1 : kd = 1
  · simp only [if_pos k1]
  simp only [if_neg k1]
  by_cases k2 : kd = 2
  · simp only [if_pos k2]
  simp only [if_neg k2]
  by_cases k3 : kd = 3
  · simp only [if_pos k3]; rfl
  simp only [if_neg k3]
  by_cases k4 : kd = 4
  · simp only [if_pos k4]
  simp only [if_neg k4]
  by_cases k5 : kd = 5
  · simp only [if_pos k5]
    have e2 : (pat + a).toInt = pat.toInt + a.toInt := ti_add (by omega)
    have e3 : (pat + a - 1).toInt = pat.toInt + a.toInt - 1 := by rw [ti_sub (by omega)]; omega
    by_cases q : pat + a ≤ 1
    · have q' := Int32.le_iff_toInt_le.mp q
      have h1 : ¬ 1 < pat + a - 1 := by rw [Int32.lt_iff_toInt_lt]; omega
      rw [if_pos q, if_neg h1]
      decide
    · have q' : ¬ (pat + a).toInt ≤ (1 : Int32).toInt := fun k => q (Int32.le_iff_toInt_le.mpr k)
      rw [if_neg q]
      by_cases h1 : 1 < pat + a - 1
      · rw [if_pos h1]
      · have h1' : ¬ (1 : Int32).toInt < (pat + a - 1).toInt := fun k => h1 (Int32.lt_iff_toInt_lt.mpr k)
        have : pat + a - 1 = 1 := Int32.toInt_inj.mp (by omega)
        rw [if_neg h1, this]
  simp only [if_neg k5]
  by_cases k6 : kd = 6
  · simp only [if_pos k6]
  · simp only [if_neg k6]
theorem hold_eq (r : Rl tc wc M L N K) {w : Nat} (h6 : w < 6) {x : Int32} : holdF (M (30 + w) 1) (M (30 + w) 2) (M (30 + w) 4) (M 18 5) = a_X8_holding N K x w := by
  obtain ⟨e1, e2, -, e4, -⟩ := r.wv h6
  obtain ⟨k1, k2, -, k4, -⟩ := r.wok h6
  rw [e1, e2, e4, r.hp]
  exact hold_pure k1 k2 k4 r.hop
theorem hold_rg (r : Rl tc wc M L N K) {w : Nat} (h6 : w < 6) {x : Int32} : 0 ≤ a_X8_holding N K x w ∧ a_X8_holding N K x w ≤ 24 := by
  obtain ⟨-, k2, -, k4, -⟩ := r.wok h6
  obtain ⟨e1, e2, -, e4, -⟩ := r.wv h6
  rw [← hold_eq r h6, e1, e2, e4, r.hp]
  exact holdF_rg k2 k4 r.hop
theorem sight_eq (r : Rl tc wc M L N K) {w : Nat} (h6 : w < 6) {x : Int32} : sightF (M (30 + w) 1) = a_X8_sees N K x w := by
  rw [(r.wv h6).1]
  unfold sightF a_X8_sees
  by_cases k3 : N 88 w = 3
  · rw [if_neg (by rw [k3]; decide), if_neg (by rw [k3]; decide), if_pos k3, if_pos k3]
  · rw [if_neg k3, if_neg k3]
theorem by_pure {f l q : Int32} (hf : 0 ≤ f ∧ f ≤ l ∧ l ≤ 23) (hq : 0 ≤ q ∧ q ≤ 23) : byF f l q = (if f ≤ q then (if q ≤ l then ((q - f) + 1) else ((l - f) + 1)) else 0) := by
  have e0 : (0 : Int32).toInt = 0 := rfl
  have e1 : (1 : Int32).toInt = 1 := rfl
  have q1 := ti_bnd (n := 23) hq (by decide)
  have f0 := Int32.le_iff_toInt_le.mp hf.1
  have f1 := Int32.le_iff_toInt_le.mp hf.2.1
  have f2 := Int32.le_iff_toInt_le.mp hf.2.2
  have e23 : (23 : Int32).toInt = 23 := rfl
  have a1 : (q - f + 1).toInt = q.toInt - f.toInt + 1 := by rw [ti_add (by rw [ti_sub (by omega)]; omega), ti_sub (by omega), e1]
  have a2 : (l - f + 1).toInt = l.toInt - f.toInt + 1 := by rw [ti_add (by rw [ti_sub (by omega)]; omega), ti_sub (by omega), e1]
  unfold byF
  by_cases hlq : l < q
  · have h1 := Int32.lt_iff_toInt_lt.mp hlq
    rw [if_pos hlq, if_pos (by rw [Int32.lt_iff_toInt_lt]; omega), if_pos (by rw [Int32.le_iff_toInt_le]; omega), if_neg (by rw [Int32.le_iff_toInt_le]; omega)]
  · have h1 : ¬ l.toInt < q.toInt := fun k => hlq (Int32.lt_iff_toInt_lt.mpr k)
    rw [if_neg hlq]
    by_cases hfq : f ≤ q
    · have h2 := Int32.le_iff_toInt_le.mp hfq
      rw [if_pos (by rw [Int32.lt_iff_toInt_lt]; omega), if_pos hfq, if_pos (by rw [Int32.le_iff_toInt_le]; omega)]
    · have h2 : ¬ f.toInt ≤ q.toInt := fun k => hfq (Int32.le_iff_toInt_le.mpr k)
      rw [if_neg (by rw [Int32.lt_iff_toInt_lt]; omega), if_neg hfq]
theorem e_cost (r : Rl tc wc M L N K) (w n : Int32) : Ok M L N K (a_X7_cost M L w n) (a_X8_cost N K w n wc) := by
  unfold a_X7_cost a_X8_cost
  by_cases h : 0 ≤ w ∧ w < N 86 0
  · rw [if_pos ((r.wc_iff w).mpr h), if_pos h]
    obtain ⟨w0, h0, h6, -, ew⟩ := r.wx h
    rw [ew]
    by_cases hn : 0 ≤ n ∧ n ≤ 24
    · rw [if_pos hn, if_pos hn]
      exact Ok.same r (wage_eq r h0 h6 hn)
    · rw [if_neg hn, if_neg hn]
      exact Ok.ref r (by decide) (by decide) rfl
  · rw [if_neg (fun q => h ((r.wc_iff w).mp q)), if_neg h]
    exact Ok.ref r (by decide) (by decide) rfl
theorem e_by (r : Rl tc wc M L N K) (t q : Int32) : Ok M L N K (a_X7_by M L t q) (a_X8_by N K t q tc) := by
  unfold a_X7_by a_X8_by
  by_cases h : 0 ≤ t ∧ t < N 86 1
  · rw [if_pos ((r.tc_iff t).mpr h), if_pos h]
    obtain ⟨t0, h0, h8, -, et⟩ := r.tx h
    rw [et]
    by_cases hn : 0 ≤ q ∧ q ≤ 23
    · rw [if_pos hn, if_pos hn]
      refine Ok.same r ?_
      obtain ⟨-, e1, e2, -⟩ := r.tv h8
      rw [e1, e2]
      unfold a_X8_comesBy
      exact by_pure (r.tok h8).2.1 hn
    · rw [if_neg hn, if_neg hn]
      exact Ok.ref r (by decide) (by decide) rfl
  · rw [if_neg (fun q => h ((r.tc_iff t).mp q)), if_neg h]
    exact Ok.ref r (by decide) (by decide) rfl
theorem e_thingOf (r : Rl tc wc M L N K) (t q : Int32) : Ok M L N K (a_X7_thingOf M L t q) (a_X8_thingOf N K t q tc) := by
  unfold a_X7_thingOf a_X8_thingOf
  by_cases h : 0 ≤ t ∧ t < N 86 1
  · rw [if_pos ((r.tc_iff t).mpr h), if_pos h]
    obtain ⟨t0, h0, h8, -, et⟩ := r.tx h
    rw [et]
    obtain ⟨e0, e1, e2, e3, e4, e5, e6⟩ := r.tv h8
    rw [e0, e1, e2, e3, e4, e5, e6]
    by_cases hn : 0 ≤ q ∧ q ≤ 7
    · rw [if_pos hn]
      obtain ⟨k, hk, rfl⟩ := i_le 7 hn.1 hn.2 (by decide)
      rcases (show k = 0 ∨ k = 1 ∨ k = 2 ∨ k = 3 ∨ k = 4 ∨ k = 5 ∨ k = 6 ∨ k = 7 by omega) with rfl | rfl | rfl | rfl | rfl | rfl | rfl | rfl <;> exact Ok.same r rfl
    · rw [if_neg hn]
      have key : ∀ z : Int32, (0 ≤ z ∧ z ≤ 7) → ¬ q = z := fun z hz e => hn (e ▸ hz)
      rw [if_neg (key 0 (by decide)), if_neg (key 1 (by decide)), if_neg (key 2 (by decide)), if_neg (key 3 (by decide)), if_neg (key 4 (by decide)), if_neg (key 5 (by decide)), if_neg (key 6 (by decide)), if_neg (key 7 (by decide))]
      exact Ok.ref r (by decide) (by decide) rfl
  · rw [if_neg (fun q => h ((r.tc_iff t).mp q)), if_neg h]
    exact Ok.ref r (by decide) (by decide) rfl
theorem e_waiterOf (r : Rl tc wc M L N K) (w q : Int32) : Ok M L N K (a_X7_waiterOf M L w q) (a_X8_waiterOf N K w q wc) := by
  unfold a_X7_waiterOf a_X8_waiterOf
  by_cases h : 0 ≤ w ∧ w < N 86 0
  · rw [if_pos ((r.wc_iff w).mpr h), if_pos h]
    obtain ⟨w0, h0, h6, -, ew⟩ := r.wx h
    rw [ew]
    rw [hold_eq r h6 (x := w), sight_eq r h6 (x := w)]
    obtain ⟨e1, e2, e3, e4, e5⟩ := r.wv h6
    rw [e1, e2, e3, e4, e5]
    by_cases hn : 0 ≤ q ∧ q ≤ 6
    · rw [if_pos hn]
      obtain ⟨k, hk, rfl⟩ := i_le 6 hn.1 hn.2 (by decide)
      rcases (show k = 0 ∨ k = 1 ∨ k = 2 ∨ k = 3 ∨ k = 4 ∨ k = 5 ∨ k = 6 by omega) with rfl | rfl | rfl | rfl | rfl | rfl | rfl <;> exact Ok.same r rfl
    · rw [if_neg hn]
      have key : ∀ z : Int32, (0 ≤ z ∧ z ≤ 6) → ¬ q = z := fun z hz e => hn (e ▸ hz)
      rw [if_neg (key 0 (by decide)), if_neg (key 1 (by decide)), if_neg (key 2 (by decide)), if_neg (key 3 (by decide)), if_neg (key 4 (by decide)), if_neg (key 5 (by decide)), if_neg (key 6 (by decide))]
      exact Ok.ref r (by decide) (by decide) rfl
  · rw [if_neg (fun q => h ((r.wc_iff w).mp q)), if_neg h]
    exact Ok.ref r (by decide) (by decide) rfl
theorem e_met (r : Rl tc wc M L N K) (t q : Int32) : Ok M L N K (a_X7_met M L t q) (a_X8_met N K t q tc) := by
  unfold a_X7_met a_X8_met
  by_cases h : 0 ≤ t ∧ t < N 86 1
  · rw [if_pos ((r.tc_iff t).mpr h), if_pos h]
    obtain ⟨t0, h0, h8, -, et⟩ := r.tx h
    rw [et]
    obtain ⟨e0, e1, e2, e3, e4, e5, e6⟩ := r.tv h8
    rw [e5, e6]
    by_cases hq : q < 0
    · rw [if_neg (show ¬ (0 ≤ q ∧ q ≤ 1) from fun k => absurd hq (Int32.not_lt.mpr k.1)), if_pos hq]
      exact Ok.ref r (by decide) (by decide) rfl
    rw [if_neg hq]
    by_cases hq1 : q ≤ 1
    · rw [if_pos (show 0 ≤ q ∧ q ≤ 1 from ⟨Int32.not_lt.mp hq, hq1⟩), if_pos hq1]
      by_cases z : q = 1
      · rw [if_pos z, if_pos z]
        by_cases c : (if (1 : Int32) = 0 then N 99 t0 else N 99 t0 / 2) ≤ N 98 t0
        · rw [if_pos c, if_pos c]; exact Ok.same r rfl
        · rw [if_neg c, if_neg c]; exact Ok.same r rfl
      · rw [if_neg z, if_neg z]
        by_cases c : (if (0 : Int32) = 0 then N 99 t0 else N 99 t0 / 2) ≤ N 98 t0
        · rw [if_pos c, if_pos c]; exact Ok.same r rfl
        · rw [if_neg c, if_neg c]; exact Ok.same r rfl
    · rw [if_neg (show ¬ (0 ≤ q ∧ q ≤ 1) from fun k => hq1 k.2), if_neg hq1]
      exact Ok.ref r (by decide) (by decide) rfl
  · rw [if_neg (fun q => h ((r.tc_iff t).mp q)), if_neg h]
    exact Ok.ref r (by decide) (by decide) rfl
theorem e_fault (r : Rl tc wc M L N K) : Ok M L N K (a_X7_fault M L) (a_X8_fault N K, N, K) := Ok.same r r.f.1
theorem e_trace (r : Rl tc wc M L N K) (i : Int32) : Ok M L N K (a_X7_trace M L i) (a_X8_trace N K i, N, K) := by
  refine Ok.same r ?_
  unfold a_X8_trace
  by_cases h0 : i < 0
  · rw [if_neg (show ¬ (0 ≤ i ∧ i < M 83 1 ∧ i < 20) from fun q => absurd h0 (Int32.not_lt.mpr q.1)), if_pos h0]
  rw [if_neg h0]
  by_cases h1 : 20 ≤ i
  · rw [if_neg (show ¬ (0 ≤ i ∧ i < M 83 1 ∧ i < 20) from fun q => absurd h1 (Int32.not_le.mpr q.2.2)), if_pos h1]
  rw [if_neg h1]
  by_cases h2 : N 86 45 ≤ i
  · rw [if_neg (show ¬ (0 ≤ i ∧ i < M 83 1 ∧ i < 20) from fun q => absurd h2 (Int32.not_le.mpr (r.b.1 ▸ q.2.1))), if_pos h2]
  · rw [if_pos (show 0 ≤ i ∧ i < M 83 1 ∧ i < 20 from ⟨Int32.not_lt.mp h0, r.b.1 ▸ Int32.not_le.mp h2, Int32.not_le.mp h1⟩), if_neg h2]
    exact r.b.2.2 _ (fIx_lt 20 (Int32.not_lt.mp h0) (Int32.not_le.mp h1) (by decide)).2.2
theorem e_status (r : Rl tc wc M L N K) (q : Int32) : Ok M L N K (a_X7_status M L q) (a_X8_status N K q, N, K) := by
  obtain ⟨h3, g1, h8, h4, g0, h6⟩ := r.n
  unfold a_X7_status a_X8_status
  have ch : ∀ (a b c d e f g h i : Int32), (if q = 0 then (a, M, L) else (if q = 1 then (b, M, L) else (if q = 2 then (c, M, L) else (if q = 3 then (d, M, L) else (if q = 4 then (e, M, L) else (if q = 5 then (f, M, L) else (if q = 6 then (g, M, L) else (if q = 7 then (h, M, L) else (i, M, L))))))))) = ((if q = 0 then a else (if q = 1 then b else (if q = 2 then c else (if q = 3 then d else (if q = 4 then e else (if q = 5 then f else (if q = 6 then g else (if q = 7 then h else i)))))))), M, L) := by
    intro a b c d e f g h i
    repeat' split
    all_goals rfl
  rw [ch, h4, g0, h3, g1, r.s 5 (by omega) (by omega), r.s 6 (by omega) (by omega), r.s 7 (by omega) (by omega), r.s 8 (by omega) (by omega), r.s 9 (by omega) (by omega), r.b.1]
  by_cases h : 11 ≤ q ∧ q ≤ 17
  · rw [if_pos h, if_neg (Int32.not_lt.mpr h.1), if_neg (Int32.not_lt.mpr h.2)]
    refine Ok.same r ?_
    have hx := ix_w h
    have hx8 := hx.2.2
    refine r.f.2 _ ?_ (by omega)
    have e10 : (10 : Int32).toInt = 10 := rfl
    have e11 : (11 : Int32).toInt = 11 := rfl
    have e17 : (17 : Int32).toInt = 17 := rfl
    have q1 := Int32.le_iff_toInt_le.mp h.1
    have q2 := Int32.le_iff_toInt_le.mp h.2
    have : (q - 10).toInt = q.toInt - 10 := by rw [ti_sub (by omega), e10]
    have c : (q - 10).toNatClampNeg = (q - 10).toInt.toNat := rfl
    omega
  · rw [if_neg h]
    by_cases h1 : q < 11
    · rw [if_pos h1]
      exact Ok.same r rfl
    · rw [if_neg h1, if_pos (Int32.not_le.mp (fun k => h ⟨Int32.not_lt.mp h1, k⟩))]
      exact Ok.same r rfl
/-- only the guild changed -/
theorem RlH.mono {h z hd so si sh : Int32} (r : RlH wc h z hd so si sh) (hw : wc ≤ wc') (h6 : wc' ≤ 6) : RlH wc' h z hd so si sh := by
  obtain ⟨h1, h2, q | q | ⟨a, b, c, d, e⟩⟩ := r
  · exact ⟨h1, h2, Or.inl q⟩
  · exact ⟨h1, h2, Or.inr (Or.inl q)⟩
  · exact ⟨h1, h2, Or.inr (Or.inr ⟨a, b, c, Int32.lt_of_lt_of_le d ((nI_le_iff (by omega) (by omega)).mpr hw), e⟩)⟩
theorem Rl.gu (r : Rl tc wc M L N K) (hm : ∀ a j, (a < 18 ∨ 36 ≤ a) → M' a j = M a j) (hn : ∀ a j, (a < 86 ∨ a = 87 ∨ 99 < a ∨ (a = 86 ∧ 6 < j)) → N' a j = N a j) (hN : RlN tc' wc' M' N') (hT : RlT M' N') (hW : RlW M' N') (hS : RlS M' N') (hO : RlO M' 18 wc') (hw : wc ≤ wc') : Rl tc' wc' M' L N' K :=
  ⟨hN, hT, hW, hS, hO, r.f.mv (hm _ _ (by omega)) (hn _ _ (by omega)) (fun j => hm _ _ (by omega)) (fun j => hn _ _ (by omega)),
    fun s hs => by
      have := (r.h s hs).mono hw hN.2.2.2.2.2
      rw [hm _ _ (by omega), hm _ _ (by omega), hn _ _ (by omega), hn _ _ (by omega), hn _ _ (by omega), hn _ _ (by omega)]
      exact this,
    r.b.mv (hm _ _ (by omega)) (hn _ _ (by omega)) (fun j => hm _ _ (by omega)) (fun j => hn _ _ (by omega)),
    r.i.mv (hm _ _ (by omega)) (hn _ _ (by omega)) (fun a j _ _ => hm _ _ (by omega)) (fun j => hn _ _ (by omega)), r.c.mv (fun a j _ _ => hn _ _ (by omega)), r.e⟩
end GS
