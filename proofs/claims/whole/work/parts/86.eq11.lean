/-! copies -/
section CP
variable {tc wc : Nat} {M N : Nat → Nat → Int32} {L K : Nat → Nat → Int64}
theorem rr_hd (r : Rl tc wc M L N K) {s : Int32} (hs : 0 ≤ s ∧ s ≤ 7) : (N 100 s.toNatClampNeg = 1 ∧ rrI M s = 0) ∨ (N 100 s.toNatClampNeg = 2 ∧ rrI M s = -2) ∨ (N 100 s.toNatClampNeg = 0 ∧ rrI M s = -3) := by
  obtain ⟨-, -, hh⟩ := r.hx hs
  rw [wanted_eq r s]
  unfold a_X8_wanted
  rw [if_pos ((sh_iff s).mp hs)]
  rcases hh.hd3 with q | q | q
  · rw [q]; exact Or.inr (Or.inr ⟨rfl, rfl⟩)
  · rw [q]; exact Or.inl ⟨rfl, rfl⟩
  · rw [q]; exact Or.inr (Or.inl ⟨rfl, rfl⟩)
theorem part_iff {z i n : Int32} (hz : 0 ≤ z ∧ z ≤ 160) (hn : 0 ≤ n) : (0 ≤ i ∧ i ≤ z ∧ 0 ≤ n ∧ n ≤ z - i) ↔ (¬ i < 0 ∧ i ≤ z - n) := by
  have e0 : (0 : Int32).toInt = 0 := rfl
  have z1 := ti_bnd (n := 160) hz (by decide)
  have n1 := Int32.le_iff_toInt_le.mp hn
  have nb := Int32.toInt_lt n
  have hzn : (z - n).toInt = z.toInt - n.toInt := ti_sub (by omega)
  constructor
  · rintro ⟨h1, h2, -, h3⟩
    have i1 := Int32.le_iff_toInt_le.mp h1
    have i2 := Int32.le_iff_toInt_le.mp h2
    have i3 := Int32.le_iff_toInt_le.mp h3
    rw [ti_sub (by omega)] at i3
    exact ⟨Int32.not_lt.mpr h1, by rw [Int32.le_iff_toInt_le]; omega⟩
  · rintro ⟨h1, h2⟩
    have i1 := Int32.le_iff_toInt_le.mp (Int32.not_lt.mp h1)
    have i2 := Int32.le_iff_toInt_le.mp h2
    refine ⟨Int32.not_lt.mp h1, by rw [Int32.le_iff_toInt_le]; omega, hn, ?_⟩
    rw [Int32.le_iff_toInt_le, ti_sub (by omega)]
    omega
theorem core_eq (r : Rl tc wc M L N K) {p q i j n : Int32} (hp : rrI M p = 0) (hq : rrI M q = 0) : Ok M L N K
    (if 0 ≤ n then (if 0 ≤ i ∧ i ≤ M (2 + p.toNatClampNeg) 2 ∧ 0 ≤ n ∧ n ≤ M (2 + p.toNatClampNeg) 2 - i then (if 0 ≤ j ∧ j ≤ M (2 + q.toNatClampNeg) 2 ∧ 0 ≤ n ∧ n ≤ M (2 + q.toNatClampNeg) 2 - j then ((1 : Int32), (M, cpL L (2 + p.toNatClampNeg + 8) (2 + q.toNatClampNeg + 8) i.toNatClampNeg j.toNatClampNeg n.toNatClampNeg)) else (-5, (rfM M (-5), L))) else (-5, (rfM M (-5), L))) else (-4, (rfM M (-4), L)))
    (if 0 ≤ n then (if i < 0 then ((-5 : Int32), (noM N (-5)), K) else (if j < 0 then ((-5), (noM N (-5)), K) else (if ((N 102 p.toNatClampNeg) - n) < i then ((-5), (noM N (-5)), K) else (if j ≤ ((N 102 q.toNatClampNeg) - n) then (1, N, (cwL (crL K p.toNatClampNeg i.toNatClampNeg n.toNatClampNeg) q.toNatClampNeg j.toNatClampNeg n.toNatClampNeg)) else ((-5), (noM N (-5)), K))))) else ((-4), (noM N (-4)), K)) := by
  obtain ⟨-, p8, -, -, -, -, -, ep, p0, p1⟩ := rr_row r hp
  obtain ⟨-, q8, -, -, -, -, -, eq, q0, q1⟩ := rr_row r hq
  have five : Ok M L N K ((-5 : Int32), rfM M (-5), L) ((-5 : Int32), noM N (-5), K) := Ok.ref r (by decide) (by decide) rfl
  by_cases hn : 0 ≤ n
  · rw [if_pos hn, if_pos hn, ep, eq]
    have ip := part_iff (i := i) ⟨p0, p1⟩ hn
    have iq := part_iff (i := j) ⟨q0, q1⟩ hn
    by_cases hi : i < 0
    · rw [if_neg (fun k => (ip.mp k).1 hi), if_pos hi]; exact five
    rw [if_neg hi]
    by_cases hj : j < 0
    · rw [if_pos hj]
      by_cases c : 0 ≤ i ∧ i ≤ N 102 p.toNatClampNeg ∧ 0 ≤ n ∧ n ≤ N 102 p.toNatClampNeg - i
      · rw [if_pos c, if_neg (fun k => (iq.mp k).1 hj)]; exact five
      · rw [if_neg c]; exact five
    rw [if_neg hj]
    by_cases c1 : N 102 p.toNatClampNeg - n < i
    · rw [if_neg (fun k => absurd c1 (Int32.not_lt.mpr (ip.mp k).2)), if_pos c1]; exact five
    rw [if_pos (ip.mpr ⟨hi, Int32.not_lt.mp c1⟩), if_neg c1]
    by_cases c2 : j ≤ N 102 q.toNatClampNeg - n
    · rw [if_pos (iq.mpr ⟨hj, c2⟩), if_pos c2]
      have b1 := part_2 (Int32.not_lt.mp hi) (Int32.not_lt.mp c1) hn ⟨p0, p1⟩
      have b2 := part_2 (Int32.not_lt.mp hj) c2 hn ⟨q0, q1⟩
      generalize p.toNatClampNeg = pn at p8
      generalize q.toNatClampNeg = qn at q8
      generalize i.toNatClampNeg = x at b1
      generalize j.toNatClampNeg = y at b2
      generalize n.toNatClampNeg = m at b1 b2
      refine ⟨rfl, ⟨tc, wc, r.n, r.t, r.w, r.s, r.o, r.f, r.h, r.b, r.i, r.c, ?_⟩, fun _ _ _ => rfl, fun a k h => ?_, fun _ _ _ => rfl, fun a k h => ?_⟩
      · intro s hs k hk
        show cpL L (2 + pn + 8) (2 + qn + 8) x y m (10 + s) k = cwL (crL K pn x m) qn y m 104 (160 * s + k)
        unfold cpL upA cwL
        by_cases e : s = qn
        · subst e
          rw [if_pos (show 10 + s = 2 + s + 8 by omega)]
          unfold va_cpy
          by_cases c : y ≤ k ∧ k < y + m
          · rw [if_pos c, if_pos (show 104 = 104 ∧ 160 * s + y ≤ 160 * s + k ∧ 160 * s + k < 160 * s + y + m by omega)]
            unfold crL
            rw [if_pos (show 105 = 105 ∧ 160 * s + k - (160 * s + y) < m by omega), show 2 + pn + 8 = 10 + pn by omega, r.e pn p8 _ (by omega)]
            congr 1
            omega
          · rw [if_neg c, if_neg (show ¬ (104 = 104 ∧ 160 * s + y ≤ 160 * s + k ∧ 160 * s + k < 160 * s + y + m) by omega)]
            unfold crL
            rw [if_neg (by omega), show 2 + s + 8 = 10 + s by omega]
            exact r.e s hs k hk
        · rw [if_neg (show ¬ 10 + s = 2 + qn + 8 by omega), if_neg (show ¬ (104 = 104 ∧ 160 * qn + y ≤ 160 * s + k ∧ 160 * s + k < 160 * qn + y + m) by omega)]
          unfold crL
          rw [if_neg (by omega)]
          exact r.e s hs k hk
      · show cpL L (2 + pn + 8) (2 + qn + 8) x y m a k = L a k
        unfold cpL upA
        rw [if_neg (by omega)]
      · show cwL (crL K pn x m) qn y m a k = K a k
        unfold cwL crL
        rw [if_neg (by omega), if_neg (by omega)]
    · rw [if_neg (fun k => c2 (iq.mp k).2), if_neg c2]; exact five
  · rw [if_neg hn, if_neg hn]
    exact Ok.ref r (by decide) (by decide) rfl
theorem e_copy (r : Rl tc wc M L N K) (p q i j n : Int32) : Ok M L N K (copyC M L p q i j n) (a_X8_copy N K p q i j n) := by
  unfold copyC a_X8_copy
  by_cases hp : 0 ≤ p ∧ p ≤ 7
  · rw [if_pos ((sh_iff p).mp hp)]
    by_cases hq : 0 ≤ q ∧ q ≤ 7
    · rw [if_pos ((sh_iff q).mp hq)]
      have no : ∀ b : Int32, trI M p q = b → ¬ b = 0 → 1 ≤ -b → -b ≤ 7 → ∀ x : fR, Ok M L N K (if trI M p q = 0 then x else (trI M p q, (rfM M (trI M p q), L))) (b, noM N b, K) := by
        rintro b rfl h0 h1 h7 x
        rw [if_neg h0]
        exact Ok.ref r h1 h7 rfl
      rcases rr_hd r hp with ⟨dp, ep⟩ | ⟨dp, ep⟩ | ⟨dp, ep⟩
      · rcases rr_hd r hq with ⟨dq, eq⟩ | ⟨dq, eq⟩ | ⟨dq, eq⟩
        · rw [if_neg (show ¬ N 100 p.toNatClampNeg = 2 by rw [dp]; decide), if_neg (show ¬ N 100 q.toNatClampNeg = 2 by rw [dq]; decide), if_pos dp, if_pos dq]
          obtain ⟨-, -, -, -, hp1, p0, p3, -⟩ := rr_row r ep
          obtain ⟨-, -, -, -, hq1, q0, q3, -⟩ := rr_row r eq
          have hsort : M (2 + p.toNatClampNeg) 1 = M (2 + q.toNatClampNeg) 1 ↔ N 101 p.toNatClampNeg = N 101 q.toNatClampNeg := by
            rw [hp1, hq1]
            constructor
            · intro h
              have := congrArg (fun z => z - 100) h
              rw [h100s p0 p3, h100s q0 q3] at this
              exact this
            · intro h; rw [h]
          by_cases c : N 101 p.toNatClampNeg = N 101 q.toNatClampNeg
          · have e0 : trI M p q = 0 := by
              unfold trI
              rw [if_pos ⟨ep, eq⟩, if_pos (hsort.mpr c)]
            rw [if_pos e0, if_pos c]
            exact core_eq r ep eq
          · rw [if_neg c]
            exact no (-2) (by
              unfold trI
              rw [if_pos ⟨ep, eq⟩, if_neg (fun k => c (hsort.mp k))]) (by decide) (by decide) (by decide) _
        · rw [if_neg (show ¬ N 100 p.toNatClampNeg = 2 by rw [dp]; decide), if_pos dq]
          exact no (-2) (by unfold trI; rw [ep, eq]; rfl) (by decide) (by decide) (by decide) _
        · rw [if_neg (show ¬ N 100 p.toNatClampNeg = 2 by rw [dp]; decide), if_neg (show ¬ N 100 q.toNatClampNeg = 2 by rw [dq]; decide), if_pos dp, if_neg (show ¬ N 100 q.toNatClampNeg = 1 by rw [dq]; decide)]
          first
            | (rw [if_neg (show ¬ N 100 p.toNatClampNeg = 0 by rw [dp]; decide), if_pos dq]; exact no (-3) (by unfold trI; rw [ep, eq]; rfl) (by decide) (by decide) (by decide) _)
            | (rw [if_pos dq]; exact no (-3) (by unfold trI; rw [ep, eq]; rfl) (by decide) (by decide) (by decide) _)
      · rw [if_pos dp]
        rcases rr_hd r hq with ⟨dq, eq⟩ | ⟨dq, eq⟩ | ⟨dq, eq⟩
        all_goals exact no (-2) (by unfold trI; rw [ep, eq]; rfl) (by decide) (by decide) (by decide) _
      · rw [if_neg (show ¬ N 100 p.toNatClampNeg = 2 by rw [dp]; decide)]
        rcases rr_hd r hq with ⟨dq, eq⟩ | ⟨dq, eq⟩ | ⟨dq, eq⟩
        · rw [if_neg (show ¬ N 100 q.toNatClampNeg = 2 by rw [dq]; decide), if_neg (show ¬ N 100 p.toNatClampNeg = 1 by rw [dp]; decide), if_pos dp]
          exact no (-3) (by unfold trI; rw [ep, eq]; rfl) (by decide) (by decide) (by decide) _
        · rw [if_pos dq]
          exact no (-2) (by unfold trI; rw [ep, eq]; rfl) (by decide) (by decide) (by decide) _
        · rw [if_neg (show ¬ N 100 q.toNatClampNeg = 2 by rw [dq]; decide), if_neg (show ¬ N 100 p.toNatClampNeg = 1 by rw [dp]; decide), if_pos dp]
          exact no (-3) (by unfold trI; rw [ep, eq]; rfl) (by decide) (by decide) (by decide) _
    · have e1 : rrI M q = -1 := if_neg hq
      have et : trI M p q = -1 := by
        unfold trI
        rw [if_neg (fun k => absurd (e1.symm.trans k.2) (by decide)), if_pos (Or.inr e1)]
      rw [if_neg (fun k => hq ((sh_iff q).mpr k)), et, if_neg (by decide)]
      exact Ok.ref r (by decide) (by decide) rfl
  · have e1 : rrI M p = -1 := if_neg hp
    have et : trI M p q = -1 := by
      unfold trI
      rw [if_neg (fun k => absurd (e1.symm.trans k.1) (by decide)), if_pos (Or.inl e1)]
    rw [if_neg (fun k => hp ((sh_iff p).mpr k)), et, if_neg (by decide)]
    exact Ok.ref r (by decide) (by decide) rfl
end CP
