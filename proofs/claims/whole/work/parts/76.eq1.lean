/-! the calls that look at shelves -/
section HS
variable {tc wc : Nat} {M N M' N' : Nat → Nat → Int32} {L K L' K' : Nat → Nat → Int64} {h z hd so si sh : Int32}
theorem h100 (h0 : 0 ≤ so) (h3 : so ≤ 3) : 100 ≤ 100 + so := by
  have e0 : (0 : Int32).toInt = 0 := rfl
  have e3 : (3 : Int32).toInt = 3 := rfl
  have e1 : (100 : Int32).toInt = 100 := rfl
  rw [Int32.le_iff_toInt_le] at h0 h3 ⊢
  rw [ti_add (by omega)]
  omega
theorem h100s (h0 : 0 ≤ so) (h3 : so ≤ 3) : 100 + so - 100 = so := by
  rw [Int32.sub_eq_add_neg, Int32.add_assoc, Int32.add_comm so, ← Int32.add_assoc]
  rw [show (100 : Int32) + -100 = 0 from by decide, Int32.zero_add]
theorem lt_wc {w : Int32} (hw : wc ≤ 6) (h : w < nI wc) : w < 6 := Int32.lt_of_lt_of_le h ((nI_le_iff (b := 6) (by omega) (by omega)).mpr hw)
theorem lt6_100 {w : Int32} (h : w < 6) : ¬ 100 ≤ w := by
  have e1 : (6 : Int32).toInt = 6 := rfl
  have e2 : (100 : Int32).toInt = 100 := rfl
  rw [Int32.lt_iff_toInt_lt] at h
  rw [Int32.le_iff_toInt_le]
  omega
theorem nn_m1 {w : Int32} (h : 0 ≤ w) : ¬ w = -1 := by
  rintro rfl
  exact absurd h (by decide)
theorem RlH.row (r : RlH wc h z hd so si sh) (hw : wc ≤ 6) : 100 ≤ h ↔ hd = 1 := by
  obtain ⟨-, -, ⟨rfl, rfl, -⟩ | ⟨rfl, rfl, h0, h3, -⟩ | ⟨rfl, -, -, h2, -⟩⟩ := r
  · exact ⟨fun q => absurd q (by decide), fun q => absurd q (by decide)⟩
  · exact ⟨fun _ => rfl, fun _ => h100 h0 h3⟩
  · exact ⟨fun q => absurd q (lt6_100 (lt_wc hw h2)), fun q => absurd q (by decide)⟩
theorem RlH.no (r : RlH wc h z hd so si sh) (hw : wc ≤ 6) : h = -1 ↔ hd = 0 := by
  obtain ⟨-, -, ⟨rfl, rfl, -⟩ | ⟨rfl, rfl, h0, h3, -⟩ | ⟨rfl, -, h1, -, -⟩⟩ := r
  · exact ⟨fun _ => rfl, fun _ => rfl⟩
  · exact ⟨fun q => absurd (q ▸ h100 h0 h3) (by decide), fun q => absurd q (by decide)⟩
  · exact ⟨fun q => absurd q (nn_m1 h1), fun q => absurd q (by decide)⟩
theorem RlH.hd3 (r : RlH wc h z hd so si sh) : hd = 0 ∨ hd = 1 ∨ hd = 2 := by
  obtain ⟨-, -, ⟨-, rfl, -⟩ | ⟨rfl, -⟩ | ⟨rfl, -⟩⟩ := r
  · exact Or.inl rfl
  · exact Or.inr (Or.inl rfl)
  · exact Or.inr (Or.inr rfl)
theorem Rl.hx (r : Rl tc wc M L N K) {s : Int32} (hs : 0 ≤ s ∧ s ≤ 7) : s.toNatClampNeg < 8 ∧ s = nI s.toNatClampNeg ∧ RlH wc (M (2 + s.toNatClampNeg) 1) (M (2 + s.toNatClampNeg) 2) (N 100 s.toNatClampNeg) (N 101 s.toNatClampNeg) (N 102 s.toNatClampNeg) (N 103 s.toNatClampNeg) := by
  have hi := nI_self 7 hs (by decide)
  exact ⟨by omega, hi.1, r.h _ (by omega)⟩
theorem Rl.h6 (r : Rl tc wc M L N K) : wc ≤ 6 := r.n.2.2.2.2.2
theorem wanted_eq (r : Rl tc wc M L N K) (s : Int32) : rrI M s = a_X8_wanted N K s := by
  unfold rrI a_X8_wanted
  by_cases hs : 0 ≤ s ∧ s ≤ 7
  · obtain ⟨-, -, hh⟩ := r.hx hs
    rw [if_pos hs, if_pos ((sh_iff s).mp hs)]
    rcases hh.hd3 with q | q | q
    · rw [if_neg (fun k => absurd ((hh.row r.h6).mp k) (by rw [q]; decide)), if_pos ((hh.no r.h6).mpr q), if_neg (by rw [q]; decide), if_pos q]
    · rw [if_pos ((hh.row r.h6).mpr q), if_neg (by rw [q]; decide), if_neg (by rw [q]; decide)]
    · rw [if_neg (fun k => absurd ((hh.row r.h6).mp k) (by rw [q]; decide)), if_neg (fun k => absurd ((hh.no r.h6).mp k) (by rw [q]; decide)), if_pos q]
  · rw [if_neg hs, if_neg (fun q => hs ((sh_iff s).mpr q))]
theorem rr_rg {s : Int32} (h : ¬ rrI M s = 0) : 1 ≤ -(rrI M s) ∧ -(rrI M s) ≤ 7 := by
  unfold rrI at h ⊢
  split at h
  · next h1 =>
    rw [if_pos h1]
    split at h
    · exact absurd rfl h
    · next h2 =>
      rw [if_neg h2]
      split <;> decide
  · next h1 =>
    rw [if_neg h1]
    decide
theorem rr_row (r : Rl tc wc M L N K) {s : Int32} (h : rrI M s = 0) : (0 ≤ s ∧ s ≤ 7) ∧ s.toNatClampNeg < 8 ∧ s = nI s.toNatClampNeg ∧ N 100 s.toNatClampNeg = 1 ∧ M (2 + s.toNatClampNeg) 1 = 100 + N 101 s.toNatClampNeg ∧ 0 ≤ N 101 s.toNatClampNeg ∧ N 101 s.toNatClampNeg ≤ 3 ∧ M (2 + s.toNatClampNeg) 2 = N 102 s.toNatClampNeg ∧ 0 ≤ N 102 s.toNatClampNeg ∧ N 102 s.toNatClampNeg ≤ 160 := by
  obtain ⟨hs, h1⟩ := rr0 h
  obtain ⟨h8, e, hh⟩ := r.hx hs
  have hd := (hh.row r.h6).mp h1
  obtain ⟨-, hz, ⟨-, e1, -⟩ | ⟨-, e1, h0, h3, e2⟩ | ⟨e1, -⟩⟩ := hh
  · rw [hd] at e1; exact absurd e1 (by decide)
  · exact ⟨hs, h8, e, hd, e1, h0, h3, e2, hz.1, hz.2⟩
  · rw [hd] at e1; exact absurd e1 (by decide)
theorem e_holds (r : Rl tc wc M L N K) (s : Int32) : Ok M L N K (holdsC M s, M, L) (a_X8_holds N K s, N, K) := by
  refine Ok.same r ?_
  unfold holdsC a_X8_holds
  by_cases hs : 0 ≤ s ∧ s ≤ 7
  · obtain ⟨-, -, hh⟩ := r.hx hs
    rw [if_pos hs, if_pos ((sh_iff s).mp hs)]
    obtain ⟨-, -, ⟨e1, e2, -⟩ | ⟨e1, e2, -⟩ | ⟨e1, e2, -⟩⟩ := hh
    · rw [if_pos e2, e1]
    · rw [if_neg (by rw [e1]; decide), if_pos e1, e2]
    · rw [if_neg (by rw [e1]; decide), if_neg (by rw [e1]; decide), e2]
  · rw [if_neg hs, if_neg (fun q => hs ((sh_iff s).mpr q))]
theorem e_element (r : Rl tc wc M L N K) (s i : Int32) : Ok M L N K (elemC M L s i, M, L) (a_X8_element N K s i, N, K) := by
  refine Ok.same r ?_
  unfold elemC a_X8_element
  by_cases hs : 0 ≤ s ∧ s ≤ 7
  · obtain ⟨h8, -, hh⟩ := r.hx hs
    rw [if_pos hs, if_pos ((sh_iff s).mp hs)]
    have key : M (2 + s.toNatClampNeg) 2 = 0 → ¬ (0 ≤ i ∧ i < M (2 + s.toNatClampNeg) 2 ∧ i < 160) := fun e q => absurd (e ▸ q.2.1) (Int32.not_lt.mpr q.1)
    obtain ⟨-, hz, ⟨-, e2, e3⟩ | ⟨e1, -, -, -, e2⟩ | ⟨e1, -, -, -, e3⟩⟩ := hh
    · rw [if_neg (key e3), if_neg (by rw [e2]; decide)]
    · rw [if_pos e1]
      by_cases hi : i < 0
      · rw [if_neg (fun q => absurd hi (Int32.not_lt.mpr q.1)), if_pos hi]
      · rw [if_neg hi]
        by_cases h2 : N 102 s.toNatClampNeg ≤ i
        · rw [if_neg (fun q => absurd (e2 ▸ q.2.1) (Int32.not_lt.mpr h2)), if_pos h2]
        · have hx := fIx_sz hi (Int32.not_le.mp h2) hz
          rw [if_pos ⟨Int32.not_lt.mp hi, e2 ▸ Int32.not_le.mp h2, Int32.lt_of_lt_of_le (Int32.not_le.mp h2) hz.2⟩, if_neg h2, show 2 + s.toNatClampNeg + 8 = 10 + s.toNatClampNeg by omega]
          exact r.e _ h8 _ hx.2.2
    · rw [if_neg (key e3), if_neg (by rw [e1]; decide)]
  · rw [if_neg hs, if_neg (fun q => hs ((sh_iff s).mpr q))]
/-- only shelves changed -/
theorem Rl.shelf (r : Rl tc wc M L N K) (hm : ∀ a j, (a < 2 ∨ 10 ≤ a) → M' a j = M a j) (hn : ∀ a j, (a < 100 ∨ 104 ≤ a) → N' a j = N a j) (hH : RlHs wc M' N') (hE : RlE L' K') : Rl tc wc M' L' N' K' :=
  ⟨r.n.mv (hm _ _ (by omega)) (hm _ _ (by omega)) (hn _ _ (by omega)) (hn _ _ (by omega)), r.t.mv (fun a j _ _ => hm _ _ (by omega)) (fun a j _ _ => hn _ _ (by omega)), r.w.mv (fun a j _ _ => hm _ _ (by omega)) (fun a j _ _ => hn _ _ (by omega)), r.s.mv (fun j _ _ => hm _ _ (by omega)) (fun j _ _ => hn _ _ (by omega)),
    r.o.mv (fun a j _ _ => hm _ _ (by omega)) (hm _ _ (by omega)), r.f.mv (hm _ _ (by omega)) (hn _ _ (by omega)) (fun j => hm _ _ (by omega)) (fun j => hn _ _ (by omega)), hH, r.b.mv (hm _ _ (by omega)) (hn _ _ (by omega)) (fun j => hm _ _ (by omega)) (fun j => hn _ _ (by omega)),
    r.i.mv (hm _ _ (by omega)) (hn _ _ (by omega)) (fun a j _ _ => hm _ _ (by omega)) (fun j => hn _ _ (by omega)), r.c.mv (fun a j _ _ => hn _ _ (by omega)), hE⟩
theorem e_row (r : Rl tc wc M L N K) (s o n : Int32) : Ok M L N K (rowC M L s o n) (a_X8_row N K s o n) := by
  unfold rowC a_X8_row
  by_cases hs : 0 ≤ s ∧ s ≤ 7
  · obtain ⟨h8, -, -⟩ := r.hx hs
    rw [if_pos hs, if_pos ((sh_iff s).mp hs)]
    by_cases hn : 0 ≤ n
    · rw [if_pos hn, if_pos hn]
      by_cases ho : o < 0
      · rw [if_neg (fun q => absurd ho (Int32.not_lt.mpr q.1)), if_pos ho]
        exact Ok.ref r (by decide) (by decide) rfl
      rw [if_neg ho]
      by_cases ho3 : o ≤ 3
      · rw [if_pos ⟨Int32.not_lt.mp ho, ho3⟩, if_pos ho3]
        by_cases hn2 : n ≤ 160
        · rw [if_pos hn2, if_pos hn2]
          generalize s.toNatClampNeg = k at h8
          refine ⟨rfl, ⟨tc, wc, r.shelf (fun a j q => ?_) (fun a j q => ?_) ?_ ?_⟩, fun a j q => ?_, fun a j q => ?_, fun a j q => ?_, fun a j q => ?_⟩
          · dsimp only; rw [up2_o _ _ (by omega), up2_o _ _ (by omega)]
          · dsimp only; rw [up2_o _ _ (by omega), up2_o _ _ (by omega), up2_o _ _ (by omega)]
          · intro t ht
            dsimp only
            by_cases e : t = k
            · subst e
              refine ⟨?_, ?_, Or.inr (Or.inl ?_)⟩
              · rw [up2_s]; exact ⟨hn, hn2⟩
              · rw [up2_s]; exact ⟨hn, hn2⟩
              · rw [up2_o _ _ (by omega), up2_o _ _ (by omega), up2_s, up2_o _ _ (by omega), up2_s, up2_o _ _ (by omega), up2_s, up2_s, up2_s]
                exact ⟨rfl, rfl, Int32.not_lt.mp ho, ho3, rfl⟩
            · have := r.h t ht
              rw [up2_o _ _ (by omega), up2_o _ _ (by omega), up2_o _ _ (by omega), up2_o _ _ (by omega), up2_o _ _ (by omega), up2_o _ _ (by omega), up2_o _ _ (by omega), up2_o _ _ (by omega), up2_o _ _ (by omega), up2_o _ _ (by omega), up2_o _ _ (by omega), up2_o _ _ (by omega), up2_o _ _ (by omega), up2_o _ _ (by omega), up2_o _ _ (by omega), up2_o _ _ (by omega)]
              exact this
          · intro t ht i hi
            show zeL L (2 + k) 160 (10 + t) i = zcL K k 160 104 (160 * t + i)
            unfold zeL zcL
            by_cases e : t = k
            · subst e
              rw [if_pos (by omega), if_pos (by omega)]
            · rw [if_neg (by omega), if_neg (by omega)]
              exact r.e t ht i hi
          · dsimp only; rw [up2_o _ _ (by omega), up2_o _ _ (by omega)]
          · show zeL L (2 + k) 160 a j = _
            unfold zeL
            rw [if_neg (by omega)]
          · dsimp only; rw [up2_o _ _ (by omega), up2_o _ _ (by omega), up2_o _ _ (by omega)]
          · show zcL K k 160 a j = _
            unfold zcL
            rw [if_neg (by omega)]
        · rw [if_neg hn2, if_neg hn2]
          exact Ok.ref r (by decide) (by decide) rfl
      · rw [if_neg (fun q => ho3 q.2), if_neg ho3]
        exact Ok.ref r (by decide) (by decide) rfl
    · rw [if_neg hn, if_neg hn]
      exact Ok.ref r (by decide) (by decide) rfl
  · rw [if_neg hs, if_neg (fun q => hs ((sh_iff s).mpr q))]
    exact Ok.ref r (by decide) (by decide) rfl
theorem e_set (r : Rl tc wc M L N K) (s i : Int32) (v : Int64) : Ok M L N K (setC M L s i v) (a_X8_set N K s i v) := by
  have hw := wanted_eq r s
  unfold setC
  by_cases h0 : rrI M s = 0
  · obtain ⟨hs, h8, -, hd, e1, o0, o3, e2, z0, z1⟩ := rr_row r h0
    rw [if_pos h0]
    unfold a_X8_set
    rw [if_pos ((sh_iff s).mp hs), if_neg (show ¬ N 100 s.toNatClampNeg = 2 by rw [hd]; decide), if_neg (show ¬ N 100 s.toNatClampNeg = 0 by rw [hd]; decide)]
    by_cases hi : i < 0
    · rw [if_neg (fun q => absurd hi (Int32.not_lt.mpr q.1)), if_pos hi]
      exact Ok.ref r (by decide) (by decide) rfl
    rw [if_neg hi]
    by_cases h2 : i < N 102 s.toNatClampNeg
    · have hx := fIx_sz hi h2 ⟨z0, z1⟩
      rw [if_pos ⟨Int32.not_lt.mp hi, e2 ▸ h2, Int32.lt_of_lt_of_le h2 z1⟩, if_pos h2]
      have key : ∀ x y : Int64, x = y → Ok M L N K ((1 : Int32), M, upL L (2 + s.toNatClampNeg + 8) i.toNatClampNeg x) ((1 : Int32), N, upL K 104 (160 * s.toNatClampNeg + i.toNatClampNeg) y) := by
        rintro x _ rfl
        have hi160 := hx.2.2
        generalize s.toNatClampNeg = k at h8
        generalize i.toNatClampNeg = i0 at hi160
        refine ⟨rfl, ⟨tc, wc, r.shelf (fun _ _ _ => rfl) (fun _ _ _ => rfl) r.h ?_⟩, fun _ _ _ => rfl, fun a j q => ?_, fun _ _ _ => rfl, fun a j q => ?_⟩
        · intro t ht j hj
          dsimp only
          rw [upL_at, upL_at]
          by_cases e : t = k ∧ j = i0
          · obtain ⟨rfl, rfl⟩ := e
            rw [if_pos (by omega), if_pos (by omega)]
          · rw [if_neg (by omega), if_neg (by omega)]
            exact r.e t ht j hj
        · exact upL_o _ _ (by omega)
        · exact upL_o _ _ (by omega)
      unfold lowF
      rw [e1, h100s o0 o3]
      by_cases q0 : N 101 s.toNatClampNeg = 0
      · rw [if_pos q0, if_pos q0]; exact key _ _ rfl
      rw [if_neg q0, if_neg q0]
      by_cases q1 : N 101 s.toNatClampNeg = 1
      · rw [if_pos q1, if_pos q1]; exact key _ _ rfl
      rw [if_neg q1, if_neg q1]
      by_cases q2 : N 101 s.toNatClampNeg = 2
      · rw [if_pos q2, if_pos q2]; exact key _ _ rfl
      rw [if_neg q2, if_neg q2]
      exact key _ _ rfl
    · rw [if_neg (fun q => h2 (e2 ▸ q.2.1)), if_neg h2]
      exact Ok.ref r (by decide) (by decide) rfl
  · rw [if_neg h0]
    have hrg := rr_rg h0
    have ex : a_X8_set N K s i v = (a_X8_wanted N K s, noM N (a_X8_wanted N K s), K) := by
      rw [hw] at h0
      unfold a_X8_wanted at h0 ⊢
      unfold a_X8_set
      by_cases hs : 0 ≤ s ∧ s < 8
      · rw [if_pos hs] at h0 ⊢
        rw [if_pos hs]
        by_cases q2 : N 100 s.toNatClampNeg = 2
        · rw [if_pos q2, if_pos q2]
        · rw [if_neg q2] at h0 ⊢
          rw [if_neg q2]
          by_cases q3 : N 100 s.toNatClampNeg = 0
          · rw [if_pos q3, if_pos q3]
          · rw [if_neg q3] at h0; exact absurd rfl h0
      · rw [if_neg hs, if_neg hs]
    rw [ex, ← hw]
    exact Ok.ref r hrg.1 hrg.2 rfl
theorem e_says (r : Rl tc wc M L N K) (s k : Int32) : Ok M L N K (saysC M L s k) (a_X8_says N K s k wc) := by
  unfold saysC a_X8_says
  by_cases hs : 0 ≤ s ∧ s ≤ 7
  · obtain ⟨h8, -, hh0⟩ := r.hx hs
    rw [if_pos hs, if_pos ((sh_iff s).mp hs)]
    by_cases hk : k < 0
    · rw [if_neg (show ¬ (0 ≤ k ∧ k ≤ 6) from fun q => absurd hk (Int32.not_lt.mpr q.1)), if_pos hk]
      exact Ok.ref r (by decide) (by decide) rfl
    rw [if_neg hk]
    by_cases hk6 : k ≤ 6
    · rw [if_pos (show 0 ≤ k ∧ k ≤ 6 from ⟨Int32.not_lt.mp hk, hk6⟩), if_pos hk6]
      by_cases hd1 : N 100 s.toNatClampNeg = 1
      · rw [if_pos ((hh0.row r.h6).mpr hd1), if_pos hd1]
        exact Ok.ref r (by decide) (by decide) rfl
      rw [if_neg (fun q => hd1 ((hh0.row r.h6).mp q)), if_neg hd1]
      obtain ⟨-, -, ⟨e1, e2, -⟩ | ⟨e1, -⟩ | ⟨e1, e2, w0, w1, -⟩⟩ := hh0
      · rw [if_neg (show ¬ (0 ≤ M (2 + s.toNatClampNeg) 1 ∧ M (2 + s.toNatClampNeg) 1 < M 18 4 ∧ M (2 + s.toNatClampNeg) 1 < 6) from fun q => absurd q.1 (by rw [e1]; decide)), if_pos e2]
        exact Ok.ref r (by decide) (by decide) rfl
      · exact absurd e1 hd1
      · have hw : 0 ≤ M (2 + s.toNatClampNeg) 1 ∧ M (2 + s.toNatClampNeg) 1 < N 86 0 := ⟨w0, r.n.2.2.2.2.1 ▸ w1⟩
        rw [if_pos ((r.wc_iff _).mpr hw), if_neg (show ¬ N 100 s.toNatClampNeg = 0 by rw [e1]; decide), e2]
        obtain ⟨w, -, hw6, -, ew⟩ := r.wx hw
        rw [ew]
        have hW := (r.w w hw6).2
        rw [hW 1 (by omega) (by omega), hW 2 (by omega) (by omega), hW 3 (by omega) (by omega), hW 4 (by omega) (by omega), hW 5 (by omega) (by omega)]
        have hkd := ((r.o.2.1) w hw6).1
        rw [show 18 + 12 + w = 30 + w from rfl, hW 1 (by omega) (by omega)] at hkd
        have hun : unF 7 (N 88 w) k = true ↔ (k = 0 ∨ k = N 88 w ∨ ((k = 1 ∧ N 88 w = 3) ∨ (k = 2 ∧ N 88 w = 5) ∨ (k = 4 ∧ N 88 w = 6))) := by
          obtain ⟨a, ha, ea⟩ := i_le 6 hkd.1 hkd.2 (by decide)
          obtain ⟨b, hb, eb⟩ := i_le 6 (Int32.not_lt.mp hk) hk6 (by decide)
          rw [ea, eb]
          exact (show ∀ a, a < 7 → ∀ b, b < 7 → (unF 7 (nI a) (nI b) = true ↔ (nI b = 0 ∨ nI b = nI a ∨ ((nI b = 1 ∧ nI a = 3) ∨ (nI b = 2 ∧ nI a = 5) ∨ (nI b = 4 ∧ nI a = 6)))) by decide +kernel) a (by omega) b (by omega)
        have ch : ∀ (a b c d e f g : Int32), (if k = 0 then (a, N, K) else (if k = 1 then (b, N, K) else (if k = 2 then (c, N, K) else (if k = 3 then (d, N, K) else (if k = 4 then (e, N, K) else (if k = 5 then (f, N, K) else (g, N, K))))))) = ((if k = 0 then a else (if k = 1 then b else (if k = 2 then c else (if k = 3 then d else (if k = 4 then e else (if k = 5 then f else g)))))), N, K) := by
          intro a b c d e f g
          repeat' split
          all_goals rfl
        have wd : wordF k (N 89 w) (N 90 w) (N 91 w) (N 92 w) = (if k = 0 then N 92 w else (if k = 1 then N 91 w else (if k = 2 then N 89 w else (if k = 3 then N 91 w else (if k = 4 then N 90 w else (if k = 5 then N 89 w else N 90 w)))))) := by
          obtain ⟨b, hb, eb⟩ := i_le 6 (Int32.not_lt.mp hk) hk6 (by decide)
          subst eb
          unfold wordF
          rcases (show b = 0 ∨ b = 1 ∨ b = 2 ∨ b = 3 ∨ b = 4 ∨ b = 5 ∨ b = 6 by omega) with rfl | rfl | rfl | rfl | rfl | rfl | rfl <;> rfl
        simp only [ch]
        by_cases q0 : k = 0
        · rw [if_pos (hun.mpr (Or.inl q0)), if_pos q0, if_pos q0]
          exact Ok.same r (by rw [wd, if_pos q0])
        rw [if_neg q0]
        by_cases q1 : k = N 88 w
        · rw [if_pos (hun.mpr (Or.inr (Or.inl q1))), if_pos q1]
          exact Ok.same r wd
        rw [if_neg q1]
        by_cases q2 : (k = 1 ∧ N 88 w = 3) ∨ (k = 2 ∧ N 88 w = 5) ∨ (k = 4 ∧ N 88 w = 6)
        · rw [if_pos (hun.mpr (Or.inr (Or.inr q2))), if_pos q2]
          exact Ok.same r wd
        · rw [if_neg (fun q => (hun.mp q).elim q0 (fun q => q.elim q1 q2)), if_neg q2]
          exact Ok.ref r (by decide) (by decide) rfl
    · rw [if_neg (show ¬ (0 ≤ k ∧ k ≤ 6) from fun q => hk6 q.2), if_neg hk6]
      exact Ok.ref r (by decide) (by decide) rfl
  · rw [if_neg hs, if_neg (fun q => hs ((sh_iff s).mpr q))]
    exact Ok.ref r (by decide) (by decide) rfl
theorem e_show (r : Rl tc wc M L N K) (s w : Int32) : Ok M L N K (showC M L s w) (a_X8_show N K s w) := by
  unfold showC a_X8_show
  by_cases hs : 0 ≤ s ∧ s ≤ 7
  · obtain ⟨h8, -, hh0⟩ := r.hx hs
    rw [if_pos hs, if_pos ((sh_iff s).mp hs)]
    have key : ∀ (v b : Int32), (w = -1 ∧ b = 0 ∨ (0 ≤ w ∧ w < nI wc) ∧ b = 2) → Ok M L N K (v, up2 (up2 M (2 + s.toNatClampNeg) 1 w) (2 + s.toNatClampNeg) 2 0, L) (v, up2 (up2 N 100 s.toNatClampNeg b) 103 s.toNatClampNeg w, K) := by
      intro v b hb
      generalize s.toNatClampNeg = k at h8 hh0
      refine ⟨rfl, ⟨tc, wc, r.shelf (fun a j q => ?_) (fun a j q => ?_) ?_ r.e⟩, fun a j q => ?_, fun _ _ _ => rfl, fun a j q => ?_, fun _ _ _ => rfl⟩
      · dsimp only; rw [up2_o _ _ (by omega), up2_o _ _ (by omega)]
      · dsimp only; rw [up2_o _ _ (by omega), up2_o _ _ (by omega)]
      · intro t ht
        dsimp only
        by_cases e : t = k
        · subst e
          rw [up2_o _ _ (by omega), up2_s, up2_s, up2_o _ _ (by omega), up2_s, up2_o _ _ (by omega), up2_o _ _ (by omega), up2_o _ _ (by omega), up2_o _ _ (by omega), up2_s]
          refine ⟨by decide, hh0.2.1, ?_⟩
          rcases hb with ⟨h1, h2⟩ | ⟨h1, h2⟩
          · exact Or.inl ⟨h1, h2, rfl⟩
          · exact Or.inr (Or.inr ⟨h2, rfl, h1.1, h1.2, rfl⟩)
        · have := r.h t ht
          rw [up2_o _ _ (by omega), up2_o _ _ (by omega), up2_o _ _ (by omega), up2_o _ _ (by omega), up2_o _ _ (by omega), up2_o _ _ (by omega), up2_o _ _ (by omega), up2_o _ _ (by omega), up2_o _ _ (by omega), up2_o _ _ (by omega), up2_o _ _ (by omega), up2_o _ _ (by omega)]
          exact this
      · dsimp only; rw [up2_o _ _ (by omega), up2_o _ _ (by omega)]
      · dsimp only; rw [up2_o _ _ (by omega), up2_o _ _ (by omega)]
    by_cases h1 : w = -1
    · rw [if_pos h1, if_pos h1, if_pos h1, if_pos h1]
      exact key 0 0 (Or.inl ⟨h1, rfl⟩)
    · rw [if_neg h1, if_neg h1]
      by_cases h2 : 0 ≤ w ∧ w < N 86 0
      · rw [if_pos ((r.wc_iff w).mpr h2), if_pos h2, if_neg h1, if_neg h1]
        exact key 1 2 (Or.inr ⟨⟨h2.1, r.n.2.2.2.2.1 ▸ h2.2⟩, rfl⟩)
      · rw [if_neg (fun q => h2 ((r.wc_iff w).mp q)), if_neg h2]
        exact Ok.ref r (by decide) (by decide) rfl
  · rw [if_neg hs, if_neg (fun q => hs ((sh_iff s).mpr q))]
    exact Ok.ref r (by decide) (by decide) rfl
end HS
