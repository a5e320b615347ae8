/-! what class and reference have to do with each other: the class's cells as M, L have them, the reference's as N, K have them -/
def RlH (wc : Nat) (h z hd so si sh : Int32) : Prop := (0 ≤ z ∧ z ≤ 160) ∧ (0 ≤ si ∧ si ≤ 160) ∧ ((h = -1 ∧ hd = 0 ∧ z = 0) ∨ (hd = 1 ∧ h = 100 + so ∧ 0 ≤ so ∧ so ≤ 3 ∧ z = si) ∨ (hd = 2 ∧ sh = h ∧ 0 ≤ h ∧ h < nI wc ∧ z = 0))
/-- things and waiters in order -/
def RlO (M : Nat → Nat → Int32) (g wc : Nat) : Prop := (∀ t, t < 8 → okT M (g + 4 + t)) ∧ (∀ w, w < 6 → okW M (g + 12 + w)) ∧ (0 ≤ M g 5 ∧ M g 5 ≤ 9) ∧ (∀ w, w < wc → w < 6 → 1 ≤ M (g + 12 + w) 4)
def RlN (tc wc : Nat) (M N : Nat → Nat → Int32) : Prop := M 18 3 = nI tc ∧ N 86 1 = nI tc ∧ tc ≤ 8 ∧ M 18 4 = nI wc ∧ N 86 0 = nI wc ∧ wc ≤ 6
def RlT (M N : Nat → Nat → Int32) : Prop := ∀ t, t < 8 → ∀ j, j < 7 → M (22 + t) j = N (93 + j) t
def RlW (M N : Nat → Nat → Int32) : Prop := ∀ w, w < 6 → M (30 + w) 0 = nI w ∧ ∀ j, 1 ≤ j → j ≤ 5 → M (30 + w) j = N (87 + j) w
def RlS (M N : Nat → Nat → Int32) : Prop := ∀ j, 5 ≤ j → j ≤ 9 → M 18 j = N 86 (j - 3)
def RlF (M N : Nat → Nat → Int32) : Prop := M 0 8 = N 86 7 ∧ ∀ k, 1 ≤ k → k ≤ 7 → M 85 k = N 87 k
def RlB (M N : Nat → Nat → Int32) : Prop := M 83 1 = N 86 45 ∧ (∃ n, n < 1000 ∧ M 83 1 = nI n) ∧ ∀ i, i < 20 → M 84 i = N 114 i
/-- the image -/
def RlK (M N : Nat → Nat → Int32) : Prop := ∃ tk wk, tk ≤ 8 ∧ wk ≤ 6 ∧ M 36 3 = nI tk ∧ N 112 87 = nI tk ∧ M 36 4 = nI wk ∧ N 112 86 = nI wk ∧ (∀ t, t < 8 → ∀ j, j < 7 → M (40 + t) j = N 112 (30 + 8 * j + t)) ∧ (∀ w, w < 6 → ∀ j, 1 ≤ j → j ≤ 5 → M (48 + w) j = N 112 (6 * (j - 1) + w)) ∧ (∀ j, 5 ≤ j → j ≤ 9 → M 36 j = N 112 (83 + j)) ∧ RlO M 36 wk
def RlI (M N : Nat → Nat → Int32) : Prop := M 0 7 = N 86 46 ∧ (¬ M 0 7 = 0 → RlK M N)
def moA (i : Nat) : Int32 := [9, 23, 23, 9, 99, 9, 20].getD i 0
def otA (i : Nat) : Int32 := [6, 9, 9, 24, 9].getD i 0
def RlC (N : Nat → Nat → Int32) : Prop := (∀ k, k < 28 → N 106 k = wdA k) ∧ (∀ w, w < 4 → N 107 w = nI (nmN w)) ∧ (∀ i, i < 7 → N 108 i = moA i) ∧ (∀ i, i < 5 → N 109 i = otA i)
def RlE (L K : Nat → Nat → Int64) : Prop := ∀ s, s < 8 → ∀ i, i < 160 → L (10 + s) i = K 104 (160 * s + i)
def RlHs (wc : Nat) (M N : Nat → Nat → Int32) : Prop := ∀ s, s < 8 → RlH wc (M (2 + s) 1) (M (2 + s) 2) (N 100 s) (N 101 s) (N 102 s) (N 103 s)
def Rl (tc wc : Nat) (M : Nat → Nat → Int32) (L : Nat → Nat → Int64) (N : Nat → Nat → Int32) (K : Nat → Nat → Int64) : Prop :=
  RlN tc wc M N ∧ RlT M N ∧ RlW M N ∧ RlS M N ∧ RlO M 18 wc ∧ RlF M N ∧ RlHs wc M N ∧ RlB M N ∧ RlI M N ∧ RlC N ∧ RlE L K
section RL
variable {tc wc : Nat} {M N M' N' : Nat → Nat → Int32} {L K L' K' : Nat → Nat → Int64}
theorem Rl.n (h : Rl tc wc M L N K) : RlN tc wc M N := h.1
theorem Rl.t (h : Rl tc wc M L N K) : RlT M N := h.2.1
theorem Rl.w (h : Rl tc wc M L N K) : RlW M N := h.2.2.1
theorem Rl.s (h : Rl tc wc M L N K) : RlS M N := h.2.2.2.1
theorem Rl.o (h : Rl tc wc M L N K) : RlO M 18 wc := h.2.2.2.2.1
theorem Rl.f (h : Rl tc wc M L N K) : RlF M N := h.2.2.2.2.2.1
theorem Rl.h (h : Rl tc wc M L N K) : RlHs wc M N := h.2.2.2.2.2.2.1
theorem Rl.b (h : Rl tc wc M L N K) : RlB M N := h.2.2.2.2.2.2.2.1
theorem Rl.i (h : Rl tc wc M L N K) : RlI M N := h.2.2.2.2.2.2.2.2.1
theorem Rl.c (h : Rl tc wc M L N K) : RlC N := h.2.2.2.2.2.2.2.2.2.1
theorem Rl.e (h : Rl tc wc M L N K) : RlE L K := h.2.2.2.2.2.2.2.2.2.2
/-- what a call leaves alone: the class's cells from a on to b, slots as S says -/
theorem RlN.mv (h : RlN tc wc M N) (h3 : M' 18 3 = M 18 3) (h4 : M' 18 4 = M 18 4) (g1 : N' 86 1 = N 86 1) (g0 : N' 86 0 = N 86 0) : RlN tc wc M' N' := by
  unfold RlN at h ⊢
  rw [h3, h4, g1, g0]
  exact h
theorem RlT.mv (h : RlT M N) (hm : ∀ a j, 22 ≤ a → a < 30 → M' a j = M a j) (hn : ∀ a j, 93 ≤ a → a < 100 → N' a j = N a j) : RlT M' N' := by
  intro t ht j hj
  rw [hm _ _ (by omega) (by omega), hn _ _ (by omega) (by omega)]
  exact h t ht j hj
theorem RlW.mv (h : RlW M N) (hm : ∀ a j, 30 ≤ a → a < 36 → M' a j = M a j) (hn : ∀ a j, 88 ≤ a → a < 93 → N' a j = N a j) : RlW M' N' := by
  intro w hw
  rw [hm _ _ (by omega) (by omega)]
  refine ⟨(h w hw).1, fun j h1 h5 => ?_⟩
  rw [hm _ _ (by omega) (by omega), hn _ _ (by omega) (by omega)]
  exact (h w hw).2 j h1 h5
theorem RlS.mv (h : RlS M N) (hm : ∀ j, 5 ≤ j → j ≤ 9 → M' 18 j = M 18 j) (hn : ∀ j, 2 ≤ j → j ≤ 6 → N' 86 j = N 86 j) : RlS M' N' := by
  intro j h5 h9
  rw [hm j h5 h9, hn _ (by omega) (by omega)]
  exact h j h5 h9
theorem RlO.mv {g : Nat} (h : RlO M g wc) (hm : ∀ a j, g + 4 ≤ a → a < g + 18 → M' a j = M a j) (h5 : M' g 5 = M g 5) : RlO M' g wc := by
  obtain ⟨h1, h2, h3, h4⟩ := h
  refine ⟨fun t ht => ?_, fun w hw => ?_, by rw [h5]; exact h3, fun w hw => ?_⟩
  · have := h1 t ht
    unfold okT at this ⊢
    simp only [hm _ _ (show g + 4 ≤ g + 4 + t by omega) (by omega)]
    exact this
  · have := h2 w hw
    unfold okW at this ⊢
    simp only [hm _ _ (show g + 4 ≤ g + 12 + w by omega) (by omega)]
    exact this
  · intro h6
    rw [hm _ _ (by omega) (by omega)]
    exact h4 w hw h6
theorem RlF.mv (h : RlF M N) (hm : M' 0 8 = M 0 8) (hn : N' 86 7 = N 86 7) (hr : ∀ j, M' 85 j = M 85 j) (hs : ∀ j, N' 87 j = N 87 j) : RlF M' N' := by
  refine ⟨by rw [hm, hn]; exact h.1, fun k h1 h7 => ?_⟩
  rw [hr, hs]
  exact h.2 k h1 h7
theorem RlHs.mv (h : RlHs wc M N) (hm : ∀ a j, 2 ≤ a → a < 10 → M' a j = M a j) (hn : ∀ a j, 100 ≤ a → a < 104 → N' a j = N a j) : RlHs wc M' N' := by
  intro s hs
  rw [hm _ _ (by omega) (by omega), hm _ _ (by omega) (by omega), hn _ _ (by omega) (by omega), hn _ _ (by omega) (by omega), hn _ _ (by omega) (by omega), hn _ _ (by omega) (by omega)]
  exact h s hs
theorem RlB.mv (h : RlB M N) (hm : M' 83 1 = M 83 1) (hn : N' 86 45 = N 86 45) (ht : ∀ j, M' 84 j = M 84 j) (hu : ∀ j, N' 114 j = N 114 j) : RlB M' N' := by
  refine ⟨by rw [hm, hn]; exact h.1, by rw [hm]; exact h.2.1, fun i hi => by rw [ht, hu]; exact h.2.2 i hi⟩
theorem RlK.mv (h : RlK M N) (hm : ∀ a j, 36 ≤ a → a < 54 → M' a j = M a j) (hn : ∀ j, N' 112 j = N 112 j) : RlK M' N' := by
  obtain ⟨tk, wk, h1, h2, h3, h4, h5, h6, h7, h8, h9, h10⟩ := h
  refine ⟨tk, wk, h1, h2, by rw [hm _ _ (by omega) (by omega)]; exact h3, by rw [hn]; exact h4, by rw [hm _ _ (by omega) (by omega)]; exact h5, by rw [hn]; exact h6, fun t ht j hj => ?_, fun w hw j j1 j5 => ?_, fun j j5 j9 => ?_, h10.mv (fun a j k1 k2 => hm a j (by omega) (by omega)) (hm _ _ (by omega) (by omega))⟩
  · rw [hm _ _ (by omega) (by omega), hn]; exact h7 t ht j hj
  · rw [hm _ _ (by omega) (by omega), hn]; exact h8 w hw j j1 j5
  · rw [hm _ _ (by omega) (by omega), hn]; exact h9 j j5 j9
theorem RlI.mv (h : RlI M N) (h7 : M' 0 7 = M 0 7) (g7 : N' 86 46 = N 86 46) (hm : ∀ a j, 36 ≤ a → a < 54 → M' a j = M a j) (hn : ∀ j, N' 112 j = N 112 j) : RlI M' N' := by
  refine ⟨by rw [h7, g7]; exact h.1, fun q => ?_⟩
  rw [h7] at q
  exact (h.2 q).mv hm hn
theorem RlC.mv (h : RlC N) (hn : ∀ a j, 106 ≤ a → a < 110 → N' a j = N a j) : RlC N' := by
  obtain ⟨h1, h2, h3, h4⟩ := h
  exact ⟨fun k hk => (hn _ _ (by omega) (by omega)).trans (h1 k hk), fun k hk => (hn _ _ (by omega) (by omega)).trans (h2 k hk), fun k hk => (hn _ _ (by omega) (by omega)).trans (h3 k hk), fun k hk => (hn _ _ (by omega) (by omega)).trans (h4 k hk)⟩
theorem RlE.mv (h : RlE L K) (hl : ∀ a j, 10 ≤ a → a < 18 → L' a j = L a j) (hk : ∀ j, K' 104 j = K 104 j) : RlE L' K' := by
  intro s hs i hi
  rw [hl _ _ (by omega) (by omega), hk]
  exact h s hs i hi
/-- places that nothing asks for -/
def scC (a : Nat) : Prop := a = 21 ∨ (54 ≤ a ∧ a < 83)
def scX (a j : Nat) : Prop := (a = 86 ∧ 32 ≤ j ∧ j ≤ 43) ∨ a = 110 ∨ a = 111 ∨ a = 113
theorem Rl.scr (h : Rl tc wc M L N K) (hm : ∀ a j, ¬ scC a → M' a j = M a j) (hn : ∀ a j, ¬ scX a j → N' a j = N a j) : Rl tc wc M' L N' K := by
  have m : ∀ a j, a ≠ 21 → (a < 54 ∨ 83 ≤ a) → M' a j = M a j := fun a j h1 h2 => hm a j (by unfold scC; omega)
  have n : ∀ a j, (a ≠ 86 ∨ j < 32 ∨ 43 < j) → a ≠ 110 → a ≠ 111 → a ≠ 113 → N' a j = N a j := fun a j h1 h2 h3 h4 => hn a j (by unfold scX; omega)
  exact ⟨h.n.mv (m _ _ (by omega) (by omega)) (m _ _ (by omega) (by omega)) (n _ _ (by omega) (by omega) (by omega) (by omega)) (n _ _ (by omega) (by omega) (by omega) (by omega)),
    h.t.mv (fun a j _ _ => m _ _ (by omega) (by omega)) (fun a j _ _ => n _ _ (by omega) (by omega) (by omega) (by omega)),
    h.w.mv (fun a j _ _ => m _ _ (by omega) (by omega)) (fun a j _ _ => n _ _ (by omega) (by omega) (by omega) (by omega)),
    h.s.mv (fun j _ _ => m _ _ (by omega) (by omega)) (fun j _ _ => n _ _ (by omega) (by omega) (by omega) (by omega)),
    h.o.mv (fun a j _ _ => m _ _ (by omega) (by omega)) (m _ _ (by omega) (by omega)),
    h.f.mv (m _ _ (by omega) (by omega)) (n _ _ (by omega) (by omega) (by omega) (by omega)) (fun j => m _ _ (by omega) (by omega)) (fun j => n _ _ (by omega) (by omega) (by omega) (by omega)),
    h.h.mv (fun a j _ _ => m _ _ (by omega) (by omega)) (fun a j _ _ => n _ _ (by omega) (by omega) (by omega) (by omega)),
    h.b.mv (m _ _ (by omega) (by omega)) (n _ _ (by omega) (by omega) (by omega) (by omega)) (fun j => m _ _ (by omega) (by omega)) (fun j => n _ _ (by omega) (by omega) (by omega) (by omega)),
    h.i.mv (m _ _ (by omega) (by omega)) (n _ _ (by omega) (by omega) (by omega) (by omega)) (fun a j _ _ => m _ _ (by omega) (by omega)) (fun j => n _ _ (by omega) (by omega) (by omega) (by omega)),
    h.c.mv (fun a j _ _ => n _ _ (by omega) (by omega) (by omega) (by omega)), h.e⟩
/-- only the class's cells lie below 86, only the reference's from 86 on -/
theorem Rl.left (h : Rl tc wc M L N K) (hm : ∀ a j, a < 86 → M' a j = M a j) (hl : ∀ a j, a < 86 → L' a j = L a j) : Rl tc wc M' L' N K :=
  ⟨h.n.mv (hm _ _ (by omega)) (hm _ _ (by omega)) rfl rfl, h.t.mv (fun a j _ _ => hm _ _ (by omega)) (fun _ _ _ _ => rfl), h.w.mv (fun a j _ _ => hm _ _ (by omega)) (fun _ _ _ _ => rfl), h.s.mv (fun j _ _ => hm _ _ (by omega)) (fun _ _ _ => rfl),
    h.o.mv (fun a j _ _ => hm _ _ (by omega)) (hm _ _ (by omega)), h.f.mv (hm _ _ (by omega)) rfl (fun j => hm _ _ (by omega)) (fun _ => rfl), h.h.mv (fun a j _ _ => hm _ _ (by omega)) (fun _ _ _ _ => rfl), h.b.mv (hm _ _ (by omega)) rfl (fun j => hm _ _ (by omega)) (fun _ => rfl),
    h.i.mv (hm _ _ (by omega)) rfl (fun a j _ _ => hm _ _ (by omega)) (fun _ => rfl), h.c, h.e.mv (fun a j _ _ => hl _ _ (by omega)) (fun _ => rfl)⟩
theorem Rl.right (h : Rl tc wc M L N K) (hn : ∀ a j, 86 ≤ a → N' a j = N a j) (hk : ∀ a j, 86 ≤ a → K' a j = K a j) : Rl tc wc M L N' K' :=
  ⟨h.n.mv rfl rfl (hn _ _ (by omega)) (hn _ _ (by omega)), h.t.mv (fun _ _ _ _ => rfl) (fun a j _ _ => hn _ _ (by omega)), h.w.mv (fun _ _ _ _ => rfl) (fun a j _ _ => hn _ _ (by omega)), h.s.mv (fun _ _ _ => rfl) (fun j _ _ => hn _ _ (by omega)),
    h.o, h.f.mv rfl (hn _ _ (by omega)) (fun _ => rfl) (fun j => hn _ _ (by omega)), h.h.mv (fun _ _ _ _ => rfl) (fun a j _ _ => hn _ _ (by omega)), h.b.mv rfl (hn _ _ (by omega)) (fun _ => rfl) (fun j => hn _ _ (by omega)),
    h.i.mv rfl (hn _ _ (by omega)) (fun _ _ _ _ => rfl) (fun j => hn _ _ (by omega)), h.c.mv (fun a j _ _ => hn _ _ (by omega)), h.e.mv (fun _ _ _ _ => rfl) (fun j => hk _ _ (by omega))⟩
/-- a call of the class and the same call of the reference: they answer alike, and what they leave is alike -/
def Ok {R : Type} (M : Nat → Nat → Int32) (L : Nat → Nat → Int64) (N : Nat → Nat → Int32) (K : Nat → Nat → Int64) (x y : R × fM) : Prop :=
  x.1 = y.1 ∧ (∃ tc wc, Rl tc wc x.2.1 x.2.2 y.2.1 y.2.2) ∧ (∀ a j, 86 ≤ a → x.2.1 a j = M a j) ∧ (∀ a j, 86 ≤ a → x.2.2 a j = L a j) ∧ (∀ a j, a < 86 → y.2.1 a j = N a j) ∧ (∀ a j, a < 86 → y.2.2 a j = K a j)
theorem Ok.same {R : Type} (h : Rl tc wc M L N K) {v v' : R} (e : v = v') : Ok M L N K (v, M, L) (v', N, K) := ⟨e, ⟨tc, wc, h⟩, fun _ _ _ => rfl, fun _ _ _ => rfl, fun _ _ _ => rfl, fun _ _ _ => rfl⟩
theorem Ok.scr {R : Type} (h : Rl tc wc M L N K) {v v' : R} (e : v = v') (hm : ∀ a j, ¬ scC a → M' a j = M a j) (hn : ∀ a j, ¬ scX a j → N' a j = N a j) : Ok M L N K (v, M', L) (v', N', K) :=
  ⟨e, ⟨tc, wc, h.scr hm hn⟩, fun a j ha => hm a j (by unfold scC; omega), fun _ _ _ => rfl, fun a j ha => hn a j (by unfold scX; omega), fun _ _ _ => rfl⟩
theorem rfM_o {b : Int32} {a j : Nat} (h : a ≠ 85) : rfM M b a j = M a j := by
  unfold rfM
  split
  · exact up2_o _ _ (Or.inl h)
  · rfl
theorem noM_o {b : Int32} {a j : Nat} (h : a ≠ 87) : noM M b a j = M a j := up2_o _ _ (Or.inl h)
theorem Rl.ref (h : Rl tc wc M L N K) {b : Int32} (h1 : 1 ≤ -b) (h7 : -b ≤ 7) : Rl tc wc (rfM M b) L (noM N b) K := by
  obtain ⟨k, hk, ek⟩ := i_le 7 (Int32.le_trans (by decide) h1) h7 (by decide)
  have hk1 : 1 ≤ k := by
    have : nI 1 ≤ nI k := by rw [← ek]; exact h1
    exact (nI_le_iff (by omega) (by omega)).mp this
  have ek2 : (-b).toNatClampNeg = k := by rw [ek, nI_clamp (by omega)]
  have hF : RlF (rfM M b) (noM N b) := by
    refine ⟨by rw [rfM_o (by omega), noM_o (by omega)]; exact h.f.1, fun j j1 j7 => ?_⟩
    unfold rfM noM
    rw [if_pos ⟨h1, h7⟩, ek2, up2_at, up2_at, h.f.2 j j1 j7, h.f.2 k hk1 (by omega)]
    by_cases e : j = k
    · rw [if_pos ⟨rfl, e⟩, if_pos ⟨rfl, e⟩]
    · rw [if_neg (fun q => e q.2), if_neg (fun q => e q.2)]
  exact ⟨h.n.mv (rfM_o (by omega)) (rfM_o (by omega)) (noM_o (by omega)) (noM_o (by omega)), h.t.mv (fun a j _ _ => rfM_o (by omega)) (fun a j _ _ => noM_o (by omega)), h.w.mv (fun a j _ _ => rfM_o (by omega)) (fun a j _ _ => noM_o (by omega)), h.s.mv (fun j _ _ => rfM_o (by omega)) (fun j _ _ => noM_o (by omega)),
    h.o.mv (fun a j _ _ => rfM_o (by omega)) (rfM_o (by omega)), hF, h.h.mv (fun a j _ _ => rfM_o (by omega)) (fun a j _ _ => noM_o (by omega)), h.b.mv (rfM_o (by omega)) (noM_o (by omega)) (fun j => rfM_o (by omega)) (fun j => noM_o (by omega)),
    h.i.mv (rfM_o (by omega)) (noM_o (by omega)) (fun a j _ _ => rfM_o (by omega)) (fun j => noM_o (by omega)), h.c.mv (fun a j _ _ => noM_o (by omega)), h.e⟩
theorem Ok.ref (h : Rl tc wc M L N K) {b v v' : Int32} (h1 : 1 ≤ -b) (h7 : -b ≤ 7) (e : v = v') : Ok M L N K (v, rfM M b, L) (v', noM N b, K) :=
  ⟨e, ⟨tc, wc, h.ref h1 h7⟩, fun a j ha => rfM_o (by omega), fun _ _ _ => rfl, fun a j ha => noM_o (by omega), fun _ _ _ => rfl⟩
theorem Rl.wc_iff (h : Rl tc wc M L N K) (w : Int32) : (0 ≤ w ∧ w < M 18 4 ∧ w < 6) ↔ (0 ≤ w ∧ w < N 86 0) := by
  obtain ⟨-, -, -, h4, g0, h6⟩ := h.n
  rw [h4, g0]
  refine ⟨fun q => ⟨q.1, q.2.1⟩, fun q => ⟨q.1, q.2, ?_⟩⟩
  exact Int32.lt_of_lt_of_le q.2 ((nI_le_iff (b := 6) (by omega) (by omega)).mpr h6)
theorem Rl.tc_iff (h : Rl tc wc M L N K) (t : Int32) : (0 ≤ t ∧ t < M 18 3 ∧ t < 8) ↔ (0 ≤ t ∧ t < N 86 1) := by
  obtain ⟨h3, g1, h8, -⟩ := h.n
  rw [h3, g1]
  refine ⟨fun q => ⟨q.1, q.2.1⟩, fun q => ⟨q.1, q.2, ?_⟩⟩
  exact Int32.lt_of_lt_of_le q.2 ((nI_le_iff (b := 8) (by omega) (by omega)).mpr h8)
theorem Rl.wx (h : Rl tc wc M L N K) {w : Int32} (q : 0 ≤ w ∧ w < N 86 0) : ∃ w0, w0 < wc ∧ w0 < 6 ∧ w = nI w0 ∧ w.toNatClampNeg = w0 := by
  obtain ⟨-, -, -, h4, g0, h6⟩ := h.n
  rw [g0] at q
  obtain ⟨t, ht, e⟩ := i_lt wc q.1 q.2 (by omega)
  exact ⟨t, ht, by omega, e, by rw [e, nI_clamp (by omega)]⟩
theorem Rl.tx (h : Rl tc wc M L N K) {t : Int32} (q : 0 ≤ t ∧ t < N 86 1) : ∃ t0, t0 < tc ∧ t0 < 8 ∧ t = nI t0 ∧ t.toNatClampNeg = t0 := by
  obtain ⟨h3, g1, h8, -⟩ := h.n
  rw [g1] at q
  obtain ⟨k, hk, e⟩ := i_lt tc q.1 q.2 (by omega)
  exact ⟨k, hk, by omega, e, by rw [e, nI_clamp (by omega)]⟩
theorem sh_iff (s : Int32) : (0 ≤ s ∧ s ≤ 7) ↔ (0 ≤ s ∧ s < 8) := by
  have e7 : (7 : Int32).toInt = 7 := rfl
  have e8 : (8 : Int32).toInt = 8 := rfl
  rw [Int32.le_iff_toInt_le (x := s) (y := 7), Int32.lt_iff_toInt_lt, e7, e8]
  exact and_congr_right (fun _ => by omega)
end RL
