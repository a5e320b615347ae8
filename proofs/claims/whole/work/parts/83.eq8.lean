/-! the image -/
section IM
variable {M N X : Nat → Nat → Int32} {L K : Nat → Nat → Int64} {t o f n a j : Nat} {b : Int32}
theorem cy_in (h : f ≤ j) (h2 : j < f + n) : cyM 0 X o t f n t j = X o (j - f) := by
  unfold cyM cfM
  rw [if_pos rfl]
  exact if_pos ⟨rfl, h, h2⟩
theorem cy_out (h : j < f ∨ f + n ≤ j) : cyM 0 X o t f n a j = X a j := by
  unfold cyM cfM
  rw [if_pos rfl]
  exact if_neg (by omega)
theorem cb_in (h : j < n) : cyM 1 X o t f n o j = X t (f + j) := by
  unfold cyM cbM
  rw [if_neg (by decide)]
  exact if_pos ⟨rfl, h⟩
theorem cb_o (h : a ≠ o) : cyM 1 X o t f n a j = X a j := by
  unfold cyM cbM
  rw [if_neg (by decide)]
  exact if_neg (fun q => h q.1)
def cwM (b : Int32) (M : Nat → Nat → Int32) (t : Nat) : Nat → Nat → Int32 := cyM b (cyM b (cyM b (cyM b (cyM b (cyM b (cyM b (cyM b (cyM b (cyM b (cyM b (cyM b M 88 t 0 6) 89 t 6 6) 90 t 12 6) 91 t 18 6) 92 t 24 6) 93 t 30 8) 94 t 38 8) 95 t 46 8) 96 t 54 8) 97 t 62 8) 98 t 70 8) 99 t 78 8
theorem all_sv : (a_X8_all M L t 0).1 = up2 (up2 (up2 (up2 (up2 (up2 (up2 (cwM 0 M t) t 86 (cwM 0 M t 86 0)) t 87 (cwM 0 M t 86 1)) t 88 (cwM 0 M t 86 2)) t 89 (cwM 0 M t 86 3)) t 90 (cwM 0 M t 86 4)) t 91 (cwM 0 M t 86 5)) t 92 (cwM 0 M t 86 6) := by
  unfold a_X8_all cwM
  rw [if_pos rfl]
theorem all_ld : (a_X8_all M L t 1).1 = up2 (up2 (up2 (up2 (up2 (up2 (up2 (cwM 1 M t) 86 0 (cwM 1 M t t 86)) 86 1 (cwM 1 M t t 87)) 86 2 (cwM 1 M t t 88)) 86 3 (cwM 1 M t t 89)) 86 4 (cwM 1 M t t 90)) 86 5 (cwM 1 M t t 91)) 86 6 (cwM 1 M t t 92) := by
  unfold a_X8_all cwM
  rw [if_neg (by decide)]
theorem cw0_o (h : a ≠ t) : cwM 0 M t a j = M a j := by
  unfold cwM
  rw [cy_o h, cy_o h, cy_o h, cy_o h, cy_o h, cy_o h, cy_o h, cy_o h, cy_o h, cy_o h, cy_o h, cy_o h]
theorem cw1_o (h : a < 88 ∨ 99 < a) : cwM 1 M t a j = M a j := by
  unfold cwM
  rw [cb_o (by omega), cb_o (by omega), cb_o (by omega), cb_o (by omega), cb_o (by omega), cb_o (by omega), cb_o (by omega), cb_o (by omega), cb_o (by omega), cb_o (by omega), cb_o (by omega), cb_o (by omega)]
theorem cw0_w {i w : Nat} (ht : 110 < t) (hi : i < 5) (hw : w < 6) : cwM 0 M t t (6 * i + w) = M (88 + i) w := by
  unfold cwM
  have e : ∀ k, 6 * i + w - 6 * i = w := fun _ => by omega
  rcases (show i = 0 ∨ i = 1 ∨ i = 2 ∨ i = 3 ∨ i = 4 by omega) with rfl | rfl | rfl | rfl | rfl
  · repeat rw [cy_out (by omega)]
    rw [cy_in (by omega) (by omega)]
    congr 1; omega
  · repeat rw [cy_out (by omega)]
    rw [cy_in (by omega) (by omega)]
    repeat rw [cy_o (by omega)]
    congr 1; omega
  · repeat rw [cy_out (by omega)]
    rw [cy_in (by omega) (by omega)]
    repeat rw [cy_o (by omega)]
    congr 1; omega
  · repeat rw [cy_out (by omega)]
    rw [cy_in (by omega) (by omega)]
    repeat rw [cy_o (by omega)]
    congr 1; omega
  · repeat rw [cy_out (by omega)]
    rw [cy_in (by omega) (by omega)]
    repeat rw [cy_o (by omega)]
    congr 1; omega
theorem cw0_t {i k : Nat} (ht : 110 < t) (hi : i < 7) (hk : k < 8) : cwM 0 M t t (30 + 8 * i + k) = M (93 + i) k := by
  unfold cwM
  rcases (show i = 0 ∨ i = 1 ∨ i = 2 ∨ i = 3 ∨ i = 4 ∨ i = 5 ∨ i = 6 by omega) with rfl | rfl | rfl | rfl | rfl | rfl | rfl
  · repeat rw [cy_out (by omega)]
    rw [cy_in (by omega) (by omega)]
    repeat rw [cy_o (by omega)]
    congr 1; omega
  · repeat rw [cy_out (by omega)]
    rw [cy_in (by omega) (by omega)]
    repeat rw [cy_o (by omega)]
    congr 1; omega
  · repeat rw [cy_out (by omega)]
    rw [cy_in (by omega) (by omega)]
    repeat rw [cy_o (by omega)]
    congr 1; omega
  · repeat rw [cy_out (by omega)]
    rw [cy_in (by omega) (by omega)]
    repeat rw [cy_o (by omega)]
    congr 1; omega
  · repeat rw [cy_out (by omega)]
    rw [cy_in (by omega) (by omega)]
    repeat rw [cy_o (by omega)]
    congr 1; omega
  · repeat rw [cy_out (by omega)]
    rw [cy_in (by omega) (by omega)]
    repeat rw [cy_o (by omega)]
    congr 1; omega
  · rw [cy_in (by omega) (by omega)]
    repeat rw [cy_o (by omega)]
    congr 1; omega
theorem cw1_w {i w : Nat} (ht : 110 < t) (hi : i < 5) (hw : w < 6) : cwM 1 M t (88 + i) w = M t (6 * i + w) := by
  unfold cwM
  rcases (show i = 0 ∨ i = 1 ∨ i = 2 ∨ i = 3 ∨ i = 4 by omega) with rfl | rfl | rfl | rfl | rfl
  · repeat rw [cb_o (by omega)]
    rw [cb_in hw]
  · repeat rw [cb_o (by omega)]
    rw [cb_in hw]
    repeat rw [cb_o (by omega)]
  · repeat rw [cb_o (by omega)]
    rw [cb_in hw]
    repeat rw [cb_o (by omega)]
  · repeat rw [cb_o (by omega)]
    rw [cb_in hw]
    repeat rw [cb_o (by omega)]
  · repeat rw [cb_o (by omega)]
    rw [cb_in hw]
    repeat rw [cb_o (by omega)]
theorem cw1_t {i k : Nat} (ht : 110 < t) (hi : i < 7) (hk : k < 8) : cwM 1 M t (93 + i) k = M t (30 + 8 * i + k) := by
  unfold cwM
  rcases (show i = 0 ∨ i = 1 ∨ i = 2 ∨ i = 3 ∨ i = 4 ∨ i = 5 ∨ i = 6 by omega) with rfl | rfl | rfl | rfl | rfl | rfl | rfl
  · repeat rw [cb_o (by omega)]
    rw [cb_in hk]
    repeat rw [cb_o (by omega)]
  · repeat rw [cb_o (by omega)]
    rw [cb_in hk]
    repeat rw [cb_o (by omega)]
  · repeat rw [cb_o (by omega)]
    rw [cb_in hk]
    repeat rw [cb_o (by omega)]
  · repeat rw [cb_o (by omega)]
    rw [cb_in hk]
    repeat rw [cb_o (by omega)]
  · repeat rw [cb_o (by omega)]
    rw [cb_in hk]
    repeat rw [cb_o (by omega)]
  · repeat rw [cb_o (by omega)]
    rw [cb_in hk]
    repeat rw [cb_o (by omega)]
  · rw [cb_in hk]
    repeat rw [cb_o (by omega)]
theorem sv_low (h : j < 86) : (a_X8_all M L t 0).1 t j = cwM 0 M t t j := by
  rw [all_sv, up2_o _ _ (by omega), up2_o _ _ (by omega), up2_o _ _ (by omega), up2_o _ _ (by omega), up2_o _ _ (by omega), up2_o _ _ (by omega), up2_o _ _ (by omega)]
theorem sv_num {k : Nat} (ht : 110 < t) (hk : k < 7) : (a_X8_all M L t 0).1 t (86 + k) = M 86 k := by
  rw [all_sv]
  rcases (show k = 0 ∨ k = 1 ∨ k = 2 ∨ k = 3 ∨ k = 4 ∨ k = 5 ∨ k = 6 by omega) with rfl | rfl | rfl | rfl | rfl | rfl | rfl
  all_goals ((repeat rw [up2_o _ _ (by omega)]); rw [up2_s, cw0_o (by omega)])
theorem ld_num {k : Nat} (ht : 110 < t) (hk : k < 7) : (a_X8_all M L t 1).1 86 k = M t (86 + k) := by
  rw [all_ld]
  rcases (show k = 0 ∨ k = 1 ∨ k = 2 ∨ k = 3 ∨ k = 4 ∨ k = 5 ∨ k = 6 by omega) with rfl | rfl | rfl | rfl | rfl | rfl | rfl
  all_goals ((repeat rw [up2_o _ _ (by omega)]); rw [up2_s, cw1_o (by omega)])
theorem ld_cell (h : a ≠ 86 ∨ 6 < j) : (a_X8_all M L t 1).1 a j = cwM 1 M t a j := by
  rw [all_ld, up2_o _ _ (by omega), up2_o _ _ (by omega), up2_o _ _ (by omega), up2_o _ _ (by omega), up2_o _ _ (by omega), up2_o _ _ (by omega), up2_o _ _ (by omega)]
theorem ld_o (h : a < 88 ∨ 99 < a) (h2 : a ≠ 86 ∨ 6 < j) : (a_X8_all M L t 1).1 a j = M a j := by
  rw [ld_cell h2, cw1_o h]
theorem cpG_n {g o j : Nat} (h3 : 3 ≤ j) (h9 : j < 10) : cpG M g o g j = M o j := if_pos ⟨rfl, h3, h9⟩
theorem cpG_t {g o t j : Nat} (ht : t < 8) (hj : j < 7) : cpG M g o (g + 4 + t) j = M (o + 4 + t) j := by
  unfold cpG cpW cpT
  rw [if_neg (by omega), if_neg (by omega), if_pos (by omega)]
  congr 1
  omega
theorem cpG_w {g o w j : Nat} (hw : w < 6) (h1 : 1 ≤ j) (h5 : j < 6) : cpG M g o (g + 12 + w) j = M (o + 12 + w) j := by
  unfold cpG cpW
  rw [if_neg (by omega), if_pos (by omega)]
  congr 1
  omega
theorem cpG_ot {g o a j : Nat} (h : a < g ∨ g + 18 ≤ a) : cpG M g o a j = M a j := by
  unfold cpG cpW cpT
  rw [if_neg (by omega), if_neg (by omega), if_neg (by omega)]
theorem cpG_w0 {g o w : Nat} (hw : w < 6) : cpG M g o (g + 12 + w) 0 = M (g + 12 + w) 0 := by
  unfold cpG cpW cpT
  rw [if_neg (by omega), if_neg (by omega), if_neg (by omega)]
theorem RlO.cp {g o wc : Nat} (h : RlO M o wc) : RlO (cpG M g o) g wc := by
  obtain ⟨h1, h2, h3, h4⟩ := h
  refine ⟨fun t ht => ?_, fun w hw => ?_, ?_, fun w hw h6 => ?_⟩
  · have := h1 t ht
    unfold okT at this ⊢
    rw [cpG_t ht (by omega), cpG_t ht (by omega), cpG_t ht (by omega), cpG_t ht (by omega), cpG_t ht (by omega), cpG_t ht (by omega), cpG_t ht (by omega)]
    exact this
  · have := h2 w hw
    unfold okW at this ⊢
    rw [cpG_w hw (by omega) (by omega), cpG_w hw (by omega) (by omega), cpG_w hw (by omega) (by omega), cpG_w hw (by omega) (by omega), cpG_w hw (by omega) (by omega)]
    exact this
  · rw [cpG_n (by omega) (by omega)]; exact h3
  · rw [cpG_w h6 (by omega) (by omega)]; exact h4 w hw h6
theorem e_image {tc wc : Nat} (r : Rl tc wc M L N K) : Ok M L N K (a_X7_image M L) (a_X8_image N K) := by
  obtain ⟨h3, g1, h8, h4, g0, h6⟩ := r.n
  have hm : ∀ a j, (a < 36 ∨ 54 ≤ a) → (a ≠ 0 ∨ j ≠ 7) → up2 (cpG M 36 18) 0 7 1 a j = M a j := fun a j h1 h2 => by rw [up2_o _ _ (by omega), cpG_ot (by omega)]
  have hn : ∀ a j, a ≠ 112 → (a ≠ 86 ∨ j ≠ 46) → (a_X8_all (up2 N 86 46 1) K 112 0).1 a j = N a j := fun a j h1 h2 => by rw [all_o h1, up2_o _ _ (by omega)]
  have hk : ∀ a j, 36 ≤ a → up2 (cpG M 36 18) 0 7 1 a j = cpG M 36 18 a j := fun a j h1 => up2_o _ _ (by omega)
  unfold a_X7_image a_X8_image
  refine Ok.chg (tc' := tc) (wc' := wc) ?_ ⟨r.n.mv (hm _ _ (by omega) (by omega)) (hm _ _ (by omega) (by omega)) (hn _ _ (by omega) (by omega)) (hn _ _ (by omega) (by omega)),
    r.t.mv (fun a j _ _ => hm _ _ (by omega) (by omega)) (fun a j _ _ => hn _ _ (by omega) (by omega)), r.w.mv (fun a j _ _ => hm _ _ (by omega) (by omega)) (fun a j _ _ => hn _ _ (by omega) (by omega)), r.s.mv (fun j _ _ => hm _ _ (by omega) (by omega)) (fun j _ _ => hn _ _ (by omega) (by omega)),
    r.o.mv (fun a j _ _ => hm _ _ (by omega) (by omega)) (hm _ _ (by omega) (by omega)), r.f.mv (hm _ _ (by omega) (by omega)) (hn _ _ (by omega) (by omega)) (fun j => hm _ _ (by omega) (by omega)) (fun j => hn _ _ (by omega) (by omega)),
    r.h.mv (fun a j _ _ => hm _ _ (by omega) (by omega)) (fun a j _ _ => hn _ _ (by omega) (by omega)), r.b.mv (hm _ _ (by omega) (by omega)) (hn _ _ (by omega) (by omega)) (fun j => hm _ _ (by omega) (by omega)) (fun j => hn _ _ (by omega) (by omega)),
    ⟨?_, fun _ => ⟨tc, wc, h8, h6, ?_, ?_, ?_, ?_, ?_, ?_, ?_, ?_⟩⟩, r.c.mv (fun a j _ _ => hn _ _ (by omega) (by omega)), r.e⟩ (fun a j q => hm a j (by omega) (by omega)) (fun a j q => hn a j (by omega) (by omega))
  · rw [cpG_ot (by omega), h4, all_o (by omega), up2_o _ _ (by omega), g0]
  · rw [up2_s, all_o (by omega), up2_s]
  · rw [hk _ _ (by omega), cpG_n (by omega) (by omega), h3]
  · rw [show 87 = 86 + 1 from rfl, sv_num (by omega) (by omega), up2_o _ _ (by omega), g1]
  · rw [hk _ _ (by omega), cpG_n (by omega) (by omega), h4]
  · rw [show 86 = 86 + 0 from rfl, sv_num (by omega) (by omega), up2_o _ _ (by omega), g0]
  · intro t ht j hj
    rw [hk _ _ (by omega), show 40 + t = 36 + 4 + t from rfl, cpG_t ht hj, sv_low (by omega), cw0_t (by omega) hj ht, up2_o _ _ (by omega)]
    exact r.t t ht j hj
  · intro w hw j h1 h5
    rw [hk _ _ (by omega), show 48 + w = 36 + 12 + w from rfl, cpG_w hw h1 (by omega), sv_low (by omega), cw0_w (by omega) (by omega) hw, up2_o _ _ (by omega), show 88 + (j - 1) = 87 + j by omega]
    exact (r.w w hw).2 j h1 h5
  · intro j h5 h9
    rw [hk _ _ (by omega), cpG_n (by omega) (by omega), show 83 + j = 86 + (j - 3) by omega, sv_num (by omega) (by omega), up2_o _ _ (by omega)]
    exact r.s j h5 h9
  · exact (RlO.cp r.o).mv (fun a j _ _ => hk a j (by omega)) (hk _ _ (by omega))
theorem e_restore {tc wc : Nat} (r : Rl tc wc M L N K) : Ok M L N K (restC M L) (a_X8_restore N K) := by
  unfold restC a_X8_restore
  by_cases h0 : M 0 7 = 0
  · rw [if_pos h0, if_pos (r.i.1 ▸ h0)]
    exact Ok.ref r (by decide) (by decide) rfl
  · rw [if_neg h0, if_neg (fun q => h0 (r.i.1.trans q))]
    obtain ⟨tk, wk, k8, k6, k1, k2, k3, k4, kt, kw, ks, ko⟩ := r.i.2 h0
    have key : ∀ n, n ≤ 8 → (∀ a j, (a < 2 ∨ 10 ≤ a) → rsM (cpG M 18 36) n a j = cpG M 18 36 a j) ∧ (∀ s j, n ≤ s → s < 8 → rsM (cpG M 18 36) n (2 + s) j = M (2 + s) j) ∧ (∀ a j, a ≠ 100 → lp_X8_restore_25 N K n a j = (a_X8_all N K 112 1).1 a j) ∧ (∀ s, n ≤ s → lp_X8_restore_25 N K n 100 s = N 100 s) ∧ (∀ s, s < n → RlH wk (rsM (cpG M 18 36) n (2 + s) 1) (rsM (cpG M 18 36) n (2 + s) 2) (lp_X8_restore_25 N K n 100 s) (N 101 s) (N 102 s) (N 103 s)) := by
      intro n
      induction n with
      | zero => intro _; exact ⟨fun _ _ _ => rfl, fun s j _ _ => cpG_ot (by omega), fun _ _ _ => rfl, fun s _ => ld_o (by omega) (by omega), fun s h => absurd h (by omega)⟩
      | succ n ih =>
        intro hn
        obtain ⟨i1, i2, i3, i4, i5⟩ := ih (by omega)
        have sD : rsM (cpG M 18 36) (n + 1) = rsF (rsM (cpG M 18 36) n) n := by
          unfold rsM
          rw [itF_s]
        have sE : lp_X8_restore_25 N K (n + 1) = (if (lp_X8_restore_25 N K n 100 n) = 2 then (if (lp_X8_restore_25 N K n 103 n) < (lp_X8_restore_25 N K n 86 0) then lp_X8_restore_25 N K n else (up2 (lp_X8_restore_25 N K n) 100 n 0)) else lp_X8_restore_25 N K n) := by
          unfold lp_X8_restore_25
          rw [itF_s]
        have e18 : rsM (cpG M 18 36) n 18 4 = nI wk := by rw [i1 _ _ (by omega), cpG_n (by omega) (by omega), k3]
        have e86 : lp_X8_restore_25 N K n 86 0 = nI wk := by
          rw [i3 _ _ (by omega), ld_num (by omega) (by omega)]
          exact k4
        have e103 : lp_X8_restore_25 N K n 103 n = N 103 n := by rw [i3 _ _ (by omega), ld_o (by omega) (by omega)]
        have hh := r.h n (by omega)
        rw [sD, sE, i4 n (Nat.le_refl _), e103, e86]
        generalize rsM (cpG M 18 36) n = D at i1 i2 i5 e18 ⊢
        generalize lp_X8_restore_25 N K n = E at i3 i4 i5 ⊢
        unfold rsF
        rw [i2 n 1 (Nat.le_refl _) (by omega), e18]
        have same : RlH wk (M (2 + n) 1) (M (2 + n) 2) (N 100 n) (N 101 n) (N 102 n) (N 103 n) → (∀ a j, (a < 2 ∨ 10 ≤ a) → D a j = cpG M 18 36 a j) ∧ (∀ s j, n + 1 ≤ s → s < 8 → D (2 + s) j = M (2 + s) j) ∧ (∀ a j, a ≠ 100 → E a j = (a_X8_all N K 112 1).1 a j) ∧ (∀ s, n + 1 ≤ s → E 100 s = N 100 s) ∧ (∀ s, s < n + 1 → RlH wk (D (2 + s) 1) (D (2 + s) 2) (E 100 s) (N 101 s) (N 102 s) (N 103 s)) := by
          intro hs
          refine ⟨i1, fun s j q1 q2 => i2 s j (by omega) q2, i3, fun s q => i4 s (by omega), fun s hs2 => ?_⟩
          by_cases e : s = n
          · subst e
            rw [i2 _ _ (Nat.le_refl _) (by omega), i2 _ _ (Nat.le_refl _) (by omega), i4 _ (Nat.le_refl _)]
            exact hs
          · exact i5 s (by omega)
        have gone : ∀ (hd : Int32) (E' : Nat → Nat → Int32), hd = 0 → (∀ a j, a ≠ 100 → E' a j = E a j) → (∀ s, s ≠ n → E' 100 s = E 100 s) → E' 100 n = hd → (∀ a j, (a < 2 ∨ 10 ≤ a) → up2 (up2 D (2 + n) 1 (-1)) (2 + n) 2 0 a j = cpG M 18 36 a j) ∧ (∀ s j, n + 1 ≤ s → s < 8 → up2 (up2 D (2 + n) 1 (-1)) (2 + n) 2 0 (2 + s) j = M (2 + s) j) ∧ (∀ a j, a ≠ 100 → E' a j = (a_X8_all N K 112 1).1 a j) ∧ (∀ s, n + 1 ≤ s → E' 100 s = N 100 s) ∧ (∀ s, s < n + 1 → RlH wk (up2 (up2 D (2 + n) 1 (-1)) (2 + n) 2 0 (2 + s) 1) (up2 (up2 D (2 + n) 1 (-1)) (2 + n) 2 0 (2 + s) 2) (E' 100 s) (N 101 s) (N 102 s) (N 103 s)) := by
          intro hd E' e0 f1 f2 f3
          refine ⟨fun a j q => by rw [up2_o _ _ (by omega), up2_o _ _ (by omega)]; exact i1 a j q, fun s j q1 q2 => by rw [up2_o _ _ (by omega), up2_o _ _ (by omega)]; exact i2 s j (by omega) q2, fun a j q => (f1 a j q).trans (i3 a j q), fun s q => (f2 s (by omega)).trans (i4 s (by omega)), fun s hs2 => ?_⟩
          by_cases e : s = n
          · subst e
            rw [up2_o _ _ (by omega), up2_s, up2_s, f3, e0]
            exact ⟨by decide, hh.2.1, Or.inl ⟨rfl, rfl, rfl⟩⟩
          · rw [up2_o _ _ (by omega), up2_o _ _ (by omega), up2_o _ _ (by omega), up2_o _ _ (by omega), f2 s e]
            exact i5 s (by omega)
        obtain ⟨hz, hsi, ⟨e1, e2, e3⟩ | ⟨e1, e2, h1, h2, e3⟩ | ⟨e1, e2, h1, h2, e3⟩⟩ := id hh
        · rw [if_neg (show ¬ 100 ≤ M (2 + n) 1 by rw [e1]; decide), if_neg (show ¬ (0 ≤ M (2 + n) 1 ∧ M (2 + n) 1 < nI wk ∧ M (2 + n) 1 < 6) from fun q => absurd q.1 (by rw [e1]; decide)), if_neg (show ¬ N 100 n = 2 by rw [e2]; decide)]
          exact gone 0 E rfl (fun _ _ _ => rfl) (fun _ _ => rfl) ((i4 n (Nat.le_refl _)).trans e2)
        · rw [if_pos (show 100 ≤ M (2 + n) 1 by rw [e2]; exact h100 h1 h2), if_neg (show ¬ N 100 n = 2 by rw [e1]; decide)]
          exact same ⟨hz, hsi, Or.inr (Or.inl ⟨e1, e2, h1, h2, e3⟩)⟩
        · have hw6 := lt_wc r.h6 h2
          rw [if_neg (lt6_100 hw6), if_pos e1, e2]
          by_cases c : M (2 + n) 1 < nI wk
          · rw [if_pos ⟨h1, c, hw6⟩, if_pos c]
            exact same ⟨hz, hsi, Or.inr (Or.inr ⟨e1, e2, h1, c, e3⟩)⟩
          · rw [if_neg (fun q => c q.2.1), if_neg c]
            exact gone 0 _ rfl (fun a j q => up2_o _ _ (by omega)) (fun s q => up2_o _ _ (by omega)) (up2_s _ _ _ _)
    obtain ⟨i1, -, i3, -, i5⟩ := key 8 (Nat.le_refl _)
    generalize rsM (cpG M 18 36) 8 = D at i1 i5 ⊢
    generalize lp_X8_restore_25 N K 8 = E at i3 i5 ⊢
    have hm : ∀ a j, (a < 2 ∨ 10 ≤ a) → (a < 18 ∨ 36 ≤ a) → D a j = M a j := fun a j h1 h2 => (i1 a j h1).trans (cpG_ot (by omega))
    have hn : ∀ a j, (a < 88 ∨ 100 < a) → (a ≠ 86 ∨ 6 < j) → E a j = N a j := fun a j h1 h2 => (i3 a j (by omega)).trans (ld_o (by omega) h2)
    refine Ok.chg (tc' := tk) (wc' := wk) ?_ ⟨⟨?_, ?_, k8, ?_, ?_, k6⟩, ?_, ?_, ?_, ?_, r.f.mv (hm _ _ (by omega) (by omega)) (hn _ _ (by omega) (by omega)) (fun j => hm _ _ (by omega) (by omega)) (fun j => hn _ _ (by omega) (by omega)), ?_, r.b.mv (hm _ _ (by omega) (by omega)) (hn _ _ (by omega) (by omega)) (fun j => hm _ _ (by omega) (by omega)) (fun j => hn _ _ (by omega) (by omega)),
      r.i.mv (hm _ _ (by omega) (by omega)) (hn _ _ (by omega) (by omega)) (fun a j _ _ => hm _ _ (by omega) (by omega)) (fun j => hn _ _ (by omega) (by omega)), r.c.mv (fun a j _ _ => hn _ _ (by omega) (by omega)), r.e⟩ (fun a j q => hm a j (by omega) (by omega)) (fun a j q => hn a j (by omega) (by omega))
    · rw [i1 _ _ (by omega), cpG_n (by omega) (by omega), k3, i3 _ _ (by omega), ld_num (by omega) (by omega)]
      exact k4.symm
    · rw [i1 _ _ (by omega), cpG_n (by omega) (by omega), k1]
    · rw [i3 _ _ (by omega), ld_num (by omega) (by omega)]
      exact k2
    · rw [i1 _ _ (by omega), cpG_n (by omega) (by omega), k3]
    · rw [i3 _ _ (by omega), ld_num (by omega) (by omega)]
      exact k4
    · intro t ht j hj
      rw [i1 _ _ (by omega), show 22 + t = 18 + 4 + t from rfl, cpG_t ht hj, i3 _ _ (by omega), ld_cell (by omega), cw1_t (by omega) hj ht]
      exact kt t ht j hj
    · intro w hw
      refine ⟨?_, fun j h1 h5 => ?_⟩
      · rw [i1 _ _ (by omega), show 30 + w = 18 + 12 + w from rfl, cpG_w0 hw]
        exact (r.w w hw).1
      · rw [i1 _ _ (by omega), show 30 + w = 18 + 12 + w from rfl, cpG_w hw h1 (by omega), i3 _ _ (by omega), ld_cell (by omega), show 87 + j = 88 + (j - 1) by omega, cw1_w (by omega) (by omega) hw]
        exact kw w hw j h1 h5
    · intro j h5 h9
      rw [i1 _ _ (by omega), cpG_n (by omega) (by omega), i3 _ _ (by omega), ld_num (by omega) (by omega), show 86 + (j - 3) = 83 + j by omega]
      exact ks j h5 h9
    · exact (RlO.cp ko).mv (fun a j _ _ => i1 a j (by omega)) (i1 _ _ (by omega))
    · intro s hs
      have := i5 s hs
      rw [hn 101 s (by omega) (by omega), hn 102 s (by omega) (by omega), hn 103 s (by omega) (by omega)]
      exact this
end IM
