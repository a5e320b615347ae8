/-! rotas -/
section RO
variable {tc wc : Nat} {M N : Nat → Nat → Int32} {L K : Nat → Nat → Int64}
theorem cost_rg (r : Rl tc wc M L N K) {w n : Nat} (hw : w < wc) (h6 : w < 6) (hn : n ≤ 24) : ∃ v, v ≤ 500 ∧ rcF N K w n = nI v := by
  obtain ⟨k1, k2, k3, k4, -⟩ := r.wok h6
  obtain ⟨a, ha, ea⟩ := i_le 9 k2.1 k2.2 (by decide)
  obtain ⟨p, hp, ep⟩ := i_le 9 k3.1 k3.2 (by decide)
  obtain ⟨t, ht, et⟩ := i_le 24 k4.1 k4.2 (by decide)
  obtain ⟨h, hh, eh⟩ := i_le 9 r.hop.1 r.hop.2 (by decide)
  have m1 : p * n ≤ 9 * 24 := Nat.mul_le_mul hp hn
  have m2 : p * t ≤ 9 * 24 := Nat.mul_le_mul hp ht
  have m3 : p * (n - a) ≤ 9 * 24 := Nat.mul_le_mul hp (by omega)
  have m4 : h * n ≤ 9 * 24 := Nat.mul_le_mul hh hn
  have q1 : nI p * nI n = nI (p * n) := pk_mul _ _
  have q2 : nI p * nI t = nI (p * t) := pk_mul _ _
  have q4 : nI h * nI n = nI (h * n) := pk_mul _ _
  have q5 : (nI (p * n) + 1) / 2 = nI ((p * n + 1) / 2) := by rw [nI_1]; exact pk_div (d := 2) (by omega) (by omega) (by omega)
  unfold rcF a_X8_costs
  rw [ea, ep, et, eh, q1, q2, q4, q5, nI_add, nI_add, nI_1, Int32.mul_zero]
  have z0 : (0 : Int32) = nI 0 := rfl
  by_cases c0 : nI n = 0
  · rw [if_pos c0]; exact ⟨0, by omega, rfl⟩
  rw [if_neg c0]
  by_cases c1 : nI n ≤ nI a
  · rw [if_pos c1]
    repeat' split
    · exact ⟨_, by omega, rfl⟩
    · exact ⟨_, by omega, rfl⟩
    · exact ⟨_, by omega, rfl⟩
    · exact ⟨_, by omega, rfl⟩
    · exact ⟨0, by omega, rfl⟩
    · exact ⟨_, by omega, rfl⟩
    · rw [z0, nI_add]; exact ⟨_, by omega, rfl⟩
    · exact ⟨_, by omega, rfl⟩
  · have c1' : ¬ n ≤ a := fun q => c1 ((nI_le_iff (by omega) (by omega)).mpr q)
    have q3 : nI p * (nI n - nI a) = nI (p * (n - a)) := by rw [pk_sub (by omega)]; exact pk_mul _ _
    rw [if_neg c1, q3, nI_add]
    repeat' split
    all_goals exact ⟨_, by omega, rfl⟩
/-- the first of the least -/
def amF (f : Nat → Nat) (n : Nat) : Nat := itF (fun i c => if f (i + 1) < f c then i + 1 else c) 0 n
theorem am_s {f : Nat → Nat} {n : Nat} : amF f (n + 1) = if f (n + 1) < f (amF f n) then n + 1 else amF f n := by
  unfold amF
  rw [itF_s]
theorem am_sp (f : Nat → Nat) : ∀ n, amF f n ≤ n ∧ (∀ i, i ≤ n → f (amF f n) ≤ f i) ∧ (∀ i, i < amF f n → f (amF f n) < f i) := by
  intro n
  induction n with
  | zero => 
    refine ⟨Nat.le_refl 0, fun i hi => ?_, fun i hi => absurd hi (Nat.not_lt_zero i)⟩
    obtain rfl : i = 0 := by omega
    exact Nat.le_refl _
  | succ n ih =>
    obtain ⟨i1, i2, i3⟩ := ih
    rw [am_s]
    by_cases c : f (n + 1) < f (amF f n)
    · rw [if_pos c]
      refine ⟨Nat.le_refl _, fun i hi => ?_, fun i hi => ?_⟩
      · by_cases e : i = n + 1
        · rw [e]; exact Nat.le_refl _
        · have := i2 i (by omega); omega
      · have := i2 i (by omega); omega
    · rw [if_neg c]
      refine ⟨by omega, fun i hi => ?_, i3⟩
      by_cases e : i = n + 1
      · rw [e]; omega
      · exact i2 i (by omega)
/-- what class and reference have in their tables: alike, or not to be reached -/
def Vr (j : Nat) (x y : Int32) : Prop := ∃ v, x = nI v ∧ v ≤ 1000000 + 500 * j ∧ ((y = -1 ∧ 1000000 ≤ v) ∨ (y = nI v ∧ v ≤ 500 * j))
theorem nI_neg1' {t : Nat} (h : t < 2000000) : ¬ nI t = -1 := by
  intro q
  have := congrArg Int32.toInt q
  rw [nI_toInt (by omega)] at this
  have e : (-1 : Int32).toInt = -1 := rfl
  omega
theorem tab_step {j q h : Nat} {wg c : Nat → Int32} {rc rr : Nat → Int32} (hj : j ≤ 6) (hq : q ≤ 24) (hw : ∀ i, i ≤ q → wg i = c i ∧ ∃ v, v ≤ 500 ∧ c i = nI v) (hr : ∀ i, i ≤ q → Vr j (rc i) (rr i)) :
    Vr (j + 1) (wg (fbI wg rc h q) + rc (q - fbI wg rc h q)) (rtI c rr q (min (q + 1) (h + 1))) ∧
    (¬ rtI c rr q (min (q + 1) (h + 1)) = -1 → ¬ rr (q - fbI wg rc h q) = -1 ∧ c (fbI wg rc h q) + rr (q - fbI wg rc h q) = rtI c rr q (min (q + 1) (h + 1)) ∧ ∀ i, i < fbI wg rc h q → (rr (q - i) = -1 ∨ ¬ c i + rr (q - i) = rtI c rr q (min (q + 1) (h + 1)))) := by
  have hf : ∀ i, i ≤ q → ∃ a b, a ≤ 500 ∧ b ≤ 1000000 + 500 * j ∧ wg i = nI a ∧ c i = nI a ∧ rc (q - i) = nI b ∧ ((rr (q - i) = -1 ∧ 1000000 ≤ b) ∨ (rr (q - i) = nI b ∧ b ≤ 500 * j)) := by
    intro i hi
    obtain ⟨e, a, ha, ea⟩ := hw i hi
    obtain ⟨b, eb, hb, hc⟩ := hr (q - i) (by omega)
    exact ⟨a, b, ha, hb, by rw [e, ea], ea, eb, hc⟩
  let f : Nat → Nat := fun i => (wg i + rc (q - i)).toNatClampNeg
  have ff : ∀ i, i ≤ q → ∃ a b, a ≤ 500 ∧ b ≤ 1000000 + 500 * j ∧ wg i = nI a ∧ c i = nI a ∧ rc (q - i) = nI b ∧ ((rr (q - i) = -1 ∧ 1000000 ≤ b) ∨ (rr (q - i) = nI b ∧ b ≤ 500 * j)) ∧ f i = a + b ∧ wg i + rc (q - i) = nI (a + b) := by
    intro i hi
    obtain ⟨a, b, h1, h2, h3, h4, h5, h6⟩ := hf i hi
    have e : wg i + rc (q - i) = nI (a + b) := by rw [h3, h5, nI_add]
    refine ⟨a, b, h1, h2, h3, h4, h5, h6, ?_, e⟩
    show (wg i + rc (q - i)).toNatClampNeg = a + b
    rw [e, nI_clamp (by omega)]
  have hfb : ∀ n, n ≤ q → itF (fun i c => if wg (i + 1) + rc (q - (i + 1)) < wg c + rc (q - c) then i + 1 else c) 0 n = amF f n := by
    intro n
    induction n with
    | zero => intro _; rfl
    | succ n ih =>
      intro hn
      rw [itF_s, ih (by omega), am_s]
      have hle := (am_sp f n).1
      obtain ⟨a, b, a1, b1, -, -, -, -, e1, e2⟩ := ff (n + 1) hn
      obtain ⟨a', b', a1', b1', -, -, -, -, e1', e2'⟩ := ff (amF f n) (by omega)
      rw [e2, e2', e1, e1']
      by_cases z : a + b < a' + b'
      · rw [if_pos z, if_pos ((nI_lt_iff (by omega) (by omega)).mpr z)]
      · rw [if_neg z, if_neg (fun k => z ((nI_lt_iff (by omega) (by omega)).mp k))]
  have hrt : ∀ n, n ≤ q → rtI c rr q (n + 1) = if 1000000 ≤ f (amF f n) then -1 else nI (f (amF f n)) := by
    intro n
    induction n with
    | zero =>
      intro _
      obtain ⟨a, b, a1, b1, -, e4, -, e6, e7, -⟩ := ff 0 (by omega)
      have er : rtI c rr q 0 = -1 := rfl
      have ea : amF f 0 = 0 := rfl
      rw [rtI_s, er, ea, e7]
      rcases e6 with ⟨z, y⟩ | ⟨z, y⟩
      · rw [if_pos z, if_pos (by omega)]
      · rw [if_neg (by rw [z]; exact nI_neg1' (by omega)), if_pos (Or.inl rfl), if_neg (by omega), z, e4, nI_add]
        congr 1
        omega
    | succ n ih =>
      intro hn
      have hle := (am_sp f n).1
      obtain ⟨a, b, a1, b1, -, e4, -, e6, e7, -⟩ := ff (n + 1) hn
      obtain ⟨a', b', a1', b1', -, e4', -, e6', e7', -⟩ := ff (amF f n) (by omega)
      rw [rtI_s, ih (by omega), am_s, e7, e7']
      rcases e6 with ⟨z, y⟩ | ⟨z, y⟩
      · rw [if_pos z]
        by_cases k : a + b < a' + b'
        · rw [if_pos k, e7, if_pos (by omega), if_pos (by omega)]
        · rw [if_neg k, e7']
      · rw [if_neg (by rw [z]; exact nI_neg1' (by omega)), z, e4, nI_add, Nat.add_comm b a]
        by_cases k1 : 1000000 ≤ a' + b'
        · rw [if_pos k1, if_pos (Or.inl rfl), if_pos (show a + b < a' + b' by omega), e7, if_neg (by omega)]
        · rw [if_neg k1]
          by_cases k : a + b < a' + b'
          · rw [if_pos (Or.inr ((nI_lt_iff (by omega) (by omega)).mpr k)), if_pos k, e7, if_neg (by omega)]
          · rw [if_neg (fun y => y.elim (nI_neg1' (by omega)) (fun y => k ((nI_lt_iff (by omega) (by omega)).mp y))), if_neg k, e7', if_neg k1]
  have em : min (q + 1) (h + 1) = min q h + 1 := by omega
  have hm : min q h ≤ q := Nat.min_le_left _ _
  rw [em, hrt _ hm]
  have efb : fbI wg rc h q = amF f (min q h) := hfb _ hm
  rw [efb]
  obtain ⟨s1, s2, s3⟩ := am_sp f (min q h)
  obtain ⟨a, b, a1, b1, -, e4, -, e6, e7, e8⟩ := ff (amF f (min q h)) (by omega)
  refine ⟨⟨a + b, e8, by omega, ?_⟩, fun hne => ?_⟩
  · rw [e7]
    rcases e6 with ⟨z, y⟩ | ⟨z, y⟩
    · left; rw [if_pos (by omega)]; exact ⟨rfl, by omega⟩
    · right; rw [if_neg (by omega)]; exact ⟨rfl, by omega⟩
  · rcases e6 with ⟨z, y⟩ | ⟨z, y⟩
    · rw [e7, if_pos (by omega)] at hne; exact absurd rfl hne
    · refine ⟨by rw [z]; exact nI_neg1' (by omega), ?_, fun i hi => ?_⟩
      · rw [e7, if_neg (by omega), z, e4, nI_add]
      · obtain ⟨a', b', a1', b1', -, e4', -, e6', e7', -⟩ := ff i (by omega)
        have := s3 i hi
        rcases e6' with ⟨z', y'⟩ | ⟨z', y'⟩
        · exact Or.inl z'
        · right
          rw [e7, if_neg (by omega), z', e4', nI_add, nI_eq (by omega) (by omega)]
          omega
theorem fs_first {b : Nat → Bool} {c n : Nat} (h : ∀ i, i < c → b i = true) (hc : ¬ b c = true) (hn : c ≤ n) : cntF b n = c := by
  have : ∀ k, k ≤ c → cntF b k = k := by
    intro k
    induction k with
    | zero => intro _; rfl
    | succ k ih => intro hk; exact cnt_go (ih (by omega)) (h k (by omega))
  exact cnt_K (this c (Nat.le_refl _)) hc hn
theorem rota_tab (r : Rl tc wc M L N K) : ∀ j, j ≤ wc → (∀ q, q ≤ 24 → Vr j (tabI (wgM M 18) (hdM M 18) wc j q) (rtF N K wc j q)) := by
  have h6 := r.h6
  intro j
  induction j with
  | zero =>
    intro _ q hq
    show Vr 0 (if q = 0 then 0 else 1000000) (if q = 0 then 0 else -1)
    by_cases z : q = 0
    · rw [if_pos z, if_pos z]
      exact ⟨0, rfl, by omega, Or.inr ⟨rfl, by omega⟩⟩
    · rw [if_neg z, if_neg z]
      exact ⟨1000000, rfl, by omega, Or.inl ⟨rfl, by omega⟩⟩
  | succ j ih =>
    intro hj q hq
    have ew : ∀ i, i ≤ q → wgM M 18 (wc - (j + 1)) i = rcF N K (wc - (j + 1)) i ∧ ∃ v, v ≤ 500 ∧ rcF N K (wc - (j + 1)) i = nI v := by
      intro i hi
      exact ⟨wage_eq r (show wc - (j + 1) < wc by omega) (by omega) (x := nI (wc - (j + 1))) ⟨nI_pos' (by omega), (nI_le_iff (b := 24) (by omega) (by omega)).mpr (by omega)⟩, cost_rg r (by omega) (by omega) (by omega)⟩
    have eh : hdM M 18 (wc - (j + 1)) = rhF N K (wc - (j + 1)) := by
      unfold hdM rhF
      rw [show 18 + 12 + (wc - (j + 1)) = 30 + (wc - (j + 1)) from rfl, hold_eq r (by omega) (x := nI (wc - (j + 1)))]
    have := (tab_step (h := rhF N K (wc - (j + 1))) (by omega) hq ew (fun i hi => ih (by omega) i (by omega))).1
    show Vr (j + 1) (wgM M 18 (wc - (j + 1)) (fbI (wgM M 18 (wc - (j + 1))) (tabI (wgM M 18) (hdM M 18) wc j) (hdM M 18 (wc - (j + 1))) q) + tabI (wgM M 18) (hdM M 18) wc j (q - fbI (wgM M 18 (wc - (j + 1))) (tabI (wgM M 18) (hdM M 18) wc j) (hdM M 18 (wc - (j + 1))) q)) (rtI (rcF N K (wc - (j + 1))) (rtF N K wc j) q (min (q + 1) (rhF N K (wc - (j + 1)) + 1)))
    rw [eh]
    exact this
/-- the share of a waiter is the same -/
theorem share_eq (r : Rl tc wc M L N K) {w q : Nat} (hw : w < wc) (hq : q ≤ 24) (h : ¬ rtF N K wc (wc - w) q = -1) : fbI (wgM M 18 w) (tabI (wgM M 18) (hdM M 18) wc (wc - (w + 1))) (hdM M 18 w) q = fsF N K wc w q ∧ fsF N K wc w q ≤ q ∧ ¬ rtF N K wc (wc - (w + 1)) (q - fsF N K wc w q) = -1 := by
  have h6 := r.h6
  have ew : ∀ i, i ≤ q → wgM M 18 w i = rcF N K w i ∧ ∃ v, v ≤ 500 ∧ rcF N K w i = nI v := by
    intro i hi
    exact ⟨wage_eq r hw (by omega) (x := nI w) ⟨nI_pos' (by omega), (nI_le_iff (b := 24) (by omega) (by omega)).mpr (by omega)⟩, cost_rg r (by omega) (by omega) (by omega)⟩
  have eh : hdM M 18 w = rhF N K w := by
    unfold hdM rhF
    rw [show 18 + 12 + w = 30 + w from rfl, hold_eq r (by omega) (x := nI w)]
  have hs := (tab_step (h := rhF N K w) (rc := tabI (wgM M 18) (hdM M 18) wc (wc - (w + 1))) (rr := rtF N K wc (wc - (w + 1))) (show wc - (w + 1) ≤ 6 by omega) hq ew (fun i hi => rota_tab r _ (by omega) i (by omega))).2
  rw [← rtF_w (by omega)] at hs
  obtain ⟨s1, s2, s3⟩ := hs h
  have hle := fbI_le (wgM M 18 w) (tabI (wgM M 18) (hdM M 18) wc (wc - (w + 1))) (rhF N K w) q
  have hle2 : fbI (wgM M 18 w) (tabI (wgM M 18) (hdM M 18) wc (wc - (w + 1))) (rhF N K w) q ≤ q := Nat.le_trans hle (Nat.min_le_left _ _)
  have e : fsF N K wc w q = fbI (wgM M 18 w) (tabI (wgM M 18) (hdM M 18) wc (wc - (w + 1))) (rhF N K w) q :=
    fs_first (fun i hi => (s3 i hi).elim bad_1 bad_2) (bad_3 s1 s2) (by omega)
  rw [eh, e]
  exact ⟨rfl, hle2, s1⟩
theorem e_rota (r : Rl tc wc M L N K) {t i x y : Int32} {u v : fM} (h1 : rotaR M L wc t i x u) (h2 : rotaX N K t i tc wc y v) : Ok M L N K (x, u) (y, v) := by
  have h6 := r.h6
  unfold rotaR at h1
  unfold rotaX at h2
  by_cases h : 0 ≤ t ∧ t < N 86 1
  · rw [if_pos ((r.tc_iff t).mpr h)] at h1
    rw [if_pos h] at h2
    obtain ⟨t0, -, h8, -, et⟩ := r.tx h
    have hi : (i = -1 ∨ (0 ≤ i ∧ i < M 18 4 ∧ i < 6)) ↔ ¬ (i < -1 ∨ ¬ i < N 86 0) := by
      have e0 : (0 : Int32).toInt = 0 := rfl
      have e1 : (-1 : Int32).toInt = -1 := rfl
      rw [r.wc_iff]
      constructor
      · rintro (z | z)
        · rw [z]
          rintro (k | k)
          · exact absurd k (by decide)
          · refine k ?_
            rw [r.n.2.2.2.2.1, Int32.lt_iff_toInt_lt, nI_toInt (by omega)]
            omega
        · rintro (k | k)
          · have a1 := Int32.le_iff_toInt_le.mp z.1
            have a2 := Int32.lt_iff_toInt_lt.mp k
            omega
          · exact k z.2
      · intro k
        have k1 : ¬ i < -1 := fun z => k (Or.inl z)
        have k2 : i < N 86 0 := Decidable.not_not.mp (fun z => k (Or.inr z))
        by_cases z : i = -1
        · exact Or.inl z
        · right
          have a1 := Int32.le_iff_toInt_le.mp (Int32.not_lt.mp k1)
          have a2 : ¬ i.toInt = (-1 : Int32).toInt := fun j => z (Int32.toInt_inj.mp j)
          exact ⟨by rw [Int32.le_iff_toInt_le]; omega, k2⟩
    by_cases hc : i < -1 ∨ ¬ i < N 86 0
    · rw [if_pos hc] at h2
      rw [if_neg (fun k => (hi.mp k) hc)] at h1
      obtain ⟨rfl, rfl⟩ := h1
      obtain ⟨rfl, rfl⟩ := h2
      exact Ok.ref r (by decide) (by decide) rfl
    · rw [if_neg hc] at h2
      have hi2 := hi.mpr hc
      rw [if_pos hi2] at h1
      obtain ⟨M1, rfl, hfr, -, htab, hx⟩ := h1
      obtain ⟨hv, hfl, hy⟩ := h2
      obtain ⟨e0, e1, e2, -⟩ := r.tv h8
      have eq : qnN M t = qX N t.toNatClampNeg := by
        unfold qnN qX
        rw [et, e1, e2]
      have hq := (qX_at (M := N) (t := t.toNatClampNeg) (by rw [et]; exact (r.tok h8).2.1)).2
      rw [eq] at htab hx
      generalize qX N t.toNatClampNeg = Q at hq htab hx hy
      have h0 := htab wc (Nat.le_refl _) Q (Nat.le_refl _)
      rw [Nat.sub_self, Nat.add_zero] at h0
      obtain ⟨z, ez, hz, hzc⟩ := rota_tab r wc (Nat.le_refl _) Q hq.2
      have elst : (if (1000000 : Int32) ≤ M1 76 Q then -1 else M1 76 Q) = rtF N K wc wc Q := by
        rw [h0, ez]
        rcases hzc with ⟨y1, y2⟩ | ⟨y1, y2⟩
        · rw [y1, if_pos (show (1000000 : Int32) ≤ nI z from (nI_le_iff (a := 1000000) (by omega) (by omega)).mpr y2)]
        · rw [y1, if_neg (show ¬ (1000000 : Int32) ≤ nI z from fun k => by
            have := (nI_le_iff (a := 1000000) (by omega) (by omega)).mp k
            omega)]
      rw [elst] at hx
      have ev : v = (v.1, K) := by rw [← hv]
      rw [ev]
      refine Ok.scr r ?_ (fun a j k => hfr a j (by unfold scC at k; omega) (by unfold scC at k; omega)) (fun a j k => hfl a j (by unfold scX at k; omega))
      rw [hx, hy]
      by_cases zi : i = -1
      · rw [if_pos zi, if_pos (Or.inl zi)]
      · rw [if_neg zi]
        by_cases zr : rtF N K wc wc Q = -1
        · rw [if_pos zr, if_pos (Or.inr zr)]
          exact zr.symm
        · rw [if_neg zr, if_neg (fun k => k.elim zi zr)]
          obtain ⟨i0, hi0, hi6, -, ei⟩ := r.wx ((r.wc_iff i).mp (hi2.resolve_left zi))
          rw [ei]
          have fbe : ∀ w q, w < wc → q ≤ Q → fbM M1 18 w q = fbI (wgM M 18 w) (tabI (wgM M 18) (hdM M 18) wc (wc - (w + 1))) (hdM M 18 w) q := by
            intro w q hw hqq
            unfold fbM
            have a1 : wgM M1 18 w = wgM M 18 w := by
              funext n
              unfold wgM
              rw [hfr (18 + 12 + w) 1 (by omega) (by omega), hfr (18 + 12 + w) 2 (by omega) (by omega), hfr (18 + 12 + w) 3 (by omega) (by omega), hfr (18 + 12 + w) 4 (by omega) (by omega), hfr 18 5 (by omega) (by omega)]
            have a2 : hdM M1 18 w = hdM M 18 w := by
              unfold hdM
              rw [hfr (18 + 12 + w) 1 (by omega) (by omega), hfr (18 + 12 + w) 2 (by omega) (by omega), hfr (18 + 12 + w) 4 (by omega) (by omega), hfr 18 5 (by omega) (by omega)]
            rw [a1, a2]
            refine fbI_congr (fun k hk => ?_)
            have := htab (wc - (w + 1)) (by omega) k (by omega)
            rw [show wc - (wc - (w + 1)) = w + 1 by omega] at this
            exact this
          have key : ∀ w, w ≤ i0 → (shI (fbM M1 18) Q w).1 = lfN N K wc Q w ∧ lfN N K wc Q w ≤ Q ∧ ¬ rtF N K wc (wc - w) (lfN N K wc Q w) = -1 := by
            intro w
            induction w with
            | zero => intro _; exact ⟨rfl, Nat.le_refl _, zr⟩
            | succ w ih =>
              intro hw
              obtain ⟨b1, b2, b3⟩ := ih (by omega)
              obtain ⟨c1, c2, c3⟩ := share_eq r (show w < wc by omega) (show lfN N K wc Q w ≤ 24 by omega) b3
              have s : (shI (fbM M1 18) Q (w + 1)).1 = (shI (fbM M1 18) Q w).1 - fbM M1 18 w (shI (fbM M1 18) Q w).1 := by
                unfold shI
                rw [itF_s]
              rw [s, b1, fbe w _ (by omega) b2, c1, lfN_s]
              exact ⟨rfl, by omega, c3⟩
          obtain ⟨b1, b2, b3⟩ := key i0 (Nat.le_refl _)
          obtain ⟨c1, -, -⟩ := share_eq r hi0 (show lfN N K wc Q i0 ≤ 24 by omega) b3
          have s : (shI (fbM M1 18) Q (i0 + 1)).2 = fbM M1 18 i0 (shI (fbM M1 18) Q i0).1 := by
            unfold shI
            rw [itF_s]
          rw [s, b1, fbe i0 _ hi0 b2, c1]
  · rw [if_neg (fun q => h ((r.tc_iff t).mp q))] at h1
    rw [if_neg h] at h2
    obtain ⟨rfl, rfl⟩ := h1
    obtain ⟨rfl, rfl⟩ := h2
    exact Ok.ref r (by decide) (by decide) rfl
end RO
