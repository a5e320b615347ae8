/-- the table of the reference: what a waiter costs, how long he holds, the least pay by the number of waiters from the last on -/
def rcF (M : Nat → Nat → Int32) (L : Nat → Nat → Int64) (w n : Nat) : Int32 := a_X8_costs M L (nI w) (nI n) w
def rhF (M : Nat → Nat → Int32) (L : Nat → Nat → Int64) (w : Nat) : Nat := (a_X8_holding M L (nI w) w).toNatClampNeg
def rtI (c row : Nat → Int32) (q n : Nat) : Int32 := itF (fun n iz => if row (q - n) = -1 then iz else if iz = -1 ∨ row (q - n) + c n < iz then row (q - n) + c n else iz) (-1) n
def rtF (M : Nat → Nat → Int32) (L : Nat → Nat → Int64) (wc : Nat) : Nat → Nat → Int32
  | 0, q => if q = 0 then 0 else -1
  | k + 1, q => rtI (rcF M L (wc - (k + 1))) (rtF M L wc k) q (min (q + 1) (rhF M L (wc - (k + 1)) + 1))
theorem rtI_s (c row : Nat → Int32) (q n : Nat) : rtI c row q (n + 1) = if row (q - n) = -1 then rtI c row q n else if rtI c row q n = -1 ∨ row (q - n) + c n < rtI c row q n then row (q - n) + c n else rtI c row q n := by
  unfold rtI
  rw [itF_s]
def frL (M D : Nat → Nat → Int32) : Prop := ∀ a j, a ≠ 113 → D a j = M a j
theorem frL.rf {M : Nat → Nat → Int32} : frL M M := fun _ _ _ => rfl
theorem frL.up {M D : Nat → Nat → Int32} (h : frL M D) {j : Nat} {v : Int32} : frL M (up2 D 113 j v) := fun a i ha => (up2_o _ _ (Or.inl ha)).trans (h a i ha)
section RT
variable {M D : Nat → Nat → Int32} {L : Nat → Nat → Int64} {wc w q q0 : Nat}
theorem rtF_w (h : w + 1 ≤ wc) : rtF M L wc (wc - w) q = rtI (rcF M L w) (rtF M L wc (wc - (w + 1))) q (min (q + 1) (rhF M L w + 1)) := by
  have e : wc - w = wc - (w + 1) + 1 := by omega
  have e2 : wc - (wc - (w + 1) + 1) = w := by omega
  rw [e]
  show rtI (rcF M L (wc - (wc - (w + 1) + 1))) (rtF M L wc (wc - (w + 1))) q (min (q + 1) (rhF M L (wc - (wc - (w + 1) + 1)) + 1)) = _
  rw [e2]
theorem fIx_25 (h : 25 * w + q < 175) : fIx (25 * nI w + nI q) 175 (25 * w + q) := by
  have : 25 * nI w + nI q = nI (25 * w + q) := by
    rw [← nI_add, ← nI_mul]
    rfl
  rw [this]
  exact fIx_nI h (by decide)
theorem fIx_25s {n : Nat} (hn : n ≤ q) (h : 25 * w + q < 175) : fIx (25 * nI w + nI q - nI n) 175 (25 * w + (q - n)) := by
  have : 25 * nI w + nI q - nI n = nI (25 * w + (q - n)) := by
    have e : 25 * nI w + nI q = nI (25 * w + q) := by
      rw [← nI_add, ← nI_mul]
      rfl
    rw [e, pk_sub (by omega)]
    congr 1
    omega
  rw [this]
  exact fIx_nI (by omega) (by decide)
theorem im1 (x : Int32) : x - 1 = x + (-1) := by
  rw [Int32.sub_eq_add_neg]
theorem vm1 {v : Nat} (h : v < 1000) : nI v - 1 < 0 ↔ v = 0 := by
  have e1 : (1 : Int32).toInt = 1 := rfl
  have e0 : (0 : Int32).toInt = 0 := rfl
  rw [Int32.lt_iff_toInt_lt, ti_sub (by rw [nI_toInt (by omega), e1]; omega), nI_toInt (by omega), e1, e0]
  omega
theorem rh_le (w : Nat) : rhF M L w ≤ 24 := by
  have h := hold24 (M := M) (L := L) (w := nI w) (w0 := w)
  unfold rhF
  have h1 := Int32.le_iff_toInt_le.mp h
  have e : (24 : Int32).toInt = 24 := rfl
  have c : (a_X8_holding M L (nI w) w).toNatClampNeg = (a_X8_holding M L (nI w) w).toInt.toNat := rfl
  omega
theorem hold_fr (h : frL M D) : a_X8_holding D L (nI w) w = a_X8_holding M L (nI w) w := by
  unfold a_X8_holding
  rw [h 88 w (by decide), h 91 w (by decide), h 89 w (by decide), h 86 2 (by decide)]
theorem hold_nI (h : frL M D) (h0 : 0 ≤ a_X8_holding M L (nI w) w) : a_X8_holding D L (nI w) w = nI (rhF M L w) := by
  rw [hold_fr h]
  exact n_self h0
theorem cost_fr {n : Nat} (h : frL M D) : a_X8_costs D L (nI w) (nI n) w = rcF M L w n := by
  unfold rcF a_X8_costs
  rw [h 88 w (by decide), h 91 w (by decide), h 89 w (by decide), h 90 w (by decide), h 86 2 (by decide)]
theorem row_sX {b i : Nat} {g : Nat → Int32} {v : Int32} (h : ∀ q, q < i → D 113 (b + q) = g q) (hv : v = g i) : ∀ q, q < i + 1 → up2 D 113 (b + i) v 113 (b + q) = g q := by
  intro q hq
  by_cases e : q = i
  · subst e; rw [up2_s, hv]
  · rw [up2_o _ _ (Or.inr (by omega))]; exact h q (by omega)
theorem tab_0X (h : ∀ q, q ≤ q0 → D 113 (25 * wc + q) = rtF M L wc 0 q) : ∀ w, wc ≤ w → w ≤ wc → ∀ q, q ≤ q0 → D 113 (25 * w + q) = rtF M L wc (wc - w) q := by
  intro w h1 h2 q hq
  obtain rfl : w = wc := by omega
  rw [Nat.sub_self]
  exact h q hq
theorem tab_oX {v : Int32} (h : ∀ w1, w + 1 ≤ w1 → w1 ≤ wc → ∀ q, q ≤ q0 → D 113 (25 * w1 + q) = rtF M L wc (wc - w1) q) (hq : q ≤ 24) : ∀ w1, w + 1 ≤ w1 → w1 ≤ wc → ∀ q1, q1 ≤ q0 → up2 D 113 (25 * w + q) v 113 (25 * w1 + q1) = rtF M L wc (wc - w1) q1 := by
  intro w1 h1 h2 q1 h3
  rw [up2_o _ _ (Or.inr (by omega))]
  exact h w1 h1 h2 q1 h3
theorem tab_nX (h : ∀ w1, w + 1 ≤ w1 → w1 ≤ wc → ∀ q, q ≤ q0 → D 113 (25 * w1 + q) = rtF M L wc (wc - w1) q) (h2 : ∀ q1, q1 < q → D 113 (25 * w + q1) = rtF M L wc (wc - w) q1) (hq : q0 < q) : ∀ w1, w ≤ w1 → w1 ≤ wc → ∀ q, q ≤ q0 → D 113 (25 * w1 + q) = rtF M L wc (wc - w1) q := by
  intro w1 h3 h4 q1 h5
  by_cases e : w1 = w
  · subst e; exact h2 q1 (by omega)
  · exact h w1 (by omega) h4 q1 h5
/-- how many numbers in a row, from 0 on, are bad -/
def cntF (b : Nat → Bool) (n : Nat) : Nat := itF (fun i a => if a = i ∧ b i = true then i + 1 else a) 0 n
variable {b : Nat → Bool} {n i : Nat}
theorem cnt_s : cntF b (n + 1) = if cntF b n = n ∧ b n = true then n + 1 else cntF b n := by
  unfold cntF
  rw [itF_s]
theorem cnt_go (h : cntF b i = i) (hc : b i = true) : cntF b (i + 1) = i + 1 := by rw [cnt_s, if_pos ⟨h, hc⟩]
theorem cnt_K (h : cntF b i = i) (hc : ¬ b i = true) (hn : i ≤ n) : cntF b n = i := by
  induction n with
  | zero =>
    obtain rfl : i = 0 := by omega
    exact h
  | succ n ih =>
    by_cases hi : i = n + 1
    · rw [← hi]; exact h
    · have ih := ih (by omega)
      rw [cnt_s, ih, if_neg]
      rintro ⟨rfl, h2⟩
      exact hc h2
theorem cnt_b {k : Nat} (h : cntF b n = k) : ∀ i, i < k → b i = true := by
  induction n generalizing k with
  | zero =>
    intro i hi
    have : k = 0 := h.symm
    omega
  | succ n ih =>
    rw [cnt_s] at h
    split at h
    · next h1 =>
      intro i hi
      by_cases e : i = n
      · subst e; exact h1.2
      · exact ih h1.1 i (by omega)
    · exact ih h
def badF (M : Nat → Nat → Int32) (L : Nat → Nat → Int64) (wc w q n : Nat) : Bool := decide (rtF M L wc (wc - (w + 1)) (q - n) = -1 ∨ ¬ rcF M L w n + rtF M L wc (wc - (w + 1)) (q - n) = rtF M L wc (wc - w) q)
theorem bad_1 (h : rtF M L wc (wc - (w + 1)) (q - n) = -1) : badF M L wc w q n = true := decide_eq_true (Or.inl h)
theorem bad_2 (h : ¬ rcF M L w n + rtF M L wc (wc - (w + 1)) (q - n) = rtF M L wc (wc - w) q) : badF M L wc w q n = true := decide_eq_true (Or.inr h)
theorem bad_3 (h : ¬ rtF M L wc (wc - (w + 1)) (q - n) = -1) (h2 : rcF M L w n + rtF M L wc (wc - (w + 1)) (q - n) = rtF M L wc (wc - w) q) : ¬ badF M L wc w q n = true := fun h9 => (of_decide_eq_true h9).elim h (fun h9 => h9 h2)
/-- the share of a waiter, what is left ahead of him -/
def fsF (M : Nat → Nat → Int32) (L : Nat → Nat → Int64) (wc w q : Nat) : Nat := cntF (badF M L wc w q) (q + 1)
def lfN (M : Nat → Nat → Int32) (L : Nat → Nat → Int64) (wc q : Nat) : Nat → Nat
  | 0 => q
  | w + 1 => lfN M L wc q w - fsF M L wc w (lfN M L wc q w)
theorem lfN_s : lfN M L wc q (w + 1) = lfN M L wc q w - fsF M L wc w (lfN M L wc q w) := rfl
theorem fs_at (h : cntF (badF M L wc w q) n = n) (hb : ¬ badF M L wc w q n = true) (hn : n ≤ q) : fsF M L wc w q = n := cnt_K h hb (by omega)
theorem rtI_some (c row : Nat → Int32) (q : Nat) : ∀ n, ¬ rtI c row q n = -1 → ∃ m, m < n ∧ ¬ row (q - m) = -1 ∧ rtI c row q n = row (q - m) + c m := by
  intro n
  induction n with
  | zero => intro h; exact absurd rfl h
  | succ n ih =>
    rw [rtI_s]
    intro h
    split at h
    · next h1 =>
      obtain ⟨m, m1, m2, m3⟩ := ih h
      exact ⟨m, by omega, m2, by rw [if_pos h1]; exact m3⟩
    · next h1 =>
      rw [if_neg h1]
      split at h
      · next h2 => exact ⟨n, by omega, h1, by rw [if_pos h2]⟩
      · next h2 =>
        obtain ⟨m, m1, m2, m3⟩ := ih h
        exact ⟨m, by omega, m2, by rw [if_neg h2]; exact m3⟩
theorem rt_good (hw : w + 1 ≤ wc) (h : ¬ rtF M L wc (wc - w) q = -1) : ∃ m, m ≤ q ∧ m ≤ rhF M L w ∧ ¬ badF M L wc w q m = true := by
  have h' := h
  rw [rtF_w hw] at h'
  obtain ⟨m, m1, m2, m3⟩ := rtI_some _ _ _ _ h'
  exact ⟨m, by omega, by omega, bad_3 m2 (by rw [rtF_w hw, m3, Int32.add_comm])⟩
theorem fs_lt (hw : w + 1 ≤ wc) (h : ¬ rtF M L wc (wc - w) q = -1) (hc : cntF (badF M L wc w q) n = n) (hb : badF M L wc w q n = true) : n + 1 ≤ q := by
  obtain ⟨m, m1, -, m2⟩ := rt_good hw h
  have hc2 := cnt_go hc hb
  rcases Nat.lt_or_ge m (n + 1) with k | k
  · exact absurd (cnt_b hc2 m k) m2
  · omega
def qX (M : Nat → Nat → Int32) (t : Nat) : Nat := (M 95 t - M 94 t + 1).toNatClampNeg
theorem qX_at {t : Nat} (h : 0 ≤ M 94 t ∧ M 94 t ≤ M 95 t ∧ M 95 t ≤ 23) : M 95 t - M 94 t + 1 = nI (qX M t) ∧ 1 ≤ qX M t ∧ qX M t ≤ 24 := by
  have h1 := Int32.le_iff_toInt_le.mp h.1
  have h2 := Int32.le_iff_toInt_le.mp h.2.1
  have h3 := Int32.le_iff_toInt_le.mp h.2.2
  have e0 : (0 : Int32).toInt = 0 := rfl
  have e1 : (1 : Int32).toInt = 1 := rfl
  have e23 : (23 : Int32).toInt = 23 := rfl
  have e : (M 95 t - M 94 t + 1).toInt = (M 95 t).toInt - (M 94 t).toInt + 1 := by
    rw [ti_add (by rw [ti_sub (by omega)]; omega), ti_sub (by omega), e1]
  have c : qX M t = (M 95 t - M 94 t + 1).toInt.toNat := rfl
  exact ⟨n_self (Int32.le_iff_toInt_le.mpr (by omega)), by omega, by omega⟩
theorem rt_at0 (h : ∀ w, w ≤ wc → ∀ k, k ≤ q → D 113 (25 * w + k) = rtF M L wc (wc - w) k) : D 113 q = rtF M L wc wc q := by
  have := h 0 (Nat.zero_le _) q (Nat.le_refl _)
  simpa using this
theorem i_rt {i : Int32} (h1 : ¬ i < -1) (h2 : ¬ i = -1) (h3 : i < M 86 0) (hwc : M 86 0 = nI wc) (hw : wc ≤ 6) : ∃ t, t < wc ∧ i = nI t := by
  refine i_lt wc ?_ (hwc ▸ h3) (by omega)
  have e0 : (0 : Int32).toInt = 0 := rfl
  have e1 : (-1 : Int32).toInt = -1 := rfl
  have a1 := Int32.le_iff_toInt_le.mp (Int32.not_lt.mp h1)
  have a2 : ¬ i.toInt = (-1 : Int32).toInt := fun q => h2 (Int32.toInt_inj.mp q)
  rw [Int32.le_iff_toInt_le]
  omega
def rotaX (M : Nat → Nat → Int32) (L : Nat → Nat → Int64) (t i : Int32) (tc wc : Nat) (r : Int32) (u : fM) : Prop :=
  if 0 ≤ t ∧ t < M 86 1 then (if i < -1 ∨ ¬ i < M 86 0 then u = (noM M (-5), L) ∧ r = -5 - 10 else
    u.2 = L ∧ frL M u.1 ∧ r = (if i = -1 ∨ rtF M L wc wc (qX M t.toNatClampNeg) = -1 then rtF M L wc wc (qX M t.toNatClampNeg) else nI (fsF M L wc i.toNatClampNeg (lfN M L wc (qX M t.toNatClampNeg) i.toNatClampNeg))))
  else u = (noM M (-1), L) ∧ r = -1 - 10
end RT
/-! left -/
def lqF (L : Nat → Nat → Int64) (s m : Nat) : Int32 := itF (fun i b => if b = 0 then (if 0 ≤ (L 104 (160 * s + i)).toInt32 ∧ (L 104 (160 * s + i)).toInt32 ≤ 23 then 0 else -6) else b) 0 m
def isF (M : Nat → Nat → Int32) (L : Nat → Nat → Int64) (s t m : Nat) : Int32 := itF (fun i b => if b = 0 then b else bI (decide (M 94 t ≤ (L 104 (160 * s + i)).toInt32 ∧ (L 104 (160 * s + i)).toInt32 ≤ M 95 t))) 1 m
def stF (M : Nat → Nat → Int32) (L : Nat → Nat → Int64) (s m n : Nat) : Int32 := itF (fun t b => if isF M L s t m = 0 then b else b + (1 <<< (nI t &&& 31))) 0 n
def leftB (M : Nat → Nat → Int32) (L : Nat → Nat → Int64) (s1 n : Int32) : Int32 := if a_X8_wanted M L s1 = 0 then (if 0 ≤ n then (if n ≤ M 102 s1.toNatClampNeg then (if n ≤ 40 then lqF L s1.toNatClampNeg n.toNatClampNeg else -6) else -5) else -4) else a_X8_wanted M L s1
def leftR (M : Nat → Nat → Int32) (L : Nat → Nat → Int64) (s1 n : Int32) (tc : Nat) : fR := if leftB M L s1 n = 0 then (stF M L s1.toNatClampNeg n.toNatClampNeg tc, M, L) else (leftB M L s1 n, noM M (leftB M L s1 n), L)
section LE
variable {M : Nat → Nat → Int32} {L : Nat → Nat → Int64} {s1 n : Int32} {s t m i : Nat}
theorem lq_s : lqF L s (i + 1) = if lqF L s i = 0 then (if 0 ≤ (L 104 (160 * s + i)).toInt32 ∧ (L 104 (160 * s + i)).toInt32 ≤ 23 then 0 else -6) else lqF L s i := by
  unfold lqF
  rw [itF_s]
theorem is_s : isF M L s t (i + 1) = if isF M L s t i = 0 then isF M L s t i else bI (decide (M 94 t ≤ (L 104 (160 * s + i)).toInt32 ∧ (L 104 (160 * s + i)).toInt32 ≤ M 95 t)) := by
  unfold isF
  rw [itF_s]
theorem st_s : stF M L s m (t + 1) = if isF M L s t m = 0 then stF M L s m t else stF M L s m t + (1 <<< (nI t &&& 31)) := by
  unfold stF
  rw [itF_s]
theorem lq_stay (h : ¬ lqF L s i = 0) (hi : i ≤ m) : lqF L s m = lqF L s i := by
  induction m with
  | zero =>
    obtain rfl : i = 0 := by omega
    rfl
  | succ m ih =>
    by_cases e : i = m + 1
    · rw [e]
    · have ih := ih (by omega)
      rw [lq_s, ih, if_neg h]
theorem is_stay (h : isF M L s t i = 0) (hi : i ≤ m) : isF M L s t m = isF M L s t i := by
  induction m with
  | zero =>
    obtain rfl : i = 0 := by omega
    rfl
  | succ m ih =>
    by_cases e : i = m + 1
    · rw [e]
    · have ih := ih (by omega)
      rw [is_s, ih, if_pos h]
theorem lq_rg : 0 ≤ -(lqF L s m) ∧ -(lqF L s m) ≤ 7 := by
  induction m with
  | zero =>
    show 0 ≤ -(0 : Int32) ∧ -(0 : Int32) ≤ 7
    decide
  | succ m ih =>
    rw [lq_s]
    split
    · split <;> decide
    · exact ih
theorem leftB_rg : 0 ≤ -(leftB M L s1 n) ∧ -(leftB M L s1 n) ≤ 7 := by
  unfold leftB
  split
  · split
    · split
      · split
        · exact lq_rg
        · decide
      · decide
    · decide
  · exact wd_rg
theorem lB_1 (h : ¬ a_X8_wanted M L s1 = 0) : leftB M L s1 n = a_X8_wanted M L s1 := if_neg h
theorem lB_2 (h : a_X8_wanted M L s1 = 0) (h1 : ¬ 0 ≤ n) : leftB M L s1 n = -4 := by
  unfold leftB
  rw [if_pos h, if_neg h1]
theorem lB_3 (h : a_X8_wanted M L s1 = 0) (h1 : 0 ≤ n) (h2 : ¬ n ≤ M 102 s1.toNatClampNeg) : leftB M L s1 n = -5 := by
  unfold leftB
  rw [if_pos h, if_pos h1, if_neg h2]
theorem lB_4 (h : a_X8_wanted M L s1 = 0) (h1 : 0 ≤ n) (h2 : n ≤ M 102 s1.toNatClampNeg) (h3 : ¬ n ≤ 40) : leftB M L s1 n = -6 := by
  unfold leftB
  rw [if_pos h, if_pos h1, if_pos h2, if_neg h3]
theorem leftB_ok (h : a_X8_wanted M L s1 = 0) (h1 : 0 ≤ n) (h2 : n ≤ M 102 s1.toNatClampNeg) (h3 : n ≤ 40) : leftB M L s1 n = lqF L s1.toNatClampNeg n.toNatClampNeg := by
  unfold leftB
  rw [if_pos h, if_pos h1, if_pos h2, if_pos h3]
theorem leftB_0 (h : leftB M L s1 n = 0) : a_X8_wanted M L s1 = 0 ∧ 0 ≤ n ∧ n ≤ 40 := by
  unfold leftB at h
  split at h
  · next h1 =>
    split at h
    · next h2 =>
      split at h
      · split at h
        · next h4 => exact ⟨h1, h2, h4⟩
        · exact absurd h (by decide)
      · exact absurd h (by decide)
    · exact absurd h (by decide)
  · next h1 => exact absurd h h1
end LE
