/-! the moves -/
section AC
variable {num a kdw x ab : Int32} {n : Nat} {M : Nat → Nat → Int32}
theorem ans_10 : ansV num a kdw n 10 ab x M = (x + num, M) := rfl
theorem ans_11 : ansV num a kdw n 11 ab x M = ((runV num a kdw n 0 kdw x M).1 * 2, (runV num a kdw n 0 kdw x M).2) := rfl
theorem ans_12 : ansV num a kdw n 12 ab x M = ((runV num a kdw n 1 kdw x M).1 ^^^ (runV num a kdw n 0 kdw (x - a) (runV num a kdw n 1 kdw x M).2).1, (runV num a kdw n 0 kdw (x - a) (runV num a kdw n 1 kdw x M).2).2) := rfl
theorem ans_20 : ansV num a kdw n 20 ab x M = ((runV num a kdw n 0 ab x M).1 + a, (runV num a kdw n 0 ab x M).2) := rfl
theorem ans_30 : ansV num a kdw n 30 ab x M = ((runV num a kdw n 1 ab x M).1 * 3, (runV num a kdw n 1 ab x M).2) := rfl
theorem ans_40 : ansV num a kdw n 40 ab x M = runV num a kdw n 0 ab (x + 1) M := rfl
theorem ans_50 : ansV num a kdw n 50 ab x M = (-(runV num a kdw n 2 ab x M).1, (runV num a kdw n 2 ab x M).2) := rfl
theorem ans_51 : ansV num a kdw n 51 ab x M = ((runV num a kdw n 0 ab x M).1 - num, (runV num a kdw n 0 ab x M).2) := rfl
theorem ans_60 : ansV num a kdw n 60 ab x M = ((runV num a kdw n 2 ab x M).1 ^^^ 5, (runV num a kdw n 2 ab x M).2) := rfl
theorem ans_70 : ansV num a kdw n 70 ab x M = ((runV num a kdw n 0 ab x M).1 * 2, (runV num a kdw n 0 ab x M).2) := rfl
theorem ans_71 : ansV num a kdw n 71 ab x M = runV num a kdw n 1 ab (x - a) M := rfl
theorem run_b {mv k : Int32} (h b c : Int32) (e1 : nxI 7 mv k = h) (e2 : ¬ h = -1) (e3 : bodyI mv h = b) (e4 : fab h.toNatClampNeg = c) : runV num a kdw (n + 1) mv k x M = ansV num a kdw n b c x (beginM M b) := by
  rw [runV_s, e1, if_neg e2, e3, e4]
/-- waits, by kinds -/
def wvC (k num a x : Int32) (M : Nat → Nat → Int32) : Int32 × (Nat → Nat → Int32) := if k = 1 then (x + num + a, beginM (beginM M 20) 10) else if k = 3 then (x + 1 + num + a, beginM (beginM (beginM M 40) 20) 10) else if k = 4 then (x + num - num, beginM (beginM M 51) 10) else if k = 6 then ((x + num - num) * 2, beginM (beginM (beginM M 70) 51) 10) else (x + num, beginM M 10)
def lvC (k num a x : Int32) (M : Nat → Nat → Int32) : Int32 × (Nat → Nat → Int32) := if k = 6 then ((wvC k num a (x - a) (beginM (beginM M 71) 11)).1 * 2, (wvC k num a (x - a) (beginM (beginM M 71) 11)).2) else if k = 2 then ((wvC k num a x (beginM (beginM M 30) 11)).1 * 2 * 3, (wvC k num a x (beginM (beginM M 30) 11)).2) else if k = 5 then ((wvC k num a x (beginM (beginM M 30) 11)).1 * 2 * 3, (wvC k num a x (beginM (beginM M 30) 11)).2) else ((wvC k num a x (beginM M 11)).1 * 2, (wvC k num a x (beginM M 11)).2)
def zvC (k num a x : Int32) (M : Nat → Nat → Int32) : Int32 × (Nat → Nat → Int32) := ((lvC k num a x M).1 ^^^ (wvC k num a (x - a) (lvC k num a x M).2).1, (wvC k num a (x - a) (lvC k num a x M).2).2)
def svC (k num a x : Int32) (M : Nat → Nat → Int32) : Int32 × (Nat → Nat → Int32) := if k = 4 then (-(zvC k num a x (beginM (beginM M 50) 12)).1, (zvC k num a x (beginM (beginM M 50) 12)).2) else if k = 6 then (-(zvC k num a x (beginM (beginM M 50) 12)).1, (zvC k num a x (beginM (beginM M 50) 12)).2) else if k = 5 then ((zvC k num a x (beginM (beginM M 60) 12)).1 ^^^ 5, (zvC k num a x (beginM (beginM M 60) 12)).2) else zvC k num a x (beginM M 12)
theorem run_w {k : Nat} (hk : k < 7) : runV num a (nI k) (n + 3) 0 (nI k) x M = wvC (nI k) num a x M := by
  rcases (show k = 0 ∨ k = 1 ∨ k = 2 ∨ k = 3 ∨ k = 4 ∨ k = 5 ∨ k = 6 by omega) with rfl | rfl | rfl | rfl | rfl | rfl | rfl
  · rw [run_b (n := n + 2) 0 10 (-1) (by decide) (by decide) (by decide) (by decide), ans_10]; rfl
  · rw [run_b (n := n + 2) 1 20 0 (by decide) (by decide) (by decide) (by decide), ans_20, run_b (n := n + 1) 0 10 (-1) (by decide) (by decide) (by decide) (by decide), ans_10]; rfl
  · rw [run_b (n := n + 2) 0 10 (-1) (by decide) (by decide) (by decide) (by decide), ans_10]; rfl
  · rw [run_b (n := n + 2) 3 40 1 (by decide) (by decide) (by decide) (by decide), ans_40, run_b (n := n + 1) 1 20 0 (by decide) (by decide) (by decide) (by decide), ans_20, run_b (n := n) 0 10 (-1) (by decide) (by decide) (by decide) (by decide), ans_10]; rfl
  · rw [run_b (n := n + 2) 4 51 0 (by decide) (by decide) (by decide) (by decide), ans_51, run_b (n := n + 1) 0 10 (-1) (by decide) (by decide) (by decide) (by decide), ans_10]; rfl
  · rw [run_b (n := n + 2) 0 10 (-1) (by decide) (by decide) (by decide) (by decide), ans_10]; rfl
  · rw [run_b (n := n + 2) 6 70 4 (by decide) (by decide) (by decide) (by decide), ans_70, run_b (n := n + 1) 4 51 0 (by decide) (by decide) (by decide) (by decide), ans_51, run_b (n := n) 0 10 (-1) (by decide) (by decide) (by decide) (by decide), ans_10]; rfl
theorem run_l {k : Nat} (hk : k < 7) : runV num a (nI k) (n + 5) 1 (nI k) x M = lvC (nI k) num a x M := by
  rcases (show k = 0 ∨ k = 1 ∨ k = 2 ∨ k = 3 ∨ k = 4 ∨ k = 5 ∨ k = 6 by omega) with rfl | rfl | rfl | rfl | rfl | rfl | rfl
  · rw [run_b (n := n + 4) 0 11 (-1) (by decide) (by decide) (by decide) (by decide), ans_11, run_w (n := n + 1) hk]; rfl
  · rw [run_b (n := n + 4) 0 11 (-1) (by decide) (by decide) (by decide) (by decide), ans_11, run_w (n := n + 1) hk]; rfl
  · rw [run_b (n := n + 4) 2 30 0 (by decide) (by decide) (by decide) (by decide), ans_30, run_b (n := n + 3) 0 11 (-1) (by decide) (by decide) (by decide) (by decide), ans_11, run_w (n := n) hk]; rfl
  · rw [run_b (n := n + 4) 0 11 (-1) (by decide) (by decide) (by decide) (by decide), ans_11, run_w (n := n + 1) hk]; rfl
  · rw [run_b (n := n + 4) 0 11 (-1) (by decide) (by decide) (by decide) (by decide), ans_11, run_w (n := n + 1) hk]; rfl
  · rw [run_b (n := n + 4) 2 30 0 (by decide) (by decide) (by decide) (by decide), ans_30, run_b (n := n + 3) 0 11 (-1) (by decide) (by decide) (by decide) (by decide), ans_11, run_w (n := n) hk]; rfl
  · rw [run_b (n := n + 4) 6 71 4 (by decide) (by decide) (by decide) (by decide), ans_71, run_b (n := n + 3) 0 11 (-1) (by decide) (by decide) (by decide) (by decide), ans_11, run_w (n := n) hk]; rfl
theorem run_s {k : Nat} (hk : k < 7) : runV num a (nI k) (n + 7) 2 (nI k) x M = svC (nI k) num a x M := by
  rcases (show k = 0 ∨ k = 1 ∨ k = 2 ∨ k = 3 ∨ k = 4 ∨ k = 5 ∨ k = 6 by omega) with rfl | rfl | rfl | rfl | rfl | rfl | rfl
  · rw [run_b (n := n + 6) 0 12 (-1) (by decide) (by decide) (by decide) (by decide), ans_12, run_l (n := n + 1) hk, run_w (n := n + 3) hk]; rfl
  · rw [run_b (n := n + 6) 0 12 (-1) (by decide) (by decide) (by decide) (by decide), ans_12, run_l (n := n + 1) hk, run_w (n := n + 3) hk]; rfl
  · rw [run_b (n := n + 6) 0 12 (-1) (by decide) (by decide) (by decide) (by decide), ans_12, run_l (n := n + 1) hk, run_w (n := n + 3) hk]; rfl
  · rw [run_b (n := n + 6) 0 12 (-1) (by decide) (by decide) (by decide) (by decide), ans_12, run_l (n := n + 1) hk, run_w (n := n + 3) hk]; rfl
  · rw [run_b (n := n + 6) 4 50 0 (by decide) (by decide) (by decide) (by decide), ans_50, run_b (n := n + 5) 0 12 (-1) (by decide) (by decide) (by decide) (by decide), ans_12, run_l (n := n) hk, run_w (n := n + 2) hk]; rfl
  · rw [run_b (n := n + 6) 5 60 2 (by decide) (by decide) (by decide) (by decide), ans_60, run_b (n := n + 5) 0 12 (-1) (by decide) (by decide) (by decide) (by decide), ans_12, run_l (n := n) hk, run_w (n := n + 2) hk]; rfl
  · rw [run_b (n := n + 6) 4 50 0 (by decide) (by decide) (by decide) (by decide), ans_50, run_b (n := n + 5) 0 12 (-1) (by decide) (by decide) (by decide) (by decide), ans_12, run_l (n := n) hk, run_w (n := n + 2) hk]; rfl
end AC
section AD
variable {M N : Nat → Nat → Int32} {K : Nat → Nat → Int64}
/-- the traces are alike, at most n bodies ran -/
def RBn (n : Nat) (M N : Nat → Nat → Int32) : Prop := M 83 1 = N 86 45 ∧ (∃ k, k ≤ n ∧ M 83 1 = nI k) ∧ ∀ i, i < 20 → M 84 i = N 114 i
theorem RBn.b {n : Nat} (h : RBn n M N) (hn : n < 900) (b : Int32) : RBn (n + 1) (beginM M b) (bodyM N b) := by
  obtain ⟨e, ⟨k, hk, ek⟩, ht⟩ := h
  have h1 : beginM M b 83 1 = nI (k + 1) := by
    unfold beginM
    rw [up2_s, ek, nI_1]
  have h2 : bodyM N b 86 45 = nI (k + 1) := by
    unfold bodyM
    rw [up2_s, ← e, ek, nI_1]
  refine ⟨by rw [h1, h2], ⟨k + 1, by omega, h1⟩, fun i hi => ?_⟩
  unfold beginM bodyM
  rw [up2_o _ _ (by omega), up2_o _ _ (by omega), ← e, ek]
  by_cases c : k < 20
  · have c' : nI k < 20 := (nI_lt_iff (b := 20) (by omega) (by omega)).mpr c
    rw [if_pos ⟨nI_pos' (by omega), c'⟩, if_pos c', nI_clamp (by omega), up2_at, up2_at]
    by_cases e2 : i = k
    · rw [if_pos ⟨rfl, e2⟩, if_pos ⟨rfl, e2⟩]
    · rw [if_neg (fun q => e2 q.2), if_neg (fun q => e2 q.2)]
      exact ht i hi
  · have c' : ¬ nI k < 20 := fun q => c ((nI_lt_iff (b := 20) (by omega) (by omega)).mp q)
    rw [if_neg (fun q => c' q.2), if_neg c']
    exact ht i hi
theorem RBn.mono {n m : Nat} (h : RBn n M N) (hm : n ≤ m) : RBn m M N := ⟨h.1, h.2.1.elim fun k q => ⟨k, by omega, q.2⟩, h.2.2⟩
theorem body_o {b : Int32} {a j : Nat} (h : (a ≠ 86 ∧ a ≠ 114) ∨ (a = 86 ∧ j ≠ 45)) : bodyM N b a j = N a j := by
  unfold bodyM
  rw [up2_o _ _ (by omega)]
  split
  · exact up2_o _ _ (by omega)
  · rfl
theorem wait_eq {w x : Int32} {w0 n0 n : Nat} (h : RBn n M N) (hn : n < 800) : (wvC (N 88 w0) w (N 89 w0) x M).1 = (a_X8_waiting N K w x w0 n0).1 ∧ RBn (n + 3) (wvC (N 88 w0) w (N 89 w0) x M).2 (a_X8_waiting N K w x w0 n0).2.1 := by
  unfold wvC a_X8_waiting
  by_cases k1 : N 88 w0 = 1
  · rw [if_pos k1, if_pos k1]; exact ⟨rfl, ((h.b (by omega) _).b (by omega) _).mono (by omega)⟩
  rw [if_neg k1, if_neg k1]
  by_cases k3 : N 88 w0 = 3
  · rw [if_pos k3, if_pos k3]; exact ⟨rfl, (((h.b (by omega) _).b (by omega) _).b (by omega) _)⟩
  rw [if_neg k3, if_neg k3]
  by_cases k4 : N 88 w0 = 4
  · rw [if_pos k4, if_pos k4]; exact ⟨rfl, ((h.b (by omega) _).b (by omega) _).mono (by omega)⟩
  rw [if_neg k4, if_neg k4]
  by_cases k6 : N 88 w0 = 6
  · rw [if_pos k6, if_pos k6]; exact ⟨rfl, (((h.b (by omega) _).b (by omega) _).b (by omega) _)⟩
  rw [if_neg k6, if_neg k6]
  exact ⟨rfl, (h.b (by omega) _).mono (by omega)⟩
theorem wait_eq2 {E : Nat → Nat → Int32} {w x : Int32} {w0 n0 n : Nat} (h : RBn n M E) (hn : n < 800) (e1 : E 88 w0 = N 88 w0) (e2 : E 89 w0 = N 89 w0) : (wvC (N 88 w0) w (N 89 w0) x M).1 = (a_X8_waiting E K w x w0 n0).1 ∧ RBn (n + 3) (wvC (N 88 w0) w (N 89 w0) x M).2 (a_X8_waiting E K w x w0 n0).2.1 := by
  rw [← e1, ← e2]
  exact wait_eq h hn
theorem look_eq {w x : Int32} {w0 n0 n : Nat} (h : RBn n M N) (hn : n < 700) : (lvC (N 88 w0) w (N 89 w0) x M).1 = (a_X8_looking N K w x w0 n0).1 ∧ RBn (n + 5) (lvC (N 88 w0) w (N 89 w0) x M).2 (a_X8_looking N K w x w0 n0).2.1 := by
  have b8 : ∀ {E : Nat → Nat → Int32} {b : Int32}, bodyM E b 88 w0 = E 88 w0 := body_o (by omega)
  have b9 : ∀ {E : Nat → Nat → Int32} {b : Int32}, bodyM E b 89 w0 = E 89 w0 := body_o (by omega)
  unfold lvC a_X8_looking
  by_cases k6 : N 88 w0 = 6
  · rw [if_pos k6, if_pos k6]
    have := wait_eq2 (K := K) (w := w) (x := x - N 89 w0) (w0 := w0) (n0 := n0 + 2) (N := N) ((h.b (by omega) 71).b (by omega) 11) (by omega) (by rw [b8, b8]) (by rw [b9, b9])
    exact ⟨by rw [this.1], this.2⟩
  rw [if_neg k6, if_neg k6]
  by_cases k2 : N 88 w0 = 2
  · rw [if_pos k2, if_pos k2]
    have := wait_eq2 (K := K) (w := w) (x := x) (w0 := w0) (n0 := n0 + 2) (N := N) ((h.b (by omega) 30).b (by omega) 11) (by omega) (by rw [b8, b8]) (by rw [b9, b9])
    exact ⟨by rw [this.1], this.2⟩
  rw [if_neg k2, if_neg k2]
  by_cases k5 : N 88 w0 = 5
  · rw [if_pos k5, if_pos k5]
    have := wait_eq2 (K := K) (w := w) (x := x) (w0 := w0) (n0 := n0 + 2) (N := N) ((h.b (by omega) 30).b (by omega) 11) (by omega) (by rw [b8, b8]) (by rw [b9, b9])
    exact ⟨by rw [this.1], this.2⟩
  rw [if_neg k5, if_neg k5]
  have := wait_eq2 (K := K) (w := w) (x := x) (w0 := w0) (n0 := n0 + 1) (N := N) (h.b (by omega) 11) (by omega) b8 b9
  exact ⟨by rw [this.1], this.2.mono (by omega)⟩
theorem look_x {w x : Int32} {w0 n0 a j : Nat} (h : (a ≠ 86 ∧ a ≠ 114) ∨ (a = 86 ∧ j ≠ 45)) : (a_X8_looking N K w x w0 n0).2.1 a j = N a j := by
  unfold a_X8_looking
  repeat' split
  all_goals (dsimp only; rw [wait_o h, body_o h]; try rw [body_o h])
theorem zv_eq {E : Nat → Nat → Int32} {w x : Int32} {w0 n0 n1 n : Nat} (h : RBn n M E) (hn : n < 600) (e1 : E 88 w0 = N 88 w0) (e2 : E 89 w0 = N 89 w0) :
    (zvC (N 88 w0) w (N 89 w0) x M).1 = (a_X8_looking E K w x w0 n0).1 ^^^ (a_X8_waiting (a_X8_looking E K w x w0 n0).2.1 K w (x - ((a_X8_looking E K w x w0 n0).2.1 89 w0)) w0 n1).1 ∧ RBn (n + 8) (zvC (N 88 w0) w (N 89 w0) x M).2 (a_X8_waiting (a_X8_looking E K w x w0 n0).2.1 K w (x - ((a_X8_looking E K w x w0 n0).2.1 89 w0)) w0 n1).2.1 := by
  have hl := look_eq (K := K) (w := w) (x := x) (w0 := w0) (n0 := n0) h (by omega)
  have l8 : (a_X8_looking E K w x w0 n0).2.1 88 w0 = N 88 w0 := (look_x (by omega)).trans e1
  have l9 : (a_X8_looking E K w x w0 n0).2.1 89 w0 = N 89 w0 := (look_x (by omega)).trans e2
  rw [e1, e2] at hl
  have hw := wait_eq2 (K := K) (w := w) (x := x - N 89 w0) (w0 := w0) (n0 := n1) (N := N) hl.2 (by omega) l8 l9
  rw [l9]
  unfold zvC
  exact ⟨by rw [hl.1, hw.1], hw.2⟩
theorem send_eq {w x : Int32} {w0 n0 n : Nat} (h : RBn n M N) (hn : n < 500) : (svC (N 88 w0) w (N 89 w0) x M).1 = (a_X8_sending N K w x w0 n0).1 ∧ RBn (n + 10) (svC (N 88 w0) w (N 89 w0) x M).2 (a_X8_sending N K w x w0 n0).2.1 := by
  have b8 : ∀ {E : Nat → Nat → Int32} {b : Int32}, bodyM E b 88 w0 = E 88 w0 := body_o (by omega)
  have b9 : ∀ {E : Nat → Nat → Int32} {b : Int32}, bodyM E b 89 w0 = E 89 w0 := body_o (by omega)
  unfold svC a_X8_sending
  by_cases k4 : N 88 w0 = 4
  · rw [if_pos k4, if_pos k4]
    have := zv_eq (K := K) (w := w) (x := x) (w0 := w0) (n0 := n0 + 2) (n1 := n0 + 20) (N := N) ((h.b (by omega) 50).b (by omega) 12) (by omega) (by rw [b8, b8]) (by rw [b9, b9])
    exact ⟨by rw [this.1], this.2⟩
  rw [if_neg k4, if_neg k4]
  by_cases k6 : N 88 w0 = 6
  · rw [if_pos k6, if_pos k6]
    have := zv_eq (K := K) (w := w) (x := x) (w0 := w0) (n0 := n0 + 2) (n1 := n0 + 20) (N := N) ((h.b (by omega) 50).b (by omega) 12) (by omega) (by rw [b8, b8]) (by rw [b9, b9])
    exact ⟨by rw [this.1], this.2⟩
  rw [if_neg k6, if_neg k6]
  by_cases k5 : N 88 w0 = 5
  · rw [if_pos k5, if_pos k5]
    have := zv_eq (K := K) (w := w) (x := x) (w0 := w0) (n0 := n0 + 2) (n1 := n0 + 20) (N := N) ((h.b (by omega) 60).b (by omega) 12) (by omega) (by rw [b8, b8]) (by rw [b9, b9])
    exact ⟨by rw [this.1], this.2⟩
  rw [if_neg k5, if_neg k5]
  have := zv_eq (K := K) (w := w) (x := x) (w0 := w0) (n0 := n0 + 1) (n1 := n0 + 20) (N := N) (h.b (by omega) 12) (by omega) b8 b9
  exact ⟨this.1, this.2.mono (by omega)⟩
theorem send_o {w x : Int32} {w0 n0 a j : Nat} (h : (a ≠ 86 ∧ a ≠ 114) ∨ (a = 86 ∧ j ≠ 45)) : (a_X8_sending N K w x w0 n0).2.1 a j = N a j := by
  unfold a_X8_sending
  repeat' split
  all_goals (dsimp only; rw [wait_o h, look_x h, body_o h]; try rw [body_o h])
/-- only the trace changed -/
theorem Rl.tr {tc wc : Nat} {M N M' N' : Nat → Nat → Int32} {L K : Nat → Nat → Int64} {n : Nat} (r : Rl tc wc M L N K) (hm : ∀ a j, a ≠ 83 → a ≠ 84 → M' a j = M a j) (hn : ∀ a j, ((a ≠ 86 ∧ a ≠ 114) ∨ (a = 86 ∧ j ≠ 45)) → N' a j = N a j) (hB : RBn n M' N') (hk : n < 1000) : Rl tc wc M' L N' K :=
  ⟨r.n.mv (hm _ _ (by omega) (by omega)) (hm _ _ (by omega) (by omega)) (hn _ _ (by omega)) (hn _ _ (by omega)), r.t.mv (fun a j _ _ => hm _ _ (by omega) (by omega)) (fun a j _ _ => hn _ _ (by omega)), r.w.mv (fun a j _ _ => hm _ _ (by omega) (by omega)) (fun a j _ _ => hn _ _ (by omega)), r.s.mv (fun j _ _ => hm _ _ (by omega) (by omega)) (fun j _ _ => hn _ _ (by omega)),
    r.o.mv (fun a j _ _ => hm _ _ (by omega) (by omega)) (hm _ _ (by omega) (by omega)), r.f.mv (hm _ _ (by omega) (by omega)) (hn _ _ (by omega)) (fun j => hm _ _ (by omega) (by omega)) (fun j => hn _ _ (by omega)), r.h.mv (fun a j _ _ => hm _ _ (by omega) (by omega)) (fun a j _ _ => hn _ _ (by omega)),
    ⟨hB.1, hB.2.1.elim fun k q => ⟨k, by omega, q.2⟩, hB.2.2⟩,
    r.i.mv (hm _ _ (by omega) (by omega)) (hn _ _ (by omega)) (fun a j _ _ => hm _ _ (by omega) (by omega)) (fun j => hn _ _ (by omega)), r.c.mv (fun a j _ _ => hn _ _ (by omega)), r.e⟩
theorem e_act {tc wc : Nat} {M N : Nat → Nat → Int32} {L K : Nat → Nat → Int64} (r : Rl tc wc M L N K) (w mv x : Int32) : Ok M L N K (a_X7_act M L w mv x) (a_X8_act N K w mv x wc) := by
  have hB0 : RBn 0 (up2 M 83 1 0) (up2 N 86 45 0) := ⟨by rw [up2_s, up2_s], ⟨0, Nat.le_refl _, up2_s _ _ _ _⟩, fun i hi => by rw [up2_o _ _ (by omega), up2_o _ _ (by omega)]; exact r.b.2.2 i hi⟩
  have key : ∀ (p : Int32 × (Nat → Nat → Int32)) (q : fR) (n : Nat), p.1 = q.1 ∧ RBn n p.2 q.2.1 → n < 1000 → frB (up2 M 83 1 0) p.2 → (∀ a j, ((a ≠ 86 ∧ a ≠ 114) ∨ (a = 86 ∧ j ≠ 45)) → q.2.1 a j = up2 N 86 45 0 a j) → Ok M L N K (p.1, p.2, L) (q.1, q.2.1, K) := by
    intro p q n h hn hm hx
    exact Ok.chg h.1 (r.tr (fun a j h1 h2 => (hm a j h1 h2).trans (up2_o _ _ (by omega))) (fun a j k => (hx a j k).trans (up2_o _ _ (by omega))) h.2 hn) (fun a j k => (hm a j (by omega) (by omega)).trans (up2_o _ _ (by omega))) (fun a j k => (hx a j (by omega)).trans (up2_o _ _ (by omega)))
  have no : Ok M L N K ((0 : Int32), up2 M 83 1 0, L) ((0 : Int32), up2 N 86 45 0, K) := key (0, up2 M 83 1 0) (0, up2 N 86 45 0, K) 0 ⟨rfl, hB0⟩ (by omega) (fun _ _ _ _ => rfl) (fun _ _ _ => rfl)
  unfold a_X7_act a_X8_act
  by_cases h : 0 ≤ w ∧ w < N 86 0
  · rw [if_pos ((r.wc_iff w).mpr h), if_pos h]
    obtain ⟨w0, h0, h6, ew1, ew⟩ := r.wx h
    rw [ew]
    by_cases hq : mv < 0
    · rw [if_neg (show ¬ (0 ≤ mv ∧ mv ≤ 2) from fun k => absurd hq (Int32.not_lt.mpr k.1)), if_pos hq]
      exact no
    rw [if_neg hq]
    by_cases hq1 : mv ≤ 2
    · rw [if_pos (show 0 ≤ mv ∧ mv ≤ 2 from ⟨Int32.not_lt.mp hq, hq1⟩), if_pos hq1]
      obtain ⟨e1, e2, -⟩ := r.wv h6
      have en : M (30 + w0) 0 = w := by rw [(r.w w0 h6).1, ← ew1]
      obtain ⟨k, hk, ek⟩ := i_le 6 (r.wok h6).1.1 (r.wok h6).1.2 (by decide)
      rw [e1, e2, en, ek]
      have f1 : up2 N 86 45 0 88 w0 = nI k := (up2_o _ _ (by omega)).trans ek
      have f2 : up2 N 86 45 0 89 w0 = N 89 w0 := up2_o _ _ (by omega)
      have hfr := frB.run w (N 89 w0) (nI k) 13 mv (nI k) x (up2 M 83 1 0)
      obtain ⟨b, hb, rfl⟩ := i_le 2 (Int32.not_lt.mp hq) hq1 (by decide)
      rcases (show b = 0 ∨ b = 1 ∨ b = 2 by omega) with rfl | rfl | rfl
      · rw [if_pos (show nI 0 = 0 from rfl)]
        refine key _ _ 3 ?_ (by omega) hfr (fun a j q => wait_o q)
        have := wait_eq (K := K) (w := w) (x := x) (w0 := w0) (n0 := 0) hB0 (by omega)
        rw [f1, f2] at this
        rw [show nI 0 = (0 : Int32) from rfl, run_w (n := 10) (by omega)]
        exact this
      · rw [if_neg (show ¬ nI 1 = 0 by decide), if_pos (show nI 1 = 1 from rfl)]
        refine key _ _ 5 ?_ (by omega) hfr (fun a j q => look_x q)
        have := look_eq (K := K) (w := w) (x := x) (w0 := w0) (n0 := 0) hB0 (by omega)
        rw [f1, f2] at this
        rw [show nI 1 = (1 : Int32) from rfl, run_l (n := 8) (by omega)]
        exact this
      · rw [if_neg (show ¬ nI 2 = 0 by decide), if_neg (show ¬ nI 2 = 1 by decide)]
        refine key _ _ 10 ?_ (by omega) hfr (fun a j q => send_o q)
        have := send_eq (K := K) (w := w) (x := x) (w0 := w0) (n0 := 0) hB0 (by omega)
        rw [f1, f2] at this
        rw [show nI 2 = (2 : Int32) from rfl, run_s (n := 6) (by omega)]
        exact this
    · rw [if_neg (show ¬ (0 ≤ mv ∧ mv ≤ 2) from fun k => hq1 k.2), if_neg hq1]
      exact no
  · rw [if_neg (fun q => h ((r.wc_iff w).mp q)), if_neg h]
    exact no
end AD
