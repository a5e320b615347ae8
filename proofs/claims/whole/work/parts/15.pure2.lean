theorem nI_sub {a b : Nat} (h : b ≤ a) : nI a - nI b = nI (a - b) := by
  have e : nI a = nI (a - b) + nI b := by rw [nI_add]; congr 1; omega
  rw [e]
  apply Int32.toInt_inj.mp
  rw [Int32.toInt_sub, Int32.toInt_add]
  simp
/-! the rota: the class's table -/
def fbI (wg row : Nat → Int32) (h q : Nat) : Nat := itF (fun i c => if wg (i + 1) + row (q - (i + 1)) < wg c + row (q - c) then i + 1 else c) 0 (min q h)
theorem fbI_le (wg row : Nat → Int32) (h q : Nat) : fbI wg row h q ≤ min q h := by
  unfold fbI
  have key : ∀ n, itF (fun i c => if wg (i + 1) + row (q - (i + 1)) < wg c + row (q - c) then i + 1 else c) 0 n ≤ n := by
    intro n
    induction n with
    | zero => exact Nat.le_refl _
    | succ n ih =>
      rw [itF_s]
      split
      · omega
      · omega
  exact key _
def tabI (wg : Nat → Nat → Int32) (hd : Nat → Nat) (wc : Nat) : Nat → Nat → Int32
  | 0, q => if q = 0 then 0 else 1000000
  | j + 1, q => wg (wc - (j + 1)) (fbI (wg (wc - (j + 1))) (tabI wg hd wc j) (hd (wc - (j + 1))) q) + tabI wg hd wc j (q - fbI (wg (wc - (j + 1))) (tabI wg hd wc j) (hd (wc - (j + 1))) q)
def shI (fb : Nat → Nat → Nat) (n k : Nat) : Nat × Nat := itF (fun w p => (p.1 - fb w p.1, fb w p.1)) (n, 0) k
/-- what a waiter of the guild at g costs, how long he holds -/
def wgM (M : Nat → Nat → Int32) (g w n : Nat) : Int32 := wageF (M (g + 12 + w) 1) (M (g + 12 + w) 2) (M (g + 12 + w) 3) (M (g + 12 + w) 4) (M g 5) (nI n)
def hdM (M : Nat → Nat → Int32) (g w : Nat) : Nat := (holdF (M (g + 12 + w) 1) (M (g + 12 + w) 2) (M (g + 12 + w) 4) (M g 5)).toNatClampNeg
def rowM (M : Nat → Nat → Int32) (w : Nat) : Nat → Int32 := fun q => M (76 + w) q
def fbM (M : Nat → Nat → Int32) (g w q : Nat) : Nat := fbI (wgM M g w) (rowM M (w + 1)) (hdM M g w) q
/-- all but the rota's rows and its number of quarters -/
def frR (M M1 : Nat → Nat → Int32) : Prop := ∀ a j, (a < 76 ∨ 83 ≤ a) → a ≠ 74 → M1 a j = M a j
theorem frR.up {M M1 : Nat → Nat → Int32} (h : frR M M1) {k q : Nat} {v : Int32} (hk : 76 ≤ k ∧ k < 83) : frR M (up2 M1 k q v) := fun a j h1 h2 => by
  rw [up2_o _ _ (Or.inl (by omega))]
  exact h a j h1 h2
theorem frR.fb {M M1 : Nat → Nat → Int32} (h : frR M M1) {g w q : Nat} (hg : fGd g) (hw : w < 6) : fbM M1 g w q = fbI (wgM M g w) (rowM M1 (w + 1)) (hdM M g w) q := by
  unfold fGd at hg
  have e1 : ∀ j, M1 (g + 12 + w) j = M (g + 12 + w) j := fun j => h _ _ (by omega) (by omega)
  have e2 : ∀ j, M1 g j = M g j := fun j => h _ _ (by omega) (by omega)
  unfold fbM
  rw [show wgM M1 g w = wgM M g w from by funext n; unfold wgM; simp only [e1, e2], show hdM M1 g w = hdM M g w from by unfold hdM; simp only [e1, e2]]
theorem frR.wg {M M1 : Nat → Nat → Int32} (h : frR M M1) {g w n : Nat} (hg : fGd g) (hw : w < 6) : wgM M1 g w n = wgM M g w n := by
  unfold fGd at hg
  unfold wgM
  simp only [h (g + 12 + w) _ (by omega) (by omega), h g _ (by omega) (by omega)]
theorem fbI_congr {wg r1 r2 : Nat → Int32} {h q : Nat} (e : ∀ i, i ≤ q → r1 i = r2 i) : fbI wg r1 h q = fbI wg r2 h q := by
  unfold fbI
  exact itF_congr _ (fun t ht b => by rw [e _ (by omega), e _ (by omega)])
/-! the moves of the class -/
def bodyI (mv k : Int32) : Int32 := if 0 ≤ mv * 7 + k ∧ mv * 7 + k ≤ 20 then fnu (mv * 7 + k).toNatClampNeg else 0
def nxI : Nat → Int32 → Int32 → Int32
  | 0, _, _ => -1
  | n + 1, mv, k => if 0 ≤ k ∧ k ≤ 6 then (if bodyI mv k = 0 then nxI n mv (fab k.toNatClampNeg) else k) else -1
def beginM (M : Nat → Nat → Int32) (b : Int32) : Nat → Nat → Int32 := up2 (if 0 ≤ M 83 1 ∧ M 83 1 < 20 then up2 M 84 (M 83 1).toNatClampNeg b else M) 83 1 (M 83 1 + 1)
/-- num, a, kind of the waiter; how many levels are left; move, kind, x -/
def runV (num a kdw : Int32) : Nat → Int32 → Int32 → Int32 → (Nat → Nat → Int32) → Int32 × (Nat → Nat → Int32)
  | 0, _, _, _, M => (0, M)
  | n + 1, mv, k, x, M0 =>
    if nxI 7 mv k = -1 then (0, M0) else
      let b := bodyI mv (nxI 7 mv k)
      let ab := fab (nxI 7 mv k).toNatClampNeg
      let M := beginM M0 b
      if b = 10 then (x + num, M)
      else if b = 11 then ((runV num a kdw n 0 kdw x M).1 * 2, (runV num a kdw n 0 kdw x M).2)
      else if b = 12 then ((runV num a kdw n 1 kdw x M).1 ^^^ (runV num a kdw n 0 kdw (x - a) (runV num a kdw n 1 kdw x M).2).1, (runV num a kdw n 0 kdw (x - a) (runV num a kdw n 1 kdw x M).2).2)
      else if b = 20 then ((runV num a kdw n 0 ab x M).1 + a, (runV num a kdw n 0 ab x M).2)
      else if b = 30 then ((runV num a kdw n 1 ab x M).1 * 3, (runV num a kdw n 1 ab x M).2)
      else if b = 40 then runV num a kdw n 0 ab (x + 1) M
      else if b = 50 then (-(runV num a kdw n 2 ab x M).1, (runV num a kdw n 2 ab x M).2)
      else if b = 51 then ((runV num a kdw n 0 ab x M).1 - num, (runV num a kdw n 0 ab x M).2)
      else if b = 60 then ((runV num a kdw n 2 ab x M).1 ^^^ 5, (runV num a kdw n 2 ab x M).2)
      else if b = 70 then ((runV num a kdw n 0 ab x M).1 * 2, (runV num a kdw n 0 ab x M).2)
      else runV num a kdw n 1 ab (x - a) M
def ansV (num a kdw : Int32) (n : Nat) (b ab x : Int32) (M : Nat → Nat → Int32) : Int32 × (Nat → Nat → Int32) :=
      if b = 10 then (x + num, M)
      else if b = 11 then ((runV num a kdw n 0 kdw x M).1 * 2, (runV num a kdw n 0 kdw x M).2)
      else if b = 12 then ((runV num a kdw n 1 kdw x M).1 ^^^ (runV num a kdw n 0 kdw (x - a) (runV num a kdw n 1 kdw x M).2).1, (runV num a kdw n 0 kdw (x - a) (runV num a kdw n 1 kdw x M).2).2)
      else if b = 20 then ((runV num a kdw n 0 ab x M).1 + a, (runV num a kdw n 0 ab x M).2)
      else if b = 30 then ((runV num a kdw n 1 ab x M).1 * 3, (runV num a kdw n 1 ab x M).2)
      else if b = 40 then runV num a kdw n 0 ab (x + 1) M
      else if b = 50 then (-(runV num a kdw n 2 ab x M).1, (runV num a kdw n 2 ab x M).2)
      else if b = 51 then ((runV num a kdw n 0 ab x M).1 - num, (runV num a kdw n 0 ab x M).2)
      else if b = 60 then ((runV num a kdw n 2 ab x M).1 ^^^ 5, (runV num a kdw n 2 ab x M).2)
      else if b = 70 then ((runV num a kdw n 0 ab x M).1 * 2, (runV num a kdw n 0 ab x M).2)
      else runV num a kdw n 1 ab (x - a) M
theorem runV_s (num a kdw : Int32) (n : Nat) (mv k x : Int32) (M : Nat → Nat → Int32) : runV num a kdw (n + 1) mv k x M = if nxI 7 mv k = -1 then (0, M) else ansV num a kdw n (bodyI mv (nxI 7 mv k)) (fab (nxI 7 mv k).toNatClampNeg) x (beginM M (bodyI mv (nxI 7 mv k))) := rfl
/-- what runs of the bodies leave alone -/
def frB (M M1 : Nat → Nat → Int32) : Prop := ∀ a j, a ≠ 83 → a ≠ 84 → M1 a j = M a j
theorem frB.begin {M : Nat → Nat → Int32} {b : Int32} : frB M (beginM M b) := fun x j h1 h2 => by
  unfold beginM
  rw [up2_o _ _ (Or.inl h1)]
  split
  · rw [up2_o _ _ (Or.inl h2)]
  · rfl
theorem frB.run (num a kdw : Int32) : ∀ (n : Nat) (mv k x : Int32) (M : Nat → Nat → Int32), frB M (runV num a kdw n mv k x M).2
  | 0, _, _, _, _ => fun _ _ _ _ => rfl
  | n + 1, mv, k, x, M => by
    have ih := frB.run num a kdw n
    have tr : ∀ {A B C : Nat → Nat → Int32}, frB A B → frB B C → frB A C := fun h1 h2 x j q1 q2 => (h2 x j q1 q2).trans (h1 x j q1 q2)
    rw [runV_s]
    split
    · exact fun _ _ _ _ => rfl
    · refine tr (frB.begin (b := bodyI mv (nxI 7 mv k))) ?_
      unfold ansV
      repeat' split
      all_goals first | exact fun _ _ _ _ => rfl | exact ih _ _ _ _ | exact tr (ih _ _ _ _) (ih _ _ _ _)
theorem okW_fr {M M1 : Nat → Nat → Int32} (h : frR M M1) {g w : Nat} (hg : fGd g) (hw : w < 6) (hW : okW M (g + 12 + w)) : okW M1 (g + 12 + w) := by
  unfold fGd at hg
  unfold okW
  simp only [h (g + 12 + w) _ (by omega) (by omega)]
  exact hW
theorem hH_fr {M M1 : Nat → Nat → Int32} (h : frR M M1) {g : Nat} (hg : fGd g) (hH : 0 ≤ M g 5 ∧ M g 5 ≤ 9) : 0 ≤ M1 g 5 ∧ M1 g 5 ≤ 9 := by
  unfold fGd at hg
  rw [h g 5 (by omega) (by omega)]
  exact hH
theorem lay_v {M M2 : Nat → Nat → Int32} (h : frR M M2) {g wc j n o2 : Nat} (hg : fGd g) (hj : j < wc) (hwc : wc ≤ 6) (hold : ∀ q, q ≤ n → M2 (76 + (wc - j)) q = tabI (wgM M g) (hdM M g) wc j q) (ho : o2 ≤ n := by omega) :
    wgM M2 g (wc - (j + 1)) (fbM M2 g (wc - (j + 1)) o2) + M2 (76 + (wc - (j + 1) + 1)) (o2 - fbM M2 g (wc - (j + 1)) o2) = tabI (wgM M g) (hdM M g) wc (j + 1) o2 := by
  have e : wc - (j + 1) + 1 = wc - j := by omega
  have ef : fbM M2 g (wc - (j + 1)) o2 = fbI (wgM M g (wc - (j + 1))) (tabI (wgM M g) (hdM M g) wc j) (hdM M g (wc - (j + 1))) o2 := by
    rw [h.fb hg (by omega), e]
    exact fbI_congr (fun i hi => hold i (by omega))
  rw [ef, h.wg hg (by omega), e, hold _ (by omega)]
  rfl
theorem jeq {wc j : Nat} (h : nI (wc - j) - 1 < 0) (hj : j ≤ wc := by omega) (hw : wc ≤ 6 := by omega) : wc = j := by
  rcases Nat.lt_or_ge j wc with q | q
  · have e : nI (wc - j) - 1 = nI (wc - j - 1) := nI_sub (b := 1) (by omega)
    rw [e] at h
    exact absurd h (nI_pos (by omega))
  · omega
theorem jlt {wc j : Nat} (hj : j ≤ wc) (hw : wc ≤ 6) (h : ¬ nI (wc - j) - 1 < 0) : j < wc := by
  rcases Nat.lt_or_ge j wc with q | q
  · exact q
  · exfalso
    apply h
    rw [show wc - j = 0 by omega]
    decide
theorem jsub {wc j : Nat} (h : j < wc) : nI (wc - j) - 1 = nI (wc - (j + 1)) := by
  rw [show wc - (j + 1) = wc - j - 1 by omega]
  exact nI_sub (b := 1) (by omega)
theorem fbM_le (M : Nat → Nat → Int32) (g w q : Nat) : fbM M g w q ≤ q := Nat.le_trans (fbI_le _ _ _ _) (Nat.min_le_left _ _)
theorem tab_0 {M1 : Nat → Nat → Int32} {wg : Nat → Nat → Int32} {hd : Nat → Nat} {wc o1 n : Nat} (hrow : ∀ q, q < o1 → M1 (76 + wc) q = if q = 0 then 0 else 1000000) (h : n < o1) : ∀ i, i ≤ 0 → ∀ q, q ≤ n → M1 (76 + (wc - i)) q = tabI wg hd wc i q := by
  intro i hi q hq
  obtain rfl : i = 0 := by omega
  exact hrow q (by omega)
theorem tab_s {M1 : Nat → Nat → Int32} {wg : Nat → Nat → Int32} {hd : Nat → Nat} {wc o1 n j : Nat} (hold : ∀ i, i ≤ j → ∀ q, q ≤ n → M1 (76 + (wc - i)) q = tabI wg hd wc i q) (hnew : ∀ q, q < o1 → M1 (76 + (wc - (j + 1))) q = tabI wg hd wc (j + 1) q) (h : n < o1) : ∀ i, i ≤ j + 1 → ∀ q, q ≤ n → M1 (76 + (wc - i)) q = tabI wg hd wc i q := by
  intro i hi q hq
  rcases Nat.lt_or_ge i (j + 1) with h1 | h1
  · exact hold i (by omega) q hq
  · obtain rfl : i = j + 1 := by omega
    exact hnew q (by omega)
theorem row_s {M1 : Nat → Nat → Int32} {k o1 : Nat} {v : Int32} (hrow : ∀ q, q < o1 → M1 k q = if q = 0 then 0 else 1000000) (hv : v = if o1 = 0 then 0 else 1000000) : ∀ q, q < o1 + 1 → up2 M1 k o1 v k q = if q = 0 then 0 else 1000000 := by
  intro q hq
  rw [up2_at]
  split
  · next h =>
    rw [h.2, hv]
  · next h => exact hrow q (by omega)
theorem row_s2 {M1 : Nat → Nat → Int32} {f : Nat → Int32} {k o1 : Nat} {v : Int32} (hrow : ∀ q, q < o1 → M1 k q = f q) (hv : v = f o1) : ∀ q, q < o1 + 1 → up2 M1 k o1 v k q = f q := by
  intro q hq
  rw [up2_at]
  split
  · next h => rw [h.2, hv]
  · next h => exact hrow q (by omega)
theorem nI_min {a b : Nat} (ha : a < 2 ^ 31) (hb : b < 2 ^ 31) : (if nI b < nI a then nI b else nI a) = nI (min a b) := by
  by_cases q : b < a
  · rw [if_pos ((nI_lt_iff hb ha).mpr q), Nat.min_eq_right (Nat.le_of_lt q)]
  · rw [if_neg (fun z => q ((nI_lt_iff hb ha).mp z)), Nat.min_eq_left (Nat.le_of_not_lt q)]
theorem nI_mm {n : Nat} (hn : n ≤ 24) : (if (0 : Int32) < (if (24 : Int32) < nI n then 24 else nI n) then (if (24 : Int32) < nI n then 24 else nI n) else 0) = nI n := by
  have h24 : ¬ (24 : Int32) < nI n := fun h => absurd ((nI_lt_iff (a := 24) (b := n) (by omega) (by omega)).mp h) (by omega)
  rw [if_neg h24]
  by_cases h0 : n = 0
  · subst h0; rfl
  · exact if_pos (show (0 : Int32) < nI n from (nI_lt_iff (a := 0) (b := n) (by omega) (by omega)).mpr (by omega))
theorem fIx_le {i : Int32} (n : Nat) (h0 : 0 ≤ i) (h1 : i ≤ nI n) (hn : n + 1 < 2 ^ 31) : fIx i (n + 1) i.toNatClampNeg := by
  obtain ⟨t, ht, rfl⟩ := i_le n h0 h1 (by omega)
  rw [nI_clamp (by omega)]
  exact fIx_nI (by omega) hn
theorem nxI_rg : ∀ (n : Nat) (mv k : Int32), ¬ nxI n mv k = -1 → 0 ≤ nxI n mv k ∧ nxI n mv k ≤ 6
  | 0, _, _, h => absurd rfl h
  | n + 1, mv, k, h => by
    unfold nxI at h ⊢
    split
    · next h1 =>
      rw [if_pos h1] at h
      split
      · next h2 =>
        rw [if_pos h2] at h
        exact nxI_rg n mv _ h
      · exact h1
    · next h1 => rw [if_neg h1] at h; exact absurd rfl h
theorem nxI_s (n : Nat) (mv k : Int32) : nxI (n + 1) mv k = if 0 ≤ k ∧ k ≤ 6 then (if bodyI mv k = 0 then nxI n mv (fab k.toNatClampNeg) else k) else -1 := rfl
