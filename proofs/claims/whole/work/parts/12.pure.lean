/-! loops as functions -/
def itF {α : Type} (f : Nat → α → α) (a : α) : Nat → α
  | 0 => a
  | n + 1 => f n (itF f a n)
theorem itF_0 {α : Type} (f : Nat → α → α) (a : α) : itF f a 0 = a := rfl
theorem itF_s {α : Type} (f : Nat → α → α) (a : α) (n : Nat) : itF f a (n + 1) = f n (itF f a n) := rfl
theorem itF_congr {α : Type} {f g : Nat → α → α} {a : α} : ∀ n : Nat, (∀ t, t < n → ∀ b, f t b = g t b) → itF f a n = itF g a n
  | 0, _ => rfl
  | n + 1, h => by
    rw [itF_s, itF_s, itF_congr n (fun t ht b => h t (by omega) b), h n (by omega)]
def absI (x : Int32) : Int32 := if 0 ≤ x then x else 0 - x
/-- the bit of a number -/
def bitI (t : Nat) : Int32 := 1 <<< (nI t &&& 31)
def hasI (b : Int32) (t : Nat) : Int32 := (b >>> (nI t &&& 31)) &&& 1
def seenI (cor : Nat → Int32) (sg c : Int32) (n : Nat) : Int32 := itF (fun t b => if absI (cor t - c) ≤ sg then b ||| bitI t else b) 0 n
def lookI (seen : Nat → Int32) (n : Nat) : Int32 := itF (fun c b => if seen c = 0 then b else b ||| bitI c) 0 n
def worthI (wor : Nat → Int32) (bits : Int32) (n : Nat) : Int32 := itF (fun t w => if hasI bits t = 0 then w else w + wor t) 0 n
def orI (sp : Nat → Int32) (bits : Int32) (n : Nat) : Int32 := itF (fun w b => if hasI bits w = 0 then b else b ||| sp w) 0 n
/-- the first of the greatest above 0 -/
def bestI (v : Nat → Int32) (ix : Nat → Int32) (a0 : Int32) (n : Nat) : Int32 × Int32 := itF (fun i p => if v i ≤ p.1 then p else (v i, ix i)) (0, a0) n
def inI (fi la : Nat → Int32) (q : Int32) (n : Nat) : Int32 := itF (fun t b => if fi t ≤ q ∧ q ≤ la t then b ||| bitI t else b) 0 n
def metD (st aw : Int32) (b : Int32) : Prop := (if b = 0 then aw else aw / 2) ≤ st
def wmetI (st aw wor : Nat → Int32) (bits : Int32) (n : Nat) : Int32 := itF (fun t w => if (if hasI bits t = 0 then aw t else aw t / 2) ≤ st t then w + wor t else w) 0 n
def needI (st aw wor : Nat → Int32) (bes : Int32) (n : Nat) : Int32 × Int32 := itF (fun t p => if hasI bes t = 0 ∧ ((¬ aw t ≤ st t) ∧ aw t / 2 ≤ st t) ∧ ¬ wor t ≤ p.1 then (wor t, nI t) else p) (0, -1) n
def runI (nx : Int32 → Int32) (n : Nat) : Int32 := itF (fun _ ch => if nx ch = -1 then ch else ch ||| (1 <<< (nx ch &&& 31))) 0 n
def paidI (kd a pay pat hope : Int32) (n : Nat) : Int32 := itF (fun i p => p + wageF kd a pay pat hope (nI (i + 1))) 0 n
/-- what it gains to wait i + 1 quarters, till the end of quarter q -/
def gainI (fi la ne wo kd a pay pat hope : Int32) (q : Int32) (i : Nat) : Int32 := wo * byF fi la q - paidI kd a pay pat hope (i + 1) - (la - fi + 1 + ne - byF fi la q) * wageF kd a pay pat hope (nI (i + 1))
def stepsI (fi la held : Int32) : Nat := min (la.toNatClampNeg + 1 - fi.toNatClampNeg) held.toNatClampNeg
def stopI (fi la ne wo kd a pay pat hope : Int32) : Int32 × Int32 :=
  bestI (fun i => gainI fi la ne wo kd a pay pat hope (nI (fi.toNatClampNeg + i)) i) (fun i => nI (fi.toNatClampNeg + i)) (-1) (stepsI fi la (holdF kd a pat hope))
def drawS (sd : Int32) : Int32 := sd * 1103515245 + 12345
def drawV (sd n : Int32) : Int32 := if n ≤ 0 then 0 else ush sd 16 - ush sd 16 / n * n
/-- cells of one guild become another's -/
def cpT (M : Nat → Nat → Int32) (g o n : Nat) : Nat → Nat → Int32 := fun a j => if g + 4 ≤ a ∧ a < g + 4 + n ∧ j < 7 then M (o + (a - g)) j else M a j
def cpW (M : Nat → Nat → Int32) (g o n : Nat) : Nat → Nat → Int32 := fun a j => if g + 12 ≤ a ∧ a < g + 12 + n ∧ 1 ≤ j ∧ j < 6 then M (o + (a - g)) j else cpT M g o 8 a j
def cpG (M : Nat → Nat → Int32) (g o : Nat) : Nat → Nat → Int32 := fun a j => if a = g ∧ 3 ≤ j ∧ j < 10 then M o j else cpW M g o 6 a j
def addT (M : Nat → Nat → Int32) (g t : Nat) (c f l n w s a : Int32) : Nat → Nat → Int32 := up2 (up2 (up2 (up2 (up2 (up2 (up2 (up2 M (g + 4 + t) 0 c) (g + 4 + t) 1 f) (g + 4 + t) 2 l) (g + 4 + t) 3 n) (g + 4 + t) 4 w) (g + 4 + t) 5 s) (g + 4 + t) 6 a) g 3 (nI (t + 1))
def addW (M : Nat → Nat → Int32) (g t : Nat) (k a p q c : Int32) : Nat → Nat → Int32 := up2 (up2 (up2 (up2 (up2 (up2 M (g + 12 + t) 1 k) (g + 12 + t) 2 a) (g + 12 + t) 3 p) (g + 12 + t) 4 q) (g + 12 + t) 5 c) g 4 (nI (t + 1))
/-- guilds lie apart -/
def fGd (g : Nat) : Prop := g = 18 ∨ g = 36 ∨ g = 54
theorem fGd_of {g : Nat} (h : fsh g = 1) : fGd g := (show ∀ k, k < 115 → fsh k = 1 → fGd k by unfold fGd; decide +kernel) g (fsh_lt h (by decide)) h
def bitc (i0 : Int32) : Int32 :=
  let i1 := i0 - (ush i0 1 &&& 1431655765)
  let i2 := (i1 &&& 858993459) + (ush i1 2 &&& 858993459)
  let i3 := (i2 + ush i2 4) &&& 252645135
  let i4 := i3 + ush i3 8
  let i5 := i4 + ush i4 16
  i5 &&& 63
/-- a valid thing; a valid waiter -/
def okT (M : Nat → Nat → Int32) (t : Nat) : Prop := (0 ≤ M t 0 ∧ M t 0 ≤ 9) ∧ (0 ≤ M t 1 ∧ M t 1 ≤ M t 2 ∧ M t 2 ≤ 23) ∧ (0 ≤ M t 3 ∧ M t 3 ≤ 9) ∧ (0 ≤ M t 4 ∧ M t 4 ≤ 99) ∧ (0 ≤ M t 5 ∧ M t 5 ≤ 9) ∧ (0 ≤ M t 6 ∧ M t 6 ≤ 20)
def okW (M : Nat → Nat → Int32) (w : Nat) : Prop := (0 ≤ M w 1 ∧ M w 1 ≤ 6) ∧ (0 ≤ M w 2 ∧ M w 2 ≤ 9) ∧ (0 ≤ M w 3 ∧ M w 3 ≤ 9) ∧ (0 ≤ M w 4 ∧ M w 4 ≤ 24) ∧ (0 ≤ M w 5 ∧ M w 5 ≤ 9)
theorem ti_div2 {a : Int32} (h : 0 ≤ a.toInt) : (a / 2).toInt = a.toInt / 2 := by
  rw [Int32.toInt_div_of_ne_right _ _ (by decide)]
  show a.toInt.tdiv 2 = _
  exact Int.tdiv_eq_ediv_of_nonneg h
theorem ti_mul2 {a : Int32} (h : 0 ≤ a.toInt ∧ a.toInt < 1000) : (2 * a).toInt = 2 * a.toInt := by
  rw [Int32.toInt_mul]
  show (2 * a.toInt).bmod _ = _
  rw [Int.bmod_eq_of_le (by omega) (by omega)]
theorem holdF_rg {kd a pat hope : Int32} (ha : 0 ≤ a ∧ a ≤ 9) (hp : 0 ≤ pat ∧ pat ≤ 24) (hh : 0 ≤ hope ∧ hope ≤ 9) : 0 ≤ holdF kd a pat hope ∧ holdF kd a pat hope ≤ 24 := by
  have e2 : (2 : Int32).toInt = 2 := rfl
  have e1 : (1 : Int32).toInt = 1 := rfl
  have e24 : (24 : Int32).toInt = 24 := rfl
  have e9 : (9 : Int32).toInt = 9 := rfl
  have e0 : (0 : Int32).toInt = 0 := rfl
  simp only [Int32.le_iff_toInt_le, e9, e24, e0] at ha hp hh
  have w0 : 0 ≤ (wouldF kd a pat hope).toInt := by
    unfold wouldF
    have h2 := ti_mul2 (a := pat) (by omega)
    have h3 : (pat + a).toInt = pat.toInt + a.toInt := ti_add (by omega)
    have h4 : (pat + 1).toInt = pat.toInt + 1 := ti_add (by rw [e1]; omega)
    have h5 : ((pat + 1) / 2).toInt = (pat.toInt + 1) / 2 := by rw [ti_div2 (by omega), h4]
    have h6 : ((pat + 1) / 2 + hope).toInt = (pat.toInt + 1) / 2 + hope.toInt := by rw [ti_add (by omega), h5]
    have h7 : (pat + a - 1).toInt = pat.toInt + a.toInt - 1 := by rw [ti_sub (by rw [e1]; omega), h3, e1]
    split
    · omega
    split
    · omega
    split
    · decide
    split
    · omega
    split
    · split
      · next h => rw [Int32.lt_iff_toInt_lt, e1] at h; omega
      · decide
    split
    · omega
    · omega
  unfold holdF
  split
  · next h => rw [Int32.lt_iff_toInt_lt, e24] at h; exact ⟨Int32.le_iff_toInt_le.mpr (by rw [e0]; exact w0), Int32.le_iff_toInt_le.mpr (by rw [e24]; omega)⟩
  · decide
theorem stp_iff {f l h i : Nat} (hf : f ≤ 23) (hl : l ≤ 23) (hh : h ≤ 24) (hi : i ≤ 30) : (if nI (f + h) - 1 < nI l then nI (f + h) - 1 else nI l) < nI (f + i) ↔ ¬ i < min (l + 1 - f) h := by
  have e1 : (1 : Int32).toInt = 1 := rfl
  have a1 : (nI (f + h) - 1).toInt = (f + h : Int) - 1 := by rw [ti_sub (by rw [nI_toInt (by omega), e1]; omega), nI_toInt (by omega), e1]; omega
  have a2 : (nI l).toInt = l := nI_toInt (by omega)
  have a3 : (nI (f + i)).toInt = (f + i : Int) := by rw [nI_toInt (by omega)]; omega
  simp only [Int32.lt_iff_toInt_lt]
  split
  · next q => rw [a1, a2] at q; rw [a1, a3]; omega
  · next q => rw [a1, a2] at q; rw [a2, a3]; omega
theorem bestI_arg (v ix : Nat → Int32) (a0 : Int32) : ∀ n, ((bestI v ix a0 n).2 = a0 ∧ (bestI v ix a0 n).1 = 0) ∨ ∃ i, i < n ∧ (bestI v ix a0 n).2 = ix i ∧ (bestI v ix a0 n).1 = v i
  | 0 => Or.inl ⟨rfl, rfl⟩
  | n + 1 => by
    unfold bestI
    rw [itF_s]
    have ih := bestI_arg v ix a0 n
    unfold bestI at ih
    split
    · rcases ih with h | ⟨i, hi, h⟩
      · exact Or.inl h
      · exact Or.inr ⟨i, by omega, h⟩
    · exact Or.inr ⟨n, by omega, rfl, rfl⟩
theorem stopI_some {fi la ne wo kd a pay pat hope : Int32} (h : ¬ (stopI fi la ne wo kd a pay pat hope).2 = -1) : ∃ i, i < stepsI fi la (holdF kd a pat hope) ∧ (stopI fi la ne wo kd a pay pat hope).2 = nI (fi.toNatClampNeg + i) ∧ (stopI fi la ne wo kd a pay pat hope).1 = gainI fi la ne wo kd a pay pat hope (nI (fi.toNatClampNeg + i)) i := by
  rcases bestI_arg (fun i => gainI fi la ne wo kd a pay pat hope (nI (fi.toNatClampNeg + i)) i) (fun i => nI (fi.toNatClampNeg + i)) (-1) (stepsI fi la (holdF kd a pat hope)) with ⟨h1, -⟩ | ⟨i, h1, h2, h3⟩
  · exact absurd h1 h
  · exact ⟨i, h1, h2, h3⟩
theorem nI_neg1 (t : Nat) (h : t < 1000) : ¬ nI t = -1 := by
  intro q
  have := congrArg Int32.toInt q
  rw [nI_toInt (by omega)] at this
  have e : (-1 : Int32).toInt = -1 := rfl
  omega
theorem stopI_none {fi la ne wo kd a pay pat hope : Int32} (hf : fi.toNatClampNeg ≤ 23) (hh : (holdF kd a pat hope).toNatClampNeg ≤ 24) (h : (stopI fi la ne wo kd a pay pat hope).2 = -1) : (stopI fi la ne wo kd a pay pat hope).1 = 0 := by
  rcases bestI_arg (fun i => gainI fi la ne wo kd a pay pat hope (nI (fi.toNatClampNeg + i)) i) (fun i => nI (fi.toNatClampNeg + i)) (-1) (stepsI fi la (holdF kd a pat hope)) with ⟨-, h1⟩ | ⟨i, h1, h2, h3⟩
  · exact h1
  · have h2' : nI (fi.toNatClampNeg + i) = -1 := h2.symm.trans h
    unfold stepsI at h1
    exact absurd h2' (nI_neg1 _ (by omega))
def postsI (sp : Nat → Int32) (all : Int32) (wc n : Nat) : Int32 × Int32 := itF (fun p a => if a.1 ≤ bitc (nI p) then a else if orI sp (nI p) wc = all then (bitc (nI p), nI p) else a) (7, -1) n
def spM (M : Nat → Nat → Int32) (g : Nat) (f : Nat → Int32) (n : Nat) : Nat → Nat → Int32 := fun a j => if a = g + 3 ∧ j < n then f j else M a j
theorem bitN {n : Nat} (h : n ≤ 10) : (1 <<< (nI n &&& 31) : Int32) = nI (2 ^ n) := (show ∀ n, n ≤ 10 → (1 <<< (nI n &&& 31) : Int32) = nI (2 ^ n) by decide +kernel) n h
def tQ (told : Int32) : Int32 := told - told / 100 * 100
def tT (told : Int32) : Nat := (told / 100).toNatClampNeg
def mayB (fi la ne : Nat → Int32) (n3 told : Int32) : Bool := decide (¬ told < 0 ∧ (0 ≤ told / 100 ∧ told / 100 < n3 ∧ told / 100 < 8) ∧ ((fi (tT told) ≤ tQ told ∧ tQ told ≤ la (tT told)) ∨ tQ told = 99 ∧ 0 < ne (tT told)))
theorem mayB_ix {fi la ne : Nat → Int32} {n3 told : Int32} (h : mayB fi la ne n3 told = true) : 0 ≤ told / 100 ∧ told / 100 < 8 := by
  have := of_decide_eq_true h
  exact ⟨this.2.1.1, this.2.1.2.2⟩
def dayI (fi la ne wo st aw : Nat → Int32) (s0 t0 : Int32) (n : Nat) : Int32 × Int32 := itF (fun t p => (drawS p.1, if (fi t ≤ fi t + drawV (drawS p.1) (la t - fi t + 1 + ne t) ∧ fi t + drawV (drawS p.1) (la t - fi t + 1 + ne t) ≤ la t) ∧ aw t ≤ st t then p.2 + wo t else p.2)) (s0, t0) n
def wagesI (kd a pay pat : Nat → Int32) (hope w0 : Int32) (n : Nat) : Int32 := itF (fun w x => x + wageF (kd w) (a w) (pay w) (pat w) hope (holdF (kd w) (a w) (pat w) hope)) w0 n
theorem up2_id (M : Nat → Nat → Int32) (k j : Nat) : up2 M k j (M k j) = M := by
  funext a b
  rw [up2_at]
  split
  · next h => rw [h.1, h.2]
  · rfl
theorem cpT_s {M : Nat → Nat → Int32} {g o t : Nat} (hg : fGd g) (ho : fGd o) (hne : g ≠ o) (ht : t < 8) :
    up2 (up2 (up2 (up2 (up2 (up2 (up2 (cpT M g o t) (g + 4 + t) 0 (cpT M g o t (o + 4 + t) 0)) (g + 4 + t) 1 (cpT M g o t (o + 4 + t) 1)) (g + 4 + t) 2 (cpT M g o t (o + 4 + t) 2)) (g + 4 + t) 3 (cpT M g o t (o + 4 + t) 3)) (g + 4 + t) 4 (cpT M g o t (o + 4 + t) 4)) (g + 4 + t) 5 (cpT M g o t (o + 4 + t) 5)) (g + 4 + t) 6 (cpT M g o t (o + 4 + t) 6) = cpT M g o (t + 1) := by
  have hr : ∀ j, cpT M g o t (o + 4 + t) j = M (o + 4 + t) j := fun j => by
    unfold cpT
    rw [if_neg]
    unfold fGd at hg ho
    omega
  simp only [hr]
  funext a j
  simp only [up2_at]
  unfold cpT
  by_cases ha : a = g + 4 + t
  · subst ha
    have e : o + (g + 4 + t - g) = o + 4 + t := by omega
    rw [if_neg (show ¬ (g + 4 ≤ g + 4 + t ∧ g + 4 + t < g + 4 + t ∧ j < 7) by omega), e]
    by_cases hj : j < 7
    · rw [if_pos (show g + 4 ≤ g + 4 + t ∧ g + 4 + t < g + 4 + (t + 1) ∧ j < 7 by omega)]
      have : j = 0 ∨ j = 1 ∨ j = 2 ∨ j = 3 ∨ j = 4 ∨ j = 5 ∨ j = 6 := by omega
      rcases this with rfl | rfl | rfl | rfl | rfl | rfl | rfl <;> simp
    · rw [if_neg (show ¬ (g + 4 ≤ g + 4 + t ∧ g + 4 + t < g + 4 + (t + 1) ∧ j < 7) by omega)]
      repeat rw [if_neg (by omega)]
  · repeat rw [if_neg (show ¬ (a = g + 4 + t ∧ _) from fun q => ha q.1)]
    by_cases h : g + 4 ≤ a ∧ a < g + 4 + t ∧ j < 7
    · rw [if_pos h, if_pos (by omega)]
    · rw [if_neg h, if_neg (by omega)]
theorem cpW_s {M : Nat → Nat → Int32} {g o t : Nat} (hg : fGd g) (ho : fGd o) (hne : g ≠ o) (ht : t < 6) :
    up2 (up2 (up2 (up2 (up2 (cpW M g o t) (g + 12 + t) 1 (cpW M g o t (o + 12 + t) 1)) (g + 12 + t) 2 (cpW M g o t (o + 12 + t) 2)) (g + 12 + t) 3 (cpW M g o t (o + 12 + t) 3)) (g + 12 + t) 4 (cpW M g o t (o + 12 + t) 4)) (g + 12 + t) 5 (cpW M g o t (o + 12 + t) 5) = cpW M g o (t + 1) := by
  have hr : ∀ j, cpW M g o t (o + 12 + t) j = M (o + 12 + t) j := fun j => by
    unfold cpW cpT
    unfold fGd at hg ho
    rw [if_neg (by omega), if_neg (by omega)]
  simp only [hr]
  funext a j
  simp only [up2_at]
  unfold cpW
  by_cases ha : a = g + 12 + t
  · subst ha
    have e : o + (g + 12 + t - g) = o + 12 + t := by omega
    rw [if_neg (show ¬ (g + 12 ≤ g + 12 + t ∧ g + 12 + t < g + 12 + t ∧ 1 ≤ j ∧ j < 6) by omega), e]
    by_cases hj : 1 ≤ j ∧ j < 6
    · rw [if_pos (show g + 12 ≤ g + 12 + t ∧ g + 12 + t < g + 12 + (t + 1) ∧ 1 ≤ j ∧ j < 6 by omega)]
      have : j = 1 ∨ j = 2 ∨ j = 3 ∨ j = 4 ∨ j = 5 := by omega
      rcases this with rfl | rfl | rfl | rfl | rfl <;> simp
    · rw [if_neg (show ¬ (g + 12 ≤ g + 12 + t ∧ g + 12 + t < g + 12 + (t + 1) ∧ 1 ≤ j ∧ j < 6) by omega)]
      repeat rw [if_neg (by omega)]
  · repeat rw [if_neg (show ¬ (a = g + 12 + t ∧ _) from fun q => ha q.1)]
    by_cases h : g + 12 ≤ a ∧ a < g + 12 + t ∧ 1 ≤ j ∧ j < 6
    · rw [if_pos h, if_pos (by omega)]
    · rw [if_neg h, if_neg (by omega)]
theorem cpG_s {M : Nat → Nat → Int32} {g o : Nat} (hg : fGd g) (ho : fGd o) (hne : g ≠ o) :
    up2 (up2 (up2 (up2 (up2 (up2 (up2 (cpW M g o 6) g 3 (cpW M g o 6 o 3)) g 4 (cpW M g o 6 o 4)) g 5 (cpW M g o 6 o 5)) g 6 (cpW M g o 6 o 6)) g 7 (cpW M g o 6 o 7)) g 8 (cpW M g o 6 o 8)) g 9 (cpW M g o 6 o 9) = cpG M g o := by
  have hr : ∀ j, cpW M g o 6 o j = M o j := fun j => by
    unfold cpW cpT
    unfold fGd at hg ho
    rw [if_neg (by omega), if_neg (by omega)]
  simp only [hr]
  funext a j
  simp only [up2_at]
  unfold cpG
  by_cases ha : a = g
  · subst ha
    by_cases hj : 3 ≤ j ∧ j < 10
    · rw [if_pos (show a = a ∧ 3 ≤ j ∧ j < 10 from ⟨rfl, hj⟩)]
      have : j = 3 ∨ j = 4 ∨ j = 5 ∨ j = 6 ∨ j = 7 ∨ j = 8 ∨ j = 9 := by omega
      rcases this with rfl | rfl | rfl | rfl | rfl | rfl | rfl <;> simp
    · rw [if_neg (show ¬ (a = a ∧ 3 ≤ j ∧ j < 10) from fun q => hj q.2)]
      repeat rw [if_neg (by omega)]
  · repeat rw [if_neg (show ¬ (a = g ∧ _) from fun q => ha q.1)]
theorem spM_s {M : Nat → Nat → Int32} {g : Nat} {f : Nat → Int32} {w : Nat} {v : Int32} (h : v = f w) : spM M g f (w + 1) = up2 (spM M g f w) (g + 3) w v := by
  subst h
  funext a j
  rw [up2_at]
  unfold spM
  by_cases ha : a = g + 3 ∧ j = w
  · rw [if_pos ha, if_pos (by omega), ha.2]
  · rw [if_neg ha]
    by_cases hb : a = g + 3 ∧ j < w
    · rw [if_pos hb, if_pos (by omega)]
    · rw [if_neg hb, if_neg (by omega)]
theorem fP_eq {E : fE} {A B : Nat → Nat → Int32} {L : Nat → Nat → Int64} {H : Heap} (h : A = B) (hP : fP E B L H) : fP E A L H := h ▸ hP
theorem spM_o {M : Nat → Nat → Int32} {g : Nat} {f : Nat → Int32} {n a j : Nat} (h : a ≠ g + 3) : spM M g f n a j = M a j := if_neg (fun q => h q.1)
theorem seen_sp {M : Nat → Nat → Int32} {g w : Nat} {f : Nat → Int32} {n tc : Nat} {c : Int32} : seenI (fun t => spM M g f n (g + 4 + t) 0) (sightF (spM M g f n (g + 12 + w) 1)) c tc = seenI (fun t => M (g + 4 + t) 0) (sightF (M (g + 12 + w) 1)) c tc := by
  have e : ∀ t j, spM M g f n (g + 4 + t) j = M (g + 4 + t) j := fun t j => spM_o (by omega)
  rw [spM_o (a := g + 12 + w) (by omega)]
  simp only [e]
theorem or_sp {M : Nat → Nat → Int32} {g : Nat} {f : Nat → Int32} {n : Nat} {b : Int32} : orI (fun x => spM M g f n (g + 3) x) b n = orI f b n :=
  itF_congr n (fun x hx b => by simp only [show spM M g f n (g + 3) x = f x from if_pos ⟨rfl, hx⟩])
