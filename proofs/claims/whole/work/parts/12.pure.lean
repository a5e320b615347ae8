/-! loops as functions -/
def itF {α : Type} (f : Nat → α → α) (a : α) : Nat → α
  | 0 => a
  | n + 1 => f n (itF f a n)
theorem itF_0 {α : Type} (f : Nat → α → α) (a : α) : itF f a 0 = a := rfl
theorem itF_s {α : Type} (f : Nat → α → α) (a : α) (n : Nat) : itF f a (n + 1) = f n (itF f a n) := rfl
theorem itF_congr {α : Type} {f g : Nat → α → α} {a : α} : ∀ n : Nat, (∀ t, t < n → ∀ b, f t b = g t b) → itF f a n = itF g a n
  | 0, _ => rfl
  | n + 1, h => by
    rw [itF_s, itF_s, itF_congr n (fun t ht b => h t (by omega) b), h n (by omega)]
def absI (x : Int32) : Int32 := if 0 ≤ x then x else 0 - x
/-- the bit of a number -/
def bitI (t : Nat) : Int32 := 1 <<< (nI t &&& 31)
def hasI (b : Int32) (t : Nat) : Int32 := (b >>> (nI t &&& 31)) &&& 1
def seenI (cor : Nat → Int32) (sg c : Int32) (n : Nat) : Int32 := itF (fun t b => if absI (cor t - c) ≤ sg then b ||| bitI t else b) 0 n
def lookI (seen : Nat → Int32) (n : Nat) : Int32 := itF (fun c b => if seen c = 0 then b else b ||| bitI c) 0 n
def worthI (wor : Nat → Int32) (bits : Int32) (n : Nat) : Int32 := itF (fun t w => if hasI bits t = 0 then w else w + wor t) 0 n
def orI (sp : Nat → Int32) (bits : Int32) (n : Nat) : Int32 := itF (fun w b => if hasI bits w = 0 then b else b ||| sp w) 0 n
/-- the first of the greatest above 0 -/
def bestI (v : Nat → Int32) (ix : Nat → Int32) (a0 : Int32) (n : Nat) : Int32 × Int32 := itF (fun i p => if v i ≤ p.1 then p else (v i, ix i)) (0, a0) n
def inI (fi la : Nat → Int32) (q : Int32) (n : Nat) : Int32 := itF (fun t b => if fi t ≤ q ∧ q ≤ la t then b ||| bitI t else b) 0 n
def metD (st aw : Int32) (b : Int32) : Prop := (if b = 0 then aw else aw / 2) ≤ st
def wmetI (st aw wor : Nat → Int32) (bits : Int32) (n : Nat) : Int32 := itF (fun t w => if (if hasI bits t = 0 then aw t else aw t / 2) ≤ st t then w + wor t else w) 0 n
def needI (st aw wor : Nat → Int32) (bes : Int32) (n : Nat) : Int32 × Int32 := itF (fun t p => if hasI bes t = 0 ∧ ((¬ aw t ≤ st t) ∧ aw t / 2 ≤ st t) ∧ ¬ wor t ≤ p.1 then (wor t, nI t) else p) (0, -1) n
def runI (nx : Int32 → Int32) (n : Nat) : Int32 := itF (fun _ ch => if nx ch = -1 then ch else ch ||| (1 <<< (nx ch &&& 31))) 0 n
def paidI (kd a pay pat hope : Int32) (n : Nat) : Int32 := itF (fun i p => p + wageF kd a pay pat hope (nI (i + 1))) 0 n
/-- what it gains to wait i + 1 quarters, till the end of quarter q -/
def gainI (fi la ne wo kd a pay pat hope : Int32) (q : Int32) (i : Nat) : Int32 := wo * byF fi la q - paidI kd a pay pat hope (i + 1) - (la - fi + 1 + ne - byF fi la q) * wageF kd a pay pat hope (nI (i + 1))
def stepsI (fi la held : Int32) : Nat := min (la.toNatClampNeg + 1 - fi.toNatClampNeg) held.toNatClampNeg
def stopI (fi la ne wo kd a pay pat hope : Int32) : Int32 × Int32 :=
  bestI (fun i => gainI fi la ne wo kd a pay pat hope (nI (fi.toNatClampNeg + i)) i) (fun i => nI (fi.toNatClampNeg + i)) (-1) (stepsI fi la (holdF kd a pat hope))
def drawS (sd : Int32) : Int32 := sd * 1103515245 + 12345
def drawV (sd n : Int32) : Int32 := if n ≤ 0 then 0 else ush sd 16 - ush sd 16 / n * n
/-- cells of one guild become another's -/
def cpT (M : Nat → Nat → Int32) (g o n : Nat) : Nat → Nat → Int32 := fun a j => if g + 4 ≤ a ∧ a < g + 4 + n ∧ j < 7 then M (o + (a - g)) j else M a j
def cpW (M : Nat → Nat → Int32) (g o n : Nat) : Nat → Nat → Int32 := fun a j => if g + 12 ≤ a ∧ a < g + 12 + n ∧ 1 ≤ j ∧ j < 6 then M (o + (a - g)) j else cpT M g o 8 a j
def cpG (M : Nat → Nat → Int32) (g o : Nat) : Nat → Nat → Int32 := fun a j => if a = g ∧ 3 ≤ j ∧ j < 10 then M o j else cpW M g o 6 a j
def addT (M : Nat → Nat → Int32) (g t : Nat) (c f l n w s a : Int32) : Nat → Nat → Int32 := up2 (up2 (up2 (up2 (up2 (up2 (up2 (up2 M (g + 4 + t) 0 c) (g + 4 + t) 1 f) (g + 4 + t) 2 l) (g + 4 + t) 3 n) (g + 4 + t) 4 w) (g + 4 + t) 5 s) (g + 4 + t) 6 a) g 3 (nI (t + 1))
def addW (M : Nat → Nat → Int32) (g t : Nat) (k a p q c : Int32) : Nat → Nat → Int32 := up2 (up2 (up2 (up2 (up2 (up2 M (g + 12 + t) 1 k) (g + 12 + t) 2 a) (g + 12 + t) 3 p) (g + 12 + t) 4 q) (g + 12 + t) 5 c) g 4 (nI (t + 1))
/-- guilds lie apart -/
def fGd (g : Nat) : Prop := g = 18 ∨ g = 36 ∨ g = 54
theorem fGd_of {g : Nat} (h : fsh g = 1) : fGd g := (show ∀ k, k < 115 → fsh k = 1 → fGd k by unfold fGd; decide +kernel) g (fsh_lt h (by decide)) h
