/-! small numbers that differ -/
theorem nl10 : ((-1 : Int32) = 0) = False := by decide
theorem nl20 : ((-2 : Int32) = 0) = False := by decide
theorem nl30 : ((-3 : Int32) = 0) = False := by decide
theorem nl40 : ((-4 : Int32) = 0) = False := by decide
theorem nl50 : ((-5 : Int32) = 0) = False := by decide
theorem nl60 : ((-6 : Int32) = 0) = False := by decide
theorem nl70 : ((-7 : Int32) = 0) = False := by decide
theorem nl12 : ((-1 : Int32) = -2) = False := by decide
theorem nl13 : ((-1 : Int32) = -3) = False := by decide
theorem nl21 : ((-2 : Int32) = -1) = False := by decide
theorem nl23 : ((-2 : Int32) = -3) = False := by decide
theorem nl31 : ((-3 : Int32) = -1) = False := by decide
theorem nl32 : ((-3 : Int32) = -2) = False := by decide
/-! what each call of the class answers, and what it leaves -/
abbrev fR : Type := Int32 × fM
def rfM (M : Nat → Nat → Int32) (r : Int32) : Nat → Nat → Int32 := if 1 ≤ -r ∧ -r ≤ 7 then up2 M 85 (-r).toNatClampNeg (M 85 (-r).toNatClampNeg + 1) else M
def rrI (M : Nat → Nat → Int32) (s : Int32) : Int32 := if 0 ≤ s ∧ s ≤ 7 then (if 100 ≤ M (2 + s.toNatClampNeg) 1 then 0 else if M (2 + s.toNatClampNeg) 1 = -1 then -3 else -2) else -1
theorem rr0 {M : Nat → Nat → Int32} {s : Int32} (h : rrI M s = 0) : (0 ≤ s ∧ s ≤ 7) ∧ 100 ≤ M (2 + s.toNatClampNeg) 1 := by
  unfold rrI at h
  split at h
  · next h1 =>
    split at h
    · next h2 => exact ⟨h1, h2⟩
    · split at h <;> exact absurd h (by decide)
  · exact absurd h (by decide)
def trI (M : Nat → Nat → Int32) (p q : Int32) : Int32 := if rrI M p = 0 ∧ rrI M q = 0 then (if M (2 + p.toNatClampNeg) 1 = M (2 + q.toNatClampNeg) 1 then 0 else -2) else if rrI M p = -1 ∨ rrI M q = -1 then -1 else if rrI M p = -2 ∨ rrI M q = -2 then -2 else -3
theorem tr0 {M : Nat → Nat → Int32} {p q : Int32} (h : trI M p q = 0) : rrI M p = 0 ∧ rrI M q = 0 := by
  unfold trI at h
  split at h
  · next h1 => exact h1
  · split at h
    · exact absurd h (by decide)
    · split at h <;> exact absurd h (by decide)
def tdI (M : Nat → Nat → Int32) (s n most tl : Int32) : Int32 := if rrI M s = 0 then (if 0 ≤ n then (if M (2 + s.toNatClampNeg) 2 < n then -5 else if tl = 0 then -5 else if n ≤ most then 0 else -6) else -4) else rrI M s
theorem td0 {M : Nat → Nat → Int32} {s n most tl : Int32} (h : tdI M s n most tl = 0) : rrI M s = 0 ∧ 0 ≤ n ∧ n ≤ most ∧ ¬ M (2 + s.toNatClampNeg) 2 < n := by
  unfold tdI at h
  split at h
  · next h1 =>
    split at h
    · next h2 =>
      split at h
      · exact absurd h (by decide)
      · next h3 =>
        split at h
        · exact absurd h (by decide)
        · split at h
          · next h4 => exact ⟨h1, h2, h4, h3⟩
          · exact absurd h (by decide)
    · exact absurd h (by decide)
  · next h1 => exact absurd h h1
def unF : Nat → Int32 → Int32 → Bool
  | 0, _, _ => false
  | n + 1, k, w => if 0 ≤ k ∧ k ≤ 6 then (if k = w then true else unF n (fab k.toNatClampNeg) w) else false
theorem unF_s (n : Nat) (k w : Int32) : unF (n + 1) k w = if 0 ≤ k ∧ k ≤ 6 then (if k = w then true else unF n (fab k.toNatClampNeg) w) else false := rfl
/-- a guild whose numbers are in order -/
def gOK (M : Nat → Nat → Int32) (g tc wc : Nat) : Prop := M g 3 = nI tc ∧ tc ≤ 8 ∧ M g 4 = nI wc ∧ wc ≤ 6 ∧ (∀ t, t < 8 → okT M (g + 4 + t)) ∧ (∀ w, w < 6 → okW M (g + 12 + w)) ∧ (0 ≤ M g 5 ∧ M g 5 ≤ 9)
def szOK (M : Nat → Nat → Int32) : Prop := ∀ s, s < 8 → 0 ≤ M (2 + s) 2 ∧ M (2 + s) 2 ≤ 160
def mayG (M : Nat → Nat → Int32) (told : Int32) : Bool := mayB (fun t => M (18 + 4 + t) 1) (fun t => M (18 + 4 + t) 2) (fun t => M (18 + 4 + t) 3) (M 18 3) told
/-- the first element of a told day that can't be, from the i-th on -/
def fwF (M : Nat → Nat → Int32) (tl : Nat → Int32) : Nat → Nat → Int32 → Int32
  | 0, _, _ => -1
  | f + 1, i, b => if mayG M (tl i) = true then (if b &&& (1 <<< ((tl i / 100) &&& 31)) = 0 then fwF M tl f (i + 1) (b ||| (1 <<< ((tl i / 100) &&& 31))) else nI i) else nI i
theorem fwF_s (M : Nat → Nat → Int32) (tl : Nat → Int32) (f i : Nat) (b : Int32) : fwF M tl (f + 1) i b = if mayG M (tl i) = true then (if b &&& (1 <<< ((tl i / 100) &&& 31)) = 0 then fwF M tl f (i + 1) (b ||| (1 <<< ((tl i / 100) &&& 31))) else nI i) else nI i := rfl
def tlI (M : Nat → Nat → Int32) (L : Nat → Nat → Int64) (k i : Nat) : Int32 := numI M L k (nI i)
def fwI (M : Nat → Nat → Int32) (L : Nat → Nat → Int64) (k : Nat) (n : Int32) : Int32 := fwF M (tlI M L k) n.toNatClampNeg 0 0
def dyI (M : Nat → Nat → Int32) (L : Nat → Nat → Int64) (s n tl : Int32) : Int32 := if tdI M s n 8 tl = 0 then (if fwI M L (2 + s.toNatClampNeg) n = -1 then 0 else -6) else tdI M s n 8 tl
theorem dy0 {M : Nat → Nat → Int32} {L : Nat → Nat → Int64} {s n tl : Int32} (h : dyI M L s n tl = 0) : tdI M s n 8 tl = 0 := by
  unfold dyI at h
  split at h
  · next h1 => exact h1
  · next h1 => exact absurd h h1
def rowC (M : Nat → Nat → Int32) (L : Nat → Nat → Int64) (s o n : Int32) : fR :=
  if 0 ≤ s ∧ s ≤ 7 then (if 0 ≤ n then (if 0 ≤ o ∧ o ≤ 3 then (if n ≤ 160 then (1, (up2 (up2 M (2 + s.toNatClampNeg) 1 (100 + o)) (2 + s.toNatClampNeg) 2 n, zeL L (2 + s.toNatClampNeg) 160)) else (-7, (rfM M (-7), L))) else (-6, (rfM M (-6), L))) else (-4, (rfM M (-4), L))) else (-1, (rfM M (-1), L))
def setC (M : Nat → Nat → Int32) (L : Nat → Nat → Int64) (s i : Int32) (v : Int64) : fR :=
  if rrI M s = 0 then (if 0 ≤ i ∧ i < M (2 + s.toNatClampNeg) 2 ∧ i < 160 then (1, (M, upL L (2 + s.toNatClampNeg + 8) i.toNatClampNeg (lowF (M (2 + s.toNatClampNeg) 1) v))) else (-5, (rfM M (-5), L))) else (rrI M s, (rfM M (rrI M s), L))
def partP (M : Nat → Nat → Int32) (s i n : Int32) : Prop := 0 ≤ i ∧ i ≤ M (2 + s.toNatClampNeg) 2 ∧ 0 ≤ n ∧ n ≤ M (2 + s.toNatClampNeg) 2 - i
def cpL (L : Nat → Nat → Int64) (p q i j n : Nat) : Nat → Nat → Int64 := upA L q (va_cpy (L p) (L q) i j n)
def copyC (M : Nat → Nat → Int32) (L : Nat → Nat → Int64) (p q i j n : Int32) : fR :=
  if trI M p q = 0 then (if 0 ≤ n then (if 0 ≤ i ∧ i ≤ M (2 + p.toNatClampNeg) 2 ∧ 0 ≤ n ∧ n ≤ M (2 + p.toNatClampNeg) 2 - i then (if 0 ≤ j ∧ j ≤ M (2 + q.toNatClampNeg) 2 ∧ 0 ≤ n ∧ n ≤ M (2 + q.toNatClampNeg) 2 - j then
    (1, (M, cpL L (2 + p.toNatClampNeg + 8) (2 + q.toNatClampNeg + 8) i.toNatClampNeg j.toNatClampNeg n.toNatClampNeg)) else (-5, (rfM M (-5), L))) else (-5, (rfM M (-5), L))) else (-4, (rfM M (-4), L))) else (trI M p q, (rfM M (trI M p q), L))
def elemC (M : Nat → Nat → Int32) (L : Nat → Nat → Int64) (s i : Int32) : Int64 := if 0 ≤ s ∧ s ≤ 7 then (if 0 ≤ i ∧ i < M (2 + s.toNatClampNeg) 2 ∧ i < 160 then L (2 + s.toNatClampNeg + 8) i.toNatClampNeg else 0) else 0
def showC (M : Nat → Nat → Int32) (L : Nat → Nat → Int64) (s w : Int32) : fR :=
  if 0 ≤ s ∧ s ≤ 7 then (if w = -1 then (0, (up2 (up2 M (2 + s.toNatClampNeg) 1 w) (2 + s.toNatClampNeg) 2 0, L)) else if 0 ≤ w ∧ w < M 18 4 ∧ w < 6 then (1, (up2 (up2 M (2 + s.toNatClampNeg) 1 w) (2 + s.toNatClampNeg) 2 0, L)) else (-1, (rfM M (-1), L))) else (-1, (rfM M (-1), L))
def holdsC (M : Nat → Nat → Int32) (s : Int32) : Int32 := if 0 ≤ s ∧ s ≤ 7 then M (2 + s.toNatClampNeg) 1 else -1
def saysC (M : Nat → Nat → Int32) (L : Nat → Nat → Int64) (s k : Int32) : fR :=
  if 0 ≤ s ∧ s ≤ 7 then (if 0 ≤ k ∧ k ≤ 6 then (if 100 ≤ M (2 + s.toNatClampNeg) 1 then (-2, (rfM M (-2), L)) else
    if 0 ≤ M (2 + s.toNatClampNeg) 1 ∧ M (2 + s.toNatClampNeg) 1 < M 18 4 ∧ M (2 + s.toNatClampNeg) 1 < 6 then
      (if unF 7 (M (30 + (M (2 + s.toNatClampNeg) 1).toNatClampNeg) 1) k = true then (wordF k (M (30 + (M (2 + s.toNatClampNeg) 1).toNatClampNeg) 2) (M (30 + (M (2 + s.toNatClampNeg) 1).toNatClampNeg) 3) (M (30 + (M (2 + s.toNatClampNeg) 1).toNatClampNeg) 4) (M (30 + (M (2 + s.toNatClampNeg) 1).toNatClampNeg) 5), (M, L)) else (-2, (rfM M (-2), L)))
    else (-3, (rfM M (-3), L))) else (-1, (rfM M (-1), L))) else (-1, (rfM M (-1), L))
