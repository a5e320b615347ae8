/-! the calls that look at a told day, and the days that pass -/
theorem nI_self {k : Int32} (n : Nat) (h : 0 ≤ k ∧ k ≤ nI n) (hn : n < 2 ^ 31) : k = nI k.toNatClampNeg ∧ k.toNatClampNeg ≤ n := by
  obtain ⟨t, ht, rfl⟩ := i_le n h.1 h.2 hn
  rw [nI_clamp (by omega)]
  exact ⟨rfl, ht⟩
theorem sz_at {M : Nat → Nat → Int32} {s : Nat} (h : szOK M) (hs : s < 8) : M (2 + s) 2 = nI (M (2 + s) 2).toNatClampNeg ∧ (M (2 + s) 2).toNatClampNeg ≤ 160 := nI_self 160 (h s hs) (by decide)
def lfF (M : Nat → Nat → Int32) (L : Nat → Nat → Int64) (tl : Nat → Int32) (tc : Nat) : Nat → Nat → Int32 → fR
  | 0, _, b => (b, (M, L))
  | f + 1, i, b => if 0 ≤ tl i ∧ tl i ≤ 23 then lfF M L tl tc f (i + 1) (b &&& inI (fun t => (M (18 + 4 + t) 1)) (fun t => (M (18 + 4 + t) 2)) (tl i) tc) else (-6, (rfM M (-6), L))
theorem lfF_s (M : Nat → Nat → Int32) (L : Nat → Nat → Int64) (tl : Nat → Int32) (tc f i : Nat) (b : Int32) : lfF M L tl tc (f + 1) i b = if 0 ≤ tl i ∧ tl i ≤ 23 then lfF M L tl tc f (i + 1) (b &&& inI (fun t => (M (18 + 4 + t) 1)) (fun t => (M (18 + 4 + t) 2)) (tl i) tc) else (-6, (rfM M (-6), L)) := rfl
def leftC (M : Nat → Nat → Int32) (L : Nat → Nat → Int64) (s n : Int32) (tc : Nat) : fR :=
  if tdI M s n 40 1 = 0 then lfF M L (tlI M L (2 + s.toNatClampNeg)) tc n.toNatClampNeg 0 ((1 <<< ((M 18 3) &&& 31)) - 1) else (tdI M s n 40 1, (rfM M (tdI M s n 40 1), L))
def metT (M : Nat → Nat → Int32) (x : Int32) : Bool := mayG M x && decide (¬ tQ x = 99 ∧ M (18 + 4 + tT x) 6 ≤ M (18 + 4 + tT x) 5)
def worT (M : Nat → Nat → Int32) (x : Int32) : Int32 := if mayG M x = true then M (18 + 4 + tT x) 4 else 0
def bhF (M : Nat → Nat → Int32) (tl : Nat → Int32) (n : Nat) : Int32 × Int32 × Int32 := itF (fun i r => if tl i - tl i / 100 * 100 = 99 then (r.1, r.2.1, r.2.2 + 1) else if metT M (tl i) = true then (r.1 + 1, r.2.1 + worT M (tl i), r.2.2) else r) (0, 0, 0) n
def behindC (M : Nat → Nat → Int32) (L : Nat → Nat → Int64) (s n what : Int32) : fR :=
  if dyI M L s n (bI (decide (0 ≤ what ∧ what ≤ 2))) = 0 then ((if what = 0 then (bhF M (tlI M L (2 + s.toNatClampNeg)) n.toNatClampNeg).1 else if what = 1 then (bhF M (tlI M L (2 + s.toNatClampNeg)) n.toNatClampNeg).2.1 else (bhF M (tlI M L (2 + s.toNatClampNeg)) n.toNatClampNeg).2.2), (M, L)) else (dyI M L s n (bI (decide (0 ≤ what ∧ what ≤ 2))), (rfM M (dyI M L s n (bI (decide (0 ≤ what ∧ what ≤ 2)))), L))
def dnF (M : Nat → Nat → Int32) (L : Nat → Nat → Int64) (k n : Nat) : Nat → Nat → Int32 := itF (fun i D => if metT D (tlI D L k i) = true then up2 D 18 7 (D 18 7 + worT D (tlI D L k i)) else D) M n
def doneC (M : Nat → Nat → Int32) (L : Nat → Nat → Int64) (s n : Int32) : fR :=
  if dyI M L s n 1 = 0 then (dnF M L (2 + s.toNatClampNeg) n.toNatClampNeg 18 7, (up2 (dnF M L (2 + s.toNatClampNeg) n.toNatClampNeg) 18 6 (dnF M L (2 + s.toNatClampNeg) n.toNatClampNeg 18 6 + 1), L)) else (dyI M L s n 1, (rfM M (dyI M L s n 1), L))
def pdF (M : Nat → Nat → Int32) (tc wc : Nat) : Nat → Nat → Int32 := (up2 (up2 (up2 (up2 M 18 9 (dayI (fun t => (M (18 + 4 + t) 1)) (fun t => (M (18 + 4 + t) 2)) (fun t => (M (18 + 4 + t) 3)) (fun t => (M (18 + 4 + t) 4)) (fun t => (M (18 + 4 + t) 5)) (fun t => (M (18 + 4 + t) 6)) (M 18 9) (M 18 7) tc).1) 18 7 (dayI (fun t => (M (18 + 4 + t) 1)) (fun t => (M (18 + 4 + t) 2)) (fun t => (M (18 + 4 + t) 3)) (fun t => (M (18 + 4 + t) 4)) (fun t => (M (18 + 4 + t) 5)) (fun t => (M (18 + 4 + t) 6)) (M 18 9) (M 18 7) tc).2) 18 8 (wagesI (fun w => (M (18 + 12 + w) 1)) (fun w => (M (18 + 12 + w) 2)) (fun w => (M (18 + 12 + w) 3)) (fun w => (M (18 + 12 + w) 4)) (M 18 5) (M 18 8) wc)) 18 6 ((M 18 6) + 1))
theorem pdF_3 {M : Nat → Nat → Int32} {tc wc : Nat} : pdF M tc wc 18 3 = M 18 3 := by
  unfold pdF
  rw [up2_o _ _ (Or.inr (by decide)), up2_o _ _ (Or.inr (by decide)), up2_o _ _ (Or.inr (by decide)), up2_o _ _ (Or.inr (by decide))]
theorem pdF_4 {M : Nat → Nat → Int32} {tc wc : Nat} : pdF M tc wc 18 4 = M 18 4 := by
  unfold pdF
  rw [up2_o _ _ (Or.inr (by decide)), up2_o _ _ (Or.inr (by decide)), up2_o _ _ (Or.inr (by decide)), up2_o _ _ (Or.inr (by decide))]
def dvF (M : Nat → Nat → Int32) (tc wc n : Nat) : Nat → Nat → Int32 := itF (fun _ D => pdF D tc wc) M n
def daysC (M : Nat → Nat → Int32) (L : Nat → Nat → Int64) (n : Int32) (tc wc : Nat) : fR := if 1 ≤ n ∧ n ≤ 60 then (dvF M tc wc n.toNatClampNeg 18 7, (dvF M tc wc n.toNatClampNeg, L)) else (-6, (rfM M (-6), L))
def rsF (D : Nat → Nat → Int32) (s : Nat) : Nat → Nat → Int32 := if 100 ≤ D (2 + s) 1 then D else if 0 ≤ D (2 + s) 1 ∧ D (2 + s) 1 < D 18 4 ∧ D (2 + s) 1 < 6 then D else up2 (up2 D (2 + s) 1 (-1)) (2 + s) 2 0
def rsM (M : Nat → Nat → Int32) (n : Nat) : Nat → Nat → Int32 := itF (fun s D => rsF D s) M n
def restC (M : Nat → Nat → Int32) (L : Nat → Nat → Int64) : fR := if M 0 7 = 0 then (-6, (rfM M (-6), L)) else (rsM (cpG M 18 36) 8 18 4, (rsM (cpG M 18 36) 8, L))
