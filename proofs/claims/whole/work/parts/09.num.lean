/-! numbers -/
theorem nI_of'  (i : Int32) (h : 0 ≤ i) : nI i.toNatClampNeg = i := by
  apply Int32.toInt_inj.mp
  have h2 : (0 : Int) ≤ i.toInt := by simpa using Int32.le_iff_toInt_le.mp h
  have h3 : i.toInt < 2 ^ 31 := Int32.toInt_lt i
  have h4 : (i.toNatClampNeg : Int) = i.toInt := by
    show ((i.toInt.toNat : Nat) : Int) = i.toInt
    omega
  rw [nI_toInt (by omega)]
  exact h4
theorem i_nat {i : Int32} (h : 0 ≤ i) : ∃ t : Nat, t < 2 ^ 31 ∧ i = nI t := by
  refine ⟨i.toNatClampNeg, ?_, (nI_of' i h).symm⟩
  have h3 : i.toInt < 2 ^ 31 := Int32.toInt_lt i
  show i.toInt.toNat < _
  omega
theorem nI_le_iff {a b : Nat} (ha : a < 2 ^ 31) (hb : b < 2 ^ 31) : nI a ≤ nI b ↔ a ≤ b := by
  rw [Int32.le_iff_toInt_le, nI_toInt ha, nI_toInt hb]; omega
theorem nI_lt_iff {a b : Nat} (ha : a < 2 ^ 31) (hb : b < 2 ^ 31) : nI a < nI b ↔ a < b := by
  rw [Int32.lt_iff_toInt_lt, nI_toInt ha, nI_toInt hb]; omega
/-- a number within bounds is a counting number -/
theorem i_le {i : Int32} (n : Nat) (h0 : 0 ≤ i) (h1 : i ≤ nI n) (hn : n < 2 ^ 31) : ∃ t : Nat, t ≤ n ∧ i = nI t := by
  obtain ⟨t, ht, rfl⟩ := i_nat h0
  exact ⟨t, (nI_le_iff ht hn).mp h1, rfl⟩
theorem i_lt {i : Int32} (n : Nat) (h0 : 0 ≤ i) (h1 : i < nI n) (hn : n < 2 ^ 31) : ∃ t : Nat, t < n ∧ i = nI t := by
  obtain ⟨t, ht, rfl⟩ := i_nat h0
  exact ⟨t, (nI_lt_iff ht hn).mp h1, rfl⟩
theorem fIx_lt {i : Int32} (n : Nat) (h0 : 0 ≤ i) (h1 : i < nI n) (hn : n < 2 ^ 31) : fIx i n i.toNatClampNeg := by
  obtain ⟨t, ht, rfl⟩ := i_lt n h0 h1 hn
  rw [nI_clamp (by omega)]
  exact fIx_nI ht hn
theorem ti_add {a b : Int32} (h : -2147483648 ≤ a.toInt + b.toInt ∧ a.toInt + b.toInt < 2147483648) : (a + b).toInt = a.toInt + b.toInt := by
  rw [Int32.toInt_add, Int.bmod_eq_of_le (by omega) (by omega)]
theorem ti_sub {a b : Int32} (h : -2147483648 ≤ a.toInt - b.toInt ∧ a.toInt - b.toInt < 2147483648) : (a - b).toInt = a.toInt - b.toInt := by
  rw [Int32.toInt_sub, Int.bmod_eq_of_le (by omega) (by omega)]
/-! what the document says of one waiter, one thing, one element, in ints -/
/-- the lowest bits that a row of a kind keeps -/
def lowF (h : Int32) (v : Int64) : Int64 := if h - 100 = 0 then v.toInt32.toInt8.toInt32.toInt64 else if h - 100 = 1 then v.toInt32.toInt16.toInt32.toInt64 else if h - 100 = 2 then v.toInt32.toInt64 else v
def wouldF (kd a pat hope : Int32) : Int32 := if kd = 1 then 2 * pat else if kd = 2 then pat + a else if kd = 3 then 24 else if kd = 4 then (pat + 1) / 2 else if kd = 5 then (if 1 < pat + a - 1 then pat + a - 1 else 1) else if kd = 6 then (pat + 1) / 2 + hope else pat
def holdF (kd a pat hope : Int32) : Int32 := if wouldF kd a pat hope < 24 then wouldF kd a pat hope else 24
def masterF (a pay n : Int32) : Int32 := if n = 0 then 0 else pay * n + a
def wageF (kd a pay pat hope n : Int32) : Int32 := if kd = 1 then masterF a pay n else if kd = 2 then (pay * n + 1) / 2 else if kd = 3 then masterF a pay (if pat < n then pat else n) else if kd = 4 then pay * (if 0 < n - a then n - a else 0) else if kd = 5 then (if n = 0 then 0 else (pay * n + 1) / 2 + 1) else if kd = 6 then pay * (if 0 < n - a then n - a else 0) + hope * n else pay * n
def sightF (kd : Int32) : Int32 := if kd = 1 then 1 else if kd = 6 then 1 else if kd = 3 then 2 else 0
def wordF (t a pay pat at1 : Int32) : Int32 := if t = 1 then pat else if t = 2 then a else if t = 3 then pat else if t = 4 then pay else if t = 5 then a else if t = 6 then pay else at1
def byF (f l q : Int32) : Int32 := if 0 < (if l < q then l else q) - f + 1 then (if l < q then l else q) - f + 1 else 0
/-- element i of the row in cell k, as an int -/
def numI (M : Nat → Nat → Int32) (L : Nat → Nat → Int64) (k : Nat) (i : Int32) : Int32 := (if 0 ≤ i ∧ i < M k 2 ∧ i < 160 then L (k + 8) i.toNatClampNeg else 0).toInt32
def zeL (L : Nat → Nat → Int64) (k n : Nat) : Nat → Nat → Int64 := fun a j => if a = k + 8 ∧ j < n then 0 else L a j
theorem zeL_s {L : Nat → Nat → Int64} {k n : Nat} : upL (zeL L k n) (k + 8) n 0 = zeL L k (n + 1) := by
  funext a j
  rw [upL_at]
  unfold zeL
  by_cases h : a = k + 8 ∧ j = n
  · rw [if_pos h, if_pos (by omega)]
  · rw [if_neg h]
    by_cases h2 : a = k + 8 ∧ j < n
    · rw [if_pos h2, if_pos (by omega)]
    · rw [if_neg h2, if_neg (by omega)]
theorem fP_eqL {E : fE} {M : Nat → Nat → Int32} {A B : Nat → Nat → Int64} {H : Heap} (h : B = A) (hP : fP E M B H) : fP E M A H := h ▸ hP
