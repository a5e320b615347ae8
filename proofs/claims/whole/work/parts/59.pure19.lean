theorem n_self {n : Int32} (h : 0 ≤ n) : n = nI n.toNatClampNeg := by
  obtain ⟨t, ht, rfl⟩ := i_nat h
  rw [nI_clamp ht]
theorem part_2 {i z n : Int32} (h0 : 0 ≤ i) (h1 : i ≤ z - n) (hn : 0 ≤ n) (hz : 0 ≤ z ∧ z ≤ 160) : i.toNatClampNeg + n.toNatClampNeg ≤ 160 ∧ n.toNatClampNeg ≤ 160 := by
  have a0 := Int32.le_iff_toInt_le.mp h0
  have a1 := Int32.le_iff_toInt_le.mp h1
  have a2 := Int32.le_iff_toInt_le.mp hn
  have a3 := Int32.le_iff_toInt_le.mp hz.1
  have a4 := Int32.le_iff_toInt_le.mp hz.2
  have e0 : (0 : Int32).toInt = 0 := rfl
  have e1 : (160 : Int32).toInt = 160 := rfl
  have b1 := Int32.toInt_lt n
  have e : (z - n).toInt = z.toInt - n.toInt := by
    rw [Int32.toInt_sub, Int.bmod_eq_of_le (by omega) (by omega)]
  have c1 : i.toNatClampNeg = i.toInt.toNat := rfl
  have c2 : n.toNatClampNeg = n.toInt.toNat := rfl
  omega
theorem fIx_cell3 {s i : Int32} {s0 k : Nat} (hs : fIx s 8 s0) (hi : ¬ i < 0) (hk : i.toNatClampNeg + k < 160) : fIx (160 * s + i + nI k) 1280 (160 * s0 + i.toNatClampNeg + k) := by
  have h1 := hs.2.2
  have e1 := fIx_eq hs
  have e2 := n_self (Int32.not_lt.mp hi)
  rw [e1]
  have : 160 * nI s0 + i + nI k = nI (160 * s0 + i.toNatClampNeg + k) := by
    rw [← nI_add, ← nI_add, ← nI_mul, ← e2]
    rfl
  rw [this]
  exact fIx_nI (by omega) (by decide)
def crL (L : Nat → Nat → Int64) (s i n : Nat) : Nat → Nat → Int64 := fun a j => if a = 105 ∧ j < n then L 104 (160 * s + i + j) else L a j
def cwL (L : Nat → Nat → Int64) (s i n : Nat) : Nat → Nat → Int64 := fun a j => if a = 104 ∧ 160 * s + i ≤ j ∧ j < 160 * s + i + n then L 105 (j - (160 * s + i)) else L a j
theorem crL_0 {L : Nat → Nat → Int64} {s i : Nat} : L = crL L s i 0 := by
  funext a j
  exact (if_neg (by omega)).symm
theorem cwL_0 {L : Nat → Nat → Int64} {s i : Nat} : L = cwL L s i 0 := by
  funext a j
  exact (if_neg (by omega)).symm
theorem crL_s {L : Nat → Nat → Int64} {s i n : Nat} : upL (crL L s i n) 105 n (crL L s i n 104 (160 * s + i + n)) = crL L s i (n + 1) := by
  funext a j
  rw [upL_at]
  unfold crL
  by_cases h : a = 105 ∧ j = n
  · obtain ⟨rfl, rfl⟩ := h
    rw [if_pos ⟨rfl, rfl⟩, if_neg (by omega), if_pos (by omega)]
  · rw [if_neg h]
    by_cases h2 : a = 105 ∧ j < n
    · rw [if_pos h2, if_pos (by omega)]
    · rw [if_neg h2, if_neg (by omega)]
theorem cwL_s {L : Nat → Nat → Int64} {s i n : Nat} : upL (cwL L s i n) 104 (160 * s + i + n) (cwL L s i n 105 n) = cwL L s i (n + 1) := by
  funext a j
  rw [upL_at]
  unfold cwL
  by_cases h : a = 104 ∧ j = 160 * s + i + n
  · obtain ⟨rfl, rfl⟩ := h
    rw [if_pos ⟨rfl, rfl⟩, if_neg (by omega), if_pos (by omega)]
    congr 1
    omega
  · rw [if_neg h]
    by_cases h2 : a = 104 ∧ 160 * s + i ≤ j ∧ j < 160 * s + i + n
    · rw [if_pos h2, if_pos (by omega)]
    · rw [if_neg h2, if_neg (by omega)]
