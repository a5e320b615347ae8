/-! indices of the reference's arrays -/
theorem fIx_cnt {w z : Int32} {k : Nat} (n : Nat) (h0 : 0 ≤ w) (h1 : w < z) (hz : z = nI k) (hk : k ≤ n) (hn : n < 2 ^ 31) : fIx w n w.toNatClampNeg := by
  subst hz
  obtain ⟨t, ht, rfl⟩ := i_lt k h0 h1 (by omega)
  rw [nI_clamp (by omega)]
  exact fIx_nI (by omega) hn
theorem fIx_eq {i : Int32} {n q : Nat} (h : fIx i n q) : i = nI q := by
  obtain ⟨h1, h2, h3⟩ := h
  obtain ⟨t, ht, rfl⟩ := i_nat (Int32.not_lt.mp h1)
  rw [nI_clamp ht] at h2
  rw [h2]
theorem nI_mul (a b : Nat) : nI a * nI b = nI (a * b) := by
  unfold nI
  apply Int32.toBitVec_inj.mp
  simp [Int32.toBitVec_mul, BitVec.ofNat_mul]
theorem fIx_cell {s i : Int32} {s0 i0 : Nat} (hs : fIx s 8 s0) (hi : fIx i 160 i0) : fIx (160 * s + i) 1280 (160 * s0 + i0) := by
  have h1 := hs.2.2
  have h2 := hi.2.2
  rw [fIx_eq hs, fIx_eq hi, show (160 : Int32) = nI 160 from rfl, nI_mul, nI_add]
  exact fIx_nI (by omega) (by decide)
def noM (M : Nat → Nat → Int32) (b : Int32) : Nat → Nat → Int32 := up2 M 87 (-b).toNatClampNeg (M 87 (-b).toNatClampNeg + 1)
theorem fIx_sz {i z : Int32} (h0 : ¬ i < 0) (h1 : i < z) (hz : 0 ≤ z ∧ z ≤ 160) : fIx i 160 i.toNatClampNeg := fIx_lt 160 (Int32.not_lt.mp h0) (Int32.lt_of_lt_of_le h1 hz.2) (by decide)
