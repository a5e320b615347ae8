theorem ix_w {w : Int32} (h : 11 ≤ w ∧ w ≤ 17) : fIx (w - 10) 8 (w - 10).toNatClampNeg := by
  have e1 : (w - 10).toInt = w.toInt - 10 := by
    have h1 := Int32.le_iff_toInt_le.mp h.1
    have h2 := Int32.le_iff_toInt_le.mp h.2
    have e11 : (11 : Int32).toInt = 11 := rfl
    have e17 : (17 : Int32).toInt = 17 := rfl
    rw [Int32.toInt_sub, show (10 : Int32).toInt = 10 from rfl, Int.bmod_eq_of_le (by omega) (by omega)]
  have h1 := Int32.le_iff_toInt_le.mp h.1
  have h2 := Int32.le_iff_toInt_le.mp h.2
  have e11 : (11 : Int32).toInt = 11 := rfl
  have e17 : (17 : Int32).toInt = 17 := rfl
  have e7 : (7 : Int32).toInt = 7 := rfl
  exact fIx_le 7 (Int32.le_iff_toInt_le.mpr (by rw [e1]; show (0 : Int) ≤ _; omega)) (Int32.le_iff_toInt_le.mpr (by rw [e1]; show _ ≤ (7 : Int32).toInt; omega)) (by decide)
