set_option maxHeartbeats 1000000 in
set_option maxRecDepth 100000 in
theorem c_X8_no (l : Launch) (E : fE) (M : Nat → Nat → Int32) (L : Nat → Nat → Int64) (rf : Int32) (hbb : 0 ≤ -rf ∧ -rf ≤ 7) : Met l yX8_no (wl yX8_no cX8_no 2 (some .int)) (fRm 0 0) (va_Pc [.ref (fad E 86), .int rf] (fPre E M L)) (fQi E (fun r u => u = ((noM M rf), L) ∧ r = rf)) 0 0 (fA E) := by
  refine f_head (by decide) (Nat.le_of_ble_eq_true rfl) ?_
  intro pg ev s mi below meth cd ls X hr hlk hP hS hl
  have hx := X.1.1
  have hb := X.1.2.1
  have hl : lv_has ls 2 [(0, .ref (fad E 86)), (1, .int rf)] := hl
  refine lv_aload_n hx hb dX8_no_0 rfl (lv_at hl 0 rfl) ?_
  refine f_get X hP (T := TX8) (ci := 8) (k := 86) rfl inX8 rfl 8 (by decide) m_4_182 rfl (v := .ref (fad E 87)) rfl dX8_no_1 ?_
  refine lv_iload_n hx hb dX8_no_4 rfl (lv_at hl 1 rfl) ?_
  refine lv_ineg hx hb dX8_no_5 ?_
  refine lv_dup2_11 hx hb dX8_no_6 rfl rfl ?_
  have hix_1 : fIx (-rf) 8 ((-rf).toNatClampNeg) := by
    first
      | exact fIx_lt 8 hbb.1 hbb.2 (by decide)
      | exact fIx_le 7 hbb.1 hbb.2 (by decide)
      | exact fIx_lt 8 hbb.1 hbb.2.2 (by decide)
      | exact fIx_le 7 (rr0 hbb).1.1 (rr0 hbb).1.2 (by decide)
      | (refine fIx_lt 8 (show (0 : Int32) ≤ (-rf) from ?_) (show (-rf) < (8 : Int32) from ?_) (by decide) <;> (have e0_9 : (0 : Int32).toInt = 0 := rfl; have en_9 : (8 : Int32).toInt = 8 := rfl; simp only [Int32.lt_iff_toInt_lt, Int32.le_iff_toInt_le, Int32.not_lt, Int32.not_le, ← Int32.toInt_inj] at *; omega))
  have hlt_1 := hix_1.2.2
  refine f_iald X hP (k := 87) (n := 8) (q := (-rf).toNatClampNeg) rfl rfl hix_1 dX8_no_7 ?_
  refine lv_iconst (v := 1) hx hb dX8_no_8 (by decide) ?_
  refine lv_iadd hx hb dX8_no_9 ?_
  refine f_iast X hP hS (k := 87) (n := 8) (q := (-rf).toNatClampNeg) rfl rfl (v := ((M 87 ((-rf).toNatClampNeg)) + 1)) hix_1 dX8_no_10 (fun H locs hP hS => ?_)
  refine lv_iload_n hx hb dX8_no_11 rfl (lv_at hl 1 rfl) ?_
  refine f_ir X hlk hr (v := rf) rfl hP hS ?_ dX8_no_12
  exact ⟨rfl, rfl⟩

set_option maxHeartbeats 1000000 in
set_option maxRecDepth 100000 in
theorem c_X8_noTen (l : Launch) (E : fE) (M : Nat → Nat → Int32) (L : Nat → Nat → Int64) (rf : Int32) (hbb : 0 ≤ -rf ∧ -rf ≤ 7) : Met l yX8_noTen (wl yX8_noTen cX8_noTen 2 (some .int)) (fRm 0 0) (va_Pc [.ref (fad E 86), .int rf] (fPre E M L)) (fQi E (fun r u => u = ((noM M rf), L) ∧ r = (rf - 10))) 0 0 (fA E) := by
  refine f_head (by decide) (Nat.le_of_ble_eq_true rfl) ?_
  intro pg ev s mi below meth cd ls X hr hlk hP hS hl
  have hx := X.1.1
  have hb := X.1.2.1
  have hl : lv_has ls 2 [(0, .ref (fad E 86)), (1, .int rf)] := hl
  refine lv_aload_n hx hb dX8_noTen_0 rfl (lv_at hl 0 rfl) ?_
  refine f_get X hP (T := TX8) (ci := 8) (k := 86) rfl inX8 rfl 8 (by decide) m_4_182 rfl (v := .ref (fad E 87)) rfl dX8_noTen_1 ?_
  refine lv_iload_n hx hb dX8_noTen_4 rfl (lv_at hl 1 rfl) ?_
  refine lv_ineg hx hb dX8_noTen_5 ?_
  refine lv_dup2_11 hx hb dX8_noTen_6 rfl rfl ?_
  have hix_1 : fIx (-rf) 8 ((-rf).toNatClampNeg) := by
    first
      | exact fIx_lt 8 hbb.1 hbb.2 (by decide)
      | exact fIx_le 7 hbb.1 hbb.2 (by decide)
      | exact fIx_lt 8 hbb.1 hbb.2.2 (by decide)
      | exact fIx_le 7 (rr0 hbb).1.1 (rr0 hbb).1.2 (by decide)
      | (refine fIx_lt 8 (show (0 : Int32) ≤ (-rf) from ?_) (show (-rf) < (8 : Int32) from ?_) (by decide) <;> (have e0_9 : (0 : Int32).toInt = 0 := rfl; have en_9 : (8 : Int32).toInt = 8 := rfl; simp only [Int32.lt_iff_toInt_lt, Int32.le_iff_toInt_le, Int32.not_lt, Int32.not_le, ← Int32.toInt_inj] at *; omega))
  have hlt_1 := hix_1.2.2
  refine f_iald X hP (k := 87) (n := 8) (q := (-rf).toNatClampNeg) rfl rfl hix_1 dX8_noTen_7 ?_
  refine lv_iconst (v := 1) hx hb dX8_noTen_8 (by decide) ?_
  refine lv_iadd hx hb dX8_noTen_9 ?_
  refine f_iast X hP hS (k := 87) (n := 8) (q := (-rf).toNatClampNeg) rfl rfl (v := ((M 87 ((-rf).toNatClampNeg)) + 1)) hix_1 dX8_noTen_10 (fun H locs hP hS => ?_)
  refine lv_iload_n hx hb dX8_noTen_11 rfl (lv_at hl 1 rfl) ?_
  refine lv_bipush (v := 10) hx hb dX8_noTen_12 (by decide) ?_
  refine lv_isub hx hb dX8_noTen_14 ?_
  refine f_ir X hlk hr (v := (rf - 10)) rfl hP hS ?_ dX8_noTen_15
  exact ⟨rfl, rfl⟩

set_option maxHeartbeats 4000000 in
set_option maxRecDepth 100000 in
theorem c_X8_isShelf (l : Launch) (E : fE) (M : Nat → Nat → Int32) (L : Nat → Nat → Int64) (s1 : Int32) : Met l yX8_isShelf (wl yX8_isShelf cX8_isShelf 2 (some .boolean)) (fRm 0 0) (va_Pc [.ref (fad E 86), .int s1] (fPre E M L)) (fQi E (fun r u => u = (M, L) ∧ r = bI (decide (0 ≤ s1 ∧ s1 < 8)))) 0 0 (fA E) := by
  refine f_head (by decide) (Nat.le_of_ble_eq_true rfl) ?_
  intro pg ev s mi below meth cd ls X hr hlk hP hS hl
  have hx := X.1.1
  have hb := X.1.2.1
  have hl : lv_has ls 2 [(0, .ref (fad E 86)), (1, .int s1)] := hl
  refine lv_iload_n hx hb dX8_isShelf_0 rfl (lv_at hl 1 rfl) ?_
  refine lv_if_lt (tgt := 14) hx hb dX8_isShelf_1 (by decide) (fun c_1 => ?_) (fun c_1 => ?_)
  · refine lv_iconst (v := 0) hx hb dX8_isShelf_14 (by decide) ?_
    refine f_ir X hlk hr (v := 0) rfl hP hS ?_ dX8_isShelf_15
    refine ⟨rfl, ?_⟩; first | exact (bIe (by intro h; (simp only [Int32.lt_iff_toInt_lt, Int32.le_iff_toInt_le, ← Int32.toInt_inj] at *; omega))).symm | exact (bIt (by (simp only [Int32.lt_iff_toInt_lt, Int32.le_iff_toInt_le, ← Int32.toInt_inj] at *; omega))).symm
  · refine lv_iload_n hx hb dX8_isShelf_4 rfl (lv_at hl 1 rfl) ?_
    refine lv_bipush (v := 8) hx hb dX8_isShelf_5 (by decide) ?_
    refine lv_icmp_ge (tgt := 14) hx hb dX8_isShelf_7 (by decide) (fun c_7 => ?_) (fun c_7 => ?_)
    · refine lv_iconst (v := 0) hx hb dX8_isShelf_14 (by decide) ?_
      refine f_ir X hlk hr (v := 0) rfl hP hS ?_ dX8_isShelf_15
      refine ⟨rfl, ?_⟩; first | exact (bIe (by intro h; (simp only [Int32.lt_iff_toInt_lt, Int32.le_iff_toInt_le, ← Int32.toInt_inj] at *; omega))).symm | exact (bIt (by (simp only [Int32.lt_iff_toInt_lt, Int32.le_iff_toInt_le, ← Int32.toInt_inj] at *; omega))).symm
    · refine lv_iconst (v := 1) hx hb dX8_isShelf_10 (by decide) ?_
      refine lv_goto (tgt := 15) hx hb dX8_isShelf_11 (by decide) ?_
      refine f_ir X hlk hr (v := 1) rfl hP hS ?_ dX8_isShelf_15
      refine ⟨rfl, ?_⟩; first | exact (bIe (by intro h; (simp only [Int32.lt_iff_toInt_lt, Int32.le_iff_toInt_le, ← Int32.toInt_inj] at *; omega))).symm | exact (bIt (by (simp only [Int32.lt_iff_toInt_lt, Int32.le_iff_toInt_le, ← Int32.toInt_inj] at *; omega))).symm

set_option maxHeartbeats 4000000 in
set_option maxRecDepth 100000 in
theorem c_X8_isWaiter (l : Launch) (E : fE) (M : Nat → Nat → Int32) (L : Nat → Nat → Int64) (w : Int32) : Met l yX8_isWaiter (wl yX8_isWaiter cX8_isWaiter 2 (some .boolean)) (fRm 0 0) (va_Pc [.ref (fad E 86), .int w] (fPre E M L)) (fQi E (fun r u => u = (M, L) ∧ r = bI (decide (0 ≤ w ∧ w < (M 86 0))))) 0 0 (fA E) := by
  refine f_head (by decide) (Nat.le_of_ble_eq_true rfl) ?_
  intro pg ev s mi below meth cd ls X hr hlk hP hS hl
  have hx := X.1.1
  have hb := X.1.2.1
  have hl : lv_has ls 2 [(0, .ref (fad E 86)), (1, .int w)] := hl
  refine lv_iload_n hx hb dX8_isWaiter_0 rfl (lv_at hl 1 rfl) ?_
  refine lv_if_lt (tgt := 16) hx hb dX8_isWaiter_1 (by decide) (fun c_1 => ?_) (fun c_1 => ?_)
  · refine lv_iconst (v := 0) hx hb dX8_isWaiter_16 (by decide) ?_
    refine f_ir X hlk hr (v := 0) rfl hP hS ?_ dX8_isWaiter_17
    refine ⟨rfl, ?_⟩; first | exact (bIe (by intro h; (simp only [Int32.lt_iff_toInt_lt, Int32.le_iff_toInt_le, ← Int32.toInt_inj] at *; omega))).symm | exact (bIt (by (simp only [Int32.lt_iff_toInt_lt, Int32.le_iff_toInt_le, ← Int32.toInt_inj] at *; omega))).symm
  · refine lv_iload_n hx hb dX8_isWaiter_4 rfl (lv_at hl 1 rfl) ?_
    refine lv_aload_n hx hb dX8_isWaiter_5 rfl (lv_at hl 0 rfl) ?_
    refine f_get X hP (T := TX8) (ci := 8) (k := 86) rfl inX8 rfl 0 (by decide) m_4_174 rfl (v := .int (M 86 0)) rfl dX8_isWaiter_6 ?_
    refine lv_icmp_ge (tgt := 16) hx hb dX8_isWaiter_9 (by decide) (fun c_9 => ?_) (fun c_9 => ?_)
    · refine lv_iconst (v := 0) hx hb dX8_isWaiter_16 (by decide) ?_
      refine f_ir X hlk hr (v := 0) rfl hP hS ?_ dX8_isWaiter_17
      refine ⟨rfl, ?_⟩; first | exact (bIe (by intro h; (simp only [Int32.lt_iff_toInt_lt, Int32.le_iff_toInt_le, ← Int32.toInt_inj] at *; omega))).symm | exact (bIt (by (simp only [Int32.lt_iff_toInt_lt, Int32.le_iff_toInt_le, ← Int32.toInt_inj] at *; omega))).symm
    · refine lv_iconst (v := 1) hx hb dX8_isWaiter_12 (by decide) ?_
      refine lv_goto (tgt := 17) hx hb dX8_isWaiter_13 (by decide) ?_
      refine f_ir X hlk hr (v := 1) rfl hP hS ?_ dX8_isWaiter_17
      refine ⟨rfl, ?_⟩; first | exact (bIe (by intro h; (simp only [Int32.lt_iff_toInt_lt, Int32.le_iff_toInt_le, ← Int32.toInt_inj] at *; omega))).symm | exact (bIt (by (simp only [Int32.lt_iff_toInt_lt, Int32.le_iff_toInt_le, ← Int32.toInt_inj] at *; omega))).symm

set_option maxHeartbeats 4000000 in
set_option maxRecDepth 100000 in
theorem c_X8_isThing (l : Launch) (E : fE) (M : Nat → Nat → Int32) (L : Nat → Nat → Int64) (t : Int32) : Met l yX8_isThing (wl yX8_isThing cX8_isThing 2 (some .boolean)) (fRm 0 0) (va_Pc [.ref (fad E 86), .int t] (fPre E M L)) (fQi E (fun r u => u = (M, L) ∧ r = bI (decide (0 ≤ t ∧ t < (M 86 1))))) 0 0 (fA E) := by
  refine f_head (by decide) (Nat.le_of_ble_eq_true rfl) ?_
  intro pg ev s mi below meth cd ls X hr hlk hP hS hl
  have hx := X.1.1
  have hb := X.1.2.1
  have hl : lv_has ls 2 [(0, .ref (fad E 86)), (1, .int t)] := hl
  refine lv_iload_n hx hb dX8_isThing_0 rfl (lv_at hl 1 rfl) ?_
  refine lv_if_lt (tgt := 16) hx hb dX8_isThing_1 (by decide) (fun c_1 => ?_) (fun c_1 => ?_)
  · refine lv_iconst (v := 0) hx hb dX8_isThing_16 (by decide) ?_
    refine f_ir X hlk hr (v := 0) rfl hP hS ?_ dX8_isThing_17
    refine ⟨rfl, ?_⟩; first | exact (bIe (by intro h; (simp only [Int32.lt_iff_toInt_lt, Int32.le_iff_toInt_le, ← Int32.toInt_inj] at *; omega))).symm | exact (bIt (by (simp only [Int32.lt_iff_toInt_lt, Int32.le_iff_toInt_le, ← Int32.toInt_inj] at *; omega))).symm
  · refine lv_iload_n hx hb dX8_isThing_4 rfl (lv_at hl 1 rfl) ?_
    refine lv_aload_n hx hb dX8_isThing_5 rfl (lv_at hl 0 rfl) ?_
    refine f_get X hP (T := TX8) (ci := 8) (k := 86) rfl inX8 rfl 1 (by decide) m_4_175 rfl (v := .int (M 86 1)) rfl dX8_isThing_6 ?_
    refine lv_icmp_ge (tgt := 16) hx hb dX8_isThing_9 (by decide) (fun c_9 => ?_) (fun c_9 => ?_)
    · refine lv_iconst (v := 0) hx hb dX8_isThing_16 (by decide) ?_
      refine f_ir X hlk hr (v := 0) rfl hP hS ?_ dX8_isThing_17
      refine ⟨rfl, ?_⟩; first | exact (bIe (by intro h; (simp only [Int32.lt_iff_toInt_lt, Int32.le_iff_toInt_le, ← Int32.toInt_inj] at *; omega))).symm | exact (bIt (by (simp only [Int32.lt_iff_toInt_lt, Int32.le_iff_toInt_le, ← Int32.toInt_inj] at *; omega))).symm
    · refine lv_iconst (v := 1) hx hb dX8_isThing_12 (by decide) ?_
      refine lv_goto (tgt := 17) hx hb dX8_isThing_13 (by decide) ?_
      refine f_ir X hlk hr (v := 1) rfl hP hS ?_ dX8_isThing_17
      refine ⟨rfl, ?_⟩; first | exact (bIe (by intro h; (simp only [Int32.lt_iff_toInt_lt, Int32.le_iff_toInt_le, ← Int32.toInt_inj] at *; omega))).symm | exact (bIt (by (simp only [Int32.lt_iff_toInt_lt, Int32.le_iff_toInt_le, ← Int32.toInt_inj] at *; omega))).symm

set_option maxHeartbeats 4000000 in
set_option maxRecDepth 100000 in
theorem c_X8_isFrom (l : Launch) (E : fE) (M : Nat → Nat → Int32) (L : Nat → Nat → Int64) (v : Int32) (lo : Int32) (hi : Int32) : Met l yX8_isFrom (wl yX8_isFrom cX8_isFrom 4 (some .boolean)) (fRm 0 0) (va_Pc [.ref (fad E 86), .int v, .int lo, .int hi] (fPre E M L)) (fQi E (fun r u => u = (M, L) ∧ r = bI (decide (lo ≤ v ∧ v ≤ hi)))) 0 0 (fA E) := by
  refine f_head (by decide) (Nat.le_of_ble_eq_true rfl) ?_
  intro pg ev s mi below meth cd ls X hr hlk hP hS hl
  have hx := X.1.1
  have hb := X.1.2.1
  have hl : lv_has ls 4 [(0, .ref (fad E 86)), (1, .int v), (2, .int lo), (3, .int hi)] := hl
  refine lv_iload_n hx hb dX8_isFrom_0 rfl (lv_at hl 1 rfl) ?_
  refine lv_iload_n hx hb dX8_isFrom_1 rfl (lv_at hl 2 rfl) ?_
  refine lv_icmp_lt (tgt := 14) hx hb dX8_isFrom_2 (by decide) (fun c_2 => ?_) (fun c_2 => ?_)
  · refine lv_iconst (v := 0) hx hb dX8_isFrom_14 (by decide) ?_
    refine f_ir X hlk hr (v := 0) rfl hP hS ?_ dX8_isFrom_15
    refine ⟨rfl, ?_⟩; first | exact (bIe (by intro h; (simp only [Int32.lt_iff_toInt_lt, Int32.le_iff_toInt_le, ← Int32.toInt_inj] at *; omega))).symm | exact (bIt (by (simp only [Int32.lt_iff_toInt_lt, Int32.le_iff_toInt_le, ← Int32.toInt_inj] at *; omega))).symm
  · refine lv_iload_n hx hb dX8_isFrom_5 rfl (lv_at hl 1 rfl) ?_
    refine lv_iload_n hx hb dX8_isFrom_6 rfl (lv_at hl 3 rfl) ?_
    refine lv_icmp_gt (tgt := 14) hx hb dX8_isFrom_7 (by decide) (fun c_7 => ?_) (fun c_7 => ?_)
    · refine lv_iconst (v := 0) hx hb dX8_isFrom_14 (by decide) ?_
      refine f_ir X hlk hr (v := 0) rfl hP hS ?_ dX8_isFrom_15
      refine ⟨rfl, ?_⟩; first | exact (bIe (by intro h; (simp only [Int32.lt_iff_toInt_lt, Int32.le_iff_toInt_le, ← Int32.toInt_inj] at *; omega))).symm | exact (bIt (by (simp only [Int32.lt_iff_toInt_lt, Int32.le_iff_toInt_le, ← Int32.toInt_inj] at *; omega))).symm
    · refine lv_iconst (v := 1) hx hb dX8_isFrom_10 (by decide) ?_
      refine lv_goto (tgt := 15) hx hb dX8_isFrom_11 (by decide) ?_
      refine f_ir X hlk hr (v := 1) rfl hP hS ?_ dX8_isFrom_15
      refine ⟨rfl, ?_⟩; first | exact (bIe (by intro h; (simp only [Int32.lt_iff_toInt_lt, Int32.le_iff_toInt_le, ← Int32.toInt_inj] at *; omega))).symm | exact (bIt (by (simp only [Int32.lt_iff_toInt_lt, Int32.le_iff_toInt_le, ← Int32.toInt_inj] at *; omega))).symm

def a_X8_element (M : Nat → Nat → Int32) (L : Nat → Nat → Int64) (s1 : Int32) (i : Int32) : Int64 := (if (0 ≤ s1 ∧ s1 < 8) then (if (M 100 s1.toNatClampNeg) = 1 then (if i < 0 then 0 else (if (M 102 s1.toNatClampNeg) ≤ i then 0 else (L 104 (160 * s1.toNatClampNeg + i.toNatClampNeg)))) else 0) else 0)
set_option maxHeartbeats 1000000 in
set_option maxRecDepth 100000 in
theorem c_X8_element (l : Launch) (E : fE) (M : Nat → Nat → Int32) (L : Nat → Nat → Int64) (s1 : Int32) (i : Int32) (hzz : ∀ s, s < 8 → 0 ≤ M 102 s ∧ M 102 s ≤ 160) : Met l yX8_element (wl yX8_element cX8_element 3 (some .long)) (fRm 1 21) (va_Pc [.ref (fad E 86), .int s1, .int i] (fPre E M L)) (fQl E (fun r u => u = (M, L) ∧ r = (a_X8_element M L s1 i))) 0 0 (fA E) := by
  refine f_head (by decide) (Nat.le_of_ble_eq_true rfl) ?_
  intro pg ev s mi below meth cd ls X hr hlk hP hS hl
  have hx := X.1.1
  have hb := X.1.2.1
  have hl : lv_has ls 3 [(0, .ref (fad E 86)), (1, .int s1), (2, .int i)] := hl
  refine lv_aload_n hx hb dX8_element_0 rfl (lv_at hl 0 rfl) ?_
  refine lv_iload_n hx hb dX8_element_1 rfl (lv_at hl 1 rfl) ?_
  refine f_iV (n := 1) X hP hS [.int s1] [] (c_X8_isShelf l E M L s1) m_5_80 wi_X8_isShelf rfl rfl (by decide) (by decide +kernel) ⟨Nat.le_of_ble_eq_true rfl, Nat.le_of_ble_eq_true rfl⟩ rfl hl rfl (Nat.le_of_ble_eq_true rfl) ⟨Nat.zero_le _, Nat.zero_le _⟩ dX8_element_2 (fun H locs hP hS => ?_)
  refine lv_if_eq (tgt := 47) hx hb dX8_element_5 (by decide) (fun c_5 => ?_) (fun c_5 => ?_)
  · have c_5 := bI0 c_5
    refine lv_lconst (v := 0) hx hb dX8_element_47 (by decide) ?_
    refine f_lr X hlk hr hP hS (v := 0) ?_ dX8_element_48
    unfold a_X8_element
    (first | rw [if_pos c_5] | rw [if_neg c_5] | rw [if_neg (Bool.eq_false_iff.mp c_5)] | skip)
    (try dsimp only)
    first
      | done
      | exact ⟨rfl, rfl⟩
      | rfl
      | (simp only [c_5, if_true, if_false, and_self, and_true, true_and, not_true_eq_false, not_false_eq_true, and_false, false_and, or_true, true_or, or_false, false_or, or_self, Bool.false_eq_true, reduceCtorEq, nl10, nl20, nl30, nl40, nl50, nl60, nl70, nl12, nl13, nl21, nl23, nl31, nl32]; first | done | exact ⟨rfl, rfl⟩ | rfl)
      | contradiction
      | (simp only [c_5, if_true, if_false, and_self, and_true, true_and, not_true_eq_false, not_false_eq_true, and_false, false_and, or_true, true_or, or_false, false_or, or_self, Bool.false_eq_true, reduceCtorEq, nl10, nl20, nl30, nl40, nl50, nl60, nl70, nl12, nl13, nl21, nl23, nl31, nl32]; contradiction)
      | (exfalso; simp_all; done)
      | simp_all
  · have c_5 := bI1 c_5
    refine lv_aload_n hx hb dX8_element_8 rfl (lv_at hl 0 rfl) ?_
    refine f_get X hP (T := TX8) (ci := 8) (k := 86) rfl inX8 rfl 21 (by decide) m_4_195 rfl (v := .ref (fad E 100)) rfl dX8_element_9 ?_
    refine lv_iload_n hx hb dX8_element_12 rfl (lv_at hl 1 rfl) ?_
    have hix_1 : fIx s1 8 s1.toNatClampNeg := by
      first
        | exact fIx_lt 8 c_5.1 c_5.2 (by decide)
        | exact fIx_le 7 c_5.1 c_5.2 (by decide)
        | exact fIx_lt 8 c_5.1 c_5.2.2 (by decide)
        | exact fIx_le 7 (rr0 c_5).1.1 (rr0 c_5).1.2 (by decide)
        | (refine fIx_lt 8 (show (0 : Int32) ≤ s1 from ?_) (show s1 < (8 : Int32) from ?_) (by decide) <;> (have e0_9 : (0 : Int32).toInt = 0 := rfl; have en_9 : (8 : Int32).toInt = 8 := rfl; simp only [Int32.lt_iff_toInt_lt, Int32.le_iff_toInt_le, Int32.not_lt, Int32.not_le, ← Int32.toInt_inj] at *; omega))
    have hlt_1 := hix_1.2.2
    refine f_iald X hP (k := 100) (n := 8) (q := s1.toNatClampNeg) rfl rfl hix_1 dX8_element_13 ?_
    refine lv_iconst (v := 1) hx hb dX8_element_14 (by decide) ?_
    refine lv_icmp_ne (tgt := 47) hx hb dX8_element_15 (by decide) (fun c_15 => ?_) (fun c_15 => ?_)
    · refine lv_lconst (v := 0) hx hb dX8_element_47 (by decide) ?_
      refine f_lr X hlk hr hP hS (v := 0) ?_ dX8_element_48
      unfold a_X8_element
      (first | rw [if_pos c_5] | rw [if_neg c_5] | rw [if_neg (Bool.eq_false_iff.mp c_5)] | skip)
      (first | rw [if_pos c_15] | rw [if_neg c_15] | rw [if_neg (Bool.eq_false_iff.mp c_15)] | skip)
      (try dsimp only)
      first
        | done
        | exact ⟨rfl, rfl⟩
        | rfl
        | (simp only [c_5, c_15, if_true, if_false, and_self, and_true, true_and, not_true_eq_false, not_false_eq_true, and_false, false_and, or_true, true_or, or_false, false_or, or_self, Bool.false_eq_true, reduceCtorEq, nl10, nl20, nl30, nl40, nl50, nl60, nl70, nl12, nl13, nl21, nl23, nl31, nl32]; first | done | exact ⟨rfl, rfl⟩ | rfl)
        | contradiction
        | (simp only [c_5, c_15, if_true, if_false, and_self, and_true, true_and, not_true_eq_false, not_false_eq_true, and_false, false_and, or_true, true_or, or_false, false_or, or_self, Bool.false_eq_true, reduceCtorEq, nl10, nl20, nl30, nl40, nl50, nl60, nl70, nl12, nl13, nl21, nl23, nl31, nl32]; contradiction)
        | (exfalso; simp_all; done)
        | simp_all
    · refine lv_iload_n hx hb dX8_element_18 rfl (lv_at hl 2 rfl) ?_
      refine lv_if_lt (tgt := 47) hx hb dX8_element_19 (by decide) (fun c_19 => ?_) (fun c_19 => ?_)
      · refine lv_lconst (v := 0) hx hb dX8_element_47 (by decide) ?_
        refine f_lr X hlk hr hP hS (v := 0) ?_ dX8_element_48
        unfold a_X8_element
        (first | rw [if_pos c_5] | rw [if_neg c_5] | rw [if_neg (Bool.eq_false_iff.mp c_5)] | skip)
        (first | rw [if_pos c_15] | rw [if_neg c_15] | rw [if_neg (Bool.eq_false_iff.mp c_15)] | skip)
        (first | rw [if_pos c_19] | rw [if_neg c_19] | rw [if_neg (Bool.eq_false_iff.mp c_19)] | skip)
        (try dsimp only)
        first
          | done
          | exact ⟨rfl, rfl⟩
          | rfl
          | (simp only [c_5, c_15, c_19, if_true, if_false, and_self, and_true, true_and, not_true_eq_false, not_false_eq_true, and_false, false_and, or_true, true_or, or_false, false_or, or_self, Bool.false_eq_true, reduceCtorEq, nl10, nl20, nl30, nl40, nl50, nl60, nl70, nl12, nl13, nl21, nl23, nl31, nl32]; first | done | exact ⟨rfl, rfl⟩ | rfl)
          | contradiction
          | (simp only [c_5, c_15, c_19, if_true, if_false, and_self, and_true, true_and, not_true_eq_false, not_false_eq_true, and_false, false_and, or_true, true_or, or_false, false_or, or_self, Bool.false_eq_true, reduceCtorEq, nl10, nl20, nl30, nl40, nl50, nl60, nl70, nl12, nl13, nl21, nl23, nl31, nl32]; contradiction)
          | (exfalso; simp_all; done)
          | simp_all
      · refine lv_iload_n hx hb dX8_element_22 rfl (lv_at hl 2 rfl) ?_
        refine lv_aload_n hx hb dX8_element_23 rfl (lv_at hl 0 rfl) ?_
        refine f_get X hP (T := TX8) (ci := 8) (k := 86) rfl inX8 rfl 23 (by decide) m_4_197 rfl (v := .ref (fad E 102)) rfl dX8_element_24 ?_
        refine lv_iload_n hx hb dX8_element_27 rfl (lv_at hl 1 rfl) ?_
        refine f_iald X hP (k := 102) (n := 8) (q := s1.toNatClampNeg) rfl rfl hix_1 dX8_element_28 ?_
        refine lv_icmp_ge (tgt := 47) hx hb dX8_element_29 (by decide) (fun c_29 => ?_) (fun c_29 => ?_)
        · refine lv_lconst (v := 0) hx hb dX8_element_47 (by decide) ?_
          refine f_lr X hlk hr hP hS (v := 0) ?_ dX8_element_48
          unfold a_X8_element
          (first | rw [if_pos c_5] | rw [if_neg c_5] | rw [if_neg (Bool.eq_false_iff.mp c_5)] | skip)
          (first | rw [if_pos c_15] | rw [if_neg c_15] | rw [if_neg (Bool.eq_false_iff.mp c_15)] | skip)
          (first | rw [if_pos c_19] | rw [if_neg c_19] | rw [if_neg (Bool.eq_false_iff.mp c_19)] | skip)
          (first | rw [if_pos c_29] | rw [if_neg c_29] | rw [if_neg (Bool.eq_false_iff.mp c_29)] | skip)
          (try dsimp only)
          first
            | done
            | exact ⟨rfl, rfl⟩
            | rfl
            | (simp only [c_5, c_15, c_19, c_29, if_true, if_false, and_self, and_true, true_and, not_true_eq_false, not_false_eq_true, and_false, false_and, or_true, true_or, or_false, false_or, or_self, Bool.false_eq_true, reduceCtorEq, nl10, nl20, nl30, nl40, nl50, nl60, nl70, nl12, nl13, nl21, nl23, nl31, nl32]; first | done | exact ⟨rfl, rfl⟩ | rfl)
            | contradiction
            | (simp only [c_5, c_15, c_19, c_29, if_true, if_false, and_self, and_true, true_and, not_true_eq_false, not_false_eq_true, and_false, false_and, or_true, true_or, or_false, false_or, or_self, Bool.false_eq_true, reduceCtorEq, nl10, nl20, nl30, nl40, nl50, nl60, nl70, nl12, nl13, nl21, nl23, nl31, nl32]; contradiction)
            | (exfalso; simp_all; done)
            | simp_all
        · have hi9 : fIx i 160 i.toNatClampNeg := fIx_sz c_19 (Int32.not_le.mp c_29) (hzz _ (by omega))
          refine lv_aload_n hx hb dX8_element_32 rfl (lv_at hl 0 rfl) ?_
          refine f_get X hP (T := TX8) (ci := 8) (k := 86) rfl inX8 rfl 25 (by decide) m_4_199 rfl (v := .ref (fad E 104)) rfl dX8_element_33 ?_
          refine lv_sipush (v := 160) hx hb dX8_element_36 (by decide) ?_
          refine lv_iload_n hx hb dX8_element_39 rfl (lv_at hl 1 rfl) ?_
          refine lv_imul hx hb dX8_element_40 ?_
          refine lv_iload_n hx hb dX8_element_41 rfl (lv_at hl 2 rfl) ?_
          refine lv_iadd hx hb dX8_element_42 ?_
          refine f_lald X hP (k := 104) (n := 1280) (q := (160 * s1.toNatClampNeg + i.toNatClampNeg)) rfl rfl (fIx_cell hix_1 hi9) dX8_element_43 ?_
          refine lv_goto (tgt := 48) hx hb dX8_element_44 (by decide) ?_
          refine f_lr X hlk hr hP hS (v := (L 104 (160 * s1.toNatClampNeg + i.toNatClampNeg))) ?_ dX8_element_48
          unfold a_X8_element
          (first | rw [if_pos c_5] | rw [if_neg c_5] | rw [if_neg (Bool.eq_false_iff.mp c_5)] | skip)
          (first | rw [if_pos c_15] | rw [if_neg c_15] | rw [if_neg (Bool.eq_false_iff.mp c_15)] | skip)
          (first | rw [if_pos c_19] | rw [if_neg c_19] | rw [if_neg (Bool.eq_false_iff.mp c_19)] | skip)
          (first | rw [if_pos c_29] | rw [if_neg c_29] | rw [if_neg (Bool.eq_false_iff.mp c_29)] | skip)
          (try dsimp only)
          first
            | done
            | exact ⟨rfl, rfl⟩
            | rfl
            | (simp only [c_5, c_15, c_19, c_29, if_true, if_false, and_self, and_true, true_and, not_true_eq_false, not_false_eq_true, and_false, false_and, or_true, true_or, or_false, false_or, or_self, Bool.false_eq_true, reduceCtorEq, nl10, nl20, nl30, nl40, nl50, nl60, nl70, nl12, nl13, nl21, nl23, nl31, nl32]; first | done | exact ⟨rfl, rfl⟩ | rfl)
            | contradiction
            | (simp only [c_5, c_15, c_19, c_29, if_true, if_false, and_self, and_true, true_and, not_true_eq_false, not_false_eq_true, and_false, false_and, or_true, true_or, or_false, false_or, or_self, Bool.false_eq_true, reduceCtorEq, nl10, nl20, nl30, nl40, nl50, nl60, nl70, nl12, nl13, nl21, nl23, nl31, nl32]; contradiction)
            | (exfalso; simp_all; done)
            | simp_all

def a_X8_set (M : Nat → Nat → Int32) (L : Nat → Nat → Int64) (s1 : Int32) (i : Int32) (v : Int64) : fR := (if (0 ≤ s1 ∧ s1 < 8) then (if (M 100 s1.toNatClampNeg) = 2 then ((-2), (noM M (-2)), L) else (if (M 100 s1.toNatClampNeg) = 0 then ((-3), (noM M (-3)), L) else (if i < 0 then ((-5), (noM M (-5)), L) else (if i < (M 102 s1.toNatClampNeg) then (if (M 101 s1.toNatClampNeg) = 0 then (1, M, (upL L 104 (160 * s1.toNatClampNeg + i.toNatClampNeg) (((v.toInt32).toInt8.toInt32).toInt64))) else (if (M 101 s1.toNatClampNeg) = 1 then (1, M, (upL L 104 (160 * s1.toNatClampNeg + i.toNatClampNeg) (((v.toInt32).toInt16.toInt32).toInt64))) else (if (M 101 s1.toNatClampNeg) = 2 then (1, M, (upL L 104 (160 * s1.toNatClampNeg + i.toNatClampNeg) ((v.toInt32).toInt64))) else (1, M, (upL L 104 (160 * s1.toNatClampNeg + i.toNatClampNeg) v))))) else ((-5), (noM M (-5)), L))))) else ((-1), (noM M (-1)), L))
set_option maxHeartbeats 1000000 in
set_option maxRecDepth 100000 in
theorem c_X8_set (l : Launch) (E : fE) (M : Nat → Nat → Int32) (L : Nat → Nat → Int64) (s1 : Int32) (i : Int32) (v : Int64) (hzz : ∀ s, s < 8 → 0 ≤ M 102 s ∧ M 102 s ≤ 160) : Met l yX8_set (wl yX8_set cX8_set 5 (some .int)) (fRm 1 21) (va_Pc [.ref (fad E 86), .int s1, .int i, .long v] (fPre E M L)) (fQi E (fun r u => u = ((a_X8_set M L s1 i v).2.1, (a_X8_set M L s1 i v).2.2) ∧ r = (a_X8_set M L s1 i v).1)) 0 0 (fA E) := by
  refine f_head (by decide) (Nat.le_of_ble_eq_true rfl) ?_
  intro pg ev s mi below meth cd ls X hr hlk hP hS hl
  have hx := X.1.1
  have hb := X.1.2.1
  have hl : lv_has ls 5 [(0, .ref (fad E 86)), (1, .int s1), (2, .int i), (3, .long v)] := hl
  refine lv_aload_n hx hb dX8_set_0 rfl (lv_at hl 0 rfl) ?_
  refine lv_iload_n hx hb dX8_set_1 rfl (lv_at hl 1 rfl) ?_
  refine f_iV (n := 1) X hP hS [.int s1] [] (c_X8_isShelf l E M L s1) m_5_80 wi_X8_isShelf rfl rfl (by decide) (by decide +kernel) ⟨Nat.le_of_ble_eq_true rfl, Nat.le_of_ble_eq_true rfl⟩ rfl hl rfl (Nat.le_of_ble_eq_true rfl) ⟨Nat.zero_le _, Nat.zero_le _⟩ dX8_set_2 (fun H locs hP hS => ?_)
  refine lv_if_ne (tgt := 14) hx hb dX8_set_5 (by decide) (fun c_5 => ?_) (fun c_5 => ?_)
  · have c_5 := bI1 c_5
    refine lv_aload_n hx hb dX8_set_14 rfl (lv_at hl 0 rfl) ?_
    refine f_get X hP (T := TX8) (ci := 8) (k := 86) rfl inX8 rfl 21 (by decide) m_4_195 rfl (v := .ref (fad E 100)) rfl dX8_set_15 ?_
    refine lv_iload_n hx hb dX8_set_18 rfl (lv_at hl 1 rfl) ?_
    have hix_1 : fIx s1 8 s1.toNatClampNeg := by
      first
        | exact fIx_lt 8 c_5.1 c_5.2 (by decide)
        | exact fIx_le 7 c_5.1 c_5.2 (by decide)
        | exact fIx_lt 8 c_5.1 c_5.2.2 (by decide)
        | exact fIx_le 7 (rr0 c_5).1.1 (rr0 c_5).1.2 (by decide)
        | (refine fIx_lt 8 (show (0 : Int32) ≤ s1 from ?_) (show s1 < (8 : Int32) from ?_) (by decide) <;> (have e0_9 : (0 : Int32).toInt = 0 := rfl; have en_9 : (8 : Int32).toInt = 8 := rfl; simp only [Int32.lt_iff_toInt_lt, Int32.le_iff_toInt_le, Int32.not_lt, Int32.not_le, ← Int32.toInt_inj] at *; omega))
    have hlt_1 := hix_1.2.2
    refine f_iald X hP (k := 100) (n := 8) (q := s1.toNatClampNeg) rfl rfl hix_1 dX8_set_19 ?_
    refine lv_iconst (v := 2) hx hb dX8_set_20 (by decide) ?_
    refine lv_icmp_ne (tgt := 31) hx hb dX8_set_21 (by decide) (fun c_21 => ?_) (fun c_21 => ?_)
    · refine lv_aload_n hx hb dX8_set_31 rfl (lv_at hl 0 rfl) ?_
      refine f_get X hP (T := TX8) (ci := 8) (k := 86) rfl inX8 rfl 21 (by decide) m_4_195 rfl (v := .ref (fad E 100)) rfl dX8_set_32 ?_
      refine lv_iload_n hx hb dX8_set_35 rfl (lv_at hl 1 rfl) ?_
      refine f_iald X hP (k := 100) (n := 8) (q := s1.toNatClampNeg) rfl rfl hix_1 dX8_set_36 ?_
      refine lv_if_ne (tgt := 47) hx hb dX8_set_37 (by decide) (fun c_37 => ?_) (fun c_37 => ?_)
      · refine lv_iload_n hx hb dX8_set_47 rfl (lv_at hl 2 rfl) ?_
        refine lv_if_lt (tgt := 61) hx hb dX8_set_48 (by decide) (fun c_48 => ?_) (fun c_48 => ?_)
        · refine lv_aload_n hx hb dX8_set_61 rfl (lv_at hl 0 rfl) ?_
          refine lv_bipush (v := (-5)) hx hb dX8_set_62 (by decide) ?_
          refine f_iV (n := 1) X hP hS [.int (-5)] [] (c_X8_no l E M L (-5) (by decide)) m_5_84 wi_X8_no rfl rfl (by decide) (by decide +kernel) ⟨Nat.le_of_ble_eq_true rfl, Nat.le_of_ble_eq_true rfl⟩ rfl hl rfl (Nat.le_of_ble_eq_true rfl) ⟨Nat.zero_le _, Nat.zero_le _⟩ dX8_set_64 (fun H locs hP hS => ?_)
          refine f_ir X hlk hr (v := (-5)) rfl hP hS ?_ dX8_set_67
          unfold a_X8_set
          (first | rw [if_pos c_5] | rw [if_neg c_5] | rw [if_neg (Bool.eq_false_iff.mp c_5)] | skip)
          (first | rw [if_pos c_21] | rw [if_neg c_21] | rw [if_neg (Bool.eq_false_iff.mp c_21)] | skip)
          (first | rw [if_pos c_37] | rw [if_neg c_37] | rw [if_neg (Bool.eq_false_iff.mp c_37)] | skip)
          (first | rw [if_pos c_48] | rw [if_neg c_48] | rw [if_neg (Bool.eq_false_iff.mp c_48)] | skip)
          (try dsimp only)
          first
            | done
            | exact ⟨rfl, rfl⟩
            | rfl
            | (simp only [c_5, c_21, c_37, c_48, if_true, if_false, and_self, and_true, true_and, not_true_eq_false, not_false_eq_true, and_false, false_and, or_true, true_or, or_false, false_or, or_self, Bool.false_eq_true, reduceCtorEq, nl10, nl20, nl30, nl40, nl50, nl60, nl70, nl12, nl13, nl21, nl23, nl31, nl32]; first | done | exact ⟨rfl, rfl⟩ | rfl)
            | contradiction
            | (simp only [c_5, c_21, c_37, c_48, if_true, if_false, and_self, and_true, true_and, not_true_eq_false, not_false_eq_true, and_false, false_and, or_true, true_or, or_false, false_or, or_self, Bool.false_eq_true, reduceCtorEq, nl10, nl20, nl30, nl40, nl50, nl60, nl70, nl12, nl13, nl21, nl23, nl31, nl32]; contradiction)
            | (exfalso; simp_all; done)
            | simp_all
        · refine lv_iload_n hx hb dX8_set_51 rfl (lv_at hl 2 rfl) ?_
          refine lv_aload_n hx hb dX8_set_52 rfl (lv_at hl 0 rfl) ?_
          refine f_get X hP (T := TX8) (ci := 8) (k := 86) rfl inX8 rfl 23 (by decide) m_4_197 rfl (v := .ref (fad E 102)) rfl dX8_set_53 ?_
          refine lv_iload_n hx hb dX8_set_56 rfl (lv_at hl 1 rfl) ?_
          refine f_iald X hP (k := 102) (n := 8) (q := s1.toNatClampNeg) rfl rfl hix_1 dX8_set_57 ?_
          refine lv_icmp_lt (tgt := 68) hx hb dX8_set_58 (by decide) (fun c_58 => ?_) (fun c_58 => ?_)
          · have hi9 : fIx i 160 i.toNatClampNeg := fIx_sz c_48 c_58 (hzz _ (by omega))
            refine lv_aload_n hx hb dX8_set_68 rfl (lv_at hl 0 rfl) ?_
            refine f_get X hP (T := TX8) (ci := 8) (k := 86) rfl inX8 rfl 25 (by decide) m_4_199 rfl (v := .ref (fad E 104)) rfl dX8_set_69 ?_
            refine lv_sipush (v := 160) hx hb dX8_set_72 (by decide) ?_
            refine lv_iload_n hx hb dX8_set_75 rfl (lv_at hl 1 rfl) ?_
            refine lv_imul hx hb dX8_set_76 ?_
            refine lv_iload_n hx hb dX8_set_77 rfl (lv_at hl 2 rfl) ?_
            refine lv_iadd hx hb dX8_set_78 ?_
            refine lv_aload_n hx hb dX8_set_79 rfl (lv_at hl 0 rfl) ?_
            refine f_get X hP (T := TX8) (ci := 8) (k := 86) rfl inX8 rfl 22 (by decide) m_4_196 rfl (v := .ref (fad E 101)) rfl dX8_set_80 ?_
            refine lv_iload_n hx hb dX8_set_83 rfl (lv_at hl 1 rfl) ?_
            refine f_iald X hP (k := 101) (n := 8) (q := s1.toNatClampNeg) rfl rfl hix_1 dX8_set_84 ?_
            refine lv_if_ne (tgt := 95) hx hb dX8_set_85 (by decide) (fun c_85 => ?_) (fun c_85 => ?_)
            · refine lv_aload_n hx hb dX8_set_95 rfl (lv_at hl 0 rfl) ?_
              refine f_get X hP (T := TX8) (ci := 8) (k := 86) rfl inX8 rfl 22 (by decide) m_4_196 rfl (v := .ref (fad E 101)) rfl dX8_set_96 ?_
              refine lv_iload_n hx hb dX8_set_99 rfl (lv_at hl 1 rfl) ?_
              refine f_iald X hP (k := 101) (n := 8) (q := s1.toNatClampNeg) rfl rfl hix_1 dX8_set_100 ?_
              refine lv_iconst (v := 1) hx hb dX8_set_101 (by decide) ?_
              refine lv_icmp_ne (tgt := 112) hx hb dX8_set_102 (by decide) (fun c_102 => ?_) (fun c_102 => ?_)
              · refine lv_aload_n hx hb dX8_set_112 rfl (lv_at hl 0 rfl) ?_
                refine f_get X hP (T := TX8) (ci := 8) (k := 86) rfl inX8 rfl 22 (by decide) m_4_196 rfl (v := .ref (fad E 101)) rfl dX8_set_113 ?_
                refine lv_iload_n hx hb dX8_set_116 rfl (lv_at hl 1 rfl) ?_
                refine f_iald X hP (k := 101) (n := 8) (q := s1.toNatClampNeg) rfl rfl hix_1 dX8_set_117 ?_
                refine lv_iconst (v := 2) hx hb dX8_set_118 (by decide) ?_
                refine lv_icmp_ne (tgt := 128) hx hb dX8_set_119 (by decide) (fun c_119 => ?_) (fun c_119 => ?_)
                · refine lv_lload_n hx hb dX8_set_128 rfl (lv_at hl 3 rfl) ?_
                  refine f_last X hP hS (k := 104) (n := 1280) (q := (160 * s1.toNatClampNeg + i.toNatClampNeg)) rfl rfl (v := v) (fIx_cell hix_1 hi9) dX8_set_129 (fun H locs hP hS => ?_)
                  refine lv_iconst (v := 1) hx hb dX8_set_130 (by decide) ?_
                  refine f_ir X hlk hr (v := 1) rfl hP hS ?_ dX8_set_131
                  unfold a_X8_set
                  (first | rw [if_pos c_5] | rw [if_neg c_5] | rw [if_neg (Bool.eq_false_iff.mp c_5)] | skip)
                  (first | rw [if_pos c_21] | rw [if_neg c_21] | rw [if_neg (Bool.eq_false_iff.mp c_21)] | skip)
                  (first | rw [if_pos c_37] | rw [if_neg c_37] | rw [if_neg (Bool.eq_false_iff.mp c_37)] | skip)
                  (first | rw [if_pos c_48] | rw [if_neg c_48] | rw [if_neg (Bool.eq_false_iff.mp c_48)] | skip)
                  (first | rw [if_pos c_58] | rw [if_neg c_58] | rw [if_neg (Bool.eq_false_iff.mp c_58)] | skip)
                  (first | rw [if_pos c_85] | rw [if_neg c_85] | rw [if_neg (Bool.eq_false_iff.mp c_85)] | skip)
                  (first | rw [if_pos c_102] | rw [if_neg c_102] | rw [if_neg (Bool.eq_false_iff.mp c_102)] | skip)
                  (first | rw [if_pos c_119] | rw [if_neg c_119] | rw [if_neg (Bool.eq_false_iff.mp c_119)] | skip)
                  (try dsimp only)
                  first
                    | done
                    | exact ⟨rfl, rfl⟩
                    | rfl
                    | (simp only [c_5, c_21, c_37, c_48, c_58, c_85, c_102, c_119, if_true, if_false, and_self, and_true, true_and, not_true_eq_false, not_false_eq_true, and_false, false_and, or_true, true_or, or_false, false_or, or_self, Bool.false_eq_true, reduceCtorEq, nl10, nl20, nl30, nl40, nl50, nl60, nl70, nl12, nl13, nl21, nl23, nl31, nl32]; first | done | exact ⟨rfl, rfl⟩ | rfl)
                    | contradiction
                    | (simp only [c_5, c_21, c_37, c_48, c_58, c_85, c_102, c_119, if_true, if_false, and_self, and_true, true_and, not_true_eq_false, not_false_eq_true, and_false, false_and, or_true, true_or, or_false, false_or, or_self, Bool.false_eq_true, reduceCtorEq, nl10, nl20, nl30, nl40, nl50, nl60, nl70, nl12, nl13, nl21, nl23, nl31, nl32]; contradiction)
                    | (exfalso; simp_all; done)
                    | simp_all
                · refine lv_lload_n hx hb dX8_set_122 rfl (lv_at hl 3 rfl) ?_
                  refine lv_l2i (v := (v.toInt32)) hx hb dX8_set_123 rfl ?_
                  refine lv_i2l (v := ((v.toInt32).toInt64)) hx hb dX8_set_124 rfl ?_
                  refine lv_goto (tgt := 129) hx hb dX8_set_125 (by decide) ?_
                  refine f_last X hP hS (k := 104) (n := 1280) (q := (160 * s1.toNatClampNeg + i.toNatClampNeg)) rfl rfl (v := ((v.toInt32).toInt64)) (fIx_cell hix_1 hi9) dX8_set_129 (fun H locs hP hS => ?_)
                  refine lv_iconst (v := 1) hx hb dX8_set_130 (by decide) ?_
                  refine f_ir X hlk hr (v := 1) rfl hP hS ?_ dX8_set_131
                  unfold a_X8_set
                  (first | rw [if_pos c_5] | rw [if_neg c_5] | rw [if_neg (Bool.eq_false_iff.mp c_5)] | skip)
                  (first | rw [if_pos c_21] | rw [if_neg c_21] | rw [if_neg (Bool.eq_false_iff.mp c_21)] | skip)
                  (first | rw [if_pos c_37] | rw [if_neg c_37] | rw [if_neg (Bool.eq_false_iff.mp c_37)] | skip)
                  (first | rw [if_pos c_48] | rw [if_neg c_48] | rw [if_neg (Bool.eq_false_iff.mp c_48)] | skip)
                  (first | rw [if_pos c_58] | rw [if_neg c_58] | rw [if_neg (Bool.eq_false_iff.mp c_58)] | skip)
                  (first | rw [if_pos c_85] | rw [if_neg c_85] | rw [if_neg (Bool.eq_false_iff.mp c_85)] | skip)
                  (first | rw [if_pos c_102] | rw [if_neg c_102] | rw [if_neg (Bool.eq_false_iff.mp c_102)] | skip)
                  (first | rw [if_pos c_119] | rw [if_neg c_119] | rw [if_neg (Bool.eq_false_iff.mp c_119)] | skip)
                  (try dsimp only)
                  first
                    | done
                    | exact ⟨rfl, rfl⟩
                    | rfl
                    | (simp only [c_5, c_21, c_37, c_48, c_58, c_85, c_102, c_119, if_true, if_false, and_self, and_true, true_and, not_true_eq_false, not_false_eq_true, and_false, false_and, or_true, true_or, or_false, false_or, or_self, Bool.false_eq_true, reduceCtorEq, nl10, nl20, nl30, nl40, nl50, nl60, nl70, nl12, nl13, nl21, nl23, nl31, nl32]; first | done | exact ⟨rfl, rfl⟩ | rfl)
                    | contradiction
                    | (simp only [c_5, c_21, c_37, c_48, c_58, c_85, c_102, c_119, if_true, if_false, and_self, and_true, true_and, not_true_eq_false, not_false_eq_true, and_false, false_and, or_true, true_or, or_false, false_or, or_self, Bool.false_eq_true, reduceCtorEq, nl10, nl20, nl30, nl40, nl50, nl60, nl70, nl12, nl13, nl21, nl23, nl31, nl32]; contradiction)
                    | (exfalso; simp_all; done)
                    | simp_all
              · refine lv_lload_n hx hb dX8_set_105 rfl (lv_at hl 3 rfl) ?_
                refine lv_l2i (v := (v.toInt32)) hx hb dX8_set_106 rfl ?_
                refine lv_i2s (v := ((v.toInt32).toInt16.toInt32)) hx hb dX8_set_107 rfl ?_
                refine lv_i2l (v := (((v.toInt32).toInt16.toInt32).toInt64)) hx hb dX8_set_108 rfl ?_
                refine lv_goto (tgt := 129) hx hb dX8_set_109 (by decide) ?_
                refine f_last X hP hS (k := 104) (n := 1280) (q := (160 * s1.toNatClampNeg + i.toNatClampNeg)) rfl rfl (v := (((v.toInt32).toInt16.toInt32).toInt64)) (fIx_cell hix_1 hi9) dX8_set_129 (fun H locs hP hS => ?_)
                refine lv_iconst (v := 1) hx hb dX8_set_130 (by decide) ?_
                refine f_ir X hlk hr (v := 1) rfl hP hS ?_ dX8_set_131
                unfold a_X8_set
                (first | rw [if_pos c_5] | rw [if_neg c_5] | rw [if_neg (Bool.eq_false_iff.mp c_5)] | skip)
                (first | rw [if_pos c_21] | rw [if_neg c_21] | rw [if_neg (Bool.eq_false_iff.mp c_21)] | skip)
                (first | rw [if_pos c_37] | rw [if_neg c_37] | rw [if_neg (Bool.eq_false_iff.mp c_37)] | skip)
                (first | rw [if_pos c_48] | rw [if_neg c_48] | rw [if_neg (Bool.eq_false_iff.mp c_48)] | skip)
                (first | rw [if_pos c_58] | rw [if_neg c_58] | rw [if_neg (Bool.eq_false_iff.mp c_58)] | skip)
                (first | rw [if_pos c_85] | rw [if_neg c_85] | rw [if_neg (Bool.eq_false_iff.mp c_85)] | skip)
                (first | rw [if_pos c_102] | rw [if_neg c_102] | rw [if_neg (Bool.eq_false_iff.mp c_102)] | skip)
                (try dsimp only)
                first
                  | done
                  | exact ⟨rfl, rfl⟩
                  | rfl
                  | (simp only [c_5, c_21, c_37, c_48, c_58, c_85, c_102, if_true, if_false, and_self, and_true, true_and, not_true_eq_false, not_false_eq_true, and_false, false_and, or_true, true_or, or_false, false_or, or_self, Bool.false_eq_true, reduceCtorEq, nl10, nl20, nl30, nl40, nl50, nl60, nl70, nl12, nl13, nl21, nl23, nl31, nl32]; first | done | exact ⟨rfl, rfl⟩ | rfl)
                  | contradiction
                  | (simp only [c_5, c_21, c_37, c_48, c_58, c_85, c_102, if_true, if_false, and_self, and_true, true_and, not_true_eq_false, not_false_eq_true, and_false, false_and, or_true, true_or, or_false, false_or, or_self, Bool.false_eq_true, reduceCtorEq, nl10, nl20, nl30, nl40, nl50, nl60, nl70, nl12, nl13, nl21, nl23, nl31, nl32]; contradiction)
                  | (exfalso; simp_all; done)
                  | simp_all
            · refine lv_lload_n hx hb dX8_set_88 rfl (lv_at hl 3 rfl) ?_
              refine lv_l2i (v := (v.toInt32)) hx hb dX8_set_89 rfl ?_
              refine lv_i2b (v := ((v.toInt32).toInt8.toInt32)) hx hb dX8_set_90 rfl ?_
              refine lv_i2l (v := (((v.toInt32).toInt8.toInt32).toInt64)) hx hb dX8_set_91 rfl ?_
              refine lv_goto (tgt := 129) hx hb dX8_set_92 (by decide) ?_
              refine f_last X hP hS (k := 104) (n := 1280) (q := (160 * s1.toNatClampNeg + i.toNatClampNeg)) rfl rfl (v := (((v.toInt32).toInt8.toInt32).toInt64)) (fIx_cell hix_1 hi9) dX8_set_129 (fun H locs hP hS => ?_)
              refine lv_iconst (v := 1) hx hb dX8_set_130 (by decide) ?_
              refine f_ir X hlk hr (v := 1) rfl hP hS ?_ dX8_set_131
              unfold a_X8_set
              (first | rw [if_pos c_5] | rw [if_neg c_5] | rw [if_neg (Bool.eq_false_iff.mp c_5)] | skip)
              (first | rw [if_pos c_21] | rw [if_neg c_21] | rw [if_neg (Bool.eq_false_iff.mp c_21)] | skip)
              (first | rw [if_pos c_37] | rw [if_neg c_37] | rw [if_neg (Bool.eq_false_iff.mp c_37)] | skip)
              (first | rw [if_pos c_48] | rw [if_neg c_48] | rw [if_neg (Bool.eq_false_iff.mp c_48)] | skip)
              (first | rw [if_pos c_58] | rw [if_neg c_58] | rw [if_neg (Bool.eq_false_iff.mp c_58)] | skip)
              (first | rw [if_pos c_85] | rw [if_neg c_85] | rw [if_neg (Bool.eq_false_iff.mp c_85)] | skip)
              (try dsimp only)
              first
                | done
                | exact ⟨rfl, rfl⟩
                | rfl
                | (simp only [c_5, c_21, c_37, c_48, c_58, c_85, if_true, if_false, and_self, and_true, true_and, not_true_eq_false, not_false_eq_true, and_false, false_and, or_true, true_or, or_false, false_or, or_self, Bool.false_eq_true, reduceCtorEq, nl10, nl20, nl30, nl40, nl50, nl60, nl70, nl12, nl13, nl21, nl23, nl31, nl32]; first | done | exact ⟨rfl, rfl⟩ | rfl)
                | contradiction
                | (simp only [c_5, c_21, c_37, c_48, c_58, c_85, if_true, if_false, and_self, and_true, true_and, not_true_eq_false, not_false_eq_true, and_false, false_and, or_true, true_or, or_false, false_or, or_self, Bool.false_eq_true, reduceCtorEq, nl10, nl20, nl30, nl40, nl50, nl60, nl70, nl12, nl13, nl21, nl23, nl31, nl32]; contradiction)
                | (exfalso; simp_all; done)
                | simp_all
          · refine lv_aload_n hx hb dX8_set_61 rfl (lv_at hl 0 rfl) ?_
            refine lv_bipush (v := (-5)) hx hb dX8_set_62 (by decide) ?_
            refine f_iV (n := 1) X hP hS [.int (-5)] [] (c_X8_no l E M L (-5) (by decide)) m_5_84 wi_X8_no rfl rfl (by decide) (by decide +kernel) ⟨Nat.le_of_ble_eq_true rfl, Nat.le_of_ble_eq_true rfl⟩ rfl hl rfl (Nat.le_of_ble_eq_true rfl) ⟨Nat.zero_le _, Nat.zero_le _⟩ dX8_set_64 (fun H locs hP hS => ?_)
            refine f_ir X hlk hr (v := (-5)) rfl hP hS ?_ dX8_set_67
            unfold a_X8_set
            (first | rw [if_pos c_5] | rw [if_neg c_5] | rw [if_neg (Bool.eq_false_iff.mp c_5)] | skip)
            (first | rw [if_pos c_21] | rw [if_neg c_21] | rw [if_neg (Bool.eq_false_iff.mp c_21)] | skip)
            (first | rw [if_pos c_37] | rw [if_neg c_37] | rw [if_neg (Bool.eq_false_iff.mp c_37)] | skip)
            (first | rw [if_pos c_48] | rw [if_neg c_48] | rw [if_neg (Bool.eq_false_iff.mp c_48)] | skip)
            (first | rw [if_pos c_58] | rw [if_neg c_58] | rw [if_neg (Bool.eq_false_iff.mp c_58)] | skip)
            (try dsimp only)
            first
              | done
              | exact ⟨rfl, rfl⟩
              | rfl
              | (simp only [c_5, c_21, c_37, c_48, c_58, if_true, if_false, and_self, and_true, true_and, not_true_eq_false, not_false_eq_true, and_false, false_and, or_true, true_or, or_false, false_or, or_self, Bool.false_eq_true, reduceCtorEq, nl10, nl20, nl30, nl40, nl50, nl60, nl70, nl12, nl13, nl21, nl23, nl31, nl32]; first | done | exact ⟨rfl, rfl⟩ | rfl)
              | contradiction
              | (simp only [c_5, c_21, c_37, c_48, c_58, if_true, if_false, and_self, and_true, true_and, not_true_eq_false, not_false_eq_true, and_false, false_and, or_true, true_or, or_false, false_or, or_self, Bool.false_eq_true, reduceCtorEq, nl10, nl20, nl30, nl40, nl50, nl60, nl70, nl12, nl13, nl21, nl23, nl31, nl32]; contradiction)
              | (exfalso; simp_all; done)
              | simp_all
      · refine lv_aload_n hx hb dX8_set_40 rfl (lv_at hl 0 rfl) ?_
        refine lv_bipush (v := (-3)) hx hb dX8_set_41 (by decide) ?_
        refine f_iV (n := 1) X hP hS [.int (-3)] [] (c_X8_no l E M L (-3) (by decide)) m_5_84 wi_X8_no rfl rfl (by decide) (by decide +kernel) ⟨Nat.le_of_ble_eq_true rfl, Nat.le_of_ble_eq_true rfl⟩ rfl hl rfl (Nat.le_of_ble_eq_true rfl) ⟨Nat.zero_le _, Nat.zero_le _⟩ dX8_set_43 (fun H locs hP hS => ?_)
        refine f_ir X hlk hr (v := (-3)) rfl hP hS ?_ dX8_set_46
        unfold a_X8_set
        (first | rw [if_pos c_5] | rw [if_neg c_5] | rw [if_neg (Bool.eq_false_iff.mp c_5)] | skip)
        (first | rw [if_pos c_21] | rw [if_neg c_21] | rw [if_neg (Bool.eq_false_iff.mp c_21)] | skip)
        (first | rw [if_pos c_37] | rw [if_neg c_37] | rw [if_neg (Bool.eq_false_iff.mp c_37)] | skip)
        (try dsimp only)
        first
          | done
          | exact ⟨rfl, rfl⟩
          | rfl
          | (simp only [c_5, c_21, c_37, if_true, if_false, and_self, and_true, true_and, not_true_eq_false, not_false_eq_true, and_false, false_and, or_true, true_or, or_false, false_or, or_self, Bool.false_eq_true, reduceCtorEq, nl10, nl20, nl30, nl40, nl50, nl60, nl70, nl12, nl13, nl21, nl23, nl31, nl32]; first | done | exact ⟨rfl, rfl⟩ | rfl)
          | contradiction
          | (simp only [c_5, c_21, c_37, if_true, if_false, and_self, and_true, true_and, not_true_eq_false, not_false_eq_true, and_false, false_and, or_true, true_or, or_false, false_or, or_self, Bool.false_eq_true, reduceCtorEq, nl10, nl20, nl30, nl40, nl50, nl60, nl70, nl12, nl13, nl21, nl23, nl31, nl32]; contradiction)
          | (exfalso; simp_all; done)
          | simp_all
    · refine lv_aload_n hx hb dX8_set_24 rfl (lv_at hl 0 rfl) ?_
      refine lv_bipush (v := (-2)) hx hb dX8_set_25 (by decide) ?_
      refine f_iV (n := 1) X hP hS [.int (-2)] [] (c_X8_no l E M L (-2) (by decide)) m_5_84 wi_X8_no rfl rfl (by decide) (by decide +kernel) ⟨Nat.le_of_ble_eq_true rfl, Nat.le_of_ble_eq_true rfl⟩ rfl hl rfl (Nat.le_of_ble_eq_true rfl) ⟨Nat.zero_le _, Nat.zero_le _⟩ dX8_set_27 (fun H locs hP hS => ?_)
      refine f_ir X hlk hr (v := (-2)) rfl hP hS ?_ dX8_set_30
      unfold a_X8_set
      (first | rw [if_pos c_5] | rw [if_neg c_5] | rw [if_neg (Bool.eq_false_iff.mp c_5)] | skip)
      (first | rw [if_pos c_21] | rw [if_neg c_21] | rw [if_neg (Bool.eq_false_iff.mp c_21)] | skip)
      (try dsimp only)
      first
        | done
        | exact ⟨rfl, rfl⟩
        | rfl
        | (simp only [c_5, c_21, if_true, if_false, and_self, and_true, true_and, not_true_eq_false, not_false_eq_true, and_false, false_and, or_true, true_or, or_false, false_or, or_self, Bool.false_eq_true, reduceCtorEq, nl10, nl20, nl30, nl40, nl50, nl60, nl70, nl12, nl13, nl21, nl23, nl31, nl32]; first | done | exact ⟨rfl, rfl⟩ | rfl)
        | contradiction
        | (simp only [c_5, c_21, if_true, if_false, and_self, and_true, true_and, not_true_eq_false, not_false_eq_true, and_false, false_and, or_true, true_or, or_false, false_or, or_self, Bool.false_eq_true, reduceCtorEq, nl10, nl20, nl30, nl40, nl50, nl60, nl70, nl12, nl13, nl21, nl23, nl31, nl32]; contradiction)
        | (exfalso; simp_all; done)
        | simp_all
  · have c_5 := bI0 c_5
    refine lv_aload_n hx hb dX8_set_8 rfl (lv_at hl 0 rfl) ?_
    refine lv_iconst (v := (-1)) hx hb dX8_set_9 (by decide) ?_
    refine f_iV (n := 1) X hP hS [.int (-1)] [] (c_X8_no l E M L (-1) (by decide)) m_5_84 wi_X8_no rfl rfl (by decide) (by decide +kernel) ⟨Nat.le_of_ble_eq_true rfl, Nat.le_of_ble_eq_true rfl⟩ rfl hl rfl (Nat.le_of_ble_eq_true rfl) ⟨Nat.zero_le _, Nat.zero_le _⟩ dX8_set_10 (fun H locs hP hS => ?_)
    refine f_ir X hlk hr (v := (-1)) rfl hP hS ?_ dX8_set_13
    unfold a_X8_set
    (first | rw [if_pos c_5] | rw [if_neg c_5] | rw [if_neg (Bool.eq_false_iff.mp c_5)] | skip)
    (try dsimp only)
    first
      | done
      | exact ⟨rfl, rfl⟩
      | rfl
      | (simp only [c_5, if_true, if_false, and_self, and_true, true_and, not_true_eq_false, not_false_eq_true, and_false, false_and, or_true, true_or, or_false, false_or, or_self, Bool.false_eq_true, reduceCtorEq, nl10, nl20, nl30, nl40, nl50, nl60, nl70, nl12, nl13, nl21, nl23, nl31, nl32]; first | done | exact ⟨rfl, rfl⟩ | rfl)
      | contradiction
      | (simp only [c_5, if_true, if_false, and_self, and_true, true_and, not_true_eq_false, not_false_eq_true, and_false, false_and, or_true, true_or, or_false, false_or, or_self, Bool.false_eq_true, reduceCtorEq, nl10, nl20, nl30, nl40, nl50, nl60, nl70, nl12, nl13, nl21, nl23, nl31, nl32]; contradiction)
      | (exfalso; simp_all; done)
      | simp_all

def a_X8_show (M : Nat → Nat → Int32) (L : Nat → Nat → Int64) (s1 : Int32) (w : Int32) : fR := (if (0 ≤ s1 ∧ s1 < 8) then (if w = (-1) then (if w = (-1) then (if w = (-1) then (0, (up2 (up2 M 100 s1.toNatClampNeg 0) 103 s1.toNatClampNeg w), L) else (1, (up2 (up2 M 100 s1.toNatClampNeg 0) 103 s1.toNatClampNeg w), L)) else (if w = (-1) then (0, (up2 (up2 M 100 s1.toNatClampNeg 2) 103 s1.toNatClampNeg w), L) else (1, (up2 (up2 M 100 s1.toNatClampNeg 2) 103 s1.toNatClampNeg w), L))) else (if (0 ≤ w ∧ w < (M 86 0)) then (if w = (-1) then (if w = (-1) then (0, (up2 (up2 M 100 s1.toNatClampNeg 0) 103 s1.toNatClampNeg w), L) else (1, (up2 (up2 M 100 s1.toNatClampNeg 0) 103 s1.toNatClampNeg w), L)) else (if w = (-1) then (0, (up2 (up2 M 100 s1.toNatClampNeg 2) 103 s1.toNatClampNeg w), L) else (1, (up2 (up2 M 100 s1.toNatClampNeg 2) 103 s1.toNatClampNeg w), L))) else ((-1), (noM M (-1)), L))) else ((-1), (noM M (-1)), L))
set_option maxHeartbeats 1000000 in
set_option maxRecDepth 100000 in
theorem c_X8_show (l : Launch) (E : fE) (M : Nat → Nat → Int32) (L : Nat → Nat → Int64) (s1 : Int32) (w : Int32) : Met l yX8_show (wl yX8_show cX8_show 3 (some .int)) (fRm 1 21) (va_Pc [.ref (fad E 86), .int s1, .int w] (fPre E M L)) (fQi E (fun r u => u = ((a_X8_show M L s1 w).2.1, L) ∧ r = (a_X8_show M L s1 w).1)) 0 0 (fA E) := by
  refine f_head (by decide) (Nat.le_of_ble_eq_true rfl) ?_
  intro pg ev s mi below meth cd ls X hr hlk hP hS hl
  have hx := X.1.1
  have hb := X.1.2.1
  have hl : lv_has ls 3 [(0, .ref (fad E 86)), (1, .int s1), (2, .int w)] := hl
  refine lv_aload_n hx hb dX8_show_0 rfl (lv_at hl 0 rfl) ?_
  refine lv_iload_n hx hb dX8_show_1 rfl (lv_at hl 1 rfl) ?_
  refine f_iV (n := 1) X hP hS [.int s1] [] (c_X8_isShelf l E M L s1) m_5_80 wi_X8_isShelf rfl rfl (by decide) (by decide +kernel) ⟨Nat.le_of_ble_eq_true rfl, Nat.le_of_ble_eq_true rfl⟩ rfl hl rfl (Nat.le_of_ble_eq_true rfl) ⟨Nat.zero_le _, Nat.zero_le _⟩ dX8_show_2 (fun H locs hP hS => ?_)
  refine lv_if_eq (tgt := 21) hx hb dX8_show_5 (by decide) (fun c_5 => ?_) (fun c_5 => ?_)
  · have c_5 := bI0 c_5
    refine lv_aload_n hx hb dX8_show_21 rfl (lv_at hl 0 rfl) ?_
    refine lv_iconst (v := (-1)) hx hb dX8_show_22 (by decide) ?_
    refine f_iV (n := 1) X hP hS [.int (-1)] [] (c_X8_no l E M L (-1) (by decide)) m_5_84 wi_X8_no rfl rfl (by decide) (by decide +kernel) ⟨Nat.le_of_ble_eq_true rfl, Nat.le_of_ble_eq_true rfl⟩ rfl hl rfl (Nat.le_of_ble_eq_true rfl) ⟨Nat.zero_le _, Nat.zero_le _⟩ dX8_show_23 (fun H locs hP hS => ?_)
    refine f_ir X hlk hr (v := (-1)) rfl hP hS ?_ dX8_show_26
    unfold a_X8_show
    (first | rw [if_pos c_5] | rw [if_neg c_5] | rw [if_neg (Bool.eq_false_iff.mp c_5)] | skip)
    (try dsimp only)
    first
      | done
      | exact ⟨rfl, rfl⟩
      | rfl
      | (simp only [c_5, if_true, if_false, and_self, and_true, true_and, not_true_eq_false, not_false_eq_true, and_false, false_and, or_true, true_or, or_false, false_or, or_self, Bool.false_eq_true, reduceCtorEq, nl10, nl20, nl30, nl40, nl50, nl60, nl70, nl12, nl13, nl21, nl23, nl31, nl32]; first | done | exact ⟨rfl, rfl⟩ | rfl)
      | contradiction
      | (simp only [c_5, if_true, if_false, and_self, and_true, true_and, not_true_eq_false, not_false_eq_true, and_false, false_and, or_true, true_or, or_false, false_or, or_self, Bool.false_eq_true, reduceCtorEq, nl10, nl20, nl30, nl40, nl50, nl60, nl70, nl12, nl13, nl21, nl23, nl31, nl32]; contradiction)
      | (exfalso; simp_all; done)
      | simp_all
  · have c_5 := bI1 c_5
    refine lv_iload_n hx hb dX8_show_8 rfl (lv_at hl 2 rfl) ?_
    refine lv_iconst (v := (-1)) hx hb dX8_show_9 (by decide) ?_
    refine lv_icmp_eq (tgt := 27) hx hb dX8_show_10 (by decide) (fun c_10 => ?_) (fun c_10 => ?_)
    · refine lv_aload_n hx hb dX8_show_27 rfl (lv_at hl 0 rfl) ?_
      refine f_get X hP (T := TX8) (ci := 8) (k := 86) rfl inX8 rfl 21 (by decide) m_4_195 rfl (v := .ref (fad E 100)) rfl dX8_show_28 ?_
      refine lv_iload_n hx hb dX8_show_31 rfl (lv_at hl 1 rfl) ?_
      refine lv_iload_n hx hb dX8_show_32 rfl (lv_at hl 2 rfl) ?_
      refine lv_iconst (v := (-1)) hx hb dX8_show_33 (by decide) ?_
      refine lv_icmp_ne (tgt := 41) hx hb dX8_show_34 (by decide) (fun c_34 => ?_) (fun c_34 => ?_)
      · refine lv_iconst (v := 2) hx hb dX8_show_41 (by decide) ?_
        have hix_1 : fIx s1 8 s1.toNatClampNeg := by
          first
            | exact fIx_lt 8 c_5.1 c_5.2 (by decide)
            | exact fIx_lt 8 c_10.1 c_10.2 (by decide)
            | exact fIx_lt 8 c_34.1 c_34.2 (by decide)
            | exact fIx_le 7 c_5.1 c_5.2 (by decide)
            | exact fIx_le 7 c_10.1 c_10.2 (by decide)
            | exact fIx_le 7 c_34.1 c_34.2 (by decide)
            | exact fIx_lt 8 c_5.1 c_5.2.2 (by decide)
            | exact fIx_lt 8 c_10.1 c_10.2.2 (by decide)
            | exact fIx_lt 8 c_34.1 c_34.2.2 (by decide)
            | exact fIx_le 7 (rr0 c_5).1.1 (rr0 c_5).1.2 (by decide)
            | exact fIx_le 7 (rr0 c_10).1.1 (rr0 c_10).1.2 (by decide)
            | exact fIx_le 7 (rr0 c_34).1.1 (rr0 c_34).1.2 (by decide)
            | (refine fIx_lt 8 (show (0 : Int32) ≤ s1 from ?_) (show s1 < (8 : Int32) from ?_) (by decide) <;> (have e0_9 : (0 : Int32).toInt = 0 := rfl; have en_9 : (8 : Int32).toInt = 8 := rfl; simp only [Int32.lt_iff_toInt_lt, Int32.le_iff_toInt_le, Int32.not_lt, Int32.not_le, ← Int32.toInt_inj] at *; omega))
        have hlt_1 := hix_1.2.2
        refine f_iast X hP hS (k := 100) (n := 8) (q := s1.toNatClampNeg) rfl rfl (v := 2) hix_1 dX8_show_42 (fun H locs hP hS => ?_)
        refine lv_aload_n hx hb dX8_show_43 rfl (lv_at hl 0 rfl) ?_
        refine f_get X hP (T := TX8) (ci := 8) (k := 86) rfl inX8 rfl 24 (by decide) m_4_198 rfl (v := .ref (fad E 103)) rfl dX8_show_44 ?_
        refine lv_iload_n hx hb dX8_show_47 rfl (lv_at hl 1 rfl) ?_
        refine lv_iload_n hx hb dX8_show_48 rfl (lv_at hl 2 rfl) ?_
        refine f_iast X hP hS (k := 103) (n := 8) (q := s1.toNatClampNeg) rfl rfl (v := w) hix_1 dX8_show_49 (fun H locs hP hS => ?_)
        refine lv_iload_n hx hb dX8_show_50 rfl (lv_at hl 2 rfl) ?_
        refine lv_iconst (v := (-1)) hx hb dX8_show_51 (by decide) ?_
        refine lv_icmp_ne (tgt := 59) hx hb dX8_show_52 (by decide) (fun c_52 => ?_) (fun c_52 => ?_)
        · refine lv_iconst (v := 1) hx hb dX8_show_59 (by decide) ?_
          refine f_ir X hlk hr (v := 1) rfl hP hS ?_ dX8_show_60
          unfold a_X8_show
          (first | rw [if_pos c_5] | rw [if_neg c_5] | rw [if_neg (Bool.eq_false_iff.mp c_5)] | skip)
          (first | rw [if_pos c_10] | rw [if_neg c_10] | rw [if_neg (Bool.eq_false_iff.mp c_10)] | skip)
          (first | rw [if_pos c_34] | rw [if_neg c_34] | rw [if_neg (Bool.eq_false_iff.mp c_34)] | skip)
          (first | rw [if_pos c_52] | rw [if_neg c_52] | rw [if_neg (Bool.eq_false_iff.mp c_52)] | skip)
          (try dsimp only)
          first
            | done
            | exact ⟨rfl, rfl⟩
            | rfl
            | (simp only [c_5, c_10, c_34, c_52, if_true, if_false, and_self, and_true, true_and, not_true_eq_false, not_false_eq_true, and_false, false_and, or_true, true_or, or_false, false_or, or_self, Bool.false_eq_true, reduceCtorEq, nl10, nl20, nl30, nl40, nl50, nl60, nl70, nl12, nl13, nl21, nl23, nl31, nl32]; first | done | exact ⟨rfl, rfl⟩ | rfl)
            | contradiction
            | (simp only [c_5, c_10, c_34, c_52, if_true, if_false, and_self, and_true, true_and, not_true_eq_false, not_false_eq_true, and_false, false_and, or_true, true_or, or_false, false_or, or_self, Bool.false_eq_true, reduceCtorEq, nl10, nl20, nl30, nl40, nl50, nl60, nl70, nl12, nl13, nl21, nl23, nl31, nl32]; contradiction)
            | (exfalso; simp_all; done)
            | simp_all
        · refine lv_iconst (v := 0) hx hb dX8_show_55 (by decide) ?_
          refine lv_goto (tgt := 60) hx hb dX8_show_56 (by decide) ?_
          refine f_ir X hlk hr (v := 0) rfl hP hS ?_ dX8_show_60
          unfold a_X8_show
          (first | rw [if_pos c_5] | rw [if_neg c_5] | rw [if_neg (Bool.eq_false_iff.mp c_5)] | skip)
          (first | rw [if_pos c_10] | rw [if_neg c_10] | rw [if_neg (Bool.eq_false_iff.mp c_10)] | skip)
          (first | rw [if_pos c_34] | rw [if_neg c_34] | rw [if_neg (Bool.eq_false_iff.mp c_34)] | skip)
          (first | rw [if_pos c_52] | rw [if_neg c_52] | rw [if_neg (Bool.eq_false_iff.mp c_52)] | skip)
          (try dsimp only)
          first
            | done
            | exact ⟨rfl, rfl⟩
            | rfl
            | (simp only [c_5, c_10, c_34, c_52, if_true, if_false, and_self, and_true, true_and, not_true_eq_false, not_false_eq_true, and_false, false_and, or_true, true_or, or_false, false_or, or_self, Bool.false_eq_true, reduceCtorEq, nl10, nl20, nl30, nl40, nl50, nl60, nl70, nl12, nl13, nl21, nl23, nl31, nl32]; first | done | exact ⟨rfl, rfl⟩ | rfl)
            | contradiction
            | (simp only [c_5, c_10, c_34, c_52, if_true, if_false, and_self, and_true, true_and, not_true_eq_false, not_false_eq_true, and_false, false_and, or_true, true_or, or_false, false_or, or_self, Bool.false_eq_true, reduceCtorEq, nl10, nl20, nl30, nl40, nl50, nl60, nl70, nl12, nl13, nl21, nl23, nl31, nl32]; contradiction)
            | (exfalso; simp_all; done)
            | simp_all
      · refine lv_iconst (v := 0) hx hb dX8_show_37 (by decide) ?_
        refine lv_goto (tgt := 42) hx hb dX8_show_38 (by decide) ?_
        have hix_2 : fIx s1 8 s1.toNatClampNeg := by
          first
            | exact fIx_lt 8 c_5.1 c_5.2 (by decide)
            | exact fIx_lt 8 c_10.1 c_10.2 (by decide)
            | exact fIx_lt 8 c_34.1 c_34.2 (by decide)
            | exact fIx_le 7 c_5.1 c_5.2 (by decide)
            | exact fIx_le 7 c_10.1 c_10.2 (by decide)
            | exact fIx_le 7 c_34.1 c_34.2 (by decide)
            | exact fIx_lt 8 c_5.1 c_5.2.2 (by decide)
            | exact fIx_lt 8 c_10.1 c_10.2.2 (by decide)
            | exact fIx_lt 8 c_34.1 c_34.2.2 (by decide)
            | exact fIx_le 7 (rr0 c_5).1.1 (rr0 c_5).1.2 (by decide)
            | exact fIx_le 7 (rr0 c_10).1.1 (rr0 c_10).1.2 (by decide)
            | exact fIx_le 7 (rr0 c_34).1.1 (rr0 c_34).1.2 (by decide)
            | (refine fIx_lt 8 (show (0 : Int32) ≤ s1 from ?_) (show s1 < (8 : Int32) from ?_) (by decide) <;> (have e0_9 : (0 : Int32).toInt = 0 := rfl; have en_9 : (8 : Int32).toInt = 8 := rfl; simp only [Int32.lt_iff_toInt_lt, Int32.le_iff_toInt_le, Int32.not_lt, Int32.not_le, ← Int32.toInt_inj] at *; omega))
        have hlt_2 := hix_2.2.2
        refine f_iast X hP hS (k := 100) (n := 8) (q := s1.toNatClampNeg) rfl rfl (v := 0) hix_2 dX8_show_42 (fun H locs hP hS => ?_)
        refine lv_aload_n hx hb dX8_show_43 rfl (lv_at hl 0 rfl) ?_
        refine f_get X hP (T := TX8) (ci := 8) (k := 86) rfl inX8 rfl 24 (by decide) m_4_198 rfl (v := .ref (fad E 103)) rfl dX8_show_44 ?_
        refine lv_iload_n hx hb dX8_show_47 rfl (lv_at hl 1 rfl) ?_
        refine lv_iload_n hx hb dX8_show_48 rfl (lv_at hl 2 rfl) ?_
        refine f_iast X hP hS (k := 103) (n := 8) (q := s1.toNatClampNeg) rfl rfl (v := w) hix_2 dX8_show_49 (fun H locs hP hS => ?_)
        refine lv_iload_n hx hb dX8_show_50 rfl (lv_at hl 2 rfl) ?_
        refine lv_iconst (v := (-1)) hx hb dX8_show_51 (by decide) ?_
        refine lv_icmp_ne (tgt := 59) hx hb dX8_show_52 (by decide) (fun c_52 => ?_) (fun c_52 => ?_)
        · refine lv_iconst (v := 1) hx hb dX8_show_59 (by decide) ?_
          refine f_ir X hlk hr (v := 1) rfl hP hS ?_ dX8_show_60
          unfold a_X8_show
          (first | rw [if_pos c_5] | rw [if_neg c_5] | rw [if_neg (Bool.eq_false_iff.mp c_5)] | skip)
          (first | rw [if_pos c_10] | rw [if_neg c_10] | rw [if_neg (Bool.eq_false_iff.mp c_10)] | skip)
          (first | rw [if_pos c_34] | rw [if_neg c_34] | rw [if_neg (Bool.eq_false_iff.mp c_34)] | skip)
          (first | rw [if_pos c_52] | rw [if_neg c_52] | rw [if_neg (Bool.eq_false_iff.mp c_52)] | skip)
          (try dsimp only)
          first
            | done
            | exact ⟨rfl, rfl⟩
            | rfl
            | (simp only [c_5, c_10, c_34, c_52, if_true, if_false, and_self, and_true, true_and, not_true_eq_false, not_false_eq_true, and_false, false_and, or_true, true_or, or_false, false_or, or_self, Bool.false_eq_true, reduceCtorEq, nl10, nl20, nl30, nl40, nl50, nl60, nl70, nl12, nl13, nl21, nl23, nl31, nl32]; first | done | exact ⟨rfl, rfl⟩ | rfl)
            | contradiction
            | (simp only [c_5, c_10, c_34, c_52, if_true, if_false, and_self, and_true, true_and, not_true_eq_false, not_false_eq_true, and_false, false_and, or_true, true_or, or_false, false_or, or_self, Bool.false_eq_true, reduceCtorEq, nl10, nl20, nl30, nl40, nl50, nl60, nl70, nl12, nl13, nl21, nl23, nl31, nl32]; contradiction)
            | (exfalso; simp_all; done)
            | simp_all
        · refine lv_iconst (v := 0) hx hb dX8_show_55 (by decide) ?_
          refine lv_goto (tgt := 60) hx hb dX8_show_56 (by decide) ?_
          refine f_ir X hlk hr (v := 0) rfl hP hS ?_ dX8_show_60
          unfold a_X8_show
          (first | rw [if_pos c_5] | rw [if_neg c_5] | rw [if_neg (Bool.eq_false_iff.mp c_5)] | skip)
          (first | rw [if_pos c_10] | rw [if_neg c_10] | rw [if_neg (Bool.eq_false_iff.mp c_10)] | skip)
          (first | rw [if_pos c_34] | rw [if_neg c_34] | rw [if_neg (Bool.eq_false_iff.mp c_34)] | skip)
          (first | rw [if_pos c_52] | rw [if_neg c_52] | rw [if_neg (Bool.eq_false_iff.mp c_52)] | skip)
          (try dsimp only)
          first
            | done
            | exact ⟨rfl, rfl⟩
            | rfl
            | (simp only [c_5, c_10, c_34, c_52, if_true, if_false, and_self, and_true, true_and, not_true_eq_false, not_false_eq_true, and_false, false_and, or_true, true_or, or_false, false_or, or_self, Bool.false_eq_true, reduceCtorEq, nl10, nl20, nl30, nl40, nl50, nl60, nl70, nl12, nl13, nl21, nl23, nl31, nl32]; first | done | exact ⟨rfl, rfl⟩ | rfl)
            | contradiction
            | (simp only [c_5, c_10, c_34, c_52, if_true, if_false, and_self, and_true, true_and, not_true_eq_false, not_false_eq_true, and_false, false_and, or_true, true_or, or_false, false_or, or_self, Bool.false_eq_true, reduceCtorEq, nl10, nl20, nl30, nl40, nl50, nl60, nl70, nl12, nl13, nl21, nl23, nl31, nl32]; contradiction)
            | (exfalso; simp_all; done)
            | simp_all
    · refine lv_aload_n hx hb dX8_show_13 rfl (lv_at hl 0 rfl) ?_
      refine lv_iload_n hx hb dX8_show_14 rfl (lv_at hl 2 rfl) ?_
      refine f_iV (n := 1) X hP hS [.int w] [] (c_X8_isWaiter l E M L w) m_5_104 wi_X8_isWaiter rfl rfl (by decide) (by decide +kernel) ⟨Nat.le_of_ble_eq_true rfl, Nat.le_of_ble_eq_true rfl⟩ rfl hl rfl (Nat.le_of_ble_eq_true rfl) ⟨Nat.zero_le _, Nat.zero_le _⟩ dX8_show_15 (fun H locs hP hS => ?_)
      refine lv_if_ne (tgt := 27) hx hb dX8_show_18 (by decide) (fun c_18 => ?_) (fun c_18 => ?_)
      · have c_18 := bI1 c_18
        refine lv_aload_n hx hb dX8_show_27 rfl (lv_at hl 0 rfl) ?_
        refine f_get X hP (T := TX8) (ci := 8) (k := 86) rfl inX8 rfl 21 (by decide) m_4_195 rfl (v := .ref (fad E 100)) rfl dX8_show_28 ?_
        refine lv_iload_n hx hb dX8_show_31 rfl (lv_at hl 1 rfl) ?_
        refine lv_iload_n hx hb dX8_show_32 rfl (lv_at hl 2 rfl) ?_
        refine lv_iconst (v := (-1)) hx hb dX8_show_33 (by decide) ?_
        refine lv_icmp_ne (tgt := 41) hx hb dX8_show_34 (by decide) (fun c_34 => ?_) (fun c_34 => ?_)
        · refine lv_iconst (v := 2) hx hb dX8_show_41 (by decide) ?_
          have hix_3 : fIx s1 8 s1.toNatClampNeg := by
            first
              | exact fIx_lt 8 c_5.1 c_5.2 (by decide)
              | exact fIx_lt 8 c_10.1 c_10.2 (by decide)
              | exact fIx_lt 8 c_18.1 c_18.2 (by decide)
              | exact fIx_lt 8 c_34.1 c_34.2 (by decide)
              | exact fIx_le 7 c_5.1 c_5.2 (by decide)
              | exact fIx_le 7 c_10.1 c_10.2 (by decide)
              | exact fIx_le 7 c_18.1 c_18.2 (by decide)
              | exact fIx_le 7 c_34.1 c_34.2 (by decide)
              | exact fIx_lt 8 c_5.1 c_5.2.2 (by decide)
              | exact fIx_lt 8 c_10.1 c_10.2.2 (by decide)
              | exact fIx_lt 8 c_18.1 c_18.2.2 (by decide)
              | exact fIx_lt 8 c_34.1 c_34.2.2 (by decide)
              | exact fIx_le 7 (rr0 c_5).1.1 (rr0 c_5).1.2 (by decide)
              | exact fIx_le 7 (rr0 c_10).1.1 (rr0 c_10).1.2 (by decide)
              | exact fIx_le 7 (rr0 c_18).1.1 (rr0 c_18).1.2 (by decide)
              | exact fIx_le 7 (rr0 c_34).1.1 (rr0 c_34).1.2 (by decide)
              | (refine fIx_lt 8 (show (0 : Int32) ≤ s1 from ?_) (show s1 < (8 : Int32) from ?_) (by decide) <;> (have e0_9 : (0 : Int32).toInt = 0 := rfl; have en_9 : (8 : Int32).toInt = 8 := rfl; simp only [Int32.lt_iff_toInt_lt, Int32.le_iff_toInt_le, Int32.not_lt, Int32.not_le, ← Int32.toInt_inj] at *; omega))
          have hlt_3 := hix_3.2.2
          refine f_iast X hP hS (k := 100) (n := 8) (q := s1.toNatClampNeg) rfl rfl (v := 2) hix_3 dX8_show_42 (fun H locs hP hS => ?_)
          refine lv_aload_n hx hb dX8_show_43 rfl (lv_at hl 0 rfl) ?_
          refine f_get X hP (T := TX8) (ci := 8) (k := 86) rfl inX8 rfl 24 (by decide) m_4_198 rfl (v := .ref (fad E 103)) rfl dX8_show_44 ?_
          refine lv_iload_n hx hb dX8_show_47 rfl (lv_at hl 1 rfl) ?_
          refine lv_iload_n hx hb dX8_show_48 rfl (lv_at hl 2 rfl) ?_
          refine f_iast X hP hS (k := 103) (n := 8) (q := s1.toNatClampNeg) rfl rfl (v := w) hix_3 dX8_show_49 (fun H locs hP hS => ?_)
          refine lv_iload_n hx hb dX8_show_50 rfl (lv_at hl 2 rfl) ?_
          refine lv_iconst (v := (-1)) hx hb dX8_show_51 (by decide) ?_
          refine lv_icmp_ne (tgt := 59) hx hb dX8_show_52 (by decide) (fun c_52 => ?_) (fun c_52 => ?_)
          · refine lv_iconst (v := 1) hx hb dX8_show_59 (by decide) ?_
            refine f_ir X hlk hr (v := 1) rfl hP hS ?_ dX8_show_60
            unfold a_X8_show
            (first | rw [if_pos c_5] | rw [if_neg c_5] | rw [if_neg (Bool.eq_false_iff.mp c_5)] | skip)
            (first | rw [if_pos c_10] | rw [if_neg c_10] | rw [if_neg (Bool.eq_false_iff.mp c_10)] | skip)
            (first | rw [if_pos c_18] | rw [if_neg c_18] | rw [if_neg (Bool.eq_false_iff.mp c_18)] | skip)
            (first | rw [if_pos c_34] | rw [if_neg c_34] | rw [if_neg (Bool.eq_false_iff.mp c_34)] | skip)
            (first | rw [if_pos c_52] | rw [if_neg c_52] | rw [if_neg (Bool.eq_false_iff.mp c_52)] | skip)
            (try dsimp only)
            first
              | done
              | exact ⟨rfl, rfl⟩
              | rfl
              | (simp only [c_5, c_10, c_18, c_34, c_52, if_true, if_false, and_self, and_true, true_and, not_true_eq_false, not_false_eq_true, and_false, false_and, or_true, true_or, or_false, false_or, or_self, Bool.false_eq_true, reduceCtorEq, nl10, nl20, nl30, nl40, nl50, nl60, nl70, nl12, nl13, nl21, nl23, nl31, nl32]; first | done | exact ⟨rfl, rfl⟩ | rfl)
              | contradiction
              | (simp only [c_5, c_10, c_18, c_34, c_52, if_true, if_false, and_self, and_true, true_and, not_true_eq_false, not_false_eq_true, and_false, false_and, or_true, true_or, or_false, false_or, or_self, Bool.false_eq_true, reduceCtorEq, nl10, nl20, nl30, nl40, nl50, nl60, nl70, nl12, nl13, nl21, nl23, nl31, nl32]; contradiction)
              | (exfalso; simp_all; done)
              | simp_all
          · refine lv_iconst (v := 0) hx hb dX8_show_55 (by decide) ?_
            refine lv_goto (tgt := 60) hx hb dX8_show_56 (by decide) ?_
            refine f_ir X hlk hr (v := 0) rfl hP hS ?_ dX8_show_60
            unfold a_X8_show
            (first | rw [if_pos c_5] | rw [if_neg c_5] | rw [if_neg (Bool.eq_false_iff.mp c_5)] | skip)
            (first | rw [if_pos c_10] | rw [if_neg c_10] | rw [if_neg (Bool.eq_false_iff.mp c_10)] | skip)
            (first | rw [if_pos c_18] | rw [if_neg c_18] | rw [if_neg (Bool.eq_false_iff.mp c_18)] | skip)
            (first | rw [if_pos c_34] | rw [if_neg c_34] | rw [if_neg (Bool.eq_false_iff.mp c_34)] | skip)
            (first | rw [if_pos c_52] | rw [if_neg c_52] | rw [if_neg (Bool.eq_false_iff.mp c_52)] | skip)
            (try dsimp only)
            first
              | done
              | exact ⟨rfl, rfl⟩
              | rfl
              | (simp only [c_5, c_10, c_18, c_34, c_52, if_true, if_false, and_self, and_true, true_and, not_true_eq_false, not_false_eq_true, and_false, false_and, or_true, true_or, or_false, false_or, or_self, Bool.false_eq_true, reduceCtorEq, nl10, nl20, nl30, nl40, nl50, nl60, nl70, nl12, nl13, nl21, nl23, nl31, nl32]; first | done | exact ⟨rfl, rfl⟩ | rfl)
              | contradiction
              | (simp only [c_5, c_10, c_18, c_34, c_52, if_true, if_false, and_self, and_true, true_and, not_true_eq_false, not_false_eq_true, and_false, false_and, or_true, true_or, or_false, false_or, or_self, Bool.false_eq_true, reduceCtorEq, nl10, nl20, nl30, nl40, nl50, nl60, nl70, nl12, nl13, nl21, nl23, nl31, nl32]; contradiction)
              | (exfalso; simp_all; done)
              | simp_all
        · refine lv_iconst (v := 0) hx hb dX8_show_37 (by decide) ?_
          refine lv_goto (tgt := 42) hx hb dX8_show_38 (by decide) ?_
          have hix_4 : fIx s1 8 s1.toNatClampNeg := by
            first
              | exact fIx_lt 8 c_5.1 c_5.2 (by decide)
              | exact fIx_lt 8 c_10.1 c_10.2 (by decide)
              | exact fIx_lt 8 c_18.1 c_18.2 (by decide)
              | exact fIx_lt 8 c_34.1 c_34.2 (by decide)
              | exact fIx_le 7 c_5.1 c_5.2 (by decide)
              | exact fIx_le 7 c_10.1 c_10.2 (by decide)
              | exact fIx_le 7 c_18.1 c_18.2 (by decide)
              | exact fIx_le 7 c_34.1 c_34.2 (by decide)
              | exact fIx_lt 8 c_5.1 c_5.2.2 (by decide)
              | exact fIx_lt 8 c_10.1 c_10.2.2 (by decide)
              | exact fIx_lt 8 c_18.1 c_18.2.2 (by decide)
              | exact fIx_lt 8 c_34.1 c_34.2.2 (by decide)
              | exact fIx_le 7 (rr0 c_5).1.1 (rr0 c_5).1.2 (by decide)
              | exact fIx_le 7 (rr0 c_10).1.1 (rr0 c_10).1.2 (by decide)
              | exact fIx_le 7 (rr0 c_18).1.1 (rr0 c_18).1.2 (by decide)
              | exact fIx_le 7 (rr0 c_34).1.1 (rr0 c_34).1.2 (by decide)
              | (refine fIx_lt 8 (show (0 : Int32) ≤ s1 from ?_) (show s1 < (8 : Int32) from ?_) (by decide) <;> (have e0_9 : (0 : Int32).toInt = 0 := rfl; have en_9 : (8 : Int32).toInt = 8 := rfl; simp only [Int32.lt_iff_toInt_lt, Int32.le_iff_toInt_le, Int32.not_lt, Int32.not_le, ← Int32.toInt_inj] at *; omega))
          have hlt_4 := hix_4.2.2
          refine f_iast X hP hS (k := 100) (n := 8) (q := s1.toNatClampNeg) rfl rfl (v := 0) hix_4 dX8_show_42 (fun H locs hP hS => ?_)
          refine lv_aload_n hx hb dX8_show_43 rfl (lv_at hl 0 rfl) ?_
          refine f_get X hP (T := TX8) (ci := 8) (k := 86) rfl inX8 rfl 24 (by decide) m_4_198 rfl (v := .ref (fad E 103)) rfl dX8_show_44 ?_
          refine lv_iload_n hx hb dX8_show_47 rfl (lv_at hl 1 rfl) ?_
          refine lv_iload_n hx hb dX8_show_48 rfl (lv_at hl 2 rfl) ?_
          refine f_iast X hP hS (k := 103) (n := 8) (q := s1.toNatClampNeg) rfl rfl (v := w) hix_4 dX8_show_49 (fun H locs hP hS => ?_)
          refine lv_iload_n hx hb dX8_show_50 rfl (lv_at hl 2 rfl) ?_
          refine lv_iconst (v := (-1)) hx hb dX8_show_51 (by decide) ?_
          refine lv_icmp_ne (tgt := 59) hx hb dX8_show_52 (by decide) (fun c_52 => ?_) (fun c_52 => ?_)
          · refine lv_iconst (v := 1) hx hb dX8_show_59 (by decide) ?_
            refine f_ir X hlk hr (v := 1) rfl hP hS ?_ dX8_show_60
            unfold a_X8_show
            (first | rw [if_pos c_5] | rw [if_neg c_5] | rw [if_neg (Bool.eq_false_iff.mp c_5)] | skip)
            (first | rw [if_pos c_10] | rw [if_neg c_10] | rw [if_neg (Bool.eq_false_iff.mp c_10)] | skip)
            (first | rw [if_pos c_18] | rw [if_neg c_18] | rw [if_neg (Bool.eq_false_iff.mp c_18)] | skip)
            (first | rw [if_pos c_34] | rw [if_neg c_34] | rw [if_neg (Bool.eq_false_iff.mp c_34)] | skip)
            (first | rw [if_pos c_52] | rw [if_neg c_52] | rw [if_neg (Bool.eq_false_iff.mp c_52)] | skip)
            (try dsimp only)
            first
              | done
              | exact ⟨rfl, rfl⟩
              | rfl
              | (simp only [c_5, c_10, c_18, c_34, c_52, if_true, if_false, and_self, and_true, true_and, not_true_eq_false, not_false_eq_true, and_false, false_and, or_true, true_or, or_false, false_or, or_self, Bool.false_eq_true, reduceCtorEq, nl10, nl20, nl30, nl40, nl50, nl60, nl70, nl12, nl13, nl21, nl23, nl31, nl32]; first | done | exact ⟨rfl, rfl⟩ | rfl)
              | contradiction
              | (simp only [c_5, c_10, c_18, c_34, c_52, if_true, if_false, and_self, and_true, true_and, not_true_eq_false, not_false_eq_true, and_false, false_and, or_true, true_or, or_false, false_or, or_self, Bool.false_eq_true, reduceCtorEq, nl10, nl20, nl30, nl40, nl50, nl60, nl70, nl12, nl13, nl21, nl23, nl31, nl32]; contradiction)
              | (exfalso; simp_all; done)
              | simp_all
          · refine lv_iconst (v := 0) hx hb dX8_show_55 (by decide) ?_
            refine lv_goto (tgt := 60) hx hb dX8_show_56 (by decide) ?_
            refine f_ir X hlk hr (v := 0) rfl hP hS ?_ dX8_show_60
            unfold a_X8_show
            (first | rw [if_pos c_5] | rw [if_neg c_5] | rw [if_neg (Bool.eq_false_iff.mp c_5)] | skip)
            (first | rw [if_pos c_10] | rw [if_neg c_10] | rw [if_neg (Bool.eq_false_iff.mp c_10)] | skip)
            (first | rw [if_pos c_18] | rw [if_neg c_18] | rw [if_neg (Bool.eq_false_iff.mp c_18)] | skip)
            (first | rw [if_pos c_34] | rw [if_neg c_34] | rw [if_neg (Bool.eq_false_iff.mp c_34)] | skip)
            (first | rw [if_pos c_52] | rw [if_neg c_52] | rw [if_neg (Bool.eq_false_iff.mp c_52)] | skip)
            (try dsimp only)
            first
              | done
              | exact ⟨rfl, rfl⟩
              | rfl
              | (simp only [c_5, c_10, c_18, c_34, c_52, if_true, if_false, and_self, and_true, true_and, not_true_eq_false, not_false_eq_true, and_false, false_and, or_true, true_or, or_false, false_or, or_self, Bool.false_eq_true, reduceCtorEq, nl10, nl20, nl30, nl40, nl50, nl60, nl70, nl12, nl13, nl21, nl23, nl31, nl32]; first | done | exact ⟨rfl, rfl⟩ | rfl)
              | contradiction
              | (simp only [c_5, c_10, c_18, c_34, c_52, if_true, if_false, and_self, and_true, true_and, not_true_eq_false, not_false_eq_true, and_false, false_and, or_true, true_or, or_false, false_or, or_self, Bool.false_eq_true, reduceCtorEq, nl10, nl20, nl30, nl40, nl50, nl60, nl70, nl12, nl13, nl21, nl23, nl31, nl32]; contradiction)
              | (exfalso; simp_all; done)
              | simp_all
      · have c_18 := bI0 c_18
        refine lv_aload_n hx hb dX8_show_21 rfl (lv_at hl 0 rfl) ?_
        refine lv_iconst (v := (-1)) hx hb dX8_show_22 (by decide) ?_
        refine f_iV (n := 1) X hP hS [.int (-1)] [] (c_X8_no l E M L (-1) (by decide)) m_5_84 wi_X8_no rfl rfl (by decide) (by decide +kernel) ⟨Nat.le_of_ble_eq_true rfl, Nat.le_of_ble_eq_true rfl⟩ rfl hl rfl (Nat.le_of_ble_eq_true rfl) ⟨Nat.zero_le _, Nat.zero_le _⟩ dX8_show_23 (fun H locs hP hS => ?_)
        refine f_ir X hlk hr (v := (-1)) rfl hP hS ?_ dX8_show_26
        unfold a_X8_show
        (first | rw [if_pos c_5] | rw [if_neg c_5] | rw [if_neg (Bool.eq_false_iff.mp c_5)] | skip)
        (first | rw [if_pos c_10] | rw [if_neg c_10] | rw [if_neg (Bool.eq_false_iff.mp c_10)] | skip)
        (first | rw [if_pos c_18] | rw [if_neg c_18] | rw [if_neg (Bool.eq_false_iff.mp c_18)] | skip)
        (try dsimp only)
        first
          | done
          | exact ⟨rfl, rfl⟩
          | rfl
          | (simp only [c_5, c_10, c_18, if_true, if_false, and_self, and_true, true_and, not_true_eq_false, not_false_eq_true, and_false, false_and, or_true, true_or, or_false, false_or, or_self, Bool.false_eq_true, reduceCtorEq, nl10, nl20, nl30, nl40, nl50, nl60, nl70, nl12, nl13, nl21, nl23, nl31, nl32]; first | done | exact ⟨rfl, rfl⟩ | rfl)
          | contradiction
          | (simp only [c_5, c_10, c_18, if_true, if_false, and_self, and_true, true_and, not_true_eq_false, not_false_eq_true, and_false, false_and, or_true, true_or, or_false, false_or, or_self, Bool.false_eq_true, reduceCtorEq, nl10, nl20, nl30, nl40, nl50, nl60, nl70, nl12, nl13, nl21, nl23, nl31, nl32]; contradiction)
          | (exfalso; simp_all; done)
          | simp_all

def a_X8_holds (M : Nat → Nat → Int32) (L : Nat → Nat → Int64) (s1 : Int32) : Int32 := (if (0 ≤ s1 ∧ s1 < 8) then (if (M 100 s1.toNatClampNeg) = 0 then (-1) else (if (M 100 s1.toNatClampNeg) = 1 then (100 + (M 101 s1.toNatClampNeg)) else (M 103 s1.toNatClampNeg))) else (-1))
set_option maxHeartbeats 1000000 in
set_option maxRecDepth 100000 in
theorem c_X8_holds (l : Launch) (E : fE) (M : Nat → Nat → Int32) (L : Nat → Nat → Int64) (s1 : Int32) : Met l yX8_holds (wl yX8_holds cX8_holds 2 (some .int)) (fRm 1 21) (va_Pc [.ref (fad E 86), .int s1] (fPre E M L)) (fQi E (fun r u => u = (M, L) ∧ r = (a_X8_holds M L s1))) 0 0 (fA E) := by
  refine f_head (by decide) (Nat.le_of_ble_eq_true rfl) ?_
  intro pg ev s mi below meth cd ls X hr hlk hP hS hl
  have hx := X.1.1
  have hb := X.1.2.1
  have hl : lv_has ls 2 [(0, .ref (fad E 86)), (1, .int s1)] := hl
  refine lv_aload_n hx hb dX8_holds_0 rfl (lv_at hl 0 rfl) ?_
  refine lv_iload_n hx hb dX8_holds_1 rfl (lv_at hl 1 rfl) ?_
  refine f_iV (n := 1) X hP hS [.int s1] [] (c_X8_isShelf l E M L s1) m_5_80 wi_X8_isShelf rfl rfl (by decide) (by decide +kernel) ⟨Nat.le_of_ble_eq_true rfl, Nat.le_of_ble_eq_true rfl⟩ rfl hl rfl (Nat.le_of_ble_eq_true rfl) ⟨Nat.zero_le _, Nat.zero_le _⟩ dX8_holds_2 (fun H locs hP hS => ?_)
  refine lv_if_eq (tgt := 17) hx hb dX8_holds_5 (by decide) (fun c_5 => ?_) (fun c_5 => ?_)
  · have c_5 := bI0 c_5
    refine lv_iconst (v := (-1)) hx hb dX8_holds_17 (by decide) ?_
    refine f_ir X hlk hr (v := (-1)) rfl hP hS ?_ dX8_holds_18
    unfold a_X8_holds
    (first | rw [if_pos c_5] | rw [if_neg c_5] | rw [if_neg (Bool.eq_false_iff.mp c_5)] | skip)
    (try dsimp only)
    first
      | done
      | exact ⟨rfl, rfl⟩
      | rfl
      | (simp only [c_5, if_true, if_false, and_self, and_true, true_and, not_true_eq_false, not_false_eq_true, and_false, false_and, or_true, true_or, or_false, false_or, or_self, Bool.false_eq_true, reduceCtorEq, nl10, nl20, nl30, nl40, nl50, nl60, nl70, nl12, nl13, nl21, nl23, nl31, nl32]; first | done | exact ⟨rfl, rfl⟩ | rfl)
      | contradiction
      | (simp only [c_5, if_true, if_false, and_self, and_true, true_and, not_true_eq_false, not_false_eq_true, and_false, false_and, or_true, true_or, or_false, false_or, or_self, Bool.false_eq_true, reduceCtorEq, nl10, nl20, nl30, nl40, nl50, nl60, nl70, nl12, nl13, nl21, nl23, nl31, nl32]; contradiction)
      | (exfalso; simp_all; done)
      | simp_all
  · have c_5 := bI1 c_5
    refine lv_aload_n hx hb dX8_holds_8 rfl (lv_at hl 0 rfl) ?_
    refine f_get X hP (T := TX8) (ci := 8) (k := 86) rfl inX8 rfl 21 (by decide) m_4_195 rfl (v := .ref (fad E 100)) rfl dX8_holds_9 ?_
    refine lv_iload_n hx hb dX8_holds_12 rfl (lv_at hl 1 rfl) ?_
    have hix_1 : fIx s1 8 s1.toNatClampNeg := by
      first
        | exact fIx_lt 8 c_5.1 c_5.2 (by decide)
        | exact fIx_le 7 c_5.1 c_5.2 (by decide)
        | exact fIx_lt 8 c_5.1 c_5.2.2 (by decide)
        | exact fIx_le 7 (rr0 c_5).1.1 (rr0 c_5).1.2 (by decide)
        | (refine fIx_lt 8 (show (0 : Int32) ≤ s1 from ?_) (show s1 < (8 : Int32) from ?_) (by decide) <;> (have e0_9 : (0 : Int32).toInt = 0 := rfl; have en_9 : (8 : Int32).toInt = 8 := rfl; simp only [Int32.lt_iff_toInt_lt, Int32.le_iff_toInt_le, Int32.not_lt, Int32.not_le, ← Int32.toInt_inj] at *; omega))
    have hlt_1 := hix_1.2.2
    refine f_iald X hP (k := 100) (n := 8) (q := s1.toNatClampNeg) rfl rfl hix_1 dX8_holds_13 ?_
    refine lv_if_ne (tgt := 19) hx hb dX8_holds_14 (by decide) (fun c_14 => ?_) (fun c_14 => ?_)
    · refine lv_aload_n hx hb dX8_holds_19 rfl (lv_at hl 0 rfl) ?_
      refine f_get X hP (T := TX8) (ci := 8) (k := 86) rfl inX8 rfl 21 (by decide) m_4_195 rfl (v := .ref (fad E 100)) rfl dX8_holds_20 ?_
      refine lv_iload_n hx hb dX8_holds_23 rfl (lv_at hl 1 rfl) ?_
      refine f_iald X hP (k := 100) (n := 8) (q := s1.toNatClampNeg) rfl rfl hix_1 dX8_holds_24 ?_
      refine lv_iconst (v := 1) hx hb dX8_holds_25 (by decide) ?_
      refine lv_icmp_ne (tgt := 41) hx hb dX8_holds_26 (by decide) (fun c_26 => ?_) (fun c_26 => ?_)
      · refine lv_aload_n hx hb dX8_holds_41 rfl (lv_at hl 0 rfl) ?_
        refine f_get X hP (T := TX8) (ci := 8) (k := 86) rfl inX8 rfl 24 (by decide) m_4_198 rfl (v := .ref (fad E 103)) rfl dX8_holds_42 ?_
        refine lv_iload_n hx hb dX8_holds_45 rfl (lv_at hl 1 rfl) ?_
        refine f_iald X hP (k := 103) (n := 8) (q := s1.toNatClampNeg) rfl rfl hix_1 dX8_holds_46 ?_
        refine f_ir X hlk hr (v := (M 103 s1.toNatClampNeg)) rfl hP hS ?_ dX8_holds_47
        unfold a_X8_holds
        (first | rw [if_pos c_5] | rw [if_neg c_5] | rw [if_neg (Bool.eq_false_iff.mp c_5)] | skip)
        (first | rw [if_pos c_14] | rw [if_neg c_14] | rw [if_neg (Bool.eq_false_iff.mp c_14)] | skip)
        (first | rw [if_pos c_26] | rw [if_neg c_26] | rw [if_neg (Bool.eq_false_iff.mp c_26)] | skip)
        (try dsimp only)
        first
          | done
          | exact ⟨rfl, rfl⟩
          | rfl
          | (simp only [c_5, c_14, c_26, if_true, if_false, and_self, and_true, true_and, not_true_eq_false, not_false_eq_true, and_false, false_and, or_true, true_or, or_false, false_or, or_self, Bool.false_eq_true, reduceCtorEq, nl10, nl20, nl30, nl40, nl50, nl60, nl70, nl12, nl13, nl21, nl23, nl31, nl32]; first | done | exact ⟨rfl, rfl⟩ | rfl)
          | contradiction
          | (simp only [c_5, c_14, c_26, if_true, if_false, and_self, and_true, true_and, not_true_eq_false, not_false_eq_true, and_false, false_and, or_true, true_or, or_false, false_or, or_self, Bool.false_eq_true, reduceCtorEq, nl10, nl20, nl30, nl40, nl50, nl60, nl70, nl12, nl13, nl21, nl23, nl31, nl32]; contradiction)
          | (exfalso; simp_all; done)
          | simp_all
      · refine lv_bipush (v := 100) hx hb dX8_holds_29 (by decide) ?_
        refine lv_aload_n hx hb dX8_holds_31 rfl (lv_at hl 0 rfl) ?_
        refine f_get X hP (T := TX8) (ci := 8) (k := 86) rfl inX8 rfl 22 (by decide) m_4_196 rfl (v := .ref (fad E 101)) rfl dX8_holds_32 ?_
        refine lv_iload_n hx hb dX8_holds_35 rfl (lv_at hl 1 rfl) ?_
        refine f_iald X hP (k := 101) (n := 8) (q := s1.toNatClampNeg) rfl rfl hix_1 dX8_holds_36 ?_
        refine lv_iadd hx hb dX8_holds_37 ?_
        refine lv_goto (tgt := 47) hx hb dX8_holds_38 (by decide) ?_
        refine f_ir X hlk hr (v := (100 + (M 101 s1.toNatClampNeg))) rfl hP hS ?_ dX8_holds_47
        unfold a_X8_holds
        (first | rw [if_pos c_5] | rw [if_neg c_5] | rw [if_neg (Bool.eq_false_iff.mp c_5)] | skip)
        (first | rw [if_pos c_14] | rw [if_neg c_14] | rw [if_neg (Bool.eq_false_iff.mp c_14)] | skip)
        (first | rw [if_pos c_26] | rw [if_neg c_26] | rw [if_neg (Bool.eq_false_iff.mp c_26)] | skip)
        (try dsimp only)
        first
          | done
          | exact ⟨rfl, rfl⟩
          | rfl
          | (simp only [c_5, c_14, c_26, if_true, if_false, and_self, and_true, true_and, not_true_eq_false, not_false_eq_true, and_false, false_and, or_true, true_or, or_false, false_or, or_self, Bool.false_eq_true, reduceCtorEq, nl10, nl20, nl30, nl40, nl50, nl60, nl70, nl12, nl13, nl21, nl23, nl31, nl32]; first | done | exact ⟨rfl, rfl⟩ | rfl)
          | contradiction
          | (simp only [c_5, c_14, c_26, if_true, if_false, and_self, and_true, true_and, not_true_eq_false, not_false_eq_true, and_false, false_and, or_true, true_or, or_false, false_or, or_self, Bool.false_eq_true, reduceCtorEq, nl10, nl20, nl30, nl40, nl50, nl60, nl70, nl12, nl13, nl21, nl23, nl31, nl32]; contradiction)
          | (exfalso; simp_all; done)
          | simp_all
    · refine lv_iconst (v := (-1)) hx hb dX8_holds_17 (by decide) ?_
      refine f_ir X hlk hr (v := (-1)) rfl hP hS ?_ dX8_holds_18
      unfold a_X8_holds
      (first | rw [if_pos c_5] | rw [if_neg c_5] | rw [if_neg (Bool.eq_false_iff.mp c_5)] | skip)
      (first | rw [if_pos c_14] | rw [if_neg c_14] | rw [if_neg (Bool.eq_false_iff.mp c_14)] | skip)
      (try dsimp only)
      first
        | done
        | exact ⟨rfl, rfl⟩
        | rfl
        | (simp only [c_5, c_14, if_true, if_false, and_self, and_true, true_and, not_true_eq_false, not_false_eq_true, and_false, false_and, or_true, true_or, or_false, false_or, or_self, Bool.false_eq_true, reduceCtorEq, nl10, nl20, nl30, nl40, nl50, nl60, nl70, nl12, nl13, nl21, nl23, nl31, nl32]; first | done | exact ⟨rfl, rfl⟩ | rfl)
        | contradiction
        | (simp only [c_5, c_14, if_true, if_false, and_self, and_true, true_and, not_true_eq_false, not_false_eq_true, and_false, false_and, or_true, true_or, or_false, false_or, or_self, Bool.false_eq_true, reduceCtorEq, nl10, nl20, nl30, nl40, nl50, nl60, nl70, nl12, nl13, nl21, nl23, nl31, nl32]; contradiction)
        | (exfalso; simp_all; done)
        | simp_all

def a_X8_wanted (M : Nat → Nat → Int32) (L : Nat → Nat → Int64) (s1 : Int32) : Int32 := (if (0 ≤ s1 ∧ s1 < 8) then (if (M 100 s1.toNatClampNeg) = 2 then (-2) else (if (M 100 s1.toNatClampNeg) = 0 then (-3) else 0)) else (-1))
set_option maxHeartbeats 1000000 in
set_option maxRecDepth 100000 in
theorem c_X8_wanted (l : Launch) (E : fE) (M : Nat → Nat → Int32) (L : Nat → Nat → Int64) (s1 : Int32) : Met l yX8_wanted (wl yX8_wanted cX8_wanted 2 (some .int)) (fRm 1 21) (va_Pc [.ref (fad E 86), .int s1] (fPre E M L)) (fQi E (fun r u => u = (M, L) ∧ r = (a_X8_wanted M L s1))) 0 0 (fA E) := by
  refine f_head (by decide) (Nat.le_of_ble_eq_true rfl) ?_
  intro pg ev s mi below meth cd ls X hr hlk hP hS hl
  have hx := X.1.1
  have hb := X.1.2.1
  have hl : lv_has ls 2 [(0, .ref (fad E 86)), (1, .int s1)] := hl
  refine lv_aload_n hx hb dX8_wanted_0 rfl (lv_at hl 0 rfl) ?_
  refine lv_iload_n hx hb dX8_wanted_1 rfl (lv_at hl 1 rfl) ?_
  refine f_iV (n := 1) X hP hS [.int s1] [] (c_X8_isShelf l E M L s1) m_5_80 wi_X8_isShelf rfl rfl (by decide) (by decide +kernel) ⟨Nat.le_of_ble_eq_true rfl, Nat.le_of_ble_eq_true rfl⟩ rfl hl rfl (Nat.le_of_ble_eq_true rfl) ⟨Nat.zero_le _, Nat.zero_le _⟩ dX8_wanted_2 (fun H locs hP hS => ?_)
  refine lv_if_ne (tgt := 12) hx hb dX8_wanted_5 (by decide) (fun c_5 => ?_) (fun c_5 => ?_)
  · have c_5 := bI1 c_5
    refine lv_aload_n hx hb dX8_wanted_12 rfl (lv_at hl 0 rfl) ?_
    refine f_get X hP (T := TX8) (ci := 8) (k := 86) rfl inX8 rfl 21 (by decide) m_4_195 rfl (v := .ref (fad E 100)) rfl dX8_wanted_13 ?_
    refine lv_iload_n hx hb dX8_wanted_16 rfl (lv_at hl 1 rfl) ?_
    have hix_1 : fIx s1 8 s1.toNatClampNeg := by
      first
        | exact fIx_lt 8 c_5.1 c_5.2 (by decide)
        | exact fIx_le 7 c_5.1 c_5.2 (by decide)
        | exact fIx_lt 8 c_5.1 c_5.2.2 (by decide)
        | exact fIx_le 7 (rr0 c_5).1.1 (rr0 c_5).1.2 (by decide)
        | (refine fIx_lt 8 (show (0 : Int32) ≤ s1 from ?_) (show s1 < (8 : Int32) from ?_) (by decide) <;> (have e0_9 : (0 : Int32).toInt = 0 := rfl; have en_9 : (8 : Int32).toInt = 8 := rfl; simp only [Int32.lt_iff_toInt_lt, Int32.le_iff_toInt_le, Int32.not_lt, Int32.not_le, ← Int32.toInt_inj] at *; omega))
    have hlt_1 := hix_1.2.2
    refine f_iald X hP (k := 100) (n := 8) (q := s1.toNatClampNeg) rfl rfl hix_1 dX8_wanted_17 ?_
    refine lv_iconst (v := 2) hx hb dX8_wanted_18 (by decide) ?_
    refine lv_icmp_ne (tgt := 27) hx hb dX8_wanted_19 (by decide) (fun c_19 => ?_) (fun c_19 => ?_)
    · refine lv_aload_n hx hb dX8_wanted_27 rfl (lv_at hl 0 rfl) ?_
      refine f_get X hP (T := TX8) (ci := 8) (k := 86) rfl inX8 rfl 21 (by decide) m_4_195 rfl (v := .ref (fad E 100)) rfl dX8_wanted_28 ?_
      refine lv_iload_n hx hb dX8_wanted_31 rfl (lv_at hl 1 rfl) ?_
      refine f_iald X hP (k := 100) (n := 8) (q := s1.toNatClampNeg) rfl rfl hix_1 dX8_wanted_32 ?_
      refine lv_if_ne (tgt := 41) hx hb dX8_wanted_33 (by decide) (fun c_33 => ?_) (fun c_33 => ?_)
      · refine lv_iconst (v := 0) hx hb dX8_wanted_41 (by decide) ?_
        refine f_ir X hlk hr (v := 0) rfl hP hS ?_ dX8_wanted_42
        unfold a_X8_wanted
        (first | rw [if_pos c_5] | rw [if_neg c_5] | rw [if_neg (Bool.eq_false_iff.mp c_5)] | skip)
        (first | rw [if_pos c_19] | rw [if_neg c_19] | rw [if_neg (Bool.eq_false_iff.mp c_19)] | skip)
        (first | rw [if_pos c_33] | rw [if_neg c_33] | rw [if_neg (Bool.eq_false_iff.mp c_33)] | skip)
        (try dsimp only)
        first
          | done
          | exact ⟨rfl, rfl⟩
          | rfl
          | (simp only [c_5, c_19, c_33, if_true, if_false, and_self, and_true, true_and, not_true_eq_false, not_false_eq_true, and_false, false_and, or_true, true_or, or_false, false_or, or_self, Bool.false_eq_true, reduceCtorEq, nl10, nl20, nl30, nl40, nl50, nl60, nl70, nl12, nl13, nl21, nl23, nl31, nl32]; first | done | exact ⟨rfl, rfl⟩ | rfl)
          | contradiction
          | (simp only [c_5, c_19, c_33, if_true, if_false, and_self, and_true, true_and, not_true_eq_false, not_false_eq_true, and_false, false_and, or_true, true_or, or_false, false_or, or_self, Bool.false_eq_true, reduceCtorEq, nl10, nl20, nl30, nl40, nl50, nl60, nl70, nl12, nl13, nl21, nl23, nl31, nl32]; contradiction)
          | (exfalso; simp_all; done)
          | simp_all
      · refine lv_bipush (v := (-3)) hx hb dX8_wanted_36 (by decide) ?_
        refine lv_goto (tgt := 42) hx hb dX8_wanted_38 (by decide) ?_
        refine f_ir X hlk hr (v := (-3)) rfl hP hS ?_ dX8_wanted_42
        unfold a_X8_wanted
        (first | rw [if_pos c_5] | rw [if_neg c_5] | rw [if_neg (Bool.eq_false_iff.mp c_5)] | skip)
        (first | rw [if_pos c_19] | rw [if_neg c_19] | rw [if_neg (Bool.eq_false_iff.mp c_19)] | skip)
        (first | rw [if_pos c_33] | rw [if_neg c_33] | rw [if_neg (Bool.eq_false_iff.mp c_33)] | skip)
        (try dsimp only)
        first
          | done
          | exact ⟨rfl, rfl⟩
          | rfl
          | (simp only [c_5, c_19, c_33, if_true, if_false, and_self, and_true, true_and, not_true_eq_false, not_false_eq_true, and_false, false_and, or_true, true_or, or_false, false_or, or_self, Bool.false_eq_true, reduceCtorEq, nl10, nl20, nl30, nl40, nl50, nl60, nl70, nl12, nl13, nl21, nl23, nl31, nl32]; first | done | exact ⟨rfl, rfl⟩ | rfl)
          | contradiction
          | (simp only [c_5, c_19, c_33, if_true, if_false, and_self, and_true, true_and, not_true_eq_false, not_false_eq_true, and_false, false_and, or_true, true_or, or_false, false_or, or_self, Bool.false_eq_true, reduceCtorEq, nl10, nl20, nl30, nl40, nl50, nl60, nl70, nl12, nl13, nl21, nl23, nl31, nl32]; contradiction)
          | (exfalso; simp_all; done)
          | simp_all
    · refine lv_bipush (v := (-2)) hx hb dX8_wanted_22 (by decide) ?_
      refine lv_goto (tgt := 42) hx hb dX8_wanted_24 (by decide) ?_
      refine f_ir X hlk hr (v := (-2)) rfl hP hS ?_ dX8_wanted_42
      unfold a_X8_wanted
      (first | rw [if_pos c_5] | rw [if_neg c_5] | rw [if_neg (Bool.eq_false_iff.mp c_5)] | skip)
      (first | rw [if_pos c_19] | rw [if_neg c_19] | rw [if_neg (Bool.eq_false_iff.mp c_19)] | skip)
      (try dsimp only)
      first
        | done
        | exact ⟨rfl, rfl⟩
        | rfl
        | (simp only [c_5, c_19, if_true, if_false, and_self, and_true, true_and, not_true_eq_false, not_false_eq_true, and_false, false_and, or_true, true_or, or_false, false_or, or_self, Bool.false_eq_true, reduceCtorEq, nl10, nl20, nl30, nl40, nl50, nl60, nl70, nl12, nl13, nl21, nl23, nl31, nl32]; first | done | exact ⟨rfl, rfl⟩ | rfl)
        | contradiction
        | (simp only [c_5, c_19, if_true, if_false, and_self, and_true, true_and, not_true_eq_false, not_false_eq_true, and_false, false_and, or_true, true_or, or_false, false_or, or_self, Bool.false_eq_true, reduceCtorEq, nl10, nl20, nl30, nl40, nl50, nl60, nl70, nl12, nl13, nl21, nl23, nl31, nl32]; contradiction)
        | (exfalso; simp_all; done)
        | simp_all
  · have c_5 := bI0 c_5
    refine lv_iconst (v := (-1)) hx hb dX8_wanted_8 (by decide) ?_
    refine lv_goto (tgt := 42) hx hb dX8_wanted_9 (by decide) ?_
    refine f_ir X hlk hr (v := (-1)) rfl hP hS ?_ dX8_wanted_42
    unfold a_X8_wanted
    (first | rw [if_pos c_5] | rw [if_neg c_5] | rw [if_neg (Bool.eq_false_iff.mp c_5)] | skip)
    (try dsimp only)
    first
      | done
      | exact ⟨rfl, rfl⟩
      | rfl
      | (simp only [c_5, if_true, if_false, and_self, and_true, true_and, not_true_eq_false, not_false_eq_true, and_false, false_and, or_true, true_or, or_false, false_or, or_self, Bool.false_eq_true, reduceCtorEq, nl10, nl20, nl30, nl40, nl50, nl60, nl70, nl12, nl13, nl21, nl23, nl31, nl32]; first | done | exact ⟨rfl, rfl⟩ | rfl)
      | contradiction
      | (simp only [c_5, if_true, if_false, and_self, and_true, true_and, not_true_eq_false, not_false_eq_true, and_false, false_and, or_true, true_or, or_false, false_or, or_self, Bool.false_eq_true, reduceCtorEq, nl10, nl20, nl30, nl40, nl50, nl60, nl70, nl12, nl13, nl21, nl23, nl31, nl32]; contradiction)
      | (exfalso; simp_all; done)
      | simp_all

def a_X8_intAt (M : Nat → Nat → Int32) (L : Nat → Nat → Int64) (s1 : Int32) (i : Int32) (s0 : Nat) (i0 : Nat) : Int32 := ((L 104 (160 * s0 + i0)).toInt32)
set_option maxHeartbeats 1000000 in
set_option maxRecDepth 100000 in
theorem c_X8_intAt (l : Launch) (E : fE) (M : Nat → Nat → Int32) (L : Nat → Nat → Int64) (s1 : Int32) (i : Int32) (s0 i0 : Nat) (hs0 : fIx s1 8 s0) (hi0 : fIx i 160 i0) : Met l yX8_intAt (wl yX8_intAt cX8_intAt 3 (some .int)) (fRm 0 0) (va_Pc [.ref (fad E 86), .int s1, .int i] (fPre E M L)) (fQi E (fun r u => u = (M, L) ∧ r = (a_X8_intAt M L s1 i s0 i0))) 0 0 (fA E) := by
  refine f_head (by decide) (Nat.le_of_ble_eq_true rfl) ?_
  intro pg ev s mi below meth cd ls X hr hlk hP hS hl
  have hx := X.1.1
  have hb := X.1.2.1
  have hl : lv_has ls 3 [(0, .ref (fad E 86)), (1, .int s1), (2, .int i)] := hl
  refine lv_aload_n hx hb dX8_intAt_0 rfl (lv_at hl 0 rfl) ?_
  refine f_get X hP (T := TX8) (ci := 8) (k := 86) rfl inX8 rfl 25 (by decide) m_4_199 rfl (v := .ref (fad E 104)) rfl dX8_intAt_1 ?_
  refine lv_sipush (v := 160) hx hb dX8_intAt_4 (by decide) ?_
  refine lv_iload_n hx hb dX8_intAt_7 rfl (lv_at hl 1 rfl) ?_
  refine lv_imul hx hb dX8_intAt_8 ?_
  refine lv_iload_n hx hb dX8_intAt_9 rfl (lv_at hl 2 rfl) ?_
  refine lv_iadd hx hb dX8_intAt_10 ?_
  refine f_lald X hP (k := 104) (n := 1280) (q := (160 * s0 + i0)) rfl rfl (fIx_cell hs0 hi0) dX8_intAt_11 ?_
  refine lv_l2i (v := ((L 104 (160 * s0 + i0)).toInt32)) hx hb dX8_intAt_12 rfl ?_
  refine f_ir X hlk hr (v := ((L 104 (160 * s0 + i0)).toInt32)) rfl hP hS ?_ dX8_intAt_13
  unfold a_X8_intAt
  (try dsimp only)
  first
    | done
    | exact ⟨rfl, rfl⟩
    | rfl
    | (simp only [if_true, if_false, and_self, and_true, true_and, not_true_eq_false, not_false_eq_true, and_false, false_and, or_true, true_or, or_false, false_or, or_self, Bool.false_eq_true, reduceCtorEq, nl10, nl20, nl30, nl40, nl50, nl60, nl70, nl12, nl13, nl21, nl23, nl31, nl32]; first | done | exact ⟨rfl, rfl⟩ | rfl)
    | contradiction
    | (simp only [if_true, if_false, and_self, and_true, true_and, not_true_eq_false, not_false_eq_true, and_false, false_and, or_true, true_or, or_false, false_or, or_self, Bool.false_eq_true, reduceCtorEq, nl10, nl20, nl30, nl40, nl50, nl60, nl70, nl12, nl13, nl21, nl23, nl31, nl32]; contradiction)
    | (exfalso; simp_all; done)
    | simp_all

def a_X8_addsThing (M : Nat → Nat → Int32) (L : Nat → Nat → Int64) (c1 : Int32) (f : Int32) (l1 : Int32) (n : Int32) (w : Int32) (st : Int32) (a : Int32) (tc : Nat) : fR := ((nI tc), (up2 (up2 (up2 (up2 (up2 (up2 (up2 (up2 M 93 tc c1) 94 tc f) 95 tc l1) 96 tc n) 97 tc w) 98 tc st) 99 tc a) 86 1 (nI (tc + 1))), L)
set_option maxHeartbeats 1000000 in
set_option maxRecDepth 100000 in
theorem c_X8_addsThing (l : Launch) (E : fE) (M : Nat → Nat → Int32) (L : Nat → Nat → Int64) (c1 : Int32) (f : Int32) (l1 : Int32) (n : Int32) (w : Int32) (st : Int32) (a : Int32) (tc : Nat) (htc : M 86 1 = nI tc) (htl : tc < 8) : Met l yX8_addsThing (wl yX8_addsThing cX8_addsThing 8 (some .int)) (fRm 0 0) (va_Pc [.ref (fad E 86), .int c1, .int f, .int l1, .int n, .int w, .int st, .int a] (fPre E M L)) (fQi E (fun r u => u = ((a_X8_addsThing M L c1 f l1 n w st a tc).2.1, L) ∧ r = (a_X8_addsThing M L c1 f l1 n w st a tc).1)) 0 0 (fA E) := by
  refine f_head (by decide) (Nat.le_of_ble_eq_true rfl) ?_
  intro pg ev s mi below meth cd ls X hr hlk hP hS hl
  have hx := X.1.1
  have hb := X.1.2.1
  have hl : lv_has ls 8 [(0, .ref (fad E 86)), (1, .int c1), (2, .int f), (3, .int l1), (4, .int n), (5, .int w), (6, .int st), (7, .int a)] := hl
  refine lv_aload_n hx hb dX8_addsThing_0 rfl (lv_at hl 0 rfl) ?_
  refine f_get X hP (T := TX8) (ci := 8) (k := 86) rfl inX8 rfl 14 (by decide) m_4_188 rfl (v := .ref (fad E 93)) rfl dX8_addsThing_1 ?_
  refine lv_aload_n hx hb dX8_addsThing_4 rfl (lv_at hl 0 rfl) ?_
  refine f_get X hP (T := TX8) (ci := 8) (k := 86) rfl inX8 rfl 1 (by decide) m_4_175 rfl (v := .int (nI tc)) (congrArg Value.int htc) dX8_addsThing_5 ?_
  refine lv_iload_n hx hb dX8_addsThing_8 rfl (lv_at hl 1 rfl) ?_
  refine f_iast X hP hS (k := 93) (n := 8) (q := tc) rfl rfl (v := c1) (fIx_nI (by omega) (by decide)) dX8_addsThing_9 (fun H locs hP hS => ?_)
  refine lv_aload_n hx hb dX8_addsThing_10 rfl (lv_at hl 0 rfl) ?_
  refine f_get X hP (T := TX8) (ci := 8) (k := 86) rfl inX8 rfl 15 (by decide) m_4_189 rfl (v := .ref (fad E 94)) rfl dX8_addsThing_11 ?_
  refine lv_aload_n hx hb dX8_addsThing_14 rfl (lv_at hl 0 rfl) ?_
  refine f_get X hP (T := TX8) (ci := 8) (k := 86) rfl inX8 rfl 1 (by decide) m_4_175 rfl (v := .int (nI tc)) (congrArg Value.int ((up2_o _ _ (Or.inl (by decide))).trans htc)) dX8_addsThing_15 ?_
  refine lv_iload_n hx hb dX8_addsThing_18 rfl (lv_at hl 2 rfl) ?_
  refine f_iast X hP hS (k := 94) (n := 8) (q := tc) rfl rfl (v := f) (fIx_nI (by omega) (by decide)) dX8_addsThing_19 (fun H locs hP hS => ?_)
  refine lv_aload_n hx hb dX8_addsThing_20 rfl (lv_at hl 0 rfl) ?_
  refine f_get X hP (T := TX8) (ci := 8) (k := 86) rfl inX8 rfl 16 (by decide) m_4_190 rfl (v := .ref (fad E 95)) rfl dX8_addsThing_21 ?_
  refine lv_aload_n hx hb dX8_addsThing_24 rfl (lv_at hl 0 rfl) ?_
  refine f_get X hP (T := TX8) (ci := 8) (k := 86) rfl inX8 rfl 1 (by decide) m_4_175 rfl (v := .int (nI tc)) (congrArg Value.int (((up2_o _ _ (Or.inl (by decide))).trans (up2_o _ _ (Or.inl (by decide)))).trans htc)) dX8_addsThing_25 ?_
  refine lv_iload_n hx hb dX8_addsThing_28 rfl (lv_at hl 3 rfl) ?_
  refine f_iast X hP hS (k := 95) (n := 8) (q := tc) rfl rfl (v := l1) (fIx_nI (by omega) (by decide)) dX8_addsThing_29 (fun H locs hP hS => ?_)
  refine lv_aload_n hx hb dX8_addsThing_30 rfl (lv_at hl 0 rfl) ?_
  refine f_get X hP (T := TX8) (ci := 8) (k := 86) rfl inX8 rfl 17 (by decide) m_4_191 rfl (v := .ref (fad E 96)) rfl dX8_addsThing_31 ?_
  refine lv_aload_n hx hb dX8_addsThing_34 rfl (lv_at hl 0 rfl) ?_
  refine f_get X hP (T := TX8) (ci := 8) (k := 86) rfl inX8 rfl 1 (by decide) m_4_175 rfl (v := .int (nI tc)) (congrArg Value.int (((up2_o _ _ (Or.inl (by decide))).trans ((up2_o _ _ (Or.inl (by decide))).trans (up2_o _ _ (Or.inl (by decide))))).trans htc)) dX8_addsThing_35 ?_
  refine lv_iload hx hb dX8_addsThing_38 (lv_at hl 4 rfl) ?_
  refine f_iast X hP hS (k := 96) (n := 8) (q := tc) rfl rfl (v := n) (fIx_nI (by omega) (by decide)) dX8_addsThing_40 (fun H locs hP hS => ?_)
  refine lv_aload_n hx hb dX8_addsThing_41 rfl (lv_at hl 0 rfl) ?_
  refine f_get X hP (T := TX8) (ci := 8) (k := 86) rfl inX8 rfl 18 (by decide) m_4_192 rfl (v := .ref (fad E 97)) rfl dX8_addsThing_42 ?_
  refine lv_aload_n hx hb dX8_addsThing_45 rfl (lv_at hl 0 rfl) ?_
  refine f_get X hP (T := TX8) (ci := 8) (k := 86) rfl inX8 rfl 1 (by decide) m_4_175 rfl (v := .int (nI tc)) (congrArg Value.int (((up2_o _ _ (Or.inl (by decide))).trans ((up2_o _ _ (Or.inl (by decide))).trans ((up2_o _ _ (Or.inl (by decide))).trans (up2_o _ _ (Or.inl (by decide)))))).trans htc)) dX8_addsThing_46 ?_
  refine lv_iload hx hb dX8_addsThing_49 (lv_at hl 5 rfl) ?_
  refine f_iast X hP hS (k := 97) (n := 8) (q := tc) rfl rfl (v := w) (fIx_nI (by omega) (by decide)) dX8_addsThing_51 (fun H locs hP hS => ?_)
  refine lv_aload_n hx hb dX8_addsThing_52 rfl (lv_at hl 0 rfl) ?_
  refine f_get X hP (T := TX8) (ci := 8) (k := 86) rfl inX8 rfl 19 (by decide) m_4_193 rfl (v := .ref (fad E 98)) rfl dX8_addsThing_53 ?_
  refine lv_aload_n hx hb dX8_addsThing_56 rfl (lv_at hl 0 rfl) ?_
  refine f_get X hP (T := TX8) (ci := 8) (k := 86) rfl inX8 rfl 1 (by decide) m_4_175 rfl (v := .int (nI tc)) (congrArg Value.int (((up2_o _ _ (Or.inl (by decide))).trans ((up2_o _ _ (Or.inl (by decide))).trans ((up2_o _ _ (Or.inl (by decide))).trans ((up2_o _ _ (Or.inl (by decide))).trans (up2_o _ _ (Or.inl (by decide))))))).trans htc)) dX8_addsThing_57 ?_
  refine lv_iload hx hb dX8_addsThing_60 (lv_at hl 6 rfl) ?_
  refine f_iast X hP hS (k := 98) (n := 8) (q := tc) rfl rfl (v := st) (fIx_nI (by omega) (by decide)) dX8_addsThing_62 (fun H locs hP hS => ?_)
  refine lv_aload_n hx hb dX8_addsThing_63 rfl (lv_at hl 0 rfl) ?_
  refine f_get X hP (T := TX8) (ci := 8) (k := 86) rfl inX8 rfl 20 (by decide) m_4_194 rfl (v := .ref (fad E 99)) rfl dX8_addsThing_64 ?_
  refine lv_aload_n hx hb dX8_addsThing_67 rfl (lv_at hl 0 rfl) ?_
  refine f_get X hP (T := TX8) (ci := 8) (k := 86) rfl inX8 rfl 1 (by decide) m_4_175 rfl (v := .int (nI tc)) (congrArg Value.int (((up2_o _ _ (Or.inl (by decide))).trans ((up2_o _ _ (Or.inl (by decide))).trans ((up2_o _ _ (Or.inl (by decide))).trans ((up2_o _ _ (Or.inl (by decide))).trans ((up2_o _ _ (Or.inl (by decide))).trans (up2_o _ _ (Or.inl (by decide)))))))).trans htc)) dX8_addsThing_68 ?_
  refine lv_iload hx hb dX8_addsThing_71 (lv_at hl 7 rfl) ?_
  refine f_iast X hP hS (k := 99) (n := 8) (q := tc) rfl rfl (v := a) (fIx_nI (by omega) (by decide)) dX8_addsThing_73 (fun H locs hP hS => ?_)
  refine lv_aload_n hx hb dX8_addsThing_74 rfl (lv_at hl 0 rfl) ?_
  refine lv_dup hx hb dX8_addsThing_75 rfl ?_
  refine f_get X hP (T := TX8) (ci := 8) (k := 86) rfl inX8 rfl 1 (by decide) m_4_175 rfl (v := .int (nI tc)) (congrArg Value.int (((up2_o _ _ (Or.inl (by decide))).trans ((up2_o _ _ (Or.inl (by decide))).trans ((up2_o _ _ (Or.inl (by decide))).trans ((up2_o _ _ (Or.inl (by decide))).trans ((up2_o _ _ (Or.inl (by decide))).trans ((up2_o _ _ (Or.inl (by decide))).trans (up2_o _ _ (Or.inl (by decide))))))))).trans htc)) dX8_addsThing_76 ?_
  refine lv_dup_x1 hx hb dX8_addsThing_79 rfl rfl ?_
  refine lv_iconst (v := 1) hx hb dX8_addsThing_80 (by decide) ?_
  refine lv_iadd hx hb dX8_addsThing_81 ?_
  refine f_topI (nI_add tc 1) ?_
  refine f_put X hP hS (T := TX8) (ci := 8) (k := 86) rfl inX8 rfl tyX8 tyX8_ok nmX8 1 (by decide) m_4_175 ⟨rfl, rfl⟩ rfl (v := (nI (tc + 1))) rfl rfl dX8_addsThing_82 (fun H locs hP hS => ?_)
  refine f_ir X hlk hr (v := (nI tc)) rfl hP hS ?_ dX8_addsThing_85
  unfold a_X8_addsThing
  (try dsimp only)
  first
    | done
    | exact ⟨rfl, rfl⟩
    | rfl
    | (simp only [if_true, if_false, and_self, and_true, true_and, not_true_eq_false, not_false_eq_true, and_false, false_and, or_true, true_or, or_false, false_or, or_self, Bool.false_eq_true, reduceCtorEq, nl10, nl20, nl30, nl40, nl50, nl60, nl70, nl12, nl13, nl21, nl23, nl31, nl32]; first | done | exact ⟨rfl, rfl⟩ | rfl)
    | contradiction
    | (simp only [if_true, if_false, and_self, and_true, true_and, not_true_eq_false, not_false_eq_true, and_false, false_and, or_true, true_or, or_false, false_or, or_self, Bool.false_eq_true, reduceCtorEq, nl10, nl20, nl30, nl40, nl50, nl60, nl70, nl12, nl13, nl21, nl23, nl31, nl32]; contradiction)
    | (exfalso; simp_all; done)
    | simp_all

def a_X8_addsWaiter (M : Nat → Nat → Int32) (L : Nat → Nat → Int64) (k : Int32) (a : Int32) (p1 : Int32) (q1 : Int32) (c1 : Int32) (wc : Nat) : fR := ((nI wc), (up2 (up2 (up2 (up2 (up2 (up2 M 88 wc k) 89 wc a) 90 wc p1) 91 wc q1) 92 wc c1) 86 0 (nI (wc + 1))), L)
set_option maxHeartbeats 1000000 in
set_option maxRecDepth 100000 in
theorem c_X8_addsWaiter (l : Launch) (E : fE) (M : Nat → Nat → Int32) (L : Nat → Nat → Int64) (k : Int32) (a : Int32) (p1 : Int32) (q1 : Int32) (c1 : Int32) (wc : Nat) (hwc : M 86 0 = nI wc) (hwl : wc < 6) : Met l yX8_addsWaiter (wl yX8_addsWaiter cX8_addsWaiter 6 (some .int)) (fRm 0 0) (va_Pc [.ref (fad E 86), .int k, .int a, .int p1, .int q1, .int c1] (fPre E M L)) (fQi E (fun r u => u = ((a_X8_addsWaiter M L k a p1 q1 c1 wc).2.1, L) ∧ r = (a_X8_addsWaiter M L k a p1 q1 c1 wc).1)) 0 0 (fA E) := by
  refine f_head (by decide) (Nat.le_of_ble_eq_true rfl) ?_
  intro pg ev s mi below meth cd ls X hr hlk hP hS hl
  have hx := X.1.1
  have hb := X.1.2.1
  have hl : lv_has ls 6 [(0, .ref (fad E 86)), (1, .int k), (2, .int a), (3, .int p1), (4, .int q1), (5, .int c1)] := hl
  refine lv_aload_n hx hb dX8_addsWaiter_0 rfl (lv_at hl 0 rfl) ?_
  refine f_get X hP (T := TX8) (ci := 8) (k := 86) rfl inX8 rfl 9 (by decide) m_4_183 rfl (v := .ref (fad E 88)) rfl dX8_addsWaiter_1 ?_
  refine lv_aload_n hx hb dX8_addsWaiter_4 rfl (lv_at hl 0 rfl) ?_
  refine f_get X hP (T := TX8) (ci := 8) (k := 86) rfl inX8 rfl 0 (by decide) m_4_174 rfl (v := .int (nI wc)) (congrArg Value.int hwc) dX8_addsWaiter_5 ?_
  refine lv_iload_n hx hb dX8_addsWaiter_8 rfl (lv_at hl 1 rfl) ?_
  refine f_iast X hP hS (k := 88) (n := 6) (q := wc) rfl rfl (v := k) (fIx_nI (by omega) (by decide)) dX8_addsWaiter_9 (fun H locs hP hS => ?_)
  refine lv_aload_n hx hb dX8_addsWaiter_10 rfl (lv_at hl 0 rfl) ?_
  refine f_get X hP (T := TX8) (ci := 8) (k := 86) rfl inX8 rfl 10 (by decide) m_4_184 rfl (v := .ref (fad E 89)) rfl dX8_addsWaiter_11 ?_
  refine lv_aload_n hx hb dX8_addsWaiter_14 rfl (lv_at hl 0 rfl) ?_
  refine f_get X hP (T := TX8) (ci := 8) (k := 86) rfl inX8 rfl 0 (by decide) m_4_174 rfl (v := .int (nI wc)) (congrArg Value.int ((up2_o _ _ (Or.inl (by decide))).trans hwc)) dX8_addsWaiter_15 ?_
  refine lv_iload_n hx hb dX8_addsWaiter_18 rfl (lv_at hl 2 rfl) ?_
  refine f_iast X hP hS (k := 89) (n := 6) (q := wc) rfl rfl (v := a) (fIx_nI (by omega) (by decide)) dX8_addsWaiter_19 (fun H locs hP hS => ?_)
  refine lv_aload_n hx hb dX8_addsWaiter_20 rfl (lv_at hl 0 rfl) ?_
  refine f_get X hP (T := TX8) (ci := 8) (k := 86) rfl inX8 rfl 11 (by decide) m_4_185 rfl (v := .ref (fad E 90)) rfl dX8_addsWaiter_21 ?_
  refine lv_aload_n hx hb dX8_addsWaiter_24 rfl (lv_at hl 0 rfl) ?_
  refine f_get X hP (T := TX8) (ci := 8) (k := 86) rfl inX8 rfl 0 (by decide) m_4_174 rfl (v := .int (nI wc)) (congrArg Value.int (((up2_o _ _ (Or.inl (by decide))).trans (up2_o _ _ (Or.inl (by decide)))).trans hwc)) dX8_addsWaiter_25 ?_
  refine lv_iload_n hx hb dX8_addsWaiter_28 rfl (lv_at hl 3 rfl) ?_
  refine f_iast X hP hS (k := 90) (n := 6) (q := wc) rfl rfl (v := p1) (fIx_nI (by omega) (by decide)) dX8_addsWaiter_29 (fun H locs hP hS => ?_)
  refine lv_aload_n hx hb dX8_addsWaiter_30 rfl (lv_at hl 0 rfl) ?_
  refine f_get X hP (T := TX8) (ci := 8) (k := 86) rfl inX8 rfl 12 (by decide) m_4_186 rfl (v := .ref (fad E 91)) rfl dX8_addsWaiter_31 ?_
  refine lv_aload_n hx hb dX8_addsWaiter_34 rfl (lv_at hl 0 rfl) ?_
  refine f_get X hP (T := TX8) (ci := 8) (k := 86) rfl inX8 rfl 0 (by decide) m_4_174 rfl (v := .int (nI wc)) (congrArg Value.int (((up2_o _ _ (Or.inl (by decide))).trans ((up2_o _ _ (Or.inl (by decide))).trans (up2_o _ _ (Or.inl (by decide))))).trans hwc)) dX8_addsWaiter_35 ?_
  refine lv_iload hx hb dX8_addsWaiter_38 (lv_at hl 4 rfl) ?_
  refine f_iast X hP hS (k := 91) (n := 6) (q := wc) rfl rfl (v := q1) (fIx_nI (by omega) (by decide)) dX8_addsWaiter_40 (fun H locs hP hS => ?_)
  refine lv_aload_n hx hb dX8_addsWaiter_41 rfl (lv_at hl 0 rfl) ?_
  refine f_get X hP (T := TX8) (ci := 8) (k := 86) rfl inX8 rfl 13 (by decide) m_4_187 rfl (v := .ref (fad E 92)) rfl dX8_addsWaiter_42 ?_
  refine lv_aload_n hx hb dX8_addsWaiter_45 rfl (lv_at hl 0 rfl) ?_
  refine f_get X hP (T := TX8) (ci := 8) (k := 86) rfl inX8 rfl 0 (by decide) m_4_174 rfl (v := .int (nI wc)) (congrArg Value.int (((up2_o _ _ (Or.inl (by decide))).trans ((up2_o _ _ (Or.inl (by decide))).trans ((up2_o _ _ (Or.inl (by decide))).trans (up2_o _ _ (Or.inl (by decide)))))).trans hwc)) dX8_addsWaiter_46 ?_
  refine lv_iload hx hb dX8_addsWaiter_49 (lv_at hl 5 rfl) ?_
  refine f_iast X hP hS (k := 92) (n := 6) (q := wc) rfl rfl (v := c1) (fIx_nI (by omega) (by decide)) dX8_addsWaiter_51 (fun H locs hP hS => ?_)
  refine lv_aload_n hx hb dX8_addsWaiter_52 rfl (lv_at hl 0 rfl) ?_
  refine lv_dup hx hb dX8_addsWaiter_53 rfl ?_
  refine f_get X hP (T := TX8) (ci := 8) (k := 86) rfl inX8 rfl 0 (by decide) m_4_174 rfl (v := .int (nI wc)) (congrArg Value.int (((up2_o _ _ (Or.inl (by decide))).trans ((up2_o _ _ (Or.inl (by decide))).trans ((up2_o _ _ (Or.inl (by decide))).trans ((up2_o _ _ (Or.inl (by decide))).trans (up2_o _ _ (Or.inl (by decide))))))).trans hwc)) dX8_addsWaiter_54 ?_
  refine lv_dup_x1 hx hb dX8_addsWaiter_57 rfl rfl ?_
  refine lv_iconst (v := 1) hx hb dX8_addsWaiter_58 (by decide) ?_
  refine lv_iadd hx hb dX8_addsWaiter_59 ?_
  refine f_topI (nI_add wc 1) ?_
  refine f_put X hP hS (T := TX8) (ci := 8) (k := 86) rfl inX8 rfl tyX8 tyX8_ok nmX8 0 (by decide) m_4_174 ⟨rfl, rfl⟩ rfl (v := (nI (wc + 1))) rfl rfl dX8_addsWaiter_60 (fun H locs hP hS => ?_)
  refine f_ir X hlk hr (v := (nI wc)) rfl hP hS ?_ dX8_addsWaiter_63
  unfold a_X8_addsWaiter
  (try dsimp only)
  first
    | done
    | exact ⟨rfl, rfl⟩
    | rfl
    | (simp only [if_true, if_false, and_self, and_true, true_and, not_true_eq_false, not_false_eq_true, and_false, false_and, or_true, true_or, or_false, false_or, or_self, Bool.false_eq_true, reduceCtorEq, nl10, nl20, nl30, nl40, nl50, nl60, nl70, nl12, nl13, nl21, nl23, nl31, nl32]; first | done | exact ⟨rfl, rfl⟩ | rfl)
    | contradiction
    | (simp only [if_true, if_false, and_self, and_true, true_and, not_true_eq_false, not_false_eq_true, and_false, false_and, or_true, true_or, or_false, false_or, or_self, Bool.false_eq_true, reduceCtorEq, nl10, nl20, nl30, nl40, nl50, nl60, nl70, nl12, nl13, nl21, nl23, nl31, nl32]; contradiction)
    | (exfalso; simp_all; done)
    | simp_all
