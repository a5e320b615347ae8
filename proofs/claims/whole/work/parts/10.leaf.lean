set_option maxHeartbeats 4000000 in
set_option maxRecDepth 100000 in
theorem c_X7_within (l : Launch) (E : fE) (M : Nat → Nat → Int32) (L : Nat → Nat → Int64) (v : Int32) (a : Int32) (b : Int32) : Met l yX7_within (wl yX7_within cX7_within 3 (some .boolean)) (fRm 0 0) (va_Pc [.int v, .int a, .int b] (fPre E M L)) (fQi E (fun r u => u = (M, L) ∧ r = bI (decide (a ≤ v ∧ v ≤ b)))) 0 0 (fA E) := by
  refine f_head (by decide) (Nat.le_of_ble_eq_true rfl) ?_
  intro pg ev s mi below meth cd ls X hr hlk hP hS hl
  have hx := X.1.1
  have hb := X.1.2.1
  have hl : lv_has ls 3 [(0, .int v), (1, .int a), (2, .int b)] := hl
  refine lv_iload_n hx hb dX7_within_0 rfl (lv_at hl 0 rfl) ?_
  refine lv_iload_n hx hb dX7_within_1 rfl (lv_at hl 1 rfl) ?_
  refine lv_icmp_lt (tgt := 14) hx hb dX7_within_2 (by decide) (fun c_2 => ?_) (fun c_2 => ?_)
  · refine lv_iconst (v := 0) hx hb dX7_within_14 (by decide) ?_
    refine f_ir X hlk hr (v := 0) rfl hP hS ?_ dX7_within_15
    refine ⟨rfl, ?_⟩; first | exact (bIe (by intro h; (simp only [Int32.lt_iff_toInt_lt, Int32.le_iff_toInt_le, ← Int32.toInt_inj] at *; omega))).symm | exact (bIt (by (simp only [Int32.lt_iff_toInt_lt, Int32.le_iff_toInt_le, ← Int32.toInt_inj] at *; omega))).symm
  · refine lv_iload_n hx hb dX7_within_5 rfl (lv_at hl 0 rfl) ?_
    refine lv_iload_n hx hb dX7_within_6 rfl (lv_at hl 2 rfl) ?_
    refine lv_icmp_gt (tgt := 14) hx hb dX7_within_7 (by decide) (fun c_7 => ?_) (fun c_7 => ?_)
    · refine lv_iconst (v := 0) hx hb dX7_within_14 (by decide) ?_
      refine f_ir X hlk hr (v := 0) rfl hP hS ?_ dX7_within_15
      refine ⟨rfl, ?_⟩; first | exact (bIe (by intro h; (simp only [Int32.lt_iff_toInt_lt, Int32.le_iff_toInt_le, ← Int32.toInt_inj] at *; omega))).symm | exact (bIt (by (simp only [Int32.lt_iff_toInt_lt, Int32.le_iff_toInt_le, ← Int32.toInt_inj] at *; omega))).symm
    · refine lv_iconst (v := 1) hx hb dX7_within_10 (by decide) ?_
      refine lv_goto (tgt := 15) hx hb dX7_within_11 (by decide) ?_
      refine f_ir X hlk hr (v := 1) rfl hP hS ?_ dX7_within_15
      refine ⟨rfl, ?_⟩; first | exact (bIe (by intro h; (simp only [Int32.lt_iff_toInt_lt, Int32.le_iff_toInt_le, ← Int32.toInt_inj] at *; omega))).symm | exact (bIt (by (simp only [Int32.lt_iff_toInt_lt, Int32.le_iff_toInt_le, ← Int32.toInt_inj] at *; omega))).symm

set_option maxHeartbeats 4000000 in
set_option maxRecDepth 100000 in
theorem c_X7_isShelf (l : Launch) (E : fE) (M : Nat → Nat → Int32) (L : Nat → Nat → Int64) (s1 : Int32) : Met l yX7_isShelf (wl yX7_isShelf cX7_isShelf 1 (some .boolean)) (fRm 1 22) (va_Pc [.int s1] (fPre E M L)) (fQi E (fun r u => u = (M, L) ∧ r = bI (decide (0 ≤ s1 ∧ s1 ≤ 7)))) 0 0 (fA E) := by
  refine f_head (by decide) (Nat.le_of_ble_eq_true rfl) ?_
  intro pg ev s mi below meth cd ls X hr hlk hP hS hl
  have hx := X.1.1
  have hb := X.1.2.1
  have hl : lv_has ls 1 [(0, .int s1)] := hl
  refine lv_iload_n hx hb dX7_isShelf_0 rfl (lv_at hl 0 rfl) ?_
  refine lv_iconst (v := 0) hx hb dX7_isShelf_1 (by decide) ?_
  refine lv_bipush (v := 7) hx hb dX7_isShelf_2 (by decide) ?_
  refine f_iS (n := 3) X hP hS [.int s1, .int 0, .int 7] [] (c_X7_within l E M L s1 0 7) m_2_26 wi_X7_within (by decide +kernel) ⟨Nat.le_of_ble_eq_true rfl, Nat.le_of_ble_eq_true rfl⟩ rfl hl rfl (Nat.le_of_ble_eq_true rfl) ⟨Nat.zero_le _, Nat.zero_le _⟩ dX7_isShelf_4 (fun H locs hP hS => ?_)
  exact f_ir X hlk hr (v := (bI (decide (0 ≤ s1 ∧ s1 ≤ 7)))) (narrow_bI _) hP hS ⟨rfl, rfl⟩ dX7_isShelf_7

set_option maxHeartbeats 4000000 in
set_option maxRecDepth 100000 in
theorem c_X7_isKind (l : Launch) (E : fE) (M : Nat → Nat → Int32) (L : Nat → Nat → Int64) (k : Int32) : Met l yX7_isKind (wl yX7_isKind cX7_isKind 1 (some .boolean)) (fRm 1 22) (va_Pc [.int k] (fPre E M L)) (fQi E (fun r u => u = (M, L) ∧ r = bI (decide (0 ≤ k ∧ k ≤ 6)))) 0 0 (fA E) := by
  refine f_head (by decide) (Nat.le_of_ble_eq_true rfl) ?_
  intro pg ev s mi below meth cd ls X hr hlk hP hS hl
  have hx := X.1.1
  have hb := X.1.2.1
  have hl : lv_has ls 1 [(0, .int k)] := hl
  refine lv_iload_n hx hb dX7_isKind_0 rfl (lv_at hl 0 rfl) ?_
  refine lv_iconst (v := 0) hx hb dX7_isKind_1 (by decide) ?_
  refine lv_bipush (v := 6) hx hb dX7_isKind_2 (by decide) ?_
  refine f_iS (n := 3) X hP hS [.int k, .int 0, .int 6] [] (c_X7_within l E M L k 0 6) m_2_26 wi_X7_within (by decide +kernel) ⟨Nat.le_of_ble_eq_true rfl, Nat.le_of_ble_eq_true rfl⟩ rfl hl rfl (Nat.le_of_ble_eq_true rfl) ⟨Nat.zero_le _, Nat.zero_le _⟩ dX7_isKind_4 (fun H locs hP hS => ?_)
  exact f_ir X hlk hr (v := (bI (decide (0 ≤ k ∧ k ≤ 6)))) (narrow_bI _) hP hS ⟨rfl, rfl⟩ dX7_isKind_7

set_option maxHeartbeats 4000000 in
set_option maxRecDepth 100000 in
theorem c_X7_isCorner (l : Launch) (E : fE) (M : Nat → Nat → Int32) (L : Nat → Nat → Int64) (v : Int32) : Met l yX7_isCorner (wl yX7_isCorner cX7_isCorner 1 (some .boolean)) (fRm 1 22) (va_Pc [.int v] (fPre E M L)) (fQi E (fun r u => u = (M, L) ∧ r = bI (decide (0 ≤ v ∧ v ≤ 9)))) 0 0 (fA E) := by
  refine f_head (by decide) (Nat.le_of_ble_eq_true rfl) ?_
  intro pg ev s mi below meth cd ls X hr hlk hP hS hl
  have hx := X.1.1
  have hb := X.1.2.1
  have hl : lv_has ls 1 [(0, .int v)] := hl
  refine lv_iload_n hx hb dX7_isCorner_0 rfl (lv_at hl 0 rfl) ?_
  refine lv_iconst (v := 0) hx hb dX7_isCorner_1 (by decide) ?_
  refine lv_bipush (v := 9) hx hb dX7_isCorner_2 (by decide) ?_
  refine f_iS (n := 3) X hP hS [.int v, .int 0, .int 9] [] (c_X7_within l E M L v 0 9) m_2_26 wi_X7_within (by decide +kernel) ⟨Nat.le_of_ble_eq_true rfl, Nat.le_of_ble_eq_true rfl⟩ rfl hl rfl (Nat.le_of_ble_eq_true rfl) ⟨Nat.zero_le _, Nat.zero_le _⟩ dX7_isCorner_4 (fun H locs hP hS => ?_)
  exact f_ir X hlk hr (v := (bI (decide (0 ≤ v ∧ v ≤ 9)))) (narrow_bI _) hP hS ⟨rfl, rfl⟩ dX7_isCorner_7

set_option maxHeartbeats 4000000 in
set_option maxRecDepth 100000 in
theorem c_X7_isQuarter (l : Launch) (E : fE) (M : Nat → Nat → Int32) (L : Nat → Nat → Int64) (v : Int32) : Met l yX7_isQuarter (wl yX7_isQuarter cX7_isQuarter 1 (some .boolean)) (fRm 1 22) (va_Pc [.int v] (fPre E M L)) (fQi E (fun r u => u = (M, L) ∧ r = bI (decide (0 ≤ v ∧ v ≤ 23)))) 0 0 (fA E) := by
  refine f_head (by decide) (Nat.le_of_ble_eq_true rfl) ?_
  intro pg ev s mi below meth cd ls X hr hlk hP hS hl
  have hx := X.1.1
  have hb := X.1.2.1
  have hl : lv_has ls 1 [(0, .int v)] := hl
  refine lv_iload_n hx hb dX7_isQuarter_0 rfl (lv_at hl 0 rfl) ?_
  refine lv_iconst (v := 0) hx hb dX7_isQuarter_1 (by decide) ?_
  refine lv_bipush (v := 23) hx hb dX7_isQuarter_2 (by decide) ?_
  refine f_iS (n := 3) X hP hS [.int v, .int 0, .int 23] [] (c_X7_within l E M L v 0 23) m_2_26 wi_X7_within (by decide +kernel) ⟨Nat.le_of_ble_eq_true rfl, Nat.le_of_ble_eq_true rfl⟩ rfl hl rfl (Nat.le_of_ble_eq_true rfl) ⟨Nat.zero_le _, Nat.zero_le _⟩ dX7_isQuarter_4 (fun H locs hP hS => ?_)
  exact f_ir X hlk hr (v := (bI (decide (0 ≤ v ∧ v ≤ 23)))) (narrow_bI _) hP hS ⟨rfl, rfl⟩ dX7_isQuarter_7

set_option maxHeartbeats 4000000 in
set_option maxRecDepth 100000 in
theorem c_X4_isRow (l : Launch) (E : fE) (M : Nat → Nat → Int32) (L : Nat → Nat → Int64) (k : Nat) (hk_k : fsh k = 4) : Met l yX4_isRow (wl yX4_isRow cX4_isRow 1 (some .boolean)) (fRm 0 0) (va_Pc [.ref (fad E k)] (fPre E M L)) (fQi E (fun r u => u = (M, L) ∧ r = bI (decide (100 ≤ (M k 1))))) 0 0 (fA E) := by
  refine f_head (by decide) (Nat.le_of_ble_eq_true rfl) ?_
  intro pg ev s mi below meth cd ls X hr hlk hP hS hl
  have hx := X.1.1
  have hb := X.1.2.1
  have hl : lv_has ls 1 [(0, .ref (fad E k))] := hl
  refine lv_aload_n hx hb dX4_isRow_0 rfl (lv_at hl 0 rfl) ?_
  refine f_get X hP (T := TX4) (ci := 4) (k := k) hk_k inX4 rfl 1 (by decide) m_1_218 rfl (v := .int (M k 1)) rfl dX4_isRow_1 ?_
  refine lv_bipush (v := 100) hx hb dX4_isRow_4 (by decide) ?_
  refine lv_icmp_lt (tgt := 13) hx hb dX4_isRow_6 (by decide) (fun c_6 => ?_) (fun c_6 => ?_)
  · refine lv_iconst (v := 0) hx hb dX4_isRow_13 (by decide) ?_
    refine f_ir X hlk hr (v := 0) rfl hP hS ?_ dX4_isRow_14
    refine ⟨rfl, ?_⟩; first | exact (bIe (by intro h; (simp only [Int32.lt_iff_toInt_lt, Int32.le_iff_toInt_le, ← Int32.toInt_inj] at *; omega))).symm | exact (bIt (by (simp only [Int32.lt_iff_toInt_lt, Int32.le_iff_toInt_le, ← Int32.toInt_inj] at *; omega))).symm
  · refine lv_iconst (v := 1) hx hb dX4_isRow_9 (by decide) ?_
    refine lv_goto (tgt := 14) hx hb dX4_isRow_10 (by decide) ?_
    refine f_ir X hlk hr (v := 1) rfl hP hS ?_ dX4_isRow_14
    refine ⟨rfl, ?_⟩; first | exact (bIe (by intro h; (simp only [Int32.lt_iff_toInt_lt, Int32.le_iff_toInt_le, ← Int32.toInt_inj] at *; omega))).symm | exact (bIt (by (simp only [Int32.lt_iff_toInt_lt, Int32.le_iff_toInt_le, ← Int32.toInt_inj] at *; omega))).symm

set_option maxHeartbeats 4000000 in
set_option maxRecDepth 100000 in
theorem c_X4_hold (l : Launch) (E : fE) (M : Nat → Nat → Int32) (L : Nat → Nat → Int64) (k : Nat) (w : Int32) (hk_k : fsh k = 4) : Met l yX4_hold (wl yX4_hold cX4_hold 2 none) (fRm 0 0) (va_Pc [.ref (fad E k), .int w] (fPre E M L)) (fQv E (fun u => u = ((up2 (up2 M k 1 w) k 2 0), L))) 0 0 (fA E) := by
  refine f_head (by decide) (Nat.le_of_ble_eq_true rfl) ?_
  intro pg ev s mi below meth cd ls X hr hlk hP hS hl
  have hx := X.1.1
  have hb := X.1.2.1
  have hl : lv_has ls 2 [(0, .ref (fad E k)), (1, .int w)] := hl
  refine lv_aload_n hx hb dX4_hold_0 rfl (lv_at hl 0 rfl) ?_
  refine lv_iload_n hx hb dX4_hold_1 rfl (lv_at hl 1 rfl) ?_
  refine f_put X hP hS (T := TX4) (ci := 4) (k := k) hk_k inX4 rfl tyX4 tyX4_ok nmX4 1 (by decide) m_1_218 ⟨rfl, rfl⟩ rfl (v := w) rfl rfl dX4_hold_2 (fun H locs hP hS => ?_)
  refine lv_aload_n hx hb dX4_hold_5 rfl (lv_at hl 0 rfl) ?_
  refine lv_iconst (v := 0) hx hb dX4_hold_6 (by decide) ?_
  refine f_put X hP hS (T := TX4) (ci := 4) (k := k) hk_k inX4 rfl tyX4 tyX4_ok nmX4 2 (by decide) m_1_220 ⟨rfl, rfl⟩ rfl (v := 0) rfl rfl dX4_hold_7 (fun H locs hP hS => ?_)
  exact f_vr X hlk hr hP hS rfl dX4_hold_10

set_option maxHeartbeats 4000000 in
set_option maxRecDepth 100000 in
theorem c_X4_hasElement (l : Launch) (E : fE) (M : Nat → Nat → Int32) (L : Nat → Nat → Int64) (k : Nat) (i : Int32) (hk_k : fsh k = 4) : Met l yX4_hasElement (wl yX4_hasElement cX4_hasElement 2 (some .boolean)) (fRm 0 0) (va_Pc [.ref (fad E k), .int i] (fPre E M L)) (fQi E (fun r u => u = (M, L) ∧ r = bI (decide (0 ≤ i ∧ i < (M k 2) ∧ i < 160)))) 0 0 (fA E) := by
  refine f_head (by decide) (Nat.le_of_ble_eq_true rfl) ?_
  intro pg ev s mi below meth cd ls X hr hlk hP hS hl
  have hx := X.1.1
  have hb := X.1.2.1
  have hl : lv_has ls 2 [(0, .ref (fad E k)), (1, .int i)] := hl
  refine lv_iload_n hx hb dX4_hasElement_0 rfl (lv_at hl 1 rfl) ?_
  refine lv_if_lt (tgt := 23) hx hb dX4_hasElement_1 (by decide) (fun c_1 => ?_) (fun c_1 => ?_)
  · refine lv_iconst (v := 0) hx hb dX4_hasElement_23 (by decide) ?_
    refine f_ir X hlk hr (v := 0) rfl hP hS ?_ dX4_hasElement_24
    refine ⟨rfl, ?_⟩; first | exact (bIe (by intro h; (simp only [Int32.lt_iff_toInt_lt, Int32.le_iff_toInt_le, ← Int32.toInt_inj] at *; omega))).symm | exact (bIt (by (simp only [Int32.lt_iff_toInt_lt, Int32.le_iff_toInt_le, ← Int32.toInt_inj] at *; omega))).symm
  · refine lv_iload_n hx hb dX4_hasElement_4 rfl (lv_at hl 1 rfl) ?_
    refine lv_aload_n hx hb dX4_hasElement_5 rfl (lv_at hl 0 rfl) ?_
    refine f_get X hP (T := TX4) (ci := 4) (k := k) hk_k inX4 rfl 2 (by decide) m_1_220 rfl (v := .int (M k 2)) rfl dX4_hasElement_6 ?_
    refine lv_icmp_ge (tgt := 23) hx hb dX4_hasElement_9 (by decide) (fun c_9 => ?_) (fun c_9 => ?_)
    · refine lv_iconst (v := 0) hx hb dX4_hasElement_23 (by decide) ?_
      refine f_ir X hlk hr (v := 0) rfl hP hS ?_ dX4_hasElement_24
      refine ⟨rfl, ?_⟩; first | exact (bIe (by intro h; (simp only [Int32.lt_iff_toInt_lt, Int32.le_iff_toInt_le, ← Int32.toInt_inj] at *; omega))).symm | exact (bIt (by (simp only [Int32.lt_iff_toInt_lt, Int32.le_iff_toInt_le, ← Int32.toInt_inj] at *; omega))).symm
    · refine lv_iload_n hx hb dX4_hasElement_12 rfl (lv_at hl 1 rfl) ?_
      refine lv_sipush (v := 160) hx hb dX4_hasElement_13 (by decide) ?_
      refine lv_icmp_ge (tgt := 23) hx hb dX4_hasElement_16 (by decide) (fun c_16 => ?_) (fun c_16 => ?_)
      · refine lv_iconst (v := 0) hx hb dX4_hasElement_23 (by decide) ?_
        refine f_ir X hlk hr (v := 0) rfl hP hS ?_ dX4_hasElement_24
        refine ⟨rfl, ?_⟩; first | exact (bIe (by intro h; (simp only [Int32.lt_iff_toInt_lt, Int32.le_iff_toInt_le, ← Int32.toInt_inj] at *; omega))).symm | exact (bIt (by (simp only [Int32.lt_iff_toInt_lt, Int32.le_iff_toInt_le, ← Int32.toInt_inj] at *; omega))).symm
      · refine lv_iconst (v := 1) hx hb dX4_hasElement_19 (by decide) ?_
        refine lv_goto (tgt := 24) hx hb dX4_hasElement_20 (by decide) ?_
        refine f_ir X hlk hr (v := 1) rfl hP hS ?_ dX4_hasElement_24
        refine ⟨rfl, ?_⟩; first | exact (bIe (by intro h; (simp only [Int32.lt_iff_toInt_lt, Int32.le_iff_toInt_le, ← Int32.toInt_inj] at *; omega))).symm | exact (bIt (by (simp only [Int32.lt_iff_toInt_lt, Int32.le_iff_toInt_le, ← Int32.toInt_inj] at *; omega))).symm

set_option maxHeartbeats 4000000 in
set_option maxRecDepth 100000 in
theorem c_X4_hasPart (l : Launch) (E : fE) (M : Nat → Nat → Int32) (L : Nat → Nat → Int64) (k : Nat) (i : Int32) (n : Int32) (hk_k : fsh k = 4) : Met l yX4_hasPart (wl yX4_hasPart cX4_hasPart 3 (some .boolean)) (fRm 0 0) (va_Pc [.ref (fad E k), .int i, .int n] (fPre E M L)) (fQi E (fun r u => u = (M, L) ∧ r = bI (decide (0 ≤ i ∧ i ≤ (M k 2) ∧ 0 ≤ n ∧ n ≤ (M k 2) - i)))) 0 0 (fA E) := by
  refine f_head (by decide) (Nat.le_of_ble_eq_true rfl) ?_
  intro pg ev s mi below meth cd ls X hr hlk hP hS hl
  have hx := X.1.1
  have hb := X.1.2.1
  have hl : lv_has ls 3 [(0, .ref (fad E k)), (1, .int i), (2, .int n)] := hl
  refine lv_iload_n hx hb dX4_hasPart_0 rfl (lv_at hl 1 rfl) ?_
  refine lv_if_lt (tgt := 30) hx hb dX4_hasPart_1 (by decide) (fun c_1 => ?_) (fun c_1 => ?_)
  · refine lv_iconst (v := 0) hx hb dX4_hasPart_30 (by decide) ?_
    refine f_ir X hlk hr (v := 0) rfl hP hS ?_ dX4_hasPart_31
    refine ⟨rfl, ?_⟩; first | exact (bIe (by intro h; (simp only [Int32.lt_iff_toInt_lt, Int32.le_iff_toInt_le, ← Int32.toInt_inj] at *; omega))).symm | exact (bIt (by (simp only [Int32.lt_iff_toInt_lt, Int32.le_iff_toInt_le, ← Int32.toInt_inj] at *; omega))).symm
  · refine lv_iload_n hx hb dX4_hasPart_4 rfl (lv_at hl 1 rfl) ?_
    refine lv_aload_n hx hb dX4_hasPart_5 rfl (lv_at hl 0 rfl) ?_
    refine f_get X hP (T := TX4) (ci := 4) (k := k) hk_k inX4 rfl 2 (by decide) m_1_220 rfl (v := .int (M k 2)) rfl dX4_hasPart_6 ?_
    refine lv_icmp_gt (tgt := 30) hx hb dX4_hasPart_9 (by decide) (fun c_9 => ?_) (fun c_9 => ?_)
    · refine lv_iconst (v := 0) hx hb dX4_hasPart_30 (by decide) ?_
      refine f_ir X hlk hr (v := 0) rfl hP hS ?_ dX4_hasPart_31
      refine ⟨rfl, ?_⟩; first | exact (bIe (by intro h; (simp only [Int32.lt_iff_toInt_lt, Int32.le_iff_toInt_le, ← Int32.toInt_inj] at *; omega))).symm | exact (bIt (by (simp only [Int32.lt_iff_toInt_lt, Int32.le_iff_toInt_le, ← Int32.toInt_inj] at *; omega))).symm
    · refine lv_iload_n hx hb dX4_hasPart_12 rfl (lv_at hl 2 rfl) ?_
      refine lv_if_lt (tgt := 30) hx hb dX4_hasPart_13 (by decide) (fun c_13 => ?_) (fun c_13 => ?_)
      · refine lv_iconst (v := 0) hx hb dX4_hasPart_30 (by decide) ?_
        refine f_ir X hlk hr (v := 0) rfl hP hS ?_ dX4_hasPart_31
        refine ⟨rfl, ?_⟩; first | exact (bIe (by intro h; (simp only [Int32.lt_iff_toInt_lt, Int32.le_iff_toInt_le, ← Int32.toInt_inj] at *; omega))).symm | exact (bIt (by (simp only [Int32.lt_iff_toInt_lt, Int32.le_iff_toInt_le, ← Int32.toInt_inj] at *; omega))).symm
      · refine lv_iload_n hx hb dX4_hasPart_16 rfl (lv_at hl 2 rfl) ?_
        refine lv_aload_n hx hb dX4_hasPart_17 rfl (lv_at hl 0 rfl) ?_
        refine f_get X hP (T := TX4) (ci := 4) (k := k) hk_k inX4 rfl 2 (by decide) m_1_220 rfl (v := .int (M k 2)) rfl dX4_hasPart_18 ?_
        refine lv_iload_n hx hb dX4_hasPart_21 rfl (lv_at hl 1 rfl) ?_
        refine lv_isub hx hb dX4_hasPart_22 ?_
        refine lv_icmp_gt (tgt := 30) hx hb dX4_hasPart_23 (by decide) (fun c_23 => ?_) (fun c_23 => ?_)
        · refine lv_iconst (v := 0) hx hb dX4_hasPart_30 (by decide) ?_
          refine f_ir X hlk hr (v := 0) rfl hP hS ?_ dX4_hasPart_31
          refine ⟨rfl, ?_⟩; first | exact (bIe (by intro h; (simp only [Int32.lt_iff_toInt_lt, Int32.le_iff_toInt_le, ← Int32.toInt_inj] at *; omega))).symm | exact (bIt (by (simp only [Int32.lt_iff_toInt_lt, Int32.le_iff_toInt_le, ← Int32.toInt_inj] at *; omega))).symm
        · refine lv_iconst (v := 1) hx hb dX4_hasPart_26 (by decide) ?_
          refine lv_goto (tgt := 31) hx hb dX4_hasPart_27 (by decide) ?_
          refine f_ir X hlk hr (v := 1) rfl hP hS ?_ dX4_hasPart_31
          refine ⟨rfl, ?_⟩; first | exact (bIe (by intro h; (simp only [Int32.lt_iff_toInt_lt, Int32.le_iff_toInt_le, ← Int32.toInt_inj] at *; omega))).symm | exact (bIt (by (simp only [Int32.lt_iff_toInt_lt, Int32.le_iff_toInt_le, ← Int32.toInt_inj] at *; omega))).symm

set_option maxHeartbeats 4000000 in
set_option maxRecDepth 100000 in
theorem c_X4_lowestBits (l : Launch) (E : fE) (M : Nat → Nat → Int32) (L : Nat → Nat → Int64) (k : Nat) (v : Int64) (hk_k : fsh k = 4) : Met l yX4_lowestBits (wl yX4_lowestBits cX4_lowestBits 3 (some .long)) (fRm 0 0) (va_Pc [.ref (fad E k), .long v] (fPre E M L)) (fQl E (fun r u => u = (M, L) ∧ r = lowF (M k 1) v)) 0 0 (fA E) := by
  refine f_head (by decide) (Nat.le_of_ble_eq_true rfl) ?_
  intro pg ev s mi below meth cd ls X hr hlk hP hS hl
  have hx := X.1.1
  have hb := X.1.2.1
  have hl : lv_has ls 3 [(0, .ref (fad E k)), (1, .long v)] := hl
  refine lv_aload_n hx hb dX4_lowestBits_0 rfl (lv_at hl 0 rfl) ?_
  refine f_get X hP (T := TX4) (ci := 4) (k := k) hk_k inX4 rfl 1 (by decide) m_1_218 rfl (v := .int (M k 1)) rfl dX4_lowestBits_1 ?_
  refine lv_bipush (v := 100) hx hb dX4_lowestBits_4 (by decide) ?_
  refine lv_isub hx hb dX4_lowestBits_6 ?_
  by_cases s_7_0 : ((M k 1) - 100) = 0
  · refine lv_tableIn (tgt := 32) hx hb dX4_lowestBits_7 (by rw [s_7_0]; decide) (by rw [s_7_0]; decide) (by rw [s_7_0]; rfl) (by decide) ?_
    refine lv_lload_n hx hb dX4_lowestBits_32 rfl (lv_at hl 1 rfl) ?_
    refine lv_l2i (v := (v.toInt32)) hx hb dX4_lowestBits_33 rfl ?_
    refine lv_i2b (v := ((v.toInt32).toInt8.toInt32)) hx hb dX4_lowestBits_34 rfl ?_
    refine lv_i2l (v := (((v.toInt32).toInt8.toInt32).toInt64)) hx hb dX4_lowestBits_35 rfl ?_
    refine f_lr X hlk hr hP hS (v := (((v.toInt32).toInt8.toInt32).toInt64)) ?_ dX4_lowestBits_36
    refine ⟨rfl, ?_⟩; simp_all [lowF]
  by_cases s_7_1 : ((M k 1) - 100) = 1
  · refine lv_tableIn (tgt := 37) hx hb dX4_lowestBits_7 (by rw [s_7_1]; decide) (by rw [s_7_1]; decide) (by rw [s_7_1]; rfl) (by decide) ?_
    refine lv_lload_n hx hb dX4_lowestBits_37 rfl (lv_at hl 1 rfl) ?_
    refine lv_l2i (v := (v.toInt32)) hx hb dX4_lowestBits_38 rfl ?_
    refine lv_i2s (v := ((v.toInt32).toInt16.toInt32)) hx hb dX4_lowestBits_39 rfl ?_
    refine lv_i2l (v := (((v.toInt32).toInt16.toInt32).toInt64)) hx hb dX4_lowestBits_40 rfl ?_
    refine f_lr X hlk hr hP hS (v := (((v.toInt32).toInt16.toInt32).toInt64)) ?_ dX4_lowestBits_41
    refine ⟨rfl, ?_⟩; simp_all [lowF]
  by_cases s_7_2 : ((M k 1) - 100) = 2
  · refine lv_tableIn (tgt := 42) hx hb dX4_lowestBits_7 (by rw [s_7_2]; decide) (by rw [s_7_2]; decide) (by rw [s_7_2]; rfl) (by decide) ?_
    refine lv_lload_n hx hb dX4_lowestBits_42 rfl (lv_at hl 1 rfl) ?_
    refine lv_l2i (v := (v.toInt32)) hx hb dX4_lowestBits_43 rfl ?_
    refine lv_i2l (v := ((v.toInt32).toInt64)) hx hb dX4_lowestBits_44 rfl ?_
    refine f_lr X hlk hr hP hS (v := ((v.toInt32).toInt64)) ?_ dX4_lowestBits_45
    refine ⟨rfl, ?_⟩; simp_all [lowF]
  refine lv_tableOut (tgt := 46) hx hb dX4_lowestBits_7 (by have q0 := lv_neT s_7_0 (a := 0) rfl; have q1 := lv_neT s_7_1 (a := 1) rfl; have q2 := lv_neT s_7_2 (a := 2) rfl; omega) (by decide) ?_
  refine lv_lload_n hx hb dX4_lowestBits_46 rfl (lv_at hl 1 rfl) ?_
  refine f_lr X hlk hr hP hS (v := v) ?_ dX4_lowestBits_47
  refine ⟨rfl, ?_⟩; simp_all [lowF]

set_option maxHeartbeats 4000000 in
set_option maxRecDepth 100000 in
theorem c_X4_layRow (l : Launch) (E : fE) (M : Nat → Nat → Int32) (L : Nat → Nat → Int64) (k : Nat) (o : Int32) (n : Int32) (hk_k : fsh k = 4) : Met l yX4_layRow (wl yX4_layRow cX4_layRow 4 none) (fRm 0 0) (va_Pc [.ref (fad E k), .int o, .int n] (fPre E M L)) (fQv E (fun u => u = ((up2 (up2 M k 1 (100 + o)) k 2 n), (zeL L k 160)))) 0 0 (fA E) := by
  refine f_head (by decide) (Nat.le_of_ble_eq_true rfl) ?_
  intro pg ev s mi below meth cd ls X hr hlk hP hS hl
  have hx := X.1.1
  have hb := X.1.2.1
  have hl : lv_has ls 4 [(0, .ref (fad E k)), (1, .int o), (2, .int n)] := hl
  have hP := fP_eqL (show L = (zeL L k 0) from by
      funext x9 y9; exact (if_neg (by omega)).symm) hP
  refine lv_aload_n hx hb dX4_layRow_0 rfl (lv_at hl 0 rfl) ?_
  refine lv_bipush (v := 100) hx hb dX4_layRow_1 (by decide) ?_
  refine lv_iload_n hx hb dX4_layRow_3 rfl (lv_at hl 1 rfl) ?_
  refine lv_iadd hx hb dX4_layRow_4 ?_
  refine f_put X hP hS (T := TX4) (ci := 4) (k := k) hk_k inX4 rfl tyX4 tyX4_ok nmX4 1 (by decide) m_1_218 ⟨rfl, rfl⟩ rfl (v := (100 + o)) rfl rfl dX4_layRow_5 (fun H locs hP hS => ?_)
  refine lv_aload_n hx hb dX4_layRow_8 rfl (lv_at hl 0 rfl) ?_
  refine lv_iload_n hx hb dX4_layRow_9 rfl (lv_at hl 2 rfl) ?_
  refine f_put X hP hS (T := TX4) (ci := 4) (k := k) hk_k inX4 rfl tyX4 tyX4_ok nmX4 2 (by decide) m_1_220 ⟨rfl, rfl⟩ rfl (v := n) rfl rfl dX4_layRow_10 (fun H locs hP hS => ?_)
  refine lv_iconst (v := 0) hx hb dX4_layRow_13 (by decide) ?_
  refine lv_istore_n (lv' := [(3, .int 0), (0, .ref (fad E k)), (1, .int o), (2, .int n)]) hx hb dX4_layRow_14 rfl hl (by decide) rfl (fun ls hl => ?_)
  refine f_loop (α := Nat) (fun (i : Nat) H locs ls => fP E (up2 (up2 M k 1 (100 + o)) k 2 n) (zeL L k i) H ∧ va_S (fA E) s.heap H locs ∧ lv_has ls 4 [(3, .int (nI i)), (0, .ref (fad E k)), (1, .int o), (2, .int n)] ∧ (i ≤ 160)) (fun (i : Nat) => 160 - i) (pc0 := 15) (st := fun _ => []) ?_ 0 _ _ _ ⟨hP, hS, lv_sub hl [0, 1, 2, 3] rfl, (by omega)⟩
  rintro i H locs ls ⟨hP, hS, hl, ht⟩ ih_15
  refine lv_iload_n hx hb dX4_layRow_15 rfl (lv_at hl 0 rfl) ?_
  refine lv_sipush (v := 160) hx hb dX4_layRow_16 (by decide) ?_
  refine lv_icmp_ge (tgt := 35) hx hb dX4_layRow_19 (by decide) (fun c_19 => ?_) (fun c_19 => ?_)
  · have c_19 := (nI_le_iff (a := 160) (b := i) (by omega) (by omega)).mp c_19
    obtain rfl : i = 160 := by omega
    exact f_vr X hlk hr hP hS rfl dX4_layRow_35
  · have c_19 := (not_congr (nI_le_iff (a := 160) (b := i) (by omega) (by omega))).mp c_19
    refine lv_aload_n hx hb dX4_layRow_22 rfl (lv_at hl 1 rfl) ?_
    refine f_get X hP (T := TX4) (ci := 4) (k := k) hk_k inX4 rfl 0 (by decide) m_1_216 rfl (v := .ref (fad E (k + 8))) rfl dX4_layRow_23 ?_
    refine lv_iload_n hx hb dX4_layRow_26 rfl (lv_at hl 0 rfl) ?_
    refine lv_lconst (v := 0) hx hb dX4_layRow_27 (by decide) ?_
    refine f_last X hP hS (k := (k + 8)) (n := 160) (q := i) (sh_el hk_k) (ln_el hk_k) (v := 0) (fIx_nI (by omega) (by decide)) dX4_layRow_28 (fun H locs hP hS => ?_)
    refine lv_iinc (v := (nI (i + 1))) (lv' := [(3, .int (nI (i + 1))), (0, .ref (fad E k)), (1, .int o), (2, .int n)]) hx hb dX4_layRow_29 hl (k := 0) rfl (nI_1 _) (by decide) rfl (fun ls hl => ?_)
    refine lv_goto (tgt := 15) hx hb dX4_layRow_32 (by decide) ?_
    have hP := fP_eqL (show (upL (zeL L k i) (k + 8) i 0) = (zeL L k (i + 1)) from by
        exact zeL_s) hP
    exact ih_15 (i + 1) _ _ _ (by show 160 - (i + 1) < 160 - i; omega) ⟨hP, hS, lv_sub hl [0, 1, 2, 3] rfl, (by omega)⟩

set_option maxHeartbeats 4000000 in
set_option maxRecDepth 100000 in
theorem c_X4_put (l : Launch) (E : fE) (M : Nat → Nat → Int32) (L : Nat → Nat → Int64) (k : Nat) (i : Int32) (v : Int64) (hk_k : fsh k = 4) : Met l yX4_put (wl yX4_put cX4_put 4 none) (fRm 1 22) (va_Pc [.ref (fad E k), .int i, .long v] (fPre E M L)) (fQv E (fun u => u = (M, (if 0 ≤ i ∧ i < (M k 2) ∧ i < 160 then upL L (k + 8) i.toNatClampNeg (lowF (M k 1) v) else L)))) 0 0 (fA E) := by
  refine f_head (by decide) (Nat.le_of_ble_eq_true rfl) ?_
  intro pg ev s mi below meth cd ls X hr hlk hP hS hl
  have hx := X.1.1
  have hb := X.1.2.1
  have hl : lv_has ls 4 [(0, .ref (fad E k)), (1, .int i), (2, .long v)] := hl
  refine lv_aload_n hx hb dX4_put_0 rfl (lv_at hl 0 rfl) ?_
  refine lv_iload_n hx hb dX4_put_1 rfl (lv_at hl 1 rfl) ?_
  refine f_iV (n := 1) X hP hS [.int i] [] (c_X4_hasElement l E M L k i hk_k) m_2_57 wi_X4_hasElement hk_k rfl (by decide) (by decide +kernel) ⟨Nat.le_of_ble_eq_true rfl, Nat.le_of_ble_eq_true rfl⟩ rfl hl rfl (Nat.le_of_ble_eq_true rfl) ⟨Nat.zero_le _, Nat.zero_le _⟩ dX4_put_2 (fun H locs hP hS => ?_)
  refine lv_if_eq (tgt := 19) hx hb dX4_put_5 (by decide) (fun c_5 => ?_) (fun c_5 => ?_)
  · have c_5 := bI0 c_5
    refine f_vr X hlk hr hP hS ?_ dX4_put_19
    show _ = _
    first | rw [if_pos c_5] | rw [if_neg c_5]
  · have c_5 := bI1 c_5
    refine lv_aload_n hx hb dX4_put_8 rfl (lv_at hl 0 rfl) ?_
    refine f_get X hP (T := TX4) (ci := 4) (k := k) hk_k inX4 rfl 0 (by decide) m_1_216 rfl (v := .ref (fad E (k + 8))) rfl dX4_put_9 ?_
    refine lv_iload_n hx hb dX4_put_12 rfl (lv_at hl 1 rfl) ?_
    refine lv_aload_n hx hb dX4_put_13 rfl (lv_at hl 0 rfl) ?_
    refine lv_lload_n hx hb dX4_put_14 rfl (lv_at hl 2 rfl) ?_
    refine f_lV (n := 1) X hP hS [.long v] [.int i, .ref (fad E (k + 8))] (c_X4_lowestBits l E M L k v hk_k) m_2_58 wi_X4_lowestBits hk_k rfl (by decide) (by decide +kernel) ⟨Nat.le_of_ble_eq_true rfl, Nat.le_of_ble_eq_true rfl⟩ rfl hl rfl (Nat.le_of_ble_eq_true rfl) ⟨Nat.zero_le _, Nat.zero_le _⟩ dX4_put_15 (fun H locs hP hS => ?_)
    refine f_last X hP hS (k := (k + 8)) (n := 160) (q := i.toNatClampNeg) (sh_el hk_k) (ln_el hk_k) (v := (lowF (M k 1) v)) (fIx_lt 160 c_5.1 c_5.2.2 (by decide)) dX4_put_18 (fun H locs hP hS => ?_)
    refine f_vr X hlk hr hP hS ?_ dX4_put_19
    show _ = _
    first | rw [if_pos c_5] | rw [if_neg c_5]

set_option maxHeartbeats 4000000 in
set_option maxRecDepth 100000 in
theorem c_X4_at (l : Launch) (E : fE) (M : Nat → Nat → Int32) (L : Nat → Nat → Int64) (k : Nat) (i : Int32) (hk_k : fsh k = 4) : Met l yX4_at (wl yX4_at cX4_at 2 (some .long)) (fRm 1 21) (va_Pc [.ref (fad E k), .int i] (fPre E M L)) (fQl E (fun r u => u = (M, L) ∧ r = (if 0 ≤ i ∧ i < (M k 2) ∧ i < 160 then (L (k + 8) i.toNatClampNeg) else 0))) 0 0 (fA E) := by
  refine f_head (by decide) (Nat.le_of_ble_eq_true rfl) ?_
  intro pg ev s mi below meth cd ls X hr hlk hP hS hl
  have hx := X.1.1
  have hb := X.1.2.1
  have hl : lv_has ls 2 [(0, .ref (fad E k)), (1, .int i)] := hl
  refine lv_aload_n hx hb dX4_at_0 rfl (lv_at hl 0 rfl) ?_
  refine lv_iload_n hx hb dX4_at_1 rfl (lv_at hl 1 rfl) ?_
  refine f_iV (n := 1) X hP hS [.int i] [] (c_X4_hasElement l E M L k i hk_k) m_2_57 wi_X4_hasElement hk_k rfl (by decide) (by decide +kernel) ⟨Nat.le_of_ble_eq_true rfl, Nat.le_of_ble_eq_true rfl⟩ rfl hl rfl (Nat.le_of_ble_eq_true rfl) ⟨Nat.zero_le _, Nat.zero_le _⟩ dX4_at_2 (fun H locs hP hS => ?_)
  refine lv_if_eq (tgt := 17) hx hb dX4_at_5 (by decide) (fun c_5 => ?_) (fun c_5 => ?_)
  · have c_5 := bI0 c_5
    refine lv_lconst (v := 0) hx hb dX4_at_17 (by decide) ?_
    refine f_lr X hlk hr hP hS (v := 0) ?_ dX4_at_18
    refine ⟨rfl, ?_⟩; first | rw [if_pos c_5] | rw [if_neg c_5]
  · have c_5 := bI1 c_5
    refine lv_aload_n hx hb dX4_at_8 rfl (lv_at hl 0 rfl) ?_
    refine f_get X hP (T := TX4) (ci := 4) (k := k) hk_k inX4 rfl 0 (by decide) m_1_216 rfl (v := .ref (fad E (k + 8))) rfl dX4_at_9 ?_
    refine lv_iload_n hx hb dX4_at_12 rfl (lv_at hl 1 rfl) ?_
    refine f_lald X hP (k := (k + 8)) (n := 160) (q := i.toNatClampNeg) (sh_el hk_k) (ln_el hk_k) (fIx_lt 160 c_5.1 c_5.2.2 (by decide)) dX4_at_13 ?_
    refine lv_goto (tgt := 18) hx hb dX4_at_14 (by decide) ?_
    refine f_lr X hlk hr hP hS (v := (L (k + 8) i.toNatClampNeg)) ?_ dX4_at_18
    refine ⟨rfl, ?_⟩; first | rw [if_pos c_5] | rw [if_neg c_5]

set_option maxHeartbeats 4000000 in
set_option maxRecDepth 100000 in
theorem c_X4_number (l : Launch) (E : fE) (M : Nat → Nat → Int32) (L : Nat → Nat → Int64) (k : Nat) (i : Int32) (hk_k : fsh k = 4) : Met l yX4_number (wl yX4_number cX4_number 2 (some .int)) (fRm 2 42) (va_Pc [.ref (fad E k), .int i] (fPre E M L)) (fQi E (fun r u => u = (M, L) ∧ r = numI M L k i)) 0 0 (fA E) := by
  refine f_head (by decide) (Nat.le_of_ble_eq_true rfl) ?_
  intro pg ev s mi below meth cd ls X hr hlk hP hS hl
  have hx := X.1.1
  have hb := X.1.2.1
  have hl : lv_has ls 2 [(0, .ref (fad E k)), (1, .int i)] := hl
  refine lv_aload_n hx hb dX4_number_0 rfl (lv_at hl 0 rfl) ?_
  refine lv_iload_n hx hb dX4_number_1 rfl (lv_at hl 1 rfl) ?_
  refine f_lV (n := 1) X hP hS [.int i] [] (c_X4_at l E M L k i hk_k) m_3_0 wi_X4_at hk_k rfl (by decide) (by decide +kernel) ⟨Nat.le_of_ble_eq_true rfl, Nat.le_of_ble_eq_true rfl⟩ rfl hl rfl (Nat.le_of_ble_eq_true rfl) ⟨Nat.zero_le _, Nat.zero_le _⟩ dX4_number_2 (fun H locs hP hS => ?_)
  refine lv_l2i (v := ((if 0 ≤ i ∧ i < (M k 2) ∧ i < 160 then (L (k + 8) i.toNatClampNeg) else 0).toInt32)) hx hb dX4_number_5 rfl ?_
  exact f_ir X hlk hr (v := ((if 0 ≤ i ∧ i < (M k 2) ∧ i < 160 then (L (k + 8) i.toNatClampNeg) else 0).toInt32)) rfl hP hS ⟨rfl, rfl⟩ dX4_number_6
