set_option maxHeartbeats 4000000 in
set_option maxRecDepth 100000 in
theorem c_X1_hasThing (l : Launch) (E : fE) (M : Nat → Nat → Int32) (L : Nat → Nat → Int64) (g : Nat) (t : Int32) (hk_g : fsh g = 1) : Met l yX1_hasThing (wl yX1_hasThing cX1_hasThing 2 (some .boolean)) (fRm 0 0) (va_Pc [.ref (fad E g), .int t] (fPre E M L)) (fQi E (fun r u => u = (M, L) ∧ r = bI (decide (0 ≤ t ∧ t < (M g 3) ∧ t < 8)))) 0 0 (fA E) := by
  refine f_head (by decide) (Nat.le_of_ble_eq_true rfl) ?_
  intro pg ev s mi below meth cd ls X hr hlk hP hS hl
  have hx := X.1.1
  have hb := X.1.2.1
  have hl : lv_has ls 2 [(0, .ref (fad E g)), (1, .int t)] := hl
  refine lv_iload_n hx hb dX1_hasThing_0 rfl (lv_at hl 1 rfl) ?_
  refine lv_if_lt (tgt := 22) hx hb dX1_hasThing_1 (by decide) (fun c_1 => ?_) (fun c_1 => ?_)
  · refine lv_iconst (v := 0) hx hb dX1_hasThing_22 (by decide) ?_
    refine f_ir X hlk hr (v := 0) rfl hP hS ?_ dX1_hasThing_23
    refine ⟨rfl, ?_⟩; first | exact (bIe (by intro h; (simp only [Int32.lt_iff_toInt_lt, Int32.le_iff_toInt_le, ← Int32.toInt_inj] at *; omega))).symm | exact (bIt (by (simp only [Int32.lt_iff_toInt_lt, Int32.le_iff_toInt_le, ← Int32.toInt_inj] at *; omega))).symm
  · refine lv_iload_n hx hb dX1_hasThing_4 rfl (lv_at hl 1 rfl) ?_
    refine lv_aload_n hx hb dX1_hasThing_5 rfl (lv_at hl 0 rfl) ?_
    refine f_get X hP (T := TX1) (ci := 1) (k := g) hk_g inX1 rfl 3 (by decide) m_1_114 rfl (v := .int (M g 3)) rfl dX1_hasThing_6 ?_
    refine lv_icmp_ge (tgt := 22) hx hb dX1_hasThing_9 (by decide) (fun c_9 => ?_) (fun c_9 => ?_)
    · refine lv_iconst (v := 0) hx hb dX1_hasThing_22 (by decide) ?_
      refine f_ir X hlk hr (v := 0) rfl hP hS ?_ dX1_hasThing_23
      refine ⟨rfl, ?_⟩; first | exact (bIe (by intro h; (simp only [Int32.lt_iff_toInt_lt, Int32.le_iff_toInt_le, ← Int32.toInt_inj] at *; omega))).symm | exact (bIt (by (simp only [Int32.lt_iff_toInt_lt, Int32.le_iff_toInt_le, ← Int32.toInt_inj] at *; omega))).symm
    · refine lv_iload_n hx hb dX1_hasThing_12 rfl (lv_at hl 1 rfl) ?_
      refine lv_bipush (v := 8) hx hb dX1_hasThing_13 (by decide) ?_
      refine lv_icmp_ge (tgt := 22) hx hb dX1_hasThing_15 (by decide) (fun c_15 => ?_) (fun c_15 => ?_)
      · refine lv_iconst (v := 0) hx hb dX1_hasThing_22 (by decide) ?_
        refine f_ir X hlk hr (v := 0) rfl hP hS ?_ dX1_hasThing_23
        refine ⟨rfl, ?_⟩; first | exact (bIe (by intro h; (simp only [Int32.lt_iff_toInt_lt, Int32.le_iff_toInt_le, ← Int32.toInt_inj] at *; omega))).symm | exact (bIt (by (simp only [Int32.lt_iff_toInt_lt, Int32.le_iff_toInt_le, ← Int32.toInt_inj] at *; omega))).symm
      · refine lv_iconst (v := 1) hx hb dX1_hasThing_18 (by decide) ?_
        refine lv_goto (tgt := 23) hx hb dX1_hasThing_19 (by decide) ?_
        refine f_ir X hlk hr (v := 1) rfl hP hS ?_ dX1_hasThing_23
        refine ⟨rfl, ?_⟩; first | exact (bIe (by intro h; (simp only [Int32.lt_iff_toInt_lt, Int32.le_iff_toInt_le, ← Int32.toInt_inj] at *; omega))).symm | exact (bIt (by (simp only [Int32.lt_iff_toInt_lt, Int32.le_iff_toInt_le, ← Int32.toInt_inj] at *; omega))).symm

set_option maxHeartbeats 4000000 in
set_option maxRecDepth 100000 in
theorem c_X1_hasWaiter (l : Launch) (E : fE) (M : Nat → Nat → Int32) (L : Nat → Nat → Int64) (g : Nat) (w : Int32) (hk_g : fsh g = 1) : Met l yX1_hasWaiter (wl yX1_hasWaiter cX1_hasWaiter 2 (some .boolean)) (fRm 0 0) (va_Pc [.ref (fad E g), .int w] (fPre E M L)) (fQi E (fun r u => u = (M, L) ∧ r = bI (decide (0 ≤ w ∧ w < (M g 4) ∧ w < 6)))) 0 0 (fA E) := by
  refine f_head (by decide) (Nat.le_of_ble_eq_true rfl) ?_
  intro pg ev s mi below meth cd ls X hr hlk hP hS hl
  have hx := X.1.1
  have hb := X.1.2.1
  have hl : lv_has ls 2 [(0, .ref (fad E g)), (1, .int w)] := hl
  refine lv_iload_n hx hb dX1_hasWaiter_0 rfl (lv_at hl 1 rfl) ?_
  refine lv_if_lt (tgt := 22) hx hb dX1_hasWaiter_1 (by decide) (fun c_1 => ?_) (fun c_1 => ?_)
  · refine lv_iconst (v := 0) hx hb dX1_hasWaiter_22 (by decide) ?_
    refine f_ir X hlk hr (v := 0) rfl hP hS ?_ dX1_hasWaiter_23
    refine ⟨rfl, ?_⟩; first | exact (bIe (by intro h; (simp only [Int32.lt_iff_toInt_lt, Int32.le_iff_toInt_le, ← Int32.toInt_inj] at *; omega))).symm | exact (bIt (by (simp only [Int32.lt_iff_toInt_lt, Int32.le_iff_toInt_le, ← Int32.toInt_inj] at *; omega))).symm
  · refine lv_iload_n hx hb dX1_hasWaiter_4 rfl (lv_at hl 1 rfl) ?_
    refine lv_aload_n hx hb dX1_hasWaiter_5 rfl (lv_at hl 0 rfl) ?_
    refine f_get X hP (T := TX1) (ci := 1) (k := g) hk_g inX1 rfl 4 (by decide) m_1_116 rfl (v := .int (M g 4)) rfl dX1_hasWaiter_6 ?_
    refine lv_icmp_ge (tgt := 22) hx hb dX1_hasWaiter_9 (by decide) (fun c_9 => ?_) (fun c_9 => ?_)
    · refine lv_iconst (v := 0) hx hb dX1_hasWaiter_22 (by decide) ?_
      refine f_ir X hlk hr (v := 0) rfl hP hS ?_ dX1_hasWaiter_23
      refine ⟨rfl, ?_⟩; first | exact (bIe (by intro h; (simp only [Int32.lt_iff_toInt_lt, Int32.le_iff_toInt_le, ← Int32.toInt_inj] at *; omega))).symm | exact (bIt (by (simp only [Int32.lt_iff_toInt_lt, Int32.le_iff_toInt_le, ← Int32.toInt_inj] at *; omega))).symm
    · refine lv_iload_n hx hb dX1_hasWaiter_12 rfl (lv_at hl 1 rfl) ?_
      refine lv_bipush (v := 6) hx hb dX1_hasWaiter_13 (by decide) ?_
      refine lv_icmp_ge (tgt := 22) hx hb dX1_hasWaiter_15 (by decide) (fun c_15 => ?_) (fun c_15 => ?_)
      · refine lv_iconst (v := 0) hx hb dX1_hasWaiter_22 (by decide) ?_
        refine f_ir X hlk hr (v := 0) rfl hP hS ?_ dX1_hasWaiter_23
        refine ⟨rfl, ?_⟩; first | exact (bIe (by intro h; (simp only [Int32.lt_iff_toInt_lt, Int32.le_iff_toInt_le, ← Int32.toInt_inj] at *; omega))).symm | exact (bIt (by (simp only [Int32.lt_iff_toInt_lt, Int32.le_iff_toInt_le, ← Int32.toInt_inj] at *; omega))).symm
      · refine lv_iconst (v := 1) hx hb dX1_hasWaiter_18 (by decide) ?_
        refine lv_goto (tgt := 23) hx hb dX1_hasWaiter_19 (by decide) ?_
        refine f_ir X hlk hr (v := 1) rfl hP hS ?_ dX1_hasWaiter_23
        refine ⟨rfl, ?_⟩; first | exact (bIe (by intro h; (simp only [Int32.lt_iff_toInt_lt, Int32.le_iff_toInt_le, ← Int32.toInt_inj] at *; omega))).symm | exact (bIt (by (simp only [Int32.lt_iff_toInt_lt, Int32.le_iff_toInt_le, ← Int32.toInt_inj] at *; omega))).symm

set_option maxHeartbeats 4000000 in
set_option maxRecDepth 100000 in
theorem c_X1_hasRoomForThing (l : Launch) (E : fE) (M : Nat → Nat → Int32) (L : Nat → Nat → Int64) (g : Nat) (hk_g : fsh g = 1) : Met l yX1_hasRoomForThing (wl yX1_hasRoomForThing cX1_hasRoomForThing 1 (some .boolean)) (fRm 0 0) (va_Pc [.ref (fad E g)] (fPre E M L)) (fQi E (fun r u => u = (M, L) ∧ r = bI (decide ((M g 3) < 8)))) 0 0 (fA E) := by
  refine f_head (by decide) (Nat.le_of_ble_eq_true rfl) ?_
  intro pg ev s mi below meth cd ls X hr hlk hP hS hl
  have hx := X.1.1
  have hb := X.1.2.1
  have hl : lv_has ls 1 [(0, .ref (fad E g))] := hl
  refine lv_aload_n hx hb dX1_hasRoomForThing_0 rfl (lv_at hl 0 rfl) ?_
  refine f_get X hP (T := TX1) (ci := 1) (k := g) hk_g inX1 rfl 3 (by decide) m_1_114 rfl (v := .int (M g 3)) rfl dX1_hasRoomForThing_1 ?_
  refine lv_bipush (v := 8) hx hb dX1_hasRoomForThing_4 (by decide) ?_
  refine lv_icmp_ge (tgt := 13) hx hb dX1_hasRoomForThing_6 (by decide) (fun c_6 => ?_) (fun c_6 => ?_)
  · refine lv_iconst (v := 0) hx hb dX1_hasRoomForThing_13 (by decide) ?_
    refine f_ir X hlk hr (v := 0) rfl hP hS ?_ dX1_hasRoomForThing_14
    refine ⟨rfl, ?_⟩; first | exact (bIe (by intro h; (simp only [Int32.lt_iff_toInt_lt, Int32.le_iff_toInt_le, ← Int32.toInt_inj] at *; omega))).symm | exact (bIt (by (simp only [Int32.lt_iff_toInt_lt, Int32.le_iff_toInt_le, ← Int32.toInt_inj] at *; omega))).symm
  · refine lv_iconst (v := 1) hx hb dX1_hasRoomForThing_9 (by decide) ?_
    refine lv_goto (tgt := 14) hx hb dX1_hasRoomForThing_10 (by decide) ?_
    refine f_ir X hlk hr (v := 1) rfl hP hS ?_ dX1_hasRoomForThing_14
    refine ⟨rfl, ?_⟩; first | exact (bIe (by intro h; (simp only [Int32.lt_iff_toInt_lt, Int32.le_iff_toInt_le, ← Int32.toInt_inj] at *; omega))).symm | exact (bIt (by (simp only [Int32.lt_iff_toInt_lt, Int32.le_iff_toInt_le, ← Int32.toInt_inj] at *; omega))).symm

set_option maxHeartbeats 4000000 in
set_option maxRecDepth 100000 in
theorem c_X1_hasRoomForWaiter (l : Launch) (E : fE) (M : Nat → Nat → Int32) (L : Nat → Nat → Int64) (g : Nat) (hk_g : fsh g = 1) : Met l yX1_hasRoomForWaiter (wl yX1_hasRoomForWaiter cX1_hasRoomForWaiter 1 (some .boolean)) (fRm 0 0) (va_Pc [.ref (fad E g)] (fPre E M L)) (fQi E (fun r u => u = (M, L) ∧ r = bI (decide ((M g 4) < 6)))) 0 0 (fA E) := by
  refine f_head (by decide) (Nat.le_of_ble_eq_true rfl) ?_
  intro pg ev s mi below meth cd ls X hr hlk hP hS hl
  have hx := X.1.1
  have hb := X.1.2.1
  have hl : lv_has ls 1 [(0, .ref (fad E g))] := hl
  refine lv_aload_n hx hb dX1_hasRoomForWaiter_0 rfl (lv_at hl 0 rfl) ?_
  refine f_get X hP (T := TX1) (ci := 1) (k := g) hk_g inX1 rfl 4 (by decide) m_1_116 rfl (v := .int (M g 4)) rfl dX1_hasRoomForWaiter_1 ?_
  refine lv_bipush (v := 6) hx hb dX1_hasRoomForWaiter_4 (by decide) ?_
  refine lv_icmp_ge (tgt := 13) hx hb dX1_hasRoomForWaiter_6 (by decide) (fun c_6 => ?_) (fun c_6 => ?_)
  · refine lv_iconst (v := 0) hx hb dX1_hasRoomForWaiter_13 (by decide) ?_
    refine f_ir X hlk hr (v := 0) rfl hP hS ?_ dX1_hasRoomForWaiter_14
    refine ⟨rfl, ?_⟩; first | exact (bIe (by intro h; (simp only [Int32.lt_iff_toInt_lt, Int32.le_iff_toInt_le, ← Int32.toInt_inj] at *; omega))).symm | exact (bIt (by (simp only [Int32.lt_iff_toInt_lt, Int32.le_iff_toInt_le, ← Int32.toInt_inj] at *; omega))).symm
  · refine lv_iconst (v := 1) hx hb dX1_hasRoomForWaiter_9 (by decide) ?_
    refine lv_goto (tgt := 14) hx hb dX1_hasRoomForWaiter_10 (by decide) ?_
    refine f_ir X hlk hr (v := 1) rfl hP hS ?_ dX1_hasRoomForWaiter_14
    refine ⟨rfl, ?_⟩; first | exact (bIe (by intro h; (simp only [Int32.lt_iff_toInt_lt, Int32.le_iff_toInt_le, ← Int32.toInt_inj] at *; omega))).symm | exact (bIt (by (simp only [Int32.lt_iff_toInt_lt, Int32.le_iff_toInt_le, ← Int32.toInt_inj] at *; omega))).symm

set_option maxHeartbeats 4000000 in
set_option maxRecDepth 100000 in
theorem c_X1_addThing (l : Launch) (E : fE) (M : Nat → Nat → Int32) (L : Nat → Nat → Int64) (g : Nat) (c1 : Int32) (f : Int32) (l1 : Int32) (n : Int32) (w : Int32) (s1 : Int32) (a : Int32) (tc : Nat) (hk_g : fsh g = 1) (htc : M g 3 = nI tc) (htc8 : tc ≤ 8) : Met l yX1_addThing (wl yX1_addThing cX1_addThing 9 (some .int)) (fRm 1 20) (va_Pc [.ref (fad E g), .int c1, .int f, .int l1, .int n, .int w, .int s1, .int a] (fPre E M L)) (fQi E (fun r u => u = ((if tc < 8 then addT M g tc c1 f l1 n w s1 a else M), L) ∧ r = (if tc < 8 then nI tc else -1))) 0 0 (fA E) := by
  refine f_head (by decide) (Nat.le_of_ble_eq_true rfl) ?_
  intro pg ev s mi below meth cd ls X hr hlk hP hS hl
  have hx := X.1.1
  have hb := X.1.2.1
  have hl : lv_has ls 9 [(0, .ref (fad E g)), (1, .int c1), (2, .int f), (3, .int l1), (4, .int n), (5, .int w), (6, .int s1), (7, .int a)] := hl
  refine lv_aload_n hx hb dX1_addThing_0 rfl (lv_at hl 0 rfl) ?_
  refine f_iV (n := 0) X hP hS [] [] (c_X1_hasRoomForThing l E M L g hk_g) m_2_132 wi_X1_hasRoomForThing hk_g rfl (by decide) (by decide +kernel) ⟨Nat.le_of_ble_eq_true rfl, Nat.le_of_ble_eq_true rfl⟩ rfl hl rfl (Nat.le_of_ble_eq_true rfl) ⟨Nat.zero_le _, Nat.zero_le _⟩ dX1_addThing_1 (fun H locs hP hS => ?_)
  refine lv_if_ne (tgt := 9) hx hb dX1_addThing_4 (by decide) (fun c_4 => ?_) (fun c_4 => ?_)
  · have c_4 := bI1 c_4
    have c_4 : tc < 8 := by rw [htc] at c_4; exact (nI_lt_iff (by omega) (by omega)).mp c_4
    refine lv_aload_n hx hb dX1_addThing_9 rfl (lv_at hl 0 rfl) ?_
    refine f_get X hP (T := TX1) (ci := 1) (k := g) hk_g inX1 rfl 0 (by decide) m_1_107 rfl (v := .ref (fad E (g + 1))) rfl dX1_addThing_10 ?_
    refine lv_aload_n hx hb dX1_addThing_13 rfl (lv_at hl 0 rfl) ?_
    refine f_get X hP (T := TX1) (ci := 1) (k := g) hk_g inX1 rfl 3 (by decide) m_1_114 rfl (v := .int (nI tc)) (congrArg Value.int htc) dX1_addThing_14 ?_
    refine f_aald X hP (t := 12) (d := 3) (n := 8) (r := tc) (sh_g1 hk_g) (ln_g1 hk_g) (.inr (.inl ⟨rfl, rfl⟩)) (fIx_nI (by omega) (by decide)) (g + 4 + tc) (by omega) dX1_addThing_17 ?_
    refine lv_astore (lv' := [(8, .ref (fad E (g + 4 + tc))), (0, .ref (fad E g)), (1, .int c1), (2, .int f), (3, .int l1), (4, .int n), (5, .int w), (6, .int s1), (7, .int a)]) hx hb dX1_addThing_18 hl (by decide) rfl (fun ls hl => ?_)
    refine lv_aload hx hb dX1_addThing_20 (lv_at hl 0 rfl) ?_
    refine lv_iload_n hx hb dX1_addThing_22 rfl (lv_at hl 2 rfl) ?_
    refine f_put X hP hS (T := TX5) (ci := 5) (k := (g + 4 + tc)) (sh_gt hk_g (by omega)) inX5 rfl tyX5 tyX5_ok nmX5 0 (by decide) m_1_43 ⟨rfl, rfl⟩ rfl (v := c1) rfl rfl dX1_addThing_23 (fun H locs hP hS => ?_)
    refine lv_aload hx hb dX1_addThing_26 (lv_at hl 0 rfl) ?_
    refine lv_iload_n hx hb dX1_addThing_28 rfl (lv_at hl 3 rfl) ?_
    refine f_put X hP hS (T := TX5) (ci := 5) (k := (g + 4 + tc)) (sh_gt hk_g (by omega)) inX5 rfl tyX5 tyX5_ok nmX5 1 (by decide) m_1_45 ⟨rfl, rfl⟩ rfl (v := f) rfl rfl dX1_addThing_29 (fun H locs hP hS => ?_)
    refine lv_aload hx hb dX1_addThing_32 (lv_at hl 0 rfl) ?_
    refine lv_iload_n hx hb dX1_addThing_34 rfl (lv_at hl 4 rfl) ?_
    refine f_put X hP hS (T := TX5) (ci := 5) (k := (g + 4 + tc)) (sh_gt hk_g (by omega)) inX5 rfl tyX5 tyX5_ok nmX5 2 (by decide) m_1_47 ⟨rfl, rfl⟩ rfl (v := l1) rfl rfl dX1_addThing_35 (fun H locs hP hS => ?_)
    refine lv_aload hx hb dX1_addThing_38 (lv_at hl 0 rfl) ?_
    refine lv_iload hx hb dX1_addThing_40 (lv_at hl 5 rfl) ?_
    refine f_put X hP hS (T := TX5) (ci := 5) (k := (g + 4 + tc)) (sh_gt hk_g (by omega)) inX5 rfl tyX5 tyX5_ok nmX5 3 (by decide) m_1_49 ⟨rfl, rfl⟩ rfl (v := n) rfl rfl dX1_addThing_42 (fun H locs hP hS => ?_)
    refine lv_aload hx hb dX1_addThing_45 (lv_at hl 0 rfl) ?_
    refine lv_iload hx hb dX1_addThing_47 (lv_at hl 6 rfl) ?_
    refine f_put X hP hS (T := TX5) (ci := 5) (k := (g + 4 + tc)) (sh_gt hk_g (by omega)) inX5 rfl tyX5 tyX5_ok nmX5 4 (by decide) m_1_51 ⟨rfl, rfl⟩ rfl (v := w) rfl rfl dX1_addThing_49 (fun H locs hP hS => ?_)
    refine lv_aload hx hb dX1_addThing_52 (lv_at hl 0 rfl) ?_
    refine lv_iload hx hb dX1_addThing_54 (lv_at hl 7 rfl) ?_
    refine f_put X hP hS (T := TX5) (ci := 5) (k := (g + 4 + tc)) (sh_gt hk_g (by omega)) inX5 rfl tyX5 tyX5_ok nmX5 5 (by decide) m_1_53 ⟨rfl, rfl⟩ rfl (v := s1) rfl rfl dX1_addThing_56 (fun H locs hP hS => ?_)
    refine lv_aload hx hb dX1_addThing_59 (lv_at hl 0 rfl) ?_
    refine lv_iload hx hb dX1_addThing_61 (lv_at hl 8 rfl) ?_
    refine f_put X hP hS (T := TX5) (ci := 5) (k := (g + 4 + tc)) (sh_gt hk_g (by omega)) inX5 rfl tyX5 tyX5_ok nmX5 6 (by decide) m_1_55 ⟨rfl, rfl⟩ rfl (v := a) rfl rfl dX1_addThing_63 (fun H locs hP hS => ?_)
    refine lv_aload_n hx hb dX1_addThing_66 rfl (lv_at hl 1 rfl) ?_
    refine lv_dup hx hb dX1_addThing_67 rfl ?_
    refine f_get X hP (T := TX1) (ci := 1) (k := g) hk_g inX1 rfl 3 (by decide) m_1_114 rfl (v := .int (nI tc)) (congrArg Value.int (((up2_o _ _ (Or.inr (by decide))).trans ((up2_o _ _ (Or.inr (by decide))).trans ((up2_o _ _ (Or.inr (by decide))).trans ((up2_o _ _ (Or.inl (by omega))).trans ((up2_o _ _ (Or.inr (by decide))).trans ((up2_o _ _ (Or.inr (by decide))).trans (up2_o _ _ (Or.inr (by decide))))))))).trans htc)) dX1_addThing_68 ?_
    refine lv_dup_x1 hx hb dX1_addThing_71 rfl rfl ?_
    refine lv_iconst (v := 1) hx hb dX1_addThing_72 (by decide) ?_
    refine lv_iadd hx hb dX1_addThing_73 ?_
    refine f_topI (nI_add tc 1) ?_
    refine f_put X hP hS (T := TX1) (ci := 1) (k := g) hk_g inX1 rfl tyX1 tyX1_ok nmX1 3 (by decide) m_1_114 ⟨rfl, rfl⟩ rfl (v := (nI (tc + 1))) rfl rfl dX1_addThing_74 (fun H locs hP hS => ?_)
    refine f_ir X hlk hr (v := (nI tc)) rfl hP hS ?_ dX1_addThing_77
    rw [if_pos c_4, if_pos c_4]; exact ⟨rfl, rfl⟩
  · have c_4 := bI0 c_4
    have c_4 : ¬ tc < 8 := fun h => c_4 (by rw [htc]; exact (nI_lt_iff (b := 8) (by omega) (by omega)).mpr h)
    refine lv_iconst (v := (-1)) hx hb dX1_addThing_7 (by decide) ?_
    refine f_ir X hlk hr (v := (-1)) rfl hP hS ?_ dX1_addThing_8
    rw [if_neg c_4, if_neg c_4]; exact ⟨rfl, rfl⟩

set_option maxHeartbeats 4000000 in
set_option maxRecDepth 100000 in
theorem c_X1_addWaiter (l : Launch) (E : fE) (M : Nat → Nat → Int32) (L : Nat → Nat → Int64) (g : Nat) (k : Int32) (a : Int32) (p1 : Int32) (q : Int32) (c1 : Int32) (wc : Nat) (hk_g : fsh g = 1) (hwc : M g 4 = nI wc) (hwc6 : wc ≤ 6) : Met l yX1_addWaiter (wl yX1_addWaiter cX1_addWaiter 7 (some .int)) (fRm 1 20) (va_Pc [.ref (fad E g), .int k, .int a, .int p1, .int q, .int c1] (fPre E M L)) (fQi E (fun r u => u = ((if wc < 6 then addW M g wc k a p1 q c1 else M), L) ∧ r = (if wc < 6 then nI wc else -1))) 0 0 (fA E) := by
  refine f_head (by decide) (Nat.le_of_ble_eq_true rfl) ?_
  intro pg ev s mi below meth cd ls X hr hlk hP hS hl
  have hx := X.1.1
  have hb := X.1.2.1
  have hl : lv_has ls 7 [(0, .ref (fad E g)), (1, .int k), (2, .int a), (3, .int p1), (4, .int q), (5, .int c1)] := hl
  refine lv_aload_n hx hb dX1_addWaiter_0 rfl (lv_at hl 0 rfl) ?_
  refine f_iV (n := 0) X hP hS [] [] (c_X1_hasRoomForWaiter l E M L g hk_g) m_2_145 wi_X1_hasRoomForWaiter hk_g rfl (by decide) (by decide +kernel) ⟨Nat.le_of_ble_eq_true rfl, Nat.le_of_ble_eq_true rfl⟩ rfl hl rfl (Nat.le_of_ble_eq_true rfl) ⟨Nat.zero_le _, Nat.zero_le _⟩ dX1_addWaiter_1 (fun H locs hP hS => ?_)
  refine lv_if_ne (tgt := 9) hx hb dX1_addWaiter_4 (by decide) (fun c_4 => ?_) (fun c_4 => ?_)
  · have c_4 := bI1 c_4
    have c_4 : wc < 6 := by rw [hwc] at c_4; exact (nI_lt_iff (by omega) (by omega)).mp c_4
    refine lv_aload_n hx hb dX1_addWaiter_9 rfl (lv_at hl 0 rfl) ?_
    refine f_get X hP (T := TX1) (ci := 1) (k := g) hk_g inX1 rfl 1 (by decide) m_1_109 rfl (v := .ref (fad E (g + 2))) rfl dX1_addWaiter_10 ?_
    refine lv_aload_n hx hb dX1_addWaiter_13 rfl (lv_at hl 0 rfl) ?_
    refine f_get X hP (T := TX1) (ci := 1) (k := g) hk_g inX1 rfl 4 (by decide) m_1_116 rfl (v := .int (nI wc)) (congrArg Value.int hwc) dX1_addWaiter_14 ?_
    refine f_aald X hP (t := 13) (d := 10) (n := 6) (r := wc) (sh_g2 hk_g) (ln_g2 hk_g) (.inr (.inr (.inl ⟨rfl, rfl⟩))) (fIx_nI (by omega) (by decide)) (g + 12 + wc) (by omega) dX1_addWaiter_17 ?_
    refine lv_astore (lv' := [(6, .ref (fad E (g + 12 + wc))), (0, .ref (fad E g)), (1, .int k), (2, .int a), (3, .int p1), (4, .int q), (5, .int c1)]) hx hb dX1_addWaiter_18 hl (by decide) rfl (fun ls hl => ?_)
    refine lv_aload hx hb dX1_addWaiter_20 (lv_at hl 0 rfl) ?_
    refine lv_iload_n hx hb dX1_addWaiter_22 rfl (lv_at hl 2 rfl) ?_
    refine f_put X hP hS (T := TX6) (ci := 6) (k := (g + 12 + wc)) (sh_gw hk_g (by omega)) inX6 rfl tyX6 tyX6_ok nmX6 1 (by decide) m_1_81 ⟨rfl, rfl⟩ rfl (v := k) rfl rfl dX1_addWaiter_23 (fun H locs hP hS => ?_)
    refine lv_aload hx hb dX1_addWaiter_26 (lv_at hl 0 rfl) ?_
    refine lv_iload_n hx hb dX1_addWaiter_28 rfl (lv_at hl 3 rfl) ?_
    refine f_put X hP hS (T := TX6) (ci := 6) (k := (g + 12 + wc)) (sh_gw hk_g (by omega)) inX6 rfl tyX6 tyX6_ok nmX6 2 (by decide) m_1_85 ⟨rfl, rfl⟩ rfl (v := a) rfl rfl dX1_addWaiter_29 (fun H locs hP hS => ?_)
    refine lv_aload hx hb dX1_addWaiter_32 (lv_at hl 0 rfl) ?_
    refine lv_iload_n hx hb dX1_addWaiter_34 rfl (lv_at hl 4 rfl) ?_
    refine f_put X hP hS (T := TX6) (ci := 6) (k := (g + 12 + wc)) (sh_gw hk_g (by omega)) inX6 rfl tyX6 tyX6_ok nmX6 3 (by decide) m_1_87 ⟨rfl, rfl⟩ rfl (v := p1) rfl rfl dX1_addWaiter_35 (fun H locs hP hS => ?_)
    refine lv_aload hx hb dX1_addWaiter_38 (lv_at hl 0 rfl) ?_
    refine lv_iload hx hb dX1_addWaiter_40 (lv_at hl 5 rfl) ?_
    refine f_put X hP hS (T := TX6) (ci := 6) (k := (g + 12 + wc)) (sh_gw hk_g (by omega)) inX6 rfl tyX6 tyX6_ok nmX6 4 (by decide) m_1_89 ⟨rfl, rfl⟩ rfl (v := q) rfl rfl dX1_addWaiter_42 (fun H locs hP hS => ?_)
    refine lv_aload hx hb dX1_addWaiter_45 (lv_at hl 0 rfl) ?_
    refine lv_iload hx hb dX1_addWaiter_47 (lv_at hl 6 rfl) ?_
    refine f_put X hP hS (T := TX6) (ci := 6) (k := (g + 12 + wc)) (sh_gw hk_g (by omega)) inX6 rfl tyX6 tyX6_ok nmX6 5 (by decide) m_1_92 ⟨rfl, rfl⟩ rfl (v := c1) rfl rfl dX1_addWaiter_49 (fun H locs hP hS => ?_)
    refine lv_aload_n hx hb dX1_addWaiter_52 rfl (lv_at hl 1 rfl) ?_
    refine lv_dup hx hb dX1_addWaiter_53 rfl ?_
    refine f_get X hP (T := TX1) (ci := 1) (k := g) hk_g inX1 rfl 4 (by decide) m_1_116 rfl (v := .int (nI wc)) (congrArg Value.int (((up2_o _ _ (Or.inr (by decide))).trans ((up2_o _ _ (Or.inl (by omega))).trans ((up2_o _ _ (Or.inr (by decide))).trans ((up2_o _ _ (Or.inr (by decide))).trans (up2_o _ _ (Or.inr (by decide))))))).trans hwc)) dX1_addWaiter_54 ?_
    refine lv_dup_x1 hx hb dX1_addWaiter_57 rfl rfl ?_
    refine lv_iconst (v := 1) hx hb dX1_addWaiter_58 (by decide) ?_
    refine lv_iadd hx hb dX1_addWaiter_59 ?_
    refine f_topI (nI_add wc 1) ?_
    refine f_put X hP hS (T := TX1) (ci := 1) (k := g) hk_g inX1 rfl tyX1 tyX1_ok nmX1 4 (by decide) m_1_116 ⟨rfl, rfl⟩ rfl (v := (nI (wc + 1))) rfl rfl dX1_addWaiter_60 (fun H locs hP hS => ?_)
    refine f_ir X hlk hr (v := (nI wc)) rfl hP hS ?_ dX1_addWaiter_63
    rw [if_pos c_4, if_pos c_4]; exact ⟨rfl, rfl⟩
  · have c_4 := bI0 c_4
    have c_4 : ¬ wc < 6 := fun h => c_4 (by rw [hwc]; exact (nI_lt_iff (b := 6) (by omega) (by omega)).mpr h)
    refine lv_iconst (v := (-1)) hx hb dX1_addWaiter_7 (by decide) ?_
    refine f_ir X hlk hr (v := (-1)) rfl hP hS ?_ dX1_addWaiter_8
    rw [if_neg c_4, if_neg c_4]; exact ⟨rfl, rfl⟩

set_option maxHeartbeats 4000000 in
set_option maxRecDepth 100000 in
theorem c_X1_thingsSeen (l : Launch) (E : fE) (M : Nat → Nat → Int32) (L : Nat → Nat → Int64) (g : Nat) (w : Nat) (c1 : Int32) (tc : Nat) (hk_g : fsh g = 1) (hk_w : fsh w = 6) (htc : M g 3 = nI tc) (htc8 : tc ≤ 8) : Met l yX1_thingsSeen (wl yX1_thingsSeen cX1_thingsSeen 5 (some .int)) (fRm 1 21) (va_Pc [.ref (fad E g), .ref (fad E w), .int c1] (fPre E M L)) (fQi E (fun r u => u = (M, L) ∧ r = seenI (fun t => (M (g + 4 + t) 0)) (sightF (M w 1)) c1 tc)) 0 0 (fA E) := by
  refine f_head (by decide) (Nat.le_of_ble_eq_true rfl) ?_
  intro pg ev s mi below meth cd ls X hr hlk hP hS hl
  have hx := X.1.1
  have hb := X.1.2.1
  have hl : lv_has ls 5 [(0, .ref (fad E g)), (1, .ref (fad E w)), (2, .int c1)] := hl
  refine lv_iconst (v := 0) hx hb dX1_thingsSeen_0 (by decide) ?_
  refine lv_istore_n (lv' := [(3, .int 0), (0, .ref (fad E g)), (1, .ref (fad E w)), (2, .int c1)]) hx hb dX1_thingsSeen_1 rfl hl (by decide) rfl (fun ls hl => ?_)
  refine lv_iconst (v := 0) hx hb dX1_thingsSeen_2 (by decide) ?_
  refine lv_istore (lv' := [(4, .int 0), (3, .int 0), (0, .ref (fad E g)), (1, .ref (fad E w)), (2, .int c1)]) hx hb dX1_thingsSeen_3 hl (by decide) rfl (fun ls hl => ?_)
  refine f_loop (α := Nat × Int32) (fun (a : Nat × Int32) H locs ls => match a with | (t, b) => fP E M L H ∧ va_S (fA E) s.heap H locs ∧ lv_has ls 5 [(4, .int (nI t)), (3, .int b), (0, .ref (fad E g)), (1, .ref (fad E w)), (2, .int c1)] ∧ (t ≤ tc) ∧ (b = seenI (fun t => M (g + 4 + t) 0) (sightF (M w 1)) c1 t)) (fun (a : Nat × Int32) => match a with | (t, b) => tc - t) (pc0 := 5) (st := fun _ => []) ?_ (0, 0) _ _ _ ⟨hP, hS, lv_sub hl [0, 1, 2, 3, 4] rfl, (by omega), rfl⟩
  rintro ⟨t, b⟩ H locs ls ⟨hP, hS, hl, ht, hbt⟩ ih_5
  refine lv_iload hx hb dX1_thingsSeen_5 (lv_at hl 0 rfl) ?_
  refine lv_aload_n hx hb dX1_thingsSeen_7 rfl (lv_at hl 2 rfl) ?_
  refine f_get X hP (T := TX1) (ci := 1) (k := g) hk_g inX1 rfl 3 (by decide) m_1_114 rfl (v := .int (nI tc)) (congrArg Value.int htc) dX1_thingsSeen_8 ?_
  refine lv_icmp_ge (tgt := 49) hx hb dX1_thingsSeen_11 (by decide) (fun c_11 => ?_) (fun c_11 => ?_)
  · have c_11 := (nI_le_iff (a := tc) (b := t) (by omega) (by omega)).mp c_11
    refine lv_iload_n hx hb dX1_thingsSeen_49 rfl (lv_at hl 1 rfl) ?_
    refine f_ir X hlk hr (v := b) rfl hP hS ?_ dX1_thingsSeen_50
    refine ⟨rfl, ?_⟩; rw [hbt, show t = tc from by omega]
  · have c_11 := (not_congr (nI_le_iff (a := tc) (b := t) (by omega) (by omega))).mp c_11
    refine lv_aload_n hx hb dX1_thingsSeen_14 rfl (lv_at hl 2 rfl) ?_
    refine f_get X hP (T := TX1) (ci := 1) (k := g) hk_g inX1 rfl 0 (by decide) m_1_107 rfl (v := .ref (fad E (g + 1))) rfl dX1_thingsSeen_15 ?_
    refine lv_iload hx hb dX1_thingsSeen_18 (lv_at hl 0 rfl) ?_
    refine f_aald X hP (t := 12) (d := 3) (n := 8) (r := t) (sh_g1 hk_g) (ln_g1 hk_g) (.inr (.inl ⟨rfl, rfl⟩)) (fIx_nI (by omega) (by decide)) (g + 4 + t) (by omega) dX1_thingsSeen_20 ?_
    refine f_get X hP (T := TX5) (ci := 5) (k := (g + 4 + t)) (sh_gt hk_g (by omega)) inX5 rfl 0 (by decide) m_1_43 rfl (v := .int (M (g + 4 + t) 0)) rfl dX1_thingsSeen_21 ?_
    refine lv_iload_n hx hb dX1_thingsSeen_24 rfl (lv_at hl 4 rfl) ?_
    refine lv_isub hx hb dX1_thingsSeen_25 ?_
    refine va_mabs hx hb (X.1.2.2.1.trans hl.1.symm) X.1.2.2.2.1 (X.ht m_3_173) (X.ht m_3_174) (X.ht m_1_11) (X.ht m_3_175) (Nat.le_of_ble_eq_true rfl) (Nat.le_of_ble_eq_true rfl) (Nat.zero_le _) (Nat.zero_le _) dX1_thingsSeen_26 ?_
    refine lv_aload_n hx hb dX1_thingsSeen_29 rfl (lv_at hl 3 rfl) ?_
    refine f_iV (n := 0) X hP hS [] [.int (if 0 ≤ ((M (g + 4 + t) 0) - c1) then ((M (g + 4 + t) 0) - c1) else 0 - ((M (g + 4 + t) 0) - c1))] (c_X6_sight l E M L w hk_w) m_3_176 wi_X6_sight hk_w rfl (by decide) (by decide +kernel) ⟨Nat.le_of_ble_eq_true rfl, Nat.le_of_ble_eq_true rfl⟩ rfl hl rfl (Nat.le_of_ble_eq_true rfl) ⟨Nat.zero_le _, Nat.zero_le _⟩ dX1_thingsSeen_30 (fun H locs hP hS => ?_)
    refine lv_icmp_gt (tgt := 43) hx hb dX1_thingsSeen_33 (by decide) (fun c_33 => ?_) (fun c_33 => ?_)
    · refine lv_iinc (v := (nI (t + 1))) (lv' := [(4, .int (nI (t + 1))), (3, .int b), (0, .ref (fad E g)), (1, .ref (fad E w)), (2, .int c1)]) hx hb dX1_thingsSeen_43 hl (k := 0) rfl (nI_1 _) (by decide) rfl (fun ls hl => ?_)
      refine lv_goto (tgt := 5) hx hb dX1_thingsSeen_46 (by decide) ?_
      exact ih_5 ((t + 1), b) _ _ _ (by show tc - (t + 1) < tc - t; omega) ⟨hP, hS, lv_sub hl [0, 1, 2, 3, 4] rfl, (by omega), (by rw [hbt]; unfold seenI; rw [itF_s]; first | exact (if_pos (Int32.not_lt.mp c_33)).symm | exact (if_neg (Int32.not_le.mpr c_33)).symm)⟩
    · refine lv_iload_n hx hb dX1_thingsSeen_36 rfl (lv_at hl 1 rfl) ?_
      refine lv_iconst (v := 1) hx hb dX1_thingsSeen_37 (by decide) ?_
      refine lv_iload hx hb dX1_thingsSeen_38 (lv_at hl 0 rfl) ?_
      refine lv_ishl hx hb dX1_thingsSeen_40 ?_
      refine lv_ior hx hb dX1_thingsSeen_41 ?_
      refine lv_istore_n (lv' := [(3, .int (b ||| (1 <<< ((nI t) &&& 31)))), (4, .int (nI t)), (0, .ref (fad E g)), (1, .ref (fad E w)), (2, .int c1)]) hx hb dX1_thingsSeen_42 rfl hl (by decide) rfl (fun ls hl => ?_)
      refine lv_iinc (v := (nI (t + 1))) (lv' := [(4, .int (nI (t + 1))), (3, .int (b ||| (1 <<< ((nI t) &&& 31)))), (0, .ref (fad E g)), (1, .ref (fad E w)), (2, .int c1)]) hx hb dX1_thingsSeen_43 hl (k := 1) rfl (nI_1 _) (by decide) rfl (fun ls hl => ?_)
      refine lv_goto (tgt := 5) hx hb dX1_thingsSeen_46 (by decide) ?_
      exact ih_5 ((t + 1), (b ||| (1 <<< ((nI t) &&& 31)))) _ _ _ (by show tc - (t + 1) < tc - t; omega) ⟨hP, hS, lv_sub hl [0, 1, 2, 3, 4] rfl, (by omega), (by rw [hbt]; unfold seenI; rw [itF_s]; first | exact (if_pos (Int32.not_lt.mp c_33)).symm | exact (if_neg (Int32.not_le.mpr c_33)).symm)⟩

set_option maxHeartbeats 4000000 in
set_option maxRecDepth 100000 in
theorem c_X1_cornersWithSight (l : Launch) (E : fE) (M : Nat → Nat → Int32) (L : Nat → Nat → Int64) (g : Nat) (w : Nat) (tc : Nat) (hk_g : fsh g = 1) (hk_w : fsh w = 6) (htc : M g 3 = nI tc) (htc8 : tc ≤ 8) : Met l yX1_cornersWithSight (wl yX1_cornersWithSight cX1_cornersWithSight 4 (some .int)) (fRm 2 45) (va_Pc [.ref (fad E g), .ref (fad E w)] (fPre E M L)) (fQi E (fun r u => u = (M, L) ∧ r = lookI (fun c => seenI (fun t => (M (g + 4 + t) 0)) (sightF (M w 1)) (nI c) tc) 10)) 0 0 (fA E) := by
  refine f_head (by decide) (Nat.le_of_ble_eq_true rfl) ?_
  intro pg ev s mi below meth cd ls X hr hlk hP hS hl
  have hx := X.1.1
  have hb := X.1.2.1
  have hl : lv_has ls 4 [(0, .ref (fad E g)), (1, .ref (fad E w))] := hl
  refine lv_iconst (v := 0) hx hb dX1_cornersWithSight_0 (by decide) ?_
  refine lv_istore_n (lv' := [(2, .int 0), (0, .ref (fad E g)), (1, .ref (fad E w))]) hx hb dX1_cornersWithSight_1 rfl hl (by decide) rfl (fun ls hl => ?_)
  refine lv_iconst (v := 0) hx hb dX1_cornersWithSight_2 (by decide) ?_
  refine lv_istore_n (lv' := [(3, .int 0), (2, .int 0), (0, .ref (fad E g)), (1, .ref (fad E w))]) hx hb dX1_cornersWithSight_3 rfl hl (by decide) rfl (fun ls hl => ?_)
  refine f_loop (α := Nat × Int32) (fun (a : Nat × Int32) H locs ls => match a with | (c9, b) => fP E M L H ∧ va_S (fA E) s.heap H locs ∧ lv_has ls 4 [(3, .int (nI c9)), (2, .int b), (0, .ref (fad E g)), (1, .ref (fad E w))] ∧ (c9 ≤ 10) ∧ (b = lookI (fun c => seenI (fun t => M (g + 4 + t) 0) (sightF (M w 1)) (nI c) tc) c9)) (fun (a : Nat × Int32) => match a with | (c9, b) => 10 - c9) (pc0 := 4) (st := fun _ => []) ?_ (0, 0) _ _ _ ⟨hP, hS, lv_sub hl [0, 1, 2, 3] rfl, (by omega), rfl⟩
  rintro ⟨c9, b⟩ H locs ls ⟨hP, hS, hl, ht, hbt⟩ ih_4
  refine lv_iload_n hx hb dX1_cornersWithSight_4 rfl (lv_at hl 0 rfl) ?_
  refine lv_bipush (v := 9) hx hb dX1_cornersWithSight_5 (by decide) ?_
  refine lv_icmp_gt (tgt := 31) hx hb dX1_cornersWithSight_7 (by decide) (fun c_7 => ?_) (fun c_7 => ?_)
  · have c_7 := (nI_lt_iff (a := 9) (b := c9) (by omega) (by omega)).mp c_7
    refine lv_iload_n hx hb dX1_cornersWithSight_31 rfl (lv_at hl 1 rfl) ?_
    refine f_ir X hlk hr (v := b) rfl hP hS ?_ dX1_cornersWithSight_32
    refine ⟨rfl, ?_⟩; rw [hbt, show c9 = 10 from by omega]
  · have c_7 := (not_congr (nI_lt_iff (a := 9) (b := c9) (by omega) (by omega))).mp c_7
    refine lv_aload_n hx hb dX1_cornersWithSight_10 rfl (lv_at hl 2 rfl) ?_
    refine lv_aload_n hx hb dX1_cornersWithSight_11 rfl (lv_at hl 3 rfl) ?_
    refine lv_iload_n hx hb dX1_cornersWithSight_12 rfl (lv_at hl 0 rfl) ?_
    refine f_iV (n := 2) X hP hS [.ref (fad E w), .int (nI c9)] [] (c_X1_thingsSeen l E M L g w (nI c9) tc hk_g hk_w htc htc8) m_3_169 wi_X1_thingsSeen hk_g rfl (by decide) (by decide +kernel) ⟨Nat.le_of_ble_eq_true rfl, Nat.le_of_ble_eq_true rfl⟩ rfl hl rfl (Nat.le_of_ble_eq_true rfl) ⟨Nat.zero_le _, Nat.zero_le _⟩ dX1_cornersWithSight_13 (fun H locs hP hS => ?_)
    refine lv_if_eq (tgt := 25) hx hb dX1_cornersWithSight_16 (by decide) (fun c_16 => ?_) (fun c_16 => ?_)
    · refine lv_iinc (v := (nI (c9 + 1))) (lv' := [(3, .int (nI (c9 + 1))), (2, .int b), (0, .ref (fad E g)), (1, .ref (fad E w))]) hx hb dX1_cornersWithSight_25 hl (k := 0) rfl (nI_1 _) (by decide) rfl (fun ls hl => ?_)
      refine lv_goto (tgt := 4) hx hb dX1_cornersWithSight_28 (by decide) ?_
      exact ih_4 ((c9 + 1), b) _ _ _ (by show 10 - (c9 + 1) < 10 - c9; omega) ⟨hP, hS, lv_sub hl [0, 1, 2, 3] rfl, (by omega), (by rw [hbt]; unfold lookI; rw [itF_s]; first | exact (if_pos c_16).symm | exact (if_neg c_16).symm)⟩
    · refine lv_iload_n hx hb dX1_cornersWithSight_19 rfl (lv_at hl 1 rfl) ?_
      refine lv_iconst (v := 1) hx hb dX1_cornersWithSight_20 (by decide) ?_
      refine lv_iload_n hx hb dX1_cornersWithSight_21 rfl (lv_at hl 0 rfl) ?_
      refine lv_ishl hx hb dX1_cornersWithSight_22 ?_
      refine lv_ior hx hb dX1_cornersWithSight_23 ?_
      refine lv_istore_n (lv' := [(2, .int (b ||| (1 <<< ((nI c9) &&& 31)))), (3, .int (nI c9)), (0, .ref (fad E g)), (1, .ref (fad E w))]) hx hb dX1_cornersWithSight_24 rfl hl (by decide) rfl (fun ls hl => ?_)
      refine lv_iinc (v := (nI (c9 + 1))) (lv' := [(3, .int (nI (c9 + 1))), (2, .int (b ||| (1 <<< ((nI c9) &&& 31)))), (0, .ref (fad E g)), (1, .ref (fad E w))]) hx hb dX1_cornersWithSight_25 hl (k := 1) rfl (nI_1 _) (by decide) rfl (fun ls hl => ?_)
      refine lv_goto (tgt := 4) hx hb dX1_cornersWithSight_28 (by decide) ?_
      exact ih_4 ((c9 + 1), (b ||| (1 <<< ((nI c9) &&& 31)))) _ _ _ (by show 10 - (c9 + 1) < 10 - c9; omega) ⟨hP, hS, lv_sub hl [0, 1, 2, 3] rfl, (by omega), (by rw [hbt]; unfold lookI; rw [itF_s]; first | exact (if_pos c_16).symm | exact (if_neg c_16).symm)⟩

set_option maxHeartbeats 4000000 in
set_option maxRecDepth 100000 in
theorem c_X1_worthOf (l : Launch) (E : fE) (M : Nat → Nat → Int32) (L : Nat → Nat → Int64) (g : Nat) (bits : Int32) (tc : Nat) (hk_g : fsh g = 1) (htc : M g 3 = nI tc) (htc8 : tc ≤ 8) : Met l yX1_worthOf (wl yX1_worthOf cX1_worthOf 4 (some .int)) (fRm 0 0) (va_Pc [.ref (fad E g), .int bits] (fPre E M L)) (fQi E (fun r u => u = (M, L) ∧ r = worthI (fun t => (M (g + 4 + t) 4)) bits tc)) 0 0 (fA E) := by
  refine f_head (by decide) (Nat.le_of_ble_eq_true rfl) ?_
  intro pg ev s mi below meth cd ls X hr hlk hP hS hl
  have hx := X.1.1
  have hb := X.1.2.1
  have hl : lv_has ls 4 [(0, .ref (fad E g)), (1, .int bits)] := hl
  refine lv_iconst (v := 0) hx hb dX1_worthOf_0 (by decide) ?_
  refine lv_istore_n (lv' := [(2, .int 0), (0, .ref (fad E g)), (1, .int bits)]) hx hb dX1_worthOf_1 rfl hl (by decide) rfl (fun ls hl => ?_)
  refine lv_iconst (v := 0) hx hb dX1_worthOf_2 (by decide) ?_
  refine lv_istore_n (lv' := [(3, .int 0), (2, .int 0), (0, .ref (fad E g)), (1, .int bits)]) hx hb dX1_worthOf_3 rfl hl (by decide) rfl (fun ls hl => ?_)
  refine f_loop (α := Nat × Int32) (fun (a : Nat × Int32) H locs ls => match a with | (t, b) => fP E M L H ∧ va_S (fA E) s.heap H locs ∧ lv_has ls 4 [(3, .int (nI t)), (2, .int b), (0, .ref (fad E g)), (1, .int bits)] ∧ (t ≤ tc) ∧ (b = worthI (fun t => M (g + 4 + t) 4) bits t)) (fun (a : Nat × Int32) => match a with | (t, b) => tc - t) (pc0 := 4) (st := fun _ => []) ?_ (0, 0) _ _ _ ⟨hP, hS, lv_sub hl [0, 1, 2, 3] rfl, (by omega), rfl⟩
  rintro ⟨t, b⟩ H locs ls ⟨hP, hS, hl, ht, hbt⟩ ih_4
  refine lv_iload_n hx hb dX1_worthOf_4 rfl (lv_at hl 0 rfl) ?_
  refine lv_aload_n hx hb dX1_worthOf_5 rfl (lv_at hl 2 rfl) ?_
  refine f_get X hP (T := TX1) (ci := 1) (k := g) hk_g inX1 rfl 3 (by decide) m_1_114 rfl (v := .int (nI tc)) (congrArg Value.int htc) dX1_worthOf_6 ?_
  refine lv_icmp_ge (tgt := 38) hx hb dX1_worthOf_9 (by decide) (fun c_9 => ?_) (fun c_9 => ?_)
  · have c_9 := (nI_le_iff (a := tc) (b := t) (by omega) (by omega)).mp c_9
    refine lv_iload_n hx hb dX1_worthOf_38 rfl (lv_at hl 1 rfl) ?_
    refine f_ir X hlk hr (v := b) rfl hP hS ?_ dX1_worthOf_39
    refine ⟨rfl, ?_⟩; rw [hbt, show t = tc from by omega]
  · have c_9 := (not_congr (nI_le_iff (a := tc) (b := t) (by omega) (by omega))).mp c_9
    refine lv_iload_n hx hb dX1_worthOf_12 rfl (lv_at hl 3 rfl) ?_
    refine lv_iload_n hx hb dX1_worthOf_13 rfl (lv_at hl 0 rfl) ?_
    refine lv_ishr hx hb dX1_worthOf_14 ?_
    refine lv_iconst (v := 1) hx hb dX1_worthOf_15 (by decide) ?_
    refine lv_iand hx hb dX1_worthOf_16 ?_
    refine lv_if_eq (tgt := 32) hx hb dX1_worthOf_17 (by decide) (fun c_17 => ?_) (fun c_17 => ?_)
    · refine lv_iinc (v := (nI (t + 1))) (lv' := [(3, .int (nI (t + 1))), (2, .int b), (0, .ref (fad E g)), (1, .int bits)]) hx hb dX1_worthOf_32 hl (k := 0) rfl (nI_1 _) (by decide) rfl (fun ls hl => ?_)
      refine lv_goto (tgt := 4) hx hb dX1_worthOf_35 (by decide) ?_
      exact ih_4 ((t + 1), b) _ _ _ (by show tc - (t + 1) < tc - t; omega) ⟨hP, hS, lv_sub hl [0, 1, 2, 3] rfl, (by omega), (by rw [hbt]; unfold worthI; rw [itF_s]; first | exact (if_pos c_17).symm | exact (if_neg c_17).symm)⟩
    · refine lv_iload_n hx hb dX1_worthOf_20 rfl (lv_at hl 1 rfl) ?_
      refine lv_aload_n hx hb dX1_worthOf_21 rfl (lv_at hl 2 rfl) ?_
      refine f_get X hP (T := TX1) (ci := 1) (k := g) hk_g inX1 rfl 0 (by decide) m_1_107 rfl (v := .ref (fad E (g + 1))) rfl dX1_worthOf_22 ?_
      refine lv_iload_n hx hb dX1_worthOf_25 rfl (lv_at hl 0 rfl) ?_
      refine f_aald X hP (t := 12) (d := 3) (n := 8) (r := t) (sh_g1 hk_g) (ln_g1 hk_g) (.inr (.inl ⟨rfl, rfl⟩)) (fIx_nI (by omega) (by decide)) (g + 4 + t) (by omega) dX1_worthOf_26 ?_
      refine f_get X hP (T := TX5) (ci := 5) (k := (g + 4 + t)) (sh_gt hk_g (by omega)) inX5 rfl 4 (by decide) m_1_51 rfl (v := .int (M (g + 4 + t) 4)) rfl dX1_worthOf_27 ?_
      refine lv_iadd hx hb dX1_worthOf_30 ?_
      refine lv_istore_n (lv' := [(2, .int (b + (M (g + 4 + t) 4))), (3, .int (nI t)), (0, .ref (fad E g)), (1, .int bits)]) hx hb dX1_worthOf_31 rfl hl (by decide) rfl (fun ls hl => ?_)
      refine lv_iinc (v := (nI (t + 1))) (lv' := [(3, .int (nI (t + 1))), (2, .int (b + (M (g + 4 + t) 4))), (0, .ref (fad E g)), (1, .int bits)]) hx hb dX1_worthOf_32 hl (k := 1) rfl (nI_1 _) (by decide) rfl (fun ls hl => ?_)
      refine lv_goto (tgt := 4) hx hb dX1_worthOf_35 (by decide) ?_
      exact ih_4 ((t + 1), (b + (M (g + 4 + t) 4))) _ _ _ (by show tc - (t + 1) < tc - t; omega) ⟨hP, hS, lv_sub hl [0, 1, 2, 3] rfl, (by omega), (by rw [hbt]; unfold worthI; rw [itF_s]; first | exact (if_pos c_17).symm | exact (if_neg c_17).symm)⟩

set_option maxHeartbeats 4000000 in
set_option maxRecDepth 100000 in
theorem c_X1_bestStand (l : Launch) (E : fE) (M : Nat → Nat → Int32) (L : Nat → Nat → Int64) (g : Nat) (w : Nat) (tc : Nat) (hk_g : fsh g = 1) (hk_w : fsh w = 6) (htc : M g 3 = nI tc) (htc8 : tc ≤ 8) : Met l yX1_bestStand (wl yX1_bestStand cX1_bestStand 6 (some .int)) (fRm 2 45) (va_Pc [.ref (fad E g), .ref (fad E w)] (fPre E M L)) (fQi E (fun r u => u = (M, L) ∧ r = (bestI (fun c => worthI (fun t => (M (g + 4 + t) 4)) (seenI (fun t => (M (g + 4 + t) 0)) (sightF (M w 1)) (nI c) tc) tc) nI 0 10).2)) 0 0 (fA E) := by
  refine f_head (by decide) (Nat.le_of_ble_eq_true rfl) ?_
  intro pg ev s mi below meth cd ls X hr hlk hP hS hl
  have hx := X.1.1
  have hb := X.1.2.1
  have hl : lv_has ls 6 [(0, .ref (fad E g)), (1, .ref (fad E w))] := hl
  refine lv_iconst (v := 0) hx hb dX1_bestStand_0 (by decide) ?_
  refine lv_istore_n (lv' := [(2, .int 0), (0, .ref (fad E g)), (1, .ref (fad E w))]) hx hb dX1_bestStand_1 rfl hl (by decide) rfl (fun ls hl => ?_)
  refine lv_iconst (v := 0) hx hb dX1_bestStand_2 (by decide) ?_
  refine lv_istore_n (lv' := [(3, .int 0), (2, .int 0), (0, .ref (fad E g)), (1, .ref (fad E w))]) hx hb dX1_bestStand_3 rfl hl (by decide) rfl (fun ls hl => ?_)
  refine lv_iconst (v := 0) hx hb dX1_bestStand_4 (by decide) ?_
  refine lv_istore (lv' := [(4, .int 0), (3, .int 0), (2, .int 0), (0, .ref (fad E g)), (1, .ref (fad E w))]) hx hb dX1_bestStand_5 hl (by decide) rfl (fun ls hl => ?_)
  refine f_loop (α := Nat × Int32 × Int32) (fun (a : Nat × Int32 × Int32) H locs ls => match a with | (c9, st, mo) => fP E M L H ∧ va_S (fA E) s.heap H locs ∧ lv_has ls 6 [(4, .int (nI c9)), (3, .int mo), (2, .int st), (0, .ref (fad E g)), (1, .ref (fad E w))] ∧ (c9 ≤ 10) ∧ ((mo, st) = bestI (fun c => worthI (fun t => M (g + 4 + t) 4) (seenI (fun t => M (g + 4 + t) 0) (sightF (M w 1)) (nI c) tc) tc) nI 0 c9)) (fun (a : Nat × Int32 × Int32) => match a with | (c9, st, mo) => 10 - c9) (pc0 := 7) (st := fun _ => []) ?_ (0, 0, 0) _ _ _ ⟨hP, hS, lv_sub hl [0, 1, 2, 3, 4] rfl, (by omega), rfl⟩
  rintro ⟨c9, st, mo⟩ H locs ls ⟨hP, hS, hl, ht, hbt⟩ ih_7
  refine lv_iload hx hb dX1_bestStand_7 (lv_at hl 0 rfl) ?_
  refine lv_bipush (v := 9) hx hb dX1_bestStand_9 (by decide) ?_
  refine lv_icmp_gt (tgt := 45) hx hb dX1_bestStand_11 (by decide) (fun c_11 => ?_) (fun c_11 => ?_)
  · have c_11 := (nI_lt_iff (a := 9) (b := c9) (by omega) (by omega)).mp c_11
    refine lv_iload_n hx hb dX1_bestStand_45 rfl (lv_at hl 2 rfl) ?_
    refine f_ir X hlk hr (v := st) rfl hP hS ?_ dX1_bestStand_46
    refine ⟨rfl, ?_⟩; rw [show c9 = 10 from by omega] at hbt; rw [← hbt]
  · have c_11 := (not_congr (nI_lt_iff (a := 9) (b := c9) (by omega) (by omega))).mp c_11
    refine lv_aload_n hx hb dX1_bestStand_14 rfl (lv_at hl 3 rfl) ?_
    refine lv_aload_n hx hb dX1_bestStand_15 rfl (lv_at hl 3 rfl) ?_
    refine lv_aload_n hx hb dX1_bestStand_16 rfl (lv_at hl 4 rfl) ?_
    refine lv_iload hx hb dX1_bestStand_17 (lv_at hl 0 rfl) ?_
    refine f_iV (n := 2) X hP hS [.ref (fad E w), .int (nI c9)] [.ref (fad E g)] (c_X1_thingsSeen l E M L g w (nI c9) tc hk_g hk_w htc htc8) m_3_169 wi_X1_thingsSeen hk_g rfl (by decide) (by decide +kernel) ⟨Nat.le_of_ble_eq_true rfl, Nat.le_of_ble_eq_true rfl⟩ rfl hl rfl (Nat.le_of_ble_eq_true rfl) ⟨Nat.zero_le _, Nat.zero_le _⟩ dX1_bestStand_19 (fun H locs hP hS => ?_)
    refine f_iV (n := 1) X hP hS [.int (seenI (fun t => (M (g + 4 + t) 0)) (sightF (M w 1)) (nI c9) tc)] [] (c_X1_worthOf l E M L g (seenI (fun t => (M (g + 4 + t) 0)) (sightF (M w 1)) (nI c9) tc) tc hk_g htc htc8) m_3_236 wi_X1_worthOf hk_g rfl (by decide) (by decide +kernel) ⟨Nat.le_of_ble_eq_true rfl, Nat.le_of_ble_eq_true rfl⟩ rfl hl rfl (Nat.le_of_ble_eq_true rfl) ⟨Nat.zero_le _, Nat.zero_le _⟩ dX1_bestStand_22 (fun H locs hP hS => ?_)
    refine lv_istore (lv' := [(5, .int (worthI (fun t => (M (g + 4 + t) 4)) (seenI (fun t => (M (g + 4 + t) 0)) (sightF (M w 1)) (nI c9) tc) tc)), (4, .int (nI c9)), (3, .int mo), (2, .int st), (0, .ref (fad E g)), (1, .ref (fad E w))]) hx hb dX1_bestStand_25 hl (by decide) rfl (fun ls hl => ?_)
    refine lv_iload hx hb dX1_bestStand_27 (lv_at hl 0 rfl) ?_
    refine lv_iload_n hx hb dX1_bestStand_29 rfl (lv_at hl 2 rfl) ?_
    refine lv_icmp_le (tgt := 39) hx hb dX1_bestStand_30 (by decide) (fun c_30 => ?_) (fun c_30 => ?_)
    · refine lv_iinc (v := (nI (c9 + 1))) (lv' := [(4, .int (nI (c9 + 1))), (5, .int (worthI (fun t => (M (g + 4 + t) 4)) (seenI (fun t => (M (g + 4 + t) 0)) (sightF (M w 1)) (nI c9) tc) tc)), (3, .int mo), (2, .int st), (0, .ref (fad E g)), (1, .ref (fad E w))]) hx hb dX1_bestStand_39 hl (k := 1) rfl (nI_1 _) (by decide) rfl (fun ls hl => ?_)
      refine lv_goto (tgt := 7) hx hb dX1_bestStand_42 (by decide) ?_
      exact ih_7 ((c9 + 1), st, mo) _ _ _ (by show 10 - (c9 + 1) < 10 - c9; omega) ⟨hP, hS, lv_sub hl [0, 2, 3, 4, 5] rfl, (by omega), (by show (_, _) = bestI _ _ _ (_ + 1); unfold bestI; rw [itF_s]; unfold bestI at hbt; rw [← hbt]; first | exact (if_pos c_30).symm | exact (if_neg c_30).symm)⟩
    · refine lv_iload hx hb dX1_bestStand_33 (lv_at hl 0 rfl) ?_
      refine lv_istore_n (lv' := [(3, .int (worthI (fun t => (M (g + 4 + t) 4)) (seenI (fun t => (M (g + 4 + t) 0)) (sightF (M w 1)) (nI c9) tc) tc)), (5, .int (worthI (fun t => (M (g + 4 + t) 4)) (seenI (fun t => (M (g + 4 + t) 0)) (sightF (M w 1)) (nI c9) tc) tc)), (4, .int (nI c9)), (2, .int st), (0, .ref (fad E g)), (1, .ref (fad E w))]) hx hb dX1_bestStand_35 rfl hl (by decide) rfl (fun ls hl => ?_)
      refine lv_iload hx hb dX1_bestStand_36 (lv_at hl 2 rfl) ?_
      refine lv_istore_n (lv' := [(2, .int (nI c9)), (3, .int (worthI (fun t => (M (g + 4 + t) 4)) (seenI (fun t => (M (g + 4 + t) 0)) (sightF (M w 1)) (nI c9) tc) tc)), (5, .int (worthI (fun t => (M (g + 4 + t) 4)) (seenI (fun t => (M (g + 4 + t) 0)) (sightF (M w 1)) (nI c9) tc) tc)), (4, .int (nI c9)), (0, .ref (fad E g)), (1, .ref (fad E w))]) hx hb dX1_bestStand_38 rfl hl (by decide) rfl (fun ls hl => ?_)
      refine lv_iinc (v := (nI (c9 + 1))) (lv' := [(4, .int (nI (c9 + 1))), (2, .int (nI c9)), (3, .int (worthI (fun t => (M (g + 4 + t) 4)) (seenI (fun t => (M (g + 4 + t) 0)) (sightF (M w 1)) (nI c9) tc) tc)), (5, .int (worthI (fun t => (M (g + 4 + t) 4)) (seenI (fun t => (M (g + 4 + t) 0)) (sightF (M w 1)) (nI c9) tc) tc)), (0, .ref (fad E g)), (1, .ref (fad E w))]) hx hb dX1_bestStand_39 hl (k := 3) rfl (nI_1 _) (by decide) rfl (fun ls hl => ?_)
      refine lv_goto (tgt := 7) hx hb dX1_bestStand_42 (by decide) ?_
      exact ih_7 ((c9 + 1), (nI c9), (worthI (fun t => (M (g + 4 + t) 4)) (seenI (fun t => (M (g + 4 + t) 0)) (sightF (M w 1)) (nI c9) tc) tc)) _ _ _ (by show 10 - (c9 + 1) < 10 - c9; omega) ⟨hP, hS, lv_sub hl [0, 2, 1, 4, 5] rfl, (by omega), (by show (_, _) = bestI _ _ _ (_ + 1); unfold bestI; rw [itF_s]; unfold bestI at hbt; rw [← hbt]; first | exact (if_pos c_30).symm | exact (if_neg c_30).symm)⟩

set_option maxHeartbeats 4000000 in
set_option maxRecDepth 100000 in
theorem c_X1_thingsIn (l : Launch) (E : fE) (M : Nat → Nat → Int32) (L : Nat → Nat → Int64) (g : Nat) (q : Int32) (tc : Nat) (hk_g : fsh g = 1) (htc : M g 3 = nI tc) (htc8 : tc ≤ 8) : Met l yX1_thingsIn (wl yX1_thingsIn cX1_thingsIn 4 (some .int)) (fRm 2 43) (va_Pc [.ref (fad E g), .int q] (fPre E M L)) (fQi E (fun r u => u = (M, L) ∧ r = inI (fun t => (M (g + 4 + t) 1)) (fun t => (M (g + 4 + t) 2)) q tc)) 0 0 (fA E) := by
  refine f_head (by decide) (Nat.le_of_ble_eq_true rfl) ?_
  intro pg ev s mi below meth cd ls X hr hlk hP hS hl
  have hx := X.1.1
  have hb := X.1.2.1
  have hl : lv_has ls 4 [(0, .ref (fad E g)), (1, .int q)] := hl
  refine lv_iconst (v := 0) hx hb dX1_thingsIn_0 (by decide) ?_
  refine lv_istore_n (lv' := [(2, .int 0), (0, .ref (fad E g)), (1, .int q)]) hx hb dX1_thingsIn_1 rfl hl (by decide) rfl (fun ls hl => ?_)
  refine lv_iconst (v := 0) hx hb dX1_thingsIn_2 (by decide) ?_
  refine lv_istore_n (lv' := [(3, .int 0), (2, .int 0), (0, .ref (fad E g)), (1, .int q)]) hx hb dX1_thingsIn_3 rfl hl (by decide) rfl (fun ls hl => ?_)
  refine f_loop (α := Nat × Int32) (fun (a : Nat × Int32) H locs ls => match a with | (t, b) => fP E M L H ∧ va_S (fA E) s.heap H locs ∧ lv_has ls 4 [(3, .int (nI t)), (2, .int b), (0, .ref (fad E g)), (1, .int q)] ∧ (t ≤ tc) ∧ (b = inI (fun t => M (g + 4 + t) 1) (fun t => M (g + 4 + t) 2) q t)) (fun (a : Nat × Int32) => match a with | (t, b) => tc - t) (pc0 := 4) (st := fun _ => []) ?_ (0, 0) _ _ _ ⟨hP, hS, lv_sub hl [0, 1, 2, 3] rfl, (by omega), rfl⟩
  rintro ⟨t, b⟩ H locs ls ⟨hP, hS, hl, ht, hbt⟩ ih_4
  refine lv_iload_n hx hb dX1_thingsIn_4 rfl (lv_at hl 0 rfl) ?_
  refine lv_aload_n hx hb dX1_thingsIn_5 rfl (lv_at hl 2 rfl) ?_
  refine f_get X hP (T := TX1) (ci := 1) (k := g) hk_g inX1 rfl 3 (by decide) m_1_114 rfl (v := .int (nI tc)) (congrArg Value.int htc) dX1_thingsIn_6 ?_
  refine lv_icmp_ge (tgt := 37) hx hb dX1_thingsIn_9 (by decide) (fun c_9 => ?_) (fun c_9 => ?_)
  · have c_9 := (nI_le_iff (a := tc) (b := t) (by omega) (by omega)).mp c_9
    refine lv_iload_n hx hb dX1_thingsIn_37 rfl (lv_at hl 1 rfl) ?_
    refine f_ir X hlk hr (v := b) rfl hP hS ?_ dX1_thingsIn_38
    refine ⟨rfl, ?_⟩; rw [hbt, show t = tc from by omega]
  · have c_9 := (not_congr (nI_le_iff (a := tc) (b := t) (by omega) (by omega))).mp c_9
    refine lv_aload_n hx hb dX1_thingsIn_12 rfl (lv_at hl 2 rfl) ?_
    refine f_get X hP (T := TX1) (ci := 1) (k := g) hk_g inX1 rfl 0 (by decide) m_1_107 rfl (v := .ref (fad E (g + 1))) rfl dX1_thingsIn_13 ?_
    refine lv_iload_n hx hb dX1_thingsIn_16 rfl (lv_at hl 0 rfl) ?_
    refine f_aald X hP (t := 12) (d := 3) (n := 8) (r := t) (sh_g1 hk_g) (ln_g1 hk_g) (.inr (.inl ⟨rfl, rfl⟩)) (fIx_nI (by omega) (by decide)) (g + 4 + t) (by omega) dX1_thingsIn_17 ?_
    refine lv_iload_n hx hb dX1_thingsIn_18 rfl (lv_at hl 3 rfl) ?_
    refine f_iV (n := 1) X hP hS [.int q] [] (c_X5_canComeIn l E M L (g + 4 + t) q (sh_gt hk_g (by omega))) m_4_43 wi_X5_canComeIn (sh_gt hk_g (by omega)) rfl (by decide) (by decide +kernel) ⟨Nat.le_of_ble_eq_true rfl, Nat.le_of_ble_eq_true rfl⟩ rfl hl rfl (Nat.le_of_ble_eq_true rfl) ⟨Nat.zero_le _, Nat.zero_le _⟩ dX1_thingsIn_19 (fun H locs hP hS => ?_)
    refine lv_if_eq (tgt := 31) hx hb dX1_thingsIn_22 (by decide) (fun c_22 => ?_) (fun c_22 => ?_)
    · have c_22 := bI0 c_22
      refine lv_iinc (v := (nI (t + 1))) (lv' := [(3, .int (nI (t + 1))), (2, .int b), (0, .ref (fad E g)), (1, .int q)]) hx hb dX1_thingsIn_31 hl (k := 0) rfl (nI_1 _) (by decide) rfl (fun ls hl => ?_)
      refine lv_goto (tgt := 4) hx hb dX1_thingsIn_34 (by decide) ?_
      exact ih_4 ((t + 1), b) _ _ _ (by show tc - (t + 1) < tc - t; omega) ⟨hP, hS, lv_sub hl [0, 1, 2, 3] rfl, (by omega), (by rw [hbt]; unfold inI; rw [itF_s]; first | exact (if_pos c_22).symm | exact (if_neg c_22).symm)⟩
    · have c_22 := bI1 c_22
      refine lv_iload_n hx hb dX1_thingsIn_25 rfl (lv_at hl 1 rfl) ?_
      refine lv_iconst (v := 1) hx hb dX1_thingsIn_26 (by decide) ?_
      refine lv_iload_n hx hb dX1_thingsIn_27 rfl (lv_at hl 0 rfl) ?_
      refine lv_ishl hx hb dX1_thingsIn_28 ?_
      refine lv_ior hx hb dX1_thingsIn_29 ?_
      refine lv_istore_n (lv' := [(2, .int (b ||| (1 <<< ((nI t) &&& 31)))), (3, .int (nI t)), (0, .ref (fad E g)), (1, .int q)]) hx hb dX1_thingsIn_30 rfl hl (by decide) rfl (fun ls hl => ?_)
      refine lv_iinc (v := (nI (t + 1))) (lv' := [(3, .int (nI (t + 1))), (2, .int (b ||| (1 <<< ((nI t) &&& 31)))), (0, .ref (fad E g)), (1, .int q)]) hx hb dX1_thingsIn_31 hl (k := 1) rfl (nI_1 _) (by decide) rfl (fun ls hl => ?_)
      refine lv_goto (tgt := 4) hx hb dX1_thingsIn_34 (by decide) ?_
      exact ih_4 ((t + 1), (b ||| (1 <<< ((nI t) &&& 31)))) _ _ _ (by show tc - (t + 1) < tc - t; omega) ⟨hP, hS, lv_sub hl [0, 1, 2, 3] rfl, (by omega), (by rw [hbt]; unfold inI; rw [itF_s]; first | exact (if_pos c_22).symm | exact (if_neg c_22).symm)⟩

set_option maxHeartbeats 4000000 in
set_option maxRecDepth 100000 in
theorem c_X1_worthMet (l : Launch) (E : fE) (M : Nat → Nat → Int32) (L : Nat → Nat → Int64) (g : Nat) (bits : Int32) (tc : Nat) (hk_g : fsh g = 1) (htc : M g 3 = nI tc) (htc8 : tc ≤ 8) : Met l yX1_worthMet (wl yX1_worthMet cX1_worthMet 4 (some .int)) (fRm 1 21) (va_Pc [.ref (fad E g), .int bits] (fPre E M L)) (fQi E (fun r u => u = (M, L) ∧ r = wmetI (fun t => (M (g + 4 + t) 5)) (fun t => (M (g + 4 + t) 6)) (fun t => (M (g + 4 + t) 4)) bits tc)) 0 0 (fA E) := by
  refine f_head (by decide) (Nat.le_of_ble_eq_true rfl) ?_
  intro pg ev s mi below meth cd ls X hr hlk hP hS hl
  have hx := X.1.1
  have hb := X.1.2.1
  have hl : lv_has ls 4 [(0, .ref (fad E g)), (1, .int bits)] := hl
  refine lv_iconst (v := 0) hx hb dX1_worthMet_0 (by decide) ?_
  refine lv_istore_n (lv' := [(2, .int 0), (0, .ref (fad E g)), (1, .int bits)]) hx hb dX1_worthMet_1 rfl hl (by decide) rfl (fun ls hl => ?_)
  refine lv_iconst (v := 0) hx hb dX1_worthMet_2 (by decide) ?_
  refine lv_istore_n (lv' := [(3, .int 0), (2, .int 0), (0, .ref (fad E g)), (1, .int bits)]) hx hb dX1_worthMet_3 rfl hl (by decide) rfl (fun ls hl => ?_)
  refine f_loop (α := Nat × Int32) (fun (a : Nat × Int32) H locs ls => match a with | (t, b) => fP E M L H ∧ va_S (fA E) s.heap H locs ∧ lv_has ls 4 [(3, .int (nI t)), (2, .int b), (0, .ref (fad E g)), (1, .int bits)] ∧ (t ≤ tc) ∧ (b = wmetI (fun t => M (g + 4 + t) 5) (fun t => M (g + 4 + t) 6) (fun t => M (g + 4 + t) 4) bits t)) (fun (a : Nat × Int32) => match a with | (t, b) => tc - t) (pc0 := 4) (st := fun _ => []) ?_ (0, 0) _ _ _ ⟨hP, hS, lv_sub hl [0, 1, 2, 3] rfl, (by omega), rfl⟩
  rintro ⟨t, b⟩ H locs ls ⟨hP, hS, hl, ht, hbt⟩ ih_4
  refine lv_iload_n hx hb dX1_worthMet_4 rfl (lv_at hl 0 rfl) ?_
  refine lv_aload_n hx hb dX1_worthMet_5 rfl (lv_at hl 2 rfl) ?_
  refine f_get X hP (T := TX1) (ci := 1) (k := g) hk_g inX1 rfl 3 (by decide) m_1_114 rfl (v := .int (nI tc)) (congrArg Value.int htc) dX1_worthMet_6 ?_
  refine lv_icmp_ge (tgt := 55) hx hb dX1_worthMet_9 (by decide) (fun c_9 => ?_) (fun c_9 => ?_)
  · have c_9 := (nI_le_iff (a := tc) (b := t) (by omega) (by omega)).mp c_9
    refine lv_iload_n hx hb dX1_worthMet_55 rfl (lv_at hl 1 rfl) ?_
    refine f_ir X hlk hr (v := b) rfl hP hS ?_ dX1_worthMet_56
    refine ⟨rfl, ?_⟩; rw [hbt, show t = tc from by omega]
  · have c_9 := (not_congr (nI_le_iff (a := tc) (b := t) (by omega) (by omega))).mp c_9
    refine lv_aload_n hx hb dX1_worthMet_12 rfl (lv_at hl 2 rfl) ?_
    refine f_get X hP (T := TX1) (ci := 1) (k := g) hk_g inX1 rfl 0 (by decide) m_1_107 rfl (v := .ref (fad E (g + 1))) rfl dX1_worthMet_13 ?_
    refine lv_iload_n hx hb dX1_worthMet_16 rfl (lv_at hl 0 rfl) ?_
    refine f_aald X hP (t := 12) (d := 3) (n := 8) (r := t) (sh_g1 hk_g) (ln_g1 hk_g) (.inr (.inl ⟨rfl, rfl⟩)) (fIx_nI (by omega) (by decide)) (g + 4 + t) (by omega) dX1_worthMet_17 ?_
    refine lv_iload_n hx hb dX1_worthMet_18 rfl (lv_at hl 3 rfl) ?_
    refine lv_iload_n hx hb dX1_worthMet_19 rfl (lv_at hl 0 rfl) ?_
    refine lv_ishr hx hb dX1_worthMet_20 ?_
    refine lv_iconst (v := 1) hx hb dX1_worthMet_21 (by decide) ?_
    refine lv_iand hx hb dX1_worthMet_22 ?_
    refine lv_if_eq (tgt := 30) hx hb dX1_worthMet_23 (by decide) (fun c_23 => ?_) (fun c_23 => ?_)
    · refine lv_iconst (v := 0) hx hb dX1_worthMet_30 (by decide) ?_
      refine f_iV (n := 1) X hP hS [.int 0] [] (c_X5_isMet l E M L (g + 4 + t) 0 (sh_gt hk_g (by omega))) m_4_29 wi_X5_isMet (sh_gt hk_g (by omega)) rfl (by decide) (by decide +kernel) ⟨Nat.le_of_ble_eq_true rfl, Nat.le_of_ble_eq_true rfl⟩ rfl hl rfl (Nat.le_of_ble_eq_true rfl) ⟨Nat.zero_le _, Nat.zero_le _⟩ dX1_worthMet_31 (fun H locs hP hS => ?_)
      refine lv_if_eq (tgt := 49) hx hb dX1_worthMet_34 (by decide) (fun c_34 => ?_) (fun c_34 => ?_)
      · have c_34 := bI0 c_34
        refine lv_iinc (v := (nI (t + 1))) (lv' := [(3, .int (nI (t + 1))), (2, .int b), (0, .ref (fad E g)), (1, .int bits)]) hx hb dX1_worthMet_49 hl (k := 0) rfl (nI_1 _) (by decide) rfl (fun ls hl => ?_)
        refine lv_goto (tgt := 4) hx hb dX1_worthMet_52 (by decide) ?_
        exact ih_4 ((t + 1), b) _ _ _ (by show tc - (t + 1) < tc - t; omega) ⟨hP, hS, lv_sub hl [0, 1, 2, 3] rfl, (by omega), (by rw [hbt]; unfold wmetI; rw [itF_s]; unfold hasI; simp_all; try (intro h; exact absurd h (Int32.not_le.mpr c_34)))⟩
      · have c_34 := bI1 c_34
        refine lv_iload_n hx hb dX1_worthMet_37 rfl (lv_at hl 1 rfl) ?_
        refine lv_aload_n hx hb dX1_worthMet_38 rfl (lv_at hl 2 rfl) ?_
        refine f_get X hP (T := TX1) (ci := 1) (k := g) hk_g inX1 rfl 0 (by decide) m_1_107 rfl (v := .ref (fad E (g + 1))) rfl dX1_worthMet_39 ?_
        refine lv_iload_n hx hb dX1_worthMet_42 rfl (lv_at hl 0 rfl) ?_
        refine f_aald X hP (t := 12) (d := 3) (n := 8) (r := t) (sh_g1 hk_g) (ln_g1 hk_g) (.inr (.inl ⟨rfl, rfl⟩)) (fIx_nI (by omega) (by decide)) (g + 4 + t) (by omega) dX1_worthMet_43 ?_
        refine f_get X hP (T := TX5) (ci := 5) (k := (g + 4 + t)) (sh_gt hk_g (by omega)) inX5 rfl 4 (by decide) m_1_51 rfl (v := .int (M (g + 4 + t) 4)) rfl dX1_worthMet_44 ?_
        refine lv_iadd hx hb dX1_worthMet_47 ?_
        refine lv_istore_n (lv' := [(2, .int (b + (M (g + 4 + t) 4))), (3, .int (nI t)), (0, .ref (fad E g)), (1, .int bits)]) hx hb dX1_worthMet_48 rfl hl (by decide) rfl (fun ls hl => ?_)
        refine lv_iinc (v := (nI (t + 1))) (lv' := [(3, .int (nI (t + 1))), (2, .int (b + (M (g + 4 + t) 4))), (0, .ref (fad E g)), (1, .int bits)]) hx hb dX1_worthMet_49 hl (k := 1) rfl (nI_1 _) (by decide) rfl (fun ls hl => ?_)
        refine lv_goto (tgt := 4) hx hb dX1_worthMet_52 (by decide) ?_
        exact ih_4 ((t + 1), (b + (M (g + 4 + t) 4))) _ _ _ (by show tc - (t + 1) < tc - t; omega) ⟨hP, hS, lv_sub hl [0, 1, 2, 3] rfl, (by omega), (by rw [hbt]; unfold wmetI; rw [itF_s]; unfold hasI; simp_all; try (intro h; exact absurd h (Int32.not_le.mpr c_34)))⟩
    · refine lv_iconst (v := 1) hx hb dX1_worthMet_26 (by decide) ?_
      refine lv_goto (tgt := 31) hx hb dX1_worthMet_27 (by decide) ?_
      refine f_iV (n := 1) X hP hS [.int 1] [] (c_X5_isMet l E M L (g + 4 + t) 1 (sh_gt hk_g (by omega))) m_4_29 wi_X5_isMet (sh_gt hk_g (by omega)) rfl (by decide) (by decide +kernel) ⟨Nat.le_of_ble_eq_true rfl, Nat.le_of_ble_eq_true rfl⟩ rfl hl rfl (Nat.le_of_ble_eq_true rfl) ⟨Nat.zero_le _, Nat.zero_le _⟩ dX1_worthMet_31 (fun H locs hP hS => ?_)
      refine lv_if_eq (tgt := 49) hx hb dX1_worthMet_34 (by decide) (fun c_34 => ?_) (fun c_34 => ?_)
      · have c_34 := bI0 c_34
        refine lv_iinc (v := (nI (t + 1))) (lv' := [(3, .int (nI (t + 1))), (2, .int b), (0, .ref (fad E g)), (1, .int bits)]) hx hb dX1_worthMet_49 hl (k := 0) rfl (nI_1 _) (by decide) rfl (fun ls hl => ?_)
        refine lv_goto (tgt := 4) hx hb dX1_worthMet_52 (by decide) ?_
        exact ih_4 ((t + 1), b) _ _ _ (by show tc - (t + 1) < tc - t; omega) ⟨hP, hS, lv_sub hl [0, 1, 2, 3] rfl, (by omega), (by rw [hbt]; unfold wmetI; rw [itF_s]; unfold hasI; simp_all; try (intro h; exact absurd h (Int32.not_le.mpr c_34)))⟩
      · have c_34 := bI1 c_34
        refine lv_iload_n hx hb dX1_worthMet_37 rfl (lv_at hl 1 rfl) ?_
        refine lv_aload_n hx hb dX1_worthMet_38 rfl (lv_at hl 2 rfl) ?_
        refine f_get X hP (T := TX1) (ci := 1) (k := g) hk_g inX1 rfl 0 (by decide) m_1_107 rfl (v := .ref (fad E (g + 1))) rfl dX1_worthMet_39 ?_
        refine lv_iload_n hx hb dX1_worthMet_42 rfl (lv_at hl 0 rfl) ?_
        refine f_aald X hP (t := 12) (d := 3) (n := 8) (r := t) (sh_g1 hk_g) (ln_g1 hk_g) (.inr (.inl ⟨rfl, rfl⟩)) (fIx_nI (by omega) (by decide)) (g + 4 + t) (by omega) dX1_worthMet_43 ?_
        refine f_get X hP (T := TX5) (ci := 5) (k := (g + 4 + t)) (sh_gt hk_g (by omega)) inX5 rfl 4 (by decide) m_1_51 rfl (v := .int (M (g + 4 + t) 4)) rfl dX1_worthMet_44 ?_
        refine lv_iadd hx hb dX1_worthMet_47 ?_
        refine lv_istore_n (lv' := [(2, .int (b + (M (g + 4 + t) 4))), (3, .int (nI t)), (0, .ref (fad E g)), (1, .int bits)]) hx hb dX1_worthMet_48 rfl hl (by decide) rfl (fun ls hl => ?_)
        refine lv_iinc (v := (nI (t + 1))) (lv' := [(3, .int (nI (t + 1))), (2, .int (b + (M (g + 4 + t) 4))), (0, .ref (fad E g)), (1, .int bits)]) hx hb dX1_worthMet_49 hl (k := 1) rfl (nI_1 _) (by decide) rfl (fun ls hl => ?_)
        refine lv_goto (tgt := 4) hx hb dX1_worthMet_52 (by decide) ?_
        exact ih_4 ((t + 1), (b + (M (g + 4 + t) 4))) _ _ _ (by show tc - (t + 1) < tc - t; omega) ⟨hP, hS, lv_sub hl [0, 1, 2, 3] rfl, (by omega), (by rw [hbt]; unfold wmetI; rw [itF_s]; unfold hasI; simp_all; try (intro h; exact absurd h (Int32.not_le.mpr c_34)))⟩

set_option maxHeartbeats 4000000 in
set_option maxRecDepth 100000 in
theorem c_X1_worthiestInNeed (l : Launch) (E : fE) (M : Nat → Nat → Int32) (L : Nat → Nat → Int64) (g : Nat) (bes : Int32) (tc : Nat) (hk_g : fsh g = 1) (htc : M g 3 = nI tc) (htc8 : tc ≤ 8) : Met l yX1_worthiestInNeed (wl yX1_worthiestInNeed cX1_worthiestInNeed 6 (some .int)) (fRm 2 41) (va_Pc [.ref (fad E g), .int bes] (fPre E M L)) (fQi E (fun r u => u = (M, L) ∧ r = (needI (fun t => (M (g + 4 + t) 5)) (fun t => (M (g + 4 + t) 6)) (fun t => (M (g + 4 + t) 4)) bes tc).2)) 0 0 (fA E) := by
  refine f_head (by decide) (Nat.le_of_ble_eq_true rfl) ?_
  intro pg ev s mi below meth cd ls X hr hlk hP hS hl
  have hx := X.1.1
  have hb := X.1.2.1
  have hl : lv_has ls 6 [(0, .ref (fad E g)), (1, .int bes)] := hl
  refine lv_iconst (v := (-1)) hx hb dX1_worthiestInNeed_0 (by decide) ?_
  refine lv_istore_n (lv' := [(2, .int (-1)), (0, .ref (fad E g)), (1, .int bes)]) hx hb dX1_worthiestInNeed_1 rfl hl (by decide) rfl (fun ls hl => ?_)
  refine lv_iconst (v := 0) hx hb dX1_worthiestInNeed_2 (by decide) ?_
  refine lv_istore_n (lv' := [(3, .int 0), (2, .int (-1)), (0, .ref (fad E g)), (1, .int bes)]) hx hb dX1_worthiestInNeed_3 rfl hl (by decide) rfl (fun ls hl => ?_)
  refine lv_iconst (v := 0) hx hb dX1_worthiestInNeed_4 (by decide) ?_
  refine lv_istore (lv' := [(4, .int 0), (3, .int 0), (2, .int (-1)), (0, .ref (fad E g)), (1, .int bes)]) hx hb dX1_worthiestInNeed_5 hl (by decide) rfl (fun ls hl => ?_)
  refine f_loop (α := Nat × Int32 × Int32) (fun (a : Nat × Int32 × Int32) H locs ls => match a with | (t, ch, mo) => fP E M L H ∧ va_S (fA E) s.heap H locs ∧ lv_has ls 6 [(4, .int (nI t)), (3, .int mo), (2, .int ch), (0, .ref (fad E g)), (1, .int bes)] ∧ (t ≤ tc) ∧ ((mo, ch) = needI (fun t => M (g + 4 + t) 5) (fun t => M (g + 4 + t) 6) (fun t => M (g + 4 + t) 4) bes t)) (fun (a : Nat × Int32 × Int32) => match a with | (t, ch, mo) => tc - t) (pc0 := 7) (st := fun _ => []) ?_ (0, (-1), 0) _ _ _ ⟨hP, hS, lv_sub hl [0, 1, 2, 3, 4] rfl, (by omega), rfl⟩
  rintro ⟨t, ch, mo⟩ H locs ls ⟨hP, hS, hl, ht, hbt⟩ ih_7
  refine lv_iload hx hb dX1_worthiestInNeed_7 (lv_at hl 0 rfl) ?_
  refine lv_aload_n hx hb dX1_worthiestInNeed_9 rfl (lv_at hl 3 rfl) ?_
  refine f_get X hP (T := TX1) (ci := 1) (k := g) hk_g inX1 rfl 3 (by decide) m_1_114 rfl (v := .int (nI tc)) (congrArg Value.int htc) dX1_worthiestInNeed_10 ?_
  refine lv_icmp_ge (tgt := 84) hx hb dX1_worthiestInNeed_13 (by decide) (fun c_13 => ?_) (fun c_13 => ?_)
  · have c_13 := (nI_le_iff (a := tc) (b := t) (by omega) (by omega)).mp c_13
    refine lv_iload_n hx hb dX1_worthiestInNeed_84 rfl (lv_at hl 2 rfl) ?_
    refine f_ir X hlk hr (v := ch) rfl hP hS ?_ dX1_worthiestInNeed_85
    refine ⟨rfl, ?_⟩; rw [show t = tc from by omega] at hbt; rw [← hbt]
  · have c_13 := (not_congr (nI_le_iff (a := tc) (b := t) (by omega) (by omega))).mp c_13
    refine lv_iload_n hx hb dX1_worthiestInNeed_16 rfl (lv_at hl 4 rfl) ?_
    refine lv_iload hx hb dX1_worthiestInNeed_17 (lv_at hl 0 rfl) ?_
    refine lv_ishr hx hb dX1_worthiestInNeed_19 ?_
    refine lv_iconst (v := 1) hx hb dX1_worthiestInNeed_20 (by decide) ?_
    refine lv_iand hx hb dX1_worthiestInNeed_21 ?_
    refine lv_if_ne (tgt := 42) hx hb dX1_worthiestInNeed_22 (by decide) (fun c_22 => ?_) (fun c_22 => ?_)
    · refine lv_iconst (v := 0) hx hb dX1_worthiestInNeed_42 (by decide) ?_
      refine lv_istore (lv' := [(5, .int 0), (4, .int (nI t)), (3, .int mo), (2, .int ch), (0, .ref (fad E g)), (1, .int bes)]) hx hb dX1_worthiestInNeed_43 hl (by decide) rfl (fun ls hl => ?_)
      refine lv_iload hx hb dX1_worthiestInNeed_45 (lv_at hl 0 rfl) ?_
      refine lv_if_eq (tgt := 78) hx hb dX1_worthiestInNeed_47 (by decide) (fun _ => ?_) (fun c_47 => absurd c_47 (by decide))
      refine lv_iinc (v := (nI (t + 1))) (lv' := [(4, .int (nI (t + 1))), (5, .int 0), (3, .int mo), (2, .int ch), (0, .ref (fad E g)), (1, .int bes)]) hx hb dX1_worthiestInNeed_78 hl (k := 1) rfl (nI_1 _) (by decide) rfl (fun ls hl => ?_)
      refine lv_goto (tgt := 7) hx hb dX1_worthiestInNeed_81 (by decide) ?_
      exact ih_7 ((t + 1), ch, mo) _ _ _ (by show tc - (t + 1) < tc - t; omega) ⟨hP, hS, lv_sub hl [0, 2, 3, 4, 5] rfl, (by omega), (by unfold needI; rw [itF_s]; unfold needI at hbt; rw [← hbt]; unfold hasI; simp_all; try (intro h1 h2; exact absurd h2 (Int32.not_le.mpr (c_35 h1))))⟩
    · refine lv_aload_n hx hb dX1_worthiestInNeed_25 rfl (lv_at hl 3 rfl) ?_
      refine f_get X hP (T := TX1) (ci := 1) (k := g) hk_g inX1 rfl 0 (by decide) m_1_107 rfl (v := .ref (fad E (g + 1))) rfl dX1_worthiestInNeed_26 ?_
      refine lv_iload hx hb dX1_worthiestInNeed_29 (lv_at hl 0 rfl) ?_
      refine f_aald X hP (t := 12) (d := 3) (n := 8) (r := t) (sh_g1 hk_g) (ln_g1 hk_g) (.inr (.inl ⟨rfl, rfl⟩)) (fIx_nI (by omega) (by decide)) (g + 4 + t) (by omega) dX1_worthiestInNeed_31 ?_
      refine f_iV (n := 0) X hP hS [] [] (c_X5_needsRunner l E M L (g + 4 + t) (sh_gt hk_g (by omega))) m_4_20 wi_X5_needsRunner (sh_gt hk_g (by omega)) rfl (by decide) (by decide +kernel) ⟨Nat.le_of_ble_eq_true rfl, Nat.le_of_ble_eq_true rfl⟩ rfl hl rfl (Nat.le_of_ble_eq_true rfl) ⟨Nat.zero_le _, Nat.zero_le _⟩ dX1_worthiestInNeed_32 (fun H locs hP hS => ?_)
      refine lv_if_eq (tgt := 42) hx hb dX1_worthiestInNeed_35 (by decide) (fun c_35 => ?_) (fun c_35 => ?_)
      · have c_35 := bI0 c_35
        refine lv_iconst (v := 0) hx hb dX1_worthiestInNeed_42 (by decide) ?_
        refine lv_istore (lv' := [(5, .int 0), (4, .int (nI t)), (3, .int mo), (2, .int ch), (0, .ref (fad E g)), (1, .int bes)]) hx hb dX1_worthiestInNeed_43 hl (by decide) rfl (fun ls hl => ?_)
        refine lv_iload hx hb dX1_worthiestInNeed_45 (lv_at hl 0 rfl) ?_
        refine lv_if_eq (tgt := 78) hx hb dX1_worthiestInNeed_47 (by decide) (fun _ => ?_) (fun c_47 => absurd c_47 (by decide))
        refine lv_iinc (v := (nI (t + 1))) (lv' := [(4, .int (nI (t + 1))), (5, .int 0), (3, .int mo), (2, .int ch), (0, .ref (fad E g)), (1, .int bes)]) hx hb dX1_worthiestInNeed_78 hl (k := 1) rfl (nI_1 _) (by decide) rfl (fun ls hl => ?_)
        refine lv_goto (tgt := 7) hx hb dX1_worthiestInNeed_81 (by decide) ?_
        exact ih_7 ((t + 1), ch, mo) _ _ _ (by show tc - (t + 1) < tc - t; omega) ⟨hP, hS, lv_sub hl [0, 2, 3, 4, 5] rfl, (by omega), (by unfold needI; rw [itF_s]; unfold needI at hbt; rw [← hbt]; unfold hasI; simp_all; try (intro h1 h2; exact absurd h2 (Int32.not_le.mpr (c_35 h1))))⟩
      · have c_35 := bI1 c_35
        refine lv_iconst (v := 1) hx hb dX1_worthiestInNeed_38 (by decide) ?_
        refine lv_goto (tgt := 43) hx hb dX1_worthiestInNeed_39 (by decide) ?_
        refine lv_istore (lv' := [(5, .int 1), (4, .int (nI t)), (3, .int mo), (2, .int ch), (0, .ref (fad E g)), (1, .int bes)]) hx hb dX1_worthiestInNeed_43 hl (by decide) rfl (fun ls hl => ?_)
        refine lv_iload hx hb dX1_worthiestInNeed_45 (lv_at hl 0 rfl) ?_
        refine lv_if_eq (tgt := 78) hx hb dX1_worthiestInNeed_47 (by decide) (fun c_47 => absurd c_47 (by decide)) (fun _ => ?_)
        refine lv_aload_n hx hb dX1_worthiestInNeed_50 rfl (lv_at hl 4 rfl) ?_
        refine f_get X hP (T := TX1) (ci := 1) (k := g) hk_g inX1 rfl 0 (by decide) m_1_107 rfl (v := .ref (fad E (g + 1))) rfl dX1_worthiestInNeed_51 ?_
        refine lv_iload hx hb dX1_worthiestInNeed_54 (lv_at hl 1 rfl) ?_
        refine f_aald X hP (t := 12) (d := 3) (n := 8) (r := t) (sh_g1 hk_g) (ln_g1 hk_g) (.inr (.inl ⟨rfl, rfl⟩)) (fIx_nI (by omega) (by decide)) (g + 4 + t) (by omega) dX1_worthiestInNeed_56 ?_
        refine f_get X hP (T := TX5) (ci := 5) (k := (g + 4 + t)) (sh_gt hk_g (by omega)) inX5 rfl 4 (by decide) m_1_51 rfl (v := .int (M (g + 4 + t) 4)) rfl dX1_worthiestInNeed_57 ?_
        refine lv_iload_n hx hb dX1_worthiestInNeed_60 rfl (lv_at hl 2 rfl) ?_
        refine lv_icmp_le (tgt := 78) hx hb dX1_worthiestInNeed_61 (by decide) (fun c_61 => ?_) (fun c_61 => ?_)
        · refine lv_iinc (v := (nI (t + 1))) (lv' := [(4, .int (nI (t + 1))), (5, .int 1), (3, .int mo), (2, .int ch), (0, .ref (fad E g)), (1, .int bes)]) hx hb dX1_worthiestInNeed_78 hl (k := 1) rfl (nI_1 _) (by decide) rfl (fun ls hl => ?_)
          refine lv_goto (tgt := 7) hx hb dX1_worthiestInNeed_81 (by decide) ?_
          exact ih_7 ((t + 1), ch, mo) _ _ _ (by show tc - (t + 1) < tc - t; omega) ⟨hP, hS, lv_sub hl [0, 2, 3, 4, 5] rfl, (by omega), (by unfold needI; rw [itF_s]; unfold needI at hbt; rw [← hbt]; unfold hasI; simp_all; try (intro h1 h2; exact absurd h2 (Int32.not_le.mpr (c_35 h1))))⟩
        · refine lv_aload_n hx hb dX1_worthiestInNeed_64 rfl (lv_at hl 4 rfl) ?_
          refine f_get X hP (T := TX1) (ci := 1) (k := g) hk_g inX1 rfl 0 (by decide) m_1_107 rfl (v := .ref (fad E (g + 1))) rfl dX1_worthiestInNeed_65 ?_
          refine lv_iload hx hb dX1_worthiestInNeed_68 (lv_at hl 1 rfl) ?_
          refine f_aald X hP (t := 12) (d := 3) (n := 8) (r := t) (sh_g1 hk_g) (ln_g1 hk_g) (.inr (.inl ⟨rfl, rfl⟩)) (fIx_nI (by omega) (by decide)) (g + 4 + t) (by omega) dX1_worthiestInNeed_70 ?_
          refine f_get X hP (T := TX5) (ci := 5) (k := (g + 4 + t)) (sh_gt hk_g (by omega)) inX5 rfl 4 (by decide) m_1_51 rfl (v := .int (M (g + 4 + t) 4)) rfl dX1_worthiestInNeed_71 ?_
          refine lv_istore_n (lv' := [(3, .int (M (g + 4 + t) 4)), (5, .int 1), (4, .int (nI t)), (2, .int ch), (0, .ref (fad E g)), (1, .int bes)]) hx hb dX1_worthiestInNeed_74 rfl hl (by decide) rfl (fun ls hl => ?_)
          refine lv_iload hx hb dX1_worthiestInNeed_75 (lv_at hl 2 rfl) ?_
          refine lv_istore_n (lv' := [(2, .int (nI t)), (3, .int (M (g + 4 + t) 4)), (5, .int 1), (4, .int (nI t)), (0, .ref (fad E g)), (1, .int bes)]) hx hb dX1_worthiestInNeed_77 rfl hl (by decide) rfl (fun ls hl => ?_)
          refine lv_iinc (v := (nI (t + 1))) (lv' := [(4, .int (nI (t + 1))), (2, .int (nI t)), (3, .int (M (g + 4 + t) 4)), (5, .int 1), (0, .ref (fad E g)), (1, .int bes)]) hx hb dX1_worthiestInNeed_78 hl (k := 3) rfl (nI_1 _) (by decide) rfl (fun ls hl => ?_)
          refine lv_goto (tgt := 7) hx hb dX1_worthiestInNeed_81 (by decide) ?_
          exact ih_7 ((t + 1), (nI t), (M (g + 4 + t) 4)) _ _ _ (by show tc - (t + 1) < tc - t; omega) ⟨hP, hS, lv_sub hl [0, 2, 1, 4, 5] rfl, (by omega), (by unfold needI; rw [itF_s]; unfold needI at hbt; rw [← hbt]; unfold hasI; simp_all; try (intro h1 h2; exact absurd h2 (Int32.not_le.mpr (c_35 h1))))⟩

set_option maxHeartbeats 4000000 in
set_option maxRecDepth 100000 in
theorem c_X1_thingsToRunFor (l : Launch) (E : fE) (M : Nat → Nat → Int32) (L : Nat → Nat → Int64) (g : Nat) (k : Int32) (tc n : Nat) (hk_g : fsh g = 1) (htc : M g 3 = nI tc) (htc8 : tc ≤ 8) (hk : k = nI n) (hn : n ≤ 8) : Met l yX1_thingsToRunFor (wl yX1_thingsToRunFor cX1_thingsToRunFor 5 (some .int)) (fRm 3 66) (va_Pc [.ref (fad E g), .int k] (fPre E M L)) (fQi E (fun r u => u = (M, L) ∧ r = runI (fun bes => (needI (fun t => (M (g + 4 + t) 5)) (fun t => (M (g + 4 + t) 6)) (fun t => (M (g + 4 + t) 4)) bes tc).2) n)) 0 0 (fA E) := by
  refine f_head (by decide) (Nat.le_of_ble_eq_true rfl) ?_
  intro pg ev s mi below meth cd ls X hr hlk hP hS hl
  have hx := X.1.1
  have hb := X.1.2.1
  have hl : lv_has ls 5 [(0, .ref (fad E g)), (1, .int k)] := hl
  subst hk
  have hl : lv_has ls 5 [(0, .ref (fad E g)), (1, .int (nI n))] := hl
  refine lv_iconst (v := 0) hx hb dX1_thingsToRunFor_0 (by decide) ?_
  refine lv_istore_n (lv' := [(2, .int 0), (0, .ref (fad E g)), (1, .int (nI n))]) hx hb dX1_thingsToRunFor_1 rfl hl (by decide) rfl (fun ls hl => ?_)
  refine lv_iconst (v := 0) hx hb dX1_thingsToRunFor_2 (by decide) ?_
  refine lv_istore_n (lv' := [(3, .int 0), (2, .int 0), (0, .ref (fad E g)), (1, .int (nI n))]) hx hb dX1_thingsToRunFor_3 rfl hl (by decide) rfl (fun ls hl => ?_)
  refine f_loop (α := Nat × Int32) (fun (a : Nat × Int32) H locs ls => match a with | (i, b) => fP E M L H ∧ va_S (fA E) s.heap H locs ∧ lv_has ls 5 [(3, .int (nI i)), (2, .int b), (0, .ref (fad E g)), (1, .int (nI n))] ∧ (i ≤ n) ∧ (b = runI (fun bes => (needI (fun t => M (g + 4 + t) 5) (fun t => M (g + 4 + t) 6) (fun t => M (g + 4 + t) 4) bes tc).2) i)) (fun (a : Nat × Int32) => match a with | (i, b) => n - i) (pc0 := 4) (st := fun _ => []) ?_ (0, 0) _ _ _ ⟨hP, hS, lv_sub hl [0, 1, 2, 3] rfl, (by omega), rfl⟩
  rintro ⟨i, b⟩ H locs ls ⟨hP, hS, hl, ht, hbt⟩ ih_4
  refine lv_iload_n hx hb dX1_thingsToRunFor_4 rfl (lv_at hl 0 rfl) ?_
  refine lv_iload_n hx hb dX1_thingsToRunFor_5 rfl (lv_at hl 3 rfl) ?_
  refine lv_icmp_ge (tgt := 35) hx hb dX1_thingsToRunFor_6 (by decide) (fun c_6 => ?_) (fun c_6 => ?_)
  · have c_6 := (nI_le_iff (a := n) (b := i) (by omega) (by omega)).mp c_6
    refine lv_iload_n hx hb dX1_thingsToRunFor_35 rfl (lv_at hl 1 rfl) ?_
    refine f_ir X hlk hr (v := b) rfl hP hS ?_ dX1_thingsToRunFor_36
    refine ⟨rfl, ?_⟩; rw [hbt, show i = n from by omega]
  · have c_6 := (not_congr (nI_le_iff (a := n) (b := i) (by omega) (by omega))).mp c_6
    refine lv_aload_n hx hb dX1_thingsToRunFor_9 rfl (lv_at hl 2 rfl) ?_
    refine lv_iload_n hx hb dX1_thingsToRunFor_10 rfl (lv_at hl 1 rfl) ?_
    refine f_iV (n := 1) X hP hS [.int b] [] (c_X1_worthiestInNeed l E M L g b tc hk_g htc htc8) m_4_16 wi_X1_worthiestInNeed hk_g rfl (by decide) (by decide +kernel) ⟨Nat.le_of_ble_eq_true rfl, Nat.le_of_ble_eq_true rfl⟩ rfl hl rfl (Nat.le_of_ble_eq_true rfl) ⟨Nat.zero_le _, Nat.zero_le _⟩ dX1_thingsToRunFor_11 (fun H locs hP hS => ?_)
    refine lv_istore (lv' := [(4, .int ((needI (fun t => (M (g + 4 + t) 5)) (fun t => (M (g + 4 + t) 6)) (fun t => (M (g + 4 + t) 4)) b tc).2)), (3, .int (nI i)), (2, .int b), (0, .ref (fad E g)), (1, .int (nI n))]) hx hb dX1_thingsToRunFor_14 hl (by decide) rfl (fun ls hl => ?_)
    refine lv_iload hx hb dX1_thingsToRunFor_16 (lv_at hl 0 rfl) ?_
    refine lv_iconst (v := (-1)) hx hb dX1_thingsToRunFor_18 (by decide) ?_
    refine lv_icmp_eq (tgt := 29) hx hb dX1_thingsToRunFor_19 (by decide) (fun c_19 => ?_) (fun c_19 => ?_)
    · refine lv_iinc (v := (nI (i + 1))) (lv' := [(3, .int (nI (i + 1))), (4, .int ((needI (fun t => (M (g + 4 + t) 5)) (fun t => (M (g + 4 + t) 6)) (fun t => (M (g + 4 + t) 4)) b tc).2)), (2, .int b), (0, .ref (fad E g)), (1, .int (nI n))]) hx hb dX1_thingsToRunFor_29 hl (k := 1) rfl (nI_1 _) (by decide) rfl (fun ls hl => ?_)
      refine lv_goto (tgt := 4) hx hb dX1_thingsToRunFor_32 (by decide) ?_
      exact ih_4 ((i + 1), b) _ _ _ (by show n - (i + 1) < n - i; omega) ⟨hP, hS, lv_sub hl [0, 2, 3, 4] rfl, (by omega), (by rw [hbt]; unfold runI; rw [itF_s]; unfold runI at hbt; rw [← hbt]; first | exact (if_pos c_19).symm | exact (if_neg c_19).symm)⟩
    · refine lv_iload_n hx hb dX1_thingsToRunFor_22 rfl (lv_at hl 2 rfl) ?_
      refine lv_iconst (v := 1) hx hb dX1_thingsToRunFor_23 (by decide) ?_
      refine lv_iload hx hb dX1_thingsToRunFor_24 (lv_at hl 0 rfl) ?_
      refine lv_ishl hx hb dX1_thingsToRunFor_26 ?_
      refine lv_ior hx hb dX1_thingsToRunFor_27 ?_
      refine lv_istore_n (lv' := [(2, .int (b ||| (1 <<< (((needI (fun t => (M (g + 4 + t) 5)) (fun t => (M (g + 4 + t) 6)) (fun t => (M (g + 4 + t) 4)) b tc).2) &&& 31)))), (4, .int ((needI (fun t => (M (g + 4 + t) 5)) (fun t => (M (g + 4 + t) 6)) (fun t => (M (g + 4 + t) 4)) b tc).2)), (3, .int (nI i)), (0, .ref (fad E g)), (1, .int (nI n))]) hx hb dX1_thingsToRunFor_28 rfl hl (by decide) rfl (fun ls hl => ?_)
      refine lv_iinc (v := (nI (i + 1))) (lv' := [(3, .int (nI (i + 1))), (2, .int (b ||| (1 <<< (((needI (fun t => (M (g + 4 + t) 5)) (fun t => (M (g + 4 + t) 6)) (fun t => (M (g + 4 + t) 4)) b tc).2) &&& 31)))), (4, .int ((needI (fun t => (M (g + 4 + t) 5)) (fun t => (M (g + 4 + t) 6)) (fun t => (M (g + 4 + t) 4)) b tc).2)), (0, .ref (fad E g)), (1, .int (nI n))]) hx hb dX1_thingsToRunFor_29 hl (k := 2) rfl (nI_1 _) (by decide) rfl (fun ls hl => ?_)
      refine lv_goto (tgt := 4) hx hb dX1_thingsToRunFor_32 (by decide) ?_
      exact ih_4 ((i + 1), (b ||| (1 <<< (((needI (fun t => (M (g + 4 + t) 5)) (fun t => (M (g + 4 + t) 6)) (fun t => (M (g + 4 + t) 4)) b tc).2) &&& 31)))) _ _ _ (by show n - (i + 1) < n - i; omega) ⟨hP, hS, lv_sub hl [0, 1, 3, 4] rfl, (by omega), (by rw [hbt]; unfold runI; rw [itF_s]; unfold runI at hbt; rw [← hbt]; first | exact (if_pos c_19).symm | exact (if_neg c_19).symm)⟩
