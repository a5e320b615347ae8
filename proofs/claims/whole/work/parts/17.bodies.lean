set_option maxHeartbeats 4000000 in
set_option maxRecDepth 100000 in
theorem c_X0_bodyOf (l : Launch) (E : fE) (M : Nat → Nat → Int32) (L : Nat → Nat → Int64) (mv : Int32) (k : Int32) : Met l yX0_bodyOf (wl yX0_bodyOf cX0_bodyOf 3 (some .int)) (fRm 1 22) (va_Pc [.int mv, .int k] (fPre E M L)) (fQi E (fun r u => u = (M, L) ∧ r = bodyI mv k)) 0 0 (fA E) := by
  refine f_head (by decide) (Nat.le_of_ble_eq_true rfl) ?_
  intro pg ev s mi below meth cd ls X hr hlk hP hS hl
  have hx := X.1.1
  have hb := X.1.2.1
  have hl : lv_has ls 3 [(0, .int mv), (1, .int k)] := hl
  refine lv_iload_n hx hb dX0_bodyOf_0 rfl (lv_at hl 0 rfl) ?_
  refine lv_bipush (v := 7) hx hb dX0_bodyOf_1 (by decide) ?_
  refine lv_imul hx hb dX0_bodyOf_3 ?_
  refine lv_iload_n hx hb dX0_bodyOf_4 rfl (lv_at hl 1 rfl) ?_
  refine lv_iadd hx hb dX0_bodyOf_5 ?_
  refine lv_istore_n (lv' := [(2, .int ((mv * 7) + k)), (0, .int mv), (1, .int k)]) hx hb dX0_bodyOf_6 rfl hl (by decide) rfl (fun ls hl => ?_)
  refine lv_iload_n hx hb dX0_bodyOf_7 rfl (lv_at hl 0 rfl) ?_
  refine lv_iconst (v := 0) hx hb dX0_bodyOf_8 (by decide) ?_
  refine va_gets hx hb (fX.zn X) hS X.1.2.2.2.1 (X.ht m_4_136) (fun _ h9 => h9) dX0_bodyOf_9 ?_
  refine f_slen X (fX.tn X) hS (v := 21) rfl dX0_bodyOf_12 ?_
  refine lv_iconst (v := 1) hx hb dX0_bodyOf_13 (by decide) ?_
  refine lv_isub hx hb dX0_bodyOf_14 ?_
  refine f_topI (v := 20) rfl ?_
  refine f_iN (n := 3) X hP hS [.int ((mv * 7) + k), .int 0, .int 20] [] (c_X7_within l E M L ((mv * 7) + k) 0 20) (fX.n2 X) wi_X7_within (by decide +kernel) ⟨Nat.le_of_ble_eq_true rfl, Nat.le_of_ble_eq_true rfl⟩ rfl hl rfl (Nat.le_of_ble_eq_true rfl) ⟨Nat.zero_le _, Nat.zero_le _⟩ dX0_bodyOf_15 (fun H locs hP hS => ?_)
  refine lv_if_eq (tgt := 29) hx hb dX0_bodyOf_18 (by decide) (fun c_18 => ?_) (fun c_18 => ?_)
  · have c_18 := bI0 c_18
    refine lv_iconst (v := 0) hx hb dX0_bodyOf_29 (by decide) ?_
    refine f_ir X hlk hr (v := 0) rfl hP hS ?_ dX0_bodyOf_30
    refine ⟨rfl, ?_⟩; unfold bodyI; first | rw [if_pos c_18] | rw [if_neg c_18]
  · have c_18 := bI1 c_18
    refine va_gets hx hb (fX.zn X) hS X.1.2.2.2.1 (X.ht m_4_136) (fun _ h9 => h9) dX0_bodyOf_21 ?_
    refine lv_iload_n hx hb dX0_bodyOf_24 rfl (lv_at hl 0 rfl) ?_
    refine f_sald X (fX.tn X) hS (q := (mv * 7 + k).toNatClampNeg) (fIx_le 20 c_18.1 c_18.2 (by decide)) dX0_bodyOf_25 ?_
    refine lv_goto (tgt := 30) hx hb dX0_bodyOf_26 (by decide) ?_
    refine f_ir X hlk hr (v := (fnu ((mv * 7 + k).toNatClampNeg))) rfl hP hS ?_ dX0_bodyOf_30
    refine ⟨rfl, ?_⟩; unfold bodyI; first | rw [if_pos c_18] | rw [if_neg c_18]

set_option maxHeartbeats 4000000 in
set_option maxRecDepth 100000 in
theorem c_X0_nextWithBody (l : Launch) (E : fE) (M : Nat → Nat → Int32) (L : Nat → Nat → Int64) (mv : Int32) (k : Int32) : Met l yX0_nextWithBody (wl yX0_nextWithBody cX0_nextWithBody 4 (some .int)) (fRm 2 44) (va_Pc [.int mv, .int k] (fPre E M L)) (fQi E (fun r u => u = (M, L) ∧ r = nxI 7 mv k)) 0 0 (fA E) := by
  refine f_head (by decide) (Nat.le_of_ble_eq_true rfl) ?_
  intro pg ev s mi below meth cd ls X hr hlk hP hS hl
  have hx := X.1.1
  have hb := X.1.2.1
  have hl : lv_has ls 4 [(0, .int mv), (1, .int k)] := hl
  refine lv_iload_n hx hb dX0_nextWithBody_0 rfl (lv_at hl 1 rfl) ?_
  refine lv_istore_n (lv' := [(2, .int k), (0, .int mv), (1, .int k)]) hx hb dX0_nextWithBody_1 rfl hl (by decide) rfl (fun ls hl => ?_)
  refine lv_iconst (v := 0) hx hb dX0_nextWithBody_2 (by decide) ?_
  refine lv_istore_n (lv' := [(3, .int 0), (2, .int k), (0, .int mv), (1, .int k)]) hx hb dX0_nextWithBody_3 rfl hl (by decide) rfl (fun ls hl => ?_)
  refine f_loop (α := Nat × Int32) (fun (a : Nat × Int32) H locs ls => match a with | (lv, h) => fP E M L H ∧ va_S (fA E) s.heap H locs ∧ lv_has ls 4 [(3, .int (nI lv)), (2, .int h), (0, .int mv), (1, .int k)] ∧ (lv ≤ 7) ∧ (nxI 7 mv k = nxI (7 - lv) mv h)) (fun (a : Nat × Int32) => match a with | (lv, h) => 7 - lv) (pc0 := 4) (st := fun _ => []) ?_ (0, k) _ _ _ ⟨hP, hS, lv_sub hl [0, 1, 2, 3] rfl, (by omega), rfl⟩
  rintro ⟨lv, h⟩ H locs ls ⟨hP, hS, hl, ht, hbt⟩ ih_4
  refine lv_iload_n hx hb dX0_nextWithBody_4 rfl (lv_at hl 0 rfl) ?_
  refine lv_bipush (v := 7) hx hb dX0_nextWithBody_5 (by decide) ?_
  refine lv_icmp_ge (tgt := 39) hx hb dX0_nextWithBody_7 (by decide) (fun c_7 => ?_) (fun c_7 => ?_)
  · have c_7 := (nI_le_iff (a := 7) (b := lv) (by omega) (by omega)).mp c_7
    refine lv_iconst (v := (-1)) hx hb dX0_nextWithBody_39 (by decide) ?_
    refine f_ir X hlk hr (v := (-1)) rfl hP hS ?_ dX0_nextWithBody_40
    exact ⟨rfl, by rw [hbt, show 7 - lv = 0 from by omega]; rfl⟩
  · have c_7 := (not_congr (nI_le_iff (a := 7) (b := lv) (by omega) (by omega))).mp c_7
    have hsv : 7 - lv = 6 - lv + 1 := by omega
    refine lv_iload_n hx hb dX0_nextWithBody_10 rfl (lv_at hl 1 rfl) ?_
    refine f_iN (n := 1) X hP hS [.int h] [] (c_X7_isKind l E M L h) (fX.n1 X) wi_X7_isKind (by decide +kernel) ⟨Nat.le_of_ble_eq_true rfl, Nat.le_of_ble_eq_true rfl⟩ rfl hl rfl (Nat.le_of_ble_eq_true rfl) ⟨Nat.zero_le _, Nat.zero_le _⟩ dX0_nextWithBody_11 (fun H locs hP hS => ?_)
    refine lv_if_eq (tgt := 39) hx hb dX0_nextWithBody_14 (by decide) (fun c_14 => ?_) (fun c_14 => ?_)
    · have c_14 := bI0 c_14
      refine lv_iconst (v := (-1)) hx hb dX0_nextWithBody_39 (by decide) ?_
      refine f_ir X hlk hr (v := (-1)) rfl hP hS ?_ dX0_nextWithBody_40
      exact ⟨rfl, by rw [hbt, hsv, nxI_s]; rw [if_neg c_14]⟩
    · have c_14 := bI1 c_14
      refine lv_iload_n hx hb dX0_nextWithBody_17 rfl (lv_at hl 2 rfl) ?_
      refine lv_iload_n hx hb dX0_nextWithBody_18 rfl (lv_at hl 1 rfl) ?_
      refine f_iS (n := 2) X hP hS [.int mv, .int h] [] (c_X0_bodyOf l E M L mv h) m_4_133 wi_X0_bodyOf (by decide +kernel) ⟨Nat.le_of_ble_eq_true rfl, Nat.le_of_ble_eq_true rfl⟩ rfl hl rfl (Nat.le_of_ble_eq_true rfl) ⟨Nat.zero_le _, Nat.zero_le _⟩ dX0_nextWithBody_19 (fun H locs hP hS => ?_)
      refine lv_if_eq (tgt := 27) hx hb dX0_nextWithBody_22 (by decide) (fun c_22 => ?_) (fun c_22 => ?_)
      · refine va_getsN hx hb (fX.za X) hS X.1.2.2.2.1 (va_Nw.use rfl (fX.n5 X)) (fun _ h9 => h9) dX0_nextWithBody_27 ?_
        refine lv_iload_n hx hb dX0_nextWithBody_30 rfl (lv_at hl 1 rfl) ?_
        refine f_sald X (fX.ta X) hS (q := h.toNatClampNeg) (fIx_le 6 c_14.1 c_14.2 (by decide)) dX0_nextWithBody_31 ?_
        refine lv_istore_n (lv' := [(2, .int (fab h.toNatClampNeg)), (3, .int (nI lv)), (0, .int mv), (1, .int k)]) hx hb dX0_nextWithBody_32 rfl hl (by decide) rfl (fun ls hl => ?_)
        refine lv_iinc (v := (nI (lv + 1))) (lv' := [(3, .int (nI (lv + 1))), (2, .int (fab h.toNatClampNeg)), (0, .int mv), (1, .int k)]) hx hb dX0_nextWithBody_33 hl (k := 1) rfl (nI_1 _) (by decide) rfl (fun ls hl => ?_)
        refine lv_goto (tgt := 4) hx hb dX0_nextWithBody_36 (by decide) ?_
        exact ih_4 ((lv + 1), (fab h.toNatClampNeg)) _ _ _ (by show 7 - (lv + 1) < 7 - lv; omega) ⟨hP, hS, lv_sub hl [0, 1, 2, 3] rfl, (by omega), (by rw [hbt, hsv, nxI_s]; rw [if_pos c_14, if_pos c_22, show 6 - lv = 7 - (lv + 1) from by omega])⟩
      · refine lv_iload_n hx hb dX0_nextWithBody_25 rfl (lv_at hl 1 rfl) ?_
        refine f_ir X hlk hr (v := h) rfl hP hS ?_ dX0_nextWithBody_26
        exact ⟨rfl, by rw [hbt, hsv, nxI_s]; rw [if_pos c_14, if_neg c_22]⟩

set_option maxHeartbeats 4000000 in
set_option maxRecDepth 100000 in
theorem c_X0_begin (l : Launch) (E : fE) (M : Nat → Nat → Int32) (L : Nat → Nat → Int64) (b : Int32) : Met l yX0_begin (wl yX0_begin cX0_begin 2 none) (fRm 0 0) (va_Pc [.ref (fad E 83), .int b] (fPre E M L)) (fQv E (fun u => u = ((beginM M b), L))) 0 0 (fA E) := by
  refine f_head (by decide) (Nat.le_of_ble_eq_true rfl) ?_
  intro pg ev s mi below meth cd ls X hr hlk hP hS hl
  have hx := X.1.1
  have hb := X.1.2.1
  have hl : lv_has ls 2 [(0, .ref (fad E 83)), (1, .int b)] := hl
  refine lv_aload_n hx hb dX0_begin_0 rfl (lv_at hl 0 rfl) ?_
  refine f_get X hP (T := TX0) (ci := 0) (k := 83) rfl inX0 rfl 1 (by decide) m_1_204 rfl (v := .int (M 83 1)) rfl dX0_begin_1 ?_
  refine lv_if_lt (tgt := 26) hx hb dX0_begin_4 (by decide) (fun c_4 => ?_) (fun c_4 => ?_)
  · refine lv_aload_n hx hb dX0_begin_26 rfl (lv_at hl 0 rfl) ?_
    refine lv_dup hx hb dX0_begin_27 rfl ?_
    refine f_get X hP (T := TX0) (ci := 0) (k := 83) rfl inX0 rfl 1 (by decide) m_1_204 rfl (v := .int (M 83 1)) rfl dX0_begin_28 ?_
    refine lv_iconst (v := 1) hx hb dX0_begin_31 (by decide) ?_
    refine lv_iadd hx hb dX0_begin_32 ?_
    refine f_put X hP hS (T := TX0) (ci := 0) (k := 83) rfl inX0 rfl tyX0 tyX0_ok nmX0 1 (by decide) m_1_204 ⟨rfl, rfl⟩ rfl (v := ((M 83 1) + 1)) rfl rfl dX0_begin_33 (fun H locs hP hS => ?_)
    refine f_vr X hlk hr hP hS ?_ dX0_begin_36
    show _ = _
    unfold beginM; rw [if_neg (fun h => absurd h.1 (Int32.not_le.mpr c_4))]
  · refine lv_aload_n hx hb dX0_begin_7 rfl (lv_at hl 0 rfl) ?_
    refine f_get X hP (T := TX0) (ci := 0) (k := 83) rfl inX0 rfl 1 (by decide) m_1_204 rfl (v := .int (M 83 1)) rfl dX0_begin_8 ?_
    refine lv_bipush (v := 20) hx hb dX0_begin_11 (by decide) ?_
    refine lv_icmp_ge (tgt := 26) hx hb dX0_begin_13 (by decide) (fun c_13 => ?_) (fun c_13 => ?_)
    · refine lv_aload_n hx hb dX0_begin_26 rfl (lv_at hl 0 rfl) ?_
      refine lv_dup hx hb dX0_begin_27 rfl ?_
      refine f_get X hP (T := TX0) (ci := 0) (k := 83) rfl inX0 rfl 1 (by decide) m_1_204 rfl (v := .int (M 83 1)) rfl dX0_begin_28 ?_
      refine lv_iconst (v := 1) hx hb dX0_begin_31 (by decide) ?_
      refine lv_iadd hx hb dX0_begin_32 ?_
      refine f_put X hP hS (T := TX0) (ci := 0) (k := 83) rfl inX0 rfl tyX0 tyX0_ok nmX0 1 (by decide) m_1_204 ⟨rfl, rfl⟩ rfl (v := ((M 83 1) + 1)) rfl rfl dX0_begin_33 (fun H locs hP hS => ?_)
      refine f_vr X hlk hr hP hS ?_ dX0_begin_36
      show _ = _
      unfold beginM; rw [if_neg (fun h => absurd h.2 (Int32.not_lt.mpr c_13))]
    · refine lv_aload_n hx hb dX0_begin_16 rfl (lv_at hl 0 rfl) ?_
      refine f_get X hP (T := TX0) (ci := 0) (k := 83) rfl inX0 rfl 0 (by decide) m_1_203 rfl (v := .ref (fad E 84)) rfl dX0_begin_17 ?_
      refine lv_aload_n hx hb dX0_begin_20 rfl (lv_at hl 0 rfl) ?_
      refine f_get X hP (T := TX0) (ci := 0) (k := 83) rfl inX0 rfl 1 (by decide) m_1_204 rfl (v := .int (M 83 1)) rfl dX0_begin_21 ?_
      refine lv_iload_n hx hb dX0_begin_24 rfl (lv_at hl 1 rfl) ?_
      refine f_iast X hP hS (k := 84) (n := 20) (q := (M 83 1).toNatClampNeg) rfl rfl (v := b) (fIx_lt 20 (Int32.not_lt.mp c_4) (Int32.not_le.mp c_13) (by decide)) dX0_begin_25 (fun H locs hP hS => ?_)
      refine lv_aload_n hx hb dX0_begin_26 rfl (lv_at hl 0 rfl) ?_
      refine lv_dup hx hb dX0_begin_27 rfl ?_
      refine f_get X hP (T := TX0) (ci := 0) (k := 83) rfl inX0 rfl 1 (by decide) m_1_204 rfl (v := .int (M 83 1)) (congrArg Value.int (up2_o _ _ (Or.inl (by decide)))) dX0_begin_28 ?_
      refine lv_iconst (v := 1) hx hb dX0_begin_31 (by decide) ?_
      refine lv_iadd hx hb dX0_begin_32 ?_
      refine f_put X hP hS (T := TX0) (ci := 0) (k := 83) rfl inX0 rfl tyX0 tyX0_ok nmX0 1 (by decide) m_1_204 ⟨rfl, rfl⟩ rfl (v := ((M 83 1) + 1)) rfl rfl dX0_begin_33 (fun H locs hP hS => ?_)
      refine f_vr X hlk hr hP hS ?_ dX0_begin_36
      show _ = _
      unfold beginM; rw [if_pos ⟨Int32.not_lt.mp c_4, Int32.not_le.mp c_13⟩]

set_option maxHeartbeats 4000000 in
set_option maxRecDepth 100000 in
theorem c_X0_forget (l : Launch) (E : fE) (M : Nat → Nat → Int32) (L : Nat → Nat → Int64) : Met l yX0_forget (wl yX0_forget cX0_forget 1 none) (fRm 0 0) (va_Pc [.ref (fad E 83)] (fPre E M L)) (fQv E (fun u => u = ((up2 M 83 1 0), L))) 0 0 (fA E) := by
  refine f_head (by decide) (Nat.le_of_ble_eq_true rfl) ?_
  intro pg ev s mi below meth cd ls X hr hlk hP hS hl
  have hx := X.1.1
  have hb := X.1.2.1
  have hl : lv_has ls 1 [(0, .ref (fad E 83))] := hl
  refine lv_aload_n hx hb dX0_forget_0 rfl (lv_at hl 0 rfl) ?_
  refine lv_iconst (v := 0) hx hb dX0_forget_1 (by decide) ?_
  refine f_put X hP hS (T := TX0) (ci := 0) (k := 83) rfl inX0 rfl tyX0 tyX0_ok nmX0 1 (by decide) m_1_204 ⟨rfl, rfl⟩ rfl (v := 0) rfl rfl dX0_forget_2 (fun H locs hP hS => ?_)
  exact f_vr X hlk hr hP hS rfl dX0_forget_5

set_option maxHeartbeats 4000000 in
set_option maxRecDepth 100000 in
theorem c_X0_tell (l : Launch) (E : fE) (M : Nat → Nat → Int32) (L : Nat → Nat → Int64) (i : Int32) : Met l yX0_tell (wl yX0_tell cX0_tell 2 (some .int)) (fRm 0 0) (va_Pc [.ref (fad E 83), .int i] (fPre E M L)) (fQi E (fun r u => u = (M, L) ∧ r = (if 0 ≤ i ∧ i < (M 83 1) ∧ i < 20 then (M 84 i.toNatClampNeg) else -1))) 0 0 (fA E) := by
  refine f_head (by decide) (Nat.le_of_ble_eq_true rfl) ?_
  intro pg ev s mi below meth cd ls X hr hlk hP hS hl
  have hx := X.1.1
  have hb := X.1.2.1
  have hl : lv_has ls 2 [(0, .ref (fad E 83)), (1, .int i)] := hl
  refine lv_iload_n hx hb dX0_tell_0 rfl (lv_at hl 1 rfl) ?_
  refine lv_if_lt (tgt := 27) hx hb dX0_tell_1 (by decide) (fun c_1 => ?_) (fun c_1 => ?_)
  · refine lv_iconst (v := (-1)) hx hb dX0_tell_27 (by decide) ?_
    refine f_ir X hlk hr (v := (-1)) rfl hP hS ?_ dX0_tell_28
    exact ⟨rfl, (if_neg (fun h => absurd h.1 (Int32.not_le.mpr c_1))).symm⟩
  · refine lv_iload_n hx hb dX0_tell_4 rfl (lv_at hl 1 rfl) ?_
    refine lv_aload_n hx hb dX0_tell_5 rfl (lv_at hl 0 rfl) ?_
    refine f_get X hP (T := TX0) (ci := 0) (k := 83) rfl inX0 rfl 1 (by decide) m_1_204 rfl (v := .int (M 83 1)) rfl dX0_tell_6 ?_
    refine lv_icmp_ge (tgt := 27) hx hb dX0_tell_9 (by decide) (fun c_9 => ?_) (fun c_9 => ?_)
    · refine lv_iconst (v := (-1)) hx hb dX0_tell_27 (by decide) ?_
      refine f_ir X hlk hr (v := (-1)) rfl hP hS ?_ dX0_tell_28
      exact ⟨rfl, (if_neg (fun h => absurd h.2.1 (Int32.not_lt.mpr c_9))).symm⟩
    · refine lv_iload_n hx hb dX0_tell_12 rfl (lv_at hl 1 rfl) ?_
      refine lv_bipush (v := 20) hx hb dX0_tell_13 (by decide) ?_
      refine lv_icmp_ge (tgt := 27) hx hb dX0_tell_15 (by decide) (fun c_15 => ?_) (fun c_15 => ?_)
      · refine lv_iconst (v := (-1)) hx hb dX0_tell_27 (by decide) ?_
        refine f_ir X hlk hr (v := (-1)) rfl hP hS ?_ dX0_tell_28
        exact ⟨rfl, (if_neg (fun h => absurd h.2.2 (Int32.not_lt.mpr c_15))).symm⟩
      · refine lv_aload_n hx hb dX0_tell_18 rfl (lv_at hl 0 rfl) ?_
        refine f_get X hP (T := TX0) (ci := 0) (k := 83) rfl inX0 rfl 0 (by decide) m_1_203 rfl (v := .ref (fad E 84)) rfl dX0_tell_19 ?_
        refine lv_iload_n hx hb dX0_tell_22 rfl (lv_at hl 1 rfl) ?_
        refine f_iald X hP (k := 84) (n := 20) (q := i.toNatClampNeg) rfl rfl (fIx_lt 20 (Int32.not_lt.mp c_1) (Int32.not_le.mp c_15) (by decide)) dX0_tell_23 ?_
        refine lv_goto (tgt := 28) hx hb dX0_tell_24 (by decide) ?_
        refine f_ir X hlk hr (v := (M 84 i.toNatClampNeg)) rfl hP hS ?_ dX0_tell_28
        exact ⟨rfl, (if_pos ⟨Int32.not_lt.mp c_1, Int32.not_le.mp c_9, Int32.not_le.mp c_15⟩).symm⟩

set_option maxHeartbeats 4000000 in
set_option maxRecDepth 100000 in
theorem c_X0_answerOf (l : Launch) (E : fE) (n : Nat) (ihr : ∀ (M : Nat → Nat → Int32) (L : Nat → Nat → Int64) (w : Nat) (mv : Int32) (k : Int32) (x : Int32) (dp1 : Int32) (dp : Nat) (hk_w : fsh w = 6) (ed : dp1 = nI dp) (hd : dp + n = 13), Met l yX0_run (wl yX0_run cX0_run 8 (some .int)) (fRm (2 * n + 4) (54 * n + 100)) (va_Pc [.ref (fad E 83), .ref (fad E w), .int mv, .int k, .int x, .int dp1] (fPre E M L)) (fQi E (fun r u => u = ((runV (M w 0) (M w 2) (M w 1) n mv k x M).2, L) ∧ r = (runV (M w 0) (M w 2) (M w 1) n mv k x M).1)) 0 0 (fA E)) (M : Nat → Nat → Int32) (L : Nat → Nat → Int64) (b : Int32) (w : Nat) (ab : Int32) (x : Int32) (dp1 : Int32) (dp : Nat) (hk_w : fsh w = 6) (ed : dp1 = nI dp) (hd : dp + n = 13) : Met l yX0_answerOf (wl yX0_answerOf cX0_answerOf 8 (some .int)) (fRm (2 * n + 5) (54 * n + 127)) (va_Pc [.ref (fad E 83), .int b, .ref (fad E w), .int ab, .int x, .int dp1] (fPre E M L)) (fQi E (fun r u => u = ((ansV (M w 0) (M w 2) (M w 1) n b ab x M).2, L) ∧ r = (ansV (M w 0) (M w 2) (M w 1) n b ab x M).1)) 0 0 (fA E) := by
  refine f_head (by decide) (Nat.le_of_ble_eq_true rfl) ?_
  intro pg ev s mi below meth cd ls X hr hlk hP hS hl
  have hx := X.1.1
  have hb := X.1.2.1
  have hl : lv_has ls 8 [(0, .ref (fad E 83)), (1, .int b), (2, .ref (fad E w)), (3, .int ab), (4, .int x), (5, .int dp1)] := hl
  subst ed
  have hl : lv_has ls 8 [(0, .ref (fad E 83)), (1, .int b), (2, .ref (fad E w)), (3, .int ab), (4, .int x), (5, .int (nI dp))] := hl
  have bw : ∀ j, (runV (M w 0) (M w 2) (M w 1) n 1 (M w 1) x M).2 w j = M w j := fun j => frB.run _ _ _ _ _ _ _ _ w j (by rintro rfl; exact absurd hk_w (by decide)) (by rintro rfl; exact absurd hk_w (by decide))
  refine lv_aload_n hx hb dX0_answerOf_0 rfl (lv_at hl 2 rfl) ?_
  refine f_get X hP (T := TX6) (ci := 6) (k := w) hk_w inX6 rfl 0 (by decide) m_1_78 rfl (v := .int (M w 0)) rfl dX0_answerOf_1 ?_
  refine lv_istore (lv' := [(6, .int (M w 0)), (0, .ref (fad E 83)), (1, .int b), (2, .ref (fad E w)), (3, .int ab), (4, .int x), (5, .int (nI dp))]) hx hb dX0_answerOf_4 hl (by decide) rfl (fun ls hl => ?_)
  refine lv_aload_n hx hb dX0_answerOf_6 rfl (lv_at hl 3 rfl) ?_
  refine f_get X hP (T := TX6) (ci := 6) (k := w) hk_w inX6 rfl 2 (by decide) m_1_84 rfl (v := .int (M w 2)) rfl dX0_answerOf_7 ?_
  refine lv_istore (lv' := [(7, .int (M w 2)), (6, .int (M w 0)), (0, .ref (fad E 83)), (1, .int b), (2, .ref (fad E w)), (3, .int ab), (4, .int x), (5, .int (nI dp))]) hx hb dX0_answerOf_10 hl (by decide) rfl (fun ls hl => ?_)
  refine lv_iload_n hx hb dX0_answerOf_12 rfl (lv_at hl 3 rfl) ?_
  by_cases s_13_10 : b = 10
  · refine lv_lookup (off := 91) (tgt := 104) hx hb dX0_answerOf_13 (by decide) (by rw [s_13_10] <;> rfl) (by decide) ?_
    refine lv_iload hx hb dX0_answerOf_104 (lv_at hl 6 rfl) ?_
    refine lv_iload hx hb dX0_answerOf_106 (lv_at hl 1 rfl) ?_
    refine lv_iadd hx hb dX0_answerOf_108 ?_
    refine f_ir X hlk hr (v := (x + (M w 0))) rfl hP hS ?_ dX0_answerOf_109
    subst s_13_10; exact ⟨rfl, rfl⟩
  by_cases s_13_11 : b = 11
  · refine lv_lookup (off := 97) (tgt := 110) hx hb dX0_answerOf_13 (by decide) (by rw [s_13_11] <;> rfl) (by decide) ?_
    refine lv_aload_n hx hb dX0_answerOf_110 rfl (lv_at hl 2 rfl) ?_
    refine lv_aload_n hx hb dX0_answerOf_111 rfl (lv_at hl 4 rfl) ?_
    refine lv_iconst (v := 0) hx hb dX0_answerOf_112 (by decide) ?_
    refine lv_aload_n hx hb dX0_answerOf_113 rfl (lv_at hl 4 rfl) ?_
    refine f_get X hP (T := TX6) (ci := 6) (k := w) hk_w inX6 rfl 1 (by decide) m_1_80 rfl (v := .int (M w 1)) rfl dX0_answerOf_114 ?_
    refine lv_iload hx hb dX0_answerOf_117 (lv_at hl 6 rfl) ?_
    refine lv_iload hx hb dX0_answerOf_119 (lv_at hl 7 rfl) ?_
    refine f_iV (n := 5) X hP hS [.ref (fad E w), .int 0, .int (M w 1), .int x, .int (nI dp)] [] (ihr M L w 0 (M w 1) x (nI dp) dp hk_w rfl (by omega)) m_4_125 wi_X0_run rfl rfl (by decide) (by decide +kernel) ⟨by simp only [fRm]; omega, by simp only [fRm]; omega⟩ rfl hl rfl (Nat.le_of_ble_eq_true rfl) ⟨Nat.zero_le _, Nat.zero_le _⟩ dX0_answerOf_121 (fun H locs hP hS => ?_)
    refine lv_iconst (v := 2) hx hb dX0_answerOf_124 (by decide) ?_
    refine lv_imul hx hb dX0_answerOf_125 ?_
    refine f_ir X hlk hr (v := (((runV (M w 0) (M w 2) (M w 1) n 0 (M w 1) x M).1) * 2)) rfl hP hS ?_ dX0_answerOf_126
    subst s_13_11; exact ⟨rfl, rfl⟩
  by_cases s_13_12 : b = 12
  · refine lv_lookup (off := 114) (tgt := 127) hx hb dX0_answerOf_13 (by decide) (by rw [s_13_12] <;> rfl) (by decide) ?_
    refine lv_aload_n hx hb dX0_answerOf_127 rfl (lv_at hl 2 rfl) ?_
    refine lv_aload_n hx hb dX0_answerOf_128 rfl (lv_at hl 4 rfl) ?_
    refine lv_iconst (v := 1) hx hb dX0_answerOf_129 (by decide) ?_
    refine lv_aload_n hx hb dX0_answerOf_130 rfl (lv_at hl 4 rfl) ?_
    refine f_get X hP (T := TX6) (ci := 6) (k := w) hk_w inX6 rfl 1 (by decide) m_1_80 rfl (v := .int (M w 1)) rfl dX0_answerOf_131 ?_
    refine lv_iload hx hb dX0_answerOf_134 (lv_at hl 6 rfl) ?_
    refine lv_iload hx hb dX0_answerOf_136 (lv_at hl 7 rfl) ?_
    refine f_iV (n := 5) X hP hS [.ref (fad E w), .int 1, .int (M w 1), .int x, .int (nI dp)] [] (ihr M L w 1 (M w 1) x (nI dp) dp hk_w rfl (by omega)) m_4_125 wi_X0_run rfl rfl (by decide) (by decide +kernel) ⟨by simp only [fRm]; omega, by simp only [fRm]; omega⟩ rfl hl rfl (Nat.le_of_ble_eq_true rfl) ⟨Nat.zero_le _, Nat.zero_le _⟩ dX0_answerOf_138 (fun H locs hP hS => ?_)
    refine lv_aload_n hx hb dX0_answerOf_141 rfl (lv_at hl 2 rfl) ?_
    refine lv_aload_n hx hb dX0_answerOf_142 rfl (lv_at hl 4 rfl) ?_
    refine lv_iconst (v := 0) hx hb dX0_answerOf_143 (by decide) ?_
    refine lv_aload_n hx hb dX0_answerOf_144 rfl (lv_at hl 4 rfl) ?_
    refine f_get X hP (T := TX6) (ci := 6) (k := w) hk_w inX6 rfl 1 (by decide) m_1_80 rfl (v := .int (M w 1)) (congrArg Value.int (bw 1)) dX0_answerOf_145 ?_
    refine lv_iload hx hb dX0_answerOf_148 (lv_at hl 6 rfl) ?_
    refine lv_iload hx hb dX0_answerOf_150 (lv_at hl 0 rfl) ?_
    refine lv_isub hx hb dX0_answerOf_152 ?_
    refine lv_iload hx hb dX0_answerOf_153 (lv_at hl 7 rfl) ?_
    refine f_iV (n := 5) X hP hS [.ref (fad E w), .int 0, .int (M w 1), .int (x - (M w 2)), .int (nI dp)] [.int ((runV (M w 0) (M w 2) (M w 1) n 1 (M w 1) x M).1)] (ihr (runV (M w 0) (M w 2) (M w 1) n 1 (M w 1) x M).2 L w 0 (M w 1) (x - (M w 2)) (nI dp) dp hk_w rfl (by omega)) m_4_125 wi_X0_run rfl rfl (by decide) (by decide +kernel) ⟨by simp only [fRm]; omega, by simp only [fRm]; omega⟩ rfl hl rfl (Nat.le_of_ble_eq_true rfl) ⟨Nat.zero_le _, Nat.zero_le _⟩ dX0_answerOf_155 (fun H locs hP hS => ?_)
    refine f_topI (v := (runV (M w 0) (M w 2) (M w 1) n 0 (M w 1) (x - (M w 2)) (runV (M w 0) (M w 2) (M w 1) n 1 (M w 1) x M).2).1) (by rw [bw 0, bw 1, bw 2]) ?_
    have hP := fP_eq (show (runV (M w 0) (M w 2) (M w 1) n 0 (M w 1) (x - (M w 2)) (runV (M w 0) (M w 2) (M w 1) n 1 (M w 1) x M).2).2 = (runV ((runV (M w 0) (M w 2) (M w 1) n 1 (M w 1) x M).2 w 0) ((runV (M w 0) (M w 2) (M w 1) n 1 (M w 1) x M).2 w 2) ((runV (M w 0) (M w 2) (M w 1) n 1 (M w 1) x M).2 w 1) n 0 (M w 1) (x - (M w 2)) (runV (M w 0) (M w 2) (M w 1) n 1 (M w 1) x M).2).2 from by
        rw [bw 0, bw 1, bw 2]) hP
    refine lv_ixor hx hb dX0_answerOf_158 ?_
    refine f_ir X hlk hr (v := (((runV (M w 0) (M w 2) (M w 1) n 1 (M w 1) x M).1) ^^^ (runV (M w 0) (M w 2) (M w 1) n 0 (M w 1) (x - (M w 2)) (runV (M w 0) (M w 2) (M w 1) n 1 (M w 1) x M).2).1)) rfl hP hS ?_ dX0_answerOf_159
    subst s_13_12; exact ⟨rfl, rfl⟩
  by_cases s_13_20 : b = 20
  · refine lv_lookup (off := 147) (tgt := 160) hx hb dX0_answerOf_13 (by decide) (by rw [s_13_20] <;> rfl) (by decide) ?_
    refine lv_aload_n hx hb dX0_answerOf_160 rfl (lv_at hl 2 rfl) ?_
    refine lv_aload_n hx hb dX0_answerOf_161 rfl (lv_at hl 4 rfl) ?_
    refine lv_iconst (v := 0) hx hb dX0_answerOf_162 (by decide) ?_
    refine lv_iload_n hx hb dX0_answerOf_163 rfl (lv_at hl 5 rfl) ?_
    refine lv_iload hx hb dX0_answerOf_164 (lv_at hl 6 rfl) ?_
    refine lv_iload hx hb dX0_answerOf_166 (lv_at hl 7 rfl) ?_
    refine f_iV (n := 5) X hP hS [.ref (fad E w), .int 0, .int ab, .int x, .int (nI dp)] [] (ihr M L w 0 ab x (nI dp) dp hk_w rfl (by omega)) m_4_125 wi_X0_run rfl rfl (by decide) (by decide +kernel) ⟨by simp only [fRm]; omega, by simp only [fRm]; omega⟩ rfl hl rfl (Nat.le_of_ble_eq_true rfl) ⟨Nat.zero_le _, Nat.zero_le _⟩ dX0_answerOf_168 (fun H locs hP hS => ?_)
    refine lv_iload hx hb dX0_answerOf_171 (lv_at hl 0 rfl) ?_
    refine lv_iadd hx hb dX0_answerOf_173 ?_
    refine f_ir X hlk hr (v := (((runV (M w 0) (M w 2) (M w 1) n 0 ab x M).1) + (M w 2))) rfl hP hS ?_ dX0_answerOf_174
    subst s_13_20; exact ⟨rfl, rfl⟩
  by_cases s_13_30 : b = 30
  · refine lv_lookup (off := 162) (tgt := 175) hx hb dX0_answerOf_13 (by decide) (by rw [s_13_30] <;> rfl) (by decide) ?_
    refine lv_aload_n hx hb dX0_answerOf_175 rfl (lv_at hl 2 rfl) ?_
    refine lv_aload_n hx hb dX0_answerOf_176 rfl (lv_at hl 4 rfl) ?_
    refine lv_iconst (v := 1) hx hb dX0_answerOf_177 (by decide) ?_
    refine lv_iload_n hx hb dX0_answerOf_178 rfl (lv_at hl 5 rfl) ?_
    refine lv_iload hx hb dX0_answerOf_179 (lv_at hl 6 rfl) ?_
    refine lv_iload hx hb dX0_answerOf_181 (lv_at hl 7 rfl) ?_
    refine f_iV (n := 5) X hP hS [.ref (fad E w), .int 1, .int ab, .int x, .int (nI dp)] [] (ihr M L w 1 ab x (nI dp) dp hk_w rfl (by omega)) m_4_125 wi_X0_run rfl rfl (by decide) (by decide +kernel) ⟨by simp only [fRm]; omega, by simp only [fRm]; omega⟩ rfl hl rfl (Nat.le_of_ble_eq_true rfl) ⟨Nat.zero_le _, Nat.zero_le _⟩ dX0_answerOf_183 (fun H locs hP hS => ?_)
    refine lv_iconst (v := 3) hx hb dX0_answerOf_186 (by decide) ?_
    refine lv_imul hx hb dX0_answerOf_187 ?_
    refine f_ir X hlk hr (v := (((runV (M w 0) (M w 2) (M w 1) n 1 ab x M).1) * 3)) rfl hP hS ?_ dX0_answerOf_188
    subst s_13_30; exact ⟨rfl, rfl⟩
  by_cases s_13_40 : b = 40
  · refine lv_lookup (off := 176) (tgt := 189) hx hb dX0_answerOf_13 (by decide) (by rw [s_13_40] <;> rfl) (by decide) ?_
    refine lv_aload_n hx hb dX0_answerOf_189 rfl (lv_at hl 2 rfl) ?_
    refine lv_aload_n hx hb dX0_answerOf_190 rfl (lv_at hl 4 rfl) ?_
    refine lv_iconst (v := 0) hx hb dX0_answerOf_191 (by decide) ?_
    refine lv_iload_n hx hb dX0_answerOf_192 rfl (lv_at hl 5 rfl) ?_
    refine lv_iload hx hb dX0_answerOf_193 (lv_at hl 6 rfl) ?_
    refine lv_iconst (v := 1) hx hb dX0_answerOf_195 (by decide) ?_
    refine lv_iadd hx hb dX0_answerOf_196 ?_
    refine lv_iload hx hb dX0_answerOf_197 (lv_at hl 7 rfl) ?_
    refine f_iV (n := 5) X hP hS [.ref (fad E w), .int 0, .int ab, .int (x + 1), .int (nI dp)] [] (ihr M L w 0 ab (x + 1) (nI dp) dp hk_w rfl (by omega)) m_4_125 wi_X0_run rfl rfl (by decide) (by decide +kernel) ⟨by simp only [fRm]; omega, by simp only [fRm]; omega⟩ rfl hl rfl (Nat.le_of_ble_eq_true rfl) ⟨Nat.zero_le _, Nat.zero_le _⟩ dX0_answerOf_199 (fun H locs hP hS => ?_)
    refine f_ir X hlk hr (v := ((runV (M w 0) (M w 2) (M w 1) n 0 ab (x + 1) M).1)) rfl hP hS ?_ dX0_answerOf_202
    subst s_13_40; exact ⟨rfl, rfl⟩
  by_cases s_13_50 : b = 50
  · refine lv_lookup (off := 190) (tgt := 203) hx hb dX0_answerOf_13 (by decide) (by rw [s_13_50] <;> rfl) (by decide) ?_
    refine lv_aload_n hx hb dX0_answerOf_203 rfl (lv_at hl 2 rfl) ?_
    refine lv_aload_n hx hb dX0_answerOf_204 rfl (lv_at hl 4 rfl) ?_
    refine lv_iconst (v := 2) hx hb dX0_answerOf_205 (by decide) ?_
    refine lv_iload_n hx hb dX0_answerOf_206 rfl (lv_at hl 5 rfl) ?_
    refine lv_iload hx hb dX0_answerOf_207 (lv_at hl 6 rfl) ?_
    refine lv_iload hx hb dX0_answerOf_209 (lv_at hl 7 rfl) ?_
    refine f_iV (n := 5) X hP hS [.ref (fad E w), .int 2, .int ab, .int x, .int (nI dp)] [] (ihr M L w 2 ab x (nI dp) dp hk_w rfl (by omega)) m_4_125 wi_X0_run rfl rfl (by decide) (by decide +kernel) ⟨by simp only [fRm]; omega, by simp only [fRm]; omega⟩ rfl hl rfl (Nat.le_of_ble_eq_true rfl) ⟨Nat.zero_le _, Nat.zero_le _⟩ dX0_answerOf_211 (fun H locs hP hS => ?_)
    refine lv_ineg hx hb dX0_answerOf_214 ?_
    refine f_ir X hlk hr (v := (-((runV (M w 0) (M w 2) (M w 1) n 2 ab x M).1))) rfl hP hS ?_ dX0_answerOf_215
    subst s_13_50; exact ⟨rfl, rfl⟩
  by_cases s_13_51 : b = 51
  · refine lv_lookup (off := 203) (tgt := 216) hx hb dX0_answerOf_13 (by decide) (by rw [s_13_51] <;> rfl) (by decide) ?_
    refine lv_aload_n hx hb dX0_answerOf_216 rfl (lv_at hl 2 rfl) ?_
    refine lv_aload_n hx hb dX0_answerOf_217 rfl (lv_at hl 4 rfl) ?_
    refine lv_iconst (v := 0) hx hb dX0_answerOf_218 (by decide) ?_
    refine lv_iload_n hx hb dX0_answerOf_219 rfl (lv_at hl 5 rfl) ?_
    refine lv_iload hx hb dX0_answerOf_220 (lv_at hl 6 rfl) ?_
    refine lv_iload hx hb dX0_answerOf_222 (lv_at hl 7 rfl) ?_
    refine f_iV (n := 5) X hP hS [.ref (fad E w), .int 0, .int ab, .int x, .int (nI dp)] [] (ihr M L w 0 ab x (nI dp) dp hk_w rfl (by omega)) m_4_125 wi_X0_run rfl rfl (by decide) (by decide +kernel) ⟨by simp only [fRm]; omega, by simp only [fRm]; omega⟩ rfl hl rfl (Nat.le_of_ble_eq_true rfl) ⟨Nat.zero_le _, Nat.zero_le _⟩ dX0_answerOf_224 (fun H locs hP hS => ?_)
    refine lv_iload hx hb dX0_answerOf_227 (lv_at hl 1 rfl) ?_
    refine lv_isub hx hb dX0_answerOf_229 ?_
    refine f_ir X hlk hr (v := (((runV (M w 0) (M w 2) (M w 1) n 0 ab x M).1) - (M w 0))) rfl hP hS ?_ dX0_answerOf_230
    subst s_13_51; exact ⟨rfl, rfl⟩
  by_cases s_13_60 : b = 60
  · refine lv_lookup (off := 218) (tgt := 231) hx hb dX0_answerOf_13 (by decide) (by rw [s_13_60] <;> rfl) (by decide) ?_
    refine lv_aload_n hx hb dX0_answerOf_231 rfl (lv_at hl 2 rfl) ?_
    refine lv_aload_n hx hb dX0_answerOf_232 rfl (lv_at hl 4 rfl) ?_
    refine lv_iconst (v := 2) hx hb dX0_answerOf_233 (by decide) ?_
    refine lv_iload_n hx hb dX0_answerOf_234 rfl (lv_at hl 5 rfl) ?_
    refine lv_iload hx hb dX0_answerOf_235 (lv_at hl 6 rfl) ?_
    refine lv_iload hx hb dX0_answerOf_237 (lv_at hl 7 rfl) ?_
    refine f_iV (n := 5) X hP hS [.ref (fad E w), .int 2, .int ab, .int x, .int (nI dp)] [] (ihr M L w 2 ab x (nI dp) dp hk_w rfl (by omega)) m_4_125 wi_X0_run rfl rfl (by decide) (by decide +kernel) ⟨by simp only [fRm]; omega, by simp only [fRm]; omega⟩ rfl hl rfl (Nat.le_of_ble_eq_true rfl) ⟨Nat.zero_le _, Nat.zero_le _⟩ dX0_answerOf_239 (fun H locs hP hS => ?_)
    refine lv_iconst (v := 5) hx hb dX0_answerOf_242 (by decide) ?_
    refine lv_ixor hx hb dX0_answerOf_243 ?_
    refine f_ir X hlk hr (v := (((runV (M w 0) (M w 2) (M w 1) n 2 ab x M).1) ^^^ 5)) rfl hP hS ?_ dX0_answerOf_244
    subst s_13_60; exact ⟨rfl, rfl⟩
  by_cases s_13_70 : b = 70
  · refine lv_lookup (off := 232) (tgt := 245) hx hb dX0_answerOf_13 (by decide) (by rw [s_13_70] <;> rfl) (by decide) ?_
    refine lv_aload_n hx hb dX0_answerOf_245 rfl (lv_at hl 2 rfl) ?_
    refine lv_aload_n hx hb dX0_answerOf_246 rfl (lv_at hl 4 rfl) ?_
    refine lv_iconst (v := 0) hx hb dX0_answerOf_247 (by decide) ?_
    refine lv_iload_n hx hb dX0_answerOf_248 rfl (lv_at hl 5 rfl) ?_
    refine lv_iload hx hb dX0_answerOf_249 (lv_at hl 6 rfl) ?_
    refine lv_iload hx hb dX0_answerOf_251 (lv_at hl 7 rfl) ?_
    refine f_iV (n := 5) X hP hS [.ref (fad E w), .int 0, .int ab, .int x, .int (nI dp)] [] (ihr M L w 0 ab x (nI dp) dp hk_w rfl (by omega)) m_4_125 wi_X0_run rfl rfl (by decide) (by decide +kernel) ⟨by simp only [fRm]; omega, by simp only [fRm]; omega⟩ rfl hl rfl (Nat.le_of_ble_eq_true rfl) ⟨Nat.zero_le _, Nat.zero_le _⟩ dX0_answerOf_253 (fun H locs hP hS => ?_)
    refine lv_iconst (v := 2) hx hb dX0_answerOf_256 (by decide) ?_
    refine lv_imul hx hb dX0_answerOf_257 ?_
    refine f_ir X hlk hr (v := (((runV (M w 0) (M w 2) (M w 1) n 0 ab x M).1) * 2)) rfl hP hS ?_ dX0_answerOf_258
    subst s_13_70; exact ⟨rfl, rfl⟩
  refine lv_lookup (off := 246) (tgt := 259) hx hb dX0_answerOf_13 (by decide) ((lv_osw (a := 10) s_13_10 rfl).trans ((lv_osw (a := 11) s_13_11 rfl).trans ((lv_osw (a := 12) s_13_12 rfl).trans ((lv_osw (a := 20) s_13_20 rfl).trans ((lv_osw (a := 30) s_13_30 rfl).trans ((lv_osw (a := 40) s_13_40 rfl).trans ((lv_osw (a := 50) s_13_50 rfl).trans ((lv_osw (a := 51) s_13_51 rfl).trans ((lv_osw (a := 60) s_13_60 rfl).trans ((lv_osw (a := 70) s_13_70 rfl).trans rfl)))))))))) (by decide) ?_
  refine lv_aload_n hx hb dX0_answerOf_259 rfl (lv_at hl 2 rfl) ?_
  refine lv_aload_n hx hb dX0_answerOf_260 rfl (lv_at hl 4 rfl) ?_
  refine lv_iconst (v := 1) hx hb dX0_answerOf_261 (by decide) ?_
  refine lv_iload_n hx hb dX0_answerOf_262 rfl (lv_at hl 5 rfl) ?_
  refine lv_iload hx hb dX0_answerOf_263 (lv_at hl 6 rfl) ?_
  refine lv_iload hx hb dX0_answerOf_265 (lv_at hl 0 rfl) ?_
  refine lv_isub hx hb dX0_answerOf_267 ?_
  refine lv_iload hx hb dX0_answerOf_268 (lv_at hl 7 rfl) ?_
  refine f_iV (n := 5) X hP hS [.ref (fad E w), .int 1, .int ab, .int (x - (M w 2)), .int (nI dp)] [] (ihr M L w 1 ab (x - (M w 2)) (nI dp) dp hk_w rfl (by omega)) m_4_125 wi_X0_run rfl rfl (by decide) (by decide +kernel) ⟨by simp only [fRm]; omega, by simp only [fRm]; omega⟩ rfl hl rfl (Nat.le_of_ble_eq_true rfl) ⟨Nat.zero_le _, Nat.zero_le _⟩ dX0_answerOf_270 (fun H locs hP hS => ?_)
  refine f_ir X hlk hr (v := ((runV (M w 0) (M w 2) (M w 1) n 1 ab (x - (M w 2)) M).1)) rfl hP hS ?_ dX0_answerOf_273
  unfold ansV; rw [if_neg s_13_10, if_neg s_13_11, if_neg s_13_12, if_neg s_13_20, if_neg s_13_30, if_neg s_13_40, if_neg s_13_50, if_neg s_13_51, if_neg s_13_60, if_neg s_13_70]; exact ⟨rfl, rfl⟩

set_option maxHeartbeats 4000000 in
set_option maxRecDepth 100000 in
theorem c_X0_run (l : Launch) (E : fE) (n : Nat) (iha : ∀ n1, n1 < n → ∀ (M : Nat → Nat → Int32) (L : Nat → Nat → Int64) (b : Int32) (w : Nat) (ab : Int32) (x : Int32) (dp1 : Int32) (dp : Nat) (hk_w : fsh w = 6) (ed : dp1 = nI dp) (hd : dp + n1 = 13), Met l yX0_answerOf (wl yX0_answerOf cX0_answerOf 8 (some .int)) (fRm (2 * n1 + 5) (54 * n1 + 127)) (va_Pc [.ref (fad E 83), .int b, .ref (fad E w), .int ab, .int x, .int dp1] (fPre E M L)) (fQi E (fun r u => u = ((ansV (M w 0) (M w 2) (M w 1) n1 b ab x M).2, L) ∧ r = (ansV (M w 0) (M w 2) (M w 1) n1 b ab x M).1)) 0 0 (fA E)) (M : Nat → Nat → Int32) (L : Nat → Nat → Int64) (w : Nat) (mv : Int32) (k : Int32) (x : Int32) (dp1 : Int32) (dp : Nat) (hk_w : fsh w = 6) (ed : dp1 = nI dp) (hd : dp + n = 13) : Met l yX0_run (wl yX0_run cX0_run 8 (some .int)) (fRm (2 * n + 4) (54 * n + 100)) (va_Pc [.ref (fad E 83), .ref (fad E w), .int mv, .int k, .int x, .int dp1] (fPre E M L)) (fQi E (fun r u => u = ((runV (M w 0) (M w 2) (M w 1) n mv k x M).2, L) ∧ r = (runV (M w 0) (M w 2) (M w 1) n mv k x M).1)) 0 0 (fA E) := by
  refine f_head (by decide) (Nat.le_of_ble_eq_true rfl) ?_
  intro pg ev s mi below meth cd ls X hr hlk hP hS hl
  have hx := X.1.1
  have hb := X.1.2.1
  have hl : lv_has ls 8 [(0, .ref (fad E 83)), (1, .ref (fad E w)), (2, .int mv), (3, .int k), (4, .int x), (5, .int dp1)] := hl
  subst ed
  have hl : lv_has ls 8 [(0, .ref (fad E 83)), (1, .ref (fad E w)), (2, .int mv), (3, .int k), (4, .int x), (5, .int (nI dp))] := hl
  refine lv_iload_n hx hb dX0_run_0 rfl (lv_at hl 2 rfl) ?_
  refine lv_iload_n hx hb dX0_run_1 rfl (lv_at hl 3 rfl) ?_
  refine f_iS (n := 2) X hP hS [.int mv, .int k] [] (c_X0_nextWithBody l E M L mv k) m_4_129 wi_X0_nextWithBody (by decide +kernel) ⟨by simp only [fRm]; omega, by simp only [fRm]; omega⟩ rfl hl rfl (Nat.le_of_ble_eq_true rfl) ⟨Nat.zero_le _, Nat.zero_le _⟩ dX0_run_2 (fun H locs hP hS => ?_)
  refine lv_istore (lv' := [(6, .int (nxI 7 mv k)), (0, .ref (fad E 83)), (1, .ref (fad E w)), (2, .int mv), (3, .int k), (4, .int x), (5, .int (nI dp))]) hx hb dX0_run_5 hl (by decide) rfl (fun ls hl => ?_)
  refine lv_iload hx hb dX0_run_7 (lv_at hl 0 rfl) ?_
  refine lv_iconst (v := (-1)) hx hb dX0_run_9 (by decide) ?_
  refine lv_icmp_eq (tgt := 20) hx hb dX0_run_10 (by decide) (fun c_10 => ?_) (fun c_10 => ?_)
  · refine lv_iconst (v := 0) hx hb dX0_run_20 (by decide) ?_
    refine f_ir X hlk hr (v := 0) rfl hP hS ?_ dX0_run_21
    cases n with
      | zero => exact ⟨rfl, rfl⟩
      | succ n => rw [runV_s, if_pos c_10]; exact ⟨rfl, rfl⟩
  · refine lv_iload hx hb dX0_run_13 (lv_at hl 6 rfl) ?_
    refine lv_bipush (v := 12) hx hb dX0_run_15 (by decide) ?_
    refine lv_icmp_le (tgt := 22) hx hb dX0_run_17 (by decide) (fun c_17 => ?_) (fun c_17 => ?_)
    · have c_17 := (nI_le_iff (a := dp) (b := 12) (by omega) (by omega)).mp c_17
      obtain ⟨n1, rfl⟩ : ∃ n1, n = n1 + 1 := ⟨n - 1, by omega⟩
      have hnx := nxI_rg 7 mv k c_10
      refine lv_iload_n hx hb dX0_run_22 rfl (lv_at hl 3 rfl) ?_
      refine lv_iload hx hb dX0_run_23 (lv_at hl 0 rfl) ?_
      refine f_iS (n := 2) X hP hS [.int mv, .int (nxI 7 mv k)] [] (c_X0_bodyOf l E M L mv (nxI 7 mv k)) m_4_133 wi_X0_bodyOf (by decide +kernel) ⟨by simp only [fRm]; omega, by simp only [fRm]; omega⟩ rfl hl rfl (Nat.le_of_ble_eq_true rfl) ⟨Nat.zero_le _, Nat.zero_le _⟩ dX0_run_25 (fun H locs hP hS => ?_)
      refine lv_istore (lv' := [(7, .int (bodyI mv (nxI 7 mv k))), (6, .int (nxI 7 mv k)), (0, .ref (fad E 83)), (1, .ref (fad E w)), (2, .int mv), (3, .int k), (4, .int x), (5, .int (nI dp))]) hx hb dX0_run_28 hl (by decide) rfl (fun ls hl => ?_)
      refine lv_aload_n hx hb dX0_run_30 rfl (lv_at hl 2 rfl) ?_
      refine lv_iload hx hb dX0_run_31 (lv_at hl 0 rfl) ?_
      refine f_vV (n := 1) X hP hS [.int (bodyI mv (nxI 7 mv k))] [] (c_X0_begin l E M L (bodyI mv (nxI 7 mv k))) m_4_140 wi_X0_begin rfl rfl (by decide) (by decide +kernel) ⟨by simp only [fRm]; omega, by simp only [fRm]; omega⟩ rfl hl rfl (Nat.le_of_ble_eq_true rfl) ⟨Nat.zero_le _, Nat.zero_le _⟩ dX0_run_33 (fun H locs hP hS => ?_)
      have bw : ∀ j, beginM M (bodyI mv (nxI 7 mv k)) w j = M w j := fun j => frB.begin w j (by rintro rfl; exact absurd hk_w (by decide)) (by rintro rfl; exact absurd hk_w (by decide))
      refine lv_aload_n hx hb dX0_run_36 rfl (lv_at hl 2 rfl) ?_
      refine lv_iload hx hb dX0_run_37 (lv_at hl 0 rfl) ?_
      refine lv_aload_n hx hb dX0_run_39 rfl (lv_at hl 3 rfl) ?_
      refine va_getsN hx hb (fX.za X) hS X.1.2.2.2.1 (va_Nw.use rfl (fX.n5 X)) (fun _ h9 => h9) dX0_run_40 ?_
      refine lv_iload hx hb dX0_run_43 (lv_at hl 1 rfl) ?_
      refine f_sald X (fX.ta X) hS (q := (nxI 7 mv k).toNatClampNeg) (fIx_le 6 hnx.1 hnx.2 (by decide)) dX0_run_45 ?_
      refine lv_iload hx hb dX0_run_46 (lv_at hl 6 rfl) ?_
      refine lv_iload hx hb dX0_run_48 (lv_at hl 7 rfl) ?_
      refine lv_iconst (v := 1) hx hb dX0_run_50 (by decide) ?_
      refine lv_iadd hx hb dX0_run_51 ?_
      refine f_topI (nI_add dp 1) ?_
      refine f_iV (n := 5) X hP hS [.int (bodyI mv (nxI 7 mv k)), .ref (fad E w), .int (fab ((nxI 7 mv k).toNatClampNeg)), .int x, .int (nI (dp + 1))] [] (iha n1 (by omega) (beginM M (bodyI mv (nxI 7 mv k))) L (bodyI mv (nxI 7 mv k)) w (fab ((nxI 7 mv k).toNatClampNeg)) x (nI (dp + 1)) (dp + 1) hk_w rfl (by omega)) m_4_144 wi_X0_answerOf rfl rfl (by decide) (by decide +kernel) ⟨by simp only [fRm]; omega, by simp only [fRm]; omega⟩ rfl hl rfl (Nat.le_of_ble_eq_true rfl) ⟨Nat.zero_le _, Nat.zero_le _⟩ dX0_run_52 (fun H locs hP hS => ?_)
      refine f_topI (v := (ansV (M w 0) (M w 2) (M w 1) n1 (bodyI mv (nxI 7 mv k)) (fab (nxI 7 mv k).toNatClampNeg) x (beginM M (bodyI mv (nxI 7 mv k)))).1) (by rw [bw 0, bw 1, bw 2]) ?_
      have hP := fP_eq (show (ansV (M w 0) (M w 2) (M w 1) n1 (bodyI mv (nxI 7 mv k)) (fab (nxI 7 mv k).toNatClampNeg) x (beginM M (bodyI mv (nxI 7 mv k)))).2 = (ansV ((beginM M (bodyI mv (nxI 7 mv k))) w 0) ((beginM M (bodyI mv (nxI 7 mv k))) w 2) ((beginM M (bodyI mv (nxI 7 mv k))) w 1) n1 (bodyI mv (nxI 7 mv k)) (fab ((nxI 7 mv k).toNatClampNeg)) x (beginM M (bodyI mv (nxI 7 mv k)))).2 from by
          rw [bw 0, bw 1, bw 2]) hP
      refine f_ir X hlk hr (v := (ansV (M w 0) (M w 2) (M w 1) n1 (bodyI mv (nxI 7 mv k)) (fab (nxI 7 mv k).toNatClampNeg) x (beginM M (bodyI mv (nxI 7 mv k)))).1) rfl hP hS ?_ dX0_run_55
      rw [runV_s, if_neg c_10]; exact ⟨rfl, rfl⟩
    · have c_17 := (not_congr (nI_le_iff (a := dp) (b := 12) (by omega) (by omega))).mp c_17
      refine lv_iconst (v := 0) hx hb dX0_run_20 (by decide) ?_
      refine f_ir X hlk hr (v := 0) rfl hP hS ?_ dX0_run_21
      obtain rfl : n = 0 := by omega
      exact ⟨rfl, rfl⟩

theorem c_X0_run13 (l : Launch) (E : fE) : ∀ n : Nat, ∀ (M : Nat → Nat → Int32) (L : Nat → Nat → Int64) (w : Nat) (mv : Int32) (k : Int32) (x : Int32) (dp1 : Int32) (dp : Nat) (hk_w : fsh w = 6) (ed : dp1 = nI dp) (hd : dp + n = 13), Met l yX0_run (wl yX0_run cX0_run 8 (some .int)) (fRm (2 * n + 4) (54 * n + 100)) (va_Pc [.ref (fad E 83), .ref (fad E w), .int mv, .int k, .int x, .int dp1] (fPre E M L)) (fQi E (fun r u => u = ((runV (M w 0) (M w 2) (M w 1) n mv k x M).2, L) ∧ r = (runV (M w 0) (M w 2) (M w 1) n mv k x M).1)) 0 0 (fA E) := by
  intro n
  induction n using Nat.strongRecOn with
  | ind n ih => exact c_X0_run l E n (fun n1 h1 => c_X0_answerOf l E n1 (ih n1 h1))

set_option maxHeartbeats 4000000 in
set_option maxRecDepth 100000 in
theorem c_X0_start (l : Launch) (E : fE) (M : Nat → Nat → Int32) (L : Nat → Nat → Int64) (w : Nat) (mv : Int32) (x : Int32) (hk_w : fsh w = 6) : Met l yX0_start (wl yX0_start cX0_start 4 (some .int)) (fRm 31 829) (va_Pc [.ref (fad E 83), .ref (fad E w), .int mv, .int x] (fPre E M L)) (fQi E (fun r u => u = ((runV (M w 0) (M w 2) (M w 1) 13 mv (M w 1) x M).2, L) ∧ r = (runV (M w 0) (M w 2) (M w 1) 13 mv (M w 1) x M).1)) 0 0 (fA E) := by
  refine f_head (by decide) (Nat.le_of_ble_eq_true rfl) ?_
  intro pg ev s mi below meth cd ls X hr hlk hP hS hl
  have hx := X.1.1
  have hb := X.1.2.1
  have hl : lv_has ls 4 [(0, .ref (fad E 83)), (1, .ref (fad E w)), (2, .int mv), (3, .int x)] := hl
  refine lv_aload_n hx hb dX0_start_0 rfl (lv_at hl 0 rfl) ?_
  refine lv_aload_n hx hb dX0_start_1 rfl (lv_at hl 1 rfl) ?_
  refine lv_iload_n hx hb dX0_start_2 rfl (lv_at hl 2 rfl) ?_
  refine lv_aload_n hx hb dX0_start_3 rfl (lv_at hl 1 rfl) ?_
  refine f_get X hP (T := TX6) (ci := 6) (k := w) hk_w inX6 rfl 1 (by decide) m_1_80 rfl (v := .int (M w 1)) rfl dX0_start_4 ?_
  refine lv_iload_n hx hb dX0_start_7 rfl (lv_at hl 3 rfl) ?_
  refine lv_iconst (v := 0) hx hb dX0_start_8 (by decide) ?_
  refine f_iV (n := 5) X hP hS [.ref (fad E w), .int mv, .int (M w 1), .int x, .int 0] [] (c_X0_run13 l E 13 M L w mv (M w 1) x 0 0 hk_w rfl rfl) m_4_125 wi_X0_run rfl rfl (by decide) (by decide +kernel) ⟨Nat.le_of_ble_eq_true rfl, Nat.le_of_ble_eq_true rfl⟩ rfl hl rfl (Nat.le_of_ble_eq_true rfl) ⟨Nat.zero_le _, Nat.zero_le _⟩ dX0_start_9 (fun H locs hP hS => ?_)
  exact f_ir X hlk hr (v := ((runV (M w 0) (M w 2) (M w 1) 13 mv (M w 1) x M).1)) rfl hP hS ⟨rfl, rfl⟩ dX0_start_12
