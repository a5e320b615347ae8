set_option maxHeartbeats 4000000 in
set_option maxRecDepth 100000 in
theorem c_J0_coder_7d493 (l : Launch) (E : fE) (M : Nat → Nat → Int32) (L : Nat → Nat → Int64) (iw : Nat) (hiw : iw < 4) : Met l yJ0_coder_7d493 (wl yJ0_coder_7d493 cJ0_coder_7d493 1 (some .byte)) (fRm 0 0) (va_Pc [.ref (fsa E (2 + iw))] (fPre E M L)) (fQi E (fun r u => u = (M, L) ∧ r = 0)) 0 0 (fA E) := by
  refine f_head (by decide) (Nat.le_of_ble_eq_true rfl) ?_
  intro pg ev s mi below meth cd ls X hr hlk hP hS hl
  have hx := X.1.1
  have hb := X.1.2.1
  have hl : lv_has ls 1 [(0, .ref (fsa E (2 + iw)))] := hl
  refine va_gets hx hb (fX.zc X) hS X.1.2.2.2.1 (X.ht m_3_27) (fun _ h9 => h9) dJ0_coder_7d493_0 ?_
  refine lv_if_eq (tgt := 13) hx hb dJ0_coder_7d493_3 (by decide) (fun c_3 => absurd c_3 (by decide)) (fun _ => ?_)
  refine lv_aload_n hx hb dJ0_coder_7d493_6 rfl (lv_at hl 0 rfl) ?_
  refine vk_getf hx hb (v := .int 0) ((fX.sk X).1 iw hiw).2.1 hS X.1.2.2.2.1 (X.ht m_6_143) (fun _ h9 => h9) dJ0_coder_7d493_7 ?_
  refine lv_goto (tgt := 14) hx hb dJ0_coder_7d493_10 (by decide) ?_
  exact f_ir X hlk hr (v := 0) rfl hP hS ⟨rfl, rfl⟩ dJ0_coder_7d493_14

set_option maxHeartbeats 4000000 in
set_option maxRecDepth 100000 in
theorem c_J0_isLatin1_aae02 (l : Launch) (E : fE) (M : Nat → Nat → Int32) (L : Nat → Nat → Int64) (iw : Nat) (hiw : iw < 4) : Met l yJ0_isLatin1_aae02 (wl yJ0_isLatin1_aae02 cJ0_isLatin1_aae02 1 (some .boolean)) (fRm 0 0) (va_Pc [.ref (fsa E (2 + iw))] (fPre E M L)) (fQi E (fun r u => u = (M, L) ∧ r = 1)) 0 0 (fA E) := by
  refine f_head (by decide) (Nat.le_of_ble_eq_true rfl) ?_
  intro pg ev s mi below meth cd ls X hr hlk hP hS hl
  have hx := X.1.1
  have hb := X.1.2.1
  have hl : lv_has ls 1 [(0, .ref (fsa E (2 + iw)))] := hl
  refine va_gets hx hb (fX.zc X) hS X.1.2.2.2.1 (X.ht m_3_27) (fun _ h9 => h9) dJ0_isLatin1_aae02_0 ?_
  refine lv_if_eq (tgt := 17) hx hb dJ0_isLatin1_aae02_3 (by decide) (fun c_3 => absurd c_3 (by decide)) (fun _ => ?_)
  refine lv_aload_n hx hb dJ0_isLatin1_aae02_6 rfl (lv_at hl 0 rfl) ?_
  refine vk_getf hx hb (v := .int 0) ((fX.sk X).1 iw hiw).2.1 hS X.1.2.2.2.1 (X.ht m_6_143) (fun _ h9 => h9) dJ0_isLatin1_aae02_7 ?_
  refine lv_if_ne (tgt := 17) hx hb dJ0_isLatin1_aae02_10 (by decide) (fun c_10 => absurd c_10 (by decide)) (fun _ => ?_)
  refine lv_iconst (v := 1) hx hb dJ0_isLatin1_aae02_13 (by decide) ?_
  refine lv_goto (tgt := 18) hx hb dJ0_isLatin1_aae02_14 (by decide) ?_
  exact f_ir X hlk hr (v := 1) rfl hP hS ⟨rfl, rfl⟩ dJ0_isLatin1_aae02_18

set_option maxHeartbeats 4000000 in
set_option maxRecDepth 100000 in
theorem c_J0_length_8abf5 (l : Launch) (E : fE) (M : Nat → Nat → Int32) (L : Nat → Nat → Int64) (iw : Nat) (hiw : iw < 4) : Met l yJ0_length_8abf5 (wl yJ0_length_8abf5 cJ0_length_8abf5 1 (some .int)) (fRm 1 20) (va_Pc [.ref (fsa E (2 + iw))] (fPre E M L)) (fQi E (fun r u => u = (M, L) ∧ r = (nI (fwl.getD iw 0)))) 0 0 (fA E) := by
  refine f_head (by decide) (Nat.le_of_ble_eq_true rfl) ?_
  intro pg ev s mi below meth cd ls X hr hlk hP hS hl
  have hx := X.1.1
  have hb := X.1.2.1
  have hl : lv_has ls 1 [(0, .ref (fsa E (2 + iw)))] := hl
  refine lv_aload_n hx hb dJ0_length_8abf5_0 rfl (lv_at hl 0 rfl) ?_
  refine vk_getf hx hb (v := .ref (fsa E (6 + iw))) ((fX.sk X).1 iw hiw).2.2.1 hS X.1.2.2.2.1 (X.ht m_6_142) (fun _ h9 => h9) dJ0_length_8abf5_1 ?_
  refine f_slen X ((fX.sk X).1 iw hiw).2.2.2 hS (v := (nI (fwl.getD iw 0))) rfl dJ0_length_8abf5_4 ?_
  refine lv_aload_n hx hb dJ0_length_8abf5_5 rfl (lv_at hl 0 rfl) ?_
  refine f_iVr (n := 0) X hP hS [] [.int (nI (fwl.getD iw 0))] (c_J0_coder_7d493 l E M L iw hiw) m_3_23 wi_J0_coder_7d493 (vk_recv (fX.sk X) (i := iw) hiw hS) (by decide +kernel) ⟨Nat.le_of_ble_eq_true rfl, Nat.le_of_ble_eq_true rfl⟩ rfl hl rfl (Nat.le_of_ble_eq_true rfl) ⟨Nat.zero_le _, Nat.zero_le _⟩ dJ0_length_8abf5_6 (fun H locs hP hS => ?_)
  refine lv_ishr hx hb dJ0_length_8abf5_9 ?_
  refine f_ir X hlk hr (v := ((nI (fwl.getD iw 0)) >>> (0 &&& 31))) rfl hP hS ?_ dJ0_length_8abf5_10
  exact ⟨rfl, (show ∀ iw, iw < 4 → nI (fwl.getD iw 0) >>> (0 &&& 31) = nI (fwl.getD iw 0) by decide +kernel) iw hiw⟩

set_option maxHeartbeats 4000000 in
set_option maxRecDepth 100000 in
theorem c_J3_checkIndex_8e157 (l : Launch) (E : fE) (M : Nat → Nat → Int32) (L : Nat → Nat → Int64) (i : Int32) (n : Int32) (f : Nat) (j N : Nat) (ei : i = nI j) (en : n = nI N) (hj : j < N) (hN : N < 100) : Met l yJ3_checkIndex_8e157 (wl yJ3_checkIndex_8e157 cJ3_checkIndex_8e157 3 (some .int)) (fRm 0 0) (va_Pc [.int i, .int n, .ref f] (fPre E M L)) (fQi E (fun r u => u = (M, L) ∧ r = i)) 0 0 (fA E) := by
  refine f_head (by decide) (Nat.le_of_ble_eq_true rfl) ?_
  intro pg ev s mi below meth cd ls X hr hlk hP hS hl
  have hx := X.1.1
  have hb := X.1.2.1
  have hl : lv_has ls 3 [(0, .int i), (1, .int n), (2, .ref f)] := hl
  subst ei en
  have hl : lv_has ls 3 [(0, .int (nI j)), (1, .int (nI N)), (2, .ref f)] := hl
  refine lv_iload_n hx hb dJ3_checkIndex_8e157_0 rfl (lv_at hl 0 rfl) ?_
  refine lv_if_lt (tgt := 9) hx hb dJ3_checkIndex_8e157_1 (by decide) (fun c_1 => ?_) (fun c_1 => ?_)
  · have c_1 := (nI_lt_iff (a := j) (b := 0) (by omega) (by omega)).mp c_1
    exact absurd c_1 (by omega)
  · have c_1 := (not_congr (nI_lt_iff (a := j) (b := 0) (by omega) (by omega))).mp c_1
    refine lv_iload_n hx hb dJ3_checkIndex_8e157_4 rfl (lv_at hl 0 rfl) ?_
    refine lv_iload_n hx hb dJ3_checkIndex_8e157_5 rfl (lv_at hl 1 rfl) ?_
    refine lv_icmp_lt (tgt := 16) hx hb dJ3_checkIndex_8e157_6 (by decide) (fun c_6 => ?_) (fun c_6 => ?_)
    · have c_6 := (nI_lt_iff (a := j) (b := N) (by omega) (by omega)).mp c_6
      refine lv_iload_n hx hb dJ3_checkIndex_8e157_16 rfl (lv_at hl 0 rfl) ?_
      exact f_ir X hlk hr (v := (nI j)) rfl hP hS ⟨rfl, rfl⟩ dJ3_checkIndex_8e157_17
    · have c_6 := (not_congr (nI_lt_iff (a := j) (b := N) (by omega) (by omega))).mp c_6
      exact absurd hj c_6

set_option maxHeartbeats 4000000 in
set_option maxRecDepth 100000 in
theorem c_J3n (l : Launch) (E : fE) (M : Nat → Nat → Int32) (L : Nat → Nat → Int64) (i : Int32) (n : Int32) (j N : Nat) (ei : i = nI j) (en : n = nI N) (hj : j < N) (hN : N < 100) : Met l yJ3_checkIndex_8e157 (wl yJ3_checkIndex_8e157 cJ3_checkIndex_8e157 3 (some .int)) (fRm 0 0) (va_Pc [.int i, .int n, .null] (fPre E M L)) (fQi E (fun r u => u = (M, L) ∧ r = i)) 0 0 (fA E) := by
  refine f_head (by decide) (Nat.le_of_ble_eq_true rfl) ?_
  intro pg ev s mi below meth cd ls X hr hlk hP hS hl
  have hx := X.1.1
  have hb := X.1.2.1
  have hl : lv_has ls 3 [(0, .int i), (1, .int n), (2, .null)] := hl
  subst ei en
  have hl : lv_has ls 3 [(0, .int (nI j)), (1, .int (nI N)), (2, .null)] := hl
  refine lv_iload_n hx hb dJ3_checkIndex_8e157_0 rfl (lv_at hl 0 rfl) ?_
  refine lv_if_lt (tgt := 9) hx hb dJ3_checkIndex_8e157_1 (by decide) (fun c_1 => ?_) (fun c_1 => ?_)
  · have c_1 := (nI_lt_iff (a := j) (b := 0) (by omega) (by omega)).mp c_1
    exact absurd c_1 (by omega)
  · have c_1 := (not_congr (nI_lt_iff (a := j) (b := 0) (by omega) (by omega))).mp c_1
    refine lv_iload_n hx hb dJ3_checkIndex_8e157_4 rfl (lv_at hl 0 rfl) ?_
    refine lv_iload_n hx hb dJ3_checkIndex_8e157_5 rfl (lv_at hl 1 rfl) ?_
    refine lv_icmp_lt (tgt := 16) hx hb dJ3_checkIndex_8e157_6 (by decide) (fun c_6 => ?_) (fun c_6 => ?_)
    · have c_6 := (nI_lt_iff (a := j) (b := N) (by omega) (by omega)).mp c_6
      refine lv_iload_n hx hb dJ3_checkIndex_8e157_16 rfl (lv_at hl 0 rfl) ?_
      exact f_ir X hlk hr (v := (nI j)) rfl hP hS ⟨rfl, rfl⟩ dJ3_checkIndex_8e157_17
    · have c_6 := (not_congr (nI_lt_iff (a := j) (b := N) (by omega) (by omega))).mp c_6
      exact absurd hj c_6

set_option maxHeartbeats 4000000 in
set_option maxRecDepth 100000 in
theorem c_J0_checkIndex_df160 (l : Launch) (E : fE) (M : Nat → Nat → Int32) (L : Nat → Nat → Int64) (i : Int32) (n : Int32) (j N : Nat) (ei : i = nI j) (en : n = nI N) (hj : j < N) (hN : N < 100) : Met l yJ0_checkIndex_df160 (wl yJ0_checkIndex_df160 cJ0_checkIndex_df160 2 none) (fRm 1 22) (va_Pc [.int i, .int n] (fPre E M L)) (fQv E (fun u => u = (M, L))) 0 0 (fA E) := by
  refine f_head (by decide) (Nat.le_of_ble_eq_true rfl) ?_
  intro pg ev s mi below meth cd ls X hr hlk hP hS hl
  have hx := X.1.1
  have hb := X.1.2.1
  have hl : lv_has ls 2 [(0, .int i), (1, .int n)] := hl
  subst ei en
  have hl : lv_has ls 2 [(0, .int (nI j)), (1, .int (nI N))] := hl
  refine lv_iload_n hx hb dJ0_checkIndex_df160_0 rfl (lv_at hl 0 rfl) ?_
  refine lv_iload_n hx hb dJ0_checkIndex_df160_1 rfl (lv_at hl 1 rfl) ?_
  rcases fX.zf X with hz | ⟨t9, hz⟩
  · refine va_gets hx hb hz hS X.1.2.2.2.1 (X.ht m_3_43) (fun _ h9 => h9) dJ0_checkIndex_df160_2 ?_
    refine f_iS (n := 3) X hP hS [.int (nI j), .int (nI N), .null] [] (c_J3n l E M L (nI j) (nI N) j N rfl rfl hj hN) m_3_45 wi_J3_checkIndex_8e157 (by decide +kernel) ⟨Nat.le_of_ble_eq_true rfl, Nat.le_of_ble_eq_true rfl⟩ rfl hl rfl (Nat.le_of_ble_eq_true rfl) ⟨Nat.zero_le _, Nat.zero_le _⟩ dJ0_checkIndex_df160_5 (fun H locs hP hS => ?_)
    refine lv_pop hx hb dJ0_checkIndex_df160_8 rfl ?_
    exact f_vr X hlk hr hP hS rfl dJ0_checkIndex_df160_9
  · refine va_gets hx hb hz hS X.1.2.2.2.1 (X.ht m_3_43) (fun _ h9 => h9) dJ0_checkIndex_df160_2 ?_
    refine f_iS (n := 3) X hP hS [.int (nI j), .int (nI N), .ref t9] [] (c_J3_checkIndex_8e157 l E M L (nI j) (nI N) t9 j N rfl rfl hj hN) m_3_45 wi_J3_checkIndex_8e157 (by decide +kernel) ⟨Nat.le_of_ble_eq_true rfl, Nat.le_of_ble_eq_true rfl⟩ rfl hl rfl (Nat.le_of_ble_eq_true rfl) ⟨Nat.zero_le _, Nat.zero_le _⟩ dJ0_checkIndex_df160_5 (fun H locs hP hS => ?_)
    refine lv_pop hx hb dJ0_checkIndex_df160_8 rfl ?_
    exact f_vr X hlk hr hP hS rfl dJ0_checkIndex_df160_9

set_option maxHeartbeats 4000000 in
set_option maxRecDepth 100000 in
theorem c_J1_charAt_3b067 (l : Launch) (E : fE) (M : Nat → Nat → Int32) (L : Nat → Nat → Int64) (iw : Nat) (i : Int32) (j : Nat) (hiw : iw < 4) (ei : i = nI j) (hj : j < fwl.getD iw 0) : Met l yJ1_charAt_3b067 (wl yJ1_charAt_3b067 cJ1_charAt_3b067 2 (some .char)) (fRm 2 43) (va_Pc [.ref (fsa E (6 + iw)), .int i] (fPre E M L)) (fQi E (fun r u => u = (M, L) ∧ r = ((fwb.getD iw []).getD j 0))) 0 0 (fA E) := by
  refine f_head (by decide) (Nat.le_of_ble_eq_true rfl) ?_
  intro pg ev s mi below meth cd ls X hr hlk hP hS hl
  have hx := X.1.1
  have hb := X.1.2.1
  have hl : lv_has ls 2 [(0, .ref (fsa E (6 + iw))), (1, .int i)] := hl
  subst ei
  have hl : lv_has ls 2 [(0, .ref (fsa E (6 + iw))), (1, .int (nI j))] := hl
  refine lv_iload_n hx hb dJ1_charAt_3b067_0 rfl (lv_at hl 1 rfl) ?_
  refine lv_aload_n hx hb dJ1_charAt_3b067_1 rfl (lv_at hl 0 rfl) ?_
  refine f_slen X ((fX.sk X).1 iw hiw).2.2.2 hS (v := (nI (fwl.getD iw 0))) rfl dJ1_charAt_3b067_2 ?_
  refine f_vS (n := 2) X hP hS [.int (nI j), .int (nI (fwl.getD iw 0))] [] (c_J0_checkIndex_df160 l E M L (nI j) (nI (fwl.getD iw 0)) j (fwl.getD iw 0) rfl rfl hj ((show ∀ iw, iw < 4 → fwl.getD iw 0 < 100 by decide +kernel) iw hiw)) m_3_40 wi_J0_checkIndex_df160 (by decide +kernel) ⟨Nat.le_of_ble_eq_true rfl, Nat.le_of_ble_eq_true rfl⟩ rfl hl rfl (Nat.le_of_ble_eq_true rfl) ⟨Nat.zero_le _, Nat.zero_le _⟩ dJ1_charAt_3b067_3 (fun H locs hP hS => ?_)
  refine lv_aload_n hx hb dJ1_charAt_3b067_6 rfl (lv_at hl 0 rfl) ?_
  refine lv_iload_n hx hb dJ1_charAt_3b067_7 rfl (lv_at hl 1 rfl) ?_
  refine f_sbald X ((fX.sk X).1 iw hiw).2.2.2 hS (q := j) (fIx_nI hj ((show ∀ iw, iw < 4 → fwl.getD iw 0 < 2 ^ 31 by decide +kernel) iw hiw)) dJ1_charAt_3b067_8 ?_
  refine lv_sipush (v := 255) hx hb dJ1_charAt_3b067_9 (by decide) ?_
  refine lv_iand hx hb dJ1_charAt_3b067_12 ?_
  refine lv_i2c (v := (((((fwb.getD iw []).getD j 0) &&& 255).toUInt32 % 65536).toInt32)) hx hb dJ1_charAt_3b067_13 rfl ?_
  refine f_ir X hlk hr (v := (((((fwb.getD iw []).getD j 0) &&& 255).toUInt32 % 65536).toInt32)) (ch_nar hiw hj) hP hS ?_ dJ1_charAt_3b067_14
  exact ⟨rfl, ch_eq hiw hj⟩

set_option maxHeartbeats 4000000 in
set_option maxRecDepth 100000 in
theorem c_J0_charAt_5068e (l : Launch) (E : fE) (M : Nat → Nat → Int32) (L : Nat → Nat → Int64) (iw : Nat) (i : Int32) (j : Nat) (hiw : iw < 4) (ei : i = nI j) (hj : j < fwl.getD iw 0) : Met l yJ0_charAt_5068e (wl yJ0_charAt_5068e cJ0_charAt_5068e 2 (some .char)) (fRm 4 85) (va_Pc [.ref (fsa E (2 + iw)), .int i] (fPre E M L)) (fQi E (fun r u => u = (M, L) ∧ r = ((fwb.getD iw []).getD j 0))) 0 0 (fA E) := by
  refine f_head (by decide) (Nat.le_of_ble_eq_true rfl) ?_
  intro pg ev s mi below meth cd ls X hr hlk hP hS hl
  have hx := X.1.1
  have hb := X.1.2.1
  have hl : lv_has ls 2 [(0, .ref (fsa E (2 + iw))), (1, .int i)] := hl
  subst ei
  have hl : lv_has ls 2 [(0, .ref (fsa E (2 + iw))), (1, .int (nI j))] := hl
  refine lv_aload_n hx hb dJ0_charAt_5068e_0 rfl (lv_at hl 0 rfl) ?_
  refine f_iVr (n := 0) X hP hS [] [] (c_J0_isLatin1_aae02 l E M L iw hiw) m_3_33 wi_J0_isLatin1_aae02 (vk_recv (fX.sk X) (i := iw) hiw hS) (by decide +kernel) ⟨Nat.le_of_ble_eq_true rfl, Nat.le_of_ble_eq_true rfl⟩ rfl hl rfl (Nat.le_of_ble_eq_true rfl) ⟨Nat.zero_le _, Nat.zero_le _⟩ dJ0_charAt_5068e_1 (fun H locs hP hS => ?_)
  refine lv_if_eq (tgt := 16) hx hb dJ0_charAt_5068e_4 (by decide) (fun c_4 => absurd c_4 (by decide)) (fun _ => ?_)
  refine lv_aload_n hx hb dJ0_charAt_5068e_7 rfl (lv_at hl 0 rfl) ?_
  refine vk_getf hx hb (v := .ref (fsa E (6 + iw))) ((fX.sk X).1 iw hiw).2.2.1 hS X.1.2.2.2.1 (X.ht m_6_142) (fun _ h9 => h9) dJ0_charAt_5068e_8 ?_
  refine lv_iload_n hx hb dJ0_charAt_5068e_11 rfl (lv_at hl 1 rfl) ?_
  refine f_iS (n := 2) X hP hS [.ref (fsa E (6 + iw)), .int (nI j)] [] (c_J1_charAt_3b067 l E M L iw (nI j) j hiw rfl hj) m_3_37 wi_J1_charAt_3b067 (by decide +kernel) ⟨Nat.le_of_ble_eq_true rfl, Nat.le_of_ble_eq_true rfl⟩ rfl hl rfl (Nat.le_of_ble_eq_true rfl) ⟨Nat.zero_le _, Nat.zero_le _⟩ dJ0_charAt_5068e_12 (fun H locs hP hS => ?_)
  exact f_ir X hlk hr (v := ((fwb.getD iw []).getD j 0)) (ch_nar2 hiw hj) hP hS ⟨rfl, rfl⟩ dJ0_charAt_5068e_15
