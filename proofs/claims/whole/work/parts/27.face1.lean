set_option maxHeartbeats 4000000 in
set_option maxRecDepth 100000 in
theorem c_X7_refuse (l : Launch) (E : fE) (M : Nat → Nat → Int32) (L : Nat → Nat → Int64) (rf : Int32) : Met l yX7_refuse (wl yX7_refuse cX7_refuse 3 (some .int)) (fRm 1 22) (va_Pc [.ref (fad E 0), .int rf] (fPre E M L)) (fQi E (fun r u => u = ((rfM M rf), L) ∧ r = rf)) 0 0 (fA E) := by
  refine f_head (by decide) (Nat.le_of_ble_eq_true rfl) ?_
  intro pg ev s mi below meth cd ls X hr hlk hP hS hl
  have hx := X.1.1
  have hb := X.1.2.1
  have hl : lv_has ls 3 [(0, .ref (fad E 0)), (1, .int rf)] := hl
  refine lv_iload_n hx hb dX7_refuse_0 rfl (lv_at hl 1 rfl) ?_
  refine lv_ineg hx hb dX7_refuse_1 ?_
  refine lv_istore_n (lv' := [(2, .int (-rf)), (0, .ref (fad E 0)), (1, .int rf)]) hx hb dX7_refuse_2 rfl hl (by decide) rfl (fun ls hl => ?_)
  refine lv_iload_n hx hb dX7_refuse_3 rfl (lv_at hl 0 rfl) ?_
  refine lv_iconst (v := 1) hx hb dX7_refuse_4 (by decide) ?_
  refine lv_bipush (v := 7) hx hb dX7_refuse_5 (by decide) ?_
  refine f_iS (n := 3) X hP hS [.int (-rf), .int 1, .int 7] [] (c_X7_within l E M L (-rf) 1 7) m_2_26 wi_X7_within (by decide +kernel) ⟨Nat.le_of_ble_eq_true rfl, Nat.le_of_ble_eq_true rfl⟩ rfl hl rfl (Nat.le_of_ble_eq_true rfl) ⟨Nat.zero_le _, Nat.zero_le _⟩ dX7_refuse_7 (fun H locs hP hS => ?_)
  refine lv_if_eq (tgt := 23) hx hb dX7_refuse_10 (by decide) (fun c_10 => ?_) (fun c_10 => ?_)
  · have c_10 := bI0 c_10
    refine lv_iload_n hx hb dX7_refuse_23 rfl (lv_at hl 2 rfl) ?_
    refine f_ir X hlk hr (v := rf) rfl hP hS ?_ dX7_refuse_24
    unfold rfM; rw [if_neg c_10]; exact ⟨rfl, rfl⟩
  · have c_10 := bI1 c_10
    have hlt_r : (-rf).toNatClampNeg < 8 := (fIx_le 7 (Int32.le_trans (by decide) c_10.1) c_10.2 (by decide)).2.2
    refine lv_aload_n hx hb dX7_refuse_13 rfl (lv_at hl 1 rfl) ?_
    refine f_get X hP (T := TX7) (ci := 7) (k := 0) rfl inX7 rfl 6 (by decide) m_1_237 rfl (v := .ref (fad E 85)) rfl dX7_refuse_14 ?_
    refine lv_iload_n hx hb dX7_refuse_17 rfl (lv_at hl 0 rfl) ?_
    refine lv_dup2_11 hx hb dX7_refuse_18 rfl rfl ?_
    refine f_iald X hP (k := 85) (n := 8) (q := (-rf).toNatClampNeg) rfl rfl (fIx_le 7 (Int32.le_trans (by decide) c_10.1) c_10.2 (by decide)) dX7_refuse_19 ?_
    refine lv_iconst (v := 1) hx hb dX7_refuse_20 (by decide) ?_
    refine lv_iadd hx hb dX7_refuse_21 ?_
    refine f_iast X hP hS (k := 85) (n := 8) (q := (-rf).toNatClampNeg) rfl rfl (v := ((M 85 ((-rf).toNatClampNeg)) + 1)) (fIx_le 7 (Int32.le_trans (by decide) c_10.1) c_10.2 (by decide)) dX7_refuse_22 (fun H locs hP hS => ?_)
    refine lv_iload_n hx hb dX7_refuse_23 rfl (lv_at hl 2 rfl) ?_
    refine f_ir X hlk hr (v := rf) rfl hP hS ?_ dX7_refuse_24
    unfold rfM; rw [if_pos c_10]; exact ⟨rfl, rfl⟩

set_option maxHeartbeats 4000000 in
set_option maxRecDepth 100000 in
theorem c_X7_refuseApart (l : Launch) (E : fE) (M : Nat → Nat → Int32) (L : Nat → Nat → Int64) (rf : Int32) : Met l yX7_refuseApart (wl yX7_refuseApart cX7_refuseApart 2 (some .int)) (fRm 2 44) (va_Pc [.ref (fad E 0), .int rf] (fPre E M L)) (fQi E (fun r u => u = ((rfM M rf), L) ∧ r = (rf - 10))) 0 0 (fA E) := by
  refine f_head (by decide) (Nat.le_of_ble_eq_true rfl) ?_
  intro pg ev s mi below meth cd ls X hr hlk hP hS hl
  have hx := X.1.1
  have hb := X.1.2.1
  have hl : lv_has ls 2 [(0, .ref (fad E 0)), (1, .int rf)] := hl
  refine lv_aload_n hx hb dX7_refuseApart_0 rfl (lv_at hl 0 rfl) ?_
  refine lv_iload_n hx hb dX7_refuseApart_1 rfl (lv_at hl 1 rfl) ?_
  refine f_iV (n := 1) X hP hS [.int rf] [] (c_X7_refuse l E M L rf) m_2_29 wi_X7_refuse rfl rfl (by decide) (by decide +kernel) ⟨Nat.le_of_ble_eq_true rfl, Nat.le_of_ble_eq_true rfl⟩ rfl hl rfl (Nat.le_of_ble_eq_true rfl) ⟨Nat.zero_le _, Nat.zero_le _⟩ dX7_refuseApart_2 (fun H locs hP hS => ?_)
  refine lv_bipush (v := 10) hx hb dX7_refuseApart_5 (by decide) ?_
  refine lv_isub hx hb dX7_refuseApart_7 ?_
  exact f_ir X hlk hr (v := (rf - 10)) rfl hP hS ⟨rfl, rfl⟩ dX7_refuseApart_8

set_option maxHeartbeats 4000000 in
set_option maxRecDepth 100000 in
theorem c_X7_rowRefusal (l : Launch) (E : fE) (M : Nat → Nat → Int32) (L : Nat → Nat → Int64) (s1 : Int32) : Met l yX7_rowRefusal (wl yX7_rowRefusal cX7_rowRefusal 2 (some .int)) (fRm 2 42) (va_Pc [.ref (fad E 0), .int s1] (fPre E M L)) (fQi E (fun r u => u = (M, L) ∧ r = rrI M s1)) 0 0 (fA E) := by
  refine f_head (by decide) (Nat.le_of_ble_eq_true rfl) ?_
  intro pg ev s mi below meth cd ls X hr hlk hP hS hl
  have hx := X.1.1
  have hb := X.1.2.1
  have hl : lv_has ls 2 [(0, .ref (fad E 0)), (1, .int s1)] := hl
  refine lv_iload_n hx hb dX7_rowRefusal_0 rfl (lv_at hl 1 rfl) ?_
  refine f_iS (n := 1) X hP hS [.int s1] [] (c_X7_isShelf l E M L s1) m_2_23 wi_X7_isShelf (by decide +kernel) ⟨Nat.le_of_ble_eq_true rfl, Nat.le_of_ble_eq_true rfl⟩ rfl hl rfl (Nat.le_of_ble_eq_true rfl) ⟨Nat.zero_le _, Nat.zero_le _⟩ dX7_rowRefusal_1 (fun H locs hP hS => ?_)
  refine lv_if_ne (tgt := 9) hx hb dX7_rowRefusal_4 (by decide) (fun c_4 => ?_) (fun c_4 => ?_)
  · have c_4 := bI1 c_4
    have hlt_s1 : s1.toNatClampNeg < 8 := (fIx_le 7 c_4.1 c_4.2 (by decide)).2.2
    refine lv_aload_n hx hb dX7_rowRefusal_9 rfl (lv_at hl 0 rfl) ?_
    refine f_get X hP (T := TX7) (ci := 7) (k := 0) rfl inX7 rfl 0 (by decide) m_1_231 rfl (v := .ref (fad E 1)) rfl dX7_rowRefusal_10 ?_
    refine lv_iload_n hx hb dX7_rowRefusal_13 rfl (lv_at hl 1 rfl) ?_
    refine f_aald X hP (t := 11) (d := 1) (n := 8) (r := s1.toNatClampNeg) rfl rfl (.inl ⟨rfl, rfl⟩) (fIx_le 7 c_4.1 c_4.2 (by decide)) (2 + s1.toNatClampNeg) (by omega) dX7_rowRefusal_14 ?_
    refine f_iV (n := 0) X hP hS [] [] (c_X4_isRow l E M L (2 + s1.toNatClampNeg) (sh_sh (by omega))) m_2_45 wi_X4_isRow (sh_sh (by omega)) rfl (by decide) (by decide +kernel) ⟨Nat.le_of_ble_eq_true rfl, Nat.le_of_ble_eq_true rfl⟩ rfl hl rfl (Nat.le_of_ble_eq_true rfl) ⟨Nat.zero_le _, Nat.zero_le _⟩ dX7_rowRefusal_15 (fun H locs hP hS => ?_)
    refine lv_if_eq (tgt := 23) hx hb dX7_rowRefusal_18 (by decide) (fun c_18 => ?_) (fun c_18 => ?_)
    · have c_18 := bI0 c_18
      refine lv_aload_n hx hb dX7_rowRefusal_23 rfl (lv_at hl 0 rfl) ?_
      refine f_get X hP (T := TX7) (ci := 7) (k := 0) rfl inX7 rfl 0 (by decide) m_1_231 rfl (v := .ref (fad E 1)) rfl dX7_rowRefusal_24 ?_
      refine lv_iload_n hx hb dX7_rowRefusal_27 rfl (lv_at hl 1 rfl) ?_
      refine f_aald X hP (t := 11) (d := 1) (n := 8) (r := s1.toNatClampNeg) rfl rfl (.inl ⟨rfl, rfl⟩) (fIx_le 7 c_4.1 c_4.2 (by decide)) (2 + s1.toNatClampNeg) (by omega) dX7_rowRefusal_28 ?_
      refine f_get X hP (T := TX4) (ci := 4) (k := (2 + s1.toNatClampNeg)) (sh_sh (by omega)) inX4 rfl 1 (by decide) m_1_219 rfl (v := .int (M (2 + s1.toNatClampNeg) 1)) rfl dX7_rowRefusal_29 ?_
      refine lv_iconst (v := (-1)) hx hb dX7_rowRefusal_32 (by decide) ?_
      refine lv_icmp_ne (tgt := 41) hx hb dX7_rowRefusal_33 (by decide) (fun c_33 => ?_) (fun c_33 => ?_)
      · refine lv_bipush (v := (-2)) hx hb dX7_rowRefusal_41 (by decide) ?_
        refine f_ir X hlk hr (v := (-2)) rfl hP hS ?_ dX7_rowRefusal_43
        unfold rrI
        (first | rw [if_pos c_4] | rw [if_neg c_4] | rw [if_neg (Bool.eq_false_iff.mp c_4)] | skip)
        (first | rw [if_pos c_18] | rw [if_neg c_18] | rw [if_neg (Bool.eq_false_iff.mp c_18)] | skip)
        (first | rw [if_pos c_33] | rw [if_neg c_33] | rw [if_neg (Bool.eq_false_iff.mp c_33)] | skip)
        (try dsimp only)
        first
          | done
          | exact ⟨rfl, rfl⟩
          | rfl
          | (simp only [c_4, c_18, c_33, if_true, if_false, and_self, and_true, true_and, not_true_eq_false, not_false_eq_true, and_false, false_and, or_true, true_or, or_false, false_or, or_self, Bool.false_eq_true, reduceCtorEq, nl10, nl20, nl30, nl40, nl50, nl60, nl70, nl12, nl13, nl21, nl23, nl31, nl32]; first | done | exact ⟨rfl, rfl⟩ | rfl)
          | contradiction
          | (simp only [c_4, c_18, c_33, if_true, if_false, and_self, and_true, true_and, not_true_eq_false, not_false_eq_true, and_false, false_and, or_true, true_or, or_false, false_or, or_self, Bool.false_eq_true, reduceCtorEq, nl10, nl20, nl30, nl40, nl50, nl60, nl70, nl12, nl13, nl21, nl23, nl31, nl32]; contradiction)
          | (exfalso; simp_all; done)
          | simp_all
      · refine lv_bipush (v := (-3)) hx hb dX7_rowRefusal_36 (by decide) ?_
        refine lv_goto (tgt := 43) hx hb dX7_rowRefusal_38 (by decide) ?_
        refine f_ir X hlk hr (v := (-3)) rfl hP hS ?_ dX7_rowRefusal_43
        unfold rrI
        (first | rw [if_pos c_4] | rw [if_neg c_4] | rw [if_neg (Bool.eq_false_iff.mp c_4)] | skip)
        (first | rw [if_pos c_18] | rw [if_neg c_18] | rw [if_neg (Bool.eq_false_iff.mp c_18)] | skip)
        (first | rw [if_pos c_33] | rw [if_neg c_33] | rw [if_neg (Bool.eq_false_iff.mp c_33)] | skip)
        (try dsimp only)
        first
          | done
          | exact ⟨rfl, rfl⟩
          | rfl
          | (simp only [c_4, c_18, c_33, if_true, if_false, and_self, and_true, true_and, not_true_eq_false, not_false_eq_true, and_false, false_and, or_true, true_or, or_false, false_or, or_self, Bool.false_eq_true, reduceCtorEq, nl10, nl20, nl30, nl40, nl50, nl60, nl70, nl12, nl13, nl21, nl23, nl31, nl32]; first | done | exact ⟨rfl, rfl⟩ | rfl)
          | contradiction
          | (simp only [c_4, c_18, c_33, if_true, if_false, and_self, and_true, true_and, not_true_eq_false, not_false_eq_true, and_false, false_and, or_true, true_or, or_false, false_or, or_self, Bool.false_eq_true, reduceCtorEq, nl10, nl20, nl30, nl40, nl50, nl60, nl70, nl12, nl13, nl21, nl23, nl31, nl32]; contradiction)
          | (exfalso; simp_all; done)
          | simp_all
    · have c_18 := bI1 c_18
      refine lv_iconst (v := 0) hx hb dX7_rowRefusal_21 (by decide) ?_
      refine f_ir X hlk hr (v := 0) rfl hP hS ?_ dX7_rowRefusal_22
      unfold rrI
      (first | rw [if_pos c_4] | rw [if_neg c_4] | rw [if_neg (Bool.eq_false_iff.mp c_4)] | skip)
      (first | rw [if_pos c_18] | rw [if_neg c_18] | rw [if_neg (Bool.eq_false_iff.mp c_18)] | skip)
      (try dsimp only)
      first
        | done
        | exact ⟨rfl, rfl⟩
        | rfl
        | (simp only [c_4, c_18, if_true, if_false, and_self, and_true, true_and, not_true_eq_false, not_false_eq_true, and_false, false_and, or_true, true_or, or_false, false_or, or_self, Bool.false_eq_true, reduceCtorEq, nl10, nl20, nl30, nl40, nl50, nl60, nl70, nl12, nl13, nl21, nl23, nl31, nl32]; first | done | exact ⟨rfl, rfl⟩ | rfl)
        | contradiction
        | (simp only [c_4, c_18, if_true, if_false, and_self, and_true, true_and, not_true_eq_false, not_false_eq_true, and_false, false_and, or_true, true_or, or_false, false_or, or_self, Bool.false_eq_true, reduceCtorEq, nl10, nl20, nl30, nl40, nl50, nl60, nl70, nl12, nl13, nl21, nl23, nl31, nl32]; contradiction)
        | (exfalso; simp_all; done)
        | simp_all
  · have c_4 := bI0 c_4
    refine lv_iconst (v := (-1)) hx hb dX7_rowRefusal_7 (by decide) ?_
    refine f_ir X hlk hr (v := (-1)) rfl hP hS ?_ dX7_rowRefusal_8
    unfold rrI
    (first | rw [if_pos c_4] | rw [if_neg c_4] | rw [if_neg (Bool.eq_false_iff.mp c_4)] | skip)
    (try dsimp only)
    first
      | done
      | exact ⟨rfl, rfl⟩
      | rfl
      | (simp only [c_4, if_true, if_false, and_self, and_true, true_and, not_true_eq_false, not_false_eq_true, and_false, false_and, or_true, true_or, or_false, false_or, or_self, Bool.false_eq_true, reduceCtorEq, nl10, nl20, nl30, nl40, nl50, nl60, nl70, nl12, nl13, nl21, nl23, nl31, nl32]; first | done | exact ⟨rfl, rfl⟩ | rfl)
      | contradiction
      | (simp only [c_4, if_true, if_false, and_self, and_true, true_and, not_true_eq_false, not_false_eq_true, and_false, false_and, or_true, true_or, or_false, false_or, or_self, Bool.false_eq_true, reduceCtorEq, nl10, nl20, nl30, nl40, nl50, nl60, nl70, nl12, nl13, nl21, nl23, nl31, nl32]; contradiction)
      | (exfalso; simp_all; done)
      | simp_all

set_option maxHeartbeats 4000000 in
set_option maxRecDepth 100000 in
theorem c_X7_twoRowsRefusal (l : Launch) (E : fE) (M : Nat → Nat → Int32) (L : Nat → Nat → Int64) (p : Int32) (q : Int32) : Met l yX7_twoRowsRefusal (wl yX7_twoRowsRefusal cX7_twoRowsRefusal 5 (some .int)) (fRm 3 63) (va_Pc [.ref (fad E 0), .int p, .int q] (fPre E M L)) (fQi E (fun r u => u = (M, L) ∧ r = trI M p q)) 0 0 (fA E) := by
  refine f_head (by decide) (Nat.le_of_ble_eq_true rfl) ?_
  intro pg ev s mi below meth cd ls X hr hlk hP hS hl
  have hx := X.1.1
  have hb := X.1.2.1
  have hl : lv_has ls 5 [(0, .ref (fad E 0)), (1, .int p), (2, .int q)] := hl
  refine lv_aload_n hx hb dX7_twoRowsRefusal_0 rfl (lv_at hl 0 rfl) ?_
  refine lv_iload_n hx hb dX7_twoRowsRefusal_1 rfl (lv_at hl 1 rfl) ?_
  refine f_iV (n := 1) X hP hS [.int p] [] (c_X7_rowRefusal l E M L p) m_2_41 wi_X7_rowRefusal rfl rfl (by decide) (by decide +kernel) ⟨Nat.le_of_ble_eq_true rfl, Nat.le_of_ble_eq_true rfl⟩ rfl hl rfl (Nat.le_of_ble_eq_true rfl) ⟨Nat.zero_le _, Nat.zero_le _⟩ dX7_twoRowsRefusal_2 (fun H locs hP hS => ?_)
  refine lv_istore_n (lv' := [(3, .int (rrI M p)), (0, .ref (fad E 0)), (1, .int p), (2, .int q)]) hx hb dX7_twoRowsRefusal_5 rfl hl (by decide) rfl (fun ls hl => ?_)
  refine lv_aload_n hx hb dX7_twoRowsRefusal_6 rfl (lv_at hl 1 rfl) ?_
  refine lv_iload_n hx hb dX7_twoRowsRefusal_7 rfl (lv_at hl 3 rfl) ?_
  refine f_iV (n := 1) X hP hS [.int q] [] (c_X7_rowRefusal l E M L q) m_2_41 wi_X7_rowRefusal rfl rfl (by decide) (by decide +kernel) ⟨Nat.le_of_ble_eq_true rfl, Nat.le_of_ble_eq_true rfl⟩ rfl hl rfl (Nat.le_of_ble_eq_true rfl) ⟨Nat.zero_le _, Nat.zero_le _⟩ dX7_twoRowsRefusal_8 (fun H locs hP hS => ?_)
  refine lv_istore (lv' := [(4, .int (rrI M q)), (3, .int (rrI M p)), (0, .ref (fad E 0)), (1, .int p), (2, .int q)]) hx hb dX7_twoRowsRefusal_11 hl (by decide) rfl (fun ls hl => ?_)
  refine lv_iload_n hx hb dX7_twoRowsRefusal_13 rfl (lv_at hl 1 rfl) ?_
  refine lv_if_ne (tgt := 50) hx hb dX7_twoRowsRefusal_14 (by decide) (fun c_14 => ?_) (fun c_14 => ?_)
  · refine lv_iload_n hx hb dX7_twoRowsRefusal_50 rfl (lv_at hl 1 rfl) ?_
    refine lv_iconst (v := (-1)) hx hb dX7_twoRowsRefusal_51 (by decide) ?_
    refine lv_icmp_eq (tgt := 61) hx hb dX7_twoRowsRefusal_52 (by decide) (fun c_52 => ?_) (fun c_52 => ?_)
    · refine lv_iconst (v := (-1)) hx hb dX7_twoRowsRefusal_61 (by decide) ?_
      refine f_ir X hlk hr (v := (-1)) rfl hP hS ?_ dX7_twoRowsRefusal_62
      unfold trI
      (first | rw [if_pos c_14] | rw [if_neg c_14] | rw [if_neg (Bool.eq_false_iff.mp c_14)] | skip)
      (first | rw [if_pos c_52] | rw [if_neg c_52] | rw [if_neg (Bool.eq_false_iff.mp c_52)] | skip)
      (try dsimp only)
      first
        | done
        | exact ⟨rfl, rfl⟩
        | rfl
        | (simp only [c_14, c_52, if_true, if_false, and_self, and_true, true_and, not_true_eq_false, not_false_eq_true, and_false, false_and, or_true, true_or, or_false, false_or, or_self, Bool.false_eq_true, reduceCtorEq, nl10, nl20, nl30, nl40, nl50, nl60, nl70, nl12, nl13, nl21, nl23, nl31, nl32]; first | done | exact ⟨rfl, rfl⟩ | rfl)
        | contradiction
        | (simp only [c_14, c_52, if_true, if_false, and_self, and_true, true_and, not_true_eq_false, not_false_eq_true, and_false, false_and, or_true, true_or, or_false, false_or, or_self, Bool.false_eq_true, reduceCtorEq, nl10, nl20, nl30, nl40, nl50, nl60, nl70, nl12, nl13, nl21, nl23, nl31, nl32]; contradiction)
        | (exfalso; simp_all; done)
        | simp_all
    · refine lv_iload hx hb dX7_twoRowsRefusal_55 (lv_at hl 0 rfl) ?_
      refine lv_iconst (v := (-1)) hx hb dX7_twoRowsRefusal_57 (by decide) ?_
      refine lv_icmp_ne (tgt := 63) hx hb dX7_twoRowsRefusal_58 (by decide) (fun c_58 => ?_) (fun c_58 => ?_)
      · refine lv_iload_n hx hb dX7_twoRowsRefusal_63 rfl (lv_at hl 1 rfl) ?_
        refine lv_bipush (v := (-2)) hx hb dX7_twoRowsRefusal_64 (by decide) ?_
        refine lv_icmp_eq (tgt := 76) hx hb dX7_twoRowsRefusal_66 (by decide) (fun c_66 => ?_) (fun c_66 => ?_)
        · refine lv_bipush (v := (-2)) hx hb dX7_twoRowsRefusal_76 (by decide) ?_
          refine lv_goto (tgt := 83) hx hb dX7_twoRowsRefusal_78 (by decide) ?_
          refine f_ir X hlk hr (v := (-2)) rfl hP hS ?_ dX7_twoRowsRefusal_83
          unfold trI
          (first | rw [if_pos c_14] | rw [if_neg c_14] | rw [if_neg (Bool.eq_false_iff.mp c_14)] | skip)
          (first | rw [if_pos c_52] | rw [if_neg c_52] | rw [if_neg (Bool.eq_false_iff.mp c_52)] | skip)
          (first | rw [if_pos c_58] | rw [if_neg c_58] | rw [if_neg (Bool.eq_false_iff.mp c_58)] | skip)
          (first | rw [if_pos c_66] | rw [if_neg c_66] | rw [if_neg (Bool.eq_false_iff.mp c_66)] | skip)
          (try dsimp only)
          first
            | done
            | exact ⟨rfl, rfl⟩
            | rfl
            | (simp only [c_14, c_52, c_58, c_66, if_true, if_false, and_self, and_true, true_and, not_true_eq_false, not_false_eq_true, and_false, false_and, or_true, true_or, or_false, false_or, or_self, Bool.false_eq_true, reduceCtorEq, nl10, nl20, nl30, nl40, nl50, nl60, nl70, nl12, nl13, nl21, nl23, nl31, nl32]; first | done | exact ⟨rfl, rfl⟩ | rfl)
            | contradiction
            | (simp only [c_14, c_52, c_58, c_66, if_true, if_false, and_self, and_true, true_and, not_true_eq_false, not_false_eq_true, and_false, false_and, or_true, true_or, or_false, false_or, or_self, Bool.false_eq_true, reduceCtorEq, nl10, nl20, nl30, nl40, nl50, nl60, nl70, nl12, nl13, nl21, nl23, nl31, nl32]; contradiction)
            | (exfalso; simp_all; done)
            | simp_all
        · refine lv_iload hx hb dX7_twoRowsRefusal_69 (lv_at hl 0 rfl) ?_
          refine lv_bipush (v := (-2)) hx hb dX7_twoRowsRefusal_71 (by decide) ?_
          refine lv_icmp_ne (tgt := 81) hx hb dX7_twoRowsRefusal_73 (by decide) (fun c_73 => ?_) (fun c_73 => ?_)
          · refine lv_bipush (v := (-3)) hx hb dX7_twoRowsRefusal_81 (by decide) ?_
            refine f_ir X hlk hr (v := (-3)) rfl hP hS ?_ dX7_twoRowsRefusal_83
            unfold trI
            (first | rw [if_pos c_14] | rw [if_neg c_14] | rw [if_neg (Bool.eq_false_iff.mp c_14)] | skip)
            (first | rw [if_pos c_52] | rw [if_neg c_52] | rw [if_neg (Bool.eq_false_iff.mp c_52)] | skip)
            (first | rw [if_pos c_58] | rw [if_neg c_58] | rw [if_neg (Bool.eq_false_iff.mp c_58)] | skip)
            (first | rw [if_pos c_66] | rw [if_neg c_66] | rw [if_neg (Bool.eq_false_iff.mp c_66)] | skip)
            (first | rw [if_pos c_73] | rw [if_neg c_73] | rw [if_neg (Bool.eq_false_iff.mp c_73)] | skip)
            (try dsimp only)
            first
              | done
              | exact ⟨rfl, rfl⟩
              | rfl
              | (simp only [c_14, c_52, c_58, c_66, c_73, if_true, if_false, and_self, and_true, true_and, not_true_eq_false, not_false_eq_true, and_false, false_and, or_true, true_or, or_false, false_or, or_self, Bool.false_eq_true, reduceCtorEq, nl10, nl20, nl30, nl40, nl50, nl60, nl70, nl12, nl13, nl21, nl23, nl31, nl32]; first | done | exact ⟨rfl, rfl⟩ | rfl)
              | contradiction
              | (simp only [c_14, c_52, c_58, c_66, c_73, if_true, if_false, and_self, and_true, true_and, not_true_eq_false, not_false_eq_true, and_false, false_and, or_true, true_or, or_false, false_or, or_self, Bool.false_eq_true, reduceCtorEq, nl10, nl20, nl30, nl40, nl50, nl60, nl70, nl12, nl13, nl21, nl23, nl31, nl32]; contradiction)
              | (exfalso; simp_all; done)
              | simp_all
          · refine lv_bipush (v := (-2)) hx hb dX7_twoRowsRefusal_76 (by decide) ?_
            refine lv_goto (tgt := 83) hx hb dX7_twoRowsRefusal_78 (by decide) ?_
            refine f_ir X hlk hr (v := (-2)) rfl hP hS ?_ dX7_twoRowsRefusal_83
            unfold trI
            (first | rw [if_pos c_14] | rw [if_neg c_14] | rw [if_neg (Bool.eq_false_iff.mp c_14)] | skip)
            (first | rw [if_pos c_52] | rw [if_neg c_52] | rw [if_neg (Bool.eq_false_iff.mp c_52)] | skip)
            (first | rw [if_pos c_58] | rw [if_neg c_58] | rw [if_neg (Bool.eq_false_iff.mp c_58)] | skip)
            (first | rw [if_pos c_66] | rw [if_neg c_66] | rw [if_neg (Bool.eq_false_iff.mp c_66)] | skip)
            (first | rw [if_pos c_73] | rw [if_neg c_73] | rw [if_neg (Bool.eq_false_iff.mp c_73)] | skip)
            (try dsimp only)
            first
              | done
              | exact ⟨rfl, rfl⟩
              | rfl
              | (simp only [c_14, c_52, c_58, c_66, c_73, if_true, if_false, and_self, and_true, true_and, not_true_eq_false, not_false_eq_true, and_false, false_and, or_true, true_or, or_false, false_or, or_self, Bool.false_eq_true, reduceCtorEq, nl10, nl20, nl30, nl40, nl50, nl60, nl70, nl12, nl13, nl21, nl23, nl31, nl32]; first | done | exact ⟨rfl, rfl⟩ | rfl)
              | contradiction
              | (simp only [c_14, c_52, c_58, c_66, c_73, if_true, if_false, and_self, and_true, true_and, not_true_eq_false, not_false_eq_true, and_false, false_and, or_true, true_or, or_false, false_or, or_self, Bool.false_eq_true, reduceCtorEq, nl10, nl20, nl30, nl40, nl50, nl60, nl70, nl12, nl13, nl21, nl23, nl31, nl32]; contradiction)
              | (exfalso; simp_all; done)
              | simp_all
      · refine lv_iconst (v := (-1)) hx hb dX7_twoRowsRefusal_61 (by decide) ?_
        refine f_ir X hlk hr (v := (-1)) rfl hP hS ?_ dX7_twoRowsRefusal_62
        unfold trI
        (first | rw [if_pos c_14] | rw [if_neg c_14] | rw [if_neg (Bool.eq_false_iff.mp c_14)] | skip)
        (first | rw [if_pos c_52] | rw [if_neg c_52] | rw [if_neg (Bool.eq_false_iff.mp c_52)] | skip)
        (first | rw [if_pos c_58] | rw [if_neg c_58] | rw [if_neg (Bool.eq_false_iff.mp c_58)] | skip)
        (try dsimp only)
        first
          | done
          | exact ⟨rfl, rfl⟩
          | rfl
          | (simp only [c_14, c_52, c_58, if_true, if_false, and_self, and_true, true_and, not_true_eq_false, not_false_eq_true, and_false, false_and, or_true, true_or, or_false, false_or, or_self, Bool.false_eq_true, reduceCtorEq, nl10, nl20, nl30, nl40, nl50, nl60, nl70, nl12, nl13, nl21, nl23, nl31, nl32]; first | done | exact ⟨rfl, rfl⟩ | rfl)
          | contradiction
          | (simp only [c_14, c_52, c_58, if_true, if_false, and_self, and_true, true_and, not_true_eq_false, not_false_eq_true, and_false, false_and, or_true, true_or, or_false, false_or, or_self, Bool.false_eq_true, reduceCtorEq, nl10, nl20, nl30, nl40, nl50, nl60, nl70, nl12, nl13, nl21, nl23, nl31, nl32]; contradiction)
          | (exfalso; simp_all; done)
          | simp_all
  · refine lv_iload hx hb dX7_twoRowsRefusal_17 (lv_at hl 0 rfl) ?_
    refine lv_if_ne (tgt := 50) hx hb dX7_twoRowsRefusal_19 (by decide) (fun c_19 => ?_) (fun c_19 => ?_)
    · refine lv_iload_n hx hb dX7_twoRowsRefusal_50 rfl (lv_at hl 1 rfl) ?_
      refine lv_iconst (v := (-1)) hx hb dX7_twoRowsRefusal_51 (by decide) ?_
      refine lv_icmp_eq (tgt := 61) hx hb dX7_twoRowsRefusal_52 (by decide) (fun c_52 => ?_) (fun c_52 => ?_)
      · refine lv_iconst (v := (-1)) hx hb dX7_twoRowsRefusal_61 (by decide) ?_
        refine f_ir X hlk hr (v := (-1)) rfl hP hS ?_ dX7_twoRowsRefusal_62
        unfold trI
        (first | rw [if_pos c_14] | rw [if_neg c_14] | rw [if_neg (Bool.eq_false_iff.mp c_14)] | skip)
        (first | rw [if_pos c_19] | rw [if_neg c_19] | rw [if_neg (Bool.eq_false_iff.mp c_19)] | skip)
        (first | rw [if_pos c_52] | rw [if_neg c_52] | rw [if_neg (Bool.eq_false_iff.mp c_52)] | skip)
        (try dsimp only)
        first
          | done
          | exact ⟨rfl, rfl⟩
          | rfl
          | (simp only [c_14, c_19, c_52, if_true, if_false, and_self, and_true, true_and, not_true_eq_false, not_false_eq_true, and_false, false_and, or_true, true_or, or_false, false_or, or_self, Bool.false_eq_true, reduceCtorEq, nl10, nl20, nl30, nl40, nl50, nl60, nl70, nl12, nl13, nl21, nl23, nl31, nl32]; first | done | exact ⟨rfl, rfl⟩ | rfl)
          | contradiction
          | (simp only [c_14, c_19, c_52, if_true, if_false, and_self, and_true, true_and, not_true_eq_false, not_false_eq_true, and_false, false_and, or_true, true_or, or_false, false_or, or_self, Bool.false_eq_true, reduceCtorEq, nl10, nl20, nl30, nl40, nl50, nl60, nl70, nl12, nl13, nl21, nl23, nl31, nl32]; contradiction)
          | (exfalso; simp_all; done)
          | simp_all
      · refine lv_iload hx hb dX7_twoRowsRefusal_55 (lv_at hl 0 rfl) ?_
        refine lv_iconst (v := (-1)) hx hb dX7_twoRowsRefusal_57 (by decide) ?_
        refine lv_icmp_ne (tgt := 63) hx hb dX7_twoRowsRefusal_58 (by decide) (fun c_58 => ?_) (fun c_58 => ?_)
        · refine lv_iload_n hx hb dX7_twoRowsRefusal_63 rfl (lv_at hl 1 rfl) ?_
          refine lv_bipush (v := (-2)) hx hb dX7_twoRowsRefusal_64 (by decide) ?_
          refine lv_icmp_eq (tgt := 76) hx hb dX7_twoRowsRefusal_66 (by decide) (fun c_66 => ?_) (fun c_66 => ?_)
          · refine lv_bipush (v := (-2)) hx hb dX7_twoRowsRefusal_76 (by decide) ?_
            refine lv_goto (tgt := 83) hx hb dX7_twoRowsRefusal_78 (by decide) ?_
            refine f_ir X hlk hr (v := (-2)) rfl hP hS ?_ dX7_twoRowsRefusal_83
            unfold trI
            (first | rw [if_pos c_14] | rw [if_neg c_14] | rw [if_neg (Bool.eq_false_iff.mp c_14)] | skip)
            (first | rw [if_pos c_19] | rw [if_neg c_19] | rw [if_neg (Bool.eq_false_iff.mp c_19)] | skip)
            (first | rw [if_pos c_52] | rw [if_neg c_52] | rw [if_neg (Bool.eq_false_iff.mp c_52)] | skip)
            (first | rw [if_pos c_58] | rw [if_neg c_58] | rw [if_neg (Bool.eq_false_iff.mp c_58)] | skip)
            (first | rw [if_pos c_66] | rw [if_neg c_66] | rw [if_neg (Bool.eq_false_iff.mp c_66)] | skip)
            (try dsimp only)
            first
              | done
              | exact ⟨rfl, rfl⟩
              | rfl
              | (simp only [c_14, c_19, c_52, c_58, c_66, if_true, if_false, and_self, and_true, true_and, not_true_eq_false, not_false_eq_true, and_false, false_and, or_true, true_or, or_false, false_or, or_self, Bool.false_eq_true, reduceCtorEq, nl10, nl20, nl30, nl40, nl50, nl60, nl70, nl12, nl13, nl21, nl23, nl31, nl32]; first | done | exact ⟨rfl, rfl⟩ | rfl)
              | contradiction
              | (simp only [c_14, c_19, c_52, c_58, c_66, if_true, if_false, and_self, and_true, true_and, not_true_eq_false, not_false_eq_true, and_false, false_and, or_true, true_or, or_false, false_or, or_self, Bool.false_eq_true, reduceCtorEq, nl10, nl20, nl30, nl40, nl50, nl60, nl70, nl12, nl13, nl21, nl23, nl31, nl32]; contradiction)
              | (exfalso; simp_all; done)
              | simp_all
          · refine lv_iload hx hb dX7_twoRowsRefusal_69 (lv_at hl 0 rfl) ?_
            refine lv_bipush (v := (-2)) hx hb dX7_twoRowsRefusal_71 (by decide) ?_
            refine lv_icmp_ne (tgt := 81) hx hb dX7_twoRowsRefusal_73 (by decide) (fun c_73 => ?_) (fun c_73 => ?_)
            · refine lv_bipush (v := (-3)) hx hb dX7_twoRowsRefusal_81 (by decide) ?_
              refine f_ir X hlk hr (v := (-3)) rfl hP hS ?_ dX7_twoRowsRefusal_83
              unfold trI
              (first | rw [if_pos c_14] | rw [if_neg c_14] | rw [if_neg (Bool.eq_false_iff.mp c_14)] | skip)
              (first | rw [if_pos c_19] | rw [if_neg c_19] | rw [if_neg (Bool.eq_false_iff.mp c_19)] | skip)
              (first | rw [if_pos c_52] | rw [if_neg c_52] | rw [if_neg (Bool.eq_false_iff.mp c_52)] | skip)
              (first | rw [if_pos c_58] | rw [if_neg c_58] | rw [if_neg (Bool.eq_false_iff.mp c_58)] | skip)
              (first | rw [if_pos c_66] | rw [if_neg c_66] | rw [if_neg (Bool.eq_false_iff.mp c_66)] | skip)
              (first | rw [if_pos c_73] | rw [if_neg c_73] | rw [if_neg (Bool.eq_false_iff.mp c_73)] | skip)
              (try dsimp only)
              first
                | done
                | exact ⟨rfl, rfl⟩
                | rfl
                | (simp only [c_14, c_19, c_52, c_58, c_66, c_73, if_true, if_false, and_self, and_true, true_and, not_true_eq_false, not_false_eq_true, and_false, false_and, or_true, true_or, or_false, false_or, or_self, Bool.false_eq_true, reduceCtorEq, nl10, nl20, nl30, nl40, nl50, nl60, nl70, nl12, nl13, nl21, nl23, nl31, nl32]; first | done | exact ⟨rfl, rfl⟩ | rfl)
                | contradiction
                | (simp only [c_14, c_19, c_52, c_58, c_66, c_73, if_true, if_false, and_self, and_true, true_and, not_true_eq_false, not_false_eq_true, and_false, false_and, or_true, true_or, or_false, false_or, or_self, Bool.false_eq_true, reduceCtorEq, nl10, nl20, nl30, nl40, nl50, nl60, nl70, nl12, nl13, nl21, nl23, nl31, nl32]; contradiction)
                | (exfalso; simp_all; done)
                | simp_all
            · refine lv_bipush (v := (-2)) hx hb dX7_twoRowsRefusal_76 (by decide) ?_
              refine lv_goto (tgt := 83) hx hb dX7_twoRowsRefusal_78 (by decide) ?_
              refine f_ir X hlk hr (v := (-2)) rfl hP hS ?_ dX7_twoRowsRefusal_83
              unfold trI
              (first | rw [if_pos c_14] | rw [if_neg c_14] | rw [if_neg (Bool.eq_false_iff.mp c_14)] | skip)
              (first | rw [if_pos c_19] | rw [if_neg c_19] | rw [if_neg (Bool.eq_false_iff.mp c_19)] | skip)
              (first | rw [if_pos c_52] | rw [if_neg c_52] | rw [if_neg (Bool.eq_false_iff.mp c_52)] | skip)
              (first | rw [if_pos c_58] | rw [if_neg c_58] | rw [if_neg (Bool.eq_false_iff.mp c_58)] | skip)
              (first | rw [if_pos c_66] | rw [if_neg c_66] | rw [if_neg (Bool.eq_false_iff.mp c_66)] | skip)
              (first | rw [if_pos c_73] | rw [if_neg c_73] | rw [if_neg (Bool.eq_false_iff.mp c_73)] | skip)
              (try dsimp only)
              first
                | done
                | exact ⟨rfl, rfl⟩
                | rfl
                | (simp only [c_14, c_19, c_52, c_58, c_66, c_73, if_true, if_false, and_self, and_true, true_and, not_true_eq_false, not_false_eq_true, and_false, false_and, or_true, true_or, or_false, false_or, or_self, Bool.false_eq_true, reduceCtorEq, nl10, nl20, nl30, nl40, nl50, nl60, nl70, nl12, nl13, nl21, nl23, nl31, nl32]; first | done | exact ⟨rfl, rfl⟩ | rfl)
                | contradiction
                | (simp only [c_14, c_19, c_52, c_58, c_66, c_73, if_true, if_false, and_self, and_true, true_and, not_true_eq_false, not_false_eq_true, and_false, false_and, or_true, true_or, or_false, false_or, or_self, Bool.false_eq_true, reduceCtorEq, nl10, nl20, nl30, nl40, nl50, nl60, nl70, nl12, nl13, nl21, nl23, nl31, nl32]; contradiction)
                | (exfalso; simp_all; done)
                | simp_all
        · refine lv_iconst (v := (-1)) hx hb dX7_twoRowsRefusal_61 (by decide) ?_
          refine f_ir X hlk hr (v := (-1)) rfl hP hS ?_ dX7_twoRowsRefusal_62
          unfold trI
          (first | rw [if_pos c_14] | rw [if_neg c_14] | rw [if_neg (Bool.eq_false_iff.mp c_14)] | skip)
          (first | rw [if_pos c_19] | rw [if_neg c_19] | rw [if_neg (Bool.eq_false_iff.mp c_19)] | skip)
          (first | rw [if_pos c_52] | rw [if_neg c_52] | rw [if_neg (Bool.eq_false_iff.mp c_52)] | skip)
          (first | rw [if_pos c_58] | rw [if_neg c_58] | rw [if_neg (Bool.eq_false_iff.mp c_58)] | skip)
          (try dsimp only)
          first
            | done
            | exact ⟨rfl, rfl⟩
            | rfl
            | (simp only [c_14, c_19, c_52, c_58, if_true, if_false, and_self, and_true, true_and, not_true_eq_false, not_false_eq_true, and_false, false_and, or_true, true_or, or_false, false_or, or_self, Bool.false_eq_true, reduceCtorEq, nl10, nl20, nl30, nl40, nl50, nl60, nl70, nl12, nl13, nl21, nl23, nl31, nl32]; first | done | exact ⟨rfl, rfl⟩ | rfl)
            | contradiction
            | (simp only [c_14, c_19, c_52, c_58, if_true, if_false, and_self, and_true, true_and, not_true_eq_false, not_false_eq_true, and_false, false_and, or_true, true_or, or_false, false_or, or_self, Bool.false_eq_true, reduceCtorEq, nl10, nl20, nl30, nl40, nl50, nl60, nl70, nl12, nl13, nl21, nl23, nl31, nl32]; contradiction)
            | (exfalso; simp_all; done)
            | simp_all
    · have hlt_p : p.toNatClampNeg < 8 := (fIx_le 7 (rr0 c_14).1.1 (rr0 c_14).1.2 (by decide)).2.2
      have hlt_q : q.toNatClampNeg < 8 := (fIx_le 7 (rr0 c_19).1.1 (rr0 c_19).1.2 (by decide)).2.2
      refine lv_aload_n hx hb dX7_twoRowsRefusal_22 rfl (lv_at hl 2 rfl) ?_
      refine f_get X hP (T := TX7) (ci := 7) (k := 0) rfl inX7 rfl 0 (by decide) m_1_231 rfl (v := .ref (fad E 1)) rfl dX7_twoRowsRefusal_23 ?_
      refine lv_iload_n hx hb dX7_twoRowsRefusal_26 rfl (lv_at hl 3 rfl) ?_
      refine f_aald X hP (t := 11) (d := 1) (n := 8) (r := p.toNatClampNeg) rfl rfl (.inl ⟨rfl, rfl⟩) (fIx_le 7 (rr0 c_14).1.1 (rr0 c_14).1.2 (by decide)) (2 + p.toNatClampNeg) (by omega) dX7_twoRowsRefusal_27 ?_
      refine f_get X hP (T := TX4) (ci := 4) (k := (2 + p.toNatClampNeg)) (sh_sh (by omega)) inX4 rfl 1 (by decide) m_1_219 rfl (v := .int (M (2 + p.toNatClampNeg) 1)) rfl dX7_twoRowsRefusal_28 ?_
      refine lv_aload_n hx hb dX7_twoRowsRefusal_31 rfl (lv_at hl 2 rfl) ?_
      refine f_get X hP (T := TX7) (ci := 7) (k := 0) rfl inX7 rfl 0 (by decide) m_1_231 rfl (v := .ref (fad E 1)) rfl dX7_twoRowsRefusal_32 ?_
      refine lv_iload_n hx hb dX7_twoRowsRefusal_35 rfl (lv_at hl 4 rfl) ?_
      refine f_aald X hP (t := 11) (d := 1) (n := 8) (r := q.toNatClampNeg) rfl rfl (.inl ⟨rfl, rfl⟩) (fIx_le 7 (rr0 c_19).1.1 (rr0 c_19).1.2 (by decide)) (2 + q.toNatClampNeg) (by omega) dX7_twoRowsRefusal_36 ?_
      refine f_get X hP (T := TX4) (ci := 4) (k := (2 + q.toNatClampNeg)) (sh_sh (by omega)) inX4 rfl 1 (by decide) m_1_219 rfl (v := .int (M (2 + q.toNatClampNeg) 1)) rfl dX7_twoRowsRefusal_37 ?_
      refine lv_icmp_ne (tgt := 47) hx hb dX7_twoRowsRefusal_40 (by decide) (fun c_40 => ?_) (fun c_40 => ?_)
      · refine lv_bipush (v := (-2)) hx hb dX7_twoRowsRefusal_47 (by decide) ?_
        refine f_ir X hlk hr (v := (-2)) rfl hP hS ?_ dX7_twoRowsRefusal_49
        unfold trI
        (first | rw [if_pos c_14] | rw [if_neg c_14] | rw [if_neg (Bool.eq_false_iff.mp c_14)] | skip)
        (first | rw [if_pos c_19] | rw [if_neg c_19] | rw [if_neg (Bool.eq_false_iff.mp c_19)] | skip)
        (first | rw [if_pos c_40] | rw [if_neg c_40] | rw [if_neg (Bool.eq_false_iff.mp c_40)] | skip)
        (try dsimp only)
        first
          | done
          | exact ⟨rfl, rfl⟩
          | rfl
          | (simp only [c_14, c_19, c_40, if_true, if_false, and_self, and_true, true_and, not_true_eq_false, not_false_eq_true, and_false, false_and, or_true, true_or, or_false, false_or, or_self, Bool.false_eq_true, reduceCtorEq, nl10, nl20, nl30, nl40, nl50, nl60, nl70, nl12, nl13, nl21, nl23, nl31, nl32]; first | done | exact ⟨rfl, rfl⟩ | rfl)
          | contradiction
          | (simp only [c_14, c_19, c_40, if_true, if_false, and_self, and_true, true_and, not_true_eq_false, not_false_eq_true, and_false, false_and, or_true, true_or, or_false, false_or, or_self, Bool.false_eq_true, reduceCtorEq, nl10, nl20, nl30, nl40, nl50, nl60, nl70, nl12, nl13, nl21, nl23, nl31, nl32]; contradiction)
          | (exfalso; simp_all; done)
          | simp_all
      · refine lv_iconst (v := 0) hx hb dX7_twoRowsRefusal_43 (by decide) ?_
        refine lv_goto (tgt := 49) hx hb dX7_twoRowsRefusal_44 (by decide) ?_
        refine f_ir X hlk hr (v := 0) rfl hP hS ?_ dX7_twoRowsRefusal_49
        unfold trI
        (first | rw [if_pos c_14] | rw [if_neg c_14] | rw [if_neg (Bool.eq_false_iff.mp c_14)] | skip)
        (first | rw [if_pos c_19] | rw [if_neg c_19] | rw [if_neg (Bool.eq_false_iff.mp c_19)] | skip)
        (first | rw [if_pos c_40] | rw [if_neg c_40] | rw [if_neg (Bool.eq_false_iff.mp c_40)] | skip)
        (try dsimp only)
        first
          | done
          | exact ⟨rfl, rfl⟩
          | rfl
          | (simp only [c_14, c_19, c_40, if_true, if_false, and_self, and_true, true_and, not_true_eq_false, not_false_eq_true, and_false, false_and, or_true, true_or, or_false, false_or, or_self, Bool.false_eq_true, reduceCtorEq, nl10, nl20, nl30, nl40, nl50, nl60, nl70, nl12, nl13, nl21, nl23, nl31, nl32]; first | done | exact ⟨rfl, rfl⟩ | rfl)
          | contradiction
          | (simp only [c_14, c_19, c_40, if_true, if_false, and_self, and_true, true_and, not_true_eq_false, not_false_eq_true, and_false, false_and, or_true, true_or, or_false, false_or, or_self, Bool.false_eq_true, reduceCtorEq, nl10, nl20, nl30, nl40, nl50, nl60, nl70, nl12, nl13, nl21, nl23, nl31, nl32]; contradiction)
          | (exfalso; simp_all; done)
          | simp_all

set_option maxHeartbeats 4000000 in
set_option maxRecDepth 100000 in
theorem c_X7_toldRefusal (l : Launch) (E : fE) (M : Nat → Nat → Int32) (L : Nat → Nat → Int64) (s1 : Int32) (n : Int32) (most : Int32) (tl : Int32) : Met l yX7_toldRefusal (wl yX7_toldRefusal cX7_toldRefusal 6 (some .int)) (fRm 3 63) (va_Pc [.ref (fad E 0), .int s1, .int n, .int most, .int tl] (fPre E M L)) (fQi E (fun r u => u = (M, L) ∧ r = tdI M s1 n most tl)) 0 0 (fA E) := by
  refine f_head (by decide) (Nat.le_of_ble_eq_true rfl) ?_
  intro pg ev s mi below meth cd ls X hr hlk hP hS hl
  have hx := X.1.1
  have hb := X.1.2.1
  have hl : lv_has ls 6 [(0, .ref (fad E 0)), (1, .int s1), (2, .int n), (3, .int most), (4, .int tl)] := hl
  refine lv_aload_n hx hb dX7_toldRefusal_0 rfl (lv_at hl 0 rfl) ?_
  refine lv_iload_n hx hb dX7_toldRefusal_1 rfl (lv_at hl 1 rfl) ?_
  refine f_iV (n := 1) X hP hS [.int s1] [] (c_X7_rowRefusal l E M L s1) m_2_41 wi_X7_rowRefusal rfl rfl (by decide) (by decide +kernel) ⟨Nat.le_of_ble_eq_true rfl, Nat.le_of_ble_eq_true rfl⟩ rfl hl rfl (Nat.le_of_ble_eq_true rfl) ⟨Nat.zero_le _, Nat.zero_le _⟩ dX7_toldRefusal_2 (fun H locs hP hS => ?_)
  refine lv_istore (lv' := [(5, .int (rrI M s1)), (0, .ref (fad E 0)), (1, .int s1), (2, .int n), (3, .int most), (4, .int tl)]) hx hb dX7_toldRefusal_5 hl (by decide) rfl (fun ls hl => ?_)
  refine lv_iload hx hb dX7_toldRefusal_7 (lv_at hl 0 rfl) ?_
  refine lv_if_eq (tgt := 15) hx hb dX7_toldRefusal_9 (by decide) (fun c_9 => ?_) (fun c_9 => ?_)
  · have hlt_s1 : s1.toNatClampNeg < 8 := (fIx_le 7 (rr0 c_9).1.1 (rr0 c_9).1.2 (by decide)).2.2
    refine lv_iload_n hx hb dX7_toldRefusal_15 rfl (lv_at hl 3 rfl) ?_
    refine lv_if_ge (tgt := 22) hx hb dX7_toldRefusal_16 (by decide) (fun c_16 => ?_) (fun c_16 => ?_)
    · refine lv_iload_n hx hb dX7_toldRefusal_22 rfl (lv_at hl 3 rfl) ?_
      refine lv_aload_n hx hb dX7_toldRefusal_23 rfl (lv_at hl 1 rfl) ?_
      refine f_get X hP (T := TX7) (ci := 7) (k := 0) rfl inX7 rfl 0 (by decide) m_1_231 rfl (v := .ref (fad E 1)) rfl dX7_toldRefusal_24 ?_
      refine lv_iload_n hx hb dX7_toldRefusal_27 rfl (lv_at hl 2 rfl) ?_
      refine f_aald X hP (t := 11) (d := 1) (n := 8) (r := s1.toNatClampNeg) rfl rfl (.inl ⟨rfl, rfl⟩) (fIx_le 7 (rr0 c_9).1.1 (rr0 c_9).1.2 (by decide)) (2 + s1.toNatClampNeg) (by omega) dX7_toldRefusal_28 ?_
      refine f_get X hP (T := TX4) (ci := 4) (k := (2 + s1.toNatClampNeg)) (sh_sh (by omega)) inX4 rfl 2 (by decide) m_1_222 rfl (v := .int (M (2 + s1.toNatClampNeg) 2)) rfl dX7_toldRefusal_29 ?_
      refine lv_icmp_gt (tgt := 40) hx hb dX7_toldRefusal_32 (by decide) (fun c_32 => ?_) (fun c_32 => ?_)
      · refine lv_bipush (v := (-5)) hx hb dX7_toldRefusal_40 (by decide) ?_
        refine f_ir X hlk hr (v := (-5)) rfl hP hS ?_ dX7_toldRefusal_42
        unfold tdI
        (first | rw [if_pos c_9] | rw [if_neg c_9] | rw [if_neg (Bool.eq_false_iff.mp c_9)] | skip)
        (first | rw [if_pos c_16] | rw [if_neg c_16] | rw [if_neg (Bool.eq_false_iff.mp c_16)] | skip)
        (first | rw [if_pos c_32] | rw [if_neg c_32] | rw [if_neg (Bool.eq_false_iff.mp c_32)] | skip)
        (try dsimp only)
        first
          | done
          | exact ⟨rfl, rfl⟩
          | rfl
          | (simp only [c_9, c_16, c_32, if_true, if_false, and_self, and_true, true_and, not_true_eq_false, not_false_eq_true, and_false, false_and, or_true, true_or, or_false, false_or, or_self, Bool.false_eq_true, reduceCtorEq, nl10, nl20, nl30, nl40, nl50, nl60, nl70, nl12, nl13, nl21, nl23, nl31, nl32]; first | done | exact ⟨rfl, rfl⟩ | rfl)
          | contradiction
          | (simp only [c_9, c_16, c_32, if_true, if_false, and_self, and_true, true_and, not_true_eq_false, not_false_eq_true, and_false, false_and, or_true, true_or, or_false, false_or, or_self, Bool.false_eq_true, reduceCtorEq, nl10, nl20, nl30, nl40, nl50, nl60, nl70, nl12, nl13, nl21, nl23, nl31, nl32]; contradiction)
          | (exfalso; simp_all; done)
          | simp_all
      · refine lv_iload hx hb dX7_toldRefusal_35 (lv_at hl 5 rfl) ?_
        refine lv_if_ne (tgt := 43) hx hb dX7_toldRefusal_37 (by decide) (fun c_37 => ?_) (fun c_37 => ?_)
        · refine lv_iload_n hx hb dX7_toldRefusal_43 rfl (lv_at hl 3 rfl) ?_
          refine lv_iload_n hx hb dX7_toldRefusal_44 rfl (lv_at hl 4 rfl) ?_
          refine lv_icmp_le (tgt := 53) hx hb dX7_toldRefusal_45 (by decide) (fun c_45 => ?_) (fun c_45 => ?_)
          · refine lv_iconst (v := 0) hx hb dX7_toldRefusal_53 (by decide) ?_
            refine f_ir X hlk hr (v := 0) rfl hP hS ?_ dX7_toldRefusal_54
            unfold tdI
            (first | rw [if_pos c_9] | rw [if_neg c_9] | rw [if_neg (Bool.eq_false_iff.mp c_9)] | skip)
            (first | rw [if_pos c_16] | rw [if_neg c_16] | rw [if_neg (Bool.eq_false_iff.mp c_16)] | skip)
            (first | rw [if_pos c_32] | rw [if_neg c_32] | rw [if_neg (Bool.eq_false_iff.mp c_32)] | skip)
            (first | rw [if_pos c_37] | rw [if_neg c_37] | rw [if_neg (Bool.eq_false_iff.mp c_37)] | skip)
            (first | rw [if_pos c_45] | rw [if_neg c_45] | rw [if_neg (Bool.eq_false_iff.mp c_45)] | skip)
            (try dsimp only)
            first
              | done
              | exact ⟨rfl, rfl⟩
              | rfl
              | (simp only [c_9, c_16, c_32, c_37, c_45, if_true, if_false, and_self, and_true, true_and, not_true_eq_false, not_false_eq_true, and_false, false_and, or_true, true_or, or_false, false_or, or_self, Bool.false_eq_true, reduceCtorEq, nl10, nl20, nl30, nl40, nl50, nl60, nl70, nl12, nl13, nl21, nl23, nl31, nl32]; first | done | exact ⟨rfl, rfl⟩ | rfl)
              | contradiction
              | (simp only [c_9, c_16, c_32, c_37, c_45, if_true, if_false, and_self, and_true, true_and, not_true_eq_false, not_false_eq_true, and_false, false_and, or_true, true_or, or_false, false_or, or_self, Bool.false_eq_true, reduceCtorEq, nl10, nl20, nl30, nl40, nl50, nl60, nl70, nl12, nl13, nl21, nl23, nl31, nl32]; contradiction)
              | (exfalso; simp_all; done)
              | simp_all
          · refine lv_bipush (v := (-6)) hx hb dX7_toldRefusal_48 (by decide) ?_
            refine lv_goto (tgt := 54) hx hb dX7_toldRefusal_50 (by decide) ?_
            refine f_ir X hlk hr (v := (-6)) rfl hP hS ?_ dX7_toldRefusal_54
            unfold tdI
            (first | rw [if_pos c_9] | rw [if_neg c_9] | rw [if_neg (Bool.eq_false_iff.mp c_9)] | skip)
            (first | rw [if_pos c_16] | rw [if_neg c_16] | rw [if_neg (Bool.eq_false_iff.mp c_16)] | skip)
            (first | rw [if_pos c_32] | rw [if_neg c_32] | rw [if_neg (Bool.eq_false_iff.mp c_32)] | skip)
            (first | rw [if_pos c_37] | rw [if_neg c_37] | rw [if_neg (Bool.eq_false_iff.mp c_37)] | skip)
            (first | rw [if_pos c_45] | rw [if_neg c_45] | rw [if_neg (Bool.eq_false_iff.mp c_45)] | skip)
            (try dsimp only)
            first
              | done
              | exact ⟨rfl, rfl⟩
              | rfl
              | (simp only [c_9, c_16, c_32, c_37, c_45, if_true, if_false, and_self, and_true, true_and, not_true_eq_false, not_false_eq_true, and_false, false_and, or_true, true_or, or_false, false_or, or_self, Bool.false_eq_true, reduceCtorEq, nl10, nl20, nl30, nl40, nl50, nl60, nl70, nl12, nl13, nl21, nl23, nl31, nl32]; first | done | exact ⟨rfl, rfl⟩ | rfl)
              | contradiction
              | (simp only [c_9, c_16, c_32, c_37, c_45, if_true, if_false, and_self, and_true, true_and, not_true_eq_false, not_false_eq_true, and_false, false_and, or_true, true_or, or_false, false_or, or_self, Bool.false_eq_true, reduceCtorEq, nl10, nl20, nl30, nl40, nl50, nl60, nl70, nl12, nl13, nl21, nl23, nl31, nl32]; contradiction)
              | (exfalso; simp_all; done)
              | simp_all
        · refine lv_bipush (v := (-5)) hx hb dX7_toldRefusal_40 (by decide) ?_
          refine f_ir X hlk hr (v := (-5)) rfl hP hS ?_ dX7_toldRefusal_42
          unfold tdI
          (first | rw [if_pos c_9] | rw [if_neg c_9] | rw [if_neg (Bool.eq_false_iff.mp c_9)] | skip)
          (first | rw [if_pos c_16] | rw [if_neg c_16] | rw [if_neg (Bool.eq_false_iff.mp c_16)] | skip)
          (first | rw [if_pos c_32] | rw [if_neg c_32] | rw [if_neg (Bool.eq_false_iff.mp c_32)] | skip)
          (first | rw [if_pos c_37] | rw [if_neg c_37] | rw [if_neg (Bool.eq_false_iff.mp c_37)] | skip)
          (try dsimp only)
          first
            | done
            | exact ⟨rfl, rfl⟩
            | rfl
            | (simp only [c_9, c_16, c_32, c_37, if_true, if_false, and_self, and_true, true_and, not_true_eq_false, not_false_eq_true, and_false, false_and, or_true, true_or, or_false, false_or, or_self, Bool.false_eq_true, reduceCtorEq, nl10, nl20, nl30, nl40, nl50, nl60, nl70, nl12, nl13, nl21, nl23, nl31, nl32]; first | done | exact ⟨rfl, rfl⟩ | rfl)
            | contradiction
            | (simp only [c_9, c_16, c_32, c_37, if_true, if_false, and_self, and_true, true_and, not_true_eq_false, not_false_eq_true, and_false, false_and, or_true, true_or, or_false, false_or, or_self, Bool.false_eq_true, reduceCtorEq, nl10, nl20, nl30, nl40, nl50, nl60, nl70, nl12, nl13, nl21, nl23, nl31, nl32]; contradiction)
            | (exfalso; simp_all; done)
            | simp_all
    · refine lv_bipush (v := (-4)) hx hb dX7_toldRefusal_19 (by decide) ?_
      refine f_ir X hlk hr (v := (-4)) rfl hP hS ?_ dX7_toldRefusal_21
      unfold tdI
      (first | rw [if_pos c_9] | rw [if_neg c_9] | rw [if_neg (Bool.eq_false_iff.mp c_9)] | skip)
      (first | rw [if_pos c_16] | rw [if_neg c_16] | rw [if_neg (Bool.eq_false_iff.mp c_16)] | skip)
      (try dsimp only)
      first
        | done
        | exact ⟨rfl, rfl⟩
        | rfl
        | (simp only [c_9, c_16, if_true, if_false, and_self, and_true, true_and, not_true_eq_false, not_false_eq_true, and_false, false_and, or_true, true_or, or_false, false_or, or_self, Bool.false_eq_true, reduceCtorEq, nl10, nl20, nl30, nl40, nl50, nl60, nl70, nl12, nl13, nl21, nl23, nl31, nl32]; first | done | exact ⟨rfl, rfl⟩ | rfl)
        | contradiction
        | (simp only [c_9, c_16, if_true, if_false, and_self, and_true, true_and, not_true_eq_false, not_false_eq_true, and_false, false_and, or_true, true_or, or_false, false_or, or_self, Bool.false_eq_true, reduceCtorEq, nl10, nl20, nl30, nl40, nl50, nl60, nl70, nl12, nl13, nl21, nl23, nl31, nl32]; contradiction)
        | (exfalso; simp_all; done)
        | simp_all
  · refine lv_iload hx hb dX7_toldRefusal_12 (lv_at hl 0 rfl) ?_
    refine f_ir X hlk hr (v := (rrI M s1)) rfl hP hS ?_ dX7_toldRefusal_14
    unfold tdI
    (first | rw [if_pos c_9] | rw [if_neg c_9] | rw [if_neg (Bool.eq_false_iff.mp c_9)] | skip)
    (try dsimp only)
    first
      | done
      | exact ⟨rfl, rfl⟩
      | rfl
      | (simp only [c_9, if_true, if_false, and_self, and_true, true_and, not_true_eq_false, not_false_eq_true, and_false, false_and, or_true, true_or, or_false, false_or, or_self, Bool.false_eq_true, reduceCtorEq, nl10, nl20, nl30, nl40, nl50, nl60, nl70, nl12, nl13, nl21, nl23, nl31, nl32]; first | done | exact ⟨rfl, rfl⟩ | rfl)
      | contradiction
      | (simp only [c_9, if_true, if_false, and_self, and_true, true_and, not_true_eq_false, not_false_eq_true, and_false, false_and, or_true, true_or, or_false, false_or, or_self, Bool.false_eq_true, reduceCtorEq, nl10, nl20, nl30, nl40, nl50, nl60, nl70, nl12, nl13, nl21, nl23, nl31, nl32]; contradiction)
      | (exfalso; simp_all; done)
      | simp_all

set_option maxHeartbeats 4000000 in
set_option maxRecDepth 100000 in
theorem c_X7_isUnder (l : Launch) (E : fE) (M : Nat → Nat → Int32) (L : Nat → Nat → Int64) (k : Int32) (w : Int32) : Met l yX7_isUnder (wl yX7_isUnder cX7_isUnder 4 (some .boolean)) (fRm 2 42) (va_Pc [.int k, .int w] (fPre E M L)) (fQi E (fun r u => u = (M, L) ∧ r = bI (unF 7 k w))) 0 0 (fA E) := by
  refine f_head (by decide) (Nat.le_of_ble_eq_true rfl) ?_
  intro pg ev s mi below meth cd ls X hr hlk hP hS hl
  have hx := X.1.1
  have hb := X.1.2.1
  have hl : lv_has ls 4 [(0, .int k), (1, .int w)] := hl
  refine lv_iload_n hx hb dX7_isUnder_0 rfl (lv_at hl 0 rfl) ?_
  refine lv_istore_n (lv' := [(2, .int k), (0, .int k), (1, .int w)]) hx hb dX7_isUnder_1 rfl hl (by decide) rfl (fun ls hl => ?_)
  refine lv_iconst (v := 0) hx hb dX7_isUnder_2 (by decide) ?_
  refine lv_istore_n (lv' := [(3, .int 0), (2, .int k), (0, .int k), (1, .int w)]) hx hb dX7_isUnder_3 rfl hl (by decide) rfl (fun ls hl => ?_)
  refine f_loop (α := Nat × Int32) (fun (a : Nat × Int32) H locs ls => match a with | (lv, h) => fP E M L H ∧ va_S (fA E) s.heap H locs ∧ lv_has ls 4 [(3, .int (nI lv)), (2, .int h), (0, .int k), (1, .int w)] ∧ (lv ≤ 7) ∧ (unF 7 k w = unF (7 - lv) h w)) (fun (a : Nat × Int32) => match a with | (lv, h) => 7 - lv) (pc0 := 4) (st := fun _ => []) ?_ (0, k) _ _ _ ⟨hP, hS, lv_sub hl [0, 1, 2, 3] rfl, (by omega), rfl⟩
  rintro ⟨lv, h⟩ H locs ls ⟨hP, hS, hl, ht, hbt⟩ ih_4
  refine lv_iload_n hx hb dX7_isUnder_4 rfl (lv_at hl 0 rfl) ?_
  refine lv_bipush (v := 7) hx hb dX7_isUnder_5 (by decide) ?_
  refine lv_icmp_ge (tgt := 36) hx hb dX7_isUnder_7 (by decide) (fun c_7 => ?_) (fun c_7 => ?_)
  · have c_7 := (nI_le_iff (a := 7) (b := lv) (by omega) (by omega)).mp c_7
    refine lv_iconst (v := 0) hx hb dX7_isUnder_36 (by decide) ?_
    refine f_ir X hlk hr (v := 0) rfl hP hS ?_ dX7_isUnder_37
    exact ⟨rfl, by rw [hbt, show 7 - lv = 0 from by omega]; rfl⟩
  · have c_7 := (not_congr (nI_le_iff (a := 7) (b := lv) (by omega) (by omega))).mp c_7
    have hsv : 7 - lv = 6 - lv + 1 := by omega
    refine lv_iload_n hx hb dX7_isUnder_10 rfl (lv_at hl 1 rfl) ?_
    refine f_iS (n := 1) X hP hS [.int h] [] (c_X7_isKind l E M L h) m_2_105 wi_X7_isKind (by decide +kernel) ⟨Nat.le_of_ble_eq_true rfl, Nat.le_of_ble_eq_true rfl⟩ rfl hl rfl (Nat.le_of_ble_eq_true rfl) ⟨Nat.zero_le _, Nat.zero_le _⟩ dX7_isUnder_11 (fun H locs hP hS => ?_)
    refine lv_if_eq (tgt := 36) hx hb dX7_isUnder_14 (by decide) (fun c_14 => ?_) (fun c_14 => ?_)
    · have c_14 := bI0 c_14
      refine lv_iconst (v := 0) hx hb dX7_isUnder_36 (by decide) ?_
      refine f_ir X hlk hr (v := 0) rfl hP hS ?_ dX7_isUnder_37
      exact ⟨rfl, by rw [hbt, hsv, unF_s]; rw [if_neg c_14]; rfl⟩
    · have c_14 := bI1 c_14
      refine lv_iload_n hx hb dX7_isUnder_17 rfl (lv_at hl 1 rfl) ?_
      refine lv_iload_n hx hb dX7_isUnder_18 rfl (lv_at hl 3 rfl) ?_
      refine lv_icmp_ne (tgt := 24) hx hb dX7_isUnder_19 (by decide) (fun c_19 => ?_) (fun c_19 => ?_)
      · refine va_gets hx hb (fX.za X) hS X.1.2.2.2.1 (X.ht m_2_111) (fun _ h9 => h9) dX7_isUnder_24 ?_
        refine lv_iload_n hx hb dX7_isUnder_27 rfl (lv_at hl 1 rfl) ?_
        refine f_sald X (fX.ta X) hS (q := h.toNatClampNeg) (fIx_le 6 c_14.1 c_14.2 (by decide)) dX7_isUnder_28 ?_
        refine lv_istore_n (lv' := [(2, .int (fab h.toNatClampNeg)), (3, .int (nI lv)), (0, .int k), (1, .int w)]) hx hb dX7_isUnder_29 rfl hl (by decide) rfl (fun ls hl => ?_)
        refine lv_iinc (v := (nI (lv + 1))) (lv' := [(3, .int (nI (lv + 1))), (2, .int (fab h.toNatClampNeg)), (0, .int k), (1, .int w)]) hx hb dX7_isUnder_30 hl (k := 1) rfl (nI_1 _) (by decide) rfl (fun ls hl => ?_)
        refine lv_goto (tgt := 4) hx hb dX7_isUnder_33 (by decide) ?_
        exact ih_4 ((lv + 1), (fab h.toNatClampNeg)) _ _ _ (by show 7 - (lv + 1) < 7 - lv; omega) ⟨hP, hS, lv_sub hl [0, 1, 2, 3] rfl, (by omega), (by rw [hbt, hsv, unF_s]; rw [if_pos c_14, if_neg c_19, show 6 - lv = 7 - (lv + 1) from by omega])⟩
      · refine lv_iconst (v := 1) hx hb dX7_isUnder_22 (by decide) ?_
        refine f_ir X hlk hr (v := 1) rfl hP hS ?_ dX7_isUnder_23
        exact ⟨rfl, by rw [hbt, hsv, unF_s]; rw [if_pos c_14, if_pos c_19]; rfl⟩

set_option maxHeartbeats 4000000 in
set_option maxRecDepth 100000 in
theorem c_X7_firstWrong (l : Launch) (E : fE) (M : Nat → Nat → Int32) (L : Nat → Nat → Int64) (k : Nat) (n : Int32) (m : Nat) (hk_k : fsh k = 4) (en : n = nI m) (hm : m ≤ 8) : Met l yX7_firstWrong (wl yX7_firstWrong cX7_firstWrong 7 (some .int)) (fRm 4 86) (va_Pc [.ref (fad E 0), .ref (fad E k), .int n] (fPre E M L)) (fQi E (fun r u => u = (M, L) ∧ r = fwI M L k n)) 0 0 (fA E) := by
  refine f_head (by decide) (Nat.le_of_ble_eq_true rfl) ?_
  intro pg ev s mi below meth cd ls X hr hlk hP hS hl
  have hx := X.1.1
  have hb := X.1.2.1
  have hl : lv_has ls 7 [(0, .ref (fad E 0)), (1, .ref (fad E k)), (2, .int n)] := hl
  subst en
  have hl : lv_has ls 7 [(0, .ref (fad E 0)), (1, .ref (fad E k)), (2, .int (nI m))] := hl
  have hn0 : fwI M L k (nI m) = fwF M (tlI M L k) m 0 0 := by unfold fwI; rw [nI_clamp (by omega)]
  refine lv_iconst (v := 0) hx hb dX7_firstWrong_0 (by decide) ?_
  refine lv_istore_n (lv' := [(3, .int 0), (0, .ref (fad E 0)), (1, .ref (fad E k)), (2, .int (nI m))]) hx hb dX7_firstWrong_1 rfl hl (by decide) rfl (fun ls hl => ?_)
  refine lv_iconst (v := 0) hx hb dX7_firstWrong_2 (by decide) ?_
  refine lv_istore (lv' := [(4, .int 0), (3, .int 0), (0, .ref (fad E 0)), (1, .ref (fad E k)), (2, .int (nI m))]) hx hb dX7_firstWrong_3 hl (by decide) rfl (fun ls hl => ?_)
  refine f_loop (α := Nat × Int32) (fun (a : Nat × Int32) H locs ls => match a with | (i, b) => fP E M L H ∧ va_S (fA E) s.heap H locs ∧ lv_has ls 7 [(4, .int (nI i)), (3, .int b), (0, .ref (fad E 0)), (1, .ref (fad E k)), (2, .int (nI m))] ∧ (i ≤ m) ∧ (fwI M L k (nI m) = fwF M (tlI M L k) (m - i) i b)) (fun (a : Nat × Int32) => match a with | (i, b) => m - i) (pc0 := 5) (st := fun _ => []) ?_ (0, 0) _ _ _ ⟨hP, hS, lv_sub hl [0, 1, 2, 3, 4] rfl, (by omega), hn0⟩
  rintro ⟨i, b⟩ H locs ls ⟨hP, hS, hl, ht, hbt⟩ ih_5
  refine lv_iload hx hb dX7_firstWrong_5 (lv_at hl 0 rfl) ?_
  refine lv_iload_n hx hb dX7_firstWrong_7 rfl (lv_at hl 4 rfl) ?_
  refine lv_icmp_ge (tgt := 64) hx hb dX7_firstWrong_8 (by decide) (fun c_8 => ?_) (fun c_8 => ?_)
  · have c_8 := (nI_le_iff (a := m) (b := i) (by omega) (by omega)).mp c_8
    refine lv_iconst (v := (-1)) hx hb dX7_firstWrong_64 (by decide) ?_
    refine f_ir X hlk hr (v := (-1)) rfl hP hS ?_ dX7_firstWrong_65
    exact ⟨rfl, by rw [hbt, show m - i = 0 from by omega]; rfl⟩
  · have c_8 := (not_congr (nI_le_iff (a := m) (b := i) (by omega) (by omega))).mp c_8
    have hsv : m - i = m - (i + 1) + 1 := by omega
    refine lv_aload_n hx hb dX7_firstWrong_11 rfl (lv_at hl 3 rfl) ?_
    refine lv_iload hx hb dX7_firstWrong_12 (lv_at hl 0 rfl) ?_
    refine f_iV (n := 1) X hP hS [.int (nI i)] [] (c_X4_number l E M L k (nI i) hk_k) m_4_38 wi_X4_number hk_k rfl (by decide) (by decide +kernel) ⟨Nat.le_of_ble_eq_true rfl, Nat.le_of_ble_eq_true rfl⟩ rfl hl rfl (Nat.le_of_ble_eq_true rfl) ⟨Nat.zero_le _, Nat.zero_le _⟩ dX7_firstWrong_14 (fun H locs hP hS => ?_)
    refine lv_istore (lv' := [(5, .int (numI M L k (nI i))), (4, .int (nI i)), (3, .int b), (0, .ref (fad E 0)), (1, .ref (fad E k)), (2, .int (nI m))]) hx hb dX7_firstWrong_17 hl (by decide) rfl (fun ls hl => ?_)
    refine lv_aload_n hx hb dX7_firstWrong_19 rfl (lv_at hl 3 rfl) ?_
    refine f_get X hP (T := TX7) (ci := 7) (k := 0) rfl inX7 rfl 1 (by decide) m_1_232 rfl (v := .ref (fad E 18)) rfl dX7_firstWrong_20 ?_
    refine lv_iload hx hb dX7_firstWrong_23 (lv_at hl 0 rfl) ?_
    refine f_iV (n := 1) X hP hS [.int (numI M L k (nI i))] [] (c_X1_mayBeTold l E M L 18 (numI M L k (nI i)) rfl) m_4_65 wi_X1_mayBeTold rfl rfl (by decide) (by decide +kernel) ⟨Nat.le_of_ble_eq_true rfl, Nat.le_of_ble_eq_true rfl⟩ rfl hl rfl (Nat.le_of_ble_eq_true rfl) ⟨Nat.zero_le _, Nat.zero_le _⟩ dX7_firstWrong_25 (fun H locs hP hS => ?_)
    refine lv_if_ne (tgt := 34) hx hb dX7_firstWrong_28 (by decide) (fun c_28 => ?_) (fun c_28 => ?_)
    · have c_28 := bIf1 c_28
      have c_28 : mayG M (tlI M L k i) = true := c_28
      refine lv_iconst (v := 1) hx hb dX7_firstWrong_34 (by decide) ?_
      refine lv_iload hx hb dX7_firstWrong_35 (lv_at hl 0 rfl) ?_
      refine lv_bipush (v := 100) hx hb dX7_firstWrong_37 (by decide) ?_
      refine lv_idiv hx hb dX7_firstWrong_39 (by decide) ?_
      refine lv_ishl hx hb dX7_firstWrong_40 ?_
      refine lv_istore (lv' := [(6, .int (1 <<< (((numI M L k (nI i)) / 100) &&& 31))), (5, .int (numI M L k (nI i))), (4, .int (nI i)), (3, .int b), (0, .ref (fad E 0)), (1, .ref (fad E k)), (2, .int (nI m))]) hx hb dX7_firstWrong_41 hl (by decide) rfl (fun ls hl => ?_)
      refine lv_iload_n hx hb dX7_firstWrong_43 rfl (lv_at hl 3 rfl) ?_
      refine lv_iload hx hb dX7_firstWrong_44 (lv_at hl 0 rfl) ?_
      refine lv_iand hx hb dX7_firstWrong_46 ?_
      refine lv_if_eq (tgt := 53) hx hb dX7_firstWrong_47 (by decide) (fun c_47 => ?_) (fun c_47 => ?_)
      · refine lv_iload_n hx hb dX7_firstWrong_53 rfl (lv_at hl 3 rfl) ?_
        refine lv_iload hx hb dX7_firstWrong_54 (lv_at hl 0 rfl) ?_
        refine lv_ior hx hb dX7_firstWrong_56 ?_
        refine lv_istore_n (lv' := [(3, .int (b ||| (1 <<< (((numI M L k (nI i)) / 100) &&& 31)))), (6, .int (1 <<< (((numI M L k (nI i)) / 100) &&& 31))), (5, .int (numI M L k (nI i))), (4, .int (nI i)), (0, .ref (fad E 0)), (1, .ref (fad E k)), (2, .int (nI m))]) hx hb dX7_firstWrong_57 rfl hl (by decide) rfl (fun ls hl => ?_)
        refine lv_iinc (v := (nI (i + 1))) (lv' := [(4, .int (nI (i + 1))), (3, .int (b ||| (1 <<< (((numI M L k (nI i)) / 100) &&& 31)))), (6, .int (1 <<< (((numI M L k (nI i)) / 100) &&& 31))), (5, .int (numI M L k (nI i))), (0, .ref (fad E 0)), (1, .ref (fad E k)), (2, .int (nI m))]) hx hb dX7_firstWrong_58 hl (k := 3) rfl (nI_1 _) (by decide) rfl (fun ls hl => ?_)
        refine lv_goto (tgt := 5) hx hb dX7_firstWrong_61 (by decide) ?_
        exact ih_5 ((i + 1), (b ||| (1 <<< (((numI M L k (nI i)) / 100) &&& 31)))) _ _ _ (by show m - (i + 1) < m - i; omega) ⟨hP, hS, lv_sub hl [0, 1, 4, 5, 6] rfl, (by omega), (by rw [hbt, hsv, fwF_s, if_pos c_28]; exact if_pos c_47)⟩
      · refine lv_iload hx hb dX7_firstWrong_50 (lv_at hl 2 rfl) ?_
        refine f_ir X hlk hr (v := (nI i)) rfl hP hS ?_ dX7_firstWrong_52
        exact ⟨rfl, by rw [hbt, hsv, fwF_s, if_pos c_28]; exact (if_neg c_47).symm⟩
    · have c_28 := bIf0 c_28
      refine lv_iload hx hb dX7_firstWrong_31 (lv_at hl 1 rfl) ?_
      refine f_ir X hlk hr (v := (nI i)) rfl hP hS ?_ dX7_firstWrong_33
      exact ⟨rfl, by rw [hbt, hsv, fwF_s, if_neg (by rw [show mayG M (tlI M L k i) = false from c_28]; decide)]⟩

set_option maxHeartbeats 4000000 in
set_option maxRecDepth 100000 in
theorem c_X7_dayRefusal (l : Launch) (E : fE) (M : Nat → Nat → Int32) (L : Nat → Nat → Int64) (s1 : Int32) (n : Int32) (tl : Int32) : Met l yX7_dayRefusal (wl yX7_dayRefusal cX7_dayRefusal 5 (some .int)) (fRm 5 112) (va_Pc [.ref (fad E 0), .int s1, .int n, .int tl] (fPre E M L)) (fQi E (fun r u => u = (M, L) ∧ r = dyI M L s1 n tl)) 0 0 (fA E) := by
  refine f_head (by decide) (Nat.le_of_ble_eq_true rfl) ?_
  intro pg ev s mi below meth cd ls X hr hlk hP hS hl
  have hx := X.1.1
  have hb := X.1.2.1
  have hl : lv_has ls 5 [(0, .ref (fad E 0)), (1, .int s1), (2, .int n), (3, .int tl)] := hl
  refine lv_aload_n hx hb dX7_dayRefusal_0 rfl (lv_at hl 0 rfl) ?_
  refine lv_iload_n hx hb dX7_dayRefusal_1 rfl (lv_at hl 1 rfl) ?_
  refine lv_iload_n hx hb dX7_dayRefusal_2 rfl (lv_at hl 2 rfl) ?_
  refine lv_bipush (v := 8) hx hb dX7_dayRefusal_3 (by decide) ?_
  refine lv_iload_n hx hb dX7_dayRefusal_5 rfl (lv_at hl 3 rfl) ?_
  refine f_iV (n := 4) X hP hS [.int s1, .int n, .int 8, .int tl] [] (c_X7_toldRefusal l E M L s1 n 8 tl) m_4_34 wi_X7_toldRefusal rfl rfl (by decide) (by decide +kernel) ⟨Nat.le_of_ble_eq_true rfl, Nat.le_of_ble_eq_true rfl⟩ rfl hl rfl (Nat.le_of_ble_eq_true rfl) ⟨Nat.zero_le _, Nat.zero_le _⟩ dX7_dayRefusal_6 (fun H locs hP hS => ?_)
  refine lv_istore (lv' := [(4, .int (tdI M s1 n 8 tl)), (0, .ref (fad E 0)), (1, .int s1), (2, .int n), (3, .int tl)]) hx hb dX7_dayRefusal_9 hl (by decide) rfl (fun ls hl => ?_)
  refine lv_iload hx hb dX7_dayRefusal_11 (lv_at hl 0 rfl) ?_
  refine lv_if_eq (tgt := 19) hx hb dX7_dayRefusal_13 (by decide) (fun c_13 => ?_) (fun c_13 => ?_)
  · have t0 := td0 c_13
    obtain ⟨m, hm, em⟩ := i_le 8 t0.2.1 t0.2.2.1 (by decide)
    have hlt_s1 : s1.toNatClampNeg < 8 := (fIx_le 7 (rr0 t0.1).1.1 (rr0 t0.1).1.2 (by decide)).2.2
    refine lv_aload_n hx hb dX7_dayRefusal_19 rfl (lv_at hl 1 rfl) ?_
    refine lv_aload_n hx hb dX7_dayRefusal_20 rfl (lv_at hl 1 rfl) ?_
    refine f_get X hP (T := TX7) (ci := 7) (k := 0) rfl inX7 rfl 0 (by decide) m_1_231 rfl (v := .ref (fad E 1)) rfl dX7_dayRefusal_21 ?_
    refine lv_iload_n hx hb dX7_dayRefusal_24 rfl (lv_at hl 2 rfl) ?_
    refine f_aald X hP (t := 11) (d := 1) (n := 8) (r := s1.toNatClampNeg) rfl rfl (.inl ⟨rfl, rfl⟩) (fIx_le 7 (rr0 t0.1).1.1 (rr0 t0.1).1.2 (by decide)) (2 + s1.toNatClampNeg) (by omega) dX7_dayRefusal_25 ?_
    refine lv_iload_n hx hb dX7_dayRefusal_26 rfl (lv_at hl 3 rfl) ?_
    refine f_iV (n := 2) X hP hS [.ref (fad E (2 + s1.toNatClampNeg)), .int n] [] (c_X7_firstWrong l E M L (2 + s1.toNatClampNeg) n m (sh_sh (by omega)) em (by omega)) m_4_61 wi_X7_firstWrong rfl rfl (by decide) (by decide +kernel) ⟨Nat.le_of_ble_eq_true rfl, Nat.le_of_ble_eq_true rfl⟩ rfl hl rfl (Nat.le_of_ble_eq_true rfl) ⟨Nat.zero_le _, Nat.zero_le _⟩ dX7_dayRefusal_27 (fun H locs hP hS => ?_)
    refine lv_iconst (v := (-1)) hx hb dX7_dayRefusal_30 (by decide) ?_
    refine lv_icmp_ne (tgt := 38) hx hb dX7_dayRefusal_31 (by decide) (fun c_31 => ?_) (fun c_31 => ?_)
    · refine lv_bipush (v := (-6)) hx hb dX7_dayRefusal_38 (by decide) ?_
      refine f_ir X hlk hr (v := (-6)) rfl hP hS ?_ dX7_dayRefusal_40
      unfold dyI
      (first | rw [if_pos c_13] | rw [if_neg c_13] | rw [if_neg (Bool.eq_false_iff.mp c_13)] | skip)
      (first | rw [if_pos c_31] | rw [if_neg c_31] | rw [if_neg (Bool.eq_false_iff.mp c_31)] | skip)
      (try dsimp only)
      first
        | done
        | exact ⟨rfl, rfl⟩
        | rfl
        | (simp only [c_13, c_31, if_true, if_false, and_self, and_true, true_and, not_true_eq_false, not_false_eq_true, and_false, false_and, or_true, true_or, or_false, false_or, or_self, Bool.false_eq_true, reduceCtorEq, nl10, nl20, nl30, nl40, nl50, nl60, nl70, nl12, nl13, nl21, nl23, nl31, nl32]; first | done | exact ⟨rfl, rfl⟩ | rfl)
        | contradiction
        | (simp only [c_13, c_31, if_true, if_false, and_self, and_true, true_and, not_true_eq_false, not_false_eq_true, and_false, false_and, or_true, true_or, or_false, false_or, or_self, Bool.false_eq_true, reduceCtorEq, nl10, nl20, nl30, nl40, nl50, nl60, nl70, nl12, nl13, nl21, nl23, nl31, nl32]; contradiction)
        | (exfalso; simp_all; done)
        | simp_all
    · refine lv_iconst (v := 0) hx hb dX7_dayRefusal_34 (by decide) ?_
      refine lv_goto (tgt := 40) hx hb dX7_dayRefusal_35 (by decide) ?_
      refine f_ir X hlk hr (v := 0) rfl hP hS ?_ dX7_dayRefusal_40
      unfold dyI
      (first | rw [if_pos c_13] | rw [if_neg c_13] | rw [if_neg (Bool.eq_false_iff.mp c_13)] | skip)
      (first | rw [if_pos c_31] | rw [if_neg c_31] | rw [if_neg (Bool.eq_false_iff.mp c_31)] | skip)
      (try dsimp only)
      first
        | done
        | exact ⟨rfl, rfl⟩
        | rfl
        | (simp only [c_13, c_31, if_true, if_false, and_self, and_true, true_and, not_true_eq_false, not_false_eq_true, and_false, false_and, or_true, true_or, or_false, false_or, or_self, Bool.false_eq_true, reduceCtorEq, nl10, nl20, nl30, nl40, nl50, nl60, nl70, nl12, nl13, nl21, nl23, nl31, nl32]; first | done | exact ⟨rfl, rfl⟩ | rfl)
        | contradiction
        | (simp only [c_13, c_31, if_true, if_false, and_self, and_true, true_and, not_true_eq_false, not_false_eq_true, and_false, false_and, or_true, true_or, or_false, false_or, or_self, Bool.false_eq_true, reduceCtorEq, nl10, nl20, nl30, nl40, nl50, nl60, nl70, nl12, nl13, nl21, nl23, nl31, nl32]; contradiction)
        | (exfalso; simp_all; done)
        | simp_all
  · refine lv_iload hx hb dX7_dayRefusal_16 (lv_at hl 0 rfl) ?_
    refine f_ir X hlk hr (v := (tdI M s1 n 8 tl)) rfl hP hS ?_ dX7_dayRefusal_18
    unfold dyI
    (first | rw [if_pos c_13] | rw [if_neg c_13] | rw [if_neg (Bool.eq_false_iff.mp c_13)] | skip)
    (try dsimp only)
    first
      | done
      | exact ⟨rfl, rfl⟩
      | rfl
      | (simp only [c_13, if_true, if_false, and_self, and_true, true_and, not_true_eq_false, not_false_eq_true, and_false, false_and, or_true, true_or, or_false, false_or, or_self, Bool.false_eq_true, reduceCtorEq, nl10, nl20, nl30, nl40, nl50, nl60, nl70, nl12, nl13, nl21, nl23, nl31, nl32]; first | done | exact ⟨rfl, rfl⟩ | rfl)
      | contradiction
      | (simp only [c_13, if_true, if_false, and_self, and_true, true_and, not_true_eq_false, not_false_eq_true, and_false, false_and, or_true, true_or, or_false, false_or, or_self, Bool.false_eq_true, reduceCtorEq, nl10, nl20, nl30, nl40, nl50, nl60, nl70, nl12, nl13, nl21, nl23, nl31, nl32]; contradiction)
      | (exfalso; simp_all; done)
      | simp_all

set_option maxHeartbeats 4000000 in
set_option maxRecDepth 100000 in
theorem c_X7_row (l : Launch) (E : fE) (M : Nat → Nat → Int32) (L : Nat → Nat → Int64) (s1 : Int32) (o : Int32) (n : Int32) : Met l yX7_row (wl yX7_row cX7_row 4 (some .int)) (fRm 2 44) (va_Pc [.ref (fad E 0), .int s1, .int o, .int n] (fPre E M L)) (fQi E (fun r u => u = ((rowC M L s1 o n).2.1, (rowC M L s1 o n).2.2) ∧ r = (rowC M L s1 o n).1)) 0 0 (fA E) := by
  refine f_head (by decide) (Nat.le_of_ble_eq_true rfl) ?_
  intro pg ev s mi below meth cd ls X hr hlk hP hS hl
  have hx := X.1.1
  have hb := X.1.2.1
  have hl : lv_has ls 4 [(0, .ref (fad E 0)), (1, .int s1), (2, .int o), (3, .int n)] := hl
  refine lv_iload_n hx hb dX7_row_0 rfl (lv_at hl 1 rfl) ?_
  refine f_iS (n := 1) X hP hS [.int s1] [] (c_X7_isShelf l E M L s1) m_2_23 wi_X7_isShelf (by decide +kernel) ⟨Nat.le_of_ble_eq_true rfl, Nat.le_of_ble_eq_true rfl⟩ rfl hl rfl (Nat.le_of_ble_eq_true rfl) ⟨Nat.zero_le _, Nat.zero_le _⟩ dX7_row_1 (fun H locs hP hS => ?_)
  refine lv_if_ne (tgt := 13) hx hb dX7_row_4 (by decide) (fun c_4 => ?_) (fun c_4 => ?_)
  · have c_4 := bI1 c_4
    have hlt_s1 : s1.toNatClampNeg < 8 := (fIx_le 7 c_4.1 c_4.2 (by decide)).2.2
    refine lv_iload_n hx hb dX7_row_13 rfl (lv_at hl 3 rfl) ?_
    refine lv_if_ge (tgt := 24) hx hb dX7_row_14 (by decide) (fun c_14 => ?_) (fun c_14 => ?_)
    · refine lv_iload_n hx hb dX7_row_24 rfl (lv_at hl 2 rfl) ?_
      refine lv_iconst (v := 0) hx hb dX7_row_25 (by decide) ?_
      refine lv_iconst (v := 3) hx hb dX7_row_26 (by decide) ?_
      refine f_iS (n := 3) X hP hS [.int o, .int 0, .int 3] [] (c_X7_within l E M L o 0 3) m_2_26 wi_X7_within (by decide +kernel) ⟨Nat.le_of_ble_eq_true rfl, Nat.le_of_ble_eq_true rfl⟩ rfl hl rfl (Nat.le_of_ble_eq_true rfl) ⟨Nat.zero_le _, Nat.zero_le _⟩ dX7_row_27 (fun H locs hP hS => ?_)
      refine lv_if_ne (tgt := 40) hx hb dX7_row_30 (by decide) (fun c_30 => ?_) (fun c_30 => ?_)
      · have c_30 := bI1 c_30
        refine lv_iload_n hx hb dX7_row_40 rfl (lv_at hl 3 rfl) ?_
        refine lv_sipush (v := 160) hx hb dX7_row_41 (by decide) ?_
        refine lv_icmp_le (tgt := 54) hx hb dX7_row_44 (by decide) (fun c_44 => ?_) (fun c_44 => ?_)
        · refine lv_aload_n hx hb dX7_row_54 rfl (lv_at hl 0 rfl) ?_
          refine f_get X hP (T := TX7) (ci := 7) (k := 0) rfl inX7 rfl 0 (by decide) m_1_231 rfl (v := .ref (fad E 1)) rfl dX7_row_55 ?_
          refine lv_iload_n hx hb dX7_row_58 rfl (lv_at hl 1 rfl) ?_
          refine f_aald X hP (t := 11) (d := 1) (n := 8) (r := s1.toNatClampNeg) rfl rfl (.inl ⟨rfl, rfl⟩) (fIx_le 7 c_4.1 c_4.2 (by decide)) (2 + s1.toNatClampNeg) (by omega) dX7_row_59 ?_
          refine lv_iload_n hx hb dX7_row_60 rfl (lv_at hl 2 rfl) ?_
          refine lv_iload_n hx hb dX7_row_61 rfl (lv_at hl 3 rfl) ?_
          refine f_vV (n := 2) X hP hS [.int o, .int n] [] (c_X4_layRow l E M L (2 + s1.toNatClampNeg) o n (sh_sh (by omega))) m_2_33 wi_X4_layRow (sh_sh (by omega)) rfl (by decide) (by decide +kernel) ⟨Nat.le_of_ble_eq_true rfl, Nat.le_of_ble_eq_true rfl⟩ rfl hl rfl (Nat.le_of_ble_eq_true rfl) ⟨Nat.zero_le _, Nat.zero_le _⟩ dX7_row_62 (fun H locs hP hS => ?_)
          refine lv_iconst (v := 1) hx hb dX7_row_65 (by decide) ?_
          refine f_ir X hlk hr (v := 1) rfl hP hS ?_ dX7_row_66
          unfold rowC
          (first | rw [if_pos c_4] | rw [if_neg c_4] | rw [if_neg (Bool.eq_false_iff.mp c_4)] | skip)
          (first | rw [if_pos c_14] | rw [if_neg c_14] | rw [if_neg (Bool.eq_false_iff.mp c_14)] | skip)
          (first | rw [if_pos c_30] | rw [if_neg c_30] | rw [if_neg (Bool.eq_false_iff.mp c_30)] | skip)
          (first | rw [if_pos c_44] | rw [if_neg c_44] | rw [if_neg (Bool.eq_false_iff.mp c_44)] | skip)
          (try dsimp only)
          first
            | done
            | exact ⟨rfl, rfl⟩
            | rfl
            | (simp only [c_4, c_14, c_30, c_44, if_true, if_false, and_self, and_true, true_and, not_true_eq_false, not_false_eq_true, and_false, false_and, or_true, true_or, or_false, false_or, or_self, Bool.false_eq_true, reduceCtorEq, nl10, nl20, nl30, nl40, nl50, nl60, nl70, nl12, nl13, nl21, nl23, nl31, nl32]; first | done | exact ⟨rfl, rfl⟩ | rfl)
            | contradiction
            | (simp only [c_4, c_14, c_30, c_44, if_true, if_false, and_self, and_true, true_and, not_true_eq_false, not_false_eq_true, and_false, false_and, or_true, true_or, or_false, false_or, or_self, Bool.false_eq_true, reduceCtorEq, nl10, nl20, nl30, nl40, nl50, nl60, nl70, nl12, nl13, nl21, nl23, nl31, nl32]; contradiction)
            | (exfalso; simp_all; done)
            | simp_all
        · refine lv_aload_n hx hb dX7_row_47 rfl (lv_at hl 0 rfl) ?_
          refine lv_bipush (v := (-7)) hx hb dX7_row_48 (by decide) ?_
          refine f_iV (n := 1) X hP hS [.int (-7)] [] (c_X7_refuse l E M L (-7)) m_2_29 wi_X7_refuse rfl rfl (by decide) (by decide +kernel) ⟨Nat.le_of_ble_eq_true rfl, Nat.le_of_ble_eq_true rfl⟩ rfl hl rfl (Nat.le_of_ble_eq_true rfl) ⟨Nat.zero_le _, Nat.zero_le _⟩ dX7_row_50 (fun H locs hP hS => ?_)
          refine f_ir X hlk hr (v := (-7)) rfl hP hS ?_ dX7_row_53
          unfold rowC
          (first | rw [if_pos c_4] | rw [if_neg c_4] | rw [if_neg (Bool.eq_false_iff.mp c_4)] | skip)
          (first | rw [if_pos c_14] | rw [if_neg c_14] | rw [if_neg (Bool.eq_false_iff.mp c_14)] | skip)
          (first | rw [if_pos c_30] | rw [if_neg c_30] | rw [if_neg (Bool.eq_false_iff.mp c_30)] | skip)
          (first | rw [if_pos c_44] | rw [if_neg c_44] | rw [if_neg (Bool.eq_false_iff.mp c_44)] | skip)
          (try dsimp only)
          first
            | done
            | exact ⟨rfl, rfl⟩
            | rfl
            | (simp only [c_4, c_14, c_30, c_44, if_true, if_false, and_self, and_true, true_and, not_true_eq_false, not_false_eq_true, and_false, false_and, or_true, true_or, or_false, false_or, or_self, Bool.false_eq_true, reduceCtorEq, nl10, nl20, nl30, nl40, nl50, nl60, nl70, nl12, nl13, nl21, nl23, nl31, nl32]; first | done | exact ⟨rfl, rfl⟩ | rfl)
            | contradiction
            | (simp only [c_4, c_14, c_30, c_44, if_true, if_false, and_self, and_true, true_and, not_true_eq_false, not_false_eq_true, and_false, false_and, or_true, true_or, or_false, false_or, or_self, Bool.false_eq_true, reduceCtorEq, nl10, nl20, nl30, nl40, nl50, nl60, nl70, nl12, nl13, nl21, nl23, nl31, nl32]; contradiction)
            | (exfalso; simp_all; done)
            | simp_all
      · have c_30 := bI0 c_30
        refine lv_aload_n hx hb dX7_row_33 rfl (lv_at hl 0 rfl) ?_
        refine lv_bipush (v := (-6)) hx hb dX7_row_34 (by decide) ?_
        refine f_iV (n := 1) X hP hS [.int (-6)] [] (c_X7_refuse l E M L (-6)) m_2_29 wi_X7_refuse rfl rfl (by decide) (by decide +kernel) ⟨Nat.le_of_ble_eq_true rfl, Nat.le_of_ble_eq_true rfl⟩ rfl hl rfl (Nat.le_of_ble_eq_true rfl) ⟨Nat.zero_le _, Nat.zero_le _⟩ dX7_row_36 (fun H locs hP hS => ?_)
        refine f_ir X hlk hr (v := (-6)) rfl hP hS ?_ dX7_row_39
        unfold rowC
        (first | rw [if_pos c_4] | rw [if_neg c_4] | rw [if_neg (Bool.eq_false_iff.mp c_4)] | skip)
        (first | rw [if_pos c_14] | rw [if_neg c_14] | rw [if_neg (Bool.eq_false_iff.mp c_14)] | skip)
        (first | rw [if_pos c_30] | rw [if_neg c_30] | rw [if_neg (Bool.eq_false_iff.mp c_30)] | skip)
        (try dsimp only)
        first
          | done
          | exact ⟨rfl, rfl⟩
          | rfl
          | (simp only [c_4, c_14, c_30, if_true, if_false, and_self, and_true, true_and, not_true_eq_false, not_false_eq_true, and_false, false_and, or_true, true_or, or_false, false_or, or_self, Bool.false_eq_true, reduceCtorEq, nl10, nl20, nl30, nl40, nl50, nl60, nl70, nl12, nl13, nl21, nl23, nl31, nl32]; first | done | exact ⟨rfl, rfl⟩ | rfl)
          | contradiction
          | (simp only [c_4, c_14, c_30, if_true, if_false, and_self, and_true, true_and, not_true_eq_false, not_false_eq_true, and_false, false_and, or_true, true_or, or_false, false_or, or_self, Bool.false_eq_true, reduceCtorEq, nl10, nl20, nl30, nl40, nl50, nl60, nl70, nl12, nl13, nl21, nl23, nl31, nl32]; contradiction)
          | (exfalso; simp_all; done)
          | simp_all
    · refine lv_aload_n hx hb dX7_row_17 rfl (lv_at hl 0 rfl) ?_
      refine lv_bipush (v := (-4)) hx hb dX7_row_18 (by decide) ?_
      refine f_iV (n := 1) X hP hS [.int (-4)] [] (c_X7_refuse l E M L (-4)) m_2_29 wi_X7_refuse rfl rfl (by decide) (by decide +kernel) ⟨Nat.le_of_ble_eq_true rfl, Nat.le_of_ble_eq_true rfl⟩ rfl hl rfl (Nat.le_of_ble_eq_true rfl) ⟨Nat.zero_le _, Nat.zero_le _⟩ dX7_row_20 (fun H locs hP hS => ?_)
      refine f_ir X hlk hr (v := (-4)) rfl hP hS ?_ dX7_row_23
      unfold rowC
      (first | rw [if_pos c_4] | rw [if_neg c_4] | rw [if_neg (Bool.eq_false_iff.mp c_4)] | skip)
      (first | rw [if_pos c_14] | rw [if_neg c_14] | rw [if_neg (Bool.eq_false_iff.mp c_14)] | skip)
      (try dsimp only)
      first
        | done
        | exact ⟨rfl, rfl⟩
        | rfl
        | (simp only [c_4, c_14, if_true, if_false, and_self, and_true, true_and, not_true_eq_false, not_false_eq_true, and_false, false_and, or_true, true_or, or_false, false_or, or_self, Bool.false_eq_true, reduceCtorEq, nl10, nl20, nl30, nl40, nl50, nl60, nl70, nl12, nl13, nl21, nl23, nl31, nl32]; first | done | exact ⟨rfl, rfl⟩ | rfl)
        | contradiction
        | (simp only [c_4, c_14, if_true, if_false, and_self, and_true, true_and, not_true_eq_false, not_false_eq_true, and_false, false_and, or_true, true_or, or_false, false_or, or_self, Bool.false_eq_true, reduceCtorEq, nl10, nl20, nl30, nl40, nl50, nl60, nl70, nl12, nl13, nl21, nl23, nl31, nl32]; contradiction)
        | (exfalso; simp_all; done)
        | simp_all
  · have c_4 := bI0 c_4
    refine lv_aload_n hx hb dX7_row_7 rfl (lv_at hl 0 rfl) ?_
    refine lv_iconst (v := (-1)) hx hb dX7_row_8 (by decide) ?_
    refine f_iV (n := 1) X hP hS [.int (-1)] [] (c_X7_refuse l E M L (-1)) m_2_29 wi_X7_refuse rfl rfl (by decide) (by decide +kernel) ⟨Nat.le_of_ble_eq_true rfl, Nat.le_of_ble_eq_true rfl⟩ rfl hl rfl (Nat.le_of_ble_eq_true rfl) ⟨Nat.zero_le _, Nat.zero_le _⟩ dX7_row_9 (fun H locs hP hS => ?_)
    refine f_ir X hlk hr (v := (-1)) rfl hP hS ?_ dX7_row_12
    unfold rowC
    (first | rw [if_pos c_4] | rw [if_neg c_4] | rw [if_neg (Bool.eq_false_iff.mp c_4)] | skip)
    (try dsimp only)
    first
      | done
      | exact ⟨rfl, rfl⟩
      | rfl
      | (simp only [c_4, if_true, if_false, and_self, and_true, true_and, not_true_eq_false, not_false_eq_true, and_false, false_and, or_true, true_or, or_false, false_or, or_self, Bool.false_eq_true, reduceCtorEq, nl10, nl20, nl30, nl40, nl50, nl60, nl70, nl12, nl13, nl21, nl23, nl31, nl32]; first | done | exact ⟨rfl, rfl⟩ | rfl)
      | contradiction
      | (simp only [c_4, if_true, if_false, and_self, and_true, true_and, not_true_eq_false, not_false_eq_true, and_false, false_and, or_true, true_or, or_false, false_or, or_self, Bool.false_eq_true, reduceCtorEq, nl10, nl20, nl30, nl40, nl50, nl60, nl70, nl12, nl13, nl21, nl23, nl31, nl32]; contradiction)
      | (exfalso; simp_all; done)
      | simp_all

set_option maxHeartbeats 4000000 in
set_option maxRecDepth 100000 in
theorem c_X7_set (l : Launch) (E : fE) (M : Nat → Nat → Int32) (L : Nat → Nat → Int64) (s1 : Int32) (i : Int32) (v : Int64) : Met l yX7_set (wl yX7_set cX7_set 6 (some .int)) (fRm 3 63) (va_Pc [.ref (fad E 0), .int s1, .int i, .long v] (fPre E M L)) (fQi E (fun r u => u = ((setC M L s1 i v).2.1, (setC M L s1 i v).2.2) ∧ r = (setC M L s1 i v).1)) 0 0 (fA E) := by
  refine f_head (by decide) (Nat.le_of_ble_eq_true rfl) ?_
  intro pg ev s mi below meth cd ls X hr hlk hP hS hl
  have hx := X.1.1
  have hb := X.1.2.1
  have hl : lv_has ls 6 [(0, .ref (fad E 0)), (1, .int s1), (2, .int i), (3, .long v)] := hl
  refine lv_aload_n hx hb dX7_set_0 rfl (lv_at hl 0 rfl) ?_
  refine lv_iload_n hx hb dX7_set_1 rfl (lv_at hl 1 rfl) ?_
  refine f_iV (n := 1) X hP hS [.int s1] [] (c_X7_rowRefusal l E M L s1) m_2_41 wi_X7_rowRefusal rfl rfl (by decide) (by decide +kernel) ⟨Nat.le_of_ble_eq_true rfl, Nat.le_of_ble_eq_true rfl⟩ rfl hl rfl (Nat.le_of_ble_eq_true rfl) ⟨Nat.zero_le _, Nat.zero_le _⟩ dX7_set_2 (fun H locs hP hS => ?_)
  refine lv_istore (lv' := [(5, .int (rrI M s1)), (0, .ref (fad E 0)), (1, .int s1), (2, .int i), (3, .long v)]) hx hb dX7_set_5 hl (by decide) rfl (fun ls hl => ?_)
  refine lv_iload hx hb dX7_set_7 (lv_at hl 0 rfl) ?_
  refine lv_if_eq (tgt := 19) hx hb dX7_set_9 (by decide) (fun c_9 => ?_) (fun c_9 => ?_)
  · have hlt_s1 : s1.toNatClampNeg < 8 := (fIx_le 7 (rr0 c_9).1.1 (rr0 c_9).1.2 (by decide)).2.2
    refine lv_aload_n hx hb dX7_set_19 rfl (lv_at hl 1 rfl) ?_
    refine f_get X hP (T := TX7) (ci := 7) (k := 0) rfl inX7 rfl 0 (by decide) m_1_231 rfl (v := .ref (fad E 1)) rfl dX7_set_20 ?_
    refine lv_iload_n hx hb dX7_set_23 rfl (lv_at hl 2 rfl) ?_
    refine f_aald X hP (t := 11) (d := 1) (n := 8) (r := s1.toNatClampNeg) rfl rfl (.inl ⟨rfl, rfl⟩) (fIx_le 7 (rr0 c_9).1.1 (rr0 c_9).1.2 (by decide)) (2 + s1.toNatClampNeg) (by omega) dX7_set_24 ?_
    refine lv_iload_n hx hb dX7_set_25 rfl (lv_at hl 3 rfl) ?_
    refine f_iV (n := 1) X hP hS [.int i] [] (c_X4_hasElement l E M L (2 + s1.toNatClampNeg) i (sh_sh (by omega))) m_2_49 wi_X4_hasElement (sh_sh (by omega)) rfl (by decide) (by decide +kernel) ⟨Nat.le_of_ble_eq_true rfl, Nat.le_of_ble_eq_true rfl⟩ rfl hl rfl (Nat.le_of_ble_eq_true rfl) ⟨Nat.zero_le _, Nat.zero_le _⟩ dX7_set_26 (fun H locs hP hS => ?_)
    refine lv_if_ne (tgt := 39) hx hb dX7_set_29 (by decide) (fun c_29 => ?_) (fun c_29 => ?_)
    · have c_29 := bI1 c_29
      refine lv_aload_n hx hb dX7_set_39 rfl (lv_at hl 1 rfl) ?_
      refine f_get X hP (T := TX7) (ci := 7) (k := 0) rfl inX7 rfl 0 (by decide) m_1_231 rfl (v := .ref (fad E 1)) rfl dX7_set_40 ?_
      refine lv_iload_n hx hb dX7_set_43 rfl (lv_at hl 2 rfl) ?_
      refine f_aald X hP (t := 11) (d := 1) (n := 8) (r := s1.toNatClampNeg) rfl rfl (.inl ⟨rfl, rfl⟩) (fIx_le 7 (rr0 c_9).1.1 (rr0 c_9).1.2 (by decide)) (2 + s1.toNatClampNeg) (by omega) dX7_set_44 ?_
      refine lv_iload_n hx hb dX7_set_45 rfl (lv_at hl 3 rfl) ?_
      refine lv_lload_n hx hb dX7_set_46 rfl (lv_at hl 4 rfl) ?_
      refine f_vV (n := 2) X hP hS [.int i, .long v] [] (c_X4_put l E M L (2 + s1.toNatClampNeg) i v (sh_sh (by omega))) m_2_53 wi_X4_put (sh_sh (by omega)) rfl (by decide) (by decide +kernel) ⟨Nat.le_of_ble_eq_true rfl, Nat.le_of_ble_eq_true rfl⟩ rfl hl rfl (Nat.le_of_ble_eq_true rfl) ⟨Nat.zero_le _, Nat.zero_le _⟩ dX7_set_47 (fun H locs hP hS => ?_)
      refine lv_iconst (v := 1) hx hb dX7_set_50 (by decide) ?_
      refine f_ir X hlk hr (v := 1) rfl hP hS ?_ dX7_set_51
      unfold setC
      (first | rw [if_pos c_9] | rw [if_neg c_9] | rw [if_neg (Bool.eq_false_iff.mp c_9)] | skip)
      (first | rw [if_pos c_29] | rw [if_neg c_29] | rw [if_neg (Bool.eq_false_iff.mp c_29)] | skip)
      (try dsimp only)
      first
        | done
        | exact ⟨rfl, rfl⟩
        | rfl
        | (simp only [c_9, c_29, if_true, if_false, and_self, and_true, true_and, not_true_eq_false, not_false_eq_true, and_false, false_and, or_true, true_or, or_false, false_or, or_self, Bool.false_eq_true, reduceCtorEq, nl10, nl20, nl30, nl40, nl50, nl60, nl70, nl12, nl13, nl21, nl23, nl31, nl32]; first | done | exact ⟨rfl, rfl⟩ | rfl)
        | contradiction
        | (simp only [c_9, c_29, if_true, if_false, and_self, and_true, true_and, not_true_eq_false, not_false_eq_true, and_false, false_and, or_true, true_or, or_false, false_or, or_self, Bool.false_eq_true, reduceCtorEq, nl10, nl20, nl30, nl40, nl50, nl60, nl70, nl12, nl13, nl21, nl23, nl31, nl32]; contradiction)
        | (exfalso; simp_all; done)
        | simp_all
    · have c_29 := bI0 c_29
      refine lv_aload_n hx hb dX7_set_32 rfl (lv_at hl 1 rfl) ?_
      refine lv_bipush (v := (-5)) hx hb dX7_set_33 (by decide) ?_
      refine f_iV (n := 1) X hP hS [.int (-5)] [] (c_X7_refuse l E M L (-5)) m_2_29 wi_X7_refuse rfl rfl (by decide) (by decide +kernel) ⟨Nat.le_of_ble_eq_true rfl, Nat.le_of_ble_eq_true rfl⟩ rfl hl rfl (Nat.le_of_ble_eq_true rfl) ⟨Nat.zero_le _, Nat.zero_le _⟩ dX7_set_35 (fun H locs hP hS => ?_)
      refine f_ir X hlk hr (v := (-5)) rfl hP hS ?_ dX7_set_38
      unfold setC
      (first | rw [if_pos c_9] | rw [if_neg c_9] | rw [if_neg (Bool.eq_false_iff.mp c_9)] | skip)
      (first | rw [if_pos c_29] | rw [if_neg c_29] | rw [if_neg (Bool.eq_false_iff.mp c_29)] | skip)
      (try dsimp only)
      first
        | done
        | exact ⟨rfl, rfl⟩
        | rfl
        | (simp only [c_9, c_29, if_true, if_false, and_self, and_true, true_and, not_true_eq_false, not_false_eq_true, and_false, false_and, or_true, true_or, or_false, false_or, or_self, Bool.false_eq_true, reduceCtorEq, nl10, nl20, nl30, nl40, nl50, nl60, nl70, nl12, nl13, nl21, nl23, nl31, nl32]; first | done | exact ⟨rfl, rfl⟩ | rfl)
        | contradiction
        | (simp only [c_9, c_29, if_true, if_false, and_self, and_true, true_and, not_true_eq_false, not_false_eq_true, and_false, false_and, or_true, true_or, or_false, false_or, or_self, Bool.false_eq_true, reduceCtorEq, nl10, nl20, nl30, nl40, nl50, nl60, nl70, nl12, nl13, nl21, nl23, nl31, nl32]; contradiction)
        | (exfalso; simp_all; done)
        | simp_all
  · refine lv_aload_n hx hb dX7_set_12 rfl (lv_at hl 1 rfl) ?_
    refine lv_iload hx hb dX7_set_13 (lv_at hl 0 rfl) ?_
    refine f_iV (n := 1) X hP hS [.int (rrI M s1)] [] (c_X7_refuse l E M L (rrI M s1)) m_2_29 wi_X7_refuse rfl rfl (by decide) (by decide +kernel) ⟨Nat.le_of_ble_eq_true rfl, Nat.le_of_ble_eq_true rfl⟩ rfl hl rfl (Nat.le_of_ble_eq_true rfl) ⟨Nat.zero_le _, Nat.zero_le _⟩ dX7_set_15 (fun H locs hP hS => ?_)
    refine f_ir X hlk hr (v := (rrI M s1)) rfl hP hS ?_ dX7_set_18
    unfold setC
    (first | rw [if_pos c_9] | rw [if_neg c_9] | rw [if_neg (Bool.eq_false_iff.mp c_9)] | skip)
    (try dsimp only)
    first
      | done
      | exact ⟨rfl, rfl⟩
      | rfl
      | (simp only [c_9, if_true, if_false, and_self, and_true, true_and, not_true_eq_false, not_false_eq_true, and_false, false_and, or_true, true_or, or_false, false_or, or_self, Bool.false_eq_true, reduceCtorEq, nl10, nl20, nl30, nl40, nl50, nl60, nl70, nl12, nl13, nl21, nl23, nl31, nl32]; first | done | exact ⟨rfl, rfl⟩ | rfl)
      | contradiction
      | (simp only [c_9, if_true, if_false, and_self, and_true, true_and, not_true_eq_false, not_false_eq_true, and_false, false_and, or_true, true_or, or_false, false_or, or_self, Bool.false_eq_true, reduceCtorEq, nl10, nl20, nl30, nl40, nl50, nl60, nl70, nl12, nl13, nl21, nl23, nl31, nl32]; contradiction)
      | (exfalso; simp_all; done)
      | simp_all

set_option maxHeartbeats 4000000 in
set_option maxRecDepth 100000 in
theorem c_X7_element (l : Launch) (E : fE) (M : Nat → Nat → Int32) (L : Nat → Nat → Int64) (s1 : Int32) (i : Int32) : Met l yX7_element (wl yX7_element cX7_element 3 (some .long)) (fRm 2 42) (va_Pc [.ref (fad E 0), .int s1, .int i] (fPre E M L)) (fQl E (fun r u => u = (M, L) ∧ r = elemC M L s1 i)) 0 0 (fA E) := by
  refine f_head (by decide) (Nat.le_of_ble_eq_true rfl) ?_
  intro pg ev s mi below meth cd ls X hr hlk hP hS hl
  have hx := X.1.1
  have hb := X.1.2.1
  have hl : lv_has ls 3 [(0, .ref (fad E 0)), (1, .int s1), (2, .int i)] := hl
  refine lv_iload_n hx hb dX7_element_0 rfl (lv_at hl 1 rfl) ?_
  refine f_iS (n := 1) X hP hS [.int s1] [] (c_X7_isShelf l E M L s1) m_2_23 wi_X7_isShelf (by decide +kernel) ⟨Nat.le_of_ble_eq_true rfl, Nat.le_of_ble_eq_true rfl⟩ rfl hl rfl (Nat.le_of_ble_eq_true rfl) ⟨Nat.zero_le _, Nat.zero_le _⟩ dX7_element_1 (fun H locs hP hS => ?_)
  refine lv_if_eq (tgt := 20) hx hb dX7_element_4 (by decide) (fun c_4 => ?_) (fun c_4 => ?_)
  · have c_4 := bI0 c_4
    refine lv_lconst (v := 0) hx hb dX7_element_20 (by decide) ?_
    refine f_lr X hlk hr hP hS (v := 0) ?_ dX7_element_21
    unfold elemC
    (first | rw [if_pos c_4] | rw [if_neg c_4] | rw [if_neg (Bool.eq_false_iff.mp c_4)] | skip)
    (try dsimp only)
    first
      | done
      | exact ⟨rfl, rfl⟩
      | rfl
      | (simp only [c_4, if_true, if_false, and_self, and_true, true_and, not_true_eq_false, not_false_eq_true, and_false, false_and, or_true, true_or, or_false, false_or, or_self, Bool.false_eq_true, reduceCtorEq, nl10, nl20, nl30, nl40, nl50, nl60, nl70, nl12, nl13, nl21, nl23, nl31, nl32]; first | done | exact ⟨rfl, rfl⟩ | rfl)
      | contradiction
      | (simp only [c_4, if_true, if_false, and_self, and_true, true_and, not_true_eq_false, not_false_eq_true, and_false, false_and, or_true, true_or, or_false, false_or, or_self, Bool.false_eq_true, reduceCtorEq, nl10, nl20, nl30, nl40, nl50, nl60, nl70, nl12, nl13, nl21, nl23, nl31, nl32]; contradiction)
      | (exfalso; simp_all; done)
      | simp_all
  · have c_4 := bI1 c_4
    have hlt_s1 : s1.toNatClampNeg < 8 := (fIx_le 7 c_4.1 c_4.2 (by decide)).2.2
    refine lv_aload_n hx hb dX7_element_7 rfl (lv_at hl 0 rfl) ?_
    refine f_get X hP (T := TX7) (ci := 7) (k := 0) rfl inX7 rfl 0 (by decide) m_1_231 rfl (v := .ref (fad E 1)) rfl dX7_element_8 ?_
    refine lv_iload_n hx hb dX7_element_11 rfl (lv_at hl 1 rfl) ?_
    refine f_aald X hP (t := 11) (d := 1) (n := 8) (r := s1.toNatClampNeg) rfl rfl (.inl ⟨rfl, rfl⟩) (fIx_le 7 c_4.1 c_4.2 (by decide)) (2 + s1.toNatClampNeg) (by omega) dX7_element_12 ?_
    refine lv_iload_n hx hb dX7_element_13 rfl (lv_at hl 2 rfl) ?_
    refine f_lV (n := 1) X hP hS [.int i] [] (c_X4_at l E M L (2 + s1.toNatClampNeg) i (sh_sh (by omega))) m_2_81 wi_X4_at (sh_sh (by omega)) rfl (by decide) (by decide +kernel) ⟨Nat.le_of_ble_eq_true rfl, Nat.le_of_ble_eq_true rfl⟩ rfl hl rfl (Nat.le_of_ble_eq_true rfl) ⟨Nat.zero_le _, Nat.zero_le _⟩ dX7_element_14 (fun H locs hP hS => ?_)
    refine lv_goto (tgt := 21) hx hb dX7_element_17 (by decide) ?_
    refine f_lr X hlk hr hP hS (v := (if 0 ≤ i ∧ i < (M (2 + s1.toNatClampNeg) 2) ∧ i < 160 then (L ((2 + s1.toNatClampNeg) + 8) i.toNatClampNeg) else 0)) ?_ dX7_element_21
    unfold elemC
    (first | rw [if_pos c_4] | rw [if_neg c_4] | rw [if_neg (Bool.eq_false_iff.mp c_4)] | skip)
    (try dsimp only)
    first
      | done
      | exact ⟨rfl, rfl⟩
      | rfl
      | (simp only [c_4, if_true, if_false, and_self, and_true, true_and, not_true_eq_false, not_false_eq_true, and_false, false_and, or_true, true_or, or_false, false_or, or_self, Bool.false_eq_true, reduceCtorEq, nl10, nl20, nl30, nl40, nl50, nl60, nl70, nl12, nl13, nl21, nl23, nl31, nl32]; first | done | exact ⟨rfl, rfl⟩ | rfl)
      | contradiction
      | (simp only [c_4, if_true, if_false, and_self, and_true, true_and, not_true_eq_false, not_false_eq_true, and_false, false_and, or_true, true_or, or_false, false_or, or_self, Bool.false_eq_true, reduceCtorEq, nl10, nl20, nl30, nl40, nl50, nl60, nl70, nl12, nl13, nl21, nl23, nl31, nl32]; contradiction)
      | (exfalso; simp_all; done)
      | simp_all

set_option maxHeartbeats 4000000 in
set_option maxRecDepth 100000 in
theorem c_X7_show (l : Launch) (E : fE) (M : Nat → Nat → Int32) (L : Nat → Nat → Int64) (s1 : Int32) (w : Int32) : Met l yX7_show (wl yX7_show cX7_show 3 (some .int)) (fRm 2 44) (va_Pc [.ref (fad E 0), .int s1, .int w] (fPre E M L)) (fQi E (fun r u => u = ((showC M L s1 w).2.1, (showC M L s1 w).2.2) ∧ r = (showC M L s1 w).1)) 0 0 (fA E) := by
  refine f_head (by decide) (Nat.le_of_ble_eq_true rfl) ?_
  intro pg ev s mi below meth cd ls X hr hlk hP hS hl
  have hx := X.1.1
  have hb := X.1.2.1
  have hl : lv_has ls 3 [(0, .ref (fad E 0)), (1, .int s1), (2, .int w)] := hl
  refine lv_iload_n hx hb dX7_show_0 rfl (lv_at hl 1 rfl) ?_
  refine f_iS (n := 1) X hP hS [.int s1] [] (c_X7_isShelf l E M L s1) m_2_23 wi_X7_isShelf (by decide +kernel) ⟨Nat.le_of_ble_eq_true rfl, Nat.le_of_ble_eq_true rfl⟩ rfl hl rfl (Nat.le_of_ble_eq_true rfl) ⟨Nat.zero_le _, Nat.zero_le _⟩ dX7_show_1 (fun H locs hP hS => ?_)
  refine lv_if_ne (tgt := 13) hx hb dX7_show_4 (by decide) (fun c_4 => ?_) (fun c_4 => ?_)
  · have c_4 := bI1 c_4
    have hlt_s1 : s1.toNatClampNeg < 8 := (fIx_le 7 c_4.1 c_4.2 (by decide)).2.2
    refine lv_iload_n hx hb dX7_show_13 rfl (lv_at hl 2 rfl) ?_
    refine lv_iconst (v := (-1)) hx hb dX7_show_14 (by decide) ?_
    refine lv_icmp_eq (tgt := 35) hx hb dX7_show_15 (by decide) (fun c_15 => ?_) (fun c_15 => ?_)
    · refine lv_aload_n hx hb dX7_show_35 rfl (lv_at hl 0 rfl) ?_
      refine f_get X hP (T := TX7) (ci := 7) (k := 0) rfl inX7 rfl 0 (by decide) m_1_231 rfl (v := .ref (fad E 1)) rfl dX7_show_36 ?_
      refine lv_iload_n hx hb dX7_show_39 rfl (lv_at hl 1 rfl) ?_
      refine f_aald X hP (t := 11) (d := 1) (n := 8) (r := s1.toNatClampNeg) rfl rfl (.inl ⟨rfl, rfl⟩) (fIx_le 7 c_4.1 c_4.2 (by decide)) (2 + s1.toNatClampNeg) (by omega) dX7_show_40 ?_
      refine lv_iload_n hx hb dX7_show_41 rfl (lv_at hl 2 rfl) ?_
      refine f_vV (n := 1) X hP hS [.int w] [] (c_X4_hold l E M L (2 + s1.toNatClampNeg) w (sh_sh (by omega))) m_2_93 wi_X4_hold (sh_sh (by omega)) rfl (by decide) (by decide +kernel) ⟨Nat.le_of_ble_eq_true rfl, Nat.le_of_ble_eq_true rfl⟩ rfl hl rfl (Nat.le_of_ble_eq_true rfl) ⟨Nat.zero_le _, Nat.zero_le _⟩ dX7_show_42 (fun H locs hP hS => ?_)
      refine lv_iload_n hx hb dX7_show_45 rfl (lv_at hl 2 rfl) ?_
      refine lv_iconst (v := (-1)) hx hb dX7_show_46 (by decide) ?_
      refine lv_icmp_ne (tgt := 54) hx hb dX7_show_47 (by decide) (fun c_47 => ?_) (fun c_47 => ?_)
      · refine lv_iconst (v := 1) hx hb dX7_show_54 (by decide) ?_
        refine f_ir X hlk hr (v := 1) rfl hP hS ?_ dX7_show_55
        unfold showC
        (first | rw [if_pos c_4] | rw [if_neg c_4] | rw [if_neg (Bool.eq_false_iff.mp c_4)] | skip)
        (first | rw [if_pos c_15] | rw [if_neg c_15] | rw [if_neg (Bool.eq_false_iff.mp c_15)] | skip)
        (first | rw [if_pos c_47] | rw [if_neg c_47] | rw [if_neg (Bool.eq_false_iff.mp c_47)] | skip)
        (try dsimp only)
        first
          | done
          | exact ⟨rfl, rfl⟩
          | rfl
          | (simp only [c_4, c_15, c_47, if_true, if_false, and_self, and_true, true_and, not_true_eq_false, not_false_eq_true, and_false, false_and, or_true, true_or, or_false, false_or, or_self, Bool.false_eq_true, reduceCtorEq, nl10, nl20, nl30, nl40, nl50, nl60, nl70, nl12, nl13, nl21, nl23, nl31, nl32]; first | done | exact ⟨rfl, rfl⟩ | rfl)
          | contradiction
          | (simp only [c_4, c_15, c_47, if_true, if_false, and_self, and_true, true_and, not_true_eq_false, not_false_eq_true, and_false, false_and, or_true, true_or, or_false, false_or, or_self, Bool.false_eq_true, reduceCtorEq, nl10, nl20, nl30, nl40, nl50, nl60, nl70, nl12, nl13, nl21, nl23, nl31, nl32]; contradiction)
          | (exfalso; simp_all; done)
          | simp_all
      · refine lv_iconst (v := 0) hx hb dX7_show_50 (by decide) ?_
        refine lv_goto (tgt := 55) hx hb dX7_show_51 (by decide) ?_
        refine f_ir X hlk hr (v := 0) rfl hP hS ?_ dX7_show_55
        unfold showC
        (first | rw [if_pos c_4] | rw [if_neg c_4] | rw [if_neg (Bool.eq_false_iff.mp c_4)] | skip)
        (first | rw [if_pos c_15] | rw [if_neg c_15] | rw [if_neg (Bool.eq_false_iff.mp c_15)] | skip)
        (first | rw [if_pos c_47] | rw [if_neg c_47] | rw [if_neg (Bool.eq_false_iff.mp c_47)] | skip)
        (try dsimp only)
        first
          | done
          | exact ⟨rfl, rfl⟩
          | rfl
          | (simp only [c_4, c_15, c_47, if_true, if_false, and_self, and_true, true_and, not_true_eq_false, not_false_eq_true, and_false, false_and, or_true, true_or, or_false, false_or, or_self, Bool.false_eq_true, reduceCtorEq, nl10, nl20, nl30, nl40, nl50, nl60, nl70, nl12, nl13, nl21, nl23, nl31, nl32]; first | done | exact ⟨rfl, rfl⟩ | rfl)
          | contradiction
          | (simp only [c_4, c_15, c_47, if_true, if_false, and_self, and_true, true_and, not_true_eq_false, not_false_eq_true, and_false, false_and, or_true, true_or, or_false, false_or, or_self, Bool.false_eq_true, reduceCtorEq, nl10, nl20, nl30, nl40, nl50, nl60, nl70, nl12, nl13, nl21, nl23, nl31, nl32]; contradiction)
          | (exfalso; simp_all; done)
          | simp_all
    · refine lv_aload_n hx hb dX7_show_18 rfl (lv_at hl 0 rfl) ?_
      refine f_get X hP (T := TX7) (ci := 7) (k := 0) rfl inX7 rfl 1 (by decide) m_1_232 rfl (v := .ref (fad E 18)) rfl dX7_show_19 ?_
      refine lv_iload_n hx hb dX7_show_22 rfl (lv_at hl 2 rfl) ?_
      refine f_iV (n := 1) X hP hS [.int w] [] (c_X1_hasWaiter l E M L 18 w rfl) m_2_89 wi_X1_hasWaiter rfl rfl (by decide) (by decide +kernel) ⟨Nat.le_of_ble_eq_true rfl, Nat.le_of_ble_eq_true rfl⟩ rfl hl rfl (Nat.le_of_ble_eq_true rfl) ⟨Nat.zero_le _, Nat.zero_le _⟩ dX7_show_23 (fun H locs hP hS => ?_)
      refine lv_if_ne (tgt := 35) hx hb dX7_show_26 (by decide) (fun c_26 => ?_) (fun c_26 => ?_)
      · have c_26 := bI1 c_26
        refine lv_aload_n hx hb dX7_show_35 rfl (lv_at hl 0 rfl) ?_
        refine f_get X hP (T := TX7) (ci := 7) (k := 0) rfl inX7 rfl 0 (by decide) m_1_231 rfl (v := .ref (fad E 1)) rfl dX7_show_36 ?_
        refine lv_iload_n hx hb dX7_show_39 rfl (lv_at hl 1 rfl) ?_
        refine f_aald X hP (t := 11) (d := 1) (n := 8) (r := s1.toNatClampNeg) rfl rfl (.inl ⟨rfl, rfl⟩) (fIx_le 7 c_4.1 c_4.2 (by decide)) (2 + s1.toNatClampNeg) (by omega) dX7_show_40 ?_
        refine lv_iload_n hx hb dX7_show_41 rfl (lv_at hl 2 rfl) ?_
        refine f_vV (n := 1) X hP hS [.int w] [] (c_X4_hold l E M L (2 + s1.toNatClampNeg) w (sh_sh (by omega))) m_2_93 wi_X4_hold (sh_sh (by omega)) rfl (by decide) (by decide +kernel) ⟨Nat.le_of_ble_eq_true rfl, Nat.le_of_ble_eq_true rfl⟩ rfl hl rfl (Nat.le_of_ble_eq_true rfl) ⟨Nat.zero_le _, Nat.zero_le _⟩ dX7_show_42 (fun H locs hP hS => ?_)
        refine lv_iload_n hx hb dX7_show_45 rfl (lv_at hl 2 rfl) ?_
        refine lv_iconst (v := (-1)) hx hb dX7_show_46 (by decide) ?_
        refine lv_icmp_ne (tgt := 54) hx hb dX7_show_47 (by decide) (fun c_47 => ?_) (fun c_47 => ?_)
        · refine lv_iconst (v := 1) hx hb dX7_show_54 (by decide) ?_
          refine f_ir X hlk hr (v := 1) rfl hP hS ?_ dX7_show_55
          unfold showC
          (first | rw [if_pos c_4] | rw [if_neg c_4] | rw [if_neg (Bool.eq_false_iff.mp c_4)] | skip)
          (first | rw [if_pos c_15] | rw [if_neg c_15] | rw [if_neg (Bool.eq_false_iff.mp c_15)] | skip)
          (first | rw [if_pos c_26] | rw [if_neg c_26] | rw [if_neg (Bool.eq_false_iff.mp c_26)] | skip)
          (first | rw [if_pos c_47] | rw [if_neg c_47] | rw [if_neg (Bool.eq_false_iff.mp c_47)] | skip)
          (try dsimp only)
          first
            | done
            | exact ⟨rfl, rfl⟩
            | rfl
            | (simp only [c_4, c_15, c_26, c_47, if_true, if_false, and_self, and_true, true_and, not_true_eq_false, not_false_eq_true, and_false, false_and, or_true, true_or, or_false, false_or, or_self, Bool.false_eq_true, reduceCtorEq, nl10, nl20, nl30, nl40, nl50, nl60, nl70, nl12, nl13, nl21, nl23, nl31, nl32]; first | done | exact ⟨rfl, rfl⟩ | rfl)
            | contradiction
            | (simp only [c_4, c_15, c_26, c_47, if_true, if_false, and_self, and_true, true_and, not_true_eq_false, not_false_eq_true, and_false, false_and, or_true, true_or, or_false, false_or, or_self, Bool.false_eq_true, reduceCtorEq, nl10, nl20, nl30, nl40, nl50, nl60, nl70, nl12, nl13, nl21, nl23, nl31, nl32]; contradiction)
            | (exfalso; simp_all; done)
            | simp_all
        · refine lv_iconst (v := 0) hx hb dX7_show_50 (by decide) ?_
          refine lv_goto (tgt := 55) hx hb dX7_show_51 (by decide) ?_
          refine f_ir X hlk hr (v := 0) rfl hP hS ?_ dX7_show_55
          unfold showC
          (first | rw [if_pos c_4] | rw [if_neg c_4] | rw [if_neg (Bool.eq_false_iff.mp c_4)] | skip)
          (first | rw [if_pos c_15] | rw [if_neg c_15] | rw [if_neg (Bool.eq_false_iff.mp c_15)] | skip)
          (first | rw [if_pos c_26] | rw [if_neg c_26] | rw [if_neg (Bool.eq_false_iff.mp c_26)] | skip)
          (first | rw [if_pos c_47] | rw [if_neg c_47] | rw [if_neg (Bool.eq_false_iff.mp c_47)] | skip)
          (try dsimp only)
          first
            | done
            | exact ⟨rfl, rfl⟩
            | rfl
            | (simp only [c_4, c_15, c_26, c_47, if_true, if_false, and_self, and_true, true_and, not_true_eq_false, not_false_eq_true, and_false, false_and, or_true, true_or, or_false, false_or, or_self, Bool.false_eq_true, reduceCtorEq, nl10, nl20, nl30, nl40, nl50, nl60, nl70, nl12, nl13, nl21, nl23, nl31, nl32]; first | done | exact ⟨rfl, rfl⟩ | rfl)
            | contradiction
            | (simp only [c_4, c_15, c_26, c_47, if_true, if_false, and_self, and_true, true_and, not_true_eq_false, not_false_eq_true, and_false, false_and, or_true, true_or, or_false, false_or, or_self, Bool.false_eq_true, reduceCtorEq, nl10, nl20, nl30, nl40, nl50, nl60, nl70, nl12, nl13, nl21, nl23, nl31, nl32]; contradiction)
            | (exfalso; simp_all; done)
            | simp_all
      · have c_26 := bI0 c_26
        refine lv_aload_n hx hb dX7_show_29 rfl (lv_at hl 0 rfl) ?_
        refine lv_iconst (v := (-1)) hx hb dX7_show_30 (by decide) ?_
        refine f_iV (n := 1) X hP hS [.int (-1)] [] (c_X7_refuse l E M L (-1)) m_2_29 wi_X7_refuse rfl rfl (by decide) (by decide +kernel) ⟨Nat.le_of_ble_eq_true rfl, Nat.le_of_ble_eq_true rfl⟩ rfl hl rfl (Nat.le_of_ble_eq_true rfl) ⟨Nat.zero_le _, Nat.zero_le _⟩ dX7_show_31 (fun H locs hP hS => ?_)
        refine f_ir X hlk hr (v := (-1)) rfl hP hS ?_ dX7_show_34
        unfold showC
        (first | rw [if_pos c_4] | rw [if_neg c_4] | rw [if_neg (Bool.eq_false_iff.mp c_4)] | skip)
        (first | rw [if_pos c_15] | rw [if_neg c_15] | rw [if_neg (Bool.eq_false_iff.mp c_15)] | skip)
        (first | rw [if_pos c_26] | rw [if_neg c_26] | rw [if_neg (Bool.eq_false_iff.mp c_26)] | skip)
        (try dsimp only)
        first
          | done
          | exact ⟨rfl, rfl⟩
          | rfl
          | (simp only [c_4, c_15, c_26, if_true, if_false, and_self, and_true, true_and, not_true_eq_false, not_false_eq_true, and_false, false_and, or_true, true_or, or_false, false_or, or_self, Bool.false_eq_true, reduceCtorEq, nl10, nl20, nl30, nl40, nl50, nl60, nl70, nl12, nl13, nl21, nl23, nl31, nl32]; first | done | exact ⟨rfl, rfl⟩ | rfl)
          | contradiction
          | (simp only [c_4, c_15, c_26, if_true, if_false, and_self, and_true, true_and, not_true_eq_false, not_false_eq_true, and_false, false_and, or_true, true_or, or_false, false_or, or_self, Bool.false_eq_true, reduceCtorEq, nl10, nl20, nl30, nl40, nl50, nl60, nl70, nl12, nl13, nl21, nl23, nl31, nl32]; contradiction)
          | (exfalso; simp_all; done)
          | simp_all
  · have c_4 := bI0 c_4
    refine lv_aload_n hx hb dX7_show_7 rfl (lv_at hl 0 rfl) ?_
    refine lv_iconst (v := (-1)) hx hb dX7_show_8 (by decide) ?_
    refine f_iV (n := 1) X hP hS [.int (-1)] [] (c_X7_refuse l E M L (-1)) m_2_29 wi_X7_refuse rfl rfl (by decide) (by decide +kernel) ⟨Nat.le_of_ble_eq_true rfl, Nat.le_of_ble_eq_true rfl⟩ rfl hl rfl (Nat.le_of_ble_eq_true rfl) ⟨Nat.zero_le _, Nat.zero_le _⟩ dX7_show_9 (fun H locs hP hS => ?_)
    refine f_ir X hlk hr (v := (-1)) rfl hP hS ?_ dX7_show_12
    unfold showC
    (first | rw [if_pos c_4] | rw [if_neg c_4] | rw [if_neg (Bool.eq_false_iff.mp c_4)] | skip)
    (try dsimp only)
    first
      | done
      | exact ⟨rfl, rfl⟩
      | rfl
      | (simp only [c_4, if_true, if_false, and_self, and_true, true_and, not_true_eq_false, not_false_eq_true, and_false, false_and, or_true, true_or, or_false, false_or, or_self, Bool.false_eq_true, reduceCtorEq, nl10, nl20, nl30, nl40, nl50, nl60, nl70, nl12, nl13, nl21, nl23, nl31, nl32]; first | done | exact ⟨rfl, rfl⟩ | rfl)
      | contradiction
      | (simp only [c_4, if_true, if_false, and_self, and_true, true_and, not_true_eq_false, not_false_eq_true, and_false, false_and, or_true, true_or, or_false, false_or, or_self, Bool.false_eq_true, reduceCtorEq, nl10, nl20, nl30, nl40, nl50, nl60, nl70, nl12, nl13, nl21, nl23, nl31, nl32]; contradiction)
      | (exfalso; simp_all; done)
      | simp_all

set_option maxHeartbeats 4000000 in
set_option maxRecDepth 100000 in
theorem c_X7_holds (l : Launch) (E : fE) (M : Nat → Nat → Int32) (L : Nat → Nat → Int64) (s1 : Int32) : Met l yX7_holds (wl yX7_holds cX7_holds 2 (some .int)) (fRm 2 42) (va_Pc [.ref (fad E 0), .int s1] (fPre E M L)) (fQi E (fun r u => u = (M, L) ∧ r = holdsC M s1)) 0 0 (fA E) := by
  refine f_head (by decide) (Nat.le_of_ble_eq_true rfl) ?_
  intro pg ev s mi below meth cd ls X hr hlk hP hS hl
  have hx := X.1.1
  have hb := X.1.2.1
  have hl : lv_has ls 2 [(0, .ref (fad E 0)), (1, .int s1)] := hl
  refine lv_iload_n hx hb dX7_holds_0 rfl (lv_at hl 1 rfl) ?_
  refine f_iS (n := 1) X hP hS [.int s1] [] (c_X7_isShelf l E M L s1) m_2_23 wi_X7_isShelf (by decide +kernel) ⟨Nat.le_of_ble_eq_true rfl, Nat.le_of_ble_eq_true rfl⟩ rfl hl rfl (Nat.le_of_ble_eq_true rfl) ⟨Nat.zero_le _, Nat.zero_le _⟩ dX7_holds_1 (fun H locs hP hS => ?_)
  refine lv_if_eq (tgt := 19) hx hb dX7_holds_4 (by decide) (fun c_4 => ?_) (fun c_4 => ?_)
  · have c_4 := bI0 c_4
    refine lv_iconst (v := (-1)) hx hb dX7_holds_19 (by decide) ?_
    refine f_ir X hlk hr (v := (-1)) rfl hP hS ?_ dX7_holds_20
    unfold holdsC
    (first | rw [if_pos c_4] | rw [if_neg c_4] | rw [if_neg (Bool.eq_false_iff.mp c_4)] | skip)
    (try dsimp only)
    first
      | done
      | exact ⟨rfl, rfl⟩
      | rfl
      | (simp only [c_4, if_true, if_false, and_self, and_true, true_and, not_true_eq_false, not_false_eq_true, and_false, false_and, or_true, true_or, or_false, false_or, or_self, Bool.false_eq_true, reduceCtorEq, nl10, nl20, nl30, nl40, nl50, nl60, nl70, nl12, nl13, nl21, nl23, nl31, nl32]; first | done | exact ⟨rfl, rfl⟩ | rfl)
      | contradiction
      | (simp only [c_4, if_true, if_false, and_self, and_true, true_and, not_true_eq_false, not_false_eq_true, and_false, false_and, or_true, true_or, or_false, false_or, or_self, Bool.false_eq_true, reduceCtorEq, nl10, nl20, nl30, nl40, nl50, nl60, nl70, nl12, nl13, nl21, nl23, nl31, nl32]; contradiction)
      | (exfalso; simp_all; done)
      | simp_all
  · have c_4 := bI1 c_4
    have hlt_s1 : s1.toNatClampNeg < 8 := (fIx_le 7 c_4.1 c_4.2 (by decide)).2.2
    refine lv_aload_n hx hb dX7_holds_7 rfl (lv_at hl 0 rfl) ?_
    refine f_get X hP (T := TX7) (ci := 7) (k := 0) rfl inX7 rfl 0 (by decide) m_1_231 rfl (v := .ref (fad E 1)) rfl dX7_holds_8 ?_
    refine lv_iload_n hx hb dX7_holds_11 rfl (lv_at hl 1 rfl) ?_
    refine f_aald X hP (t := 11) (d := 1) (n := 8) (r := s1.toNatClampNeg) rfl rfl (.inl ⟨rfl, rfl⟩) (fIx_le 7 c_4.1 c_4.2 (by decide)) (2 + s1.toNatClampNeg) (by omega) dX7_holds_12 ?_
    refine f_get X hP (T := TX4) (ci := 4) (k := (2 + s1.toNatClampNeg)) (sh_sh (by omega)) inX4 rfl 1 (by decide) m_1_219 rfl (v := .int (M (2 + s1.toNatClampNeg) 1)) rfl dX7_holds_13 ?_
    refine lv_goto (tgt := 20) hx hb dX7_holds_16 (by decide) ?_
    refine f_ir X hlk hr (v := (M (2 + s1.toNatClampNeg) 1)) rfl hP hS ?_ dX7_holds_20
    unfold holdsC
    (first | rw [if_pos c_4] | rw [if_neg c_4] | rw [if_neg (Bool.eq_false_iff.mp c_4)] | skip)
    (try dsimp only)
    first
      | done
      | exact ⟨rfl, rfl⟩
      | rfl
      | (simp only [c_4, if_true, if_false, and_self, and_true, true_and, not_true_eq_false, not_false_eq_true, and_false, false_and, or_true, true_or, or_false, false_or, or_self, Bool.false_eq_true, reduceCtorEq, nl10, nl20, nl30, nl40, nl50, nl60, nl70, nl12, nl13, nl21, nl23, nl31, nl32]; first | done | exact ⟨rfl, rfl⟩ | rfl)
      | contradiction
      | (simp only [c_4, if_true, if_false, and_self, and_true, true_and, not_true_eq_false, not_false_eq_true, and_false, false_and, or_true, true_or, or_false, false_or, or_self, Bool.false_eq_true, reduceCtorEq, nl10, nl20, nl30, nl40, nl50, nl60, nl70, nl12, nl13, nl21, nl23, nl31, nl32]; contradiction)
      | (exfalso; simp_all; done)
      | simp_all

set_option maxHeartbeats 4000000 in
set_option maxRecDepth 100000 in
theorem c_X7_says (l : Launch) (E : fE) (M : Nat → Nat → Int32) (L : Nat → Nat → Int64) (s1 : Int32) (k : Int32) : Met l yX7_says (wl yX7_says cX7_says 5 (some .int)) (fRm 3 65) (va_Pc [.ref (fad E 0), .int s1, .int k] (fPre E M L)) (fQi E (fun r u => u = ((saysC M L s1 k).2.1, (saysC M L s1 k).2.2) ∧ r = (saysC M L s1 k).1)) 0 0 (fA E) := by
  refine f_head (by decide) (Nat.le_of_ble_eq_true rfl) ?_
  intro pg ev s mi below meth cd ls X hr hlk hP hS hl
  have hx := X.1.1
  have hb := X.1.2.1
  have hl : lv_has ls 5 [(0, .ref (fad E 0)), (1, .int s1), (2, .int k)] := hl
  refine lv_iload_n hx hb dX7_says_0 rfl (lv_at hl 1 rfl) ?_
  refine f_iS (n := 1) X hP hS [.int s1] [] (c_X7_isShelf l E M L s1) m_2_23 wi_X7_isShelf (by decide +kernel) ⟨Nat.le_of_ble_eq_true rfl, Nat.le_of_ble_eq_true rfl⟩ rfl hl rfl (Nat.le_of_ble_eq_true rfl) ⟨Nat.zero_le _, Nat.zero_le _⟩ dX7_says_1 (fun H locs hP hS => ?_)
  refine lv_if_eq (tgt := 14) hx hb dX7_says_4 (by decide) (fun c_4 => ?_) (fun c_4 => ?_)
  · have c_4 := bI0 c_4
    refine lv_aload_n hx hb dX7_says_14 rfl (lv_at hl 0 rfl) ?_
    refine lv_iconst (v := (-1)) hx hb dX7_says_15 (by decide) ?_
    refine f_iV (n := 1) X hP hS [.int (-1)] [] (c_X7_refuse l E M L (-1)) m_2_29 wi_X7_refuse rfl rfl (by decide) (by decide +kernel) ⟨Nat.le_of_ble_eq_true rfl, Nat.le_of_ble_eq_true rfl⟩ rfl hl rfl (Nat.le_of_ble_eq_true rfl) ⟨Nat.zero_le _, Nat.zero_le _⟩ dX7_says_16 (fun H locs hP hS => ?_)
    refine f_ir X hlk hr (v := (-1)) rfl hP hS ?_ dX7_says_19
    unfold saysC
    (first | rw [if_pos c_4] | rw [if_neg c_4] | rw [if_neg (Bool.eq_false_iff.mp c_4)] | skip)
    (try dsimp only)
    first
      | done
      | exact ⟨rfl, rfl⟩
      | rfl
      | (simp only [c_4, if_true, if_false, and_self, and_true, true_and, not_true_eq_false, not_false_eq_true, and_false, false_and, or_true, true_or, or_false, false_or, or_self, Bool.false_eq_true, reduceCtorEq, nl10, nl20, nl30, nl40, nl50, nl60, nl70, nl12, nl13, nl21, nl23, nl31, nl32]; first | done | exact ⟨rfl, rfl⟩ | rfl)
      | contradiction
      | (simp only [c_4, if_true, if_false, and_self, and_true, true_and, not_true_eq_false, not_false_eq_true, and_false, false_and, or_true, true_or, or_false, false_or, or_self, Bool.false_eq_true, reduceCtorEq, nl10, nl20, nl30, nl40, nl50, nl60, nl70, nl12, nl13, nl21, nl23, nl31, nl32]; contradiction)
      | (exfalso; simp_all; done)
      | simp_all
  · have c_4 := bI1 c_4
    have hlt_s1 : s1.toNatClampNeg < 8 := (fIx_le 7 c_4.1 c_4.2 (by decide)).2.2
    refine lv_iload_n hx hb dX7_says_7 rfl (lv_at hl 2 rfl) ?_
    refine f_iS (n := 1) X hP hS [.int k] [] (c_X7_isKind l E M L k) m_2_105 wi_X7_isKind (by decide +kernel) ⟨Nat.le_of_ble_eq_true rfl, Nat.le_of_ble_eq_true rfl⟩ rfl hl rfl (Nat.le_of_ble_eq_true rfl) ⟨Nat.zero_le _, Nat.zero_le _⟩ dX7_says_8 (fun H locs hP hS => ?_)
    refine lv_if_ne (tgt := 20) hx hb dX7_says_11 (by decide) (fun c_11 => ?_) (fun c_11 => ?_)
    · have c_11 := bI1 c_11
      refine lv_aload_n hx hb dX7_says_20 rfl (lv_at hl 0 rfl) ?_
      refine f_get X hP (T := TX7) (ci := 7) (k := 0) rfl inX7 rfl 0 (by decide) m_1_231 rfl (v := .ref (fad E 1)) rfl dX7_says_21 ?_
      refine lv_iload_n hx hb dX7_says_24 rfl (lv_at hl 1 rfl) ?_
      refine f_aald X hP (t := 11) (d := 1) (n := 8) (r := s1.toNatClampNeg) rfl rfl (.inl ⟨rfl, rfl⟩) (fIx_le 7 c_4.1 c_4.2 (by decide)) (2 + s1.toNatClampNeg) (by omega) dX7_says_25 ?_
      refine f_iV (n := 0) X hP hS [] [] (c_X4_isRow l E M L (2 + s1.toNatClampNeg) (sh_sh (by omega))) m_2_45 wi_X4_isRow (sh_sh (by omega)) rfl (by decide) (by decide +kernel) ⟨Nat.le_of_ble_eq_true rfl, Nat.le_of_ble_eq_true rfl⟩ rfl hl rfl (Nat.le_of_ble_eq_true rfl) ⟨Nat.zero_le _, Nat.zero_le _⟩ dX7_says_26 (fun H locs hP hS => ?_)
      refine lv_if_eq (tgt := 39) hx hb dX7_says_29 (by decide) (fun c_29 => ?_) (fun c_29 => ?_)
      · have c_29 := bI0 c_29
        refine lv_aload_n hx hb dX7_says_39 rfl (lv_at hl 0 rfl) ?_
        refine f_get X hP (T := TX7) (ci := 7) (k := 0) rfl inX7 rfl 0 (by decide) m_1_231 rfl (v := .ref (fad E 1)) rfl dX7_says_40 ?_
        refine lv_iload_n hx hb dX7_says_43 rfl (lv_at hl 1 rfl) ?_
        refine f_aald X hP (t := 11) (d := 1) (n := 8) (r := s1.toNatClampNeg) rfl rfl (.inl ⟨rfl, rfl⟩) (fIx_le 7 c_4.1 c_4.2 (by decide)) (2 + s1.toNatClampNeg) (by omega) dX7_says_44 ?_
        refine f_get X hP (T := TX4) (ci := 4) (k := (2 + s1.toNatClampNeg)) (sh_sh (by omega)) inX4 rfl 1 (by decide) m_1_219 rfl (v := .int (M (2 + s1.toNatClampNeg) 1)) rfl dX7_says_45 ?_
        refine lv_istore_n (lv' := [(3, .int (M (2 + s1.toNatClampNeg) 1)), (0, .ref (fad E 0)), (1, .int s1), (2, .int k)]) hx hb dX7_says_48 rfl hl (by decide) rfl (fun ls hl => ?_)
        refine lv_aload_n hx hb dX7_says_49 rfl (lv_at hl 1 rfl) ?_
        refine f_get X hP (T := TX7) (ci := 7) (k := 0) rfl inX7 rfl 1 (by decide) m_1_232 rfl (v := .ref (fad E 18)) rfl dX7_says_50 ?_
        refine lv_iload_n hx hb dX7_says_53 rfl (lv_at hl 0 rfl) ?_
        refine f_iV (n := 1) X hP hS [.int (M (2 + s1.toNatClampNeg) 1)] [] (c_X1_hasWaiter l E M L 18 (M (2 + s1.toNatClampNeg) 1) rfl) m_2_89 wi_X1_hasWaiter rfl rfl (by decide) (by decide +kernel) ⟨Nat.le_of_ble_eq_true rfl, Nat.le_of_ble_eq_true rfl⟩ rfl hl rfl (Nat.le_of_ble_eq_true rfl) ⟨Nat.zero_le _, Nat.zero_le _⟩ dX7_says_54 (fun H locs hP hS => ?_)
        refine lv_if_ne (tgt := 67) hx hb dX7_says_57 (by decide) (fun c_57 => ?_) (fun c_57 => ?_)
        · have c_57 := bI1 c_57
          have hlt_w : (M (2 + s1.toNatClampNeg) 1).toNatClampNeg < 6 := (fIx_lt 6 c_57.1 c_57.2.2 (by decide)).2.2
          refine lv_aload_n hx hb dX7_says_67 rfl (lv_at hl 1 rfl) ?_
          refine f_get X hP (T := TX7) (ci := 7) (k := 0) rfl inX7 rfl 1 (by decide) m_1_232 rfl (v := .ref (fad E 18)) rfl dX7_says_68 ?_
          refine f_get X hP (T := TX1) (ci := 1) (k := 18) rfl inX1 rfl 1 (by decide) m_1_112 rfl (v := .ref (fad E 20)) rfl dX7_says_71 ?_
          refine lv_iload_n hx hb dX7_says_74 rfl (lv_at hl 0 rfl) ?_
          refine f_aald X hP (t := 13) (d := 10) (n := 6) (r := (M (2 + s1.toNatClampNeg) 1).toNatClampNeg) rfl rfl (.inr (.inr (.inl ⟨rfl, rfl⟩))) (fIx_lt 6 c_57.1 c_57.2.2 (by decide)) (30 + (M (2 + s1.toNatClampNeg) 1).toNatClampNeg) (by omega) dX7_says_75 ?_
          refine lv_astore (lv' := [(4, .ref (fad E (30 + (M (2 + s1.toNatClampNeg) 1).toNatClampNeg))), (3, .int (M (2 + s1.toNatClampNeg) 1)), (0, .ref (fad E 0)), (1, .int s1), (2, .int k)]) hx hb dX7_says_76 hl (by decide) rfl (fun ls hl => ?_)
          refine lv_aload hx hb dX7_says_78 (lv_at hl 0 rfl) ?_
          refine f_get X hP (T := TX6) (ci := 6) (k := (30 + (M (2 + s1.toNatClampNeg) 1).toNatClampNeg)) (sh_gw (g := 18) rfl (by omega)) inX6 rfl 1 (by decide) m_1_82 rfl (v := .int (M (30 + (M (2 + s1.toNatClampNeg) 1).toNatClampNeg) 1)) rfl dX7_says_80 ?_
          refine lv_iload_n hx hb dX7_says_83 rfl (lv_at hl 4 rfl) ?_
          refine f_iS (n := 2) X hP hS [.int (M (30 + (M (2 + s1.toNatClampNeg) 1).toNatClampNeg) 1), .int k] [] (c_X7_isUnder l E M L (M (30 + (M (2 + s1.toNatClampNeg) 1).toNatClampNeg) 1) k) m_2_108 wi_X7_isUnder (by decide +kernel) ⟨Nat.le_of_ble_eq_true rfl, Nat.le_of_ble_eq_true rfl⟩ rfl hl rfl (Nat.le_of_ble_eq_true rfl) ⟨Nat.zero_le _, Nat.zero_le _⟩ dX7_says_84 (fun H locs hP hS => ?_)
          refine lv_if_ne (tgt := 97) hx hb dX7_says_87 (by decide) (fun c_87 => ?_) (fun c_87 => ?_)
          · have c_87 := bIf1 c_87
            refine lv_aload hx hb dX7_says_97 (lv_at hl 0 rfl) ?_
            refine lv_iload_n hx hb dX7_says_99 rfl (lv_at hl 4 rfl) ?_
            refine f_iV (n := 1) X hP hS [.int k] [] (c_X6_wordAs l E M L (30 + (M (2 + s1.toNatClampNeg) 1).toNatClampNeg) k (sh_gw (g := 18) rfl (by omega))) m_2_113 wi_X6_wordAs (sh_gw (g := 18) rfl (by omega)) rfl (by decide) (by decide +kernel) ⟨Nat.le_of_ble_eq_true rfl, Nat.le_of_ble_eq_true rfl⟩ rfl hl rfl (Nat.le_of_ble_eq_true rfl) ⟨Nat.zero_le _, Nat.zero_le _⟩ dX7_says_100 (fun H locs hP hS => ?_)
            refine f_ir X hlk hr (v := (wordF k (M (30 + (M (2 + s1.toNatClampNeg) 1).toNatClampNeg) 2) (M (30 + (M (2 + s1.toNatClampNeg) 1).toNatClampNeg) 3) (M (30 + (M (2 + s1.toNatClampNeg) 1).toNatClampNeg) 4) (M (30 + (M (2 + s1.toNatClampNeg) 1).toNatClampNeg) 5))) rfl hP hS ?_ dX7_says_103
            unfold saysC
            (first | rw [if_pos c_4] | rw [if_neg c_4] | rw [if_neg (Bool.eq_false_iff.mp c_4)] | skip)
            (first | rw [if_pos c_11] | rw [if_neg c_11] | rw [if_neg (Bool.eq_false_iff.mp c_11)] | skip)
            (first | rw [if_pos c_29] | rw [if_neg c_29] | rw [if_neg (Bool.eq_false_iff.mp c_29)] | skip)
            (first | rw [if_pos c_57] | rw [if_neg c_57] | rw [if_neg (Bool.eq_false_iff.mp c_57)] | skip)
            (first | rw [if_pos c_87] | rw [if_neg c_87] | rw [if_neg (Bool.eq_false_iff.mp c_87)] | skip)
            (try dsimp only)
            first
              | done
              | exact ⟨rfl, rfl⟩
              | rfl
              | (simp only [c_4, c_11, c_29, c_57, c_87, if_true, if_false, and_self, and_true, true_and, not_true_eq_false, not_false_eq_true, and_false, false_and, or_true, true_or, or_false, false_or, or_self, Bool.false_eq_true, reduceCtorEq, nl10, nl20, nl30, nl40, nl50, nl60, nl70, nl12, nl13, nl21, nl23, nl31, nl32]; first | done | exact ⟨rfl, rfl⟩ | rfl)
              | contradiction
              | (simp only [c_4, c_11, c_29, c_57, c_87, if_true, if_false, and_self, and_true, true_and, not_true_eq_false, not_false_eq_true, and_false, false_and, or_true, true_or, or_false, false_or, or_self, Bool.false_eq_true, reduceCtorEq, nl10, nl20, nl30, nl40, nl50, nl60, nl70, nl12, nl13, nl21, nl23, nl31, nl32]; contradiction)
              | (exfalso; simp_all; done)
              | simp_all
          · have c_87 := bIf0 c_87
            refine lv_aload_n hx hb dX7_says_90 rfl (lv_at hl 2 rfl) ?_
            refine lv_bipush (v := (-2)) hx hb dX7_says_91 (by decide) ?_
            refine f_iV (n := 1) X hP hS [.int (-2)] [] (c_X7_refuse l E M L (-2)) m_2_29 wi_X7_refuse rfl rfl (by decide) (by decide +kernel) ⟨Nat.le_of_ble_eq_true rfl, Nat.le_of_ble_eq_true rfl⟩ rfl hl rfl (Nat.le_of_ble_eq_true rfl) ⟨Nat.zero_le _, Nat.zero_le _⟩ dX7_says_93 (fun H locs hP hS => ?_)
            refine f_ir X hlk hr (v := (-2)) rfl hP hS ?_ dX7_says_96
            unfold saysC
            (first | rw [if_pos c_4] | rw [if_neg c_4] | rw [if_neg (Bool.eq_false_iff.mp c_4)] | skip)
            (first | rw [if_pos c_11] | rw [if_neg c_11] | rw [if_neg (Bool.eq_false_iff.mp c_11)] | skip)
            (first | rw [if_pos c_29] | rw [if_neg c_29] | rw [if_neg (Bool.eq_false_iff.mp c_29)] | skip)
            (first | rw [if_pos c_57] | rw [if_neg c_57] | rw [if_neg (Bool.eq_false_iff.mp c_57)] | skip)
            (first | rw [if_pos c_87] | rw [if_neg c_87] | rw [if_neg (Bool.eq_false_iff.mp c_87)] | skip)
            (try dsimp only)
            first
              | done
              | exact ⟨rfl, rfl⟩
              | rfl
              | (simp only [c_4, c_11, c_29, c_57, c_87, if_true, if_false, and_self, and_true, true_and, not_true_eq_false, not_false_eq_true, and_false, false_and, or_true, true_or, or_false, false_or, or_self, Bool.false_eq_true, reduceCtorEq, nl10, nl20, nl30, nl40, nl50, nl60, nl70, nl12, nl13, nl21, nl23, nl31, nl32]; first | done | exact ⟨rfl, rfl⟩ | rfl)
              | contradiction
              | (simp only [c_4, c_11, c_29, c_57, c_87, if_true, if_false, and_self, and_true, true_and, not_true_eq_false, not_false_eq_true, and_false, false_and, or_true, true_or, or_false, false_or, or_self, Bool.false_eq_true, reduceCtorEq, nl10, nl20, nl30, nl40, nl50, nl60, nl70, nl12, nl13, nl21, nl23, nl31, nl32]; contradiction)
              | (exfalso; simp_all; done)
              | simp_all
        · have c_57 := bI0 c_57
          refine lv_aload_n hx hb dX7_says_60 rfl (lv_at hl 1 rfl) ?_
          refine lv_bipush (v := (-3)) hx hb dX7_says_61 (by decide) ?_
          refine f_iV (n := 1) X hP hS [.int (-3)] [] (c_X7_refuse l E M L (-3)) m_2_29 wi_X7_refuse rfl rfl (by decide) (by decide +kernel) ⟨Nat.le_of_ble_eq_true rfl, Nat.le_of_ble_eq_true rfl⟩ rfl hl rfl (Nat.le_of_ble_eq_true rfl) ⟨Nat.zero_le _, Nat.zero_le _⟩ dX7_says_63 (fun H locs hP hS => ?_)
          refine f_ir X hlk hr (v := (-3)) rfl hP hS ?_ dX7_says_66
          unfold saysC
          (first | rw [if_pos c_4] | rw [if_neg c_4] | rw [if_neg (Bool.eq_false_iff.mp c_4)] | skip)
          (first | rw [if_pos c_11] | rw [if_neg c_11] | rw [if_neg (Bool.eq_false_iff.mp c_11)] | skip)
          (first | rw [if_pos c_29] | rw [if_neg c_29] | rw [if_neg (Bool.eq_false_iff.mp c_29)] | skip)
          (first | rw [if_pos c_57] | rw [if_neg c_57] | rw [if_neg (Bool.eq_false_iff.mp c_57)] | skip)
          (try dsimp only)
          first
            | done
            | exact ⟨rfl, rfl⟩
            | rfl
            | (simp only [c_4, c_11, c_29, c_57, if_true, if_false, and_self, and_true, true_and, not_true_eq_false, not_false_eq_true, and_false, false_and, or_true, true_or, or_false, false_or, or_self, Bool.false_eq_true, reduceCtorEq, nl10, nl20, nl30, nl40, nl50, nl60, nl70, nl12, nl13, nl21, nl23, nl31, nl32]; first | done | exact ⟨rfl, rfl⟩ | rfl)
            | contradiction
            | (simp only [c_4, c_11, c_29, c_57, if_true, if_false, and_self, and_true, true_and, not_true_eq_false, not_false_eq_true, and_false, false_and, or_true, true_or, or_false, false_or, or_self, Bool.false_eq_true, reduceCtorEq, nl10, nl20, nl30, nl40, nl50, nl60, nl70, nl12, nl13, nl21, nl23, nl31, nl32]; contradiction)
            | (exfalso; simp_all; done)
            | simp_all
      · have c_29 := bI1 c_29
        refine lv_aload_n hx hb dX7_says_32 rfl (lv_at hl 0 rfl) ?_
        refine lv_bipush (v := (-2)) hx hb dX7_says_33 (by decide) ?_
        refine f_iV (n := 1) X hP hS [.int (-2)] [] (c_X7_refuse l E M L (-2)) m_2_29 wi_X7_refuse rfl rfl (by decide) (by decide +kernel) ⟨Nat.le_of_ble_eq_true rfl, Nat.le_of_ble_eq_true rfl⟩ rfl hl rfl (Nat.le_of_ble_eq_true rfl) ⟨Nat.zero_le _, Nat.zero_le _⟩ dX7_says_35 (fun H locs hP hS => ?_)
        refine f_ir X hlk hr (v := (-2)) rfl hP hS ?_ dX7_says_38
        unfold saysC
        (first | rw [if_pos c_4] | rw [if_neg c_4] | rw [if_neg (Bool.eq_false_iff.mp c_4)] | skip)
        (first | rw [if_pos c_11] | rw [if_neg c_11] | rw [if_neg (Bool.eq_false_iff.mp c_11)] | skip)
        (first | rw [if_pos c_29] | rw [if_neg c_29] | rw [if_neg (Bool.eq_false_iff.mp c_29)] | skip)
        (try dsimp only)
        first
          | done
          | exact ⟨rfl, rfl⟩
          | rfl
          | (simp only [c_4, c_11, c_29, if_true, if_false, and_self, and_true, true_and, not_true_eq_false, not_false_eq_true, and_false, false_and, or_true, true_or, or_false, false_or, or_self, Bool.false_eq_true, reduceCtorEq, nl10, nl20, nl30, nl40, nl50, nl60, nl70, nl12, nl13, nl21, nl23, nl31, nl32]; first | done | exact ⟨rfl, rfl⟩ | rfl)
          | contradiction
          | (simp only [c_4, c_11, c_29, if_true, if_false, and_self, and_true, true_and, not_true_eq_false, not_false_eq_true, and_false, false_and, or_true, true_or, or_false, false_or, or_self, Bool.false_eq_true, reduceCtorEq, nl10, nl20, nl30, nl40, nl50, nl60, nl70, nl12, nl13, nl21, nl23, nl31, nl32]; contradiction)
          | (exfalso; simp_all; done)
          | simp_all
    · have c_11 := bI0 c_11
      refine lv_aload_n hx hb dX7_says_14 rfl (lv_at hl 0 rfl) ?_
      refine lv_iconst (v := (-1)) hx hb dX7_says_15 (by decide) ?_
      refine f_iV (n := 1) X hP hS [.int (-1)] [] (c_X7_refuse l E M L (-1)) m_2_29 wi_X7_refuse rfl rfl (by decide) (by decide +kernel) ⟨Nat.le_of_ble_eq_true rfl, Nat.le_of_ble_eq_true rfl⟩ rfl hl rfl (Nat.le_of_ble_eq_true rfl) ⟨Nat.zero_le _, Nat.zero_le _⟩ dX7_says_16 (fun H locs hP hS => ?_)
      refine f_ir X hlk hr (v := (-1)) rfl hP hS ?_ dX7_says_19
      unfold saysC
      (first | rw [if_pos c_4] | rw [if_neg c_4] | rw [if_neg (Bool.eq_false_iff.mp c_4)] | skip)
      (first | rw [if_pos c_11] | rw [if_neg c_11] | rw [if_neg (Bool.eq_false_iff.mp c_11)] | skip)
      (try dsimp only)
      first
        | done
        | exact ⟨rfl, rfl⟩
        | rfl
        | (simp only [c_4, c_11, if_true, if_false, and_self, and_true, true_and, not_true_eq_false, not_false_eq_true, and_false, false_and, or_true, true_or, or_false, false_or, or_self, Bool.false_eq_true, reduceCtorEq, nl10, nl20, nl30, nl40, nl50, nl60, nl70, nl12, nl13, nl21, nl23, nl31, nl32]; first | done | exact ⟨rfl, rfl⟩ | rfl)
        | contradiction
        | (simp only [c_4, c_11, if_true, if_false, and_self, and_true, true_and, not_true_eq_false, not_false_eq_true, and_false, false_and, or_true, true_or, or_false, false_or, or_self, Bool.false_eq_true, reduceCtorEq, nl10, nl20, nl30, nl40, nl50, nl60, nl70, nl12, nl13, nl21, nl23, nl31, nl32]; contradiction)
        | (exfalso; simp_all; done)
        | simp_all
