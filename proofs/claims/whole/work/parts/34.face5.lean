set_option maxHeartbeats 4000000 in
set_option maxRecDepth 100000 in
theorem c_X7_copy (l : Launch) (E : fE) (M : Nat → Nat → Int32) (L : Nat → Nat → Int64) (p1 : Int32) (q1 : Int32) (i : Int32) (j : Int32) (n : Int32) (hz : szOK M) : Met l yX7_copy (wl yX7_copy cX7_copy 7 (some .int)) (fRm 4 87) (va_Pc [.ref (fad E 0), .int p1, .int q1, .int i, .int j, .int n] (fPre E M L)) (fQi E (fun r u => u = ((copyC M L p1 q1 i j n).2.1, (copyC M L p1 q1 i j n).2.2) ∧ r = (copyC M L p1 q1 i j n).1)) 0 0 (fA E) := by
  refine f_head (by decide) (Nat.le_of_ble_eq_true rfl) ?_
  intro pg ev s mi below meth cd ls X hr hlk hP hS hl
  have hx := X.1.1
  have hb := X.1.2.1
  have hl : lv_has ls 7 [(0, .ref (fad E 0)), (1, .int p1), (2, .int q1), (3, .int i), (4, .int j), (5, .int n)] := hl
  refine lv_aload_n hx hb dX7_copy_0 rfl (lv_at hl 0 rfl) ?_
  refine lv_iload_n hx hb dX7_copy_1 rfl (lv_at hl 1 rfl) ?_
  refine lv_iload_n hx hb dX7_copy_2 rfl (lv_at hl 2 rfl) ?_
  refine f_iV (n := 2) X hP hS [.int p1, .int q1] [] (c_X7_twoRowsRefusal l E M L p1 q1) m_2_66 wi_X7_twoRowsRefusal rfl rfl (by decide) (by decide +kernel) ⟨Nat.le_of_ble_eq_true rfl, Nat.le_of_ble_eq_true rfl⟩ rfl hl rfl (Nat.le_of_ble_eq_true rfl) ⟨Nat.zero_le _, Nat.zero_le _⟩ dX7_copy_3 (fun H locs hP hS => ?_)
  refine lv_istore (lv' := [(6, .int (trI M p1 q1)), (0, .ref (fad E 0)), (1, .int p1), (2, .int q1), (3, .int i), (4, .int j), (5, .int n)]) hx hb dX7_copy_6 hl (by decide) rfl (fun ls hl => ?_)
  refine lv_iload hx hb dX7_copy_8 (lv_at hl 0 rfl) ?_
  refine lv_if_eq (tgt := 20) hx hb dX7_copy_10 (by decide) (fun c_10 => ?_) (fun c_10 => ?_)
  · have hlt_p1 : p1.toNatClampNeg < 8 := (fIx_le 7 (rr0 (tr0 c_10).1).1.1 (rr0 (tr0 c_10).1).1.2 (by decide)).2.2
    have hlt_q1 : q1.toNatClampNeg < 8 := (fIx_le 7 (rr0 (tr0 c_10).2).1.1 (rr0 (tr0 c_10).2).1.2 (by decide)).2.2
    refine lv_iload hx hb dX7_copy_20 (lv_at hl 6 rfl) ?_
    refine lv_if_ge (tgt := 32) hx hb dX7_copy_22 (by decide) (fun c_22 => ?_) (fun c_22 => ?_)
    · refine lv_aload_n hx hb dX7_copy_32 rfl (lv_at hl 1 rfl) ?_
      refine f_get X hP (T := TX7) (ci := 7) (k := 0) rfl inX7 rfl 0 (by decide) m_1_231 rfl (v := .ref (fad E 1)) rfl dX7_copy_33 ?_
      refine lv_iload_n hx hb dX7_copy_36 rfl (lv_at hl 2 rfl) ?_
      refine f_aald X hP (t := 11) (d := 1) (n := 8) (r := p1.toNatClampNeg) rfl rfl (.inl ⟨rfl, rfl⟩) (fIx_le 7 (rr0 (tr0 c_10).1).1.1 (rr0 (tr0 c_10).1).1.2 (by decide)) (2 + p1.toNatClampNeg) (by omega) dX7_copy_37 ?_
      refine lv_iload_n hx hb dX7_copy_38 rfl (lv_at hl 4 rfl) ?_
      refine lv_iload hx hb dX7_copy_39 (lv_at hl 6 rfl) ?_
      refine f_iV (n := 2) X hP hS [.int i, .int n] [] (c_X4_hasPart l E M L (2 + p1.toNatClampNeg) i n (sh_sh (by omega))) m_2_70 wi_X4_hasPart (sh_sh (by omega)) rfl (by decide) (by decide +kernel) ⟨Nat.le_of_ble_eq_true rfl, Nat.le_of_ble_eq_true rfl⟩ rfl hl rfl (Nat.le_of_ble_eq_true rfl) ⟨Nat.zero_le _, Nat.zero_le _⟩ dX7_copy_41 (fun H locs hP hS => ?_)
      refine lv_if_eq (tgt := 63) hx hb dX7_copy_44 (by decide) (fun c_44 => ?_) (fun c_44 => ?_)
      · have c_44 := bI0 c_44
        refine lv_aload_n hx hb dX7_copy_63 rfl (lv_at hl 1 rfl) ?_
        refine lv_bipush (v := (-5)) hx hb dX7_copy_64 (by decide) ?_
        refine f_iV (n := 1) X hP hS [.int (-5)] [] (c_X7_refuse l E M L (-5)) m_2_29 wi_X7_refuse rfl rfl (by decide) (by decide +kernel) ⟨Nat.le_of_ble_eq_true rfl, Nat.le_of_ble_eq_true rfl⟩ rfl hl rfl (Nat.le_of_ble_eq_true rfl) ⟨Nat.zero_le _, Nat.zero_le _⟩ dX7_copy_66 (fun H locs hP hS => ?_)
        refine f_ir X hlk hr (v := (-5)) rfl hP hS ?_ dX7_copy_69
        unfold copyC
        (first | rw [if_pos c_10] | rw [if_neg c_10] | rw [if_neg (Bool.eq_false_iff.mp c_10)] | skip)
        (first | rw [if_pos c_22] | rw [if_neg c_22] | rw [if_neg (Bool.eq_false_iff.mp c_22)] | skip)
        (first | rw [if_pos c_44] | rw [if_neg c_44] | rw [if_neg (Bool.eq_false_iff.mp c_44)] | skip)
        (try dsimp only)
        first
          | done
          | exact ⟨rfl, rfl⟩
          | rfl
          | (simp only [c_10, c_22, c_44, if_true, if_false, and_self, and_true, true_and, not_true_eq_false, not_false_eq_true, and_false, false_and, or_true, true_or, or_false, false_or, or_self, Bool.false_eq_true, reduceCtorEq, nl10, nl20, nl30, nl40, nl50, nl60, nl70, nl12, nl13, nl21, nl23, nl31, nl32]; first | done | exact ⟨rfl, rfl⟩ | rfl)
          | contradiction
          | (simp only [c_10, c_22, c_44, if_true, if_false, and_self, and_true, true_and, not_true_eq_false, not_false_eq_true, and_false, false_and, or_true, true_or, or_false, false_or, or_self, Bool.false_eq_true, reduceCtorEq, nl10, nl20, nl30, nl40, nl50, nl60, nl70, nl12, nl13, nl21, nl23, nl31, nl32]; contradiction)
          | (exfalso; simp_all; done)
          | simp_all
      · have c_44 := bI1 c_44
        refine lv_aload_n hx hb dX7_copy_47 rfl (lv_at hl 1 rfl) ?_
        refine f_get X hP (T := TX7) (ci := 7) (k := 0) rfl inX7 rfl 0 (by decide) m_1_231 rfl (v := .ref (fad E 1)) rfl dX7_copy_48 ?_
        refine lv_iload_n hx hb dX7_copy_51 rfl (lv_at hl 3 rfl) ?_
        refine f_aald X hP (t := 11) (d := 1) (n := 8) (r := q1.toNatClampNeg) rfl rfl (.inl ⟨rfl, rfl⟩) (fIx_le 7 (rr0 (tr0 c_10).2).1.1 (rr0 (tr0 c_10).2).1.2 (by decide)) (2 + q1.toNatClampNeg) (by omega) dX7_copy_52 ?_
        refine lv_iload hx hb dX7_copy_53 (lv_at hl 5 rfl) ?_
        refine lv_iload hx hb dX7_copy_55 (lv_at hl 6 rfl) ?_
        refine f_iV (n := 2) X hP hS [.int j, .int n] [] (c_X4_hasPart l E M L (2 + q1.toNatClampNeg) j n (sh_sh (by omega))) m_2_70 wi_X4_hasPart (sh_sh (by omega)) rfl (by decide) (by decide +kernel) ⟨Nat.le_of_ble_eq_true rfl, Nat.le_of_ble_eq_true rfl⟩ rfl hl rfl (Nat.le_of_ble_eq_true rfl) ⟨Nat.zero_le _, Nat.zero_le _⟩ dX7_copy_57 (fun H locs hP hS => ?_)
        refine lv_if_ne (tgt := 70) hx hb dX7_copy_60 (by decide) (fun c_60 => ?_) (fun c_60 => ?_)
        · have c_60 := bI1 c_60
          refine lv_aload_n hx hb dX7_copy_70 rfl (lv_at hl 1 rfl) ?_
          refine f_get X hP (T := TX7) (ci := 7) (k := 0) rfl inX7 rfl 0 (by decide) m_1_231 rfl (v := .ref (fad E 1)) rfl dX7_copy_71 ?_
          refine lv_iload_n hx hb dX7_copy_74 rfl (lv_at hl 2 rfl) ?_
          refine f_aald X hP (t := 11) (d := 1) (n := 8) (r := p1.toNatClampNeg) rfl rfl (.inl ⟨rfl, rfl⟩) (fIx_le 7 (rr0 (tr0 c_10).1).1.1 (rr0 (tr0 c_10).1).1.2 (by decide)) (2 + p1.toNatClampNeg) (by omega) dX7_copy_75 ?_
          refine f_get X hP (T := TX4) (ci := 4) (k := (2 + p1.toNatClampNeg)) (sh_sh (by omega)) inX4 rfl 0 (by decide) m_1_217 rfl (v := .ref (fad E ((2 + p1.toNatClampNeg) + 8))) rfl dX7_copy_76 ?_
          refine lv_iload_n hx hb dX7_copy_79 rfl (lv_at hl 4 rfl) ?_
          refine lv_aload_n hx hb dX7_copy_80 rfl (lv_at hl 1 rfl) ?_
          refine f_get X hP (T := TX7) (ci := 7) (k := 0) rfl inX7 rfl 0 (by decide) m_1_231 rfl (v := .ref (fad E 1)) rfl dX7_copy_81 ?_
          refine lv_iload_n hx hb dX7_copy_84 rfl (lv_at hl 3 rfl) ?_
          refine f_aald X hP (t := 11) (d := 1) (n := 8) (r := q1.toNatClampNeg) rfl rfl (.inl ⟨rfl, rfl⟩) (fIx_le 7 (rr0 (tr0 c_10).2).1.1 (rr0 (tr0 c_10).2).1.2 (by decide)) (2 + q1.toNatClampNeg) (by omega) dX7_copy_85 ?_
          refine f_get X hP (T := TX4) (ci := 4) (k := (2 + q1.toNatClampNeg)) (sh_sh (by omega)) inX4 rfl 0 (by decide) m_1_217 rfl (v := .ref (fad E ((2 + q1.toNatClampNeg) + 8))) rfl dX7_copy_86 ?_
          refine lv_iload hx hb dX7_copy_89 (lv_at hl 5 rfl) ?_
          refine lv_iload hx hb dX7_copy_91 (lv_at hl 6 rfl) ?_
          refine f_cpl X hP hS hx hb (X.1.2.2.1.trans hl.1.symm) (k0 := ((2 + p1.toNatClampNeg) + 8)) (k1 := ((2 + q1.toNatClampNeg) + 8)) (sh_el (sh_sh (by omega))) (ln_el (sh_sh (by omega))) (sh_el (sh_sh (by omega))) (ln_el (sh_sh (by omega))) (⟨Int32.not_lt.mpr c_44.1, Int32.not_lt.mpr c_60.1, Int32.not_lt.mpr c_44.2.2.1, part_ok c_44 (hz _ (by omega)), part_ok c_60 (hz _ (by omega))⟩) m_2_74 m_2_76 m_2_75 m_1_10 (Nat.le_of_ble_eq_true rfl) (Nat.le_of_ble_eq_true rfl) dX7_copy_93 (fun H locs hP hS => ?_)
          refine lv_iconst (v := 1) hx hb dX7_copy_96 (by decide) ?_
          refine f_ir X hlk hr (v := 1) rfl hP hS ?_ dX7_copy_97
          unfold copyC
          (first | rw [if_pos c_10] | rw [if_neg c_10] | rw [if_neg (Bool.eq_false_iff.mp c_10)] | skip)
          (first | rw [if_pos c_22] | rw [if_neg c_22] | rw [if_neg (Bool.eq_false_iff.mp c_22)] | skip)
          (first | rw [if_pos c_44] | rw [if_neg c_44] | rw [if_neg (Bool.eq_false_iff.mp c_44)] | skip)
          (first | rw [if_pos c_60] | rw [if_neg c_60] | rw [if_neg (Bool.eq_false_iff.mp c_60)] | skip)
          (try dsimp only)
          first
            | done
            | exact ⟨rfl, rfl⟩
            | rfl
            | (simp only [c_10, c_22, c_44, c_60, if_true, if_false, and_self, and_true, true_and, not_true_eq_false, not_false_eq_true, and_false, false_and, or_true, true_or, or_false, false_or, or_self, Bool.false_eq_true, reduceCtorEq, nl10, nl20, nl30, nl40, nl50, nl60, nl70, nl12, nl13, nl21, nl23, nl31, nl32]; first | done | exact ⟨rfl, rfl⟩ | rfl)
            | contradiction
            | (simp only [c_10, c_22, c_44, c_60, if_true, if_false, and_self, and_true, true_and, not_true_eq_false, not_false_eq_true, and_false, false_and, or_true, true_or, or_false, false_or, or_self, Bool.false_eq_true, reduceCtorEq, nl10, nl20, nl30, nl40, nl50, nl60, nl70, nl12, nl13, nl21, nl23, nl31, nl32]; contradiction)
            | (exfalso; simp_all; done)
            | simp_all
        · have c_60 := bI0 c_60
          refine lv_aload_n hx hb dX7_copy_63 rfl (lv_at hl 1 rfl) ?_
          refine lv_bipush (v := (-5)) hx hb dX7_copy_64 (by decide) ?_
          refine f_iV (n := 1) X hP hS [.int (-5)] [] (c_X7_refuse l E M L (-5)) m_2_29 wi_X7_refuse rfl rfl (by decide) (by decide +kernel) ⟨Nat.le_of_ble_eq_true rfl, Nat.le_of_ble_eq_true rfl⟩ rfl hl rfl (Nat.le_of_ble_eq_true rfl) ⟨Nat.zero_le _, Nat.zero_le _⟩ dX7_copy_66 (fun H locs hP hS => ?_)
          refine f_ir X hlk hr (v := (-5)) rfl hP hS ?_ dX7_copy_69
          unfold copyC
          (first | rw [if_pos c_10] | rw [if_neg c_10] | rw [if_neg (Bool.eq_false_iff.mp c_10)] | skip)
          (first | rw [if_pos c_22] | rw [if_neg c_22] | rw [if_neg (Bool.eq_false_iff.mp c_22)] | skip)
          (first | rw [if_pos c_44] | rw [if_neg c_44] | rw [if_neg (Bool.eq_false_iff.mp c_44)] | skip)
          (first | rw [if_pos c_60] | rw [if_neg c_60] | rw [if_neg (Bool.eq_false_iff.mp c_60)] | skip)
          (try dsimp only)
          first
            | done
            | exact ⟨rfl, rfl⟩
            | rfl
            | (simp only [c_10, c_22, c_44, c_60, if_true, if_false, and_self, and_true, true_and, not_true_eq_false, not_false_eq_true, and_false, false_and, or_true, true_or, or_false, false_or, or_self, Bool.false_eq_true, reduceCtorEq, nl10, nl20, nl30, nl40, nl50, nl60, nl70, nl12, nl13, nl21, nl23, nl31, nl32]; first | done | exact ⟨rfl, rfl⟩ | rfl)
            | contradiction
            | (simp only [c_10, c_22, c_44, c_60, if_true, if_false, and_self, and_true, true_and, not_true_eq_false, not_false_eq_true, and_false, false_and, or_true, true_or, or_false, false_or, or_self, Bool.false_eq_true, reduceCtorEq, nl10, nl20, nl30, nl40, nl50, nl60, nl70, nl12, nl13, nl21, nl23, nl31, nl32]; contradiction)
            | (exfalso; simp_all; done)
            | simp_all
    · refine lv_aload_n hx hb dX7_copy_25 rfl (lv_at hl 1 rfl) ?_
      refine lv_bipush (v := (-4)) hx hb dX7_copy_26 (by decide) ?_
      refine f_iV (n := 1) X hP hS [.int (-4)] [] (c_X7_refuse l E M L (-4)) m_2_29 wi_X7_refuse rfl rfl (by decide) (by decide +kernel) ⟨Nat.le_of_ble_eq_true rfl, Nat.le_of_ble_eq_true rfl⟩ rfl hl rfl (Nat.le_of_ble_eq_true rfl) ⟨Nat.zero_le _, Nat.zero_le _⟩ dX7_copy_28 (fun H locs hP hS => ?_)
      refine f_ir X hlk hr (v := (-4)) rfl hP hS ?_ dX7_copy_31
      unfold copyC
      (first | rw [if_pos c_10] | rw [if_neg c_10] | rw [if_neg (Bool.eq_false_iff.mp c_10)] | skip)
      (first | rw [if_pos c_22] | rw [if_neg c_22] | rw [if_neg (Bool.eq_false_iff.mp c_22)] | skip)
      (try dsimp only)
      first
        | done
        | exact ⟨rfl, rfl⟩
        | rfl
        | (simp only [c_10, c_22, if_true, if_false, and_self, and_true, true_and, not_true_eq_false, not_false_eq_true, and_false, false_and, or_true, true_or, or_false, false_or, or_self, Bool.false_eq_true, reduceCtorEq, nl10, nl20, nl30, nl40, nl50, nl60, nl70, nl12, nl13, nl21, nl23, nl31, nl32]; first | done | exact ⟨rfl, rfl⟩ | rfl)
        | contradiction
        | (simp only [c_10, c_22, if_true, if_false, and_self, and_true, true_and, not_true_eq_false, not_false_eq_true, and_false, false_and, or_true, true_or, or_false, false_or, or_self, Bool.false_eq_true, reduceCtorEq, nl10, nl20, nl30, nl40, nl50, nl60, nl70, nl12, nl13, nl21, nl23, nl31, nl32]; contradiction)
        | (exfalso; simp_all; done)
        | simp_all
  · refine lv_aload_n hx hb dX7_copy_13 rfl (lv_at hl 1 rfl) ?_
    refine lv_iload hx hb dX7_copy_14 (lv_at hl 0 rfl) ?_
    refine f_iV (n := 1) X hP hS [.int (trI M p1 q1)] [] (c_X7_refuse l E M L (trI M p1 q1)) m_2_29 wi_X7_refuse rfl rfl (by decide) (by decide +kernel) ⟨Nat.le_of_ble_eq_true rfl, Nat.le_of_ble_eq_true rfl⟩ rfl hl rfl (Nat.le_of_ble_eq_true rfl) ⟨Nat.zero_le _, Nat.zero_le _⟩ dX7_copy_16 (fun H locs hP hS => ?_)
    refine f_ir X hlk hr (v := (trI M p1 q1)) rfl hP hS ?_ dX7_copy_19
    unfold copyC
    (first | rw [if_pos c_10] | rw [if_neg c_10] | rw [if_neg (Bool.eq_false_iff.mp c_10)] | skip)
    (try dsimp only)
    first
      | done
      | exact ⟨rfl, rfl⟩
      | rfl
      | (simp only [c_10, if_true, if_false, and_self, and_true, true_and, not_true_eq_false, not_false_eq_true, and_false, false_and, or_true, true_or, or_false, false_or, or_self, Bool.false_eq_true, reduceCtorEq, nl10, nl20, nl30, nl40, nl50, nl60, nl70, nl12, nl13, nl21, nl23, nl31, nl32]; first | done | exact ⟨rfl, rfl⟩ | rfl)
      | contradiction
      | (simp only [c_10, if_true, if_false, and_self, and_true, true_and, not_true_eq_false, not_false_eq_true, and_false, false_and, or_true, true_or, or_false, false_or, or_self, Bool.false_eq_true, reduceCtorEq, nl10, nl20, nl30, nl40, nl50, nl60, nl70, nl12, nl13, nl21, nl23, nl31, nl32]; contradiction)
      | (exfalso; simp_all; done)
      | simp_all
