def a_X8_row (M : Nat → Nat → Int32) (L : Nat → Nat → Int64) (s1 : Int32) (o : Int32) (n : Int32) : fR := (if (0 ≤ s1 ∧ s1 < 8) then (if 0 ≤ n then (if o < 0 then ((-6), (noM M (-6)), L) else (if o ≤ 3 then (if n ≤ 160 then (1, (up2 (up2 (up2 M 100 s1.toNatClampNeg 1) 101 s1.toNatClampNeg o) 102 s1.toNatClampNeg n), (zcL L s1.toNatClampNeg 160)) else ((-7), (noM M (-7)), L)) else ((-6), (noM M (-6)), L))) else ((-4), (noM M (-4)), L)) else ((-1), (noM M (-1)), L))
set_option maxHeartbeats 1000000 in
set_option maxRecDepth 100000 in
theorem c_X8_row (l : Launch) (E : fE) (M : Nat → Nat → Int32) (L : Nat → Nat → Int64) (s1 : Int32) (o : Int32) (n : Int32) : Met l yX8_row (wl yX8_row cX8_row 5 (some .int)) (fRm 1 21) (va_Pc [.ref (fad E 86), .int s1, .int o, .int n] (fPre E M L)) (fQi E (fun r u => u = ((a_X8_row M L s1 o n).2.1, (a_X8_row M L s1 o n).2.2) ∧ r = (a_X8_row M L s1 o n).1)) 0 0 (fA E) := by
  refine f_head (by decide) (Nat.le_of_ble_eq_true rfl) ?_
  intro pg ev s mi below meth cd ls X hr hlk hP hS hl
  have hx := X.1.1
  have hb := X.1.2.1
  have hl : lv_has ls 5 [(0, .ref (fad E 86)), (1, .int s1), (2, .int o), (3, .int n)] := hl
  refine lv_aload_n hx hb dX8_row_0 rfl (lv_at hl 0 rfl) ?_
  refine lv_iload_n hx hb dX8_row_1 rfl (lv_at hl 1 rfl) ?_
  refine f_iV (n := 1) X hP hS [.int s1] [] (c_X8_isShelf l E M L s1) m_5_80 wi_X8_isShelf rfl rfl (by decide) (by decide +kernel) ⟨Nat.le_of_ble_eq_true rfl, Nat.le_of_ble_eq_true rfl⟩ rfl hl rfl (Nat.le_of_ble_eq_true rfl) ⟨Nat.zero_le _, Nat.zero_le _⟩ dX8_row_2 (fun H locs hP hS => ?_)
  refine lv_if_ne (tgt := 14) hx hb dX8_row_5 (by decide) (fun c_5 => ?_) (fun c_5 => ?_)
  · have c_5 := bI1 c_5
    refine lv_iload_n hx hb dX8_row_14 rfl (lv_at hl 3 rfl) ?_
    refine lv_if_ge (tgt := 25) hx hb dX8_row_15 (by decide) (fun c_15 => ?_) (fun c_15 => ?_)
    · refine lv_iload_n hx hb dX8_row_25 rfl (lv_at hl 2 rfl) ?_
      refine lv_if_lt (tgt := 34) hx hb dX8_row_26 (by decide) (fun c_26 => ?_) (fun c_26 => ?_)
      · refine lv_aload_n hx hb dX8_row_34 rfl (lv_at hl 0 rfl) ?_
        refine lv_bipush (v := (-6)) hx hb dX8_row_35 (by decide) ?_
        refine f_iV (n := 1) X hP hS [.int (-6)] [] (c_X8_no l E M L (-6) (by decide)) m_5_84 wi_X8_no rfl rfl (by decide) (by decide +kernel) ⟨Nat.le_of_ble_eq_true rfl, Nat.le_of_ble_eq_true rfl⟩ rfl hl rfl (Nat.le_of_ble_eq_true rfl) ⟨Nat.zero_le _, Nat.zero_le _⟩ dX8_row_37 (fun H locs hP hS => ?_)
        refine f_ir X hlk hr (v := (-6)) rfl hP hS ?_ dX8_row_40
        unfold a_X8_row
        (first | rw [if_pos c_5] | rw [if_neg c_5] | rw [if_neg (Bool.eq_false_iff.mp c_5)] | skip)
        (first | rw [if_pos c_15] | rw [if_neg c_15] | rw [if_neg (Bool.eq_false_iff.mp c_15)] | skip)
        (first | rw [if_pos c_26] | rw [if_neg c_26] | rw [if_neg (Bool.eq_false_iff.mp c_26)] | skip)
        (try dsimp only)
        first
          | done
          | exact ⟨rfl, rfl⟩
          | rfl
          | (simp only [c_5, c_15, c_26, if_true, if_false, and_self, and_true, true_and, not_true_eq_false, not_false_eq_true, and_false, false_and, or_true, true_or, or_false, false_or, or_self, Bool.false_eq_true, reduceCtorEq, nl10, nl20, nl30, nl40, nl50, nl60, nl70, nl12, nl13, nl21, nl23, nl31, nl32]; first | done | exact ⟨rfl, rfl⟩ | rfl)
          | contradiction
          | (simp only [c_5, c_15, c_26, if_true, if_false, and_self, and_true, true_and, not_true_eq_false, not_false_eq_true, and_false, false_and, or_true, true_or, or_false, false_or, or_self, Bool.false_eq_true, reduceCtorEq, nl10, nl20, nl30, nl40, nl50, nl60, nl70, nl12, nl13, nl21, nl23, nl31, nl32]; contradiction)
          | (exfalso; simp_all; done)
          | simp_all
      · refine lv_iload_n hx hb dX8_row_29 rfl (lv_at hl 2 rfl) ?_
        refine lv_iconst (v := 3) hx hb dX8_row_30 (by decide) ?_
        refine lv_icmp_le (tgt := 41) hx hb dX8_row_31 (by decide) (fun c_31 => ?_) (fun c_31 => ?_)
        · refine lv_iload_n hx hb dX8_row_41 rfl (lv_at hl 3 rfl) ?_
          refine lv_sipush (v := 160) hx hb dX8_row_42 (by decide) ?_
          refine lv_icmp_le (tgt := 55) hx hb dX8_row_45 (by decide) (fun c_45 => ?_) (fun c_45 => ?_)
          · refine lv_aload_n hx hb dX8_row_55 rfl (lv_at hl 0 rfl) ?_
            refine f_get X hP (T := TX8) (ci := 8) (k := 86) rfl inX8 rfl 21 (by decide) m_4_195 rfl (v := .ref (fad E 100)) rfl dX8_row_56 ?_
            refine lv_iload_n hx hb dX8_row_59 rfl (lv_at hl 1 rfl) ?_
            refine lv_iconst (v := 1) hx hb dX8_row_60 (by decide) ?_
            have hix_1 : fIx s1 8 s1.toNatClampNeg := by
              first
                | exact fIx_lt 8 c_5.1 c_5.2 (by decide)
                | exact fIx_lt 8 c_15.1 c_15.2 (by decide)
                | exact fIx_lt 8 c_26.1 c_26.2 (by decide)
                | exact fIx_lt 8 c_31.1 c_31.2 (by decide)
                | exact fIx_lt 8 c_45.1 c_45.2 (by decide)
                | exact fIx_le 7 c_5.1 c_5.2 (by decide)
                | exact fIx_le 7 c_15.1 c_15.2 (by decide)
                | exact fIx_le 7 c_26.1 c_26.2 (by decide)
                | exact fIx_le 7 c_31.1 c_31.2 (by decide)
                | exact fIx_le 7 c_45.1 c_45.2 (by decide)
                | exact fIx_lt 8 c_5.1 c_5.2.2 (by decide)
                | exact fIx_lt 8 c_15.1 c_15.2.2 (by decide)
                | exact fIx_lt 8 c_26.1 c_26.2.2 (by decide)
                | exact fIx_lt 8 c_31.1 c_31.2.2 (by decide)
                | exact fIx_lt 8 c_45.1 c_45.2.2 (by decide)
                | exact fIx_le 7 (rr0 c_5).1.1 (rr0 c_5).1.2 (by decide)
                | exact fIx_le 7 (rr0 c_15).1.1 (rr0 c_15).1.2 (by decide)
                | exact fIx_le 7 (rr0 c_26).1.1 (rr0 c_26).1.2 (by decide)
                | exact fIx_le 7 (rr0 c_31).1.1 (rr0 c_31).1.2 (by decide)
                | exact fIx_le 7 (rr0 c_45).1.1 (rr0 c_45).1.2 (by decide)
                | (refine fIx_lt 8 (show (0 : Int32) ≤ s1 from ?_) (show s1 < (8 : Int32) from ?_) (by decide) <;> (have e0_9 : (0 : Int32).toInt = 0 := rfl; have en_9 : (8 : Int32).toInt = 8 := rfl; simp only [Int32.lt_iff_toInt_lt, Int32.le_iff_toInt_le, Int32.not_lt, Int32.not_le, ← Int32.toInt_inj] at *; omega))
            have hlt_1 := hix_1.2.2
            refine f_iast X hP hS (k := 100) (n := 8) (q := s1.toNatClampNeg) rfl rfl (v := 1) hix_1 dX8_row_61 (fun H locs hP hS => ?_)
            refine lv_aload_n hx hb dX8_row_62 rfl (lv_at hl 0 rfl) ?_
            refine f_get X hP (T := TX8) (ci := 8) (k := 86) rfl inX8 rfl 22 (by decide) m_4_196 rfl (v := .ref (fad E 101)) rfl dX8_row_63 ?_
            refine lv_iload_n hx hb dX8_row_66 rfl (lv_at hl 1 rfl) ?_
            refine lv_iload_n hx hb dX8_row_67 rfl (lv_at hl 2 rfl) ?_
            refine f_iast X hP hS (k := 101) (n := 8) (q := s1.toNatClampNeg) rfl rfl (v := o) hix_1 dX8_row_68 (fun H locs hP hS => ?_)
            refine lv_aload_n hx hb dX8_row_69 rfl (lv_at hl 0 rfl) ?_
            refine f_get X hP (T := TX8) (ci := 8) (k := 86) rfl inX8 rfl 23 (by decide) m_4_197 rfl (v := .ref (fad E 102)) rfl dX8_row_70 ?_
            refine lv_iload_n hx hb dX8_row_73 rfl (lv_at hl 1 rfl) ?_
            refine lv_iload_n hx hb dX8_row_74 rfl (lv_at hl 3 rfl) ?_
            refine f_iast X hP hS (k := 102) (n := 8) (q := s1.toNatClampNeg) rfl rfl (v := n) hix_1 dX8_row_75 (fun H locs hP hS => ?_)
            have hP := fP_eqL (show L = (zcL L s1.toNatClampNeg 0) from by
                exact zcL_0) hP
            refine lv_iconst (v := 0) hx hb dX8_row_76 (by decide) ?_
            refine lv_istore (lv' := [(4, .int 0), (0, .ref (fad E 86)), (1, .int s1), (2, .int o), (3, .int n)]) hx hb dX8_row_77 hl (by decide) rfl (fun ls hl => ?_)
            refine f_loop (α := Nat) (fun (i : Nat) H locs ls => fP E (up2 (up2 (up2 M 100 s1.toNatClampNeg 1) 101 s1.toNatClampNeg o) 102 s1.toNatClampNeg n) (zcL L s1.toNatClampNeg i) H ∧ va_S (fA E) s.heap H locs ∧ lv_has ls 5 [(4, .int (nI i)), (0, .ref (fad E 86)), (1, .int s1), (2, .int o), (3, .int n)] ∧ (i ≤ 160)) (fun (i : Nat) => 160 - i) (pc0 := 79) (st := fun _ => []) ?_ 0 _ _ _ ⟨hP, hS, lv_sub hl [0, 1, 2, 3, 4] rfl, (by omega)⟩
            rintro i H locs ls ⟨hP, hS, hl, ht⟩ ih_79
            refine lv_iload hx hb dX8_row_79 (lv_at hl 0 rfl) ?_
            refine lv_sipush (v := 160) hx hb dX8_row_81 (by decide) ?_
            refine lv_icmp_ge (tgt := 107) hx hb dX8_row_84 (by decide) (fun c_84 => ?_) (fun c_84 => ?_)
            · have c_84 := (nI_le_iff (a := 160) (b := i) (by omega) (by omega)).mp c_84
              obtain rfl : i = 160 := by omega
              refine lv_iconst (v := 1) hx hb dX8_row_107 (by decide) ?_
              refine f_ir X hlk hr (v := 1) rfl hP hS ?_ dX8_row_108
              unfold a_X8_row
              (first | rw [if_pos c_5] | rw [if_neg c_5] | rw [if_neg (Bool.eq_false_iff.mp c_5)] | skip)
              (first | rw [if_pos c_15] | rw [if_neg c_15] | rw [if_neg (Bool.eq_false_iff.mp c_15)] | skip)
              (first | rw [if_pos c_26] | rw [if_neg c_26] | rw [if_neg (Bool.eq_false_iff.mp c_26)] | skip)
              (first | rw [if_pos c_31] | rw [if_neg c_31] | rw [if_neg (Bool.eq_false_iff.mp c_31)] | skip)
              (first | rw [if_pos c_45] | rw [if_neg c_45] | rw [if_neg (Bool.eq_false_iff.mp c_45)] | skip)
              (first | rw [if_pos c_84] | rw [if_neg c_84] | rw [if_neg (Bool.eq_false_iff.mp c_84)] | skip)
              (try dsimp only)
              first
                | done
                | exact ⟨rfl, rfl⟩
                | rfl
                | (simp only [c_5, c_15, c_26, c_31, c_45, c_84, if_true, if_false, and_self, and_true, true_and, not_true_eq_false, not_false_eq_true, and_false, false_and, or_true, true_or, or_false, false_or, or_self, Bool.false_eq_true, reduceCtorEq, nl10, nl20, nl30, nl40, nl50, nl60, nl70, nl12, nl13, nl21, nl23, nl31, nl32]; first | done | exact ⟨rfl, rfl⟩ | rfl)
                | contradiction
                | (simp only [c_5, c_15, c_26, c_31, c_45, c_84, if_true, if_false, and_self, and_true, true_and, not_true_eq_false, not_false_eq_true, and_false, false_and, or_true, true_or, or_false, false_or, or_self, Bool.false_eq_true, reduceCtorEq, nl10, nl20, nl30, nl40, nl50, nl60, nl70, nl12, nl13, nl21, nl23, nl31, nl32]; contradiction)
                | (exfalso; simp_all; done)
                | simp_all
            · have c_84 := (not_congr (nI_le_iff (a := 160) (b := i) (by omega) (by omega))).mp c_84
              refine lv_aload_n hx hb dX8_row_87 rfl (lv_at hl 1 rfl) ?_
              refine f_get X hP (T := TX8) (ci := 8) (k := 86) rfl inX8 rfl 25 (by decide) m_4_199 rfl (v := .ref (fad E 104)) rfl dX8_row_88 ?_
              refine lv_sipush (v := 160) hx hb dX8_row_91 (by decide) ?_
              refine lv_iload_n hx hb dX8_row_94 rfl (lv_at hl 2 rfl) ?_
              refine lv_imul hx hb dX8_row_95 ?_
              refine lv_iload hx hb dX8_row_96 (lv_at hl 0 rfl) ?_
              refine lv_iadd hx hb dX8_row_98 ?_
              refine lv_lconst (v := 0) hx hb dX8_row_99 (by decide) ?_
              refine f_last X hP hS (k := 104) (n := 1280) (q := (160 * s1.toNatClampNeg + i)) rfl rfl (v := 0) (fIx_cell hix_1 (fIx_nI (by omega) (by decide))) dX8_row_100 (fun H locs hP hS => ?_)
              refine lv_iinc (v := (nI (i + 1))) (lv' := [(4, .int (nI (i + 1))), (0, .ref (fad E 86)), (1, .int s1), (2, .int o), (3, .int n)]) hx hb dX8_row_101 hl (k := 0) rfl (nI_1 _) (by decide) rfl (fun ls hl => ?_)
              refine lv_goto (tgt := 79) hx hb dX8_row_104 (by decide) ?_
              have hP := fP_eqL (show (upL (zcL L s1.toNatClampNeg i) 104 (160 * s1.toNatClampNeg + i) 0) = (zcL L s1.toNatClampNeg (i + 1)) from by
                  exact zcL_s) hP
              exact ih_79 (i + 1) _ _ _ (by show 160 - (i + 1) < 160 - i; omega) ⟨hP, hS, lv_sub hl [0, 1, 2, 3, 4] rfl, (by omega)⟩
          · refine lv_aload_n hx hb dX8_row_48 rfl (lv_at hl 0 rfl) ?_
            refine lv_bipush (v := (-7)) hx hb dX8_row_49 (by decide) ?_
            refine f_iV (n := 1) X hP hS [.int (-7)] [] (c_X8_no l E M L (-7) (by decide)) m_5_84 wi_X8_no rfl rfl (by decide) (by decide +kernel) ⟨Nat.le_of_ble_eq_true rfl, Nat.le_of_ble_eq_true rfl⟩ rfl hl rfl (Nat.le_of_ble_eq_true rfl) ⟨Nat.zero_le _, Nat.zero_le _⟩ dX8_row_51 (fun H locs hP hS => ?_)
            refine f_ir X hlk hr (v := (-7)) rfl hP hS ?_ dX8_row_54
            unfold a_X8_row
            (first | rw [if_pos c_5] | rw [if_neg c_5] | rw [if_neg (Bool.eq_false_iff.mp c_5)] | skip)
            (first | rw [if_pos c_15] | rw [if_neg c_15] | rw [if_neg (Bool.eq_false_iff.mp c_15)] | skip)
            (first | rw [if_pos c_26] | rw [if_neg c_26] | rw [if_neg (Bool.eq_false_iff.mp c_26)] | skip)
            (first | rw [if_pos c_31] | rw [if_neg c_31] | rw [if_neg (Bool.eq_false_iff.mp c_31)] | skip)
            (first | rw [if_pos c_45] | rw [if_neg c_45] | rw [if_neg (Bool.eq_false_iff.mp c_45)] | skip)
            (try dsimp only)
            first
              | done
              | exact ⟨rfl, rfl⟩
              | rfl
              | (simp only [c_5, c_15, c_26, c_31, c_45, if_true, if_false, and_self, and_true, true_and, not_true_eq_false, not_false_eq_true, and_false, false_and, or_true, true_or, or_false, false_or, or_self, Bool.false_eq_true, reduceCtorEq, nl10, nl20, nl30, nl40, nl50, nl60, nl70, nl12, nl13, nl21, nl23, nl31, nl32]; first | done | exact ⟨rfl, rfl⟩ | rfl)
              | contradiction
              | (simp only [c_5, c_15, c_26, c_31, c_45, if_true, if_false, and_self, and_true, true_and, not_true_eq_false, not_false_eq_true, and_false, false_and, or_true, true_or, or_false, false_or, or_self, Bool.false_eq_true, reduceCtorEq, nl10, nl20, nl30, nl40, nl50, nl60, nl70, nl12, nl13, nl21, nl23, nl31, nl32]; contradiction)
              | (exfalso; simp_all; done)
              | simp_all
        · refine lv_aload_n hx hb dX8_row_34 rfl (lv_at hl 0 rfl) ?_
          refine lv_bipush (v := (-6)) hx hb dX8_row_35 (by decide) ?_
          refine f_iV (n := 1) X hP hS [.int (-6)] [] (c_X8_no l E M L (-6) (by decide)) m_5_84 wi_X8_no rfl rfl (by decide) (by decide +kernel) ⟨Nat.le_of_ble_eq_true rfl, Nat.le_of_ble_eq_true rfl⟩ rfl hl rfl (Nat.le_of_ble_eq_true rfl) ⟨Nat.zero_le _, Nat.zero_le _⟩ dX8_row_37 (fun H locs hP hS => ?_)
          refine f_ir X hlk hr (v := (-6)) rfl hP hS ?_ dX8_row_40
          unfold a_X8_row
          (first | rw [if_pos c_5] | rw [if_neg c_5] | rw [if_neg (Bool.eq_false_iff.mp c_5)] | skip)
          (first | rw [if_pos c_15] | rw [if_neg c_15] | rw [if_neg (Bool.eq_false_iff.mp c_15)] | skip)
          (first | rw [if_pos c_26] | rw [if_neg c_26] | rw [if_neg (Bool.eq_false_iff.mp c_26)] | skip)
          (first | rw [if_pos c_31] | rw [if_neg c_31] | rw [if_neg (Bool.eq_false_iff.mp c_31)] | skip)
          (try dsimp only)
          first
            | done
            | exact ⟨rfl, rfl⟩
            | rfl
            | (simp only [c_5, c_15, c_26, c_31, if_true, if_false, and_self, and_true, true_and, not_true_eq_false, not_false_eq_true, and_false, false_and, or_true, true_or, or_false, false_or, or_self, Bool.false_eq_true, reduceCtorEq, nl10, nl20, nl30, nl40, nl50, nl60, nl70, nl12, nl13, nl21, nl23, nl31, nl32]; first | done | exact ⟨rfl, rfl⟩ | rfl)
            | contradiction
            | (simp only [c_5, c_15, c_26, c_31, if_true, if_false, and_self, and_true, true_and, not_true_eq_false, not_false_eq_true, and_false, false_and, or_true, true_or, or_false, false_or, or_self, Bool.false_eq_true, reduceCtorEq, nl10, nl20, nl30, nl40, nl50, nl60, nl70, nl12, nl13, nl21, nl23, nl31, nl32]; contradiction)
            | (exfalso; simp_all; done)
            | simp_all
    · refine lv_aload_n hx hb dX8_row_18 rfl (lv_at hl 0 rfl) ?_
      refine lv_bipush (v := (-4)) hx hb dX8_row_19 (by decide) ?_
      refine f_iV (n := 1) X hP hS [.int (-4)] [] (c_X8_no l E M L (-4) (by decide)) m_5_84 wi_X8_no rfl rfl (by decide) (by decide +kernel) ⟨Nat.le_of_ble_eq_true rfl, Nat.le_of_ble_eq_true rfl⟩ rfl hl rfl (Nat.le_of_ble_eq_true rfl) ⟨Nat.zero_le _, Nat.zero_le _⟩ dX8_row_21 (fun H locs hP hS => ?_)
      refine f_ir X hlk hr (v := (-4)) rfl hP hS ?_ dX8_row_24
      unfold a_X8_row
      (first | rw [if_pos c_5] | rw [if_neg c_5] | rw [if_neg (Bool.eq_false_iff.mp c_5)] | skip)
      (first | rw [if_pos c_15] | rw [if_neg c_15] | rw [if_neg (Bool.eq_false_iff.mp c_15)] | skip)
      (try dsimp only)
      first
        | done
        | exact ⟨rfl, rfl⟩
        | rfl
        | (simp only [c_5, c_15, if_true, if_false, and_self, and_true, true_and, not_true_eq_false, not_false_eq_true, and_false, false_and, or_true, true_or, or_false, false_or, or_self, Bool.false_eq_true, reduceCtorEq, nl10, nl20, nl30, nl40, nl50, nl60, nl70, nl12, nl13, nl21, nl23, nl31, nl32]; first | done | exact ⟨rfl, rfl⟩ | rfl)
        | contradiction
        | (simp only [c_5, c_15, if_true, if_false, and_self, and_true, true_and, not_true_eq_false, not_false_eq_true, and_false, false_and, or_true, true_or, or_false, false_or, or_self, Bool.false_eq_true, reduceCtorEq, nl10, nl20, nl30, nl40, nl50, nl60, nl70, nl12, nl13, nl21, nl23, nl31, nl32]; contradiction)
        | (exfalso; simp_all; done)
        | simp_all
  · have c_5 := bI0 c_5
    refine lv_aload_n hx hb dX8_row_8 rfl (lv_at hl 0 rfl) ?_
    refine lv_iconst (v := (-1)) hx hb dX8_row_9 (by decide) ?_
    refine f_iV (n := 1) X hP hS [.int (-1)] [] (c_X8_no l E M L (-1) (by decide)) m_5_84 wi_X8_no rfl rfl (by decide) (by decide +kernel) ⟨Nat.le_of_ble_eq_true rfl, Nat.le_of_ble_eq_true rfl⟩ rfl hl rfl (Nat.le_of_ble_eq_true rfl) ⟨Nat.zero_le _, Nat.zero_le _⟩ dX8_row_10 (fun H locs hP hS => ?_)
    refine f_ir X hlk hr (v := (-1)) rfl hP hS ?_ dX8_row_13
    unfold a_X8_row
    (first | rw [if_pos c_5] | rw [if_neg c_5] | rw [if_neg (Bool.eq_false_iff.mp c_5)] | skip)
    (try dsimp only)
    first
      | done
      | exact ⟨rfl, rfl⟩
      | rfl
      | (simp only [c_5, if_true, if_false, and_self, and_true, true_and, not_true_eq_false, not_false_eq_true, and_false, false_and, or_true, true_or, or_false, false_or, or_self, Bool.false_eq_true, reduceCtorEq, nl10, nl20, nl30, nl40, nl50, nl60, nl70, nl12, nl13, nl21, nl23, nl31, nl32]; first | done | exact ⟨rfl, rfl⟩ | rfl)
      | contradiction
      | (simp only [c_5, if_true, if_false, and_self, and_true, true_and, not_true_eq_false, not_false_eq_true, and_false, false_and, or_true, true_or, or_false, false_or, or_self, Bool.false_eq_true, reduceCtorEq, nl10, nl20, nl30, nl40, nl50, nl60, nl70, nl12, nl13, nl21, nl23, nl31, nl32]; contradiction)
      | (exfalso; simp_all; done)
      | simp_all

set_option maxHeartbeats 4000000 in
set_option maxRecDepth 100000 in
theorem c_X8_carries (l : Launch) (E : fE) (M : Nat → Nat → Int32) (L : Nat → Nat → Int64) (o : Nat) (n : Int32) (t : Nat) (f : Int32) (bk : Int32) (n0 f0 lo : Nat) (hk_o : fsh o = 9) (hk_t : fsh t = 9) (hlo : fln o = lo) (hlt : fln t = 100) (en : n = nI n0) (ef : f = nI f0) (hn : n0 ≤ lo) (hl1 : lo ≤ 100) (hfn : f0 + n0 ≤ 100) (hot : o ≠ t) : Met l yX8_carries (wl yX8_carries cX8_carries 7 (some .int)) (fRm 0 0) (va_Pc [.ref (fad E 86), .ref (fad E o), .int n, .ref (fad E t), .int f, .int bk] (fPre E M L)) (fQi E (fun r u => u = ((cyM bk M o t f0 n0), L) ∧ r = (nI (f0 + n0)))) 0 0 (fA E) := by
  refine f_head (by decide) (Nat.le_of_ble_eq_true rfl) ?_
  intro pg ev s mi below meth cd ls X hr hlk hP hS hl
  have hx := X.1.1
  have hb := X.1.2.1
  have hl : lv_has ls 7 [(0, .ref (fad E 86)), (1, .ref (fad E o)), (2, .int n), (3, .ref (fad E t)), (4, .int f), (5, .int bk)] := hl
  subst en ef
  have hl : lv_has ls 7 [(0, .ref (fad E 86)), (1, .ref (fad E o)), (2, .int (nI n0)), (3, .ref (fad E t)), (4, .int (nI f0)), (5, .int bk)] := hl
  have hP := fP_eq (show (cyM bk M o t f0 0) = M from by
      exact cyM_0) hP
  refine lv_iconst (v := 0) hx hb dX8_carries_0 (by decide) ?_
  refine lv_istore (lv' := [(6, .int 0), (0, .ref (fad E 86)), (1, .ref (fad E o)), (2, .int (nI n0)), (3, .ref (fad E t)), (4, .int (nI f0)), (5, .int bk)]) hx hb dX8_carries_1 hl (by decide) rfl (fun ls hl => ?_)
  refine f_loop (α := Nat) (fun (i : Nat) H locs ls => fP E (cyM bk M o t f0 i) L H ∧ va_S (fA E) s.heap H locs ∧ lv_has ls 7 [(6, .int (nI i)), (0, .ref (fad E 86)), (1, .ref (fad E o)), (2, .int (nI n0)), (3, .ref (fad E t)), (4, .int (nI f0)), (5, .int bk)] ∧ (i ≤ n0)) (fun (i : Nat) => n0 - i) (pc0 := 3) (st := fun _ => []) ?_ 0 _ _ _ ⟨hP, hS, lv_sub hl [0, 1, 2, 3, 4, 5, 6] rfl, (by omega)⟩
  rintro i H locs ls ⟨hP, hS, hl, ht⟩ ih_3
  refine lv_iload hx hb dX8_carries_3 (lv_at hl 0 rfl) ?_
  refine lv_iload_n hx hb dX8_carries_5 rfl (lv_at hl 3 rfl) ?_
  refine lv_icmp_ge (tgt := 45) hx hb dX8_carries_6 (by decide) (fun c_6 => ?_) (fun c_6 => ?_)
  · have c_6 := (nI_le_iff (a := n0) (b := i) (by omega) (by omega)).mp c_6
    obtain rfl : n0 = i := by omega
    refine lv_iload hx hb dX8_carries_45 (lv_at hl 5 rfl) ?_
    refine lv_iload_n hx hb dX8_carries_47 rfl (lv_at hl 3 rfl) ?_
    refine lv_iadd hx hb dX8_carries_48 ?_
    refine f_topI (nI_add f0 n0) ?_
    exact f_ir X hlk hr (v := (nI (f0 + n0))) rfl hP hS ⟨rfl, rfl⟩ dX8_carries_49
  · have c_6 := (not_congr (nI_le_iff (a := n0) (b := i) (by omega) (by omega))).mp c_6
    refine lv_iload hx hb dX8_carries_9 (lv_at hl 6 rfl) ?_
    refine lv_if_eq (tgt := 28) hx hb dX8_carries_11 (by decide) (fun c_11 => ?_) (fun c_11 => ?_)
    · refine lv_aload_n hx hb dX8_carries_28 rfl (lv_at hl 4 rfl) ?_
      refine lv_iload hx hb dX8_carries_29 (lv_at hl 5 rfl) ?_
      refine lv_iload hx hb dX8_carries_31 (lv_at hl 0 rfl) ?_
      refine lv_iadd hx hb dX8_carries_33 ?_
      refine f_topI (nI_add f0 i) ?_
      refine lv_aload_n hx hb dX8_carries_34 rfl (lv_at hl 2 rfl) ?_
      refine lv_iload hx hb dX8_carries_35 (lv_at hl 0 rfl) ?_
      refine f_iald X hP (k := o) (n := lo) (q := i) hk_o hlo (fIx_nI (by omega) (by omega)) dX8_carries_37 ?_
      refine f_iast X hP hS (k := t) (n := 100) (q := (f0 + i)) hk_t hlt (v := ((cyM bk M o t f0 i) o i)) (fIx_nI (by omega) (by decide)) dX8_carries_38 (fun H locs hP hS => ?_)
      refine lv_iinc (v := (nI (i + 1))) (lv' := [(6, .int (nI (i + 1))), (0, .ref (fad E 86)), (1, .ref (fad E o)), (2, .int (nI n0)), (3, .ref (fad E t)), (4, .int (nI f0)), (5, .int bk)]) hx hb dX8_carries_39 hl (k := 0) rfl (nI_1 _) (by decide) rfl (fun ls hl => ?_)
      refine lv_goto (tgt := 3) hx hb dX8_carries_42 (by decide) ?_
      have hP := fP_eq (show (cyM bk M o t f0 (i + 1)) = (up2 (cyM bk M o t f0 i) t (f0 + i) ((cyM bk M o t f0 i) o i)) from by
          exact (cyM_f c_11 hot).symm) hP
      exact ih_3 (i + 1) _ _ _ (by show n0 - (i + 1) < n0 - i; omega) ⟨hP, hS, lv_sub hl [0, 1, 2, 3, 4, 5, 6] rfl, (by omega)⟩
    · refine lv_aload_n hx hb dX8_carries_14 rfl (lv_at hl 2 rfl) ?_
      refine lv_iload hx hb dX8_carries_15 (lv_at hl 0 rfl) ?_
      refine lv_aload_n hx hb dX8_carries_17 rfl (lv_at hl 4 rfl) ?_
      refine lv_iload hx hb dX8_carries_18 (lv_at hl 5 rfl) ?_
      refine lv_iload hx hb dX8_carries_20 (lv_at hl 0 rfl) ?_
      refine lv_iadd hx hb dX8_carries_22 ?_
      refine f_topI (nI_add f0 i) ?_
      refine f_iald X hP (k := t) (n := 100) (q := (f0 + i)) hk_t hlt (fIx_nI (by omega) (by decide)) dX8_carries_23 ?_
      refine f_iast X hP hS (k := o) (n := lo) (q := i) hk_o hlo (v := ((cyM bk M o t f0 i) t (f0 + i))) (fIx_nI (by omega) (by omega)) dX8_carries_24 (fun H locs hP hS => ?_)
      refine lv_goto (tgt := 39) hx hb dX8_carries_25 (by decide) ?_
      refine lv_iinc (v := (nI (i + 1))) (lv' := [(6, .int (nI (i + 1))), (0, .ref (fad E 86)), (1, .ref (fad E o)), (2, .int (nI n0)), (3, .ref (fad E t)), (4, .int (nI f0)), (5, .int bk)]) hx hb dX8_carries_39 hl (k := 0) rfl (nI_1 _) (by decide) rfl (fun ls hl => ?_)
      refine lv_goto (tgt := 3) hx hb dX8_carries_42 (by decide) ?_
      have hP := fP_eq (show (cyM bk M o t f0 (i + 1)) = (up2 (cyM bk M o t f0 i) o i ((cyM bk M o t f0 i) t (f0 + i))) from by
          exact (cyM_b c_11 hot).symm) hP
      exact ih_3 (i + 1) _ _ _ (by show n0 - (i + 1) < n0 - i; omega) ⟨hP, hS, lv_sub hl [0, 1, 2, 3, 4, 5, 6] rfl, (by omega)⟩

def a_X8_all (M : Nat → Nat → Int32) (L : Nat → Nat → Int64) (t : Nat) (bk : Int32) : fM := (if bk = 0 then ((up2 (up2 (up2 (up2 (up2 (up2 (up2 (cyM bk (cyM bk (cyM bk (cyM bk (cyM bk (cyM bk (cyM bk (cyM bk (cyM bk (cyM bk (cyM bk (cyM bk M 88 t 0 6) 89 t (0 + 6) 6) 90 t ((0 + 6) + 6) 6) 91 t (((0 + 6) + 6) + 6) 6) 92 t ((((0 + 6) + 6) + 6) + 6) 6) 93 t (((((0 + 6) + 6) + 6) + 6) + 6) 8) 94 t ((((((0 + 6) + 6) + 6) + 6) + 6) + 8) 8) 95 t (((((((0 + 6) + 6) + 6) + 6) + 6) + 8) + 8) 8) 96 t ((((((((0 + 6) + 6) + 6) + 6) + 6) + 8) + 8) + 8) 8) 97 t (((((((((0 + 6) + 6) + 6) + 6) + 6) + 8) + 8) + 8) + 8) 8) 98 t ((((((((((0 + 6) + 6) + 6) + 6) + 6) + 8) + 8) + 8) + 8) + 8) 8) 99 t (((((((((((0 + 6) + 6) + 6) + 6) + 6) + 8) + 8) + 8) + 8) + 8) + 8) 8) t ((((((((((((0 + 6) + 6) + 6) + 6) + 6) + 8) + 8) + 8) + 8) + 8) + 8) + 8) ((cyM bk (cyM bk (cyM bk (cyM bk (cyM bk (cyM bk (cyM bk (cyM bk (cyM bk (cyM bk (cyM bk (cyM bk M 88 t 0 6) 89 t (0 + 6) 6) 90 t ((0 + 6) + 6) 6) 91 t (((0 + 6) + 6) + 6) 6) 92 t ((((0 + 6) + 6) + 6) + 6) 6) 93 t (((((0 + 6) + 6) + 6) + 6) + 6) 8) 94 t ((((((0 + 6) + 6) + 6) + 6) + 6) + 8) 8) 95 t (((((((0 + 6) + 6) + 6) + 6) + 6) + 8) + 8) 8) 96 t ((((((((0 + 6) + 6) + 6) + 6) + 6) + 8) + 8) + 8) 8) 97 t (((((((((0 + 6) + 6) + 6) + 6) + 6) + 8) + 8) + 8) + 8) 8) 98 t ((((((((((0 + 6) + 6) + 6) + 6) + 6) + 8) + 8) + 8) + 8) + 8) 8) 99 t (((((((((((0 + 6) + 6) + 6) + 6) + 6) + 8) + 8) + 8) + 8) + 8) + 8) 8) 86 0)) t (((((((((((((0 + 6) + 6) + 6) + 6) + 6) + 8) + 8) + 8) + 8) + 8) + 8) + 8) + 1) ((cyM bk (cyM bk (cyM bk (cyM bk (cyM bk (cyM bk (cyM bk (cyM bk (cyM bk (cyM bk (cyM bk (cyM bk M 88 t 0 6) 89 t (0 + 6) 6) 90 t ((0 + 6) + 6) 6) 91 t (((0 + 6) + 6) + 6) 6) 92 t ((((0 + 6) + 6) + 6) + 6) 6) 93 t (((((0 + 6) + 6) + 6) + 6) + 6) 8) 94 t ((((((0 + 6) + 6) + 6) + 6) + 6) + 8) 8) 95 t (((((((0 + 6) + 6) + 6) + 6) + 6) + 8) + 8) 8) 96 t ((((((((0 + 6) + 6) + 6) + 6) + 6) + 8) + 8) + 8) 8) 97 t (((((((((0 + 6) + 6) + 6) + 6) + 6) + 8) + 8) + 8) + 8) 8) 98 t ((((((((((0 + 6) + 6) + 6) + 6) + 6) + 8) + 8) + 8) + 8) + 8) 8) 99 t (((((((((((0 + 6) + 6) + 6) + 6) + 6) + 8) + 8) + 8) + 8) + 8) + 8) 8) 86 1)) t (((((((((((((0 + 6) + 6) + 6) + 6) + 6) + 8) + 8) + 8) + 8) + 8) + 8) + 8) + 2) ((cyM bk (cyM bk (cyM bk (cyM bk (cyM bk (cyM bk (cyM bk (cyM bk (cyM bk (cyM bk (cyM bk (cyM bk M 88 t 0 6) 89 t (0 + 6) 6) 90 t ((0 + 6) + 6) 6) 91 t (((0 + 6) + 6) + 6) 6) 92 t ((((0 + 6) + 6) + 6) + 6) 6) 93 t (((((0 + 6) + 6) + 6) + 6) + 6) 8) 94 t ((((((0 + 6) + 6) + 6) + 6) + 6) + 8) 8) 95 t (((((((0 + 6) + 6) + 6) + 6) + 6) + 8) + 8) 8) 96 t ((((((((0 + 6) + 6) + 6) + 6) + 6) + 8) + 8) + 8) 8) 97 t (((((((((0 + 6) + 6) + 6) + 6) + 6) + 8) + 8) + 8) + 8) 8) 98 t ((((((((((0 + 6) + 6) + 6) + 6) + 6) + 8) + 8) + 8) + 8) + 8) 8) 99 t (((((((((((0 + 6) + 6) + 6) + 6) + 6) + 8) + 8) + 8) + 8) + 8) + 8) 8) 86 2)) t (((((((((((((0 + 6) + 6) + 6) + 6) + 6) + 8) + 8) + 8) + 8) + 8) + 8) + 8) + 3) ((cyM bk (cyM bk (cyM bk (cyM bk (cyM bk (cyM bk (cyM bk (cyM bk (cyM bk (cyM bk (cyM bk (cyM bk M 88 t 0 6) 89 t (0 + 6) 6) 90 t ((0 + 6) + 6) 6) 91 t (((0 + 6) + 6) + 6) 6) 92 t ((((0 + 6) + 6) + 6) + 6) 6) 93 t (((((0 + 6) + 6) + 6) + 6) + 6) 8) 94 t ((((((0 + 6) + 6) + 6) + 6) + 6) + 8) 8) 95 t (((((((0 + 6) + 6) + 6) + 6) + 6) + 8) + 8) 8) 96 t ((((((((0 + 6) + 6) + 6) + 6) + 6) + 8) + 8) + 8) 8) 97 t (((((((((0 + 6) + 6) + 6) + 6) + 6) + 8) + 8) + 8) + 8) 8) 98 t ((((((((((0 + 6) + 6) + 6) + 6) + 6) + 8) + 8) + 8) + 8) + 8) 8) 99 t (((((((((((0 + 6) + 6) + 6) + 6) + 6) + 8) + 8) + 8) + 8) + 8) + 8) 8) 86 3)) t (((((((((((((0 + 6) + 6) + 6) + 6) + 6) + 8) + 8) + 8) + 8) + 8) + 8) + 8) + 4) ((cyM bk (cyM bk (cyM bk (cyM bk (cyM bk (cyM bk (cyM bk (cyM bk (cyM bk (cyM bk (cyM bk (cyM bk M 88 t 0 6) 89 t (0 + 6) 6) 90 t ((0 + 6) + 6) 6) 91 t (((0 + 6) + 6) + 6) 6) 92 t ((((0 + 6) + 6) + 6) + 6) 6) 93 t (((((0 + 6) + 6) + 6) + 6) + 6) 8) 94 t ((((((0 + 6) + 6) + 6) + 6) + 6) + 8) 8) 95 t (((((((0 + 6) + 6) + 6) + 6) + 6) + 8) + 8) 8) 96 t ((((((((0 + 6) + 6) + 6) + 6) + 6) + 8) + 8) + 8) 8) 97 t (((((((((0 + 6) + 6) + 6) + 6) + 6) + 8) + 8) + 8) + 8) 8) 98 t ((((((((((0 + 6) + 6) + 6) + 6) + 6) + 8) + 8) + 8) + 8) + 8) 8) 99 t (((((((((((0 + 6) + 6) + 6) + 6) + 6) + 8) + 8) + 8) + 8) + 8) + 8) 8) 86 4)) t (((((((((((((0 + 6) + 6) + 6) + 6) + 6) + 8) + 8) + 8) + 8) + 8) + 8) + 8) + 5) ((cyM bk (cyM bk (cyM bk (cyM bk (cyM bk (cyM bk (cyM bk (cyM bk (cyM bk (cyM bk (cyM bk (cyM bk M 88 t 0 6) 89 t (0 + 6) 6) 90 t ((0 + 6) + 6) 6) 91 t (((0 + 6) + 6) + 6) 6) 92 t ((((0 + 6) + 6) + 6) + 6) 6) 93 t (((((0 + 6) + 6) + 6) + 6) + 6) 8) 94 t ((((((0 + 6) + 6) + 6) + 6) + 6) + 8) 8) 95 t (((((((0 + 6) + 6) + 6) + 6) + 6) + 8) + 8) 8) 96 t ((((((((0 + 6) + 6) + 6) + 6) + 6) + 8) + 8) + 8) 8) 97 t (((((((((0 + 6) + 6) + 6) + 6) + 6) + 8) + 8) + 8) + 8) 8) 98 t ((((((((((0 + 6) + 6) + 6) + 6) + 6) + 8) + 8) + 8) + 8) + 8) 8) 99 t (((((((((((0 + 6) + 6) + 6) + 6) + 6) + 8) + 8) + 8) + 8) + 8) + 8) 8) 86 5)) t (((((((((((((0 + 6) + 6) + 6) + 6) + 6) + 8) + 8) + 8) + 8) + 8) + 8) + 8) + 6) ((cyM bk (cyM bk (cyM bk (cyM bk (cyM bk (cyM bk (cyM bk (cyM bk (cyM bk (cyM bk (cyM bk (cyM bk M 88 t 0 6) 89 t (0 + 6) 6) 90 t ((0 + 6) + 6) 6) 91 t (((0 + 6) + 6) + 6) 6) 92 t ((((0 + 6) + 6) + 6) + 6) 6) 93 t (((((0 + 6) + 6) + 6) + 6) + 6) 8) 94 t ((((((0 + 6) + 6) + 6) + 6) + 6) + 8) 8) 95 t (((((((0 + 6) + 6) + 6) + 6) + 6) + 8) + 8) 8) 96 t ((((((((0 + 6) + 6) + 6) + 6) + 6) + 8) + 8) + 8) 8) 97 t (((((((((0 + 6) + 6) + 6) + 6) + 6) + 8) + 8) + 8) + 8) 8) 98 t ((((((((((0 + 6) + 6) + 6) + 6) + 6) + 8) + 8) + 8) + 8) + 8) 8) 99 t (((((((((((0 + 6) + 6) + 6) + 6) + 6) + 8) + 8) + 8) + 8) + 8) + 8) 8) 86 6)), L) else ((up2 (up2 (up2 (up2 (up2 (up2 (up2 (cyM bk (cyM bk (cyM bk (cyM bk (cyM bk (cyM bk (cyM bk (cyM bk (cyM bk (cyM bk (cyM bk (cyM bk M 88 t 0 6) 89 t (0 + 6) 6) 90 t ((0 + 6) + 6) 6) 91 t (((0 + 6) + 6) + 6) 6) 92 t ((((0 + 6) + 6) + 6) + 6) 6) 93 t (((((0 + 6) + 6) + 6) + 6) + 6) 8) 94 t ((((((0 + 6) + 6) + 6) + 6) + 6) + 8) 8) 95 t (((((((0 + 6) + 6) + 6) + 6) + 6) + 8) + 8) 8) 96 t ((((((((0 + 6) + 6) + 6) + 6) + 6) + 8) + 8) + 8) 8) 97 t (((((((((0 + 6) + 6) + 6) + 6) + 6) + 8) + 8) + 8) + 8) 8) 98 t ((((((((((0 + 6) + 6) + 6) + 6) + 6) + 8) + 8) + 8) + 8) + 8) 8) 99 t (((((((((((0 + 6) + 6) + 6) + 6) + 6) + 8) + 8) + 8) + 8) + 8) + 8) 8) 86 0 ((cyM bk (cyM bk (cyM bk (cyM bk (cyM bk (cyM bk (cyM bk (cyM bk (cyM bk (cyM bk (cyM bk (cyM bk M 88 t 0 6) 89 t (0 + 6) 6) 90 t ((0 + 6) + 6) 6) 91 t (((0 + 6) + 6) + 6) 6) 92 t ((((0 + 6) + 6) + 6) + 6) 6) 93 t (((((0 + 6) + 6) + 6) + 6) + 6) 8) 94 t ((((((0 + 6) + 6) + 6) + 6) + 6) + 8) 8) 95 t (((((((0 + 6) + 6) + 6) + 6) + 6) + 8) + 8) 8) 96 t ((((((((0 + 6) + 6) + 6) + 6) + 6) + 8) + 8) + 8) 8) 97 t (((((((((0 + 6) + 6) + 6) + 6) + 6) + 8) + 8) + 8) + 8) 8) 98 t ((((((((((0 + 6) + 6) + 6) + 6) + 6) + 8) + 8) + 8) + 8) + 8) 8) 99 t (((((((((((0 + 6) + 6) + 6) + 6) + 6) + 8) + 8) + 8) + 8) + 8) + 8) 8) t ((((((((((((0 + 6) + 6) + 6) + 6) + 6) + 8) + 8) + 8) + 8) + 8) + 8) + 8))) 86 1 ((cyM bk (cyM bk (cyM bk (cyM bk (cyM bk (cyM bk (cyM bk (cyM bk (cyM bk (cyM bk (cyM bk (cyM bk M 88 t 0 6) 89 t (0 + 6) 6) 90 t ((0 + 6) + 6) 6) 91 t (((0 + 6) + 6) + 6) 6) 92 t ((((0 + 6) + 6) + 6) + 6) 6) 93 t (((((0 + 6) + 6) + 6) + 6) + 6) 8) 94 t ((((((0 + 6) + 6) + 6) + 6) + 6) + 8) 8) 95 t (((((((0 + 6) + 6) + 6) + 6) + 6) + 8) + 8) 8) 96 t ((((((((0 + 6) + 6) + 6) + 6) + 6) + 8) + 8) + 8) 8) 97 t (((((((((0 + 6) + 6) + 6) + 6) + 6) + 8) + 8) + 8) + 8) 8) 98 t ((((((((((0 + 6) + 6) + 6) + 6) + 6) + 8) + 8) + 8) + 8) + 8) 8) 99 t (((((((((((0 + 6) + 6) + 6) + 6) + 6) + 8) + 8) + 8) + 8) + 8) + 8) 8) t (((((((((((((0 + 6) + 6) + 6) + 6) + 6) + 8) + 8) + 8) + 8) + 8) + 8) + 8) + 1))) 86 2 ((cyM bk (cyM bk (cyM bk (cyM bk (cyM bk (cyM bk (cyM bk (cyM bk (cyM bk (cyM bk (cyM bk (cyM bk M 88 t 0 6) 89 t (0 + 6) 6) 90 t ((0 + 6) + 6) 6) 91 t (((0 + 6) + 6) + 6) 6) 92 t ((((0 + 6) + 6) + 6) + 6) 6) 93 t (((((0 + 6) + 6) + 6) + 6) + 6) 8) 94 t ((((((0 + 6) + 6) + 6) + 6) + 6) + 8) 8) 95 t (((((((0 + 6) + 6) + 6) + 6) + 6) + 8) + 8) 8) 96 t ((((((((0 + 6) + 6) + 6) + 6) + 6) + 8) + 8) + 8) 8) 97 t (((((((((0 + 6) + 6) + 6) + 6) + 6) + 8) + 8) + 8) + 8) 8) 98 t ((((((((((0 + 6) + 6) + 6) + 6) + 6) + 8) + 8) + 8) + 8) + 8) 8) 99 t (((((((((((0 + 6) + 6) + 6) + 6) + 6) + 8) + 8) + 8) + 8) + 8) + 8) 8) t (((((((((((((0 + 6) + 6) + 6) + 6) + 6) + 8) + 8) + 8) + 8) + 8) + 8) + 8) + 2))) 86 3 ((cyM bk (cyM bk (cyM bk (cyM bk (cyM bk (cyM bk (cyM bk (cyM bk (cyM bk (cyM bk (cyM bk (cyM bk M 88 t 0 6) 89 t (0 + 6) 6) 90 t ((0 + 6) + 6) 6) 91 t (((0 + 6) + 6) + 6) 6) 92 t ((((0 + 6) + 6) + 6) + 6) 6) 93 t (((((0 + 6) + 6) + 6) + 6) + 6) 8) 94 t ((((((0 + 6) + 6) + 6) + 6) + 6) + 8) 8) 95 t (((((((0 + 6) + 6) + 6) + 6) + 6) + 8) + 8) 8) 96 t ((((((((0 + 6) + 6) + 6) + 6) + 6) + 8) + 8) + 8) 8) 97 t (((((((((0 + 6) + 6) + 6) + 6) + 6) + 8) + 8) + 8) + 8) 8) 98 t ((((((((((0 + 6) + 6) + 6) + 6) + 6) + 8) + 8) + 8) + 8) + 8) 8) 99 t (((((((((((0 + 6) + 6) + 6) + 6) + 6) + 8) + 8) + 8) + 8) + 8) + 8) 8) t (((((((((((((0 + 6) + 6) + 6) + 6) + 6) + 8) + 8) + 8) + 8) + 8) + 8) + 8) + 3))) 86 4 ((cyM bk (cyM bk (cyM bk (cyM bk (cyM bk (cyM bk (cyM bk (cyM bk (cyM bk (cyM bk (cyM bk (cyM bk M 88 t 0 6) 89 t (0 + 6) 6) 90 t ((0 + 6) + 6) 6) 91 t (((0 + 6) + 6) + 6) 6) 92 t ((((0 + 6) + 6) + 6) + 6) 6) 93 t (((((0 + 6) + 6) + 6) + 6) + 6) 8) 94 t ((((((0 + 6) + 6) + 6) + 6) + 6) + 8) 8) 95 t (((((((0 + 6) + 6) + 6) + 6) + 6) + 8) + 8) 8) 96 t ((((((((0 + 6) + 6) + 6) + 6) + 6) + 8) + 8) + 8) 8) 97 t (((((((((0 + 6) + 6) + 6) + 6) + 6) + 8) + 8) + 8) + 8) 8) 98 t ((((((((((0 + 6) + 6) + 6) + 6) + 6) + 8) + 8) + 8) + 8) + 8) 8) 99 t (((((((((((0 + 6) + 6) + 6) + 6) + 6) + 8) + 8) + 8) + 8) + 8) + 8) 8) t (((((((((((((0 + 6) + 6) + 6) + 6) + 6) + 8) + 8) + 8) + 8) + 8) + 8) + 8) + 4))) 86 5 ((cyM bk (cyM bk (cyM bk (cyM bk (cyM bk (cyM bk (cyM bk (cyM bk (cyM bk (cyM bk (cyM bk (cyM bk M 88 t 0 6) 89 t (0 + 6) 6) 90 t ((0 + 6) + 6) 6) 91 t (((0 + 6) + 6) + 6) 6) 92 t ((((0 + 6) + 6) + 6) + 6) 6) 93 t (((((0 + 6) + 6) + 6) + 6) + 6) 8) 94 t ((((((0 + 6) + 6) + 6) + 6) + 6) + 8) 8) 95 t (((((((0 + 6) + 6) + 6) + 6) + 6) + 8) + 8) 8) 96 t ((((((((0 + 6) + 6) + 6) + 6) + 6) + 8) + 8) + 8) 8) 97 t (((((((((0 + 6) + 6) + 6) + 6) + 6) + 8) + 8) + 8) + 8) 8) 98 t ((((((((((0 + 6) + 6) + 6) + 6) + 6) + 8) + 8) + 8) + 8) + 8) 8) 99 t (((((((((((0 + 6) + 6) + 6) + 6) + 6) + 8) + 8) + 8) + 8) + 8) + 8) 8) t (((((((((((((0 + 6) + 6) + 6) + 6) + 6) + 8) + 8) + 8) + 8) + 8) + 8) + 8) + 5))) 86 6 ((cyM bk (cyM bk (cyM bk (cyM bk (cyM bk (cyM bk (cyM bk (cyM bk (cyM bk (cyM bk (cyM bk (cyM bk M 88 t 0 6) 89 t (0 + 6) 6) 90 t ((0 + 6) + 6) 6) 91 t (((0 + 6) + 6) + 6) 6) 92 t ((((0 + 6) + 6) + 6) + 6) 6) 93 t (((((0 + 6) + 6) + 6) + 6) + 6) 8) 94 t ((((((0 + 6) + 6) + 6) + 6) + 6) + 8) 8) 95 t (((((((0 + 6) + 6) + 6) + 6) + 6) + 8) + 8) 8) 96 t ((((((((0 + 6) + 6) + 6) + 6) + 6) + 8) + 8) + 8) 8) 97 t (((((((((0 + 6) + 6) + 6) + 6) + 6) + 8) + 8) + 8) + 8) 8) 98 t ((((((((((0 + 6) + 6) + 6) + 6) + 6) + 8) + 8) + 8) + 8) + 8) 8) 99 t (((((((((((0 + 6) + 6) + 6) + 6) + 6) + 8) + 8) + 8) + 8) + 8) + 8) 8) t (((((((((((((0 + 6) + 6) + 6) + 6) + 6) + 8) + 8) + 8) + 8) + 8) + 8) + 8) + 6))), L))
set_option maxHeartbeats 1000000 in
set_option maxRecDepth 100000 in
theorem c_X8_all (l : Launch) (E : fE) (M : Nat → Nat → Int32) (L : Nat → Nat → Int64) (t : Nat) (bk : Int32) (hk_t : fsh t = 9) (hlt : fln t = 100) (ht : 110 < t) : Met l yX8_all (wl yX8_all cX8_all 4 none) (fRm 1 26) (va_Pc [.ref (fad E 86), .ref (fad E t), .int bk] (fPre E M L)) (fQv E (fun u => u = ((a_X8_all M L t bk).1, L))) 0 0 (fA E) := by
  refine f_head (by decide) (Nat.le_of_ble_eq_true rfl) ?_
  intro pg ev s mi below meth cd ls X hr hlk hP hS hl
  have hx := X.1.1
  have hb := X.1.2.1
  have hl : lv_has ls 4 [(0, .ref (fad E 86)), (1, .ref (fad E t)), (2, .int bk)] := hl
  refine lv_aload_n hx hb dX8_all_0 rfl (lv_at hl 0 rfl) ?_
  refine lv_aload_n hx hb dX8_all_1 rfl (lv_at hl 0 rfl) ?_
  refine f_get X hP (T := TX8) (ci := 8) (k := 86) rfl inX8 rfl 9 (by decide) m_4_183 rfl (v := .ref (fad E 88)) rfl dX8_all_2 ?_
  refine lv_bipush (v := 6) hx hb dX8_all_5 (by decide) ?_
  refine lv_aload_n hx hb dX8_all_7 rfl (lv_at hl 1 rfl) ?_
  refine lv_iconst (v := 0) hx hb dX8_all_8 (by decide) ?_
  refine lv_iload_n hx hb dX8_all_9 rfl (lv_at hl 2 rfl) ?_
  refine f_iV (n := 5) X hP hS [.ref (fad E 88), .int 6, .ref (fad E t), .int 0, .int bk] [] (c_X8_carries l E M L 88 6 t 0 bk 6 0 6 rfl hk_t rfl hlt rfl rfl (by omega) (by omega) (by omega) (by omega)) m_5_180 wi_X8_carries rfl rfl (by decide) (by decide +kernel) ⟨Nat.le_of_ble_eq_true rfl, Nat.le_of_ble_eq_true rfl⟩ rfl hl rfl (Nat.le_of_ble_eq_true rfl) ⟨Nat.zero_le _, Nat.zero_le _⟩ dX8_all_10 (fun H locs hP hS => ?_)
  refine lv_istore_n (lv' := [(3, .int (nI (0 + 6))), (0, .ref (fad E 86)), (1, .ref (fad E t)), (2, .int bk)]) hx hb dX8_all_13 rfl hl (by decide) rfl (fun ls hl => ?_)
  refine lv_aload_n hx hb dX8_all_14 rfl (lv_at hl 1 rfl) ?_
  refine lv_aload_n hx hb dX8_all_15 rfl (lv_at hl 1 rfl) ?_
  refine f_get X hP (T := TX8) (ci := 8) (k := 86) rfl inX8 rfl 10 (by decide) m_4_184 rfl (v := .ref (fad E 89)) rfl dX8_all_16 ?_
  refine lv_bipush (v := 6) hx hb dX8_all_19 (by decide) ?_
  refine lv_aload_n hx hb dX8_all_21 rfl (lv_at hl 2 rfl) ?_
  refine lv_iload_n hx hb dX8_all_22 rfl (lv_at hl 0 rfl) ?_
  refine lv_iload_n hx hb dX8_all_23 rfl (lv_at hl 3 rfl) ?_
  refine f_iV (n := 5) X hP hS [.ref (fad E 89), .int 6, .ref (fad E t), .int (nI (0 + 6)), .int bk] [] (c_X8_carries l E (cyM bk M 88 t 0 6) L 89 6 t (nI (0 + 6)) bk 6 (0 + 6) 6 rfl hk_t rfl hlt rfl rfl (by omega) (by omega) (by omega) (by omega)) m_5_180 wi_X8_carries rfl rfl (by decide) (by decide +kernel) ⟨Nat.le_of_ble_eq_true rfl, Nat.le_of_ble_eq_true rfl⟩ rfl hl rfl (Nat.le_of_ble_eq_true rfl) ⟨Nat.zero_le _, Nat.zero_le _⟩ dX8_all_24 (fun H locs hP hS => ?_)
  refine lv_istore_n (lv' := [(3, .int (nI ((0 + 6) + 6))), (0, .ref (fad E 86)), (1, .ref (fad E t)), (2, .int bk)]) hx hb dX8_all_27 rfl hl (by decide) rfl (fun ls hl => ?_)
  refine lv_aload_n hx hb dX8_all_28 rfl (lv_at hl 1 rfl) ?_
  refine lv_aload_n hx hb dX8_all_29 rfl (lv_at hl 1 rfl) ?_
  refine f_get X hP (T := TX8) (ci := 8) (k := 86) rfl inX8 rfl 11 (by decide) m_4_185 rfl (v := .ref (fad E 90)) rfl dX8_all_30 ?_
  refine lv_bipush (v := 6) hx hb dX8_all_33 (by decide) ?_
  refine lv_aload_n hx hb dX8_all_35 rfl (lv_at hl 2 rfl) ?_
  refine lv_iload_n hx hb dX8_all_36 rfl (lv_at hl 0 rfl) ?_
  refine lv_iload_n hx hb dX8_all_37 rfl (lv_at hl 3 rfl) ?_
  refine f_iV (n := 5) X hP hS [.ref (fad E 90), .int 6, .ref (fad E t), .int (nI ((0 + 6) + 6)), .int bk] [] (c_X8_carries l E (cyM bk (cyM bk M 88 t 0 6) 89 t (0 + 6) 6) L 90 6 t (nI ((0 + 6) + 6)) bk 6 ((0 + 6) + 6) 6 rfl hk_t rfl hlt rfl rfl (by omega) (by omega) (by omega) (by omega)) m_5_180 wi_X8_carries rfl rfl (by decide) (by decide +kernel) ⟨Nat.le_of_ble_eq_true rfl, Nat.le_of_ble_eq_true rfl⟩ rfl hl rfl (Nat.le_of_ble_eq_true rfl) ⟨Nat.zero_le _, Nat.zero_le _⟩ dX8_all_38 (fun H locs hP hS => ?_)
  refine lv_istore_n (lv' := [(3, .int (nI (((0 + 6) + 6) + 6))), (0, .ref (fad E 86)), (1, .ref (fad E t)), (2, .int bk)]) hx hb dX8_all_41 rfl hl (by decide) rfl (fun ls hl => ?_)
  refine lv_aload_n hx hb dX8_all_42 rfl (lv_at hl 1 rfl) ?_
  refine lv_aload_n hx hb dX8_all_43 rfl (lv_at hl 1 rfl) ?_
  refine f_get X hP (T := TX8) (ci := 8) (k := 86) rfl inX8 rfl 12 (by decide) m_4_186 rfl (v := .ref (fad E 91)) rfl dX8_all_44 ?_
  refine lv_bipush (v := 6) hx hb dX8_all_47 (by decide) ?_
  refine lv_aload_n hx hb dX8_all_49 rfl (lv_at hl 2 rfl) ?_
  refine lv_iload_n hx hb dX8_all_50 rfl (lv_at hl 0 rfl) ?_
  refine lv_iload_n hx hb dX8_all_51 rfl (lv_at hl 3 rfl) ?_
  refine f_iV (n := 5) X hP hS [.ref (fad E 91), .int 6, .ref (fad E t), .int (nI (((0 + 6) + 6) + 6)), .int bk] [] (c_X8_carries l E (cyM bk (cyM bk (cyM bk M 88 t 0 6) 89 t (0 + 6) 6) 90 t ((0 + 6) + 6) 6) L 91 6 t (nI (((0 + 6) + 6) + 6)) bk 6 (((0 + 6) + 6) + 6) 6 rfl hk_t rfl hlt rfl rfl (by omega) (by omega) (by omega) (by omega)) m_5_180 wi_X8_carries rfl rfl (by decide) (by decide +kernel) ⟨Nat.le_of_ble_eq_true rfl, Nat.le_of_ble_eq_true rfl⟩ rfl hl rfl (Nat.le_of_ble_eq_true rfl) ⟨Nat.zero_le _, Nat.zero_le _⟩ dX8_all_52 (fun H locs hP hS => ?_)
  refine lv_istore_n (lv' := [(3, .int (nI ((((0 + 6) + 6) + 6) + 6))), (0, .ref (fad E 86)), (1, .ref (fad E t)), (2, .int bk)]) hx hb dX8_all_55 rfl hl (by decide) rfl (fun ls hl => ?_)
  refine lv_aload_n hx hb dX8_all_56 rfl (lv_at hl 1 rfl) ?_
  refine lv_aload_n hx hb dX8_all_57 rfl (lv_at hl 1 rfl) ?_
  refine f_get X hP (T := TX8) (ci := 8) (k := 86) rfl inX8 rfl 13 (by decide) m_4_187 rfl (v := .ref (fad E 92)) rfl dX8_all_58 ?_
  refine lv_bipush (v := 6) hx hb dX8_all_61 (by decide) ?_
  refine lv_aload_n hx hb dX8_all_63 rfl (lv_at hl 2 rfl) ?_
  refine lv_iload_n hx hb dX8_all_64 rfl (lv_at hl 0 rfl) ?_
  refine lv_iload_n hx hb dX8_all_65 rfl (lv_at hl 3 rfl) ?_
  refine f_iV (n := 5) X hP hS [.ref (fad E 92), .int 6, .ref (fad E t), .int (nI ((((0 + 6) + 6) + 6) + 6)), .int bk] [] (c_X8_carries l E (cyM bk (cyM bk (cyM bk (cyM bk M 88 t 0 6) 89 t (0 + 6) 6) 90 t ((0 + 6) + 6) 6) 91 t (((0 + 6) + 6) + 6) 6) L 92 6 t (nI ((((0 + 6) + 6) + 6) + 6)) bk 6 ((((0 + 6) + 6) + 6) + 6) 6 rfl hk_t rfl hlt rfl rfl (by omega) (by omega) (by omega) (by omega)) m_5_180 wi_X8_carries rfl rfl (by decide) (by decide +kernel) ⟨Nat.le_of_ble_eq_true rfl, Nat.le_of_ble_eq_true rfl⟩ rfl hl rfl (Nat.le_of_ble_eq_true rfl) ⟨Nat.zero_le _, Nat.zero_le _⟩ dX8_all_66 (fun H locs hP hS => ?_)
  refine lv_istore_n (lv' := [(3, .int (nI (((((0 + 6) + 6) + 6) + 6) + 6))), (0, .ref (fad E 86)), (1, .ref (fad E t)), (2, .int bk)]) hx hb dX8_all_69 rfl hl (by decide) rfl (fun ls hl => ?_)
  refine lv_aload_n hx hb dX8_all_70 rfl (lv_at hl 1 rfl) ?_
  refine lv_aload_n hx hb dX8_all_71 rfl (lv_at hl 1 rfl) ?_
  refine f_get X hP (T := TX8) (ci := 8) (k := 86) rfl inX8 rfl 14 (by decide) m_4_188 rfl (v := .ref (fad E 93)) rfl dX8_all_72 ?_
  refine lv_bipush (v := 8) hx hb dX8_all_75 (by decide) ?_
  refine lv_aload_n hx hb dX8_all_77 rfl (lv_at hl 2 rfl) ?_
  refine lv_iload_n hx hb dX8_all_78 rfl (lv_at hl 0 rfl) ?_
  refine lv_iload_n hx hb dX8_all_79 rfl (lv_at hl 3 rfl) ?_
  refine f_iV (n := 5) X hP hS [.ref (fad E 93), .int 8, .ref (fad E t), .int (nI (((((0 + 6) + 6) + 6) + 6) + 6)), .int bk] [] (c_X8_carries l E (cyM bk (cyM bk (cyM bk (cyM bk (cyM bk M 88 t 0 6) 89 t (0 + 6) 6) 90 t ((0 + 6) + 6) 6) 91 t (((0 + 6) + 6) + 6) 6) 92 t ((((0 + 6) + 6) + 6) + 6) 6) L 93 8 t (nI (((((0 + 6) + 6) + 6) + 6) + 6)) bk 8 (((((0 + 6) + 6) + 6) + 6) + 6) 8 rfl hk_t rfl hlt rfl rfl (by omega) (by omega) (by omega) (by omega)) m_5_180 wi_X8_carries rfl rfl (by decide) (by decide +kernel) ⟨Nat.le_of_ble_eq_true rfl, Nat.le_of_ble_eq_true rfl⟩ rfl hl rfl (Nat.le_of_ble_eq_true rfl) ⟨Nat.zero_le _, Nat.zero_le _⟩ dX8_all_80 (fun H locs hP hS => ?_)
  refine lv_istore_n (lv' := [(3, .int (nI ((((((0 + 6) + 6) + 6) + 6) + 6) + 8))), (0, .ref (fad E 86)), (1, .ref (fad E t)), (2, .int bk)]) hx hb dX8_all_83 rfl hl (by decide) rfl (fun ls hl => ?_)
  refine lv_aload_n hx hb dX8_all_84 rfl (lv_at hl 1 rfl) ?_
  refine lv_aload_n hx hb dX8_all_85 rfl (lv_at hl 1 rfl) ?_
  refine f_get X hP (T := TX8) (ci := 8) (k := 86) rfl inX8 rfl 15 (by decide) m_4_189 rfl (v := .ref (fad E 94)) rfl dX8_all_86 ?_
  refine lv_bipush (v := 8) hx hb dX8_all_89 (by decide) ?_
  refine lv_aload_n hx hb dX8_all_91 rfl (lv_at hl 2 rfl) ?_
  refine lv_iload_n hx hb dX8_all_92 rfl (lv_at hl 0 rfl) ?_
  refine lv_iload_n hx hb dX8_all_93 rfl (lv_at hl 3 rfl) ?_
  refine f_iV (n := 5) X hP hS [.ref (fad E 94), .int 8, .ref (fad E t), .int (nI ((((((0 + 6) + 6) + 6) + 6) + 6) + 8)), .int bk] [] (c_X8_carries l E (cyM bk (cyM bk (cyM bk (cyM bk (cyM bk (cyM bk M 88 t 0 6) 89 t (0 + 6) 6) 90 t ((0 + 6) + 6) 6) 91 t (((0 + 6) + 6) + 6) 6) 92 t ((((0 + 6) + 6) + 6) + 6) 6) 93 t (((((0 + 6) + 6) + 6) + 6) + 6) 8) L 94 8 t (nI ((((((0 + 6) + 6) + 6) + 6) + 6) + 8)) bk 8 ((((((0 + 6) + 6) + 6) + 6) + 6) + 8) 8 rfl hk_t rfl hlt rfl rfl (by omega) (by omega) (by omega) (by omega)) m_5_180 wi_X8_carries rfl rfl (by decide) (by decide +kernel) ⟨Nat.le_of_ble_eq_true rfl, Nat.le_of_ble_eq_true rfl⟩ rfl hl rfl (Nat.le_of_ble_eq_true rfl) ⟨Nat.zero_le _, Nat.zero_le _⟩ dX8_all_94 (fun H locs hP hS => ?_)
  refine lv_istore_n (lv' := [(3, .int (nI (((((((0 + 6) + 6) + 6) + 6) + 6) + 8) + 8))), (0, .ref (fad E 86)), (1, .ref (fad E t)), (2, .int bk)]) hx hb dX8_all_97 rfl hl (by decide) rfl (fun ls hl => ?_)
  refine lv_aload_n hx hb dX8_all_98 rfl (lv_at hl 1 rfl) ?_
  refine lv_aload_n hx hb dX8_all_99 rfl (lv_at hl 1 rfl) ?_
  refine f_get X hP (T := TX8) (ci := 8) (k := 86) rfl inX8 rfl 16 (by decide) m_4_190 rfl (v := .ref (fad E 95)) rfl dX8_all_100 ?_
  refine lv_bipush (v := 8) hx hb dX8_all_103 (by decide) ?_
  refine lv_aload_n hx hb dX8_all_105 rfl (lv_at hl 2 rfl) ?_
  refine lv_iload_n hx hb dX8_all_106 rfl (lv_at hl 0 rfl) ?_
  refine lv_iload_n hx hb dX8_all_107 rfl (lv_at hl 3 rfl) ?_
  refine f_iV (n := 5) X hP hS [.ref (fad E 95), .int 8, .ref (fad E t), .int (nI (((((((0 + 6) + 6) + 6) + 6) + 6) + 8) + 8)), .int bk] [] (c_X8_carries l E (cyM bk (cyM bk (cyM bk (cyM bk (cyM bk (cyM bk (cyM bk M 88 t 0 6) 89 t (0 + 6) 6) 90 t ((0 + 6) + 6) 6) 91 t (((0 + 6) + 6) + 6) 6) 92 t ((((0 + 6) + 6) + 6) + 6) 6) 93 t (((((0 + 6) + 6) + 6) + 6) + 6) 8) 94 t ((((((0 + 6) + 6) + 6) + 6) + 6) + 8) 8) L 95 8 t (nI (((((((0 + 6) + 6) + 6) + 6) + 6) + 8) + 8)) bk 8 (((((((0 + 6) + 6) + 6) + 6) + 6) + 8) + 8) 8 rfl hk_t rfl hlt rfl rfl (by omega) (by omega) (by omega) (by omega)) m_5_180 wi_X8_carries rfl rfl (by decide) (by decide +kernel) ⟨Nat.le_of_ble_eq_true rfl, Nat.le_of_ble_eq_true rfl⟩ rfl hl rfl (Nat.le_of_ble_eq_true rfl) ⟨Nat.zero_le _, Nat.zero_le _⟩ dX8_all_108 (fun H locs hP hS => ?_)
  refine lv_istore_n (lv' := [(3, .int (nI ((((((((0 + 6) + 6) + 6) + 6) + 6) + 8) + 8) + 8))), (0, .ref (fad E 86)), (1, .ref (fad E t)), (2, .int bk)]) hx hb dX8_all_111 rfl hl (by decide) rfl (fun ls hl => ?_)
  refine lv_aload_n hx hb dX8_all_112 rfl (lv_at hl 1 rfl) ?_
  refine lv_aload_n hx hb dX8_all_113 rfl (lv_at hl 1 rfl) ?_
  refine f_get X hP (T := TX8) (ci := 8) (k := 86) rfl inX8 rfl 17 (by decide) m_4_191 rfl (v := .ref (fad E 96)) rfl dX8_all_114 ?_
  refine lv_bipush (v := 8) hx hb dX8_all_117 (by decide) ?_
  refine lv_aload_n hx hb dX8_all_119 rfl (lv_at hl 2 rfl) ?_
  refine lv_iload_n hx hb dX8_all_120 rfl (lv_at hl 0 rfl) ?_
  refine lv_iload_n hx hb dX8_all_121 rfl (lv_at hl 3 rfl) ?_
  refine f_iV (n := 5) X hP hS [.ref (fad E 96), .int 8, .ref (fad E t), .int (nI ((((((((0 + 6) + 6) + 6) + 6) + 6) + 8) + 8) + 8)), .int bk] [] (c_X8_carries l E (cyM bk (cyM bk (cyM bk (cyM bk (cyM bk (cyM bk (cyM bk (cyM bk M 88 t 0 6) 89 t (0 + 6) 6) 90 t ((0 + 6) + 6) 6) 91 t (((0 + 6) + 6) + 6) 6) 92 t ((((0 + 6) + 6) + 6) + 6) 6) 93 t (((((0 + 6) + 6) + 6) + 6) + 6) 8) 94 t ((((((0 + 6) + 6) + 6) + 6) + 6) + 8) 8) 95 t (((((((0 + 6) + 6) + 6) + 6) + 6) + 8) + 8) 8) L 96 8 t (nI ((((((((0 + 6) + 6) + 6) + 6) + 6) + 8) + 8) + 8)) bk 8 ((((((((0 + 6) + 6) + 6) + 6) + 6) + 8) + 8) + 8) 8 rfl hk_t rfl hlt rfl rfl (by omega) (by omega) (by omega) (by omega)) m_5_180 wi_X8_carries rfl rfl (by decide) (by decide +kernel) ⟨Nat.le_of_ble_eq_true rfl, Nat.le_of_ble_eq_true rfl⟩ rfl hl rfl (Nat.le_of_ble_eq_true rfl) ⟨Nat.zero_le _, Nat.zero_le _⟩ dX8_all_122 (fun H locs hP hS => ?_)
  refine lv_istore_n (lv' := [(3, .int (nI (((((((((0 + 6) + 6) + 6) + 6) + 6) + 8) + 8) + 8) + 8))), (0, .ref (fad E 86)), (1, .ref (fad E t)), (2, .int bk)]) hx hb dX8_all_125 rfl hl (by decide) rfl (fun ls hl => ?_)
  refine lv_aload_n hx hb dX8_all_126 rfl (lv_at hl 1 rfl) ?_
  refine lv_aload_n hx hb dX8_all_127 rfl (lv_at hl 1 rfl) ?_
  refine f_get X hP (T := TX8) (ci := 8) (k := 86) rfl inX8 rfl 18 (by decide) m_4_192 rfl (v := .ref (fad E 97)) rfl dX8_all_128 ?_
  refine lv_bipush (v := 8) hx hb dX8_all_131 (by decide) ?_
  refine lv_aload_n hx hb dX8_all_133 rfl (lv_at hl 2 rfl) ?_
  refine lv_iload_n hx hb dX8_all_134 rfl (lv_at hl 0 rfl) ?_
  refine lv_iload_n hx hb dX8_all_135 rfl (lv_at hl 3 rfl) ?_
  refine f_iV (n := 5) X hP hS [.ref (fad E 97), .int 8, .ref (fad E t), .int (nI (((((((((0 + 6) + 6) + 6) + 6) + 6) + 8) + 8) + 8) + 8)), .int bk] [] (c_X8_carries l E (cyM bk (cyM bk (cyM bk (cyM bk (cyM bk (cyM bk (cyM bk (cyM bk (cyM bk M 88 t 0 6) 89 t (0 + 6) 6) 90 t ((0 + 6) + 6) 6) 91 t (((0 + 6) + 6) + 6) 6) 92 t ((((0 + 6) + 6) + 6) + 6) 6) 93 t (((((0 + 6) + 6) + 6) + 6) + 6) 8) 94 t ((((((0 + 6) + 6) + 6) + 6) + 6) + 8) 8) 95 t (((((((0 + 6) + 6) + 6) + 6) + 6) + 8) + 8) 8) 96 t ((((((((0 + 6) + 6) + 6) + 6) + 6) + 8) + 8) + 8) 8) L 97 8 t (nI (((((((((0 + 6) + 6) + 6) + 6) + 6) + 8) + 8) + 8) + 8)) bk 8 (((((((((0 + 6) + 6) + 6) + 6) + 6) + 8) + 8) + 8) + 8) 8 rfl hk_t rfl hlt rfl rfl (by omega) (by omega) (by omega) (by omega)) m_5_180 wi_X8_carries rfl rfl (by decide) (by decide +kernel) ⟨Nat.le_of_ble_eq_true rfl, Nat.le_of_ble_eq_true rfl⟩ rfl hl rfl (Nat.le_of_ble_eq_true rfl) ⟨Nat.zero_le _, Nat.zero_le _⟩ dX8_all_136 (fun H locs hP hS => ?_)
  refine lv_istore_n (lv' := [(3, .int (nI ((((((((((0 + 6) + 6) + 6) + 6) + 6) + 8) + 8) + 8) + 8) + 8))), (0, .ref (fad E 86)), (1, .ref (fad E t)), (2, .int bk)]) hx hb dX8_all_139 rfl hl (by decide) rfl (fun ls hl => ?_)
  refine lv_aload_n hx hb dX8_all_140 rfl (lv_at hl 1 rfl) ?_
  refine lv_aload_n hx hb dX8_all_141 rfl (lv_at hl 1 rfl) ?_
  refine f_get X hP (T := TX8) (ci := 8) (k := 86) rfl inX8 rfl 19 (by decide) m_4_193 rfl (v := .ref (fad E 98)) rfl dX8_all_142 ?_
  refine lv_bipush (v := 8) hx hb dX8_all_145 (by decide) ?_
  refine lv_aload_n hx hb dX8_all_147 rfl (lv_at hl 2 rfl) ?_
  refine lv_iload_n hx hb dX8_all_148 rfl (lv_at hl 0 rfl) ?_
  refine lv_iload_n hx hb dX8_all_149 rfl (lv_at hl 3 rfl) ?_
  refine f_iV (n := 5) X hP hS [.ref (fad E 98), .int 8, .ref (fad E t), .int (nI ((((((((((0 + 6) + 6) + 6) + 6) + 6) + 8) + 8) + 8) + 8) + 8)), .int bk] [] (c_X8_carries l E (cyM bk (cyM bk (cyM bk (cyM bk (cyM bk (cyM bk (cyM bk (cyM bk (cyM bk (cyM bk M 88 t 0 6) 89 t (0 + 6) 6) 90 t ((0 + 6) + 6) 6) 91 t (((0 + 6) + 6) + 6) 6) 92 t ((((0 + 6) + 6) + 6) + 6) 6) 93 t (((((0 + 6) + 6) + 6) + 6) + 6) 8) 94 t ((((((0 + 6) + 6) + 6) + 6) + 6) + 8) 8) 95 t (((((((0 + 6) + 6) + 6) + 6) + 6) + 8) + 8) 8) 96 t ((((((((0 + 6) + 6) + 6) + 6) + 6) + 8) + 8) + 8) 8) 97 t (((((((((0 + 6) + 6) + 6) + 6) + 6) + 8) + 8) + 8) + 8) 8) L 98 8 t (nI ((((((((((0 + 6) + 6) + 6) + 6) + 6) + 8) + 8) + 8) + 8) + 8)) bk 8 ((((((((((0 + 6) + 6) + 6) + 6) + 6) + 8) + 8) + 8) + 8) + 8) 8 rfl hk_t rfl hlt rfl rfl (by omega) (by omega) (by omega) (by omega)) m_5_180 wi_X8_carries rfl rfl (by decide) (by decide +kernel) ⟨Nat.le_of_ble_eq_true rfl, Nat.le_of_ble_eq_true rfl⟩ rfl hl rfl (Nat.le_of_ble_eq_true rfl) ⟨Nat.zero_le _, Nat.zero_le _⟩ dX8_all_150 (fun H locs hP hS => ?_)
  refine lv_istore_n (lv' := [(3, .int (nI (((((((((((0 + 6) + 6) + 6) + 6) + 6) + 8) + 8) + 8) + 8) + 8) + 8))), (0, .ref (fad E 86)), (1, .ref (fad E t)), (2, .int bk)]) hx hb dX8_all_153 rfl hl (by decide) rfl (fun ls hl => ?_)
  refine lv_aload_n hx hb dX8_all_154 rfl (lv_at hl 1 rfl) ?_
  refine lv_aload_n hx hb dX8_all_155 rfl (lv_at hl 1 rfl) ?_
  refine f_get X hP (T := TX8) (ci := 8) (k := 86) rfl inX8 rfl 20 (by decide) m_4_194 rfl (v := .ref (fad E 99)) rfl dX8_all_156 ?_
  refine lv_bipush (v := 8) hx hb dX8_all_159 (by decide) ?_
  refine lv_aload_n hx hb dX8_all_161 rfl (lv_at hl 2 rfl) ?_
  refine lv_iload_n hx hb dX8_all_162 rfl (lv_at hl 0 rfl) ?_
  refine lv_iload_n hx hb dX8_all_163 rfl (lv_at hl 3 rfl) ?_
  refine f_iV (n := 5) X hP hS [.ref (fad E 99), .int 8, .ref (fad E t), .int (nI (((((((((((0 + 6) + 6) + 6) + 6) + 6) + 8) + 8) + 8) + 8) + 8) + 8)), .int bk] [] (c_X8_carries l E (cyM bk (cyM bk (cyM bk (cyM bk (cyM bk (cyM bk (cyM bk (cyM bk (cyM bk (cyM bk (cyM bk M 88 t 0 6) 89 t (0 + 6) 6) 90 t ((0 + 6) + 6) 6) 91 t (((0 + 6) + 6) + 6) 6) 92 t ((((0 + 6) + 6) + 6) + 6) 6) 93 t (((((0 + 6) + 6) + 6) + 6) + 6) 8) 94 t ((((((0 + 6) + 6) + 6) + 6) + 6) + 8) 8) 95 t (((((((0 + 6) + 6) + 6) + 6) + 6) + 8) + 8) 8) 96 t ((((((((0 + 6) + 6) + 6) + 6) + 6) + 8) + 8) + 8) 8) 97 t (((((((((0 + 6) + 6) + 6) + 6) + 6) + 8) + 8) + 8) + 8) 8) 98 t ((((((((((0 + 6) + 6) + 6) + 6) + 6) + 8) + 8) + 8) + 8) + 8) 8) L 99 8 t (nI (((((((((((0 + 6) + 6) + 6) + 6) + 6) + 8) + 8) + 8) + 8) + 8) + 8)) bk 8 (((((((((((0 + 6) + 6) + 6) + 6) + 6) + 8) + 8) + 8) + 8) + 8) + 8) 8 rfl hk_t rfl hlt rfl rfl (by omega) (by omega) (by omega) (by omega)) m_5_180 wi_X8_carries rfl rfl (by decide) (by decide +kernel) ⟨Nat.le_of_ble_eq_true rfl, Nat.le_of_ble_eq_true rfl⟩ rfl hl rfl (Nat.le_of_ble_eq_true rfl) ⟨Nat.zero_le _, Nat.zero_le _⟩ dX8_all_164 (fun H locs hP hS => ?_)
  refine lv_istore_n (lv' := [(3, .int (nI ((((((((((((0 + 6) + 6) + 6) + 6) + 6) + 8) + 8) + 8) + 8) + 8) + 8) + 8))), (0, .ref (fad E 86)), (1, .ref (fad E t)), (2, .int bk)]) hx hb dX8_all_167 rfl hl (by decide) rfl (fun ls hl => ?_)
  refine lv_iload_n hx hb dX8_all_168 rfl (lv_at hl 3 rfl) ?_
  refine lv_if_eq (tgt := 237) hx hb dX8_all_169 (by decide) (fun c_169 => ?_) (fun c_169 => ?_)
  · refine lv_aload_n hx hb dX8_all_237 rfl (lv_at hl 2 rfl) ?_
    refine lv_iload_n hx hb dX8_all_238 rfl (lv_at hl 0 rfl) ?_
    refine lv_aload_n hx hb dX8_all_239 rfl (lv_at hl 1 rfl) ?_
    refine f_get X hP (T := TX8) (ci := 8) (k := 86) rfl inX8 rfl 0 (by decide) m_4_174 rfl (v := .int ((cyM bk (cyM bk (cyM bk (cyM bk (cyM bk (cyM bk (cyM bk (cyM bk (cyM bk (cyM bk (cyM bk (cyM bk M 88 t 0 6) 89 t (0 + 6) 6) 90 t ((0 + 6) + 6) 6) 91 t (((0 + 6) + 6) + 6) 6) 92 t ((((0 + 6) + 6) + 6) + 6) 6) 93 t (((((0 + 6) + 6) + 6) + 6) + 6) 8) 94 t ((((((0 + 6) + 6) + 6) + 6) + 6) + 8) 8) 95 t (((((((0 + 6) + 6) + 6) + 6) + 6) + 8) + 8) 8) 96 t ((((((((0 + 6) + 6) + 6) + 6) + 6) + 8) + 8) + 8) 8) 97 t (((((((((0 + 6) + 6) + 6) + 6) + 6) + 8) + 8) + 8) + 8) 8) 98 t ((((((((((0 + 6) + 6) + 6) + 6) + 6) + 8) + 8) + 8) + 8) + 8) 8) 99 t (((((((((((0 + 6) + 6) + 6) + 6) + 6) + 8) + 8) + 8) + 8) + 8) + 8) 8) 86 0)) rfl dX8_all_240 ?_
    refine f_iast X hP hS (k := t) (n := 100) (q := ((((((((((((0 + 6) + 6) + 6) + 6) + 6) + 8) + 8) + 8) + 8) + 8) + 8) + 8)) hk_t hlt (v := ((cyM bk (cyM bk (cyM bk (cyM bk (cyM bk (cyM bk (cyM bk (cyM bk (cyM bk (cyM bk (cyM bk (cyM bk M 88 t 0 6) 89 t (0 + 6) 6) 90 t ((0 + 6) + 6) 6) 91 t (((0 + 6) + 6) + 6) 6) 92 t ((((0 + 6) + 6) + 6) + 6) 6) 93 t (((((0 + 6) + 6) + 6) + 6) + 6) 8) 94 t ((((((0 + 6) + 6) + 6) + 6) + 6) + 8) 8) 95 t (((((((0 + 6) + 6) + 6) + 6) + 6) + 8) + 8) 8) 96 t ((((((((0 + 6) + 6) + 6) + 6) + 6) + 8) + 8) + 8) 8) 97 t (((((((((0 + 6) + 6) + 6) + 6) + 6) + 8) + 8) + 8) + 8) 8) 98 t ((((((((((0 + 6) + 6) + 6) + 6) + 6) + 8) + 8) + 8) + 8) + 8) 8) 99 t (((((((((((0 + 6) + 6) + 6) + 6) + 6) + 8) + 8) + 8) + 8) + 8) + 8) 8) 86 0)) (fIx_nI (by omega) (by decide)) dX8_all_243 (fun H locs hP hS => ?_)
    refine lv_aload_n hx hb dX8_all_244 rfl (lv_at hl 2 rfl) ?_
    refine lv_iload_n hx hb dX8_all_245 rfl (lv_at hl 0 rfl) ?_
    refine lv_iconst (v := 1) hx hb dX8_all_246 (by decide) ?_
    refine lv_iadd hx hb dX8_all_247 ?_
    refine f_topI (nI_add ((((((((((((0 + 6) + 6) + 6) + 6) + 6) + 8) + 8) + 8) + 8) + 8) + 8) + 8) 1) ?_
    refine lv_aload_n hx hb dX8_all_248 rfl (lv_at hl 1 rfl) ?_
    refine f_get X hP (T := TX8) (ci := 8) (k := 86) rfl inX8 rfl 1 (by decide) m_4_175 rfl (v := .int ((cyM bk (cyM bk (cyM bk (cyM bk (cyM bk (cyM bk (cyM bk (cyM bk (cyM bk (cyM bk (cyM bk (cyM bk M 88 t 0 6) 89 t (0 + 6) 6) 90 t ((0 + 6) + 6) 6) 91 t (((0 + 6) + 6) + 6) 6) 92 t ((((0 + 6) + 6) + 6) + 6) 6) 93 t (((((0 + 6) + 6) + 6) + 6) + 6) 8) 94 t ((((((0 + 6) + 6) + 6) + 6) + 6) + 8) 8) 95 t (((((((0 + 6) + 6) + 6) + 6) + 6) + 8) + 8) 8) 96 t ((((((((0 + 6) + 6) + 6) + 6) + 6) + 8) + 8) + 8) 8) 97 t (((((((((0 + 6) + 6) + 6) + 6) + 6) + 8) + 8) + 8) + 8) 8) 98 t ((((((((((0 + 6) + 6) + 6) + 6) + 6) + 8) + 8) + 8) + 8) + 8) 8) 99 t (((((((((((0 + 6) + 6) + 6) + 6) + 6) + 8) + 8) + 8) + 8) + 8) + 8) 8) 86 1)) (congrArg Value.int (up2_o _ _ (Or.inl (by omega)))) dX8_all_249 ?_
    refine f_iast X hP hS (k := t) (n := 100) (q := (((((((((((((0 + 6) + 6) + 6) + 6) + 6) + 8) + 8) + 8) + 8) + 8) + 8) + 8) + 1)) hk_t hlt (v := ((cyM bk (cyM bk (cyM bk (cyM bk (cyM bk (cyM bk (cyM bk (cyM bk (cyM bk (cyM bk (cyM bk (cyM bk M 88 t 0 6) 89 t (0 + 6) 6) 90 t ((0 + 6) + 6) 6) 91 t (((0 + 6) + 6) + 6) 6) 92 t ((((0 + 6) + 6) + 6) + 6) 6) 93 t (((((0 + 6) + 6) + 6) + 6) + 6) 8) 94 t ((((((0 + 6) + 6) + 6) + 6) + 6) + 8) 8) 95 t (((((((0 + 6) + 6) + 6) + 6) + 6) + 8) + 8) 8) 96 t ((((((((0 + 6) + 6) + 6) + 6) + 6) + 8) + 8) + 8) 8) 97 t (((((((((0 + 6) + 6) + 6) + 6) + 6) + 8) + 8) + 8) + 8) 8) 98 t ((((((((((0 + 6) + 6) + 6) + 6) + 6) + 8) + 8) + 8) + 8) + 8) 8) 99 t (((((((((((0 + 6) + 6) + 6) + 6) + 6) + 8) + 8) + 8) + 8) + 8) + 8) 8) 86 1)) (fIx_nI (by omega) (by decide)) dX8_all_252 (fun H locs hP hS => ?_)
    refine lv_aload_n hx hb dX8_all_253 rfl (lv_at hl 2 rfl) ?_
    refine lv_iload_n hx hb dX8_all_254 rfl (lv_at hl 0 rfl) ?_
    refine lv_iconst (v := 2) hx hb dX8_all_255 (by decide) ?_
    refine lv_iadd hx hb dX8_all_256 ?_
    refine f_topI (nI_add ((((((((((((0 + 6) + 6) + 6) + 6) + 6) + 8) + 8) + 8) + 8) + 8) + 8) + 8) 2) ?_
    refine lv_aload_n hx hb dX8_all_257 rfl (lv_at hl 1 rfl) ?_
    refine f_get X hP (T := TX8) (ci := 8) (k := 86) rfl inX8 rfl 2 (by decide) m_4_176 rfl (v := .int ((cyM bk (cyM bk (cyM bk (cyM bk (cyM bk (cyM bk (cyM bk (cyM bk (cyM bk (cyM bk (cyM bk (cyM bk M 88 t 0 6) 89 t (0 + 6) 6) 90 t ((0 + 6) + 6) 6) 91 t (((0 + 6) + 6) + 6) 6) 92 t ((((0 + 6) + 6) + 6) + 6) 6) 93 t (((((0 + 6) + 6) + 6) + 6) + 6) 8) 94 t ((((((0 + 6) + 6) + 6) + 6) + 6) + 8) 8) 95 t (((((((0 + 6) + 6) + 6) + 6) + 6) + 8) + 8) 8) 96 t ((((((((0 + 6) + 6) + 6) + 6) + 6) + 8) + 8) + 8) 8) 97 t (((((((((0 + 6) + 6) + 6) + 6) + 6) + 8) + 8) + 8) + 8) 8) 98 t ((((((((((0 + 6) + 6) + 6) + 6) + 6) + 8) + 8) + 8) + 8) + 8) 8) 99 t (((((((((((0 + 6) + 6) + 6) + 6) + 6) + 8) + 8) + 8) + 8) + 8) + 8) 8) 86 2)) (congrArg Value.int ((up2_o _ _ (Or.inl (by omega))).trans (up2_o _ _ (Or.inl (by omega))))) dX8_all_258 ?_
    refine f_iast X hP hS (k := t) (n := 100) (q := (((((((((((((0 + 6) + 6) + 6) + 6) + 6) + 8) + 8) + 8) + 8) + 8) + 8) + 8) + 2)) hk_t hlt (v := ((cyM bk (cyM bk (cyM bk (cyM bk (cyM bk (cyM bk (cyM bk (cyM bk (cyM bk (cyM bk (cyM bk (cyM bk M 88 t 0 6) 89 t (0 + 6) 6) 90 t ((0 + 6) + 6) 6) 91 t (((0 + 6) + 6) + 6) 6) 92 t ((((0 + 6) + 6) + 6) + 6) 6) 93 t (((((0 + 6) + 6) + 6) + 6) + 6) 8) 94 t ((((((0 + 6) + 6) + 6) + 6) + 6) + 8) 8) 95 t (((((((0 + 6) + 6) + 6) + 6) + 6) + 8) + 8) 8) 96 t ((((((((0 + 6) + 6) + 6) + 6) + 6) + 8) + 8) + 8) 8) 97 t (((((((((0 + 6) + 6) + 6) + 6) + 6) + 8) + 8) + 8) + 8) 8) 98 t ((((((((((0 + 6) + 6) + 6) + 6) + 6) + 8) + 8) + 8) + 8) + 8) 8) 99 t (((((((((((0 + 6) + 6) + 6) + 6) + 6) + 8) + 8) + 8) + 8) + 8) + 8) 8) 86 2)) (fIx_nI (by omega) (by decide)) dX8_all_261 (fun H locs hP hS => ?_)
    refine lv_aload_n hx hb dX8_all_262 rfl (lv_at hl 2 rfl) ?_
    refine lv_iload_n hx hb dX8_all_263 rfl (lv_at hl 0 rfl) ?_
    refine lv_iconst (v := 3) hx hb dX8_all_264 (by decide) ?_
    refine lv_iadd hx hb dX8_all_265 ?_
    refine f_topI (nI_add ((((((((((((0 + 6) + 6) + 6) + 6) + 6) + 8) + 8) + 8) + 8) + 8) + 8) + 8) 3) ?_
    refine lv_aload_n hx hb dX8_all_266 rfl (lv_at hl 1 rfl) ?_
    refine f_get X hP (T := TX8) (ci := 8) (k := 86) rfl inX8 rfl 3 (by decide) m_4_177 rfl (v := .int ((cyM bk (cyM bk (cyM bk (cyM bk (cyM bk (cyM bk (cyM bk (cyM bk (cyM bk (cyM bk (cyM bk (cyM bk M 88 t 0 6) 89 t (0 + 6) 6) 90 t ((0 + 6) + 6) 6) 91 t (((0 + 6) + 6) + 6) 6) 92 t ((((0 + 6) + 6) + 6) + 6) 6) 93 t (((((0 + 6) + 6) + 6) + 6) + 6) 8) 94 t ((((((0 + 6) + 6) + 6) + 6) + 6) + 8) 8) 95 t (((((((0 + 6) + 6) + 6) + 6) + 6) + 8) + 8) 8) 96 t ((((((((0 + 6) + 6) + 6) + 6) + 6) + 8) + 8) + 8) 8) 97 t (((((((((0 + 6) + 6) + 6) + 6) + 6) + 8) + 8) + 8) + 8) 8) 98 t ((((((((((0 + 6) + 6) + 6) + 6) + 6) + 8) + 8) + 8) + 8) + 8) 8) 99 t (((((((((((0 + 6) + 6) + 6) + 6) + 6) + 8) + 8) + 8) + 8) + 8) + 8) 8) 86 3)) (congrArg Value.int ((up2_o _ _ (Or.inl (by omega))).trans ((up2_o _ _ (Or.inl (by omega))).trans (up2_o _ _ (Or.inl (by omega)))))) dX8_all_267 ?_
    refine f_iast X hP hS (k := t) (n := 100) (q := (((((((((((((0 + 6) + 6) + 6) + 6) + 6) + 8) + 8) + 8) + 8) + 8) + 8) + 8) + 3)) hk_t hlt (v := ((cyM bk (cyM bk (cyM bk (cyM bk (cyM bk (cyM bk (cyM bk (cyM bk (cyM bk (cyM bk (cyM bk (cyM bk M 88 t 0 6) 89 t (0 + 6) 6) 90 t ((0 + 6) + 6) 6) 91 t (((0 + 6) + 6) + 6) 6) 92 t ((((0 + 6) + 6) + 6) + 6) 6) 93 t (((((0 + 6) + 6) + 6) + 6) + 6) 8) 94 t ((((((0 + 6) + 6) + 6) + 6) + 6) + 8) 8) 95 t (((((((0 + 6) + 6) + 6) + 6) + 6) + 8) + 8) 8) 96 t ((((((((0 + 6) + 6) + 6) + 6) + 6) + 8) + 8) + 8) 8) 97 t (((((((((0 + 6) + 6) + 6) + 6) + 6) + 8) + 8) + 8) + 8) 8) 98 t ((((((((((0 + 6) + 6) + 6) + 6) + 6) + 8) + 8) + 8) + 8) + 8) 8) 99 t (((((((((((0 + 6) + 6) + 6) + 6) + 6) + 8) + 8) + 8) + 8) + 8) + 8) 8) 86 3)) (fIx_nI (by omega) (by decide)) dX8_all_270 (fun H locs hP hS => ?_)
    refine lv_aload_n hx hb dX8_all_271 rfl (lv_at hl 2 rfl) ?_
    refine lv_iload_n hx hb dX8_all_272 rfl (lv_at hl 0 rfl) ?_
    refine lv_iconst (v := 4) hx hb dX8_all_273 (by decide) ?_
    refine lv_iadd hx hb dX8_all_274 ?_
    refine f_topI (nI_add ((((((((((((0 + 6) + 6) + 6) + 6) + 6) + 8) + 8) + 8) + 8) + 8) + 8) + 8) 4) ?_
    refine lv_aload_n hx hb dX8_all_275 rfl (lv_at hl 1 rfl) ?_
    refine f_get X hP (T := TX8) (ci := 8) (k := 86) rfl inX8 rfl 4 (by decide) m_4_178 rfl (v := .int ((cyM bk (cyM bk (cyM bk (cyM bk (cyM bk (cyM bk (cyM bk (cyM bk (cyM bk (cyM bk (cyM bk (cyM bk M 88 t 0 6) 89 t (0 + 6) 6) 90 t ((0 + 6) + 6) 6) 91 t (((0 + 6) + 6) + 6) 6) 92 t ((((0 + 6) + 6) + 6) + 6) 6) 93 t (((((0 + 6) + 6) + 6) + 6) + 6) 8) 94 t ((((((0 + 6) + 6) + 6) + 6) + 6) + 8) 8) 95 t (((((((0 + 6) + 6) + 6) + 6) + 6) + 8) + 8) 8) 96 t ((((((((0 + 6) + 6) + 6) + 6) + 6) + 8) + 8) + 8) 8) 97 t (((((((((0 + 6) + 6) + 6) + 6) + 6) + 8) + 8) + 8) + 8) 8) 98 t ((((((((((0 + 6) + 6) + 6) + 6) + 6) + 8) + 8) + 8) + 8) + 8) 8) 99 t (((((((((((0 + 6) + 6) + 6) + 6) + 6) + 8) + 8) + 8) + 8) + 8) + 8) 8) 86 4)) (congrArg Value.int ((up2_o _ _ (Or.inl (by omega))).trans ((up2_o _ _ (Or.inl (by omega))).trans ((up2_o _ _ (Or.inl (by omega))).trans (up2_o _ _ (Or.inl (by omega))))))) dX8_all_276 ?_
    refine f_iast X hP hS (k := t) (n := 100) (q := (((((((((((((0 + 6) + 6) + 6) + 6) + 6) + 8) + 8) + 8) + 8) + 8) + 8) + 8) + 4)) hk_t hlt (v := ((cyM bk (cyM bk (cyM bk (cyM bk (cyM bk (cyM bk (cyM bk (cyM bk (cyM bk (cyM bk (cyM bk (cyM bk M 88 t 0 6) 89 t (0 + 6) 6) 90 t ((0 + 6) + 6) 6) 91 t (((0 + 6) + 6) + 6) 6) 92 t ((((0 + 6) + 6) + 6) + 6) 6) 93 t (((((0 + 6) + 6) + 6) + 6) + 6) 8) 94 t ((((((0 + 6) + 6) + 6) + 6) + 6) + 8) 8) 95 t (((((((0 + 6) + 6) + 6) + 6) + 6) + 8) + 8) 8) 96 t ((((((((0 + 6) + 6) + 6) + 6) + 6) + 8) + 8) + 8) 8) 97 t (((((((((0 + 6) + 6) + 6) + 6) + 6) + 8) + 8) + 8) + 8) 8) 98 t ((((((((((0 + 6) + 6) + 6) + 6) + 6) + 8) + 8) + 8) + 8) + 8) 8) 99 t (((((((((((0 + 6) + 6) + 6) + 6) + 6) + 8) + 8) + 8) + 8) + 8) + 8) 8) 86 4)) (fIx_nI (by omega) (by decide)) dX8_all_279 (fun H locs hP hS => ?_)
    refine lv_aload_n hx hb dX8_all_280 rfl (lv_at hl 2 rfl) ?_
    refine lv_iload_n hx hb dX8_all_281 rfl (lv_at hl 0 rfl) ?_
    refine lv_iconst (v := 5) hx hb dX8_all_282 (by decide) ?_
    refine lv_iadd hx hb dX8_all_283 ?_
    refine f_topI (nI_add ((((((((((((0 + 6) + 6) + 6) + 6) + 6) + 8) + 8) + 8) + 8) + 8) + 8) + 8) 5) ?_
    refine lv_aload_n hx hb dX8_all_284 rfl (lv_at hl 1 rfl) ?_
    refine f_get X hP (T := TX8) (ci := 8) (k := 86) rfl inX8 rfl 5 (by decide) m_4_179 rfl (v := .int ((cyM bk (cyM bk (cyM bk (cyM bk (cyM bk (cyM bk (cyM bk (cyM bk (cyM bk (cyM bk (cyM bk (cyM bk M 88 t 0 6) 89 t (0 + 6) 6) 90 t ((0 + 6) + 6) 6) 91 t (((0 + 6) + 6) + 6) 6) 92 t ((((0 + 6) + 6) + 6) + 6) 6) 93 t (((((0 + 6) + 6) + 6) + 6) + 6) 8) 94 t ((((((0 + 6) + 6) + 6) + 6) + 6) + 8) 8) 95 t (((((((0 + 6) + 6) + 6) + 6) + 6) + 8) + 8) 8) 96 t ((((((((0 + 6) + 6) + 6) + 6) + 6) + 8) + 8) + 8) 8) 97 t (((((((((0 + 6) + 6) + 6) + 6) + 6) + 8) + 8) + 8) + 8) 8) 98 t ((((((((((0 + 6) + 6) + 6) + 6) + 6) + 8) + 8) + 8) + 8) + 8) 8) 99 t (((((((((((0 + 6) + 6) + 6) + 6) + 6) + 8) + 8) + 8) + 8) + 8) + 8) 8) 86 5)) (congrArg Value.int ((up2_o _ _ (Or.inl (by omega))).trans ((up2_o _ _ (Or.inl (by omega))).trans ((up2_o _ _ (Or.inl (by omega))).trans ((up2_o _ _ (Or.inl (by omega))).trans (up2_o _ _ (Or.inl (by omega)))))))) dX8_all_285 ?_
    refine f_iast X hP hS (k := t) (n := 100) (q := (((((((((((((0 + 6) + 6) + 6) + 6) + 6) + 8) + 8) + 8) + 8) + 8) + 8) + 8) + 5)) hk_t hlt (v := ((cyM bk (cyM bk (cyM bk (cyM bk (cyM bk (cyM bk (cyM bk (cyM bk (cyM bk (cyM bk (cyM bk (cyM bk M 88 t 0 6) 89 t (0 + 6) 6) 90 t ((0 + 6) + 6) 6) 91 t (((0 + 6) + 6) + 6) 6) 92 t ((((0 + 6) + 6) + 6) + 6) 6) 93 t (((((0 + 6) + 6) + 6) + 6) + 6) 8) 94 t ((((((0 + 6) + 6) + 6) + 6) + 6) + 8) 8) 95 t (((((((0 + 6) + 6) + 6) + 6) + 6) + 8) + 8) 8) 96 t ((((((((0 + 6) + 6) + 6) + 6) + 6) + 8) + 8) + 8) 8) 97 t (((((((((0 + 6) + 6) + 6) + 6) + 6) + 8) + 8) + 8) + 8) 8) 98 t ((((((((((0 + 6) + 6) + 6) + 6) + 6) + 8) + 8) + 8) + 8) + 8) 8) 99 t (((((((((((0 + 6) + 6) + 6) + 6) + 6) + 8) + 8) + 8) + 8) + 8) + 8) 8) 86 5)) (fIx_nI (by omega) (by decide)) dX8_all_288 (fun H locs hP hS => ?_)
    refine lv_aload_n hx hb dX8_all_289 rfl (lv_at hl 2 rfl) ?_
    refine lv_iload_n hx hb dX8_all_290 rfl (lv_at hl 0 rfl) ?_
    refine lv_bipush (v := 6) hx hb dX8_all_291 (by decide) ?_
    refine lv_iadd hx hb dX8_all_293 ?_
    refine f_topI (nI_add ((((((((((((0 + 6) + 6) + 6) + 6) + 6) + 8) + 8) + 8) + 8) + 8) + 8) + 8) 6) ?_
    refine lv_aload_n hx hb dX8_all_294 rfl (lv_at hl 1 rfl) ?_
    refine f_get X hP (T := TX8) (ci := 8) (k := 86) rfl inX8 rfl 6 (by decide) m_4_180 rfl (v := .int ((cyM bk (cyM bk (cyM bk (cyM bk (cyM bk (cyM bk (cyM bk (cyM bk (cyM bk (cyM bk (cyM bk (cyM bk M 88 t 0 6) 89 t (0 + 6) 6) 90 t ((0 + 6) + 6) 6) 91 t (((0 + 6) + 6) + 6) 6) 92 t ((((0 + 6) + 6) + 6) + 6) 6) 93 t (((((0 + 6) + 6) + 6) + 6) + 6) 8) 94 t ((((((0 + 6) + 6) + 6) + 6) + 6) + 8) 8) 95 t (((((((0 + 6) + 6) + 6) + 6) + 6) + 8) + 8) 8) 96 t ((((((((0 + 6) + 6) + 6) + 6) + 6) + 8) + 8) + 8) 8) 97 t (((((((((0 + 6) + 6) + 6) + 6) + 6) + 8) + 8) + 8) + 8) 8) 98 t ((((((((((0 + 6) + 6) + 6) + 6) + 6) + 8) + 8) + 8) + 8) + 8) 8) 99 t (((((((((((0 + 6) + 6) + 6) + 6) + 6) + 8) + 8) + 8) + 8) + 8) + 8) 8) 86 6)) (congrArg Value.int ((up2_o _ _ (Or.inl (by omega))).trans ((up2_o _ _ (Or.inl (by omega))).trans ((up2_o _ _ (Or.inl (by omega))).trans ((up2_o _ _ (Or.inl (by omega))).trans ((up2_o _ _ (Or.inl (by omega))).trans (up2_o _ _ (Or.inl (by omega))))))))) dX8_all_295 ?_
    refine f_iast X hP hS (k := t) (n := 100) (q := (((((((((((((0 + 6) + 6) + 6) + 6) + 6) + 8) + 8) + 8) + 8) + 8) + 8) + 8) + 6)) hk_t hlt (v := ((cyM bk (cyM bk (cyM bk (cyM bk (cyM bk (cyM bk (cyM bk (cyM bk (cyM bk (cyM bk (cyM bk (cyM bk M 88 t 0 6) 89 t (0 + 6) 6) 90 t ((0 + 6) + 6) 6) 91 t (((0 + 6) + 6) + 6) 6) 92 t ((((0 + 6) + 6) + 6) + 6) 6) 93 t (((((0 + 6) + 6) + 6) + 6) + 6) 8) 94 t ((((((0 + 6) + 6) + 6) + 6) + 6) + 8) 8) 95 t (((((((0 + 6) + 6) + 6) + 6) + 6) + 8) + 8) 8) 96 t ((((((((0 + 6) + 6) + 6) + 6) + 6) + 8) + 8) + 8) 8) 97 t (((((((((0 + 6) + 6) + 6) + 6) + 6) + 8) + 8) + 8) + 8) 8) 98 t ((((((((((0 + 6) + 6) + 6) + 6) + 6) + 8) + 8) + 8) + 8) + 8) 8) 99 t (((((((((((0 + 6) + 6) + 6) + 6) + 6) + 8) + 8) + 8) + 8) + 8) + 8) 8) 86 6)) (fIx_nI (by omega) (by decide)) dX8_all_298 (fun H locs hP hS => ?_)
    refine f_vr X hlk hr hP hS ?_ dX8_all_299
    show _ = _
    unfold a_X8_all
    (first | rw [if_pos c_169] | rw [if_neg c_169] | rw [if_neg (Bool.eq_false_iff.mp c_169)] | skip)
    (try dsimp only)
    first
      | done
      | exact ⟨rfl, rfl⟩
      | rfl
      | (simp only [c_169, if_true, if_false, and_self, and_true, true_and, not_true_eq_false, not_false_eq_true, and_false, false_and, or_true, true_or, or_false, false_or, or_self, Bool.false_eq_true, reduceCtorEq, nl10, nl20, nl30, nl40, nl50, nl60, nl70, nl12, nl13, nl21, nl23, nl31, nl32]; first | done | exact ⟨rfl, rfl⟩ | rfl)
      | contradiction
      | (simp only [c_169, if_true, if_false, and_self, and_true, true_and, not_true_eq_false, not_false_eq_true, and_false, false_and, or_true, true_or, or_false, false_or, or_self, Bool.false_eq_true, reduceCtorEq, nl10, nl20, nl30, nl40, nl50, nl60, nl70, nl12, nl13, nl21, nl23, nl31, nl32]; contradiction)
      | (exfalso; simp_all; done)
      | simp_all
  · refine lv_aload_n hx hb dX8_all_172 rfl (lv_at hl 1 rfl) ?_
    refine lv_aload_n hx hb dX8_all_173 rfl (lv_at hl 2 rfl) ?_
    refine lv_iload_n hx hb dX8_all_174 rfl (lv_at hl 0 rfl) ?_
    refine f_iald X hP (k := t) (n := 100) (q := ((((((((((((0 + 6) + 6) + 6) + 6) + 6) + 8) + 8) + 8) + 8) + 8) + 8) + 8)) hk_t hlt (fIx_nI (by omega) (by decide)) dX8_all_175 ?_
    refine f_put X hP hS (T := TX8) (ci := 8) (k := 86) rfl inX8 rfl tyX8 tyX8_ok nmX8 0 (by decide) m_4_174 ⟨rfl, rfl⟩ rfl (v := ((cyM bk (cyM bk (cyM bk (cyM bk (cyM bk (cyM bk (cyM bk (cyM bk (cyM bk (cyM bk (cyM bk (cyM bk M 88 t 0 6) 89 t (0 + 6) 6) 90 t ((0 + 6) + 6) 6) 91 t (((0 + 6) + 6) + 6) 6) 92 t ((((0 + 6) + 6) + 6) + 6) 6) 93 t (((((0 + 6) + 6) + 6) + 6) + 6) 8) 94 t ((((((0 + 6) + 6) + 6) + 6) + 6) + 8) 8) 95 t (((((((0 + 6) + 6) + 6) + 6) + 6) + 8) + 8) 8) 96 t ((((((((0 + 6) + 6) + 6) + 6) + 6) + 8) + 8) + 8) 8) 97 t (((((((((0 + 6) + 6) + 6) + 6) + 6) + 8) + 8) + 8) + 8) 8) 98 t ((((((((((0 + 6) + 6) + 6) + 6) + 6) + 8) + 8) + 8) + 8) + 8) 8) 99 t (((((((((((0 + 6) + 6) + 6) + 6) + 6) + 8) + 8) + 8) + 8) + 8) + 8) 8) t ((((((((((((0 + 6) + 6) + 6) + 6) + 6) + 8) + 8) + 8) + 8) + 8) + 8) + 8))) rfl rfl dX8_all_176 (fun H locs hP hS => ?_)
    refine lv_aload_n hx hb dX8_all_179 rfl (lv_at hl 1 rfl) ?_
    refine lv_aload_n hx hb dX8_all_180 rfl (lv_at hl 2 rfl) ?_
    refine lv_iload_n hx hb dX8_all_181 rfl (lv_at hl 0 rfl) ?_
    refine lv_iconst (v := 1) hx hb dX8_all_182 (by decide) ?_
    refine lv_iadd hx hb dX8_all_183 ?_
    refine f_topI (nI_add ((((((((((((0 + 6) + 6) + 6) + 6) + 6) + 8) + 8) + 8) + 8) + 8) + 8) + 8) 1) ?_
    refine f_iald X hP (k := t) (n := 100) (q := (((((((((((((0 + 6) + 6) + 6) + 6) + 6) + 8) + 8) + 8) + 8) + 8) + 8) + 8) + 1)) hk_t hlt (fIx_nI (by omega) (by decide)) dX8_all_184 ?_
    refine f_topI (up2_o _ _ (Or.inl (by omega))) ?_
    refine f_put X hP hS (T := TX8) (ci := 8) (k := 86) rfl inX8 rfl tyX8 tyX8_ok nmX8 1 (by decide) m_4_175 ⟨rfl, rfl⟩ rfl (v := ((cyM bk (cyM bk (cyM bk (cyM bk (cyM bk (cyM bk (cyM bk (cyM bk (cyM bk (cyM bk (cyM bk (cyM bk M 88 t 0 6) 89 t (0 + 6) 6) 90 t ((0 + 6) + 6) 6) 91 t (((0 + 6) + 6) + 6) 6) 92 t ((((0 + 6) + 6) + 6) + 6) 6) 93 t (((((0 + 6) + 6) + 6) + 6) + 6) 8) 94 t ((((((0 + 6) + 6) + 6) + 6) + 6) + 8) 8) 95 t (((((((0 + 6) + 6) + 6) + 6) + 6) + 8) + 8) 8) 96 t ((((((((0 + 6) + 6) + 6) + 6) + 6) + 8) + 8) + 8) 8) 97 t (((((((((0 + 6) + 6) + 6) + 6) + 6) + 8) + 8) + 8) + 8) 8) 98 t ((((((((((0 + 6) + 6) + 6) + 6) + 6) + 8) + 8) + 8) + 8) + 8) 8) 99 t (((((((((((0 + 6) + 6) + 6) + 6) + 6) + 8) + 8) + 8) + 8) + 8) + 8) 8) t (((((((((((((0 + 6) + 6) + 6) + 6) + 6) + 8) + 8) + 8) + 8) + 8) + 8) + 8) + 1))) rfl rfl dX8_all_185 (fun H locs hP hS => ?_)
    refine lv_aload_n hx hb dX8_all_188 rfl (lv_at hl 1 rfl) ?_
    refine lv_aload_n hx hb dX8_all_189 rfl (lv_at hl 2 rfl) ?_
    refine lv_iload_n hx hb dX8_all_190 rfl (lv_at hl 0 rfl) ?_
    refine lv_iconst (v := 2) hx hb dX8_all_191 (by decide) ?_
    refine lv_iadd hx hb dX8_all_192 ?_
    refine f_topI (nI_add ((((((((((((0 + 6) + 6) + 6) + 6) + 6) + 8) + 8) + 8) + 8) + 8) + 8) + 8) 2) ?_
    refine f_iald X hP (k := t) (n := 100) (q := (((((((((((((0 + 6) + 6) + 6) + 6) + 6) + 8) + 8) + 8) + 8) + 8) + 8) + 8) + 2)) hk_t hlt (fIx_nI (by omega) (by decide)) dX8_all_193 ?_
    refine f_topI ((up2_o _ _ (Or.inl (by omega))).trans (up2_o _ _ (Or.inl (by omega)))) ?_
    refine f_put X hP hS (T := TX8) (ci := 8) (k := 86) rfl inX8 rfl tyX8 tyX8_ok nmX8 2 (by decide) m_4_176 ⟨rfl, rfl⟩ rfl (v := ((cyM bk (cyM bk (cyM bk (cyM bk (cyM bk (cyM bk (cyM bk (cyM bk (cyM bk (cyM bk (cyM bk (cyM bk M 88 t 0 6) 89 t (0 + 6) 6) 90 t ((0 + 6) + 6) 6) 91 t (((0 + 6) + 6) + 6) 6) 92 t ((((0 + 6) + 6) + 6) + 6) 6) 93 t (((((0 + 6) + 6) + 6) + 6) + 6) 8) 94 t ((((((0 + 6) + 6) + 6) + 6) + 6) + 8) 8) 95 t (((((((0 + 6) + 6) + 6) + 6) + 6) + 8) + 8) 8) 96 t ((((((((0 + 6) + 6) + 6) + 6) + 6) + 8) + 8) + 8) 8) 97 t (((((((((0 + 6) + 6) + 6) + 6) + 6) + 8) + 8) + 8) + 8) 8) 98 t ((((((((((0 + 6) + 6) + 6) + 6) + 6) + 8) + 8) + 8) + 8) + 8) 8) 99 t (((((((((((0 + 6) + 6) + 6) + 6) + 6) + 8) + 8) + 8) + 8) + 8) + 8) 8) t (((((((((((((0 + 6) + 6) + 6) + 6) + 6) + 8) + 8) + 8) + 8) + 8) + 8) + 8) + 2))) rfl rfl dX8_all_194 (fun H locs hP hS => ?_)
    refine lv_aload_n hx hb dX8_all_197 rfl (lv_at hl 1 rfl) ?_
    refine lv_aload_n hx hb dX8_all_198 rfl (lv_at hl 2 rfl) ?_
    refine lv_iload_n hx hb dX8_all_199 rfl (lv_at hl 0 rfl) ?_
    refine lv_iconst (v := 3) hx hb dX8_all_200 (by decide) ?_
    refine lv_iadd hx hb dX8_all_201 ?_
    refine f_topI (nI_add ((((((((((((0 + 6) + 6) + 6) + 6) + 6) + 8) + 8) + 8) + 8) + 8) + 8) + 8) 3) ?_
    refine f_iald X hP (k := t) (n := 100) (q := (((((((((((((0 + 6) + 6) + 6) + 6) + 6) + 8) + 8) + 8) + 8) + 8) + 8) + 8) + 3)) hk_t hlt (fIx_nI (by omega) (by decide)) dX8_all_202 ?_
    refine f_topI ((up2_o _ _ (Or.inl (by omega))).trans ((up2_o _ _ (Or.inl (by omega))).trans (up2_o _ _ (Or.inl (by omega))))) ?_
    refine f_put X hP hS (T := TX8) (ci := 8) (k := 86) rfl inX8 rfl tyX8 tyX8_ok nmX8 3 (by decide) m_4_177 ⟨rfl, rfl⟩ rfl (v := ((cyM bk (cyM bk (cyM bk (cyM bk (cyM bk (cyM bk (cyM bk (cyM bk (cyM bk (cyM bk (cyM bk (cyM bk M 88 t 0 6) 89 t (0 + 6) 6) 90 t ((0 + 6) + 6) 6) 91 t (((0 + 6) + 6) + 6) 6) 92 t ((((0 + 6) + 6) + 6) + 6) 6) 93 t (((((0 + 6) + 6) + 6) + 6) + 6) 8) 94 t ((((((0 + 6) + 6) + 6) + 6) + 6) + 8) 8) 95 t (((((((0 + 6) + 6) + 6) + 6) + 6) + 8) + 8) 8) 96 t ((((((((0 + 6) + 6) + 6) + 6) + 6) + 8) + 8) + 8) 8) 97 t (((((((((0 + 6) + 6) + 6) + 6) + 6) + 8) + 8) + 8) + 8) 8) 98 t ((((((((((0 + 6) + 6) + 6) + 6) + 6) + 8) + 8) + 8) + 8) + 8) 8) 99 t (((((((((((0 + 6) + 6) + 6) + 6) + 6) + 8) + 8) + 8) + 8) + 8) + 8) 8) t (((((((((((((0 + 6) + 6) + 6) + 6) + 6) + 8) + 8) + 8) + 8) + 8) + 8) + 8) + 3))) rfl rfl dX8_all_203 (fun H locs hP hS => ?_)
    refine lv_aload_n hx hb dX8_all_206 rfl (lv_at hl 1 rfl) ?_
    refine lv_aload_n hx hb dX8_all_207 rfl (lv_at hl 2 rfl) ?_
    refine lv_iload_n hx hb dX8_all_208 rfl (lv_at hl 0 rfl) ?_
    refine lv_iconst (v := 4) hx hb dX8_all_209 (by decide) ?_
    refine lv_iadd hx hb dX8_all_210 ?_
    refine f_topI (nI_add ((((((((((((0 + 6) + 6) + 6) + 6) + 6) + 8) + 8) + 8) + 8) + 8) + 8) + 8) 4) ?_
    refine f_iald X hP (k := t) (n := 100) (q := (((((((((((((0 + 6) + 6) + 6) + 6) + 6) + 8) + 8) + 8) + 8) + 8) + 8) + 8) + 4)) hk_t hlt (fIx_nI (by omega) (by decide)) dX8_all_211 ?_
    refine f_topI ((up2_o _ _ (Or.inl (by omega))).trans ((up2_o _ _ (Or.inl (by omega))).trans ((up2_o _ _ (Or.inl (by omega))).trans (up2_o _ _ (Or.inl (by omega)))))) ?_
    refine f_put X hP hS (T := TX8) (ci := 8) (k := 86) rfl inX8 rfl tyX8 tyX8_ok nmX8 4 (by decide) m_4_178 ⟨rfl, rfl⟩ rfl (v := ((cyM bk (cyM bk (cyM bk (cyM bk (cyM bk (cyM bk (cyM bk (cyM bk (cyM bk (cyM bk (cyM bk (cyM bk M 88 t 0 6) 89 t (0 + 6) 6) 90 t ((0 + 6) + 6) 6) 91 t (((0 + 6) + 6) + 6) 6) 92 t ((((0 + 6) + 6) + 6) + 6) 6) 93 t (((((0 + 6) + 6) + 6) + 6) + 6) 8) 94 t ((((((0 + 6) + 6) + 6) + 6) + 6) + 8) 8) 95 t (((((((0 + 6) + 6) + 6) + 6) + 6) + 8) + 8) 8) 96 t ((((((((0 + 6) + 6) + 6) + 6) + 6) + 8) + 8) + 8) 8) 97 t (((((((((0 + 6) + 6) + 6) + 6) + 6) + 8) + 8) + 8) + 8) 8) 98 t ((((((((((0 + 6) + 6) + 6) + 6) + 6) + 8) + 8) + 8) + 8) + 8) 8) 99 t (((((((((((0 + 6) + 6) + 6) + 6) + 6) + 8) + 8) + 8) + 8) + 8) + 8) 8) t (((((((((((((0 + 6) + 6) + 6) + 6) + 6) + 8) + 8) + 8) + 8) + 8) + 8) + 8) + 4))) rfl rfl dX8_all_212 (fun H locs hP hS => ?_)
    refine lv_aload_n hx hb dX8_all_215 rfl (lv_at hl 1 rfl) ?_
    refine lv_aload_n hx hb dX8_all_216 rfl (lv_at hl 2 rfl) ?_
    refine lv_iload_n hx hb dX8_all_217 rfl (lv_at hl 0 rfl) ?_
    refine lv_iconst (v := 5) hx hb dX8_all_218 (by decide) ?_
    refine lv_iadd hx hb dX8_all_219 ?_
    refine f_topI (nI_add ((((((((((((0 + 6) + 6) + 6) + 6) + 6) + 8) + 8) + 8) + 8) + 8) + 8) + 8) 5) ?_
    refine f_iald X hP (k := t) (n := 100) (q := (((((((((((((0 + 6) + 6) + 6) + 6) + 6) + 8) + 8) + 8) + 8) + 8) + 8) + 8) + 5)) hk_t hlt (fIx_nI (by omega) (by decide)) dX8_all_220 ?_
    refine f_topI ((up2_o _ _ (Or.inl (by omega))).trans ((up2_o _ _ (Or.inl (by omega))).trans ((up2_o _ _ (Or.inl (by omega))).trans ((up2_o _ _ (Or.inl (by omega))).trans (up2_o _ _ (Or.inl (by omega))))))) ?_
    refine f_put X hP hS (T := TX8) (ci := 8) (k := 86) rfl inX8 rfl tyX8 tyX8_ok nmX8 5 (by decide) m_4_179 ⟨rfl, rfl⟩ rfl (v := ((cyM bk (cyM bk (cyM bk (cyM bk (cyM bk (cyM bk (cyM bk (cyM bk (cyM bk (cyM bk (cyM bk (cyM bk M 88 t 0 6) 89 t (0 + 6) 6) 90 t ((0 + 6) + 6) 6) 91 t (((0 + 6) + 6) + 6) 6) 92 t ((((0 + 6) + 6) + 6) + 6) 6) 93 t (((((0 + 6) + 6) + 6) + 6) + 6) 8) 94 t ((((((0 + 6) + 6) + 6) + 6) + 6) + 8) 8) 95 t (((((((0 + 6) + 6) + 6) + 6) + 6) + 8) + 8) 8) 96 t ((((((((0 + 6) + 6) + 6) + 6) + 6) + 8) + 8) + 8) 8) 97 t (((((((((0 + 6) + 6) + 6) + 6) + 6) + 8) + 8) + 8) + 8) 8) 98 t ((((((((((0 + 6) + 6) + 6) + 6) + 6) + 8) + 8) + 8) + 8) + 8) 8) 99 t (((((((((((0 + 6) + 6) + 6) + 6) + 6) + 8) + 8) + 8) + 8) + 8) + 8) 8) t (((((((((((((0 + 6) + 6) + 6) + 6) + 6) + 8) + 8) + 8) + 8) + 8) + 8) + 8) + 5))) rfl rfl dX8_all_221 (fun H locs hP hS => ?_)
    refine lv_aload_n hx hb dX8_all_224 rfl (lv_at hl 1 rfl) ?_
    refine lv_aload_n hx hb dX8_all_225 rfl (lv_at hl 2 rfl) ?_
    refine lv_iload_n hx hb dX8_all_226 rfl (lv_at hl 0 rfl) ?_
    refine lv_bipush (v := 6) hx hb dX8_all_227 (by decide) ?_
    refine lv_iadd hx hb dX8_all_229 ?_
    refine f_topI (nI_add ((((((((((((0 + 6) + 6) + 6) + 6) + 6) + 8) + 8) + 8) + 8) + 8) + 8) + 8) 6) ?_
    refine f_iald X hP (k := t) (n := 100) (q := (((((((((((((0 + 6) + 6) + 6) + 6) + 6) + 8) + 8) + 8) + 8) + 8) + 8) + 8) + 6)) hk_t hlt (fIx_nI (by omega) (by decide)) dX8_all_230 ?_
    refine f_topI ((up2_o _ _ (Or.inl (by omega))).trans ((up2_o _ _ (Or.inl (by omega))).trans ((up2_o _ _ (Or.inl (by omega))).trans ((up2_o _ _ (Or.inl (by omega))).trans ((up2_o _ _ (Or.inl (by omega))).trans (up2_o _ _ (Or.inl (by omega)))))))) ?_
    refine f_put X hP hS (T := TX8) (ci := 8) (k := 86) rfl inX8 rfl tyX8 tyX8_ok nmX8 6 (by decide) m_4_180 ⟨rfl, rfl⟩ rfl (v := ((cyM bk (cyM bk (cyM bk (cyM bk (cyM bk (cyM bk (cyM bk (cyM bk (cyM bk (cyM bk (cyM bk (cyM bk M 88 t 0 6) 89 t (0 + 6) 6) 90 t ((0 + 6) + 6) 6) 91 t (((0 + 6) + 6) + 6) 6) 92 t ((((0 + 6) + 6) + 6) + 6) 6) 93 t (((((0 + 6) + 6) + 6) + 6) + 6) 8) 94 t ((((((0 + 6) + 6) + 6) + 6) + 6) + 8) 8) 95 t (((((((0 + 6) + 6) + 6) + 6) + 6) + 8) + 8) 8) 96 t ((((((((0 + 6) + 6) + 6) + 6) + 6) + 8) + 8) + 8) 8) 97 t (((((((((0 + 6) + 6) + 6) + 6) + 6) + 8) + 8) + 8) + 8) 8) 98 t ((((((((((0 + 6) + 6) + 6) + 6) + 6) + 8) + 8) + 8) + 8) + 8) 8) 99 t (((((((((((0 + 6) + 6) + 6) + 6) + 6) + 8) + 8) + 8) + 8) + 8) + 8) 8) t (((((((((((((0 + 6) + 6) + 6) + 6) + 6) + 8) + 8) + 8) + 8) + 8) + 8) + 8) + 6))) rfl rfl dX8_all_231 (fun H locs hP hS => ?_)
    refine lv_goto (tgt := 299) hx hb dX8_all_234 (by decide) ?_
    refine f_vr X hlk hr hP hS ?_ dX8_all_299
    show _ = _
    unfold a_X8_all
    (first | rw [if_pos c_169] | rw [if_neg c_169] | rw [if_neg (Bool.eq_false_iff.mp c_169)] | skip)
    (try dsimp only)
    first
      | done
      | exact ⟨rfl, rfl⟩
      | rfl
      | (simp only [c_169, if_true, if_false, and_self, and_true, true_and, not_true_eq_false, not_false_eq_true, and_false, false_and, or_true, true_or, or_false, false_or, or_self, Bool.false_eq_true, reduceCtorEq, nl10, nl20, nl30, nl40, nl50, nl60, nl70, nl12, nl13, nl21, nl23, nl31, nl32]; first | done | exact ⟨rfl, rfl⟩ | rfl)
      | contradiction
      | (simp only [c_169, if_true, if_false, and_self, and_true, true_and, not_true_eq_false, not_false_eq_true, and_false, false_and, or_true, true_or, or_false, false_or, or_self, Bool.false_eq_true, reduceCtorEq, nl10, nl20, nl30, nl40, nl50, nl60, nl70, nl12, nl13, nl21, nl23, nl31, nl32]; contradiction)
      | (exfalso; simp_all; done)
      | simp_all

def a_X8_image (M : Nat → Nat → Int32) (L : Nat → Nat → Int64) : fR := (((a_X8_all (up2 M 86 46 1) L 112 0).1 86 0), (a_X8_all (up2 M 86 46 1) L 112 0).1, L)
set_option maxHeartbeats 1000000 in
set_option maxRecDepth 100000 in
theorem c_X8_image (l : Launch) (E : fE) (M : Nat → Nat → Int32) (L : Nat → Nat → Int64) : Met l yX8_image (wl yX8_image cX8_image 1 (some .int)) (fRm 2 49) (va_Pc [.ref (fad E 86)] (fPre E M L)) (fQi E (fun r u => u = ((a_X8_image M L).2.1, L) ∧ r = (a_X8_image M L).1)) 0 0 (fA E) := by
  refine f_head (by decide) (Nat.le_of_ble_eq_true rfl) ?_
  intro pg ev s mi below meth cd ls X hr hlk hP hS hl
  have hx := X.1.1
  have hb := X.1.2.1
  have hl : lv_has ls 1 [(0, .ref (fad E 86))] := hl
  refine lv_aload_n hx hb dX8_image_0 rfl (lv_at hl 0 rfl) ?_
  refine lv_iconst (v := 1) hx hb dX8_image_1 (by decide) ?_
  refine f_put X hP hS (T := TX8) (ci := 8) (k := 86) rfl inX8 rfl tyX8 tyX8_ok nmX8 46 (by decide) m_4_220 ⟨rfl, rfl⟩ rfl (v := 1) rfl rfl dX8_image_2 (fun H locs hP hS => ?_)
  refine lv_aload_n hx hb dX8_image_5 rfl (lv_at hl 0 rfl) ?_
  refine lv_aload_n hx hb dX8_image_6 rfl (lv_at hl 0 rfl) ?_
  refine f_get X hP (T := TX8) (ci := 8) (k := 86) rfl inX8 rfl 38 (by decide) m_4_212 rfl (v := .ref (fad E 112)) rfl dX8_image_7 ?_
  refine lv_iconst (v := 0) hx hb dX8_image_10 (by decide) ?_
  refine f_vV (n := 2) X hP hS [.ref (fad E 112), .int 0] [] (c_X8_all l E (up2 M 86 46 1) L 112 0 rfl rfl (by decide)) m_5_176 wi_X8_all rfl rfl (by decide) (by decide +kernel) ⟨Nat.le_of_ble_eq_true rfl, Nat.le_of_ble_eq_true rfl⟩ rfl hl rfl (Nat.le_of_ble_eq_true rfl) ⟨Nat.zero_le _, Nat.zero_le _⟩ dX8_image_11 (fun H locs hP hS => ?_)
  refine lv_aload_n hx hb dX8_image_14 rfl (lv_at hl 0 rfl) ?_
  refine f_get X hP (T := TX8) (ci := 8) (k := 86) rfl inX8 rfl 0 (by decide) m_4_174 rfl (v := .int ((a_X8_all (up2 M 86 46 1) L 112 0).1 86 0)) rfl dX8_image_15 ?_
  refine f_ir X hlk hr (v := ((a_X8_all (up2 M 86 46 1) L 112 0).1 86 0)) rfl hP hS ?_ dX8_image_18
  unfold a_X8_image
  (try dsimp only)
  first
    | done
    | exact ⟨rfl, rfl⟩
    | rfl
    | (simp only [if_true, if_false, and_self, and_true, true_and, not_true_eq_false, not_false_eq_true, and_false, false_and, or_true, true_or, or_false, false_or, or_self, Bool.false_eq_true, reduceCtorEq, nl10, nl20, nl30, nl40, nl50, nl60, nl70, nl12, nl13, nl21, nl23, nl31, nl32]; first | done | exact ⟨rfl, rfl⟩ | rfl)
    | contradiction
    | (simp only [if_true, if_false, and_self, and_true, true_and, not_true_eq_false, not_false_eq_true, and_false, false_and, or_true, true_or, or_false, false_or, or_self, Bool.false_eq_true, reduceCtorEq, nl10, nl20, nl30, nl40, nl50, nl60, nl70, nl12, nl13, nl21, nl23, nl31, nl32]; contradiction)
    | (exfalso; simp_all; done)
    | simp_all

def lp_X8_restore_25 (M : Nat → Nat → Int32) (L : Nat → Nat → Int64) : Nat → (Nat → Nat → Int32) := itF (fun i s9 => (if (s9 100 i) = 2 then (if (s9 103 i) < (s9 86 0) then s9 else (up2 s9 100 i 0)) else s9)) (a_X8_all M L 112 1).1
theorem lp_X8_restore_25_s (M : Nat → Nat → Int32) (L : Nat → Nat → Int64) (i : Nat) : (lp_X8_restore_25 M L (i + 1)) = (if (((lp_X8_restore_25 M L i)) 100 i) = 2 then (if (((lp_X8_restore_25 M L i)) 103 i) < (((lp_X8_restore_25 M L i)) 86 0) then ((lp_X8_restore_25 M L i)) else (up2 ((lp_X8_restore_25 M L i)) 100 i 0)) else ((lp_X8_restore_25 M L i))) := rfl
def a_X8_restore (M : Nat → Nat → Int32) (L : Nat → Nat → Int64) : fR := (if (M 86 46) = 0 then ((-6), (noM M (-6)), L) else (((lp_X8_restore_25 M L 8) 86 0), (lp_X8_restore_25 M L 8), L))
set_option maxHeartbeats 1000000 in
set_option maxRecDepth 100000 in
theorem c_X8_restore (l : Launch) (E : fE) (M : Nat → Nat → Int32) (L : Nat → Nat → Int64) : Met l yX8_restore (wl yX8_restore cX8_restore 2 (some .int)) (fRm 2 49) (va_Pc [.ref (fad E 86)] (fPre E M L)) (fQi E (fun r u => u = ((a_X8_restore M L).2.1, L) ∧ r = (a_X8_restore M L).1)) 0 0 (fA E) := by
  refine f_head (by decide) (Nat.le_of_ble_eq_true rfl) ?_
  intro pg ev s mi below meth cd ls X hr hlk hP hS hl
  have hx := X.1.1
  have hb := X.1.2.1
  have hl : lv_has ls 2 [(0, .ref (fad E 86))] := hl
  refine lv_aload_n hx hb dX8_restore_0 rfl (lv_at hl 0 rfl) ?_
  refine f_get X hP (T := TX8) (ci := 8) (k := 86) rfl inX8 rfl 46 (by decide) m_4_220 rfl (v := .int (M 86 46)) rfl dX8_restore_1 ?_
  refine lv_if_ne (tgt := 14) hx hb dX8_restore_4 (by decide) (fun c_4 => ?_) (fun c_4 => ?_)
  · refine lv_aload_n hx hb dX8_restore_14 rfl (lv_at hl 0 rfl) ?_
    refine lv_aload_n hx hb dX8_restore_15 rfl (lv_at hl 0 rfl) ?_
    refine f_get X hP (T := TX8) (ci := 8) (k := 86) rfl inX8 rfl 38 (by decide) m_4_212 rfl (v := .ref (fad E 112)) rfl dX8_restore_16 ?_
    refine lv_iconst (v := 1) hx hb dX8_restore_19 (by decide) ?_
    refine f_vV (n := 2) X hP hS [.ref (fad E 112), .int 1] [] (c_X8_all l E M L 112 1 rfl rfl (by decide)) m_5_176 wi_X8_all rfl rfl (by decide) (by decide +kernel) ⟨Nat.le_of_ble_eq_true rfl, Nat.le_of_ble_eq_true rfl⟩ rfl hl rfl (Nat.le_of_ble_eq_true rfl) ⟨Nat.zero_le _, Nat.zero_le _⟩ dX8_restore_20 (fun H locs hP hS => ?_)
    refine lv_iconst (v := 0) hx hb dX8_restore_23 (by decide) ?_
    refine lv_istore_n (lv' := [(1, .int 0), (0, .ref (fad E 86))]) hx hb dX8_restore_24 rfl hl (by decide) rfl (fun ls hl => ?_)
    refine f_loop (α := Nat × (Nat → Nat → Int32)) (fun (a : Nat × (Nat → Nat → Int32)) H locs ls => match a with | (i, D) => fP E D L H ∧ va_S (fA E) s.heap H locs ∧ lv_has ls 2 [(1, .int (nI i)), (0, .ref (fad E 86))] ∧ (i ≤ 8) ∧ (D = (lp_X8_restore_25 M L i))) (fun (a : Nat × (Nat → Nat → Int32)) => match a with | (i, D) => 8 - i) (pc0 := 25) (st := fun _ => []) ?_ (0, (a_X8_all M L 112 1).1) _ _ _ ⟨hP, hS, lv_sub hl [0, 1] rfl, (Nat.zero_le _), rfl⟩
    rintro ⟨i, D⟩ H locs ls ⟨hP, hS, hl, ht_25, hbt_25⟩ ih_25
    refine lv_iload_n hx hb dX8_restore_25 rfl (lv_at hl 0 rfl) ?_
    refine lv_bipush (v := 8) hx hb dX8_restore_26 (by decide) ?_
    refine lv_icmp_ge (tgt := 67) hx hb dX8_restore_28 (by decide) (fun c_28 => ?_) (fun c_28 => ?_)
    · have c_28 := (nI_le_iff (a := 8) (b := i) (by omega) (by omega)).mp c_28
      have hN_25 : i = 8 := by omega
      rw [hN_25] at hbt_25
      rw [hbt_25] at hP
      refine lv_aload_n hx hb dX8_restore_67 rfl (lv_at hl 1 rfl) ?_
      refine f_get X hP (T := TX8) (ci := 8) (k := 86) rfl inX8 rfl 0 (by decide) m_4_174 rfl (v := .int ((lp_X8_restore_25 M L 8) 86 0)) rfl dX8_restore_68 ?_
      refine f_ir X hlk hr (v := ((lp_X8_restore_25 M L 8) 86 0)) rfl hP hS ?_ dX8_restore_71
      unfold a_X8_restore
      (first | rw [if_pos c_4] | rw [if_neg c_4] | rw [if_neg (Bool.eq_false_iff.mp c_4)] | skip)
      (try dsimp only)
      first
        | done
        | exact ⟨rfl, rfl⟩
        | rfl
        | (simp only [c_4, if_true, if_false, and_self, and_true, true_and, not_true_eq_false, not_false_eq_true, and_false, false_and, or_true, true_or, or_false, false_or, or_self, Bool.false_eq_true, reduceCtorEq, nl10, nl20, nl30, nl40, nl50, nl60, nl70, nl12, nl13, nl21, nl23, nl31, nl32]; first | done | exact ⟨rfl, rfl⟩ | rfl)
        | contradiction
        | (simp only [c_4, if_true, if_false, and_self, and_true, true_and, not_true_eq_false, not_false_eq_true, and_false, false_and, or_true, true_or, or_false, false_or, or_self, Bool.false_eq_true, reduceCtorEq, nl10, nl20, nl30, nl40, nl50, nl60, nl70, nl12, nl13, nl21, nl23, nl31, nl32]; contradiction)
        | (exfalso; simp_all; done)
        | simp_all
    · have c_28 := (not_congr (nI_le_iff (a := 8) (b := i) (by omega) (by omega))).mp c_28
      refine lv_aload_n hx hb dX8_restore_31 rfl (lv_at hl 1 rfl) ?_
      refine f_get X hP (T := TX8) (ci := 8) (k := 86) rfl inX8 rfl 21 (by decide) m_4_195 rfl (v := .ref (fad E 100)) rfl dX8_restore_32 ?_
      refine lv_iload_n hx hb dX8_restore_35 rfl (lv_at hl 0 rfl) ?_
      refine f_iald X hP (k := 100) (n := 8) (q := i) rfl rfl (fIx_nI (by omega) (by decide)) dX8_restore_36 ?_
      refine lv_iconst (v := 2) hx hb dX8_restore_37 (by decide) ?_
      refine lv_icmp_ne (tgt := 61) hx hb dX8_restore_38 (by decide) (fun c_38 => ?_) (fun c_38 => ?_)
      · refine lv_iinc (v := (nI (i + 1))) (lv' := [(1, .int (nI (i + 1))), (0, .ref (fad E 86))]) hx hb dX8_restore_61 hl (k := 0) rfl (nI_1 _) (by decide) rfl (fun ls hl => ?_)
        refine lv_goto (tgt := 25) hx hb dX8_restore_64 (by decide) ?_
        exact ih_25 ((i + 1), D) _ _ _ (by show 8 - (i + 1) < 8 - i; omega) ⟨hP, hS, lv_sub hl [0, 1] rfl, (by omega), (by
          rw [lp_X8_restore_25_s, ← hbt_25]
          (try dsimp only)
          (first | rw [if_pos c_38] | rw [if_neg c_38] | rw [if_neg (Bool.eq_false_iff.mp c_38)] | skip)
          first | done | rfl)⟩
      · refine lv_aload_n hx hb dX8_restore_41 rfl (lv_at hl 1 rfl) ?_
        refine f_get X hP (T := TX8) (ci := 8) (k := 86) rfl inX8 rfl 24 (by decide) m_4_198 rfl (v := .ref (fad E 103)) rfl dX8_restore_42 ?_
        refine lv_iload_n hx hb dX8_restore_45 rfl (lv_at hl 0 rfl) ?_
        refine f_iald X hP (k := 103) (n := 8) (q := i) rfl rfl (fIx_nI (by omega) (by decide)) dX8_restore_46 ?_
        refine lv_aload_n hx hb dX8_restore_47 rfl (lv_at hl 1 rfl) ?_
        refine f_get X hP (T := TX8) (ci := 8) (k := 86) rfl inX8 rfl 0 (by decide) m_4_174 rfl (v := .int (D 86 0)) rfl dX8_restore_48 ?_
        refine lv_icmp_lt (tgt := 61) hx hb dX8_restore_51 (by decide) (fun c_51 => ?_) (fun c_51 => ?_)
        · refine lv_iinc (v := (nI (i + 1))) (lv' := [(1, .int (nI (i + 1))), (0, .ref (fad E 86))]) hx hb dX8_restore_61 hl (k := 0) rfl (nI_1 _) (by decide) rfl (fun ls hl => ?_)
          refine lv_goto (tgt := 25) hx hb dX8_restore_64 (by decide) ?_
          exact ih_25 ((i + 1), D) _ _ _ (by show 8 - (i + 1) < 8 - i; omega) ⟨hP, hS, lv_sub hl [0, 1] rfl, (by omega), (by
            rw [lp_X8_restore_25_s, ← hbt_25]
            (try dsimp only)
            (first | rw [if_pos c_38] | rw [if_neg c_38] | rw [if_neg (Bool.eq_false_iff.mp c_38)] | skip)
            (first | rw [if_pos c_51] | rw [if_neg c_51] | rw [if_neg (Bool.eq_false_iff.mp c_51)] | skip)
            first | done | rfl)⟩
        · refine lv_aload_n hx hb dX8_restore_54 rfl (lv_at hl 1 rfl) ?_
          refine f_get X hP (T := TX8) (ci := 8) (k := 86) rfl inX8 rfl 21 (by decide) m_4_195 rfl (v := .ref (fad E 100)) rfl dX8_restore_55 ?_
          refine lv_iload_n hx hb dX8_restore_58 rfl (lv_at hl 0 rfl) ?_
          refine lv_iconst (v := 0) hx hb dX8_restore_59 (by decide) ?_
          refine f_iast X hP hS (k := 100) (n := 8) (q := i) rfl rfl (v := 0) (fIx_nI (by omega) (by decide)) dX8_restore_60 (fun H locs hP hS => ?_)
          refine lv_iinc (v := (nI (i + 1))) (lv' := [(1, .int (nI (i + 1))), (0, .ref (fad E 86))]) hx hb dX8_restore_61 hl (k := 0) rfl (nI_1 _) (by decide) rfl (fun ls hl => ?_)
          refine lv_goto (tgt := 25) hx hb dX8_restore_64 (by decide) ?_
          exact ih_25 ((i + 1), (up2 D 100 i 0)) _ _ _ (by show 8 - (i + 1) < 8 - i; omega) ⟨hP, hS, lv_sub hl [0, 1] rfl, (by omega), (by
            rw [lp_X8_restore_25_s, ← hbt_25]
            (try dsimp only)
            (first | rw [if_pos c_38] | rw [if_neg c_38] | rw [if_neg (Bool.eq_false_iff.mp c_38)] | skip)
            (first | rw [if_pos c_51] | rw [if_neg c_51] | rw [if_neg (Bool.eq_false_iff.mp c_51)] | skip)
            first | done | rfl)⟩
  · refine lv_aload_n hx hb dX8_restore_7 rfl (lv_at hl 0 rfl) ?_
    refine lv_bipush (v := (-6)) hx hb dX8_restore_8 (by decide) ?_
    refine f_iV (n := 1) X hP hS [.int (-6)] [] (c_X8_no l E M L (-6) (by decide)) m_5_84 wi_X8_no rfl rfl (by decide) (by decide +kernel) ⟨Nat.le_of_ble_eq_true rfl, Nat.le_of_ble_eq_true rfl⟩ rfl hl rfl (Nat.le_of_ble_eq_true rfl) ⟨Nat.zero_le _, Nat.zero_le _⟩ dX8_restore_10 (fun H locs hP hS => ?_)
    refine f_ir X hlk hr (v := (-6)) rfl hP hS ?_ dX8_restore_13
    unfold a_X8_restore
    (first | rw [if_pos c_4] | rw [if_neg c_4] | rw [if_neg (Bool.eq_false_iff.mp c_4)] | skip)
    (try dsimp only)
    first
      | done
      | exact ⟨rfl, rfl⟩
      | rfl
      | (simp only [c_4, if_true, if_false, and_self, and_true, true_and, not_true_eq_false, not_false_eq_true, and_false, false_and, or_true, true_or, or_false, false_or, or_self, Bool.false_eq_true, reduceCtorEq, nl10, nl20, nl30, nl40, nl50, nl60, nl70, nl12, nl13, nl21, nl23, nl31, nl32]; first | done | exact ⟨rfl, rfl⟩ | rfl)
      | contradiction
      | (simp only [c_4, if_true, if_false, and_self, and_true, true_and, not_true_eq_false, not_false_eq_true, and_false, false_and, or_true, true_or, or_false, false_or, or_self, Bool.false_eq_true, reduceCtorEq, nl10, nl20, nl30, nl40, nl50, nl60, nl70, nl12, nl13, nl21, nl23, nl31, nl32]; contradiction)
      | (exfalso; simp_all; done)
      | simp_all
