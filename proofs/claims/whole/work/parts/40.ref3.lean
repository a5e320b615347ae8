def a_X8_thing (M : Nat → Nat → Int32) (L : Nat → Nat → Int64) (c1 : Int32) (f : Int32) (l1 : Int32) (n : Int32) (w : Int32) (st : Int32) (a : Int32) (tc : Nat) : fR := (if (0 ≤ c1 ∧ c1 ≤ 9) then (if (0 ≤ f ∧ f ≤ 23) then (if (f ≤ l1 ∧ l1 ≤ 23) then (if (0 ≤ n ∧ n ≤ 9) then (if (0 ≤ w ∧ w ≤ 99) then (if (0 ≤ st ∧ st ≤ 9) then (if (0 ≤ a ∧ a ≤ 20) then (if tc = 8 then ((-7), (noM M (-7)), L) else (((a_X8_addsThing M L c1 f l1 n w st a tc).1), (a_X8_addsThing M L c1 f l1 n w st a tc).2.1, L)) else ((-6), (noM M (-6)), L)) else ((-6), (noM M (-6)), L)) else ((-6), (noM M (-6)), L)) else ((-6), (noM M (-6)), L)) else ((-6), (noM M (-6)), L)) else ((-6), (noM M (-6)), L)) else ((-6), (noM M (-6)), L))
set_option maxHeartbeats 1000000 in
set_option maxRecDepth 100000 in
theorem c_X8_thing (l : Launch) (E : fE) (M : Nat → Nat → Int32) (L : Nat → Nat → Int64) (c1 : Int32) (f : Int32) (l1 : Int32) (n : Int32) (w : Int32) (st : Int32) (a : Int32) (tc : Nat) (htc : M 86 1 = nI tc) (htc8 : tc ≤ 8) : Met l yX8_thing (wl yX8_thing cX8_thing 8 (some .int)) (fRm 1 27) (va_Pc [.ref (fad E 86), .int c1, .int f, .int l1, .int n, .int w, .int st, .int a] (fPre E M L)) (fQi E (fun r u => u = ((a_X8_thing M L c1 f l1 n w st a tc).2.1, L) ∧ r = (a_X8_thing M L c1 f l1 n w st a tc).1)) 0 0 (fA E) := by
  refine f_head (by decide) (Nat.le_of_ble_eq_true rfl) ?_
  intro pg ev s mi below meth cd ls X hr hlk hP hS hl
  have hx := X.1.1
  have hb := X.1.2.1
  have hl : lv_has ls 8 [(0, .ref (fad E 86)), (1, .int c1), (2, .int f), (3, .int l1), (4, .int n), (5, .int w), (6, .int st), (7, .int a)] := hl
  refine lv_aload_n hx hb dX8_thing_0 rfl (lv_at hl 0 rfl) ?_
  refine lv_iload_n hx hb dX8_thing_1 rfl (lv_at hl 1 rfl) ?_
  refine lv_iconst (v := 0) hx hb dX8_thing_2 (by decide) ?_
  refine lv_bipush (v := 9) hx hb dX8_thing_3 (by decide) ?_
  refine f_iV (n := 3) X hP hS [.int c1, .int 0, .int 9] [] (c_X8_isFrom l E M L c1 0 9) m_5_120 wi_X8_isFrom rfl rfl (by decide) (by decide +kernel) ⟨Nat.le_of_ble_eq_true rfl, Nat.le_of_ble_eq_true rfl⟩ rfl hl rfl (Nat.le_of_ble_eq_true rfl) ⟨Nat.zero_le _, Nat.zero_le _⟩ dX8_thing_5 (fun H locs hP hS => ?_)
  refine lv_if_eq (tgt := 45) hx hb dX8_thing_8 (by decide) (fun c_8 => ?_) (fun c_8 => ?_)
  · have c_8 := bI0 c_8
    refine lv_aload_n hx hb dX8_thing_45 rfl (lv_at hl 0 rfl) ?_
    refine lv_bipush (v := (-6)) hx hb dX8_thing_46 (by decide) ?_
    refine f_iV (n := 1) X hP hS [.int (-6)] [] (c_X8_no l E M L (-6) (by decide)) m_5_84 wi_X8_no rfl rfl (by decide) (by decide +kernel) ⟨Nat.le_of_ble_eq_true rfl, Nat.le_of_ble_eq_true rfl⟩ rfl hl rfl (Nat.le_of_ble_eq_true rfl) ⟨Nat.zero_le _, Nat.zero_le _⟩ dX8_thing_48 (fun H locs hP hS => ?_)
    refine f_ir X hlk hr (v := (-6)) rfl hP hS ?_ dX8_thing_51
    unfold a_X8_thing
    (first | rw [if_pos c_8] | rw [if_neg c_8] | rw [if_neg (Bool.eq_false_iff.mp c_8)] | skip)
    (try dsimp only)
    first
      | done
      | exact ⟨rfl, rfl⟩
      | rfl
      | (simp only [c_8, if_true, if_false, and_self, and_true, true_and, not_true_eq_false, not_false_eq_true, and_false, false_and, or_true, true_or, or_false, false_or, or_self, Bool.false_eq_true, reduceCtorEq, nl10, nl20, nl30, nl40, nl50, nl60, nl70, nl12, nl13, nl21, nl23, nl31, nl32]; first | done | exact ⟨rfl, rfl⟩ | rfl)
      | contradiction
      | (simp only [c_8, if_true, if_false, and_self, and_true, true_and, not_true_eq_false, not_false_eq_true, and_false, false_and, or_true, true_or, or_false, false_or, or_self, Bool.false_eq_true, reduceCtorEq, nl10, nl20, nl30, nl40, nl50, nl60, nl70, nl12, nl13, nl21, nl23, nl31, nl32]; contradiction)
      | (exfalso; simp_all; done)
      | simp_all
  · have c_8 := bI1 c_8
    refine lv_aload_n hx hb dX8_thing_11 rfl (lv_at hl 0 rfl) ?_
    refine lv_iload_n hx hb dX8_thing_12 rfl (lv_at hl 2 rfl) ?_
    refine lv_iconst (v := 0) hx hb dX8_thing_13 (by decide) ?_
    refine lv_bipush (v := 23) hx hb dX8_thing_14 (by decide) ?_
    refine f_iV (n := 3) X hP hS [.int f, .int 0, .int 23] [] (c_X8_isFrom l E M L f 0 23) m_5_120 wi_X8_isFrom rfl rfl (by decide) (by decide +kernel) ⟨Nat.le_of_ble_eq_true rfl, Nat.le_of_ble_eq_true rfl⟩ rfl hl rfl (Nat.le_of_ble_eq_true rfl) ⟨Nat.zero_le _, Nat.zero_le _⟩ dX8_thing_16 (fun H locs hP hS => ?_)
    refine lv_if_eq (tgt := 45) hx hb dX8_thing_19 (by decide) (fun c_19 => ?_) (fun c_19 => ?_)
    · have c_19 := bI0 c_19
      refine lv_aload_n hx hb dX8_thing_45 rfl (lv_at hl 0 rfl) ?_
      refine lv_bipush (v := (-6)) hx hb dX8_thing_46 (by decide) ?_
      refine f_iV (n := 1) X hP hS [.int (-6)] [] (c_X8_no l E M L (-6) (by decide)) m_5_84 wi_X8_no rfl rfl (by decide) (by decide +kernel) ⟨Nat.le_of_ble_eq_true rfl, Nat.le_of_ble_eq_true rfl⟩ rfl hl rfl (Nat.le_of_ble_eq_true rfl) ⟨Nat.zero_le _, Nat.zero_le _⟩ dX8_thing_48 (fun H locs hP hS => ?_)
      refine f_ir X hlk hr (v := (-6)) rfl hP hS ?_ dX8_thing_51
      unfold a_X8_thing
      (first | rw [if_pos c_8] | rw [if_neg c_8] | rw [if_neg (Bool.eq_false_iff.mp c_8)] | skip)
      (first | rw [if_pos c_19] | rw [if_neg c_19] | rw [if_neg (Bool.eq_false_iff.mp c_19)] | skip)
      (try dsimp only)
      first
        | done
        | exact ⟨rfl, rfl⟩
        | rfl
        | (simp only [c_8, c_19, if_true, if_false, and_self, and_true, true_and, not_true_eq_false, not_false_eq_true, and_false, false_and, or_true, true_or, or_false, false_or, or_self, Bool.false_eq_true, reduceCtorEq, nl10, nl20, nl30, nl40, nl50, nl60, nl70, nl12, nl13, nl21, nl23, nl31, nl32]; first | done | exact ⟨rfl, rfl⟩ | rfl)
        | contradiction
        | (simp only [c_8, c_19, if_true, if_false, and_self, and_true, true_and, not_true_eq_false, not_false_eq_true, and_false, false_and, or_true, true_or, or_false, false_or, or_self, Bool.false_eq_true, reduceCtorEq, nl10, nl20, nl30, nl40, nl50, nl60, nl70, nl12, nl13, nl21, nl23, nl31, nl32]; contradiction)
        | (exfalso; simp_all; done)
        | simp_all
    · have c_19 := bI1 c_19
      refine lv_aload_n hx hb dX8_thing_22 rfl (lv_at hl 0 rfl) ?_
      refine lv_iload_n hx hb dX8_thing_23 rfl (lv_at hl 3 rfl) ?_
      refine lv_iload_n hx hb dX8_thing_24 rfl (lv_at hl 2 rfl) ?_
      refine lv_bipush (v := 23) hx hb dX8_thing_25 (by decide) ?_
      refine f_iV (n := 3) X hP hS [.int l1, .int f, .int 23] [] (c_X8_isFrom l E M L l1 f 23) m_5_120 wi_X8_isFrom rfl rfl (by decide) (by decide +kernel) ⟨Nat.le_of_ble_eq_true rfl, Nat.le_of_ble_eq_true rfl⟩ rfl hl rfl (Nat.le_of_ble_eq_true rfl) ⟨Nat.zero_le _, Nat.zero_le _⟩ dX8_thing_27 (fun H locs hP hS => ?_)
      refine lv_if_eq (tgt := 45) hx hb dX8_thing_30 (by decide) (fun c_30 => ?_) (fun c_30 => ?_)
      · have c_30 := bI0 c_30
        refine lv_aload_n hx hb dX8_thing_45 rfl (lv_at hl 0 rfl) ?_
        refine lv_bipush (v := (-6)) hx hb dX8_thing_46 (by decide) ?_
        refine f_iV (n := 1) X hP hS [.int (-6)] [] (c_X8_no l E M L (-6) (by decide)) m_5_84 wi_X8_no rfl rfl (by decide) (by decide +kernel) ⟨Nat.le_of_ble_eq_true rfl, Nat.le_of_ble_eq_true rfl⟩ rfl hl rfl (Nat.le_of_ble_eq_true rfl) ⟨Nat.zero_le _, Nat.zero_le _⟩ dX8_thing_48 (fun H locs hP hS => ?_)
        refine f_ir X hlk hr (v := (-6)) rfl hP hS ?_ dX8_thing_51
        unfold a_X8_thing
        (first | rw [if_pos c_8] | rw [if_neg c_8] | rw [if_neg (Bool.eq_false_iff.mp c_8)] | skip)
        (first | rw [if_pos c_19] | rw [if_neg c_19] | rw [if_neg (Bool.eq_false_iff.mp c_19)] | skip)
        (first | rw [if_pos c_30] | rw [if_neg c_30] | rw [if_neg (Bool.eq_false_iff.mp c_30)] | skip)
        (try dsimp only)
        first
          | done
          | exact ⟨rfl, rfl⟩
          | rfl
          | (simp only [c_8, c_19, c_30, if_true, if_false, and_self, and_true, true_and, not_true_eq_false, not_false_eq_true, and_false, false_and, or_true, true_or, or_false, false_or, or_self, Bool.false_eq_true, reduceCtorEq, nl10, nl20, nl30, nl40, nl50, nl60, nl70, nl12, nl13, nl21, nl23, nl31, nl32]; first | done | exact ⟨rfl, rfl⟩ | rfl)
          | contradiction
          | (simp only [c_8, c_19, c_30, if_true, if_false, and_self, and_true, true_and, not_true_eq_false, not_false_eq_true, and_false, false_and, or_true, true_or, or_false, false_or, or_self, Bool.false_eq_true, reduceCtorEq, nl10, nl20, nl30, nl40, nl50, nl60, nl70, nl12, nl13, nl21, nl23, nl31, nl32]; contradiction)
          | (exfalso; simp_all; done)
          | simp_all
      · have c_30 := bI1 c_30
        refine lv_aload_n hx hb dX8_thing_33 rfl (lv_at hl 0 rfl) ?_
        refine lv_iload hx hb dX8_thing_34 (lv_at hl 4 rfl) ?_
        refine lv_iconst (v := 0) hx hb dX8_thing_36 (by decide) ?_
        refine lv_bipush (v := 9) hx hb dX8_thing_37 (by decide) ?_
        refine f_iV (n := 3) X hP hS [.int n, .int 0, .int 9] [] (c_X8_isFrom l E M L n 0 9) m_5_120 wi_X8_isFrom rfl rfl (by decide) (by decide +kernel) ⟨Nat.le_of_ble_eq_true rfl, Nat.le_of_ble_eq_true rfl⟩ rfl hl rfl (Nat.le_of_ble_eq_true rfl) ⟨Nat.zero_le _, Nat.zero_le _⟩ dX8_thing_39 (fun H locs hP hS => ?_)
        refine lv_if_ne (tgt := 52) hx hb dX8_thing_42 (by decide) (fun c_42 => ?_) (fun c_42 => ?_)
        · have c_42 := bI1 c_42
          refine lv_aload_n hx hb dX8_thing_52 rfl (lv_at hl 0 rfl) ?_
          refine lv_iload hx hb dX8_thing_53 (lv_at hl 5 rfl) ?_
          refine lv_iconst (v := 0) hx hb dX8_thing_55 (by decide) ?_
          refine lv_bipush (v := 99) hx hb dX8_thing_56 (by decide) ?_
          refine f_iV (n := 3) X hP hS [.int w, .int 0, .int 99] [] (c_X8_isFrom l E M L w 0 99) m_5_120 wi_X8_isFrom rfl rfl (by decide) (by decide +kernel) ⟨Nat.le_of_ble_eq_true rfl, Nat.le_of_ble_eq_true rfl⟩ rfl hl rfl (Nat.le_of_ble_eq_true rfl) ⟨Nat.zero_le _, Nat.zero_le _⟩ dX8_thing_58 (fun H locs hP hS => ?_)
          refine lv_if_eq (tgt := 88) hx hb dX8_thing_61 (by decide) (fun c_61 => ?_) (fun c_61 => ?_)
          · have c_61 := bI0 c_61
            refine lv_aload_n hx hb dX8_thing_88 rfl (lv_at hl 0 rfl) ?_
            refine lv_bipush (v := (-6)) hx hb dX8_thing_89 (by decide) ?_
            refine f_iV (n := 1) X hP hS [.int (-6)] [] (c_X8_no l E M L (-6) (by decide)) m_5_84 wi_X8_no rfl rfl (by decide) (by decide +kernel) ⟨Nat.le_of_ble_eq_true rfl, Nat.le_of_ble_eq_true rfl⟩ rfl hl rfl (Nat.le_of_ble_eq_true rfl) ⟨Nat.zero_le _, Nat.zero_le _⟩ dX8_thing_91 (fun H locs hP hS => ?_)
            refine f_ir X hlk hr (v := (-6)) rfl hP hS ?_ dX8_thing_94
            unfold a_X8_thing
            (first | rw [if_pos c_8] | rw [if_neg c_8] | rw [if_neg (Bool.eq_false_iff.mp c_8)] | skip)
            (first | rw [if_pos c_19] | rw [if_neg c_19] | rw [if_neg (Bool.eq_false_iff.mp c_19)] | skip)
            (first | rw [if_pos c_30] | rw [if_neg c_30] | rw [if_neg (Bool.eq_false_iff.mp c_30)] | skip)
            (first | rw [if_pos c_42] | rw [if_neg c_42] | rw [if_neg (Bool.eq_false_iff.mp c_42)] | skip)
            (first | rw [if_pos c_61] | rw [if_neg c_61] | rw [if_neg (Bool.eq_false_iff.mp c_61)] | skip)
            (try dsimp only)
            first
              | done
              | exact ⟨rfl, rfl⟩
              | rfl
              | (simp only [c_8, c_19, c_30, c_42, c_61, if_true, if_false, and_self, and_true, true_and, not_true_eq_false, not_false_eq_true, and_false, false_and, or_true, true_or, or_false, false_or, or_self, Bool.false_eq_true, reduceCtorEq, nl10, nl20, nl30, nl40, nl50, nl60, nl70, nl12, nl13, nl21, nl23, nl31, nl32]; first | done | exact ⟨rfl, rfl⟩ | rfl)
              | contradiction
              | (simp only [c_8, c_19, c_30, c_42, c_61, if_true, if_false, and_self, and_true, true_and, not_true_eq_false, not_false_eq_true, and_false, false_and, or_true, true_or, or_false, false_or, or_self, Bool.false_eq_true, reduceCtorEq, nl10, nl20, nl30, nl40, nl50, nl60, nl70, nl12, nl13, nl21, nl23, nl31, nl32]; contradiction)
              | (exfalso; simp_all; done)
              | simp_all
          · have c_61 := bI1 c_61
            refine lv_aload_n hx hb dX8_thing_64 rfl (lv_at hl 0 rfl) ?_
            refine lv_iload hx hb dX8_thing_65 (lv_at hl 6 rfl) ?_
            refine lv_iconst (v := 0) hx hb dX8_thing_67 (by decide) ?_
            refine lv_bipush (v := 9) hx hb dX8_thing_68 (by decide) ?_
            refine f_iV (n := 3) X hP hS [.int st, .int 0, .int 9] [] (c_X8_isFrom l E M L st 0 9) m_5_120 wi_X8_isFrom rfl rfl (by decide) (by decide +kernel) ⟨Nat.le_of_ble_eq_true rfl, Nat.le_of_ble_eq_true rfl⟩ rfl hl rfl (Nat.le_of_ble_eq_true rfl) ⟨Nat.zero_le _, Nat.zero_le _⟩ dX8_thing_70 (fun H locs hP hS => ?_)
            refine lv_if_eq (tgt := 88) hx hb dX8_thing_73 (by decide) (fun c_73 => ?_) (fun c_73 => ?_)
            · have c_73 := bI0 c_73
              refine lv_aload_n hx hb dX8_thing_88 rfl (lv_at hl 0 rfl) ?_
              refine lv_bipush (v := (-6)) hx hb dX8_thing_89 (by decide) ?_
              refine f_iV (n := 1) X hP hS [.int (-6)] [] (c_X8_no l E M L (-6) (by decide)) m_5_84 wi_X8_no rfl rfl (by decide) (by decide +kernel) ⟨Nat.le_of_ble_eq_true rfl, Nat.le_of_ble_eq_true rfl⟩ rfl hl rfl (Nat.le_of_ble_eq_true rfl) ⟨Nat.zero_le _, Nat.zero_le _⟩ dX8_thing_91 (fun H locs hP hS => ?_)
              refine f_ir X hlk hr (v := (-6)) rfl hP hS ?_ dX8_thing_94
              unfold a_X8_thing
              (first | rw [if_pos c_8] | rw [if_neg c_8] | rw [if_neg (Bool.eq_false_iff.mp c_8)] | skip)
              (first | rw [if_pos c_19] | rw [if_neg c_19] | rw [if_neg (Bool.eq_false_iff.mp c_19)] | skip)
              (first | rw [if_pos c_30] | rw [if_neg c_30] | rw [if_neg (Bool.eq_false_iff.mp c_30)] | skip)
              (first | rw [if_pos c_42] | rw [if_neg c_42] | rw [if_neg (Bool.eq_false_iff.mp c_42)] | skip)
              (first | rw [if_pos c_61] | rw [if_neg c_61] | rw [if_neg (Bool.eq_false_iff.mp c_61)] | skip)
              (first | rw [if_pos c_73] | rw [if_neg c_73] | rw [if_neg (Bool.eq_false_iff.mp c_73)] | skip)
              (try dsimp only)
              first
                | done
                | exact ⟨rfl, rfl⟩
                | rfl
                | (simp only [c_8, c_19, c_30, c_42, c_61, c_73, if_true, if_false, and_self, and_true, true_and, not_true_eq_false, not_false_eq_true, and_false, false_and, or_true, true_or, or_false, false_or, or_self, Bool.false_eq_true, reduceCtorEq, nl10, nl20, nl30, nl40, nl50, nl60, nl70, nl12, nl13, nl21, nl23, nl31, nl32]; first | done | exact ⟨rfl, rfl⟩ | rfl)
                | contradiction
                | (simp only [c_8, c_19, c_30, c_42, c_61, c_73, if_true, if_false, and_self, and_true, true_and, not_true_eq_false, not_false_eq_true, and_false, false_and, or_true, true_or, or_false, false_or, or_self, Bool.false_eq_true, reduceCtorEq, nl10, nl20, nl30, nl40, nl50, nl60, nl70, nl12, nl13, nl21, nl23, nl31, nl32]; contradiction)
                | (exfalso; simp_all; done)
                | simp_all
            · have c_73 := bI1 c_73
              refine lv_aload_n hx hb dX8_thing_76 rfl (lv_at hl 0 rfl) ?_
              refine lv_iload hx hb dX8_thing_77 (lv_at hl 7 rfl) ?_
              refine lv_iconst (v := 0) hx hb dX8_thing_79 (by decide) ?_
              refine lv_bipush (v := 20) hx hb dX8_thing_80 (by decide) ?_
              refine f_iV (n := 3) X hP hS [.int a, .int 0, .int 20] [] (c_X8_isFrom l E M L a 0 20) m_5_120 wi_X8_isFrom rfl rfl (by decide) (by decide +kernel) ⟨Nat.le_of_ble_eq_true rfl, Nat.le_of_ble_eq_true rfl⟩ rfl hl rfl (Nat.le_of_ble_eq_true rfl) ⟨Nat.zero_le _, Nat.zero_le _⟩ dX8_thing_82 (fun H locs hP hS => ?_)
              refine lv_if_ne (tgt := 95) hx hb dX8_thing_85 (by decide) (fun c_85 => ?_) (fun c_85 => ?_)
              · have c_85 := bI1 c_85
                refine lv_aload_n hx hb dX8_thing_95 rfl (lv_at hl 0 rfl) ?_
                refine f_get X hP (T := TX8) (ci := 8) (k := 86) rfl inX8 rfl 1 (by decide) m_4_175 rfl (v := .int (nI tc)) (congrArg Value.int htc) dX8_thing_96 ?_
                refine lv_bipush (v := 8) hx hb dX8_thing_99 (by decide) ?_
                refine lv_icmp_ne (tgt := 113) hx hb dX8_thing_101 (by decide) (fun c_101 => ?_) (fun c_101 => ?_)
                · have c_101 := (not_congr (nI_eq (a := tc) (b := 8) (by omega) (by omega))).mp c_101
                  refine lv_aload_n hx hb dX8_thing_113 rfl (lv_at hl 0 rfl) ?_
                  refine lv_iload_n hx hb dX8_thing_114 rfl (lv_at hl 1 rfl) ?_
                  refine lv_iload_n hx hb dX8_thing_115 rfl (lv_at hl 2 rfl) ?_
                  refine lv_iload_n hx hb dX8_thing_116 rfl (lv_at hl 3 rfl) ?_
                  refine lv_iload hx hb dX8_thing_117 (lv_at hl 4 rfl) ?_
                  refine lv_iload hx hb dX8_thing_119 (lv_at hl 5 rfl) ?_
                  refine lv_iload hx hb dX8_thing_121 (lv_at hl 6 rfl) ?_
                  refine lv_iload hx hb dX8_thing_123 (lv_at hl 7 rfl) ?_
                  refine f_iV (n := 7) X hP hS [.int c1, .int f, .int l1, .int n, .int w, .int st, .int a] [] (c_X8_addsThing l E M L c1 f l1 n w st a tc htc (by omega)) m_5_124 wi_X8_addsThing rfl rfl (by decide) (by decide +kernel) ⟨Nat.le_of_ble_eq_true rfl, Nat.le_of_ble_eq_true rfl⟩ rfl hl rfl (Nat.le_of_ble_eq_true rfl) ⟨Nat.zero_le _, Nat.zero_le _⟩ dX8_thing_125 (fun H locs hP hS => ?_)
                  refine f_ir X hlk hr (v := ((a_X8_addsThing M L c1 f l1 n w st a tc).1)) rfl hP hS ?_ dX8_thing_128
                  unfold a_X8_thing
                  (first | rw [if_pos c_8] | rw [if_neg c_8] | rw [if_neg (Bool.eq_false_iff.mp c_8)] | skip)
                  (first | rw [if_pos c_19] | rw [if_neg c_19] | rw [if_neg (Bool.eq_false_iff.mp c_19)] | skip)
                  (first | rw [if_pos c_30] | rw [if_neg c_30] | rw [if_neg (Bool.eq_false_iff.mp c_30)] | skip)
                  (first | rw [if_pos c_42] | rw [if_neg c_42] | rw [if_neg (Bool.eq_false_iff.mp c_42)] | skip)
                  (first | rw [if_pos c_61] | rw [if_neg c_61] | rw [if_neg (Bool.eq_false_iff.mp c_61)] | skip)
                  (first | rw [if_pos c_73] | rw [if_neg c_73] | rw [if_neg (Bool.eq_false_iff.mp c_73)] | skip)
                  (first | rw [if_pos c_85] | rw [if_neg c_85] | rw [if_neg (Bool.eq_false_iff.mp c_85)] | skip)
                  (first | rw [if_pos c_101] | rw [if_neg c_101] | rw [if_neg (Bool.eq_false_iff.mp c_101)] | skip)
                  (try dsimp only)
                  first
                    | done
                    | exact ⟨rfl, rfl⟩
                    | rfl
                    | (simp only [c_8, c_19, c_30, c_42, c_61, c_73, c_85, c_101, if_true, if_false, and_self, and_true, true_and, not_true_eq_false, not_false_eq_true, and_false, false_and, or_true, true_or, or_false, false_or, or_self, Bool.false_eq_true, reduceCtorEq, nl10, nl20, nl30, nl40, nl50, nl60, nl70, nl12, nl13, nl21, nl23, nl31, nl32]; first | done | exact ⟨rfl, rfl⟩ | rfl)
                    | contradiction
                    | (simp only [c_8, c_19, c_30, c_42, c_61, c_73, c_85, c_101, if_true, if_false, and_self, and_true, true_and, not_true_eq_false, not_false_eq_true, and_false, false_and, or_true, true_or, or_false, false_or, or_self, Bool.false_eq_true, reduceCtorEq, nl10, nl20, nl30, nl40, nl50, nl60, nl70, nl12, nl13, nl21, nl23, nl31, nl32]; contradiction)
                    | (exfalso; simp_all; done)
                    | simp_all
                · have c_101 := (nI_eq (a := tc) (b := 8) (by omega) (by omega)).mp c_101
                  refine lv_aload_n hx hb dX8_thing_104 rfl (lv_at hl 0 rfl) ?_
                  refine lv_bipush (v := (-7)) hx hb dX8_thing_105 (by decide) ?_
                  refine f_iV (n := 1) X hP hS [.int (-7)] [] (c_X8_no l E M L (-7) (by decide)) m_5_84 wi_X8_no rfl rfl (by decide) (by decide +kernel) ⟨Nat.le_of_ble_eq_true rfl, Nat.le_of_ble_eq_true rfl⟩ rfl hl rfl (Nat.le_of_ble_eq_true rfl) ⟨Nat.zero_le _, Nat.zero_le _⟩ dX8_thing_107 (fun H locs hP hS => ?_)
                  refine lv_goto (tgt := 128) hx hb dX8_thing_110 (by decide) ?_
                  refine f_ir X hlk hr (v := (-7)) rfl hP hS ?_ dX8_thing_128
                  unfold a_X8_thing
                  (first | rw [if_pos c_8] | rw [if_neg c_8] | rw [if_neg (Bool.eq_false_iff.mp c_8)] | skip)
                  (first | rw [if_pos c_19] | rw [if_neg c_19] | rw [if_neg (Bool.eq_false_iff.mp c_19)] | skip)
                  (first | rw [if_pos c_30] | rw [if_neg c_30] | rw [if_neg (Bool.eq_false_iff.mp c_30)] | skip)
                  (first | rw [if_pos c_42] | rw [if_neg c_42] | rw [if_neg (Bool.eq_false_iff.mp c_42)] | skip)
                  (first | rw [if_pos c_61] | rw [if_neg c_61] | rw [if_neg (Bool.eq_false_iff.mp c_61)] | skip)
                  (first | rw [if_pos c_73] | rw [if_neg c_73] | rw [if_neg (Bool.eq_false_iff.mp c_73)] | skip)
                  (first | rw [if_pos c_85] | rw [if_neg c_85] | rw [if_neg (Bool.eq_false_iff.mp c_85)] | skip)
                  (first | rw [if_pos c_101] | rw [if_neg c_101] | rw [if_neg (Bool.eq_false_iff.mp c_101)] | skip)
                  (try dsimp only)
                  first
                    | done
                    | exact ⟨rfl, rfl⟩
                    | rfl
                    | (simp only [c_8, c_19, c_30, c_42, c_61, c_73, c_85, c_101, if_true, if_false, and_self, and_true, true_and, not_true_eq_false, not_false_eq_true, and_false, false_and, or_true, true_or, or_false, false_or, or_self, Bool.false_eq_true, reduceCtorEq, nl10, nl20, nl30, nl40, nl50, nl60, nl70, nl12, nl13, nl21, nl23, nl31, nl32]; first | done | exact ⟨rfl, rfl⟩ | rfl)
                    | contradiction
                    | (simp only [c_8, c_19, c_30, c_42, c_61, c_73, c_85, c_101, if_true, if_false, and_self, and_true, true_and, not_true_eq_false, not_false_eq_true, and_false, false_and, or_true, true_or, or_false, false_or, or_self, Bool.false_eq_true, reduceCtorEq, nl10, nl20, nl30, nl40, nl50, nl60, nl70, nl12, nl13, nl21, nl23, nl31, nl32]; contradiction)
                    | (exfalso; simp_all; done)
                    | simp_all
              · have c_85 := bI0 c_85
                refine lv_aload_n hx hb dX8_thing_88 rfl (lv_at hl 0 rfl) ?_
                refine lv_bipush (v := (-6)) hx hb dX8_thing_89 (by decide) ?_
                refine f_iV (n := 1) X hP hS [.int (-6)] [] (c_X8_no l E M L (-6) (by decide)) m_5_84 wi_X8_no rfl rfl (by decide) (by decide +kernel) ⟨Nat.le_of_ble_eq_true rfl, Nat.le_of_ble_eq_true rfl⟩ rfl hl rfl (Nat.le_of_ble_eq_true rfl) ⟨Nat.zero_le _, Nat.zero_le _⟩ dX8_thing_91 (fun H locs hP hS => ?_)
                refine f_ir X hlk hr (v := (-6)) rfl hP hS ?_ dX8_thing_94
                unfold a_X8_thing
                (first | rw [if_pos c_8] | rw [if_neg c_8] | rw [if_neg (Bool.eq_false_iff.mp c_8)] | skip)
                (first | rw [if_pos c_19] | rw [if_neg c_19] | rw [if_neg (Bool.eq_false_iff.mp c_19)] | skip)
                (first | rw [if_pos c_30] | rw [if_neg c_30] | rw [if_neg (Bool.eq_false_iff.mp c_30)] | skip)
                (first | rw [if_pos c_42] | rw [if_neg c_42] | rw [if_neg (Bool.eq_false_iff.mp c_42)] | skip)
                (first | rw [if_pos c_61] | rw [if_neg c_61] | rw [if_neg (Bool.eq_false_iff.mp c_61)] | skip)
                (first | rw [if_pos c_73] | rw [if_neg c_73] | rw [if_neg (Bool.eq_false_iff.mp c_73)] | skip)
                (first | rw [if_pos c_85] | rw [if_neg c_85] | rw [if_neg (Bool.eq_false_iff.mp c_85)] | skip)
                (try dsimp only)
                first
                  | done
                  | exact ⟨rfl, rfl⟩
                  | rfl
                  | (simp only [c_8, c_19, c_30, c_42, c_61, c_73, c_85, if_true, if_false, and_self, and_true, true_and, not_true_eq_false, not_false_eq_true, and_false, false_and, or_true, true_or, or_false, false_or, or_self, Bool.false_eq_true, reduceCtorEq, nl10, nl20, nl30, nl40, nl50, nl60, nl70, nl12, nl13, nl21, nl23, nl31, nl32]; first | done | exact ⟨rfl, rfl⟩ | rfl)
                  | contradiction
                  | (simp only [c_8, c_19, c_30, c_42, c_61, c_73, c_85, if_true, if_false, and_self, and_true, true_and, not_true_eq_false, not_false_eq_true, and_false, false_and, or_true, true_or, or_false, false_or, or_self, Bool.false_eq_true, reduceCtorEq, nl10, nl20, nl30, nl40, nl50, nl60, nl70, nl12, nl13, nl21, nl23, nl31, nl32]; contradiction)
                  | (exfalso; simp_all; done)
                  | simp_all
        · have c_42 := bI0 c_42
          refine lv_aload_n hx hb dX8_thing_45 rfl (lv_at hl 0 rfl) ?_
          refine lv_bipush (v := (-6)) hx hb dX8_thing_46 (by decide) ?_
          refine f_iV (n := 1) X hP hS [.int (-6)] [] (c_X8_no l E M L (-6) (by decide)) m_5_84 wi_X8_no rfl rfl (by decide) (by decide +kernel) ⟨Nat.le_of_ble_eq_true rfl, Nat.le_of_ble_eq_true rfl⟩ rfl hl rfl (Nat.le_of_ble_eq_true rfl) ⟨Nat.zero_le _, Nat.zero_le _⟩ dX8_thing_48 (fun H locs hP hS => ?_)
          refine f_ir X hlk hr (v := (-6)) rfl hP hS ?_ dX8_thing_51
          unfold a_X8_thing
          (first | rw [if_pos c_8] | rw [if_neg c_8] | rw [if_neg (Bool.eq_false_iff.mp c_8)] | skip)
          (first | rw [if_pos c_19] | rw [if_neg c_19] | rw [if_neg (Bool.eq_false_iff.mp c_19)] | skip)
          (first | rw [if_pos c_30] | rw [if_neg c_30] | rw [if_neg (Bool.eq_false_iff.mp c_30)] | skip)
          (first | rw [if_pos c_42] | rw [if_neg c_42] | rw [if_neg (Bool.eq_false_iff.mp c_42)] | skip)
          (try dsimp only)
          first
            | done
            | exact ⟨rfl, rfl⟩
            | rfl
            | (simp only [c_8, c_19, c_30, c_42, if_true, if_false, and_self, and_true, true_and, not_true_eq_false, not_false_eq_true, and_false, false_and, or_true, true_or, or_false, false_or, or_self, Bool.false_eq_true, reduceCtorEq, nl10, nl20, nl30, nl40, nl50, nl60, nl70, nl12, nl13, nl21, nl23, nl31, nl32]; first | done | exact ⟨rfl, rfl⟩ | rfl)
            | contradiction
            | (simp only [c_8, c_19, c_30, c_42, if_true, if_false, and_self, and_true, true_and, not_true_eq_false, not_false_eq_true, and_false, false_and, or_true, true_or, or_false, false_or, or_self, Bool.false_eq_true, reduceCtorEq, nl10, nl20, nl30, nl40, nl50, nl60, nl70, nl12, nl13, nl21, nl23, nl31, nl32]; contradiction)
            | (exfalso; simp_all; done)
            | simp_all

def a_X8_waiter (M : Nat → Nat → Int32) (L : Nat → Nat → Int64) (k : Int32) (a : Int32) (p1 : Int32) (q1 : Int32) (c1 : Int32) (wc : Nat) : fR := (if k < 0 then ((-1), (noM M (-1)), L) else (if k ≤ 6 then (if (0 ≤ a ∧ a ≤ 9) then (if (1 ≤ p1 ∧ p1 ≤ 9) then (if (1 ≤ q1 ∧ q1 ≤ 24) then (if (0 ≤ c1 ∧ c1 ≤ 9) then (if wc = 6 then ((-7), (noM M (-7)), L) else (((a_X8_addsWaiter M L k a p1 q1 c1 wc).1), (a_X8_addsWaiter M L k a p1 q1 c1 wc).2.1, L)) else ((-6), (noM M (-6)), L)) else ((-6), (noM M (-6)), L)) else ((-6), (noM M (-6)), L)) else ((-6), (noM M (-6)), L)) else ((-1), (noM M (-1)), L)))
set_option maxHeartbeats 1000000 in
set_option maxRecDepth 100000 in
theorem c_X8_waiter (l : Launch) (E : fE) (M : Nat → Nat → Int32) (L : Nat → Nat → Int64) (k : Int32) (a : Int32) (p1 : Int32) (q1 : Int32) (c1 : Int32) (wc : Nat) (hwc : M 86 0 = nI wc) (hwc6 : wc ≤ 6) : Met l yX8_waiter (wl yX8_waiter cX8_waiter 6 (some .int)) (fRm 1 25) (va_Pc [.ref (fad E 86), .int k, .int a, .int p1, .int q1, .int c1] (fPre E M L)) (fQi E (fun r u => u = ((a_X8_waiter M L k a p1 q1 c1 wc).2.1, L) ∧ r = (a_X8_waiter M L k a p1 q1 c1 wc).1)) 0 0 (fA E) := by
  refine f_head (by decide) (Nat.le_of_ble_eq_true rfl) ?_
  intro pg ev s mi below meth cd ls X hr hlk hP hS hl
  have hx := X.1.1
  have hb := X.1.2.1
  have hl : lv_has ls 6 [(0, .ref (fad E 86)), (1, .int k), (2, .int a), (3, .int p1), (4, .int q1), (5, .int c1)] := hl
  refine lv_iload_n hx hb dX8_waiter_0 rfl (lv_at hl 1 rfl) ?_
  refine lv_if_lt (tgt := 10) hx hb dX8_waiter_1 (by decide) (fun c_1 => ?_) (fun c_1 => ?_)
  · refine lv_aload_n hx hb dX8_waiter_10 rfl (lv_at hl 0 rfl) ?_
    refine lv_iconst (v := (-1)) hx hb dX8_waiter_11 (by decide) ?_
    refine f_iV (n := 1) X hP hS [.int (-1)] [] (c_X8_no l E M L (-1) (by decide)) m_5_84 wi_X8_no rfl rfl (by decide) (by decide +kernel) ⟨Nat.le_of_ble_eq_true rfl, Nat.le_of_ble_eq_true rfl⟩ rfl hl rfl (Nat.le_of_ble_eq_true rfl) ⟨Nat.zero_le _, Nat.zero_le _⟩ dX8_waiter_12 (fun H locs hP hS => ?_)
    refine f_ir X hlk hr (v := (-1)) rfl hP hS ?_ dX8_waiter_15
    unfold a_X8_waiter
    (first | rw [if_pos c_1] | rw [if_neg c_1] | rw [if_neg (Bool.eq_false_iff.mp c_1)] | skip)
    (try dsimp only)
    first
      | done
      | exact ⟨rfl, rfl⟩
      | rfl
      | (simp only [c_1, if_true, if_false, and_self, and_true, true_and, not_true_eq_false, not_false_eq_true, and_false, false_and, or_true, true_or, or_false, false_or, or_self, Bool.false_eq_true, reduceCtorEq, nl10, nl20, nl30, nl40, nl50, nl60, nl70, nl12, nl13, nl21, nl23, nl31, nl32]; first | done | exact ⟨rfl, rfl⟩ | rfl)
      | contradiction
      | (simp only [c_1, if_true, if_false, and_self, and_true, true_and, not_true_eq_false, not_false_eq_true, and_false, false_and, or_true, true_or, or_false, false_or, or_self, Bool.false_eq_true, reduceCtorEq, nl10, nl20, nl30, nl40, nl50, nl60, nl70, nl12, nl13, nl21, nl23, nl31, nl32]; contradiction)
      | (exfalso; simp_all; done)
      | simp_all
  · refine lv_iload_n hx hb dX8_waiter_4 rfl (lv_at hl 1 rfl) ?_
    refine lv_bipush (v := 6) hx hb dX8_waiter_5 (by decide) ?_
    refine lv_icmp_le (tgt := 16) hx hb dX8_waiter_7 (by decide) (fun c_7 => ?_) (fun c_7 => ?_)
    · refine lv_aload_n hx hb dX8_waiter_16 rfl (lv_at hl 0 rfl) ?_
      refine lv_iload_n hx hb dX8_waiter_17 rfl (lv_at hl 2 rfl) ?_
      refine lv_iconst (v := 0) hx hb dX8_waiter_18 (by decide) ?_
      refine lv_bipush (v := 9) hx hb dX8_waiter_19 (by decide) ?_
      refine f_iV (n := 3) X hP hS [.int a, .int 0, .int 9] [] (c_X8_isFrom l E M L a 0 9) m_5_120 wi_X8_isFrom rfl rfl (by decide) (by decide +kernel) ⟨Nat.le_of_ble_eq_true rfl, Nat.le_of_ble_eq_true rfl⟩ rfl hl rfl (Nat.le_of_ble_eq_true rfl) ⟨Nat.zero_le _, Nat.zero_le _⟩ dX8_waiter_21 (fun H locs hP hS => ?_)
      refine lv_if_eq (tgt := 62) hx hb dX8_waiter_24 (by decide) (fun c_24 => ?_) (fun c_24 => ?_)
      · have c_24 := bI0 c_24
        refine lv_aload_n hx hb dX8_waiter_62 rfl (lv_at hl 0 rfl) ?_
        refine lv_bipush (v := (-6)) hx hb dX8_waiter_63 (by decide) ?_
        refine f_iV (n := 1) X hP hS [.int (-6)] [] (c_X8_no l E M L (-6) (by decide)) m_5_84 wi_X8_no rfl rfl (by decide) (by decide +kernel) ⟨Nat.le_of_ble_eq_true rfl, Nat.le_of_ble_eq_true rfl⟩ rfl hl rfl (Nat.le_of_ble_eq_true rfl) ⟨Nat.zero_le _, Nat.zero_le _⟩ dX8_waiter_65 (fun H locs hP hS => ?_)
        refine f_ir X hlk hr (v := (-6)) rfl hP hS ?_ dX8_waiter_68
        unfold a_X8_waiter
        (first | rw [if_pos c_1] | rw [if_neg c_1] | rw [if_neg (Bool.eq_false_iff.mp c_1)] | skip)
        (first | rw [if_pos c_7] | rw [if_neg c_7] | rw [if_neg (Bool.eq_false_iff.mp c_7)] | skip)
        (first | rw [if_pos c_24] | rw [if_neg c_24] | rw [if_neg (Bool.eq_false_iff.mp c_24)] | skip)
        (try dsimp only)
        first
          | done
          | exact ⟨rfl, rfl⟩
          | rfl
          | (simp only [c_1, c_7, c_24, if_true, if_false, and_self, and_true, true_and, not_true_eq_false, not_false_eq_true, and_false, false_and, or_true, true_or, or_false, false_or, or_self, Bool.false_eq_true, reduceCtorEq, nl10, nl20, nl30, nl40, nl50, nl60, nl70, nl12, nl13, nl21, nl23, nl31, nl32]; first | done | exact ⟨rfl, rfl⟩ | rfl)
          | contradiction
          | (simp only [c_1, c_7, c_24, if_true, if_false, and_self, and_true, true_and, not_true_eq_false, not_false_eq_true, and_false, false_and, or_true, true_or, or_false, false_or, or_self, Bool.false_eq_true, reduceCtorEq, nl10, nl20, nl30, nl40, nl50, nl60, nl70, nl12, nl13, nl21, nl23, nl31, nl32]; contradiction)
          | (exfalso; simp_all; done)
          | simp_all
      · have c_24 := bI1 c_24
        refine lv_aload_n hx hb dX8_waiter_27 rfl (lv_at hl 0 rfl) ?_
        refine lv_iload_n hx hb dX8_waiter_28 rfl (lv_at hl 3 rfl) ?_
        refine lv_iconst (v := 1) hx hb dX8_waiter_29 (by decide) ?_
        refine lv_bipush (v := 9) hx hb dX8_waiter_30 (by decide) ?_
        refine f_iV (n := 3) X hP hS [.int p1, .int 1, .int 9] [] (c_X8_isFrom l E M L p1 1 9) m_5_120 wi_X8_isFrom rfl rfl (by decide) (by decide +kernel) ⟨Nat.le_of_ble_eq_true rfl, Nat.le_of_ble_eq_true rfl⟩ rfl hl rfl (Nat.le_of_ble_eq_true rfl) ⟨Nat.zero_le _, Nat.zero_le _⟩ dX8_waiter_32 (fun H locs hP hS => ?_)
        refine lv_if_eq (tgt := 62) hx hb dX8_waiter_35 (by decide) (fun c_35 => ?_) (fun c_35 => ?_)
        · have c_35 := bI0 c_35
          refine lv_aload_n hx hb dX8_waiter_62 rfl (lv_at hl 0 rfl) ?_
          refine lv_bipush (v := (-6)) hx hb dX8_waiter_63 (by decide) ?_
          refine f_iV (n := 1) X hP hS [.int (-6)] [] (c_X8_no l E M L (-6) (by decide)) m_5_84 wi_X8_no rfl rfl (by decide) (by decide +kernel) ⟨Nat.le_of_ble_eq_true rfl, Nat.le_of_ble_eq_true rfl⟩ rfl hl rfl (Nat.le_of_ble_eq_true rfl) ⟨Nat.zero_le _, Nat.zero_le _⟩ dX8_waiter_65 (fun H locs hP hS => ?_)
          refine f_ir X hlk hr (v := (-6)) rfl hP hS ?_ dX8_waiter_68
          unfold a_X8_waiter
          (first | rw [if_pos c_1] | rw [if_neg c_1] | rw [if_neg (Bool.eq_false_iff.mp c_1)] | skip)
          (first | rw [if_pos c_7] | rw [if_neg c_7] | rw [if_neg (Bool.eq_false_iff.mp c_7)] | skip)
          (first | rw [if_pos c_24] | rw [if_neg c_24] | rw [if_neg (Bool.eq_false_iff.mp c_24)] | skip)
          (first | rw [if_pos c_35] | rw [if_neg c_35] | rw [if_neg (Bool.eq_false_iff.mp c_35)] | skip)
          (try dsimp only)
          first
            | done
            | exact ⟨rfl, rfl⟩
            | rfl
            | (simp only [c_1, c_7, c_24, c_35, if_true, if_false, and_self, and_true, true_and, not_true_eq_false, not_false_eq_true, and_false, false_and, or_true, true_or, or_false, false_or, or_self, Bool.false_eq_true, reduceCtorEq, nl10, nl20, nl30, nl40, nl50, nl60, nl70, nl12, nl13, nl21, nl23, nl31, nl32]; first | done | exact ⟨rfl, rfl⟩ | rfl)
            | contradiction
            | (simp only [c_1, c_7, c_24, c_35, if_true, if_false, and_self, and_true, true_and, not_true_eq_false, not_false_eq_true, and_false, false_and, or_true, true_or, or_false, false_or, or_self, Bool.false_eq_true, reduceCtorEq, nl10, nl20, nl30, nl40, nl50, nl60, nl70, nl12, nl13, nl21, nl23, nl31, nl32]; contradiction)
            | (exfalso; simp_all; done)
            | simp_all
        · have c_35 := bI1 c_35
          refine lv_aload_n hx hb dX8_waiter_38 rfl (lv_at hl 0 rfl) ?_
          refine lv_iload hx hb dX8_waiter_39 (lv_at hl 4 rfl) ?_
          refine lv_iconst (v := 1) hx hb dX8_waiter_41 (by decide) ?_
          refine lv_bipush (v := 24) hx hb dX8_waiter_42 (by decide) ?_
          refine f_iV (n := 3) X hP hS [.int q1, .int 1, .int 24] [] (c_X8_isFrom l E M L q1 1 24) m_5_120 wi_X8_isFrom rfl rfl (by decide) (by decide +kernel) ⟨Nat.le_of_ble_eq_true rfl, Nat.le_of_ble_eq_true rfl⟩ rfl hl rfl (Nat.le_of_ble_eq_true rfl) ⟨Nat.zero_le _, Nat.zero_le _⟩ dX8_waiter_44 (fun H locs hP hS => ?_)
          refine lv_if_eq (tgt := 62) hx hb dX8_waiter_47 (by decide) (fun c_47 => ?_) (fun c_47 => ?_)
          · have c_47 := bI0 c_47
            refine lv_aload_n hx hb dX8_waiter_62 rfl (lv_at hl 0 rfl) ?_
            refine lv_bipush (v := (-6)) hx hb dX8_waiter_63 (by decide) ?_
            refine f_iV (n := 1) X hP hS [.int (-6)] [] (c_X8_no l E M L (-6) (by decide)) m_5_84 wi_X8_no rfl rfl (by decide) (by decide +kernel) ⟨Nat.le_of_ble_eq_true rfl, Nat.le_of_ble_eq_true rfl⟩ rfl hl rfl (Nat.le_of_ble_eq_true rfl) ⟨Nat.zero_le _, Nat.zero_le _⟩ dX8_waiter_65 (fun H locs hP hS => ?_)
            refine f_ir X hlk hr (v := (-6)) rfl hP hS ?_ dX8_waiter_68
            unfold a_X8_waiter
            (first | rw [if_pos c_1] | rw [if_neg c_1] | rw [if_neg (Bool.eq_false_iff.mp c_1)] | skip)
            (first | rw [if_pos c_7] | rw [if_neg c_7] | rw [if_neg (Bool.eq_false_iff.mp c_7)] | skip)
            (first | rw [if_pos c_24] | rw [if_neg c_24] | rw [if_neg (Bool.eq_false_iff.mp c_24)] | skip)
            (first | rw [if_pos c_35] | rw [if_neg c_35] | rw [if_neg (Bool.eq_false_iff.mp c_35)] | skip)
            (first | rw [if_pos c_47] | rw [if_neg c_47] | rw [if_neg (Bool.eq_false_iff.mp c_47)] | skip)
            (try dsimp only)
            first
              | done
              | exact ⟨rfl, rfl⟩
              | rfl
              | (simp only [c_1, c_7, c_24, c_35, c_47, if_true, if_false, and_self, and_true, true_and, not_true_eq_false, not_false_eq_true, and_false, false_and, or_true, true_or, or_false, false_or, or_self, Bool.false_eq_true, reduceCtorEq, nl10, nl20, nl30, nl40, nl50, nl60, nl70, nl12, nl13, nl21, nl23, nl31, nl32]; first | done | exact ⟨rfl, rfl⟩ | rfl)
              | contradiction
              | (simp only [c_1, c_7, c_24, c_35, c_47, if_true, if_false, and_self, and_true, true_and, not_true_eq_false, not_false_eq_true, and_false, false_and, or_true, true_or, or_false, false_or, or_self, Bool.false_eq_true, reduceCtorEq, nl10, nl20, nl30, nl40, nl50, nl60, nl70, nl12, nl13, nl21, nl23, nl31, nl32]; contradiction)
              | (exfalso; simp_all; done)
              | simp_all
          · have c_47 := bI1 c_47
            refine lv_aload_n hx hb dX8_waiter_50 rfl (lv_at hl 0 rfl) ?_
            refine lv_iload hx hb dX8_waiter_51 (lv_at hl 5 rfl) ?_
            refine lv_iconst (v := 0) hx hb dX8_waiter_53 (by decide) ?_
            refine lv_bipush (v := 9) hx hb dX8_waiter_54 (by decide) ?_
            refine f_iV (n := 3) X hP hS [.int c1, .int 0, .int 9] [] (c_X8_isFrom l E M L c1 0 9) m_5_120 wi_X8_isFrom rfl rfl (by decide) (by decide +kernel) ⟨Nat.le_of_ble_eq_true rfl, Nat.le_of_ble_eq_true rfl⟩ rfl hl rfl (Nat.le_of_ble_eq_true rfl) ⟨Nat.zero_le _, Nat.zero_le _⟩ dX8_waiter_56 (fun H locs hP hS => ?_)
            refine lv_if_ne (tgt := 69) hx hb dX8_waiter_59 (by decide) (fun c_59 => ?_) (fun c_59 => ?_)
            · have c_59 := bI1 c_59
              refine lv_aload_n hx hb dX8_waiter_69 rfl (lv_at hl 0 rfl) ?_
              refine f_get X hP (T := TX8) (ci := 8) (k := 86) rfl inX8 rfl 0 (by decide) m_4_174 rfl (v := .int (nI wc)) (congrArg Value.int hwc) dX8_waiter_70 ?_
              refine lv_bipush (v := 6) hx hb dX8_waiter_73 (by decide) ?_
              refine lv_icmp_ne (tgt := 87) hx hb dX8_waiter_75 (by decide) (fun c_75 => ?_) (fun c_75 => ?_)
              · have c_75 := (not_congr (nI_eq (a := wc) (b := 6) (by omega) (by omega))).mp c_75
                refine lv_aload_n hx hb dX8_waiter_87 rfl (lv_at hl 0 rfl) ?_
                refine lv_iload_n hx hb dX8_waiter_88 rfl (lv_at hl 1 rfl) ?_
                refine lv_iload_n hx hb dX8_waiter_89 rfl (lv_at hl 2 rfl) ?_
                refine lv_iload_n hx hb dX8_waiter_90 rfl (lv_at hl 3 rfl) ?_
                refine lv_iload hx hb dX8_waiter_91 (lv_at hl 4 rfl) ?_
                refine lv_iload hx hb dX8_waiter_93 (lv_at hl 5 rfl) ?_
                refine f_iV (n := 5) X hP hS [.int k, .int a, .int p1, .int q1, .int c1] [] (c_X8_addsWaiter l E M L k a p1 q1 c1 wc hwc (by omega)) m_5_132 wi_X8_addsWaiter rfl rfl (by decide) (by decide +kernel) ⟨Nat.le_of_ble_eq_true rfl, Nat.le_of_ble_eq_true rfl⟩ rfl hl rfl (Nat.le_of_ble_eq_true rfl) ⟨Nat.zero_le _, Nat.zero_le _⟩ dX8_waiter_95 (fun H locs hP hS => ?_)
                refine f_ir X hlk hr (v := ((a_X8_addsWaiter M L k a p1 q1 c1 wc).1)) rfl hP hS ?_ dX8_waiter_98
                unfold a_X8_waiter
                (first | rw [if_pos c_1] | rw [if_neg c_1] | rw [if_neg (Bool.eq_false_iff.mp c_1)] | skip)
                (first | rw [if_pos c_7] | rw [if_neg c_7] | rw [if_neg (Bool.eq_false_iff.mp c_7)] | skip)
                (first | rw [if_pos c_24] | rw [if_neg c_24] | rw [if_neg (Bool.eq_false_iff.mp c_24)] | skip)
                (first | rw [if_pos c_35] | rw [if_neg c_35] | rw [if_neg (Bool.eq_false_iff.mp c_35)] | skip)
                (first | rw [if_pos c_47] | rw [if_neg c_47] | rw [if_neg (Bool.eq_false_iff.mp c_47)] | skip)
                (first | rw [if_pos c_59] | rw [if_neg c_59] | rw [if_neg (Bool.eq_false_iff.mp c_59)] | skip)
                (first | rw [if_pos c_75] | rw [if_neg c_75] | rw [if_neg (Bool.eq_false_iff.mp c_75)] | skip)
                (try dsimp only)
                first
                  | done
                  | exact ⟨rfl, rfl⟩
                  | rfl
                  | (simp only [c_1, c_7, c_24, c_35, c_47, c_59, c_75, if_true, if_false, and_self, and_true, true_and, not_true_eq_false, not_false_eq_true, and_false, false_and, or_true, true_or, or_false, false_or, or_self, Bool.false_eq_true, reduceCtorEq, nl10, nl20, nl30, nl40, nl50, nl60, nl70, nl12, nl13, nl21, nl23, nl31, nl32]; first | done | exact ⟨rfl, rfl⟩ | rfl)
                  | contradiction
                  | (simp only [c_1, c_7, c_24, c_35, c_47, c_59, c_75, if_true, if_false, and_self, and_true, true_and, not_true_eq_false, not_false_eq_true, and_false, false_and, or_true, true_or, or_false, false_or, or_self, Bool.false_eq_true, reduceCtorEq, nl10, nl20, nl30, nl40, nl50, nl60, nl70, nl12, nl13, nl21, nl23, nl31, nl32]; contradiction)
                  | (exfalso; simp_all; done)
                  | simp_all
              · have c_75 := (nI_eq (a := wc) (b := 6) (by omega) (by omega)).mp c_75
                refine lv_aload_n hx hb dX8_waiter_78 rfl (lv_at hl 0 rfl) ?_
                refine lv_bipush (v := (-7)) hx hb dX8_waiter_79 (by decide) ?_
                refine f_iV (n := 1) X hP hS [.int (-7)] [] (c_X8_no l E M L (-7) (by decide)) m_5_84 wi_X8_no rfl rfl (by decide) (by decide +kernel) ⟨Nat.le_of_ble_eq_true rfl, Nat.le_of_ble_eq_true rfl⟩ rfl hl rfl (Nat.le_of_ble_eq_true rfl) ⟨Nat.zero_le _, Nat.zero_le _⟩ dX8_waiter_81 (fun H locs hP hS => ?_)
                refine lv_goto (tgt := 98) hx hb dX8_waiter_84 (by decide) ?_
                refine f_ir X hlk hr (v := (-7)) rfl hP hS ?_ dX8_waiter_98
                unfold a_X8_waiter
                (first | rw [if_pos c_1] | rw [if_neg c_1] | rw [if_neg (Bool.eq_false_iff.mp c_1)] | skip)
                (first | rw [if_pos c_7] | rw [if_neg c_7] | rw [if_neg (Bool.eq_false_iff.mp c_7)] | skip)
                (first | rw [if_pos c_24] | rw [if_neg c_24] | rw [if_neg (Bool.eq_false_iff.mp c_24)] | skip)
                (first | rw [if_pos c_35] | rw [if_neg c_35] | rw [if_neg (Bool.eq_false_iff.mp c_35)] | skip)
                (first | rw [if_pos c_47] | rw [if_neg c_47] | rw [if_neg (Bool.eq_false_iff.mp c_47)] | skip)
                (first | rw [if_pos c_59] | rw [if_neg c_59] | rw [if_neg (Bool.eq_false_iff.mp c_59)] | skip)
                (first | rw [if_pos c_75] | rw [if_neg c_75] | rw [if_neg (Bool.eq_false_iff.mp c_75)] | skip)
                (try dsimp only)
                first
                  | done
                  | exact ⟨rfl, rfl⟩
                  | rfl
                  | (simp only [c_1, c_7, c_24, c_35, c_47, c_59, c_75, if_true, if_false, and_self, and_true, true_and, not_true_eq_false, not_false_eq_true, and_false, false_and, or_true, true_or, or_false, false_or, or_self, Bool.false_eq_true, reduceCtorEq, nl10, nl20, nl30, nl40, nl50, nl60, nl70, nl12, nl13, nl21, nl23, nl31, nl32]; first | done | exact ⟨rfl, rfl⟩ | rfl)
                  | contradiction
                  | (simp only [c_1, c_7, c_24, c_35, c_47, c_59, c_75, if_true, if_false, and_self, and_true, true_and, not_true_eq_false, not_false_eq_true, and_false, false_and, or_true, true_or, or_false, false_or, or_self, Bool.false_eq_true, reduceCtorEq, nl10, nl20, nl30, nl40, nl50, nl60, nl70, nl12, nl13, nl21, nl23, nl31, nl32]; contradiction)
                  | (exfalso; simp_all; done)
                  | simp_all
            · have c_59 := bI0 c_59
              refine lv_aload_n hx hb dX8_waiter_62 rfl (lv_at hl 0 rfl) ?_
              refine lv_bipush (v := (-6)) hx hb dX8_waiter_63 (by decide) ?_
              refine f_iV (n := 1) X hP hS [.int (-6)] [] (c_X8_no l E M L (-6) (by decide)) m_5_84 wi_X8_no rfl rfl (by decide) (by decide +kernel) ⟨Nat.le_of_ble_eq_true rfl, Nat.le_of_ble_eq_true rfl⟩ rfl hl rfl (Nat.le_of_ble_eq_true rfl) ⟨Nat.zero_le _, Nat.zero_le _⟩ dX8_waiter_65 (fun H locs hP hS => ?_)
              refine f_ir X hlk hr (v := (-6)) rfl hP hS ?_ dX8_waiter_68
              unfold a_X8_waiter
              (first | rw [if_pos c_1] | rw [if_neg c_1] | rw [if_neg (Bool.eq_false_iff.mp c_1)] | skip)
              (first | rw [if_pos c_7] | rw [if_neg c_7] | rw [if_neg (Bool.eq_false_iff.mp c_7)] | skip)
              (first | rw [if_pos c_24] | rw [if_neg c_24] | rw [if_neg (Bool.eq_false_iff.mp c_24)] | skip)
              (first | rw [if_pos c_35] | rw [if_neg c_35] | rw [if_neg (Bool.eq_false_iff.mp c_35)] | skip)
              (first | rw [if_pos c_47] | rw [if_neg c_47] | rw [if_neg (Bool.eq_false_iff.mp c_47)] | skip)
              (first | rw [if_pos c_59] | rw [if_neg c_59] | rw [if_neg (Bool.eq_false_iff.mp c_59)] | skip)
              (try dsimp only)
              first
                | done
                | exact ⟨rfl, rfl⟩
                | rfl
                | (simp only [c_1, c_7, c_24, c_35, c_47, c_59, if_true, if_false, and_self, and_true, true_and, not_true_eq_false, not_false_eq_true, and_false, false_and, or_true, true_or, or_false, false_or, or_self, Bool.false_eq_true, reduceCtorEq, nl10, nl20, nl30, nl40, nl50, nl60, nl70, nl12, nl13, nl21, nl23, nl31, nl32]; first | done | exact ⟨rfl, rfl⟩ | rfl)
                | contradiction
                | (simp only [c_1, c_7, c_24, c_35, c_47, c_59, if_true, if_false, and_self, and_true, true_and, not_true_eq_false, not_false_eq_true, and_false, false_and, or_true, true_or, or_false, false_or, or_self, Bool.false_eq_true, reduceCtorEq, nl10, nl20, nl30, nl40, nl50, nl60, nl70, nl12, nl13, nl21, nl23, nl31, nl32]; contradiction)
                | (exfalso; simp_all; done)
                | simp_all
    · refine lv_aload_n hx hb dX8_waiter_10 rfl (lv_at hl 0 rfl) ?_
      refine lv_iconst (v := (-1)) hx hb dX8_waiter_11 (by decide) ?_
      refine f_iV (n := 1) X hP hS [.int (-1)] [] (c_X8_no l E M L (-1) (by decide)) m_5_84 wi_X8_no rfl rfl (by decide) (by decide +kernel) ⟨Nat.le_of_ble_eq_true rfl, Nat.le_of_ble_eq_true rfl⟩ rfl hl rfl (Nat.le_of_ble_eq_true rfl) ⟨Nat.zero_le _, Nat.zero_le _⟩ dX8_waiter_12 (fun H locs hP hS => ?_)
      refine f_ir X hlk hr (v := (-1)) rfl hP hS ?_ dX8_waiter_15
      unfold a_X8_waiter
      (first | rw [if_pos c_1] | rw [if_neg c_1] | rw [if_neg (Bool.eq_false_iff.mp c_1)] | skip)
      (first | rw [if_pos c_7] | rw [if_neg c_7] | rw [if_neg (Bool.eq_false_iff.mp c_7)] | skip)
      (try dsimp only)
      first
        | done
        | exact ⟨rfl, rfl⟩
        | rfl
        | (simp only [c_1, c_7, if_true, if_false, and_self, and_true, true_and, not_true_eq_false, not_false_eq_true, and_false, false_and, or_true, true_or, or_false, false_or, or_self, Bool.false_eq_true, reduceCtorEq, nl10, nl20, nl30, nl40, nl50, nl60, nl70, nl12, nl13, nl21, nl23, nl31, nl32]; first | done | exact ⟨rfl, rfl⟩ | rfl)
        | contradiction
        | (simp only [c_1, c_7, if_true, if_false, and_self, and_true, true_and, not_true_eq_false, not_false_eq_true, and_false, false_and, or_true, true_or, or_false, false_or, or_self, Bool.false_eq_true, reduceCtorEq, nl10, nl20, nl30, nl40, nl50, nl60, nl70, nl12, nl13, nl21, nl23, nl31, nl32]; contradiction)
        | (exfalso; simp_all; done)
        | simp_all

def a_X8_move (M : Nat → Nat → Int32) (L : Nat → Nat → Int64) (w : Int32) (c1 : Int32) (wc : Nat) : fR := (if (0 ≤ w ∧ w < (M 86 0)) then (if (0 ≤ c1 ∧ c1 ≤ 9) then ((M 92 w.toNatClampNeg), (up2 M 92 w.toNatClampNeg c1), L) else ((-6), (noM M (-6)), L)) else ((-1), (noM M (-1)), L))
set_option maxHeartbeats 1000000 in
set_option maxRecDepth 100000 in
theorem c_X8_move (l : Launch) (E : fE) (M : Nat → Nat → Int32) (L : Nat → Nat → Int64) (w : Int32) (c1 : Int32) (wc : Nat) (hwc : M 86 0 = nI wc) (hwc6 : wc ≤ 6) : Met l yX8_move (wl yX8_move cX8_move 4 (some .int)) (fRm 1 23) (va_Pc [.ref (fad E 86), .int w, .int c1] (fPre E M L)) (fQi E (fun r u => u = ((a_X8_move M L w c1 wc).2.1, L) ∧ r = (a_X8_move M L w c1 wc).1)) 0 0 (fA E) := by
  refine f_head (by decide) (Nat.le_of_ble_eq_true rfl) ?_
  intro pg ev s mi below meth cd ls X hr hlk hP hS hl
  have hx := X.1.1
  have hb := X.1.2.1
  have hl : lv_has ls 4 [(0, .ref (fad E 86)), (1, .int w), (2, .int c1)] := hl
  refine lv_aload_n hx hb dX8_move_0 rfl (lv_at hl 0 rfl) ?_
  refine lv_iload_n hx hb dX8_move_1 rfl (lv_at hl 1 rfl) ?_
  refine f_iV (n := 1) X hP hS [.int w] [] (c_X8_isWaiter l E M L w) m_5_104 wi_X8_isWaiter rfl rfl (by decide) (by decide +kernel) ⟨Nat.le_of_ble_eq_true rfl, Nat.le_of_ble_eq_true rfl⟩ rfl hl rfl (Nat.le_of_ble_eq_true rfl) ⟨Nat.zero_le _, Nat.zero_le _⟩ dX8_move_2 (fun H locs hP hS => ?_)
  refine lv_if_ne (tgt := 14) hx hb dX8_move_5 (by decide) (fun c_5 => ?_) (fun c_5 => ?_)
  · have c_5 := bI1 c_5
    refine lv_aload_n hx hb dX8_move_14 rfl (lv_at hl 0 rfl) ?_
    refine lv_iload_n hx hb dX8_move_15 rfl (lv_at hl 2 rfl) ?_
    refine lv_iconst (v := 0) hx hb dX8_move_16 (by decide) ?_
    refine lv_bipush (v := 9) hx hb dX8_move_17 (by decide) ?_
    refine f_iV (n := 3) X hP hS [.int c1, .int 0, .int 9] [] (c_X8_isFrom l E M L c1 0 9) m_5_120 wi_X8_isFrom rfl rfl (by decide) (by decide +kernel) ⟨Nat.le_of_ble_eq_true rfl, Nat.le_of_ble_eq_true rfl⟩ rfl hl rfl (Nat.le_of_ble_eq_true rfl) ⟨Nat.zero_le _, Nat.zero_le _⟩ dX8_move_19 (fun H locs hP hS => ?_)
    refine lv_if_ne (tgt := 32) hx hb dX8_move_22 (by decide) (fun c_22 => ?_) (fun c_22 => ?_)
    · have c_22 := bI1 c_22
      refine lv_aload_n hx hb dX8_move_32 rfl (lv_at hl 0 rfl) ?_
      refine f_get X hP (T := TX8) (ci := 8) (k := 86) rfl inX8 rfl 13 (by decide) m_4_187 rfl (v := .ref (fad E 92)) rfl dX8_move_33 ?_
      refine lv_iload_n hx hb dX8_move_36 rfl (lv_at hl 1 rfl) ?_
      have hix_1 : fIx w 6 w.toNatClampNeg := by
        first
          | exact fIx_lt 6 c_5.1 c_5.2 (by decide)
          | exact fIx_lt 6 c_22.1 c_22.2 (by decide)
          | exact fIx_cnt 6 c_5.1 c_5.2 hwc hwc6 (by decide)
          | exact fIx_cnt 6 c_22.1 c_22.2 hwc hwc6 (by decide)
          | exact fIx_le 5 c_5.1 c_5.2 (by decide)
          | exact fIx_le 5 c_22.1 c_22.2 (by decide)
          | exact fIx_lt 6 c_5.1 c_5.2.2 (by decide)
          | exact fIx_lt 6 c_22.1 c_22.2.2 (by decide)
          | exact fIx_le 5 (rr0 c_5).1.1 (rr0 c_5).1.2 (by decide)
          | exact fIx_le 5 (rr0 c_22).1.1 (rr0 c_22).1.2 (by decide)
          | (refine fIx_lt 6 (show (0 : Int32) ≤ w from ?_) (show w < (6 : Int32) from ?_) (by decide) <;> (have e0_9 : (0 : Int32).toInt = 0 := rfl; have en_9 : (6 : Int32).toInt = 6 := rfl; simp only [Int32.lt_iff_toInt_lt, Int32.le_iff_toInt_le, Int32.not_lt, Int32.not_le, ← Int32.toInt_inj] at *; omega))
      have hlt_1 := hix_1.2.2
      refine f_iald X hP (k := 92) (n := 6) (q := w.toNatClampNeg) rfl rfl hix_1 dX8_move_37 ?_
      refine lv_istore_n (lv' := [(3, .int (M 92 w.toNatClampNeg)), (0, .ref (fad E 86)), (1, .int w), (2, .int c1)]) hx hb dX8_move_38 rfl hl (by decide) rfl (fun ls hl => ?_)
      refine lv_aload_n hx hb dX8_move_39 rfl (lv_at hl 1 rfl) ?_
      refine f_get X hP (T := TX8) (ci := 8) (k := 86) rfl inX8 rfl 13 (by decide) m_4_187 rfl (v := .ref (fad E 92)) rfl dX8_move_40 ?_
      refine lv_iload_n hx hb dX8_move_43 rfl (lv_at hl 2 rfl) ?_
      refine lv_iload_n hx hb dX8_move_44 rfl (lv_at hl 3 rfl) ?_
      refine f_iast X hP hS (k := 92) (n := 6) (q := w.toNatClampNeg) rfl rfl (v := c1) hix_1 dX8_move_45 (fun H locs hP hS => ?_)
      refine lv_iload_n hx hb dX8_move_46 rfl (lv_at hl 0 rfl) ?_
      refine f_ir X hlk hr (v := (M 92 w.toNatClampNeg)) rfl hP hS ?_ dX8_move_47
      unfold a_X8_move
      (first | rw [if_pos c_5] | rw [if_neg c_5] | rw [if_neg (Bool.eq_false_iff.mp c_5)] | skip)
      (first | rw [if_pos c_22] | rw [if_neg c_22] | rw [if_neg (Bool.eq_false_iff.mp c_22)] | skip)
      (try dsimp only)
      first
        | done
        | exact ⟨rfl, rfl⟩
        | rfl
        | (simp only [c_5, c_22, if_true, if_false, and_self, and_true, true_and, not_true_eq_false, not_false_eq_true, and_false, false_and, or_true, true_or, or_false, false_or, or_self, Bool.false_eq_true, reduceCtorEq, nl10, nl20, nl30, nl40, nl50, nl60, nl70, nl12, nl13, nl21, nl23, nl31, nl32]; first | done | exact ⟨rfl, rfl⟩ | rfl)
        | contradiction
        | (simp only [c_5, c_22, if_true, if_false, and_self, and_true, true_and, not_true_eq_false, not_false_eq_true, and_false, false_and, or_true, true_or, or_false, false_or, or_self, Bool.false_eq_true, reduceCtorEq, nl10, nl20, nl30, nl40, nl50, nl60, nl70, nl12, nl13, nl21, nl23, nl31, nl32]; contradiction)
        | (exfalso; simp_all; done)
        | simp_all
    · have c_22 := bI0 c_22
      refine lv_aload_n hx hb dX8_move_25 rfl (lv_at hl 0 rfl) ?_
      refine lv_bipush (v := (-6)) hx hb dX8_move_26 (by decide) ?_
      refine f_iV (n := 1) X hP hS [.int (-6)] [] (c_X8_no l E M L (-6) (by decide)) m_5_84 wi_X8_no rfl rfl (by decide) (by decide +kernel) ⟨Nat.le_of_ble_eq_true rfl, Nat.le_of_ble_eq_true rfl⟩ rfl hl rfl (Nat.le_of_ble_eq_true rfl) ⟨Nat.zero_le _, Nat.zero_le _⟩ dX8_move_28 (fun H locs hP hS => ?_)
      refine f_ir X hlk hr (v := (-6)) rfl hP hS ?_ dX8_move_31
      unfold a_X8_move
      (first | rw [if_pos c_5] | rw [if_neg c_5] | rw [if_neg (Bool.eq_false_iff.mp c_5)] | skip)
      (first | rw [if_pos c_22] | rw [if_neg c_22] | rw [if_neg (Bool.eq_false_iff.mp c_22)] | skip)
      (try dsimp only)
      first
        | done
        | exact ⟨rfl, rfl⟩
        | rfl
        | (simp only [c_5, c_22, if_true, if_false, and_self, and_true, true_and, not_true_eq_false, not_false_eq_true, and_false, false_and, or_true, true_or, or_false, false_or, or_self, Bool.false_eq_true, reduceCtorEq, nl10, nl20, nl30, nl40, nl50, nl60, nl70, nl12, nl13, nl21, nl23, nl31, nl32]; first | done | exact ⟨rfl, rfl⟩ | rfl)
        | contradiction
        | (simp only [c_5, c_22, if_true, if_false, and_self, and_true, true_and, not_true_eq_false, not_false_eq_true, and_false, false_and, or_true, true_or, or_false, false_or, or_self, Bool.false_eq_true, reduceCtorEq, nl10, nl20, nl30, nl40, nl50, nl60, nl70, nl12, nl13, nl21, nl23, nl31, nl32]; contradiction)
        | (exfalso; simp_all; done)
        | simp_all
  · have c_5 := bI0 c_5
    refine lv_aload_n hx hb dX8_move_8 rfl (lv_at hl 0 rfl) ?_
    refine lv_iconst (v := (-1)) hx hb dX8_move_9 (by decide) ?_
    refine f_iV (n := 1) X hP hS [.int (-1)] [] (c_X8_no l E M L (-1) (by decide)) m_5_84 wi_X8_no rfl rfl (by decide) (by decide +kernel) ⟨Nat.le_of_ble_eq_true rfl, Nat.le_of_ble_eq_true rfl⟩ rfl hl rfl (Nat.le_of_ble_eq_true rfl) ⟨Nat.zero_le _, Nat.zero_le _⟩ dX8_move_10 (fun H locs hP hS => ?_)
    refine f_ir X hlk hr (v := (-1)) rfl hP hS ?_ dX8_move_13
    unfold a_X8_move
    (first | rw [if_pos c_5] | rw [if_neg c_5] | rw [if_neg (Bool.eq_false_iff.mp c_5)] | skip)
    (try dsimp only)
    first
      | done
      | exact ⟨rfl, rfl⟩
      | rfl
      | (simp only [c_5, if_true, if_false, and_self, and_true, true_and, not_true_eq_false, not_false_eq_true, and_false, false_and, or_true, true_or, or_false, false_or, or_self, Bool.false_eq_true, reduceCtorEq, nl10, nl20, nl30, nl40, nl50, nl60, nl70, nl12, nl13, nl21, nl23, nl31, nl32]; first | done | exact ⟨rfl, rfl⟩ | rfl)
      | contradiction
      | (simp only [c_5, if_true, if_false, and_self, and_true, true_and, not_true_eq_false, not_false_eq_true, and_false, false_and, or_true, true_or, or_false, false_or, or_self, Bool.false_eq_true, reduceCtorEq, nl10, nl20, nl30, nl40, nl50, nl60, nl70, nl12, nl13, nl21, nl23, nl31, nl32]; contradiction)
      | (exfalso; simp_all; done)
      | simp_all

def a_X8_thingOf (M : Nat → Nat → Int32) (L : Nat → Nat → Int64) (t : Int32) (what : Int32) (tc : Nat) : fR := (if (0 ≤ t ∧ t < (M 86 1)) then (if what = 0 then ((M 93 t.toNatClampNeg), M, L) else (if what = 1 then ((M 94 t.toNatClampNeg), M, L) else (if what = 2 then ((M 95 t.toNatClampNeg), M, L) else (if what = 3 then ((M 96 t.toNatClampNeg), M, L) else (if what = 4 then ((M 97 t.toNatClampNeg), M, L) else (if what = 5 then ((M 98 t.toNatClampNeg), M, L) else (if what = 6 then ((M 99 t.toNatClampNeg), M, L) else (if what = 7 then ((a_X8_cases M L t t.toNatClampNeg), M, L) else ((-5), (noM M (-5)), L))))))))) else ((-5), (noM M (-5)), L))
set_option maxHeartbeats 1000000 in
set_option maxRecDepth 100000 in
theorem c_X8_thingOf (l : Launch) (E : fE) (M : Nat → Nat → Int32) (L : Nat → Nat → Int64) (t : Int32) (what : Int32) (tc : Nat) (htc : M 86 1 = nI tc) (htc8 : tc ≤ 8) : Met l yX8_thingOf (wl yX8_thingOf cX8_thingOf 3 (some .int)) (fRm 1 21) (va_Pc [.ref (fad E 86), .int t, .int what] (fPre E M L)) (fQi E (fun r u => u = ((a_X8_thingOf M L t what tc).2.1, L) ∧ r = (a_X8_thingOf M L t what tc).1)) 0 0 (fA E) := by
  refine f_head (by decide) (Nat.le_of_ble_eq_true rfl) ?_
  intro pg ev s mi below meth cd ls X hr hlk hP hS hl
  have hx := X.1.1
  have hb := X.1.2.1
  have hl : lv_has ls 3 [(0, .ref (fad E 86)), (1, .int t), (2, .int what)] := hl
  refine lv_aload_n hx hb dX8_thingOf_0 rfl (lv_at hl 0 rfl) ?_
  refine lv_iload_n hx hb dX8_thingOf_1 rfl (lv_at hl 1 rfl) ?_
  refine f_iV (n := 1) X hP hS [.int t] [] (c_X8_isThing l E M L t) m_5_148 wi_X8_isThing rfl rfl (by decide) (by decide +kernel) ⟨Nat.le_of_ble_eq_true rfl, Nat.le_of_ble_eq_true rfl⟩ rfl hl rfl (Nat.le_of_ble_eq_true rfl) ⟨Nat.zero_le _, Nat.zero_le _⟩ dX8_thingOf_2 (fun H locs hP hS => ?_)
  refine lv_if_ne (tgt := 15) hx hb dX8_thingOf_5 (by decide) (fun c_5 => ?_) (fun c_5 => ?_)
  · have c_5 := bI1 c_5
    refine lv_iload_n hx hb dX8_thingOf_15 rfl (lv_at hl 2 rfl) ?_
    by_cases s_16_0 : what = 0
    · refine lv_tableIn (tgt := 64) hx hb dX8_thingOf_16 (by rw [s_16_0]; decide) (by rw [s_16_0]; decide) (by rw [s_16_0]; rfl) (by decide) ?_
      refine lv_aload_n hx hb dX8_thingOf_64 rfl (lv_at hl 0 rfl) ?_
      refine f_get X hP (T := TX8) (ci := 8) (k := 86) rfl inX8 rfl 14 (by decide) m_4_188 rfl (v := .ref (fad E 93)) rfl dX8_thingOf_65 ?_
      refine lv_iload_n hx hb dX8_thingOf_68 rfl (lv_at hl 1 rfl) ?_
      have hix_1 : fIx t 8 t.toNatClampNeg := by
        first
          | exact fIx_lt 8 c_5.1 c_5.2 (by decide)
          | exact fIx_lt 8 s_16_0.1 s_16_0.2 (by decide)
          | exact fIx_cnt 8 c_5.1 c_5.2 htc htc8 (by decide)
          | exact fIx_cnt 8 s_16_0.1 s_16_0.2 htc htc8 (by decide)
          | exact fIx_le 7 c_5.1 c_5.2 (by decide)
          | exact fIx_le 7 s_16_0.1 s_16_0.2 (by decide)
          | exact fIx_lt 8 c_5.1 c_5.2.2 (by decide)
          | exact fIx_lt 8 s_16_0.1 s_16_0.2.2 (by decide)
          | exact fIx_le 7 (rr0 c_5).1.1 (rr0 c_5).1.2 (by decide)
          | exact fIx_le 7 (rr0 s_16_0).1.1 (rr0 s_16_0).1.2 (by decide)
          | (refine fIx_lt 8 (show (0 : Int32) ≤ t from ?_) (show t < (8 : Int32) from ?_) (by decide) <;> (have e0_9 : (0 : Int32).toInt = 0 := rfl; have en_9 : (8 : Int32).toInt = 8 := rfl; simp only [Int32.lt_iff_toInt_lt, Int32.le_iff_toInt_le, Int32.not_lt, Int32.not_le, ← Int32.toInt_inj] at *; omega))
      have hlt_1 := hix_1.2.2
      refine f_iald X hP (k := 93) (n := 8) (q := t.toNatClampNeg) rfl rfl hix_1 dX8_thingOf_69 ?_
      refine f_ir X hlk hr (v := (M 93 t.toNatClampNeg)) rfl hP hS ?_ dX8_thingOf_70
      unfold a_X8_thingOf
      (first | rw [if_pos c_5] | rw [if_neg c_5] | rw [if_neg (Bool.eq_false_iff.mp c_5)] | skip)
      (first | rw [if_pos s_16_0] | rw [if_neg s_16_0] | rw [if_neg (Bool.eq_false_iff.mp s_16_0)] | skip)
      (try dsimp only)
      first
        | done
        | exact ⟨rfl, rfl⟩
        | rfl
        | (simp only [c_5, s_16_0, if_true, if_false, and_self, and_true, true_and, not_true_eq_false, not_false_eq_true, and_false, false_and, or_true, true_or, or_false, false_or, or_self, Bool.false_eq_true, reduceCtorEq, nl10, nl20, nl30, nl40, nl50, nl60, nl70, nl12, nl13, nl21, nl23, nl31, nl32]; first | done | exact ⟨rfl, rfl⟩ | rfl)
        | contradiction
        | (simp only [c_5, s_16_0, if_true, if_false, and_self, and_true, true_and, not_true_eq_false, not_false_eq_true, and_false, false_and, or_true, true_or, or_false, false_or, or_self, Bool.false_eq_true, reduceCtorEq, nl10, nl20, nl30, nl40, nl50, nl60, nl70, nl12, nl13, nl21, nl23, nl31, nl32]; contradiction)
        | (exfalso; simp_all; done)
        | simp_all
    by_cases s_16_1 : what = 1
    · refine lv_tableIn (tgt := 71) hx hb dX8_thingOf_16 (by rw [s_16_1]; decide) (by rw [s_16_1]; decide) (by rw [s_16_1]; rfl) (by decide) ?_
      refine lv_aload_n hx hb dX8_thingOf_71 rfl (lv_at hl 0 rfl) ?_
      refine f_get X hP (T := TX8) (ci := 8) (k := 86) rfl inX8 rfl 15 (by decide) m_4_189 rfl (v := .ref (fad E 94)) rfl dX8_thingOf_72 ?_
      refine lv_iload_n hx hb dX8_thingOf_75 rfl (lv_at hl 1 rfl) ?_
      have hix_2 : fIx t 8 t.toNatClampNeg := by
        first
          | exact fIx_lt 8 c_5.1 c_5.2 (by decide)
          | exact fIx_lt 8 s_16_0.1 s_16_0.2 (by decide)
          | exact fIx_lt 8 s_16_1.1 s_16_1.2 (by decide)
          | exact fIx_cnt 8 c_5.1 c_5.2 htc htc8 (by decide)
          | exact fIx_cnt 8 s_16_0.1 s_16_0.2 htc htc8 (by decide)
          | exact fIx_cnt 8 s_16_1.1 s_16_1.2 htc htc8 (by decide)
          | exact fIx_le 7 c_5.1 c_5.2 (by decide)
          | exact fIx_le 7 s_16_0.1 s_16_0.2 (by decide)
          | exact fIx_le 7 s_16_1.1 s_16_1.2 (by decide)
          | exact fIx_lt 8 c_5.1 c_5.2.2 (by decide)
          | exact fIx_lt 8 s_16_0.1 s_16_0.2.2 (by decide)
          | exact fIx_lt 8 s_16_1.1 s_16_1.2.2 (by decide)
          | exact fIx_le 7 (rr0 c_5).1.1 (rr0 c_5).1.2 (by decide)
          | exact fIx_le 7 (rr0 s_16_0).1.1 (rr0 s_16_0).1.2 (by decide)
          | exact fIx_le 7 (rr0 s_16_1).1.1 (rr0 s_16_1).1.2 (by decide)
          | (refine fIx_lt 8 (show (0 : Int32) ≤ t from ?_) (show t < (8 : Int32) from ?_) (by decide) <;> (have e0_9 : (0 : Int32).toInt = 0 := rfl; have en_9 : (8 : Int32).toInt = 8 := rfl; simp only [Int32.lt_iff_toInt_lt, Int32.le_iff_toInt_le, Int32.not_lt, Int32.not_le, ← Int32.toInt_inj] at *; omega))
      have hlt_2 := hix_2.2.2
      refine f_iald X hP (k := 94) (n := 8) (q := t.toNatClampNeg) rfl rfl hix_2 dX8_thingOf_76 ?_
      refine f_ir X hlk hr (v := (M 94 t.toNatClampNeg)) rfl hP hS ?_ dX8_thingOf_77
      unfold a_X8_thingOf
      (first | rw [if_pos c_5] | rw [if_neg c_5] | rw [if_neg (Bool.eq_false_iff.mp c_5)] | skip)
      (first | rw [if_pos s_16_0] | rw [if_neg s_16_0] | rw [if_neg (Bool.eq_false_iff.mp s_16_0)] | skip)
      (first | rw [if_pos s_16_1] | rw [if_neg s_16_1] | rw [if_neg (Bool.eq_false_iff.mp s_16_1)] | skip)
      (try dsimp only)
      first
        | done
        | exact ⟨rfl, rfl⟩
        | rfl
        | (simp only [c_5, s_16_0, s_16_1, if_true, if_false, and_self, and_true, true_and, not_true_eq_false, not_false_eq_true, and_false, false_and, or_true, true_or, or_false, false_or, or_self, Bool.false_eq_true, reduceCtorEq, nl10, nl20, nl30, nl40, nl50, nl60, nl70, nl12, nl13, nl21, nl23, nl31, nl32]; first | done | exact ⟨rfl, rfl⟩ | rfl)
        | contradiction
        | (simp only [c_5, s_16_0, s_16_1, if_true, if_false, and_self, and_true, true_and, not_true_eq_false, not_false_eq_true, and_false, false_and, or_true, true_or, or_false, false_or, or_self, Bool.false_eq_true, reduceCtorEq, nl10, nl20, nl30, nl40, nl50, nl60, nl70, nl12, nl13, nl21, nl23, nl31, nl32]; contradiction)
        | (exfalso; simp_all; done)
        | simp_all
    by_cases s_16_2 : what = 2
    · refine lv_tableIn (tgt := 78) hx hb dX8_thingOf_16 (by rw [s_16_2]; decide) (by rw [s_16_2]; decide) (by rw [s_16_2]; rfl) (by decide) ?_
      refine lv_aload_n hx hb dX8_thingOf_78 rfl (lv_at hl 0 rfl) ?_
      refine f_get X hP (T := TX8) (ci := 8) (k := 86) rfl inX8 rfl 16 (by decide) m_4_190 rfl (v := .ref (fad E 95)) rfl dX8_thingOf_79 ?_
      refine lv_iload_n hx hb dX8_thingOf_82 rfl (lv_at hl 1 rfl) ?_
      have hix_3 : fIx t 8 t.toNatClampNeg := by
        first
          | exact fIx_lt 8 c_5.1 c_5.2 (by decide)
          | exact fIx_lt 8 s_16_0.1 s_16_0.2 (by decide)
          | exact fIx_lt 8 s_16_1.1 s_16_1.2 (by decide)
          | exact fIx_lt 8 s_16_2.1 s_16_2.2 (by decide)
          | exact fIx_cnt 8 c_5.1 c_5.2 htc htc8 (by decide)
          | exact fIx_cnt 8 s_16_0.1 s_16_0.2 htc htc8 (by decide)
          | exact fIx_cnt 8 s_16_1.1 s_16_1.2 htc htc8 (by decide)
          | exact fIx_cnt 8 s_16_2.1 s_16_2.2 htc htc8 (by decide)
          | exact fIx_le 7 c_5.1 c_5.2 (by decide)
          | exact fIx_le 7 s_16_0.1 s_16_0.2 (by decide)
          | exact fIx_le 7 s_16_1.1 s_16_1.2 (by decide)
          | exact fIx_le 7 s_16_2.1 s_16_2.2 (by decide)
          | exact fIx_lt 8 c_5.1 c_5.2.2 (by decide)
          | exact fIx_lt 8 s_16_0.1 s_16_0.2.2 (by decide)
          | exact fIx_lt 8 s_16_1.1 s_16_1.2.2 (by decide)
          | exact fIx_lt 8 s_16_2.1 s_16_2.2.2 (by decide)
          | exact fIx_le 7 (rr0 c_5).1.1 (rr0 c_5).1.2 (by decide)
          | exact fIx_le 7 (rr0 s_16_0).1.1 (rr0 s_16_0).1.2 (by decide)
          | exact fIx_le 7 (rr0 s_16_1).1.1 (rr0 s_16_1).1.2 (by decide)
          | exact fIx_le 7 (rr0 s_16_2).1.1 (rr0 s_16_2).1.2 (by decide)
          | (refine fIx_lt 8 (show (0 : Int32) ≤ t from ?_) (show t < (8 : Int32) from ?_) (by decide) <;> (have e0_9 : (0 : Int32).toInt = 0 := rfl; have en_9 : (8 : Int32).toInt = 8 := rfl; simp only [Int32.lt_iff_toInt_lt, Int32.le_iff_toInt_le, Int32.not_lt, Int32.not_le, ← Int32.toInt_inj] at *; omega))
      have hlt_3 := hix_3.2.2
      refine f_iald X hP (k := 95) (n := 8) (q := t.toNatClampNeg) rfl rfl hix_3 dX8_thingOf_83 ?_
      refine f_ir X hlk hr (v := (M 95 t.toNatClampNeg)) rfl hP hS ?_ dX8_thingOf_84
      unfold a_X8_thingOf
      (first | rw [if_pos c_5] | rw [if_neg c_5] | rw [if_neg (Bool.eq_false_iff.mp c_5)] | skip)
      (first | rw [if_pos s_16_0] | rw [if_neg s_16_0] | rw [if_neg (Bool.eq_false_iff.mp s_16_0)] | skip)
      (first | rw [if_pos s_16_1] | rw [if_neg s_16_1] | rw [if_neg (Bool.eq_false_iff.mp s_16_1)] | skip)
      (first | rw [if_pos s_16_2] | rw [if_neg s_16_2] | rw [if_neg (Bool.eq_false_iff.mp s_16_2)] | skip)
      (try dsimp only)
      first
        | done
        | exact ⟨rfl, rfl⟩
        | rfl
        | (simp only [c_5, s_16_0, s_16_1, s_16_2, if_true, if_false, and_self, and_true, true_and, not_true_eq_false, not_false_eq_true, and_false, false_and, or_true, true_or, or_false, false_or, or_self, Bool.false_eq_true, reduceCtorEq, nl10, nl20, nl30, nl40, nl50, nl60, nl70, nl12, nl13, nl21, nl23, nl31, nl32]; first | done | exact ⟨rfl, rfl⟩ | rfl)
        | contradiction
        | (simp only [c_5, s_16_0, s_16_1, s_16_2, if_true, if_false, and_self, and_true, true_and, not_true_eq_false, not_false_eq_true, and_false, false_and, or_true, true_or, or_false, false_or, or_self, Bool.false_eq_true, reduceCtorEq, nl10, nl20, nl30, nl40, nl50, nl60, nl70, nl12, nl13, nl21, nl23, nl31, nl32]; contradiction)
        | (exfalso; simp_all; done)
        | simp_all
    by_cases s_16_3 : what = 3
    · refine lv_tableIn (tgt := 85) hx hb dX8_thingOf_16 (by rw [s_16_3]; decide) (by rw [s_16_3]; decide) (by rw [s_16_3]; rfl) (by decide) ?_
      refine lv_aload_n hx hb dX8_thingOf_85 rfl (lv_at hl 0 rfl) ?_
      refine f_get X hP (T := TX8) (ci := 8) (k := 86) rfl inX8 rfl 17 (by decide) m_4_191 rfl (v := .ref (fad E 96)) rfl dX8_thingOf_86 ?_
      refine lv_iload_n hx hb dX8_thingOf_89 rfl (lv_at hl 1 rfl) ?_
      have hix_4 : fIx t 8 t.toNatClampNeg := by
        first
          | exact fIx_lt 8 c_5.1 c_5.2 (by decide)
          | exact fIx_lt 8 s_16_0.1 s_16_0.2 (by decide)
          | exact fIx_lt 8 s_16_1.1 s_16_1.2 (by decide)
          | exact fIx_lt 8 s_16_2.1 s_16_2.2 (by decide)
          | exact fIx_lt 8 s_16_3.1 s_16_3.2 (by decide)
          | exact fIx_cnt 8 c_5.1 c_5.2 htc htc8 (by decide)
          | exact fIx_cnt 8 s_16_0.1 s_16_0.2 htc htc8 (by decide)
          | exact fIx_cnt 8 s_16_1.1 s_16_1.2 htc htc8 (by decide)
          | exact fIx_cnt 8 s_16_2.1 s_16_2.2 htc htc8 (by decide)
          | exact fIx_cnt 8 s_16_3.1 s_16_3.2 htc htc8 (by decide)
          | exact fIx_le 7 c_5.1 c_5.2 (by decide)
          | exact fIx_le 7 s_16_0.1 s_16_0.2 (by decide)
          | exact fIx_le 7 s_16_1.1 s_16_1.2 (by decide)
          | exact fIx_le 7 s_16_2.1 s_16_2.2 (by decide)
          | exact fIx_le 7 s_16_3.1 s_16_3.2 (by decide)
          | exact fIx_lt 8 c_5.1 c_5.2.2 (by decide)
          | exact fIx_lt 8 s_16_0.1 s_16_0.2.2 (by decide)
          | exact fIx_lt 8 s_16_1.1 s_16_1.2.2 (by decide)
          | exact fIx_lt 8 s_16_2.1 s_16_2.2.2 (by decide)
          | exact fIx_lt 8 s_16_3.1 s_16_3.2.2 (by decide)
          | exact fIx_le 7 (rr0 c_5).1.1 (rr0 c_5).1.2 (by decide)
          | exact fIx_le 7 (rr0 s_16_0).1.1 (rr0 s_16_0).1.2 (by decide)
          | exact fIx_le 7 (rr0 s_16_1).1.1 (rr0 s_16_1).1.2 (by decide)
          | exact fIx_le 7 (rr0 s_16_2).1.1 (rr0 s_16_2).1.2 (by decide)
          | exact fIx_le 7 (rr0 s_16_3).1.1 (rr0 s_16_3).1.2 (by decide)
          | (refine fIx_lt 8 (show (0 : Int32) ≤ t from ?_) (show t < (8 : Int32) from ?_) (by decide) <;> (have e0_9 : (0 : Int32).toInt = 0 := rfl; have en_9 : (8 : Int32).toInt = 8 := rfl; simp only [Int32.lt_iff_toInt_lt, Int32.le_iff_toInt_le, Int32.not_lt, Int32.not_le, ← Int32.toInt_inj] at *; omega))
      have hlt_4 := hix_4.2.2
      refine f_iald X hP (k := 96) (n := 8) (q := t.toNatClampNeg) rfl rfl hix_4 dX8_thingOf_90 ?_
      refine f_ir X hlk hr (v := (M 96 t.toNatClampNeg)) rfl hP hS ?_ dX8_thingOf_91
      unfold a_X8_thingOf
      (first | rw [if_pos c_5] | rw [if_neg c_5] | rw [if_neg (Bool.eq_false_iff.mp c_5)] | skip)
      (first | rw [if_pos s_16_0] | rw [if_neg s_16_0] | rw [if_neg (Bool.eq_false_iff.mp s_16_0)] | skip)
      (first | rw [if_pos s_16_1] | rw [if_neg s_16_1] | rw [if_neg (Bool.eq_false_iff.mp s_16_1)] | skip)
      (first | rw [if_pos s_16_2] | rw [if_neg s_16_2] | rw [if_neg (Bool.eq_false_iff.mp s_16_2)] | skip)
      (first | rw [if_pos s_16_3] | rw [if_neg s_16_3] | rw [if_neg (Bool.eq_false_iff.mp s_16_3)] | skip)
      (try dsimp only)
      first
        | done
        | exact ⟨rfl, rfl⟩
        | rfl
        | (simp only [c_5, s_16_0, s_16_1, s_16_2, s_16_3, if_true, if_false, and_self, and_true, true_and, not_true_eq_false, not_false_eq_true, and_false, false_and, or_true, true_or, or_false, false_or, or_self, Bool.false_eq_true, reduceCtorEq, nl10, nl20, nl30, nl40, nl50, nl60, nl70, nl12, nl13, nl21, nl23, nl31, nl32]; first | done | exact ⟨rfl, rfl⟩ | rfl)
        | contradiction
        | (simp only [c_5, s_16_0, s_16_1, s_16_2, s_16_3, if_true, if_false, and_self, and_true, true_and, not_true_eq_false, not_false_eq_true, and_false, false_and, or_true, true_or, or_false, false_or, or_self, Bool.false_eq_true, reduceCtorEq, nl10, nl20, nl30, nl40, nl50, nl60, nl70, nl12, nl13, nl21, nl23, nl31, nl32]; contradiction)
        | (exfalso; simp_all; done)
        | simp_all
    by_cases s_16_4 : what = 4
    · refine lv_tableIn (tgt := 92) hx hb dX8_thingOf_16 (by rw [s_16_4]; decide) (by rw [s_16_4]; decide) (by rw [s_16_4]; rfl) (by decide) ?_
      refine lv_aload_n hx hb dX8_thingOf_92 rfl (lv_at hl 0 rfl) ?_
      refine f_get X hP (T := TX8) (ci := 8) (k := 86) rfl inX8 rfl 18 (by decide) m_4_192 rfl (v := .ref (fad E 97)) rfl dX8_thingOf_93 ?_
      refine lv_iload_n hx hb dX8_thingOf_96 rfl (lv_at hl 1 rfl) ?_
      have hix_5 : fIx t 8 t.toNatClampNeg := by
        first
          | exact fIx_lt 8 c_5.1 c_5.2 (by decide)
          | exact fIx_lt 8 s_16_0.1 s_16_0.2 (by decide)
          | exact fIx_lt 8 s_16_1.1 s_16_1.2 (by decide)
          | exact fIx_lt 8 s_16_2.1 s_16_2.2 (by decide)
          | exact fIx_lt 8 s_16_3.1 s_16_3.2 (by decide)
          | exact fIx_lt 8 s_16_4.1 s_16_4.2 (by decide)
          | exact fIx_cnt 8 c_5.1 c_5.2 htc htc8 (by decide)
          | exact fIx_cnt 8 s_16_0.1 s_16_0.2 htc htc8 (by decide)
          | exact fIx_cnt 8 s_16_1.1 s_16_1.2 htc htc8 (by decide)
          | exact fIx_cnt 8 s_16_2.1 s_16_2.2 htc htc8 (by decide)
          | exact fIx_cnt 8 s_16_3.1 s_16_3.2 htc htc8 (by decide)
          | exact fIx_cnt 8 s_16_4.1 s_16_4.2 htc htc8 (by decide)
          | exact fIx_le 7 c_5.1 c_5.2 (by decide)
          | exact fIx_le 7 s_16_0.1 s_16_0.2 (by decide)
          | exact fIx_le 7 s_16_1.1 s_16_1.2 (by decide)
          | exact fIx_le 7 s_16_2.1 s_16_2.2 (by decide)
          | exact fIx_le 7 s_16_3.1 s_16_3.2 (by decide)
          | exact fIx_le 7 s_16_4.1 s_16_4.2 (by decide)
          | exact fIx_lt 8 c_5.1 c_5.2.2 (by decide)
          | exact fIx_lt 8 s_16_0.1 s_16_0.2.2 (by decide)
          | exact fIx_lt 8 s_16_1.1 s_16_1.2.2 (by decide)
          | exact fIx_lt 8 s_16_2.1 s_16_2.2.2 (by decide)
          | exact fIx_lt 8 s_16_3.1 s_16_3.2.2 (by decide)
          | exact fIx_lt 8 s_16_4.1 s_16_4.2.2 (by decide)
          | exact fIx_le 7 (rr0 c_5).1.1 (rr0 c_5).1.2 (by decide)
          | exact fIx_le 7 (rr0 s_16_0).1.1 (rr0 s_16_0).1.2 (by decide)
          | exact fIx_le 7 (rr0 s_16_1).1.1 (rr0 s_16_1).1.2 (by decide)
          | exact fIx_le 7 (rr0 s_16_2).1.1 (rr0 s_16_2).1.2 (by decide)
          | exact fIx_le 7 (rr0 s_16_3).1.1 (rr0 s_16_3).1.2 (by decide)
          | exact fIx_le 7 (rr0 s_16_4).1.1 (rr0 s_16_4).1.2 (by decide)
          | (refine fIx_lt 8 (show (0 : Int32) ≤ t from ?_) (show t < (8 : Int32) from ?_) (by decide) <;> (have e0_9 : (0 : Int32).toInt = 0 := rfl; have en_9 : (8 : Int32).toInt = 8 := rfl; simp only [Int32.lt_iff_toInt_lt, Int32.le_iff_toInt_le, Int32.not_lt, Int32.not_le, ← Int32.toInt_inj] at *; omega))
      have hlt_5 := hix_5.2.2
      refine f_iald X hP (k := 97) (n := 8) (q := t.toNatClampNeg) rfl rfl hix_5 dX8_thingOf_97 ?_
      refine f_ir X hlk hr (v := (M 97 t.toNatClampNeg)) rfl hP hS ?_ dX8_thingOf_98
      unfold a_X8_thingOf
      (first | rw [if_pos c_5] | rw [if_neg c_5] | rw [if_neg (Bool.eq_false_iff.mp c_5)] | skip)
      (first | rw [if_pos s_16_0] | rw [if_neg s_16_0] | rw [if_neg (Bool.eq_false_iff.mp s_16_0)] | skip)
      (first | rw [if_pos s_16_1] | rw [if_neg s_16_1] | rw [if_neg (Bool.eq_false_iff.mp s_16_1)] | skip)
      (first | rw [if_pos s_16_2] | rw [if_neg s_16_2] | rw [if_neg (Bool.eq_false_iff.mp s_16_2)] | skip)
      (first | rw [if_pos s_16_3] | rw [if_neg s_16_3] | rw [if_neg (Bool.eq_false_iff.mp s_16_3)] | skip)
      (first | rw [if_pos s_16_4] | rw [if_neg s_16_4] | rw [if_neg (Bool.eq_false_iff.mp s_16_4)] | skip)
      (try dsimp only)
      first
        | done
        | exact ⟨rfl, rfl⟩
        | rfl
        | (simp only [c_5, s_16_0, s_16_1, s_16_2, s_16_3, s_16_4, if_true, if_false, and_self, and_true, true_and, not_true_eq_false, not_false_eq_true, and_false, false_and, or_true, true_or, or_false, false_or, or_self, Bool.false_eq_true, reduceCtorEq, nl10, nl20, nl30, nl40, nl50, nl60, nl70, nl12, nl13, nl21, nl23, nl31, nl32]; first | done | exact ⟨rfl, rfl⟩ | rfl)
        | contradiction
        | (simp only [c_5, s_16_0, s_16_1, s_16_2, s_16_3, s_16_4, if_true, if_false, and_self, and_true, true_and, not_true_eq_false, not_false_eq_true, and_false, false_and, or_true, true_or, or_false, false_or, or_self, Bool.false_eq_true, reduceCtorEq, nl10, nl20, nl30, nl40, nl50, nl60, nl70, nl12, nl13, nl21, nl23, nl31, nl32]; contradiction)
        | (exfalso; simp_all; done)
        | simp_all
    by_cases s_16_5 : what = 5
    · refine lv_tableIn (tgt := 99) hx hb dX8_thingOf_16 (by rw [s_16_5]; decide) (by rw [s_16_5]; decide) (by rw [s_16_5]; rfl) (by decide) ?_
      refine lv_aload_n hx hb dX8_thingOf_99 rfl (lv_at hl 0 rfl) ?_
      refine f_get X hP (T := TX8) (ci := 8) (k := 86) rfl inX8 rfl 19 (by decide) m_4_193 rfl (v := .ref (fad E 98)) rfl dX8_thingOf_100 ?_
      refine lv_iload_n hx hb dX8_thingOf_103 rfl (lv_at hl 1 rfl) ?_
      have hix_6 : fIx t 8 t.toNatClampNeg := by
        first
          | exact fIx_lt 8 c_5.1 c_5.2 (by decide)
          | exact fIx_lt 8 s_16_0.1 s_16_0.2 (by decide)
          | exact fIx_lt 8 s_16_1.1 s_16_1.2 (by decide)
          | exact fIx_lt 8 s_16_2.1 s_16_2.2 (by decide)
          | exact fIx_lt 8 s_16_3.1 s_16_3.2 (by decide)
          | exact fIx_lt 8 s_16_4.1 s_16_4.2 (by decide)
          | exact fIx_lt 8 s_16_5.1 s_16_5.2 (by decide)
          | exact fIx_cnt 8 c_5.1 c_5.2 htc htc8 (by decide)
          | exact fIx_cnt 8 s_16_0.1 s_16_0.2 htc htc8 (by decide)
          | exact fIx_cnt 8 s_16_1.1 s_16_1.2 htc htc8 (by decide)
          | exact fIx_cnt 8 s_16_2.1 s_16_2.2 htc htc8 (by decide)
          | exact fIx_cnt 8 s_16_3.1 s_16_3.2 htc htc8 (by decide)
          | exact fIx_cnt 8 s_16_4.1 s_16_4.2 htc htc8 (by decide)
          | exact fIx_cnt 8 s_16_5.1 s_16_5.2 htc htc8 (by decide)
          | exact fIx_le 7 c_5.1 c_5.2 (by decide)
          | exact fIx_le 7 s_16_0.1 s_16_0.2 (by decide)
          | exact fIx_le 7 s_16_1.1 s_16_1.2 (by decide)
          | exact fIx_le 7 s_16_2.1 s_16_2.2 (by decide)
          | exact fIx_le 7 s_16_3.1 s_16_3.2 (by decide)
          | exact fIx_le 7 s_16_4.1 s_16_4.2 (by decide)
          | exact fIx_le 7 s_16_5.1 s_16_5.2 (by decide)
          | exact fIx_lt 8 c_5.1 c_5.2.2 (by decide)
          | exact fIx_lt 8 s_16_0.1 s_16_0.2.2 (by decide)
          | exact fIx_lt 8 s_16_1.1 s_16_1.2.2 (by decide)
          | exact fIx_lt 8 s_16_2.1 s_16_2.2.2 (by decide)
          | exact fIx_lt 8 s_16_3.1 s_16_3.2.2 (by decide)
          | exact fIx_lt 8 s_16_4.1 s_16_4.2.2 (by decide)
          | exact fIx_lt 8 s_16_5.1 s_16_5.2.2 (by decide)
          | exact fIx_le 7 (rr0 c_5).1.1 (rr0 c_5).1.2 (by decide)
          | exact fIx_le 7 (rr0 s_16_0).1.1 (rr0 s_16_0).1.2 (by decide)
          | exact fIx_le 7 (rr0 s_16_1).1.1 (rr0 s_16_1).1.2 (by decide)
          | exact fIx_le 7 (rr0 s_16_2).1.1 (rr0 s_16_2).1.2 (by decide)
          | exact fIx_le 7 (rr0 s_16_3).1.1 (rr0 s_16_3).1.2 (by decide)
          | exact fIx_le 7 (rr0 s_16_4).1.1 (rr0 s_16_4).1.2 (by decide)
          | exact fIx_le 7 (rr0 s_16_5).1.1 (rr0 s_16_5).1.2 (by decide)
          | (refine fIx_lt 8 (show (0 : Int32) ≤ t from ?_) (show t < (8 : Int32) from ?_) (by decide) <;> (have e0_9 : (0 : Int32).toInt = 0 := rfl; have en_9 : (8 : Int32).toInt = 8 := rfl; simp only [Int32.lt_iff_toInt_lt, Int32.le_iff_toInt_le, Int32.not_lt, Int32.not_le, ← Int32.toInt_inj] at *; omega))
      have hlt_6 := hix_6.2.2
      refine f_iald X hP (k := 98) (n := 8) (q := t.toNatClampNeg) rfl rfl hix_6 dX8_thingOf_104 ?_
      refine f_ir X hlk hr (v := (M 98 t.toNatClampNeg)) rfl hP hS ?_ dX8_thingOf_105
      unfold a_X8_thingOf
      (first | rw [if_pos c_5] | rw [if_neg c_5] | rw [if_neg (Bool.eq_false_iff.mp c_5)] | skip)
      (first | rw [if_pos s_16_0] | rw [if_neg s_16_0] | rw [if_neg (Bool.eq_false_iff.mp s_16_0)] | skip)
      (first | rw [if_pos s_16_1] | rw [if_neg s_16_1] | rw [if_neg (Bool.eq_false_iff.mp s_16_1)] | skip)
      (first | rw [if_pos s_16_2] | rw [if_neg s_16_2] | rw [if_neg (Bool.eq_false_iff.mp s_16_2)] | skip)
      (first | rw [if_pos s_16_3] | rw [if_neg s_16_3] | rw [if_neg (Bool.eq_false_iff.mp s_16_3)] | skip)
      (first | rw [if_pos s_16_4] | rw [if_neg s_16_4] | rw [if_neg (Bool.eq_false_iff.mp s_16_4)] | skip)
      (first | rw [if_pos s_16_5] | rw [if_neg s_16_5] | rw [if_neg (Bool.eq_false_iff.mp s_16_5)] | skip)
      (try dsimp only)
      first
        | done
        | exact ⟨rfl, rfl⟩
        | rfl
        | (simp only [c_5, s_16_0, s_16_1, s_16_2, s_16_3, s_16_4, s_16_5, if_true, if_false, and_self, and_true, true_and, not_true_eq_false, not_false_eq_true, and_false, false_and, or_true, true_or, or_false, false_or, or_self, Bool.false_eq_true, reduceCtorEq, nl10, nl20, nl30, nl40, nl50, nl60, nl70, nl12, nl13, nl21, nl23, nl31, nl32]; first | done | exact ⟨rfl, rfl⟩ | rfl)
        | contradiction
        | (simp only [c_5, s_16_0, s_16_1, s_16_2, s_16_3, s_16_4, s_16_5, if_true, if_false, and_self, and_true, true_and, not_true_eq_false, not_false_eq_true, and_false, false_and, or_true, true_or, or_false, false_or, or_self, Bool.false_eq_true, reduceCtorEq, nl10, nl20, nl30, nl40, nl50, nl60, nl70, nl12, nl13, nl21, nl23, nl31, nl32]; contradiction)
        | (exfalso; simp_all; done)
        | simp_all
    by_cases s_16_6 : what = 6
    · refine lv_tableIn (tgt := 106) hx hb dX8_thingOf_16 (by rw [s_16_6]; decide) (by rw [s_16_6]; decide) (by rw [s_16_6]; rfl) (by decide) ?_
      refine lv_aload_n hx hb dX8_thingOf_106 rfl (lv_at hl 0 rfl) ?_
      refine f_get X hP (T := TX8) (ci := 8) (k := 86) rfl inX8 rfl 20 (by decide) m_4_194 rfl (v := .ref (fad E 99)) rfl dX8_thingOf_107 ?_
      refine lv_iload_n hx hb dX8_thingOf_110 rfl (lv_at hl 1 rfl) ?_
      have hix_7 : fIx t 8 t.toNatClampNeg := by
        first
          | exact fIx_lt 8 c_5.1 c_5.2 (by decide)
          | exact fIx_lt 8 s_16_0.1 s_16_0.2 (by decide)
          | exact fIx_lt 8 s_16_1.1 s_16_1.2 (by decide)
          | exact fIx_lt 8 s_16_2.1 s_16_2.2 (by decide)
          | exact fIx_lt 8 s_16_3.1 s_16_3.2 (by decide)
          | exact fIx_lt 8 s_16_4.1 s_16_4.2 (by decide)
          | exact fIx_lt 8 s_16_5.1 s_16_5.2 (by decide)
          | exact fIx_lt 8 s_16_6.1 s_16_6.2 (by decide)
          | exact fIx_cnt 8 c_5.1 c_5.2 htc htc8 (by decide)
          | exact fIx_cnt 8 s_16_0.1 s_16_0.2 htc htc8 (by decide)
          | exact fIx_cnt 8 s_16_1.1 s_16_1.2 htc htc8 (by decide)
          | exact fIx_cnt 8 s_16_2.1 s_16_2.2 htc htc8 (by decide)
          | exact fIx_cnt 8 s_16_3.1 s_16_3.2 htc htc8 (by decide)
          | exact fIx_cnt 8 s_16_4.1 s_16_4.2 htc htc8 (by decide)
          | exact fIx_cnt 8 s_16_5.1 s_16_5.2 htc htc8 (by decide)
          | exact fIx_cnt 8 s_16_6.1 s_16_6.2 htc htc8 (by decide)
          | exact fIx_le 7 c_5.1 c_5.2 (by decide)
          | exact fIx_le 7 s_16_0.1 s_16_0.2 (by decide)
          | exact fIx_le 7 s_16_1.1 s_16_1.2 (by decide)
          | exact fIx_le 7 s_16_2.1 s_16_2.2 (by decide)
          | exact fIx_le 7 s_16_3.1 s_16_3.2 (by decide)
          | exact fIx_le 7 s_16_4.1 s_16_4.2 (by decide)
          | exact fIx_le 7 s_16_5.1 s_16_5.2 (by decide)
          | exact fIx_le 7 s_16_6.1 s_16_6.2 (by decide)
          | exact fIx_lt 8 c_5.1 c_5.2.2 (by decide)
          | exact fIx_lt 8 s_16_0.1 s_16_0.2.2 (by decide)
          | exact fIx_lt 8 s_16_1.1 s_16_1.2.2 (by decide)
          | exact fIx_lt 8 s_16_2.1 s_16_2.2.2 (by decide)
          | exact fIx_lt 8 s_16_3.1 s_16_3.2.2 (by decide)
          | exact fIx_lt 8 s_16_4.1 s_16_4.2.2 (by decide)
          | exact fIx_lt 8 s_16_5.1 s_16_5.2.2 (by decide)
          | exact fIx_lt 8 s_16_6.1 s_16_6.2.2 (by decide)
          | exact fIx_le 7 (rr0 c_5).1.1 (rr0 c_5).1.2 (by decide)
          | exact fIx_le 7 (rr0 s_16_0).1.1 (rr0 s_16_0).1.2 (by decide)
          | exact fIx_le 7 (rr0 s_16_1).1.1 (rr0 s_16_1).1.2 (by decide)
          | exact fIx_le 7 (rr0 s_16_2).1.1 (rr0 s_16_2).1.2 (by decide)
          | exact fIx_le 7 (rr0 s_16_3).1.1 (rr0 s_16_3).1.2 (by decide)
          | exact fIx_le 7 (rr0 s_16_4).1.1 (rr0 s_16_4).1.2 (by decide)
          | exact fIx_le 7 (rr0 s_16_5).1.1 (rr0 s_16_5).1.2 (by decide)
          | exact fIx_le 7 (rr0 s_16_6).1.1 (rr0 s_16_6).1.2 (by decide)
          | (refine fIx_lt 8 (show (0 : Int32) ≤ t from ?_) (show t < (8 : Int32) from ?_) (by decide) <;> (have e0_9 : (0 : Int32).toInt = 0 := rfl; have en_9 : (8 : Int32).toInt = 8 := rfl; simp only [Int32.lt_iff_toInt_lt, Int32.le_iff_toInt_le, Int32.not_lt, Int32.not_le, ← Int32.toInt_inj] at *; omega))
      have hlt_7 := hix_7.2.2
      refine f_iald X hP (k := 99) (n := 8) (q := t.toNatClampNeg) rfl rfl hix_7 dX8_thingOf_111 ?_
      refine f_ir X hlk hr (v := (M 99 t.toNatClampNeg)) rfl hP hS ?_ dX8_thingOf_112
      unfold a_X8_thingOf
      (first | rw [if_pos c_5] | rw [if_neg c_5] | rw [if_neg (Bool.eq_false_iff.mp c_5)] | skip)
      (first | rw [if_pos s_16_0] | rw [if_neg s_16_0] | rw [if_neg (Bool.eq_false_iff.mp s_16_0)] | skip)
      (first | rw [if_pos s_16_1] | rw [if_neg s_16_1] | rw [if_neg (Bool.eq_false_iff.mp s_16_1)] | skip)
      (first | rw [if_pos s_16_2] | rw [if_neg s_16_2] | rw [if_neg (Bool.eq_false_iff.mp s_16_2)] | skip)
      (first | rw [if_pos s_16_3] | rw [if_neg s_16_3] | rw [if_neg (Bool.eq_false_iff.mp s_16_3)] | skip)
      (first | rw [if_pos s_16_4] | rw [if_neg s_16_4] | rw [if_neg (Bool.eq_false_iff.mp s_16_4)] | skip)
      (first | rw [if_pos s_16_5] | rw [if_neg s_16_5] | rw [if_neg (Bool.eq_false_iff.mp s_16_5)] | skip)
      (first | rw [if_pos s_16_6] | rw [if_neg s_16_6] | rw [if_neg (Bool.eq_false_iff.mp s_16_6)] | skip)
      (try dsimp only)
      first
        | done
        | exact ⟨rfl, rfl⟩
        | rfl
        | (simp only [c_5, s_16_0, s_16_1, s_16_2, s_16_3, s_16_4, s_16_5, s_16_6, if_true, if_false, and_self, and_true, true_and, not_true_eq_false, not_false_eq_true, and_false, false_and, or_true, true_or, or_false, false_or, or_self, Bool.false_eq_true, reduceCtorEq, nl10, nl20, nl30, nl40, nl50, nl60, nl70, nl12, nl13, nl21, nl23, nl31, nl32]; first | done | exact ⟨rfl, rfl⟩ | rfl)
        | contradiction
        | (simp only [c_5, s_16_0, s_16_1, s_16_2, s_16_3, s_16_4, s_16_5, s_16_6, if_true, if_false, and_self, and_true, true_and, not_true_eq_false, not_false_eq_true, and_false, false_and, or_true, true_or, or_false, false_or, or_self, Bool.false_eq_true, reduceCtorEq, nl10, nl20, nl30, nl40, nl50, nl60, nl70, nl12, nl13, nl21, nl23, nl31, nl32]; contradiction)
        | (exfalso; simp_all; done)
        | simp_all
    by_cases s_16_7 : what = 7
    · refine lv_tableIn (tgt := 113) hx hb dX8_thingOf_16 (by rw [s_16_7]; decide) (by rw [s_16_7]; decide) (by rw [s_16_7]; rfl) (by decide) ?_
      refine lv_aload_n hx hb dX8_thingOf_113 rfl (lv_at hl 0 rfl) ?_
      refine lv_iload_n hx hb dX8_thingOf_114 rfl (lv_at hl 1 rfl) ?_
      have hix_8 : fIx t 8 t.toNatClampNeg := by
        first
          | exact fIx_lt 8 c_5.1 c_5.2 (by decide)
          | exact fIx_lt 8 s_16_0.1 s_16_0.2 (by decide)
          | exact fIx_lt 8 s_16_1.1 s_16_1.2 (by decide)
          | exact fIx_lt 8 s_16_2.1 s_16_2.2 (by decide)
          | exact fIx_lt 8 s_16_3.1 s_16_3.2 (by decide)
          | exact fIx_lt 8 s_16_4.1 s_16_4.2 (by decide)
          | exact fIx_lt 8 s_16_5.1 s_16_5.2 (by decide)
          | exact fIx_lt 8 s_16_6.1 s_16_6.2 (by decide)
          | exact fIx_lt 8 s_16_7.1 s_16_7.2 (by decide)
          | exact fIx_cnt 8 c_5.1 c_5.2 htc htc8 (by decide)
          | exact fIx_cnt 8 s_16_0.1 s_16_0.2 htc htc8 (by decide)
          | exact fIx_cnt 8 s_16_1.1 s_16_1.2 htc htc8 (by decide)
          | exact fIx_cnt 8 s_16_2.1 s_16_2.2 htc htc8 (by decide)
          | exact fIx_cnt 8 s_16_3.1 s_16_3.2 htc htc8 (by decide)
          | exact fIx_cnt 8 s_16_4.1 s_16_4.2 htc htc8 (by decide)
          | exact fIx_cnt 8 s_16_5.1 s_16_5.2 htc htc8 (by decide)
          | exact fIx_cnt 8 s_16_6.1 s_16_6.2 htc htc8 (by decide)
          | exact fIx_cnt 8 s_16_7.1 s_16_7.2 htc htc8 (by decide)
          | exact fIx_le 7 c_5.1 c_5.2 (by decide)
          | exact fIx_le 7 s_16_0.1 s_16_0.2 (by decide)
          | exact fIx_le 7 s_16_1.1 s_16_1.2 (by decide)
          | exact fIx_le 7 s_16_2.1 s_16_2.2 (by decide)
          | exact fIx_le 7 s_16_3.1 s_16_3.2 (by decide)
          | exact fIx_le 7 s_16_4.1 s_16_4.2 (by decide)
          | exact fIx_le 7 s_16_5.1 s_16_5.2 (by decide)
          | exact fIx_le 7 s_16_6.1 s_16_6.2 (by decide)
          | exact fIx_le 7 s_16_7.1 s_16_7.2 (by decide)
          | exact fIx_lt 8 c_5.1 c_5.2.2 (by decide)
          | exact fIx_lt 8 s_16_0.1 s_16_0.2.2 (by decide)
          | exact fIx_lt 8 s_16_1.1 s_16_1.2.2 (by decide)
          | exact fIx_lt 8 s_16_2.1 s_16_2.2.2 (by decide)
          | exact fIx_lt 8 s_16_3.1 s_16_3.2.2 (by decide)
          | exact fIx_lt 8 s_16_4.1 s_16_4.2.2 (by decide)
          | exact fIx_lt 8 s_16_5.1 s_16_5.2.2 (by decide)
          | exact fIx_lt 8 s_16_6.1 s_16_6.2.2 (by decide)
          | exact fIx_lt 8 s_16_7.1 s_16_7.2.2 (by decide)
          | exact fIx_le 7 (rr0 c_5).1.1 (rr0 c_5).1.2 (by decide)
          | exact fIx_le 7 (rr0 s_16_0).1.1 (rr0 s_16_0).1.2 (by decide)
          | exact fIx_le 7 (rr0 s_16_1).1.1 (rr0 s_16_1).1.2 (by decide)
          | exact fIx_le 7 (rr0 s_16_2).1.1 (rr0 s_16_2).1.2 (by decide)
          | exact fIx_le 7 (rr0 s_16_3).1.1 (rr0 s_16_3).1.2 (by decide)
          | exact fIx_le 7 (rr0 s_16_4).1.1 (rr0 s_16_4).1.2 (by decide)
          | exact fIx_le 7 (rr0 s_16_5).1.1 (rr0 s_16_5).1.2 (by decide)
          | exact fIx_le 7 (rr0 s_16_6).1.1 (rr0 s_16_6).1.2 (by decide)
          | exact fIx_le 7 (rr0 s_16_7).1.1 (rr0 s_16_7).1.2 (by decide)
          | (refine fIx_lt 8 (show (0 : Int32) ≤ t from ?_) (show t < (8 : Int32) from ?_) (by decide) <;> (have e0_9 : (0 : Int32).toInt = 0 := rfl; have en_9 : (8 : Int32).toInt = 8 := rfl; simp only [Int32.lt_iff_toInt_lt, Int32.le_iff_toInt_le, Int32.not_lt, Int32.not_le, ← Int32.toInt_inj] at *; omega))
      have hlt_8 := hix_8.2.2
      refine f_iV (n := 1) X hP hS [.int t] [] (c_X8_cases l E M L t t.toNatClampNeg hix_8) m_5_152 wi_X8_cases rfl rfl (by decide) (by decide +kernel) ⟨Nat.le_of_ble_eq_true rfl, Nat.le_of_ble_eq_true rfl⟩ rfl hl rfl (Nat.le_of_ble_eq_true rfl) ⟨Nat.zero_le _, Nat.zero_le _⟩ dX8_thingOf_115 (fun H locs hP hS => ?_)
      refine f_ir X hlk hr (v := (a_X8_cases M L t t.toNatClampNeg)) rfl hP hS ?_ dX8_thingOf_118
      unfold a_X8_thingOf
      (first | rw [if_pos c_5] | rw [if_neg c_5] | rw [if_neg (Bool.eq_false_iff.mp c_5)] | skip)
      (first | rw [if_pos s_16_0] | rw [if_neg s_16_0] | rw [if_neg (Bool.eq_false_iff.mp s_16_0)] | skip)
      (first | rw [if_pos s_16_1] | rw [if_neg s_16_1] | rw [if_neg (Bool.eq_false_iff.mp s_16_1)] | skip)
      (first | rw [if_pos s_16_2] | rw [if_neg s_16_2] | rw [if_neg (Bool.eq_false_iff.mp s_16_2)] | skip)
      (first | rw [if_pos s_16_3] | rw [if_neg s_16_3] | rw [if_neg (Bool.eq_false_iff.mp s_16_3)] | skip)
      (first | rw [if_pos s_16_4] | rw [if_neg s_16_4] | rw [if_neg (Bool.eq_false_iff.mp s_16_4)] | skip)
      (first | rw [if_pos s_16_5] | rw [if_neg s_16_5] | rw [if_neg (Bool.eq_false_iff.mp s_16_5)] | skip)
      (first | rw [if_pos s_16_6] | rw [if_neg s_16_6] | rw [if_neg (Bool.eq_false_iff.mp s_16_6)] | skip)
      (first | rw [if_pos s_16_7] | rw [if_neg s_16_7] | rw [if_neg (Bool.eq_false_iff.mp s_16_7)] | skip)
      (try dsimp only)
      first
        | done
        | exact ⟨rfl, rfl⟩
        | rfl
        | (simp only [c_5, s_16_0, s_16_1, s_16_2, s_16_3, s_16_4, s_16_5, s_16_6, s_16_7, if_true, if_false, and_self, and_true, true_and, not_true_eq_false, not_false_eq_true, and_false, false_and, or_true, true_or, or_false, false_or, or_self, Bool.false_eq_true, reduceCtorEq, nl10, nl20, nl30, nl40, nl50, nl60, nl70, nl12, nl13, nl21, nl23, nl31, nl32]; first | done | exact ⟨rfl, rfl⟩ | rfl)
        | contradiction
        | (simp only [c_5, s_16_0, s_16_1, s_16_2, s_16_3, s_16_4, s_16_5, s_16_6, s_16_7, if_true, if_false, and_self, and_true, true_and, not_true_eq_false, not_false_eq_true, and_false, false_and, or_true, true_or, or_false, false_or, or_self, Bool.false_eq_true, reduceCtorEq, nl10, nl20, nl30, nl40, nl50, nl60, nl70, nl12, nl13, nl21, nl23, nl31, nl32]; contradiction)
        | (exfalso; simp_all; done)
        | simp_all
    refine lv_tableOut (tgt := 119) hx hb dX8_thingOf_16 (by have q0 := lv_neT s_16_0 (a := 0) rfl; have q1 := lv_neT s_16_1 (a := 1) rfl; have q2 := lv_neT s_16_2 (a := 2) rfl; have q3 := lv_neT s_16_3 (a := 3) rfl; have q4 := lv_neT s_16_4 (a := 4) rfl; have q5 := lv_neT s_16_5 (a := 5) rfl; have q6 := lv_neT s_16_6 (a := 6) rfl; have q7 := lv_neT s_16_7 (a := 7) rfl; omega) (by decide) ?_
    refine lv_aload_n hx hb dX8_thingOf_119 rfl (lv_at hl 0 rfl) ?_
    refine lv_bipush (v := (-5)) hx hb dX8_thingOf_120 (by decide) ?_
    refine f_iV (n := 1) X hP hS [.int (-5)] [] (c_X8_no l E M L (-5) (by decide)) m_5_84 wi_X8_no rfl rfl (by decide) (by decide +kernel) ⟨Nat.le_of_ble_eq_true rfl, Nat.le_of_ble_eq_true rfl⟩ rfl hl rfl (Nat.le_of_ble_eq_true rfl) ⟨Nat.zero_le _, Nat.zero_le _⟩ dX8_thingOf_122 (fun H locs hP hS => ?_)
    refine f_ir X hlk hr (v := (-5)) rfl hP hS ?_ dX8_thingOf_125
    unfold a_X8_thingOf
    (first | rw [if_pos c_5] | rw [if_neg c_5] | rw [if_neg (Bool.eq_false_iff.mp c_5)] | skip)
    (first | rw [if_pos s_16_0] | rw [if_neg s_16_0] | rw [if_neg (Bool.eq_false_iff.mp s_16_0)] | skip)
    (first | rw [if_pos s_16_1] | rw [if_neg s_16_1] | rw [if_neg (Bool.eq_false_iff.mp s_16_1)] | skip)
    (first | rw [if_pos s_16_2] | rw [if_neg s_16_2] | rw [if_neg (Bool.eq_false_iff.mp s_16_2)] | skip)
    (first | rw [if_pos s_16_3] | rw [if_neg s_16_3] | rw [if_neg (Bool.eq_false_iff.mp s_16_3)] | skip)
    (first | rw [if_pos s_16_4] | rw [if_neg s_16_4] | rw [if_neg (Bool.eq_false_iff.mp s_16_4)] | skip)
    (first | rw [if_pos s_16_5] | rw [if_neg s_16_5] | rw [if_neg (Bool.eq_false_iff.mp s_16_5)] | skip)
    (first | rw [if_pos s_16_6] | rw [if_neg s_16_6] | rw [if_neg (Bool.eq_false_iff.mp s_16_6)] | skip)
    (first | rw [if_pos s_16_7] | rw [if_neg s_16_7] | rw [if_neg (Bool.eq_false_iff.mp s_16_7)] | skip)
    (try dsimp only)
    first
      | done
      | exact ⟨rfl, rfl⟩
      | rfl
      | (simp only [c_5, s_16_0, s_16_1, s_16_2, s_16_3, s_16_4, s_16_5, s_16_6, s_16_7, if_true, if_false, and_self, and_true, true_and, not_true_eq_false, not_false_eq_true, and_false, false_and, or_true, true_or, or_false, false_or, or_self, Bool.false_eq_true, reduceCtorEq, nl10, nl20, nl30, nl40, nl50, nl60, nl70, nl12, nl13, nl21, nl23, nl31, nl32]; first | done | exact ⟨rfl, rfl⟩ | rfl)
      | contradiction
      | (simp only [c_5, s_16_0, s_16_1, s_16_2, s_16_3, s_16_4, s_16_5, s_16_6, s_16_7, if_true, if_false, and_self, and_true, true_and, not_true_eq_false, not_false_eq_true, and_false, false_and, or_true, true_or, or_false, false_or, or_self, Bool.false_eq_true, reduceCtorEq, nl10, nl20, nl30, nl40, nl50, nl60, nl70, nl12, nl13, nl21, nl23, nl31, nl32]; contradiction)
      | (exfalso; simp_all; done)
      | simp_all
  · have c_5 := bI0 c_5
    refine lv_aload_n hx hb dX8_thingOf_8 rfl (lv_at hl 0 rfl) ?_
    refine lv_bipush (v := (-5)) hx hb dX8_thingOf_9 (by decide) ?_
    refine f_iV (n := 1) X hP hS [.int (-5)] [] (c_X8_no l E M L (-5) (by decide)) m_5_84 wi_X8_no rfl rfl (by decide) (by decide +kernel) ⟨Nat.le_of_ble_eq_true rfl, Nat.le_of_ble_eq_true rfl⟩ rfl hl rfl (Nat.le_of_ble_eq_true rfl) ⟨Nat.zero_le _, Nat.zero_le _⟩ dX8_thingOf_11 (fun H locs hP hS => ?_)
    refine f_ir X hlk hr (v := (-5)) rfl hP hS ?_ dX8_thingOf_14
    unfold a_X8_thingOf
    (first | rw [if_pos c_5] | rw [if_neg c_5] | rw [if_neg (Bool.eq_false_iff.mp c_5)] | skip)
    (try dsimp only)
    first
      | done
      | exact ⟨rfl, rfl⟩
      | rfl
      | (simp only [c_5, if_true, if_false, and_self, and_true, true_and, not_true_eq_false, not_false_eq_true, and_false, false_and, or_true, true_or, or_false, false_or, or_self, Bool.false_eq_true, reduceCtorEq, nl10, nl20, nl30, nl40, nl50, nl60, nl70, nl12, nl13, nl21, nl23, nl31, nl32]; first | done | exact ⟨rfl, rfl⟩ | rfl)
      | contradiction
      | (simp only [c_5, if_true, if_false, and_self, and_true, true_and, not_true_eq_false, not_false_eq_true, and_false, false_and, or_true, true_or, or_false, false_or, or_self, Bool.false_eq_true, reduceCtorEq, nl10, nl20, nl30, nl40, nl50, nl60, nl70, nl12, nl13, nl21, nl23, nl31, nl32]; contradiction)
      | (exfalso; simp_all; done)
      | simp_all

def a_X8_waiterOf (M : Nat → Nat → Int32) (L : Nat → Nat → Int64) (w : Int32) (what : Int32) (wc : Nat) : fR := (if (0 ≤ w ∧ w < (M 86 0)) then (if what = 0 then ((M 88 w.toNatClampNeg), M, L) else (if what = 1 then ((M 89 w.toNatClampNeg), M, L) else (if what = 2 then ((M 90 w.toNatClampNeg), M, L) else (if what = 3 then ((M 91 w.toNatClampNeg), M, L) else (if what = 4 then ((M 92 w.toNatClampNeg), M, L) else (if what = 5 then ((a_X8_holding M L w w.toNatClampNeg), M, L) else (if what = 6 then ((a_X8_sees M L w w.toNatClampNeg), M, L) else ((-5), (noM M (-5)), L)))))))) else ((-5), (noM M (-5)), L))
set_option maxHeartbeats 1000000 in
set_option maxRecDepth 100000 in
theorem c_X8_waiterOf (l : Launch) (E : fE) (M : Nat → Nat → Int32) (L : Nat → Nat → Int64) (w : Int32) (what : Int32) (wc : Nat) (hwc : M 86 0 = nI wc) (hwc6 : wc ≤ 6) : Met l yX8_waiterOf (wl yX8_waiterOf cX8_waiterOf 3 (some .int)) (fRm 1 23) (va_Pc [.ref (fad E 86), .int w, .int what] (fPre E M L)) (fQi E (fun r u => u = ((a_X8_waiterOf M L w what wc).2.1, L) ∧ r = (a_X8_waiterOf M L w what wc).1)) 0 0 (fA E) := by
  refine f_head (by decide) (Nat.le_of_ble_eq_true rfl) ?_
  intro pg ev s mi below meth cd ls X hr hlk hP hS hl
  have hx := X.1.1
  have hb := X.1.2.1
  have hl : lv_has ls 3 [(0, .ref (fad E 86)), (1, .int w), (2, .int what)] := hl
  refine lv_aload_n hx hb dX8_waiterOf_0 rfl (lv_at hl 0 rfl) ?_
  refine lv_iload_n hx hb dX8_waiterOf_1 rfl (lv_at hl 1 rfl) ?_
  refine f_iV (n := 1) X hP hS [.int w] [] (c_X8_isWaiter l E M L w) m_5_104 wi_X8_isWaiter rfl rfl (by decide) (by decide +kernel) ⟨Nat.le_of_ble_eq_true rfl, Nat.le_of_ble_eq_true rfl⟩ rfl hl rfl (Nat.le_of_ble_eq_true rfl) ⟨Nat.zero_le _, Nat.zero_le _⟩ dX8_waiterOf_2 (fun H locs hP hS => ?_)
  refine lv_if_ne (tgt := 15) hx hb dX8_waiterOf_5 (by decide) (fun c_5 => ?_) (fun c_5 => ?_)
  · have c_5 := bI1 c_5
    refine lv_iload_n hx hb dX8_waiterOf_15 rfl (lv_at hl 2 rfl) ?_
    by_cases s_16_0 : what = 0
    · refine lv_tableIn (tgt := 60) hx hb dX8_waiterOf_16 (by rw [s_16_0]; decide) (by rw [s_16_0]; decide) (by rw [s_16_0]; rfl) (by decide) ?_
      refine lv_aload_n hx hb dX8_waiterOf_60 rfl (lv_at hl 0 rfl) ?_
      refine f_get X hP (T := TX8) (ci := 8) (k := 86) rfl inX8 rfl 9 (by decide) m_4_183 rfl (v := .ref (fad E 88)) rfl dX8_waiterOf_61 ?_
      refine lv_iload_n hx hb dX8_waiterOf_64 rfl (lv_at hl 1 rfl) ?_
      have hix_1 : fIx w 6 w.toNatClampNeg := by
        first
          | exact fIx_lt 6 c_5.1 c_5.2 (by decide)
          | exact fIx_lt 6 s_16_0.1 s_16_0.2 (by decide)
          | exact fIx_cnt 6 c_5.1 c_5.2 hwc hwc6 (by decide)
          | exact fIx_cnt 6 s_16_0.1 s_16_0.2 hwc hwc6 (by decide)
          | exact fIx_le 5 c_5.1 c_5.2 (by decide)
          | exact fIx_le 5 s_16_0.1 s_16_0.2 (by decide)
          | exact fIx_lt 6 c_5.1 c_5.2.2 (by decide)
          | exact fIx_lt 6 s_16_0.1 s_16_0.2.2 (by decide)
          | exact fIx_le 5 (rr0 c_5).1.1 (rr0 c_5).1.2 (by decide)
          | exact fIx_le 5 (rr0 s_16_0).1.1 (rr0 s_16_0).1.2 (by decide)
          | (refine fIx_lt 6 (show (0 : Int32) ≤ w from ?_) (show w < (6 : Int32) from ?_) (by decide) <;> (have e0_9 : (0 : Int32).toInt = 0 := rfl; have en_9 : (6 : Int32).toInt = 6 := rfl; simp only [Int32.lt_iff_toInt_lt, Int32.le_iff_toInt_le, Int32.not_lt, Int32.not_le, ← Int32.toInt_inj] at *; omega))
      have hlt_1 := hix_1.2.2
      refine f_iald X hP (k := 88) (n := 6) (q := w.toNatClampNeg) rfl rfl hix_1 dX8_waiterOf_65 ?_
      refine f_ir X hlk hr (v := (M 88 w.toNatClampNeg)) rfl hP hS ?_ dX8_waiterOf_66
      unfold a_X8_waiterOf
      (first | rw [if_pos c_5] | rw [if_neg c_5] | rw [if_neg (Bool.eq_false_iff.mp c_5)] | skip)
      (first | rw [if_pos s_16_0] | rw [if_neg s_16_0] | rw [if_neg (Bool.eq_false_iff.mp s_16_0)] | skip)
      (try dsimp only)
      first
        | done
        | exact ⟨rfl, rfl⟩
        | rfl
        | (simp only [c_5, s_16_0, if_true, if_false, and_self, and_true, true_and, not_true_eq_false, not_false_eq_true, and_false, false_and, or_true, true_or, or_false, false_or, or_self, Bool.false_eq_true, reduceCtorEq, nl10, nl20, nl30, nl40, nl50, nl60, nl70, nl12, nl13, nl21, nl23, nl31, nl32]; first | done | exact ⟨rfl, rfl⟩ | rfl)
        | contradiction
        | (simp only [c_5, s_16_0, if_true, if_false, and_self, and_true, true_and, not_true_eq_false, not_false_eq_true, and_false, false_and, or_true, true_or, or_false, false_or, or_self, Bool.false_eq_true, reduceCtorEq, nl10, nl20, nl30, nl40, nl50, nl60, nl70, nl12, nl13, nl21, nl23, nl31, nl32]; contradiction)
        | (exfalso; simp_all; done)
        | simp_all
    by_cases s_16_1 : what = 1
    · refine lv_tableIn (tgt := 67) hx hb dX8_waiterOf_16 (by rw [s_16_1]; decide) (by rw [s_16_1]; decide) (by rw [s_16_1]; rfl) (by decide) ?_
      refine lv_aload_n hx hb dX8_waiterOf_67 rfl (lv_at hl 0 rfl) ?_
      refine f_get X hP (T := TX8) (ci := 8) (k := 86) rfl inX8 rfl 10 (by decide) m_4_184 rfl (v := .ref (fad E 89)) rfl dX8_waiterOf_68 ?_
      refine lv_iload_n hx hb dX8_waiterOf_71 rfl (lv_at hl 1 rfl) ?_
      have hix_2 : fIx w 6 w.toNatClampNeg := by
        first
          | exact fIx_lt 6 c_5.1 c_5.2 (by decide)
          | exact fIx_lt 6 s_16_0.1 s_16_0.2 (by decide)
          | exact fIx_lt 6 s_16_1.1 s_16_1.2 (by decide)
          | exact fIx_cnt 6 c_5.1 c_5.2 hwc hwc6 (by decide)
          | exact fIx_cnt 6 s_16_0.1 s_16_0.2 hwc hwc6 (by decide)
          | exact fIx_cnt 6 s_16_1.1 s_16_1.2 hwc hwc6 (by decide)
          | exact fIx_le 5 c_5.1 c_5.2 (by decide)
          | exact fIx_le 5 s_16_0.1 s_16_0.2 (by decide)
          | exact fIx_le 5 s_16_1.1 s_16_1.2 (by decide)
          | exact fIx_lt 6 c_5.1 c_5.2.2 (by decide)
          | exact fIx_lt 6 s_16_0.1 s_16_0.2.2 (by decide)
          | exact fIx_lt 6 s_16_1.1 s_16_1.2.2 (by decide)
          | exact fIx_le 5 (rr0 c_5).1.1 (rr0 c_5).1.2 (by decide)
          | exact fIx_le 5 (rr0 s_16_0).1.1 (rr0 s_16_0).1.2 (by decide)
          | exact fIx_le 5 (rr0 s_16_1).1.1 (rr0 s_16_1).1.2 (by decide)
          | (refine fIx_lt 6 (show (0 : Int32) ≤ w from ?_) (show w < (6 : Int32) from ?_) (by decide) <;> (have e0_9 : (0 : Int32).toInt = 0 := rfl; have en_9 : (6 : Int32).toInt = 6 := rfl; simp only [Int32.lt_iff_toInt_lt, Int32.le_iff_toInt_le, Int32.not_lt, Int32.not_le, ← Int32.toInt_inj] at *; omega))
      have hlt_2 := hix_2.2.2
      refine f_iald X hP (k := 89) (n := 6) (q := w.toNatClampNeg) rfl rfl hix_2 dX8_waiterOf_72 ?_
      refine f_ir X hlk hr (v := (M 89 w.toNatClampNeg)) rfl hP hS ?_ dX8_waiterOf_73
      unfold a_X8_waiterOf
      (first | rw [if_pos c_5] | rw [if_neg c_5] | rw [if_neg (Bool.eq_false_iff.mp c_5)] | skip)
      (first | rw [if_pos s_16_0] | rw [if_neg s_16_0] | rw [if_neg (Bool.eq_false_iff.mp s_16_0)] | skip)
      (first | rw [if_pos s_16_1] | rw [if_neg s_16_1] | rw [if_neg (Bool.eq_false_iff.mp s_16_1)] | skip)
      (try dsimp only)
      first
        | done
        | exact ⟨rfl, rfl⟩
        | rfl
        | (simp only [c_5, s_16_0, s_16_1, if_true, if_false, and_self, and_true, true_and, not_true_eq_false, not_false_eq_true, and_false, false_and, or_true, true_or, or_false, false_or, or_self, Bool.false_eq_true, reduceCtorEq, nl10, nl20, nl30, nl40, nl50, nl60, nl70, nl12, nl13, nl21, nl23, nl31, nl32]; first | done | exact ⟨rfl, rfl⟩ | rfl)
        | contradiction
        | (simp only [c_5, s_16_0, s_16_1, if_true, if_false, and_self, and_true, true_and, not_true_eq_false, not_false_eq_true, and_false, false_and, or_true, true_or, or_false, false_or, or_self, Bool.false_eq_true, reduceCtorEq, nl10, nl20, nl30, nl40, nl50, nl60, nl70, nl12, nl13, nl21, nl23, nl31, nl32]; contradiction)
        | (exfalso; simp_all; done)
        | simp_all
    by_cases s_16_2 : what = 2
    · refine lv_tableIn (tgt := 74) hx hb dX8_waiterOf_16 (by rw [s_16_2]; decide) (by rw [s_16_2]; decide) (by rw [s_16_2]; rfl) (by decide) ?_
      refine lv_aload_n hx hb dX8_waiterOf_74 rfl (lv_at hl 0 rfl) ?_
      refine f_get X hP (T := TX8) (ci := 8) (k := 86) rfl inX8 rfl 11 (by decide) m_4_185 rfl (v := .ref (fad E 90)) rfl dX8_waiterOf_75 ?_
      refine lv_iload_n hx hb dX8_waiterOf_78 rfl (lv_at hl 1 rfl) ?_
      have hix_3 : fIx w 6 w.toNatClampNeg := by
        first
          | exact fIx_lt 6 c_5.1 c_5.2 (by decide)
          | exact fIx_lt 6 s_16_0.1 s_16_0.2 (by decide)
          | exact fIx_lt 6 s_16_1.1 s_16_1.2 (by decide)
          | exact fIx_lt 6 s_16_2.1 s_16_2.2 (by decide)
          | exact fIx_cnt 6 c_5.1 c_5.2 hwc hwc6 (by decide)
          | exact fIx_cnt 6 s_16_0.1 s_16_0.2 hwc hwc6 (by decide)
          | exact fIx_cnt 6 s_16_1.1 s_16_1.2 hwc hwc6 (by decide)
          | exact fIx_cnt 6 s_16_2.1 s_16_2.2 hwc hwc6 (by decide)
          | exact fIx_le 5 c_5.1 c_5.2 (by decide)
          | exact fIx_le 5 s_16_0.1 s_16_0.2 (by decide)
          | exact fIx_le 5 s_16_1.1 s_16_1.2 (by decide)
          | exact fIx_le 5 s_16_2.1 s_16_2.2 (by decide)
          | exact fIx_lt 6 c_5.1 c_5.2.2 (by decide)
          | exact fIx_lt 6 s_16_0.1 s_16_0.2.2 (by decide)
          | exact fIx_lt 6 s_16_1.1 s_16_1.2.2 (by decide)
          | exact fIx_lt 6 s_16_2.1 s_16_2.2.2 (by decide)
          | exact fIx_le 5 (rr0 c_5).1.1 (rr0 c_5).1.2 (by decide)
          | exact fIx_le 5 (rr0 s_16_0).1.1 (rr0 s_16_0).1.2 (by decide)
          | exact fIx_le 5 (rr0 s_16_1).1.1 (rr0 s_16_1).1.2 (by decide)
          | exact fIx_le 5 (rr0 s_16_2).1.1 (rr0 s_16_2).1.2 (by decide)
          | (refine fIx_lt 6 (show (0 : Int32) ≤ w from ?_) (show w < (6 : Int32) from ?_) (by decide) <;> (have e0_9 : (0 : Int32).toInt = 0 := rfl; have en_9 : (6 : Int32).toInt = 6 := rfl; simp only [Int32.lt_iff_toInt_lt, Int32.le_iff_toInt_le, Int32.not_lt, Int32.not_le, ← Int32.toInt_inj] at *; omega))
      have hlt_3 := hix_3.2.2
      refine f_iald X hP (k := 90) (n := 6) (q := w.toNatClampNeg) rfl rfl hix_3 dX8_waiterOf_79 ?_
      refine f_ir X hlk hr (v := (M 90 w.toNatClampNeg)) rfl hP hS ?_ dX8_waiterOf_80
      unfold a_X8_waiterOf
      (first | rw [if_pos c_5] | rw [if_neg c_5] | rw [if_neg (Bool.eq_false_iff.mp c_5)] | skip)
      (first | rw [if_pos s_16_0] | rw [if_neg s_16_0] | rw [if_neg (Bool.eq_false_iff.mp s_16_0)] | skip)
      (first | rw [if_pos s_16_1] | rw [if_neg s_16_1] | rw [if_neg (Bool.eq_false_iff.mp s_16_1)] | skip)
      (first | rw [if_pos s_16_2] | rw [if_neg s_16_2] | rw [if_neg (Bool.eq_false_iff.mp s_16_2)] | skip)
      (try dsimp only)
      first
        | done
        | exact ⟨rfl, rfl⟩
        | rfl
        | (simp only [c_5, s_16_0, s_16_1, s_16_2, if_true, if_false, and_self, and_true, true_and, not_true_eq_false, not_false_eq_true, and_false, false_and, or_true, true_or, or_false, false_or, or_self, Bool.false_eq_true, reduceCtorEq, nl10, nl20, nl30, nl40, nl50, nl60, nl70, nl12, nl13, nl21, nl23, nl31, nl32]; first | done | exact ⟨rfl, rfl⟩ | rfl)
        | contradiction
        | (simp only [c_5, s_16_0, s_16_1, s_16_2, if_true, if_false, and_self, and_true, true_and, not_true_eq_false, not_false_eq_true, and_false, false_and, or_true, true_or, or_false, false_or, or_self, Bool.false_eq_true, reduceCtorEq, nl10, nl20, nl30, nl40, nl50, nl60, nl70, nl12, nl13, nl21, nl23, nl31, nl32]; contradiction)
        | (exfalso; simp_all; done)
        | simp_all
    by_cases s_16_3 : what = 3
    · refine lv_tableIn (tgt := 81) hx hb dX8_waiterOf_16 (by rw [s_16_3]; decide) (by rw [s_16_3]; decide) (by rw [s_16_3]; rfl) (by decide) ?_
      refine lv_aload_n hx hb dX8_waiterOf_81 rfl (lv_at hl 0 rfl) ?_
      refine f_get X hP (T := TX8) (ci := 8) (k := 86) rfl inX8 rfl 12 (by decide) m_4_186 rfl (v := .ref (fad E 91)) rfl dX8_waiterOf_82 ?_
      refine lv_iload_n hx hb dX8_waiterOf_85 rfl (lv_at hl 1 rfl) ?_
      have hix_4 : fIx w 6 w.toNatClampNeg := by
        first
          | exact fIx_lt 6 c_5.1 c_5.2 (by decide)
          | exact fIx_lt 6 s_16_0.1 s_16_0.2 (by decide)
          | exact fIx_lt 6 s_16_1.1 s_16_1.2 (by decide)
          | exact fIx_lt 6 s_16_2.1 s_16_2.2 (by decide)
          | exact fIx_lt 6 s_16_3.1 s_16_3.2 (by decide)
          | exact fIx_cnt 6 c_5.1 c_5.2 hwc hwc6 (by decide)
          | exact fIx_cnt 6 s_16_0.1 s_16_0.2 hwc hwc6 (by decide)
          | exact fIx_cnt 6 s_16_1.1 s_16_1.2 hwc hwc6 (by decide)
          | exact fIx_cnt 6 s_16_2.1 s_16_2.2 hwc hwc6 (by decide)
          | exact fIx_cnt 6 s_16_3.1 s_16_3.2 hwc hwc6 (by decide)
          | exact fIx_le 5 c_5.1 c_5.2 (by decide)
          | exact fIx_le 5 s_16_0.1 s_16_0.2 (by decide)
          | exact fIx_le 5 s_16_1.1 s_16_1.2 (by decide)
          | exact fIx_le 5 s_16_2.1 s_16_2.2 (by decide)
          | exact fIx_le 5 s_16_3.1 s_16_3.2 (by decide)
          | exact fIx_lt 6 c_5.1 c_5.2.2 (by decide)
          | exact fIx_lt 6 s_16_0.1 s_16_0.2.2 (by decide)
          | exact fIx_lt 6 s_16_1.1 s_16_1.2.2 (by decide)
          | exact fIx_lt 6 s_16_2.1 s_16_2.2.2 (by decide)
          | exact fIx_lt 6 s_16_3.1 s_16_3.2.2 (by decide)
          | exact fIx_le 5 (rr0 c_5).1.1 (rr0 c_5).1.2 (by decide)
          | exact fIx_le 5 (rr0 s_16_0).1.1 (rr0 s_16_0).1.2 (by decide)
          | exact fIx_le 5 (rr0 s_16_1).1.1 (rr0 s_16_1).1.2 (by decide)
          | exact fIx_le 5 (rr0 s_16_2).1.1 (rr0 s_16_2).1.2 (by decide)
          | exact fIx_le 5 (rr0 s_16_3).1.1 (rr0 s_16_3).1.2 (by decide)
          | (refine fIx_lt 6 (show (0 : Int32) ≤ w from ?_) (show w < (6 : Int32) from ?_) (by decide) <;> (have e0_9 : (0 : Int32).toInt = 0 := rfl; have en_9 : (6 : Int32).toInt = 6 := rfl; simp only [Int32.lt_iff_toInt_lt, Int32.le_iff_toInt_le, Int32.not_lt, Int32.not_le, ← Int32.toInt_inj] at *; omega))
      have hlt_4 := hix_4.2.2
      refine f_iald X hP (k := 91) (n := 6) (q := w.toNatClampNeg) rfl rfl hix_4 dX8_waiterOf_86 ?_
      refine f_ir X hlk hr (v := (M 91 w.toNatClampNeg)) rfl hP hS ?_ dX8_waiterOf_87
      unfold a_X8_waiterOf
      (first | rw [if_pos c_5] | rw [if_neg c_5] | rw [if_neg (Bool.eq_false_iff.mp c_5)] | skip)
      (first | rw [if_pos s_16_0] | rw [if_neg s_16_0] | rw [if_neg (Bool.eq_false_iff.mp s_16_0)] | skip)
      (first | rw [if_pos s_16_1] | rw [if_neg s_16_1] | rw [if_neg (Bool.eq_false_iff.mp s_16_1)] | skip)
      (first | rw [if_pos s_16_2] | rw [if_neg s_16_2] | rw [if_neg (Bool.eq_false_iff.mp s_16_2)] | skip)
      (first | rw [if_pos s_16_3] | rw [if_neg s_16_3] | rw [if_neg (Bool.eq_false_iff.mp s_16_3)] | skip)
      (try dsimp only)
      first
        | done
        | exact ⟨rfl, rfl⟩
        | rfl
        | (simp only [c_5, s_16_0, s_16_1, s_16_2, s_16_3, if_true, if_false, and_self, and_true, true_and, not_true_eq_false, not_false_eq_true, and_false, false_and, or_true, true_or, or_false, false_or, or_self, Bool.false_eq_true, reduceCtorEq, nl10, nl20, nl30, nl40, nl50, nl60, nl70, nl12, nl13, nl21, nl23, nl31, nl32]; first | done | exact ⟨rfl, rfl⟩ | rfl)
        | contradiction
        | (simp only [c_5, s_16_0, s_16_1, s_16_2, s_16_3, if_true, if_false, and_self, and_true, true_and, not_true_eq_false, not_false_eq_true, and_false, false_and, or_true, true_or, or_false, false_or, or_self, Bool.false_eq_true, reduceCtorEq, nl10, nl20, nl30, nl40, nl50, nl60, nl70, nl12, nl13, nl21, nl23, nl31, nl32]; contradiction)
        | (exfalso; simp_all; done)
        | simp_all
    by_cases s_16_4 : what = 4
    · refine lv_tableIn (tgt := 88) hx hb dX8_waiterOf_16 (by rw [s_16_4]; decide) (by rw [s_16_4]; decide) (by rw [s_16_4]; rfl) (by decide) ?_
      refine lv_aload_n hx hb dX8_waiterOf_88 rfl (lv_at hl 0 rfl) ?_
      refine f_get X hP (T := TX8) (ci := 8) (k := 86) rfl inX8 rfl 13 (by decide) m_4_187 rfl (v := .ref (fad E 92)) rfl dX8_waiterOf_89 ?_
      refine lv_iload_n hx hb dX8_waiterOf_92 rfl (lv_at hl 1 rfl) ?_
      have hix_5 : fIx w 6 w.toNatClampNeg := by
        first
          | exact fIx_lt 6 c_5.1 c_5.2 (by decide)
          | exact fIx_lt 6 s_16_0.1 s_16_0.2 (by decide)
          | exact fIx_lt 6 s_16_1.1 s_16_1.2 (by decide)
          | exact fIx_lt 6 s_16_2.1 s_16_2.2 (by decide)
          | exact fIx_lt 6 s_16_3.1 s_16_3.2 (by decide)
          | exact fIx_lt 6 s_16_4.1 s_16_4.2 (by decide)
          | exact fIx_cnt 6 c_5.1 c_5.2 hwc hwc6 (by decide)
          | exact fIx_cnt 6 s_16_0.1 s_16_0.2 hwc hwc6 (by decide)
          | exact fIx_cnt 6 s_16_1.1 s_16_1.2 hwc hwc6 (by decide)
          | exact fIx_cnt 6 s_16_2.1 s_16_2.2 hwc hwc6 (by decide)
          | exact fIx_cnt 6 s_16_3.1 s_16_3.2 hwc hwc6 (by decide)
          | exact fIx_cnt 6 s_16_4.1 s_16_4.2 hwc hwc6 (by decide)
          | exact fIx_le 5 c_5.1 c_5.2 (by decide)
          | exact fIx_le 5 s_16_0.1 s_16_0.2 (by decide)
          | exact fIx_le 5 s_16_1.1 s_16_1.2 (by decide)
          | exact fIx_le 5 s_16_2.1 s_16_2.2 (by decide)
          | exact fIx_le 5 s_16_3.1 s_16_3.2 (by decide)
          | exact fIx_le 5 s_16_4.1 s_16_4.2 (by decide)
          | exact fIx_lt 6 c_5.1 c_5.2.2 (by decide)
          | exact fIx_lt 6 s_16_0.1 s_16_0.2.2 (by decide)
          | exact fIx_lt 6 s_16_1.1 s_16_1.2.2 (by decide)
          | exact fIx_lt 6 s_16_2.1 s_16_2.2.2 (by decide)
          | exact fIx_lt 6 s_16_3.1 s_16_3.2.2 (by decide)
          | exact fIx_lt 6 s_16_4.1 s_16_4.2.2 (by decide)
          | exact fIx_le 5 (rr0 c_5).1.1 (rr0 c_5).1.2 (by decide)
          | exact fIx_le 5 (rr0 s_16_0).1.1 (rr0 s_16_0).1.2 (by decide)
          | exact fIx_le 5 (rr0 s_16_1).1.1 (rr0 s_16_1).1.2 (by decide)
          | exact fIx_le 5 (rr0 s_16_2).1.1 (rr0 s_16_2).1.2 (by decide)
          | exact fIx_le 5 (rr0 s_16_3).1.1 (rr0 s_16_3).1.2 (by decide)
          | exact fIx_le 5 (rr0 s_16_4).1.1 (rr0 s_16_4).1.2 (by decide)
          | (refine fIx_lt 6 (show (0 : Int32) ≤ w from ?_) (show w < (6 : Int32) from ?_) (by decide) <;> (have e0_9 : (0 : Int32).toInt = 0 := rfl; have en_9 : (6 : Int32).toInt = 6 := rfl; simp only [Int32.lt_iff_toInt_lt, Int32.le_iff_toInt_le, Int32.not_lt, Int32.not_le, ← Int32.toInt_inj] at *; omega))
      have hlt_5 := hix_5.2.2
      refine f_iald X hP (k := 92) (n := 6) (q := w.toNatClampNeg) rfl rfl hix_5 dX8_waiterOf_93 ?_
      refine f_ir X hlk hr (v := (M 92 w.toNatClampNeg)) rfl hP hS ?_ dX8_waiterOf_94
      unfold a_X8_waiterOf
      (first | rw [if_pos c_5] | rw [if_neg c_5] | rw [if_neg (Bool.eq_false_iff.mp c_5)] | skip)
      (first | rw [if_pos s_16_0] | rw [if_neg s_16_0] | rw [if_neg (Bool.eq_false_iff.mp s_16_0)] | skip)
      (first | rw [if_pos s_16_1] | rw [if_neg s_16_1] | rw [if_neg (Bool.eq_false_iff.mp s_16_1)] | skip)
      (first | rw [if_pos s_16_2] | rw [if_neg s_16_2] | rw [if_neg (Bool.eq_false_iff.mp s_16_2)] | skip)
      (first | rw [if_pos s_16_3] | rw [if_neg s_16_3] | rw [if_neg (Bool.eq_false_iff.mp s_16_3)] | skip)
      (first | rw [if_pos s_16_4] | rw [if_neg s_16_4] | rw [if_neg (Bool.eq_false_iff.mp s_16_4)] | skip)
      (try dsimp only)
      first
        | done
        | exact ⟨rfl, rfl⟩
        | rfl
        | (simp only [c_5, s_16_0, s_16_1, s_16_2, s_16_3, s_16_4, if_true, if_false, and_self, and_true, true_and, not_true_eq_false, not_false_eq_true, and_false, false_and, or_true, true_or, or_false, false_or, or_self, Bool.false_eq_true, reduceCtorEq, nl10, nl20, nl30, nl40, nl50, nl60, nl70, nl12, nl13, nl21, nl23, nl31, nl32]; first | done | exact ⟨rfl, rfl⟩ | rfl)
        | contradiction
        | (simp only [c_5, s_16_0, s_16_1, s_16_2, s_16_3, s_16_4, if_true, if_false, and_self, and_true, true_and, not_true_eq_false, not_false_eq_true, and_false, false_and, or_true, true_or, or_false, false_or, or_self, Bool.false_eq_true, reduceCtorEq, nl10, nl20, nl30, nl40, nl50, nl60, nl70, nl12, nl13, nl21, nl23, nl31, nl32]; contradiction)
        | (exfalso; simp_all; done)
        | simp_all
    by_cases s_16_5 : what = 5
    · refine lv_tableIn (tgt := 95) hx hb dX8_waiterOf_16 (by rw [s_16_5]; decide) (by rw [s_16_5]; decide) (by rw [s_16_5]; rfl) (by decide) ?_
      refine lv_aload_n hx hb dX8_waiterOf_95 rfl (lv_at hl 0 rfl) ?_
      refine lv_iload_n hx hb dX8_waiterOf_96 rfl (lv_at hl 1 rfl) ?_
      have hix_6 : fIx w 6 w.toNatClampNeg := by
        first
          | exact fIx_lt 6 c_5.1 c_5.2 (by decide)
          | exact fIx_lt 6 s_16_0.1 s_16_0.2 (by decide)
          | exact fIx_lt 6 s_16_1.1 s_16_1.2 (by decide)
          | exact fIx_lt 6 s_16_2.1 s_16_2.2 (by decide)
          | exact fIx_lt 6 s_16_3.1 s_16_3.2 (by decide)
          | exact fIx_lt 6 s_16_4.1 s_16_4.2 (by decide)
          | exact fIx_lt 6 s_16_5.1 s_16_5.2 (by decide)
          | exact fIx_cnt 6 c_5.1 c_5.2 hwc hwc6 (by decide)
          | exact fIx_cnt 6 s_16_0.1 s_16_0.2 hwc hwc6 (by decide)
          | exact fIx_cnt 6 s_16_1.1 s_16_1.2 hwc hwc6 (by decide)
          | exact fIx_cnt 6 s_16_2.1 s_16_2.2 hwc hwc6 (by decide)
          | exact fIx_cnt 6 s_16_3.1 s_16_3.2 hwc hwc6 (by decide)
          | exact fIx_cnt 6 s_16_4.1 s_16_4.2 hwc hwc6 (by decide)
          | exact fIx_cnt 6 s_16_5.1 s_16_5.2 hwc hwc6 (by decide)
          | exact fIx_le 5 c_5.1 c_5.2 (by decide)
          | exact fIx_le 5 s_16_0.1 s_16_0.2 (by decide)
          | exact fIx_le 5 s_16_1.1 s_16_1.2 (by decide)
          | exact fIx_le 5 s_16_2.1 s_16_2.2 (by decide)
          | exact fIx_le 5 s_16_3.1 s_16_3.2 (by decide)
          | exact fIx_le 5 s_16_4.1 s_16_4.2 (by decide)
          | exact fIx_le 5 s_16_5.1 s_16_5.2 (by decide)
          | exact fIx_lt 6 c_5.1 c_5.2.2 (by decide)
          | exact fIx_lt 6 s_16_0.1 s_16_0.2.2 (by decide)
          | exact fIx_lt 6 s_16_1.1 s_16_1.2.2 (by decide)
          | exact fIx_lt 6 s_16_2.1 s_16_2.2.2 (by decide)
          | exact fIx_lt 6 s_16_3.1 s_16_3.2.2 (by decide)
          | exact fIx_lt 6 s_16_4.1 s_16_4.2.2 (by decide)
          | exact fIx_lt 6 s_16_5.1 s_16_5.2.2 (by decide)
          | exact fIx_le 5 (rr0 c_5).1.1 (rr0 c_5).1.2 (by decide)
          | exact fIx_le 5 (rr0 s_16_0).1.1 (rr0 s_16_0).1.2 (by decide)
          | exact fIx_le 5 (rr0 s_16_1).1.1 (rr0 s_16_1).1.2 (by decide)
          | exact fIx_le 5 (rr0 s_16_2).1.1 (rr0 s_16_2).1.2 (by decide)
          | exact fIx_le 5 (rr0 s_16_3).1.1 (rr0 s_16_3).1.2 (by decide)
          | exact fIx_le 5 (rr0 s_16_4).1.1 (rr0 s_16_4).1.2 (by decide)
          | exact fIx_le 5 (rr0 s_16_5).1.1 (rr0 s_16_5).1.2 (by decide)
          | (refine fIx_lt 6 (show (0 : Int32) ≤ w from ?_) (show w < (6 : Int32) from ?_) (by decide) <;> (have e0_9 : (0 : Int32).toInt = 0 := rfl; have en_9 : (6 : Int32).toInt = 6 := rfl; simp only [Int32.lt_iff_toInt_lt, Int32.le_iff_toInt_le, Int32.not_lt, Int32.not_le, ← Int32.toInt_inj] at *; omega))
      have hlt_6 := hix_6.2.2
      refine f_iV (n := 1) X hP hS [.int w] [] (c_X8_holding l E M L w w.toNatClampNeg hix_6) m_5_160 wi_X8_holding rfl rfl (by decide) (by decide +kernel) ⟨Nat.le_of_ble_eq_true rfl, Nat.le_of_ble_eq_true rfl⟩ rfl hl rfl (Nat.le_of_ble_eq_true rfl) ⟨Nat.zero_le _, Nat.zero_le _⟩ dX8_waiterOf_97 (fun H locs hP hS => ?_)
      refine f_ir X hlk hr (v := (a_X8_holding M L w w.toNatClampNeg)) rfl hP hS ?_ dX8_waiterOf_100
      unfold a_X8_waiterOf
      (first | rw [if_pos c_5] | rw [if_neg c_5] | rw [if_neg (Bool.eq_false_iff.mp c_5)] | skip)
      (first | rw [if_pos s_16_0] | rw [if_neg s_16_0] | rw [if_neg (Bool.eq_false_iff.mp s_16_0)] | skip)
      (first | rw [if_pos s_16_1] | rw [if_neg s_16_1] | rw [if_neg (Bool.eq_false_iff.mp s_16_1)] | skip)
      (first | rw [if_pos s_16_2] | rw [if_neg s_16_2] | rw [if_neg (Bool.eq_false_iff.mp s_16_2)] | skip)
      (first | rw [if_pos s_16_3] | rw [if_neg s_16_3] | rw [if_neg (Bool.eq_false_iff.mp s_16_3)] | skip)
      (first | rw [if_pos s_16_4] | rw [if_neg s_16_4] | rw [if_neg (Bool.eq_false_iff.mp s_16_4)] | skip)
      (first | rw [if_pos s_16_5] | rw [if_neg s_16_5] | rw [if_neg (Bool.eq_false_iff.mp s_16_5)] | skip)
      (try dsimp only)
      first
        | done
        | exact ⟨rfl, rfl⟩
        | rfl
        | (simp only [c_5, s_16_0, s_16_1, s_16_2, s_16_3, s_16_4, s_16_5, if_true, if_false, and_self, and_true, true_and, not_true_eq_false, not_false_eq_true, and_false, false_and, or_true, true_or, or_false, false_or, or_self, Bool.false_eq_true, reduceCtorEq, nl10, nl20, nl30, nl40, nl50, nl60, nl70, nl12, nl13, nl21, nl23, nl31, nl32]; first | done | exact ⟨rfl, rfl⟩ | rfl)
        | contradiction
        | (simp only [c_5, s_16_0, s_16_1, s_16_2, s_16_3, s_16_4, s_16_5, if_true, if_false, and_self, and_true, true_and, not_true_eq_false, not_false_eq_true, and_false, false_and, or_true, true_or, or_false, false_or, or_self, Bool.false_eq_true, reduceCtorEq, nl10, nl20, nl30, nl40, nl50, nl60, nl70, nl12, nl13, nl21, nl23, nl31, nl32]; contradiction)
        | (exfalso; simp_all; done)
        | simp_all
    by_cases s_16_6 : what = 6
    · refine lv_tableIn (tgt := 101) hx hb dX8_waiterOf_16 (by rw [s_16_6]; decide) (by rw [s_16_6]; decide) (by rw [s_16_6]; rfl) (by decide) ?_
      refine lv_aload_n hx hb dX8_waiterOf_101 rfl (lv_at hl 0 rfl) ?_
      refine lv_iload_n hx hb dX8_waiterOf_102 rfl (lv_at hl 1 rfl) ?_
      have hix_7 : fIx w 6 w.toNatClampNeg := by
        first
          | exact fIx_lt 6 c_5.1 c_5.2 (by decide)
          | exact fIx_lt 6 s_16_0.1 s_16_0.2 (by decide)
          | exact fIx_lt 6 s_16_1.1 s_16_1.2 (by decide)
          | exact fIx_lt 6 s_16_2.1 s_16_2.2 (by decide)
          | exact fIx_lt 6 s_16_3.1 s_16_3.2 (by decide)
          | exact fIx_lt 6 s_16_4.1 s_16_4.2 (by decide)
          | exact fIx_lt 6 s_16_5.1 s_16_5.2 (by decide)
          | exact fIx_lt 6 s_16_6.1 s_16_6.2 (by decide)
          | exact fIx_cnt 6 c_5.1 c_5.2 hwc hwc6 (by decide)
          | exact fIx_cnt 6 s_16_0.1 s_16_0.2 hwc hwc6 (by decide)
          | exact fIx_cnt 6 s_16_1.1 s_16_1.2 hwc hwc6 (by decide)
          | exact fIx_cnt 6 s_16_2.1 s_16_2.2 hwc hwc6 (by decide)
          | exact fIx_cnt 6 s_16_3.1 s_16_3.2 hwc hwc6 (by decide)
          | exact fIx_cnt 6 s_16_4.1 s_16_4.2 hwc hwc6 (by decide)
          | exact fIx_cnt 6 s_16_5.1 s_16_5.2 hwc hwc6 (by decide)
          | exact fIx_cnt 6 s_16_6.1 s_16_6.2 hwc hwc6 (by decide)
          | exact fIx_le 5 c_5.1 c_5.2 (by decide)
          | exact fIx_le 5 s_16_0.1 s_16_0.2 (by decide)
          | exact fIx_le 5 s_16_1.1 s_16_1.2 (by decide)
          | exact fIx_le 5 s_16_2.1 s_16_2.2 (by decide)
          | exact fIx_le 5 s_16_3.1 s_16_3.2 (by decide)
          | exact fIx_le 5 s_16_4.1 s_16_4.2 (by decide)
          | exact fIx_le 5 s_16_5.1 s_16_5.2 (by decide)
          | exact fIx_le 5 s_16_6.1 s_16_6.2 (by decide)
          | exact fIx_lt 6 c_5.1 c_5.2.2 (by decide)
          | exact fIx_lt 6 s_16_0.1 s_16_0.2.2 (by decide)
          | exact fIx_lt 6 s_16_1.1 s_16_1.2.2 (by decide)
          | exact fIx_lt 6 s_16_2.1 s_16_2.2.2 (by decide)
          | exact fIx_lt 6 s_16_3.1 s_16_3.2.2 (by decide)
          | exact fIx_lt 6 s_16_4.1 s_16_4.2.2 (by decide)
          | exact fIx_lt 6 s_16_5.1 s_16_5.2.2 (by decide)
          | exact fIx_lt 6 s_16_6.1 s_16_6.2.2 (by decide)
          | exact fIx_le 5 (rr0 c_5).1.1 (rr0 c_5).1.2 (by decide)
          | exact fIx_le 5 (rr0 s_16_0).1.1 (rr0 s_16_0).1.2 (by decide)
          | exact fIx_le 5 (rr0 s_16_1).1.1 (rr0 s_16_1).1.2 (by decide)
          | exact fIx_le 5 (rr0 s_16_2).1.1 (rr0 s_16_2).1.2 (by decide)
          | exact fIx_le 5 (rr0 s_16_3).1.1 (rr0 s_16_3).1.2 (by decide)
          | exact fIx_le 5 (rr0 s_16_4).1.1 (rr0 s_16_4).1.2 (by decide)
          | exact fIx_le 5 (rr0 s_16_5).1.1 (rr0 s_16_5).1.2 (by decide)
          | exact fIx_le 5 (rr0 s_16_6).1.1 (rr0 s_16_6).1.2 (by decide)
          | (refine fIx_lt 6 (show (0 : Int32) ≤ w from ?_) (show w < (6 : Int32) from ?_) (by decide) <;> (have e0_9 : (0 : Int32).toInt = 0 := rfl; have en_9 : (6 : Int32).toInt = 6 := rfl; simp only [Int32.lt_iff_toInt_lt, Int32.le_iff_toInt_le, Int32.not_lt, Int32.not_le, ← Int32.toInt_inj] at *; omega))
      have hlt_7 := hix_7.2.2
      refine f_iV (n := 1) X hP hS [.int w] [] (c_X8_sees l E M L w w.toNatClampNeg hix_7) m_5_164 wi_X8_sees rfl rfl (by decide) (by decide +kernel) ⟨Nat.le_of_ble_eq_true rfl, Nat.le_of_ble_eq_true rfl⟩ rfl hl rfl (Nat.le_of_ble_eq_true rfl) ⟨Nat.zero_le _, Nat.zero_le _⟩ dX8_waiterOf_103 (fun H locs hP hS => ?_)
      refine f_ir X hlk hr (v := (a_X8_sees M L w w.toNatClampNeg)) rfl hP hS ?_ dX8_waiterOf_106
      unfold a_X8_waiterOf
      (first | rw [if_pos c_5] | rw [if_neg c_5] | rw [if_neg (Bool.eq_false_iff.mp c_5)] | skip)
      (first | rw [if_pos s_16_0] | rw [if_neg s_16_0] | rw [if_neg (Bool.eq_false_iff.mp s_16_0)] | skip)
      (first | rw [if_pos s_16_1] | rw [if_neg s_16_1] | rw [if_neg (Bool.eq_false_iff.mp s_16_1)] | skip)
      (first | rw [if_pos s_16_2] | rw [if_neg s_16_2] | rw [if_neg (Bool.eq_false_iff.mp s_16_2)] | skip)
      (first | rw [if_pos s_16_3] | rw [if_neg s_16_3] | rw [if_neg (Bool.eq_false_iff.mp s_16_3)] | skip)
      (first | rw [if_pos s_16_4] | rw [if_neg s_16_4] | rw [if_neg (Bool.eq_false_iff.mp s_16_4)] | skip)
      (first | rw [if_pos s_16_5] | rw [if_neg s_16_5] | rw [if_neg (Bool.eq_false_iff.mp s_16_5)] | skip)
      (first | rw [if_pos s_16_6] | rw [if_neg s_16_6] | rw [if_neg (Bool.eq_false_iff.mp s_16_6)] | skip)
      (try dsimp only)
      first
        | done
        | exact ⟨rfl, rfl⟩
        | rfl
        | (simp only [c_5, s_16_0, s_16_1, s_16_2, s_16_3, s_16_4, s_16_5, s_16_6, if_true, if_false, and_self, and_true, true_and, not_true_eq_false, not_false_eq_true, and_false, false_and, or_true, true_or, or_false, false_or, or_self, Bool.false_eq_true, reduceCtorEq, nl10, nl20, nl30, nl40, nl50, nl60, nl70, nl12, nl13, nl21, nl23, nl31, nl32]; first | done | exact ⟨rfl, rfl⟩ | rfl)
        | contradiction
        | (simp only [c_5, s_16_0, s_16_1, s_16_2, s_16_3, s_16_4, s_16_5, s_16_6, if_true, if_false, and_self, and_true, true_and, not_true_eq_false, not_false_eq_true, and_false, false_and, or_true, true_or, or_false, false_or, or_self, Bool.false_eq_true, reduceCtorEq, nl10, nl20, nl30, nl40, nl50, nl60, nl70, nl12, nl13, nl21, nl23, nl31, nl32]; contradiction)
        | (exfalso; simp_all; done)
        | simp_all
    refine lv_tableOut (tgt := 107) hx hb dX8_waiterOf_16 (by have q0 := lv_neT s_16_0 (a := 0) rfl; have q1 := lv_neT s_16_1 (a := 1) rfl; have q2 := lv_neT s_16_2 (a := 2) rfl; have q3 := lv_neT s_16_3 (a := 3) rfl; have q4 := lv_neT s_16_4 (a := 4) rfl; have q5 := lv_neT s_16_5 (a := 5) rfl; have q6 := lv_neT s_16_6 (a := 6) rfl; omega) (by decide) ?_
    refine lv_aload_n hx hb dX8_waiterOf_107 rfl (lv_at hl 0 rfl) ?_
    refine lv_bipush (v := (-5)) hx hb dX8_waiterOf_108 (by decide) ?_
    refine f_iV (n := 1) X hP hS [.int (-5)] [] (c_X8_no l E M L (-5) (by decide)) m_5_84 wi_X8_no rfl rfl (by decide) (by decide +kernel) ⟨Nat.le_of_ble_eq_true rfl, Nat.le_of_ble_eq_true rfl⟩ rfl hl rfl (Nat.le_of_ble_eq_true rfl) ⟨Nat.zero_le _, Nat.zero_le _⟩ dX8_waiterOf_110 (fun H locs hP hS => ?_)
    refine f_ir X hlk hr (v := (-5)) rfl hP hS ?_ dX8_waiterOf_113
    unfold a_X8_waiterOf
    (first | rw [if_pos c_5] | rw [if_neg c_5] | rw [if_neg (Bool.eq_false_iff.mp c_5)] | skip)
    (first | rw [if_pos s_16_0] | rw [if_neg s_16_0] | rw [if_neg (Bool.eq_false_iff.mp s_16_0)] | skip)
    (first | rw [if_pos s_16_1] | rw [if_neg s_16_1] | rw [if_neg (Bool.eq_false_iff.mp s_16_1)] | skip)
    (first | rw [if_pos s_16_2] | rw [if_neg s_16_2] | rw [if_neg (Bool.eq_false_iff.mp s_16_2)] | skip)
    (first | rw [if_pos s_16_3] | rw [if_neg s_16_3] | rw [if_neg (Bool.eq_false_iff.mp s_16_3)] | skip)
    (first | rw [if_pos s_16_4] | rw [if_neg s_16_4] | rw [if_neg (Bool.eq_false_iff.mp s_16_4)] | skip)
    (first | rw [if_pos s_16_5] | rw [if_neg s_16_5] | rw [if_neg (Bool.eq_false_iff.mp s_16_5)] | skip)
    (first | rw [if_pos s_16_6] | rw [if_neg s_16_6] | rw [if_neg (Bool.eq_false_iff.mp s_16_6)] | skip)
    (try dsimp only)
    first
      | done
      | exact ⟨rfl, rfl⟩
      | rfl
      | (simp only [c_5, s_16_0, s_16_1, s_16_2, s_16_3, s_16_4, s_16_5, s_16_6, if_true, if_false, and_self, and_true, true_and, not_true_eq_false, not_false_eq_true, and_false, false_and, or_true, true_or, or_false, false_or, or_self, Bool.false_eq_true, reduceCtorEq, nl10, nl20, nl30, nl40, nl50, nl60, nl70, nl12, nl13, nl21, nl23, nl31, nl32]; first | done | exact ⟨rfl, rfl⟩ | rfl)
      | contradiction
      | (simp only [c_5, s_16_0, s_16_1, s_16_2, s_16_3, s_16_4, s_16_5, s_16_6, if_true, if_false, and_self, and_true, true_and, not_true_eq_false, not_false_eq_true, and_false, false_and, or_true, true_or, or_false, false_or, or_self, Bool.false_eq_true, reduceCtorEq, nl10, nl20, nl30, nl40, nl50, nl60, nl70, nl12, nl13, nl21, nl23, nl31, nl32]; contradiction)
      | (exfalso; simp_all; done)
      | simp_all
  · have c_5 := bI0 c_5
    refine lv_aload_n hx hb dX8_waiterOf_8 rfl (lv_at hl 0 rfl) ?_
    refine lv_bipush (v := (-5)) hx hb dX8_waiterOf_9 (by decide) ?_
    refine f_iV (n := 1) X hP hS [.int (-5)] [] (c_X8_no l E M L (-5) (by decide)) m_5_84 wi_X8_no rfl rfl (by decide) (by decide +kernel) ⟨Nat.le_of_ble_eq_true rfl, Nat.le_of_ble_eq_true rfl⟩ rfl hl rfl (Nat.le_of_ble_eq_true rfl) ⟨Nat.zero_le _, Nat.zero_le _⟩ dX8_waiterOf_11 (fun H locs hP hS => ?_)
    refine f_ir X hlk hr (v := (-5)) rfl hP hS ?_ dX8_waiterOf_14
    unfold a_X8_waiterOf
    (first | rw [if_pos c_5] | rw [if_neg c_5] | rw [if_neg (Bool.eq_false_iff.mp c_5)] | skip)
    (try dsimp only)
    first
      | done
      | exact ⟨rfl, rfl⟩
      | rfl
      | (simp only [c_5, if_true, if_false, and_self, and_true, true_and, not_true_eq_false, not_false_eq_true, and_false, false_and, or_true, true_or, or_false, false_or, or_self, Bool.false_eq_true, reduceCtorEq, nl10, nl20, nl30, nl40, nl50, nl60, nl70, nl12, nl13, nl21, nl23, nl31, nl32]; first | done | exact ⟨rfl, rfl⟩ | rfl)
      | contradiction
      | (simp only [c_5, if_true, if_false, and_self, and_true, true_and, not_true_eq_false, not_false_eq_true, and_false, false_and, or_true, true_or, or_false, false_or, or_self, Bool.false_eq_true, reduceCtorEq, nl10, nl20, nl30, nl40, nl50, nl60, nl70, nl12, nl13, nl21, nl23, nl31, nl32]; contradiction)
      | (exfalso; simp_all; done)
      | simp_all

def a_X8_cost (M : Nat → Nat → Int32) (L : Nat → Nat → Int64) (w : Int32) (n : Int32) (wc : Nat) : fR := (if (0 ≤ w ∧ w < (M 86 0)) then (if (0 ≤ n ∧ n ≤ 24) then ((a_X8_costs M L w n w.toNatClampNeg), M, L) else ((-6), (noM M (-6)), L)) else ((-1), (noM M (-1)), L))
set_option maxHeartbeats 1000000 in
set_option maxRecDepth 100000 in
theorem c_X8_cost (l : Launch) (E : fE) (M : Nat → Nat → Int32) (L : Nat → Nat → Int64) (w : Int32) (n : Int32) (wc : Nat) (hwc : M 86 0 = nI wc) (hwc6 : wc ≤ 6) : Met l yX8_cost (wl yX8_cost cX8_cost 3 (some .int)) (fRm 1 25) (va_Pc [.ref (fad E 86), .int w, .int n] (fPre E M L)) (fQi E (fun r u => u = ((a_X8_cost M L w n wc).2.1, L) ∧ r = (a_X8_cost M L w n wc).1)) 0 0 (fA E) := by
  refine f_head (by decide) (Nat.le_of_ble_eq_true rfl) ?_
  intro pg ev s mi below meth cd ls X hr hlk hP hS hl
  have hx := X.1.1
  have hb := X.1.2.1
  have hl : lv_has ls 3 [(0, .ref (fad E 86)), (1, .int w), (2, .int n)] := hl
  refine lv_aload_n hx hb dX8_cost_0 rfl (lv_at hl 0 rfl) ?_
  refine lv_iload_n hx hb dX8_cost_1 rfl (lv_at hl 1 rfl) ?_
  refine f_iV (n := 1) X hP hS [.int w] [] (c_X8_isWaiter l E M L w) m_5_104 wi_X8_isWaiter rfl rfl (by decide) (by decide +kernel) ⟨Nat.le_of_ble_eq_true rfl, Nat.le_of_ble_eq_true rfl⟩ rfl hl rfl (Nat.le_of_ble_eq_true rfl) ⟨Nat.zero_le _, Nat.zero_le _⟩ dX8_cost_2 (fun H locs hP hS => ?_)
  refine lv_if_ne (tgt := 14) hx hb dX8_cost_5 (by decide) (fun c_5 => ?_) (fun c_5 => ?_)
  · have c_5 := bI1 c_5
    refine lv_aload_n hx hb dX8_cost_14 rfl (lv_at hl 0 rfl) ?_
    refine lv_iload_n hx hb dX8_cost_15 rfl (lv_at hl 2 rfl) ?_
    refine lv_iconst (v := 0) hx hb dX8_cost_16 (by decide) ?_
    refine lv_bipush (v := 24) hx hb dX8_cost_17 (by decide) ?_
    refine f_iV (n := 3) X hP hS [.int n, .int 0, .int 24] [] (c_X8_isFrom l E M L n 0 24) m_5_120 wi_X8_isFrom rfl rfl (by decide) (by decide +kernel) ⟨Nat.le_of_ble_eq_true rfl, Nat.le_of_ble_eq_true rfl⟩ rfl hl rfl (Nat.le_of_ble_eq_true rfl) ⟨Nat.zero_le _, Nat.zero_le _⟩ dX8_cost_19 (fun H locs hP hS => ?_)
    refine lv_if_eq (tgt := 34) hx hb dX8_cost_22 (by decide) (fun c_22 => ?_) (fun c_22 => ?_)
    · have c_22 := bI0 c_22
      refine lv_aload_n hx hb dX8_cost_34 rfl (lv_at hl 0 rfl) ?_
      refine lv_bipush (v := (-6)) hx hb dX8_cost_35 (by decide) ?_
      refine f_iV (n := 1) X hP hS [.int (-6)] [] (c_X8_no l E M L (-6) (by decide)) m_5_84 wi_X8_no rfl rfl (by decide) (by decide +kernel) ⟨Nat.le_of_ble_eq_true rfl, Nat.le_of_ble_eq_true rfl⟩ rfl hl rfl (Nat.le_of_ble_eq_true rfl) ⟨Nat.zero_le _, Nat.zero_le _⟩ dX8_cost_37 (fun H locs hP hS => ?_)
      refine f_ir X hlk hr (v := (-6)) rfl hP hS ?_ dX8_cost_40
      unfold a_X8_cost
      (first | rw [if_pos c_5] | rw [if_neg c_5] | rw [if_neg (Bool.eq_false_iff.mp c_5)] | skip)
      (first | rw [if_pos c_22] | rw [if_neg c_22] | rw [if_neg (Bool.eq_false_iff.mp c_22)] | skip)
      (try dsimp only)
      first
        | done
        | exact ⟨rfl, rfl⟩
        | rfl
        | (simp only [c_5, c_22, if_true, if_false, and_self, and_true, true_and, not_true_eq_false, not_false_eq_true, and_false, false_and, or_true, true_or, or_false, false_or, or_self, Bool.false_eq_true, reduceCtorEq, nl10, nl20, nl30, nl40, nl50, nl60, nl70, nl12, nl13, nl21, nl23, nl31, nl32]; first | done | exact ⟨rfl, rfl⟩ | rfl)
        | contradiction
        | (simp only [c_5, c_22, if_true, if_false, and_self, and_true, true_and, not_true_eq_false, not_false_eq_true, and_false, false_and, or_true, true_or, or_false, false_or, or_self, Bool.false_eq_true, reduceCtorEq, nl10, nl20, nl30, nl40, nl50, nl60, nl70, nl12, nl13, nl21, nl23, nl31, nl32]; contradiction)
        | (exfalso; simp_all; done)
        | simp_all
    · have c_22 := bI1 c_22
      refine lv_aload_n hx hb dX8_cost_25 rfl (lv_at hl 0 rfl) ?_
      refine lv_iload_n hx hb dX8_cost_26 rfl (lv_at hl 1 rfl) ?_
      refine lv_iload_n hx hb dX8_cost_27 rfl (lv_at hl 2 rfl) ?_
      have hix_1 : fIx w 6 w.toNatClampNeg := by
        first
          | exact fIx_lt 6 c_5.1 c_5.2 (by decide)
          | exact fIx_lt 6 c_22.1 c_22.2 (by decide)
          | exact fIx_cnt 6 c_5.1 c_5.2 hwc hwc6 (by decide)
          | exact fIx_cnt 6 c_22.1 c_22.2 hwc hwc6 (by decide)
          | exact fIx_le 5 c_5.1 c_5.2 (by decide)
          | exact fIx_le 5 c_22.1 c_22.2 (by decide)
          | exact fIx_lt 6 c_5.1 c_5.2.2 (by decide)
          | exact fIx_lt 6 c_22.1 c_22.2.2 (by decide)
          | exact fIx_le 5 (rr0 c_5).1.1 (rr0 c_5).1.2 (by decide)
          | exact fIx_le 5 (rr0 c_22).1.1 (rr0 c_22).1.2 (by decide)
          | (refine fIx_lt 6 (show (0 : Int32) ≤ w from ?_) (show w < (6 : Int32) from ?_) (by decide) <;> (have e0_9 : (0 : Int32).toInt = 0 := rfl; have en_9 : (6 : Int32).toInt = 6 := rfl; simp only [Int32.lt_iff_toInt_lt, Int32.le_iff_toInt_le, Int32.not_lt, Int32.not_le, ← Int32.toInt_inj] at *; omega))
      have hlt_1 := hix_1.2.2
      refine f_iV (n := 2) X hP hS [.int w, .int n] [] (c_X8_costs l E M L w n w.toNatClampNeg hix_1) m_5_220 wi_X8_costs rfl rfl (by decide) (by decide +kernel) ⟨Nat.le_of_ble_eq_true rfl, Nat.le_of_ble_eq_true rfl⟩ rfl hl rfl (Nat.le_of_ble_eq_true rfl) ⟨Nat.zero_le _, Nat.zero_le _⟩ dX8_cost_28 (fun H locs hP hS => ?_)
      refine lv_goto (tgt := 40) hx hb dX8_cost_31 (by decide) ?_
      refine f_ir X hlk hr (v := (a_X8_costs M L w n w.toNatClampNeg)) rfl hP hS ?_ dX8_cost_40
      unfold a_X8_cost
      (first | rw [if_pos c_5] | rw [if_neg c_5] | rw [if_neg (Bool.eq_false_iff.mp c_5)] | skip)
      (first | rw [if_pos c_22] | rw [if_neg c_22] | rw [if_neg (Bool.eq_false_iff.mp c_22)] | skip)
      (try dsimp only)
      first
        | done
        | exact ⟨rfl, rfl⟩
        | rfl
        | (simp only [c_5, c_22, if_true, if_false, and_self, and_true, true_and, not_true_eq_false, not_false_eq_true, and_false, false_and, or_true, true_or, or_false, false_or, or_self, Bool.false_eq_true, reduceCtorEq, nl10, nl20, nl30, nl40, nl50, nl60, nl70, nl12, nl13, nl21, nl23, nl31, nl32]; first | done | exact ⟨rfl, rfl⟩ | rfl)
        | contradiction
        | (simp only [c_5, c_22, if_true, if_false, and_self, and_true, true_and, not_true_eq_false, not_false_eq_true, and_false, false_and, or_true, true_or, or_false, false_or, or_self, Bool.false_eq_true, reduceCtorEq, nl10, nl20, nl30, nl40, nl50, nl60, nl70, nl12, nl13, nl21, nl23, nl31, nl32]; contradiction)
        | (exfalso; simp_all; done)
        | simp_all
  · have c_5 := bI0 c_5
    refine lv_aload_n hx hb dX8_cost_8 rfl (lv_at hl 0 rfl) ?_
    refine lv_iconst (v := (-1)) hx hb dX8_cost_9 (by decide) ?_
    refine f_iV (n := 1) X hP hS [.int (-1)] [] (c_X8_no l E M L (-1) (by decide)) m_5_84 wi_X8_no rfl rfl (by decide) (by decide +kernel) ⟨Nat.le_of_ble_eq_true rfl, Nat.le_of_ble_eq_true rfl⟩ rfl hl rfl (Nat.le_of_ble_eq_true rfl) ⟨Nat.zero_le _, Nat.zero_le _⟩ dX8_cost_10 (fun H locs hP hS => ?_)
    refine f_ir X hlk hr (v := (-1)) rfl hP hS ?_ dX8_cost_13
    unfold a_X8_cost
    (first | rw [if_pos c_5] | rw [if_neg c_5] | rw [if_neg (Bool.eq_false_iff.mp c_5)] | skip)
    (try dsimp only)
    first
      | done
      | exact ⟨rfl, rfl⟩
      | rfl
      | (simp only [c_5, if_true, if_false, and_self, and_true, true_and, not_true_eq_false, not_false_eq_true, and_false, false_and, or_true, true_or, or_false, false_or, or_self, Bool.false_eq_true, reduceCtorEq, nl10, nl20, nl30, nl40, nl50, nl60, nl70, nl12, nl13, nl21, nl23, nl31, nl32]; first | done | exact ⟨rfl, rfl⟩ | rfl)
      | contradiction
      | (simp only [c_5, if_true, if_false, and_self, and_true, true_and, not_true_eq_false, not_false_eq_true, and_false, false_and, or_true, true_or, or_false, false_or, or_self, Bool.false_eq_true, reduceCtorEq, nl10, nl20, nl30, nl40, nl50, nl60, nl70, nl12, nl13, nl21, nl23, nl31, nl32]; contradiction)
      | (exfalso; simp_all; done)
      | simp_all

def a_X8_by (M : Nat → Nat → Int32) (L : Nat → Nat → Int64) (t : Int32) (q1 : Int32) (tc : Nat) : fR := (if (0 ≤ t ∧ t < (M 86 1)) then (if (0 ≤ q1 ∧ q1 ≤ 23) then ((a_X8_comesBy M L t q1 t.toNatClampNeg), M, L) else ((-6), (noM M (-6)), L)) else ((-1), (noM M (-1)), L))
set_option maxHeartbeats 1000000 in
set_option maxRecDepth 100000 in
theorem c_X8_by (l : Launch) (E : fE) (M : Nat → Nat → Int32) (L : Nat → Nat → Int64) (t : Int32) (q1 : Int32) (tc : Nat) (htc : M 86 1 = nI tc) (htc8 : tc ≤ 8) : Met l yX8_by (wl yX8_by cX8_by 3 (some .int)) (fRm 1 23) (va_Pc [.ref (fad E 86), .int t, .int q1] (fPre E M L)) (fQi E (fun r u => u = ((a_X8_by M L t q1 tc).2.1, L) ∧ r = (a_X8_by M L t q1 tc).1)) 0 0 (fA E) := by
  refine f_head (by decide) (Nat.le_of_ble_eq_true rfl) ?_
  intro pg ev s mi below meth cd ls X hr hlk hP hS hl
  have hx := X.1.1
  have hb := X.1.2.1
  have hl : lv_has ls 3 [(0, .ref (fad E 86)), (1, .int t), (2, .int q1)] := hl
  refine lv_aload_n hx hb dX8_by_0 rfl (lv_at hl 0 rfl) ?_
  refine lv_iload_n hx hb dX8_by_1 rfl (lv_at hl 1 rfl) ?_
  refine f_iV (n := 1) X hP hS [.int t] [] (c_X8_isThing l E M L t) m_5_148 wi_X8_isThing rfl rfl (by decide) (by decide +kernel) ⟨Nat.le_of_ble_eq_true rfl, Nat.le_of_ble_eq_true rfl⟩ rfl hl rfl (Nat.le_of_ble_eq_true rfl) ⟨Nat.zero_le _, Nat.zero_le _⟩ dX8_by_2 (fun H locs hP hS => ?_)
  refine lv_if_ne (tgt := 14) hx hb dX8_by_5 (by decide) (fun c_5 => ?_) (fun c_5 => ?_)
  · have c_5 := bI1 c_5
    refine lv_aload_n hx hb dX8_by_14 rfl (lv_at hl 0 rfl) ?_
    refine lv_iload_n hx hb dX8_by_15 rfl (lv_at hl 2 rfl) ?_
    refine lv_iconst (v := 0) hx hb dX8_by_16 (by decide) ?_
    refine lv_bipush (v := 23) hx hb dX8_by_17 (by decide) ?_
    refine f_iV (n := 3) X hP hS [.int q1, .int 0, .int 23] [] (c_X8_isFrom l E M L q1 0 23) m_5_120 wi_X8_isFrom rfl rfl (by decide) (by decide +kernel) ⟨Nat.le_of_ble_eq_true rfl, Nat.le_of_ble_eq_true rfl⟩ rfl hl rfl (Nat.le_of_ble_eq_true rfl) ⟨Nat.zero_le _, Nat.zero_le _⟩ dX8_by_19 (fun H locs hP hS => ?_)
    refine lv_if_eq (tgt := 34) hx hb dX8_by_22 (by decide) (fun c_22 => ?_) (fun c_22 => ?_)
    · have c_22 := bI0 c_22
      refine lv_aload_n hx hb dX8_by_34 rfl (lv_at hl 0 rfl) ?_
      refine lv_bipush (v := (-6)) hx hb dX8_by_35 (by decide) ?_
      refine f_iV (n := 1) X hP hS [.int (-6)] [] (c_X8_no l E M L (-6) (by decide)) m_5_84 wi_X8_no rfl rfl (by decide) (by decide +kernel) ⟨Nat.le_of_ble_eq_true rfl, Nat.le_of_ble_eq_true rfl⟩ rfl hl rfl (Nat.le_of_ble_eq_true rfl) ⟨Nat.zero_le _, Nat.zero_le _⟩ dX8_by_37 (fun H locs hP hS => ?_)
      refine f_ir X hlk hr (v := (-6)) rfl hP hS ?_ dX8_by_40
      unfold a_X8_by
      (first | rw [if_pos c_5] | rw [if_neg c_5] | rw [if_neg (Bool.eq_false_iff.mp c_5)] | skip)
      (first | rw [if_pos c_22] | rw [if_neg c_22] | rw [if_neg (Bool.eq_false_iff.mp c_22)] | skip)
      (try dsimp only)
      first
        | done
        | exact ⟨rfl, rfl⟩
        | rfl
        | (simp only [c_5, c_22, if_true, if_false, and_self, and_true, true_and, not_true_eq_false, not_false_eq_true, and_false, false_and, or_true, true_or, or_false, false_or, or_self, Bool.false_eq_true, reduceCtorEq, nl10, nl20, nl30, nl40, nl50, nl60, nl70, nl12, nl13, nl21, nl23, nl31, nl32]; first | done | exact ⟨rfl, rfl⟩ | rfl)
        | contradiction
        | (simp only [c_5, c_22, if_true, if_false, and_self, and_true, true_and, not_true_eq_false, not_false_eq_true, and_false, false_and, or_true, true_or, or_false, false_or, or_self, Bool.false_eq_true, reduceCtorEq, nl10, nl20, nl30, nl40, nl50, nl60, nl70, nl12, nl13, nl21, nl23, nl31, nl32]; contradiction)
        | (exfalso; simp_all; done)
        | simp_all
    · have c_22 := bI1 c_22
      refine lv_aload_n hx hb dX8_by_25 rfl (lv_at hl 0 rfl) ?_
      refine lv_iload_n hx hb dX8_by_26 rfl (lv_at hl 1 rfl) ?_
      refine lv_iload_n hx hb dX8_by_27 rfl (lv_at hl 2 rfl) ?_
      have hix_1 : fIx t 8 t.toNatClampNeg := by
        first
          | exact fIx_lt 8 c_5.1 c_5.2 (by decide)
          | exact fIx_lt 8 c_22.1 c_22.2 (by decide)
          | exact fIx_cnt 8 c_5.1 c_5.2 htc htc8 (by decide)
          | exact fIx_cnt 8 c_22.1 c_22.2 htc htc8 (by decide)
          | exact fIx_le 7 c_5.1 c_5.2 (by decide)
          | exact fIx_le 7 c_22.1 c_22.2 (by decide)
          | exact fIx_lt 8 c_5.1 c_5.2.2 (by decide)
          | exact fIx_lt 8 c_22.1 c_22.2.2 (by decide)
          | exact fIx_le 7 (rr0 c_5).1.1 (rr0 c_5).1.2 (by decide)
          | exact fIx_le 7 (rr0 c_22).1.1 (rr0 c_22).1.2 (by decide)
          | (refine fIx_lt 8 (show (0 : Int32) ≤ t from ?_) (show t < (8 : Int32) from ?_) (by decide) <;> (have e0_9 : (0 : Int32).toInt = 0 := rfl; have en_9 : (8 : Int32).toInt = 8 := rfl; simp only [Int32.lt_iff_toInt_lt, Int32.le_iff_toInt_le, Int32.not_lt, Int32.not_le, ← Int32.toInt_inj] at *; omega))
      have hlt_1 := hix_1.2.2
      refine f_iV (n := 2) X hP hS [.int t, .int q1] [] (c_X8_comesBy l E M L t q1 t.toNatClampNeg hix_1) m_5_228 wi_X8_comesBy rfl rfl (by decide) (by decide +kernel) ⟨Nat.le_of_ble_eq_true rfl, Nat.le_of_ble_eq_true rfl⟩ rfl hl rfl (Nat.le_of_ble_eq_true rfl) ⟨Nat.zero_le _, Nat.zero_le _⟩ dX8_by_28 (fun H locs hP hS => ?_)
      refine lv_goto (tgt := 40) hx hb dX8_by_31 (by decide) ?_
      refine f_ir X hlk hr (v := (a_X8_comesBy M L t q1 t.toNatClampNeg)) rfl hP hS ?_ dX8_by_40
      unfold a_X8_by
      (first | rw [if_pos c_5] | rw [if_neg c_5] | rw [if_neg (Bool.eq_false_iff.mp c_5)] | skip)
      (first | rw [if_pos c_22] | rw [if_neg c_22] | rw [if_neg (Bool.eq_false_iff.mp c_22)] | skip)
      (try dsimp only)
      first
        | done
        | exact ⟨rfl, rfl⟩
        | rfl
        | (simp only [c_5, c_22, if_true, if_false, and_self, and_true, true_and, not_true_eq_false, not_false_eq_true, and_false, false_and, or_true, true_or, or_false, false_or, or_self, Bool.false_eq_true, reduceCtorEq, nl10, nl20, nl30, nl40, nl50, nl60, nl70, nl12, nl13, nl21, nl23, nl31, nl32]; first | done | exact ⟨rfl, rfl⟩ | rfl)
        | contradiction
        | (simp only [c_5, c_22, if_true, if_false, and_self, and_true, true_and, not_true_eq_false, not_false_eq_true, and_false, false_and, or_true, true_or, or_false, false_or, or_self, Bool.false_eq_true, reduceCtorEq, nl10, nl20, nl30, nl40, nl50, nl60, nl70, nl12, nl13, nl21, nl23, nl31, nl32]; contradiction)
        | (exfalso; simp_all; done)
        | simp_all
  · have c_5 := bI0 c_5
    refine lv_aload_n hx hb dX8_by_8 rfl (lv_at hl 0 rfl) ?_
    refine lv_iconst (v := (-1)) hx hb dX8_by_9 (by decide) ?_
    refine f_iV (n := 1) X hP hS [.int (-1)] [] (c_X8_no l E M L (-1) (by decide)) m_5_84 wi_X8_no rfl rfl (by decide) (by decide +kernel) ⟨Nat.le_of_ble_eq_true rfl, Nat.le_of_ble_eq_true rfl⟩ rfl hl rfl (Nat.le_of_ble_eq_true rfl) ⟨Nat.zero_le _, Nat.zero_le _⟩ dX8_by_10 (fun H locs hP hS => ?_)
    refine f_ir X hlk hr (v := (-1)) rfl hP hS ?_ dX8_by_13
    unfold a_X8_by
    (first | rw [if_pos c_5] | rw [if_neg c_5] | rw [if_neg (Bool.eq_false_iff.mp c_5)] | skip)
    (try dsimp only)
    first
      | done
      | exact ⟨rfl, rfl⟩
      | rfl
      | (simp only [c_5, if_true, if_false, and_self, and_true, true_and, not_true_eq_false, not_false_eq_true, and_false, false_and, or_true, true_or, or_false, false_or, or_self, Bool.false_eq_true, reduceCtorEq, nl10, nl20, nl30, nl40, nl50, nl60, nl70, nl12, nl13, nl21, nl23, nl31, nl32]; first | done | exact ⟨rfl, rfl⟩ | rfl)
      | contradiction
      | (simp only [c_5, if_true, if_false, and_self, and_true, true_and, not_true_eq_false, not_false_eq_true, and_false, false_and, or_true, true_or, or_false, false_or, or_self, Bool.false_eq_true, reduceCtorEq, nl10, nl20, nl30, nl40, nl50, nl60, nl70, nl12, nl13, nl21, nl23, nl31, nl32]; contradiction)
      | (exfalso; simp_all; done)
      | simp_all

def a_X8_met (M : Nat → Nat → Int32) (L : Nat → Nat → Int64) (t : Int32) (what : Int32) (tc : Nat) : fR := (if (0 ≤ t ∧ t < (M 86 1)) then (if what < 0 then ((-5), (noM M (-5)), L) else (if what ≤ 1 then (if what = 1 then (if ((if (1 : Int32) = 0 then (M 99 t.toNatClampNeg) else (M 99 t.toNatClampNeg) / 2) ≤ (M 98 t.toNatClampNeg)) then (1, M, L) else (0, M, L)) else (if ((if (0 : Int32) = 0 then (M 99 t.toNatClampNeg) else (M 99 t.toNatClampNeg) / 2) ≤ (M 98 t.toNatClampNeg)) then (1, M, L) else (0, M, L))) else ((-5), (noM M (-5)), L))) else ((-1), (noM M (-1)), L))
set_option maxHeartbeats 1000000 in
set_option maxRecDepth 100000 in
theorem c_X8_met (l : Launch) (E : fE) (M : Nat → Nat → Int32) (L : Nat → Nat → Int64) (t : Int32) (what : Int32) (tc : Nat) (htc : M 86 1 = nI tc) (htc8 : tc ≤ 8) : Met l yX8_met (wl yX8_met cX8_met 3 (some .int)) (fRm 1 22) (va_Pc [.ref (fad E 86), .int t, .int what] (fPre E M L)) (fQi E (fun r u => u = ((a_X8_met M L t what tc).2.1, L) ∧ r = (a_X8_met M L t what tc).1)) 0 0 (fA E) := by
  refine f_head (by decide) (Nat.le_of_ble_eq_true rfl) ?_
  intro pg ev s mi below meth cd ls X hr hlk hP hS hl
  have hx := X.1.1
  have hb := X.1.2.1
  have hl : lv_has ls 3 [(0, .ref (fad E 86)), (1, .int t), (2, .int what)] := hl
  refine lv_aload_n hx hb dX8_met_0 rfl (lv_at hl 0 rfl) ?_
  refine lv_iload_n hx hb dX8_met_1 rfl (lv_at hl 1 rfl) ?_
  refine f_iV (n := 1) X hP hS [.int t] [] (c_X8_isThing l E M L t) m_5_148 wi_X8_isThing rfl rfl (by decide) (by decide +kernel) ⟨Nat.le_of_ble_eq_true rfl, Nat.le_of_ble_eq_true rfl⟩ rfl hl rfl (Nat.le_of_ble_eq_true rfl) ⟨Nat.zero_le _, Nat.zero_le _⟩ dX8_met_2 (fun H locs hP hS => ?_)
  refine lv_if_ne (tgt := 14) hx hb dX8_met_5 (by decide) (fun c_5 => ?_) (fun c_5 => ?_)
  · have c_5 := bI1 c_5
    refine lv_iload_n hx hb dX8_met_14 rfl (lv_at hl 2 rfl) ?_
    refine lv_if_lt (tgt := 23) hx hb dX8_met_15 (by decide) (fun c_15 => ?_) (fun c_15 => ?_)
    · refine lv_aload_n hx hb dX8_met_23 rfl (lv_at hl 0 rfl) ?_
      refine lv_bipush (v := (-5)) hx hb dX8_met_24 (by decide) ?_
      refine f_iV (n := 1) X hP hS [.int (-5)] [] (c_X8_no l E M L (-5) (by decide)) m_5_84 wi_X8_no rfl rfl (by decide) (by decide +kernel) ⟨Nat.le_of_ble_eq_true rfl, Nat.le_of_ble_eq_true rfl⟩ rfl hl rfl (Nat.le_of_ble_eq_true rfl) ⟨Nat.zero_le _, Nat.zero_le _⟩ dX8_met_26 (fun H locs hP hS => ?_)
      refine f_ir X hlk hr (v := (-5)) rfl hP hS ?_ dX8_met_29
      unfold a_X8_met
      (first | rw [if_pos c_5] | rw [if_neg c_5] | rw [if_neg (Bool.eq_false_iff.mp c_5)] | skip)
      (first | rw [if_pos c_15] | rw [if_neg c_15] | rw [if_neg (Bool.eq_false_iff.mp c_15)] | skip)
      (try dsimp only)
      first
        | done
        | exact ⟨rfl, rfl⟩
        | rfl
        | (simp only [c_5, c_15, if_true, if_false, and_self, and_true, true_and, not_true_eq_false, not_false_eq_true, and_false, false_and, or_true, true_or, or_false, false_or, or_self, Bool.false_eq_true, reduceCtorEq, nl10, nl20, nl30, nl40, nl50, nl60, nl70, nl12, nl13, nl21, nl23, nl31, nl32]; first | done | exact ⟨rfl, rfl⟩ | rfl)
        | contradiction
        | (simp only [c_5, c_15, if_true, if_false, and_self, and_true, true_and, not_true_eq_false, not_false_eq_true, and_false, false_and, or_true, true_or, or_false, false_or, or_self, Bool.false_eq_true, reduceCtorEq, nl10, nl20, nl30, nl40, nl50, nl60, nl70, nl12, nl13, nl21, nl23, nl31, nl32]; contradiction)
        | (exfalso; simp_all; done)
        | simp_all
    · refine lv_iload_n hx hb dX8_met_18 rfl (lv_at hl 2 rfl) ?_
      refine lv_iconst (v := 1) hx hb dX8_met_19 (by decide) ?_
      refine lv_icmp_le (tgt := 30) hx hb dX8_met_20 (by decide) (fun c_20 => ?_) (fun c_20 => ?_)
      · refine lv_aload_n hx hb dX8_met_30 rfl (lv_at hl 0 rfl) ?_
        refine lv_iload_n hx hb dX8_met_31 rfl (lv_at hl 1 rfl) ?_
        refine lv_iload_n hx hb dX8_met_32 rfl (lv_at hl 2 rfl) ?_
        refine lv_iconst (v := 1) hx hb dX8_met_33 (by decide) ?_
        refine lv_icmp_ne (tgt := 41) hx hb dX8_met_34 (by decide) (fun c_34 => ?_) (fun c_34 => ?_)
        · refine lv_iconst (v := 0) hx hb dX8_met_41 (by decide) ?_
          have hix_1 : fIx t 8 t.toNatClampNeg := by
            first
              | exact fIx_lt 8 c_5.1 c_5.2 (by decide)
              | exact fIx_lt 8 c_15.1 c_15.2 (by decide)
              | exact fIx_lt 8 c_20.1 c_20.2 (by decide)
              | exact fIx_lt 8 c_34.1 c_34.2 (by decide)
              | exact fIx_cnt 8 c_5.1 c_5.2 htc htc8 (by decide)
              | exact fIx_cnt 8 c_15.1 c_15.2 htc htc8 (by decide)
              | exact fIx_cnt 8 c_20.1 c_20.2 htc htc8 (by decide)
              | exact fIx_cnt 8 c_34.1 c_34.2 htc htc8 (by decide)
              | exact fIx_le 7 c_5.1 c_5.2 (by decide)
              | exact fIx_le 7 c_15.1 c_15.2 (by decide)
              | exact fIx_le 7 c_20.1 c_20.2 (by decide)
              | exact fIx_le 7 c_34.1 c_34.2 (by decide)
              | exact fIx_lt 8 c_5.1 c_5.2.2 (by decide)
              | exact fIx_lt 8 c_15.1 c_15.2.2 (by decide)
              | exact fIx_lt 8 c_20.1 c_20.2.2 (by decide)
              | exact fIx_lt 8 c_34.1 c_34.2.2 (by decide)
              | exact fIx_le 7 (rr0 c_5).1.1 (rr0 c_5).1.2 (by decide)
              | exact fIx_le 7 (rr0 c_15).1.1 (rr0 c_15).1.2 (by decide)
              | exact fIx_le 7 (rr0 c_20).1.1 (rr0 c_20).1.2 (by decide)
              | exact fIx_le 7 (rr0 c_34).1.1 (rr0 c_34).1.2 (by decide)
              | (refine fIx_lt 8 (show (0 : Int32) ≤ t from ?_) (show t < (8 : Int32) from ?_) (by decide) <;> (have e0_9 : (0 : Int32).toInt = 0 := rfl; have en_9 : (8 : Int32).toInt = 8 := rfl; simp only [Int32.lt_iff_toInt_lt, Int32.le_iff_toInt_le, Int32.not_lt, Int32.not_le, ← Int32.toInt_inj] at *; omega))
          have hlt_1 := hix_1.2.2
          refine f_iV (n := 2) X hP hS [.int t, .int 0] [] (c_X8_isMet l E M L t 0 t.toNatClampNeg hix_1) m_6_44 wi_X8_isMet rfl rfl (by decide) (by decide +kernel) ⟨Nat.le_of_ble_eq_true rfl, Nat.le_of_ble_eq_true rfl⟩ rfl hl rfl (Nat.le_of_ble_eq_true rfl) ⟨Nat.zero_le _, Nat.zero_le _⟩ dX8_met_42 (fun H locs hP hS => ?_)
          refine lv_if_eq (tgt := 52) hx hb dX8_met_45 (by decide) (fun c_45 => ?_) (fun c_45 => ?_)
          · have c_45 := bI0 c_45
            refine lv_iconst (v := 0) hx hb dX8_met_52 (by decide) ?_
            refine f_ir X hlk hr (v := 0) rfl hP hS ?_ dX8_met_53
            unfold a_X8_met
            (first | rw [if_pos c_5] | rw [if_neg c_5] | rw [if_neg (Bool.eq_false_iff.mp c_5)] | skip)
            (first | rw [if_pos c_15] | rw [if_neg c_15] | rw [if_neg (Bool.eq_false_iff.mp c_15)] | skip)
            (first | rw [if_pos c_20] | rw [if_neg c_20] | rw [if_neg (Bool.eq_false_iff.mp c_20)] | skip)
            (first | rw [if_pos c_34] | rw [if_neg c_34] | rw [if_neg (Bool.eq_false_iff.mp c_34)] | skip)
            (first | rw [if_pos c_45] | rw [if_neg c_45] | rw [if_neg (Bool.eq_false_iff.mp c_45)] | skip)
            (try dsimp only)
            first
              | done
              | exact ⟨rfl, rfl⟩
              | rfl
              | (simp only [c_5, c_15, c_20, c_34, c_45, if_true, if_false, and_self, and_true, true_and, not_true_eq_false, not_false_eq_true, and_false, false_and, or_true, true_or, or_false, false_or, or_self, Bool.false_eq_true, reduceCtorEq, nl10, nl20, nl30, nl40, nl50, nl60, nl70, nl12, nl13, nl21, nl23, nl31, nl32]; first | done | exact ⟨rfl, rfl⟩ | rfl)
              | contradiction
              | (simp only [c_5, c_15, c_20, c_34, c_45, if_true, if_false, and_self, and_true, true_and, not_true_eq_false, not_false_eq_true, and_false, false_and, or_true, true_or, or_false, false_or, or_self, Bool.false_eq_true, reduceCtorEq, nl10, nl20, nl30, nl40, nl50, nl60, nl70, nl12, nl13, nl21, nl23, nl31, nl32]; contradiction)
              | (exfalso; simp_all; done)
              | simp_all
          · have c_45 := bI1 c_45
            refine lv_iconst (v := 1) hx hb dX8_met_48 (by decide) ?_
            refine lv_goto (tgt := 53) hx hb dX8_met_49 (by decide) ?_
            refine f_ir X hlk hr (v := 1) rfl hP hS ?_ dX8_met_53
            unfold a_X8_met
            (first | rw [if_pos c_5] | rw [if_neg c_5] | rw [if_neg (Bool.eq_false_iff.mp c_5)] | skip)
            (first | rw [if_pos c_15] | rw [if_neg c_15] | rw [if_neg (Bool.eq_false_iff.mp c_15)] | skip)
            (first | rw [if_pos c_20] | rw [if_neg c_20] | rw [if_neg (Bool.eq_false_iff.mp c_20)] | skip)
            (first | rw [if_pos c_34] | rw [if_neg c_34] | rw [if_neg (Bool.eq_false_iff.mp c_34)] | skip)
            (first | rw [if_pos c_45] | rw [if_neg c_45] | rw [if_neg (Bool.eq_false_iff.mp c_45)] | skip)
            (try dsimp only)
            first
              | done
              | exact ⟨rfl, rfl⟩
              | rfl
              | (simp only [c_5, c_15, c_20, c_34, c_45, if_true, if_false, and_self, and_true, true_and, not_true_eq_false, not_false_eq_true, and_false, false_and, or_true, true_or, or_false, false_or, or_self, Bool.false_eq_true, reduceCtorEq, nl10, nl20, nl30, nl40, nl50, nl60, nl70, nl12, nl13, nl21, nl23, nl31, nl32]; first | done | exact ⟨rfl, rfl⟩ | rfl)
              | contradiction
              | (simp only [c_5, c_15, c_20, c_34, c_45, if_true, if_false, and_self, and_true, true_and, not_true_eq_false, not_false_eq_true, and_false, false_and, or_true, true_or, or_false, false_or, or_self, Bool.false_eq_true, reduceCtorEq, nl10, nl20, nl30, nl40, nl50, nl60, nl70, nl12, nl13, nl21, nl23, nl31, nl32]; contradiction)
              | (exfalso; simp_all; done)
              | simp_all
        · refine lv_iconst (v := 1) hx hb dX8_met_37 (by decide) ?_
          refine lv_goto (tgt := 42) hx hb dX8_met_38 (by decide) ?_
          have hix_2 : fIx t 8 t.toNatClampNeg := by
            first
              | exact fIx_lt 8 c_5.1 c_5.2 (by decide)
              | exact fIx_lt 8 c_15.1 c_15.2 (by decide)
              | exact fIx_lt 8 c_20.1 c_20.2 (by decide)
              | exact fIx_lt 8 c_34.1 c_34.2 (by decide)
              | exact fIx_cnt 8 c_5.1 c_5.2 htc htc8 (by decide)
              | exact fIx_cnt 8 c_15.1 c_15.2 htc htc8 (by decide)
              | exact fIx_cnt 8 c_20.1 c_20.2 htc htc8 (by decide)
              | exact fIx_cnt 8 c_34.1 c_34.2 htc htc8 (by decide)
              | exact fIx_le 7 c_5.1 c_5.2 (by decide)
              | exact fIx_le 7 c_15.1 c_15.2 (by decide)
              | exact fIx_le 7 c_20.1 c_20.2 (by decide)
              | exact fIx_le 7 c_34.1 c_34.2 (by decide)
              | exact fIx_lt 8 c_5.1 c_5.2.2 (by decide)
              | exact fIx_lt 8 c_15.1 c_15.2.2 (by decide)
              | exact fIx_lt 8 c_20.1 c_20.2.2 (by decide)
              | exact fIx_lt 8 c_34.1 c_34.2.2 (by decide)
              | exact fIx_le 7 (rr0 c_5).1.1 (rr0 c_5).1.2 (by decide)
              | exact fIx_le 7 (rr0 c_15).1.1 (rr0 c_15).1.2 (by decide)
              | exact fIx_le 7 (rr0 c_20).1.1 (rr0 c_20).1.2 (by decide)
              | exact fIx_le 7 (rr0 c_34).1.1 (rr0 c_34).1.2 (by decide)
              | (refine fIx_lt 8 (show (0 : Int32) ≤ t from ?_) (show t < (8 : Int32) from ?_) (by decide) <;> (have e0_9 : (0 : Int32).toInt = 0 := rfl; have en_9 : (8 : Int32).toInt = 8 := rfl; simp only [Int32.lt_iff_toInt_lt, Int32.le_iff_toInt_le, Int32.not_lt, Int32.not_le, ← Int32.toInt_inj] at *; omega))
          have hlt_2 := hix_2.2.2
          refine f_iV (n := 2) X hP hS [.int t, .int 1] [] (c_X8_isMet l E M L t 1 t.toNatClampNeg hix_2) m_6_44 wi_X8_isMet rfl rfl (by decide) (by decide +kernel) ⟨Nat.le_of_ble_eq_true rfl, Nat.le_of_ble_eq_true rfl⟩ rfl hl rfl (Nat.le_of_ble_eq_true rfl) ⟨Nat.zero_le _, Nat.zero_le _⟩ dX8_met_42 (fun H locs hP hS => ?_)
          refine lv_if_eq (tgt := 52) hx hb dX8_met_45 (by decide) (fun c_45 => ?_) (fun c_45 => ?_)
          · have c_45 := bI0 c_45
            refine lv_iconst (v := 0) hx hb dX8_met_52 (by decide) ?_
            refine f_ir X hlk hr (v := 0) rfl hP hS ?_ dX8_met_53
            unfold a_X8_met
            (first | rw [if_pos c_5] | rw [if_neg c_5] | rw [if_neg (Bool.eq_false_iff.mp c_5)] | skip)
            (first | rw [if_pos c_15] | rw [if_neg c_15] | rw [if_neg (Bool.eq_false_iff.mp c_15)] | skip)
            (first | rw [if_pos c_20] | rw [if_neg c_20] | rw [if_neg (Bool.eq_false_iff.mp c_20)] | skip)
            (first | rw [if_pos c_34] | rw [if_neg c_34] | rw [if_neg (Bool.eq_false_iff.mp c_34)] | skip)
            (first | rw [if_pos c_45] | rw [if_neg c_45] | rw [if_neg (Bool.eq_false_iff.mp c_45)] | skip)
            (try dsimp only)
            first
              | done
              | exact ⟨rfl, rfl⟩
              | rfl
              | (simp only [c_5, c_15, c_20, c_34, c_45, if_true, if_false, and_self, and_true, true_and, not_true_eq_false, not_false_eq_true, and_false, false_and, or_true, true_or, or_false, false_or, or_self, Bool.false_eq_true, reduceCtorEq, nl10, nl20, nl30, nl40, nl50, nl60, nl70, nl12, nl13, nl21, nl23, nl31, nl32]; first | done | exact ⟨rfl, rfl⟩ | rfl)
              | contradiction
              | (simp only [c_5, c_15, c_20, c_34, c_45, if_true, if_false, and_self, and_true, true_and, not_true_eq_false, not_false_eq_true, and_false, false_and, or_true, true_or, or_false, false_or, or_self, Bool.false_eq_true, reduceCtorEq, nl10, nl20, nl30, nl40, nl50, nl60, nl70, nl12, nl13, nl21, nl23, nl31, nl32]; contradiction)
              | (exfalso; simp_all; done)
              | simp_all
          · have c_45 := bI1 c_45
            refine lv_iconst (v := 1) hx hb dX8_met_48 (by decide) ?_
            refine lv_goto (tgt := 53) hx hb dX8_met_49 (by decide) ?_
            refine f_ir X hlk hr (v := 1) rfl hP hS ?_ dX8_met_53
            unfold a_X8_met
            (first | rw [if_pos c_5] | rw [if_neg c_5] | rw [if_neg (Bool.eq_false_iff.mp c_5)] | skip)
            (first | rw [if_pos c_15] | rw [if_neg c_15] | rw [if_neg (Bool.eq_false_iff.mp c_15)] | skip)
            (first | rw [if_pos c_20] | rw [if_neg c_20] | rw [if_neg (Bool.eq_false_iff.mp c_20)] | skip)
            (first | rw [if_pos c_34] | rw [if_neg c_34] | rw [if_neg (Bool.eq_false_iff.mp c_34)] | skip)
            (first | rw [if_pos c_45] | rw [if_neg c_45] | rw [if_neg (Bool.eq_false_iff.mp c_45)] | skip)
            (try dsimp only)
            first
              | done
              | exact ⟨rfl, rfl⟩
              | rfl
              | (simp only [c_5, c_15, c_20, c_34, c_45, if_true, if_false, and_self, and_true, true_and, not_true_eq_false, not_false_eq_true, and_false, false_and, or_true, true_or, or_false, false_or, or_self, Bool.false_eq_true, reduceCtorEq, nl10, nl20, nl30, nl40, nl50, nl60, nl70, nl12, nl13, nl21, nl23, nl31, nl32]; first | done | exact ⟨rfl, rfl⟩ | rfl)
              | contradiction
              | (simp only [c_5, c_15, c_20, c_34, c_45, if_true, if_false, and_self, and_true, true_and, not_true_eq_false, not_false_eq_true, and_false, false_and, or_true, true_or, or_false, false_or, or_self, Bool.false_eq_true, reduceCtorEq, nl10, nl20, nl30, nl40, nl50, nl60, nl70, nl12, nl13, nl21, nl23, nl31, nl32]; contradiction)
              | (exfalso; simp_all; done)
              | simp_all
      · refine lv_aload_n hx hb dX8_met_23 rfl (lv_at hl 0 rfl) ?_
        refine lv_bipush (v := (-5)) hx hb dX8_met_24 (by decide) ?_
        refine f_iV (n := 1) X hP hS [.int (-5)] [] (c_X8_no l E M L (-5) (by decide)) m_5_84 wi_X8_no rfl rfl (by decide) (by decide +kernel) ⟨Nat.le_of_ble_eq_true rfl, Nat.le_of_ble_eq_true rfl⟩ rfl hl rfl (Nat.le_of_ble_eq_true rfl) ⟨Nat.zero_le _, Nat.zero_le _⟩ dX8_met_26 (fun H locs hP hS => ?_)
        refine f_ir X hlk hr (v := (-5)) rfl hP hS ?_ dX8_met_29
        unfold a_X8_met
        (first | rw [if_pos c_5] | rw [if_neg c_5] | rw [if_neg (Bool.eq_false_iff.mp c_5)] | skip)
        (first | rw [if_pos c_15] | rw [if_neg c_15] | rw [if_neg (Bool.eq_false_iff.mp c_15)] | skip)
        (first | rw [if_pos c_20] | rw [if_neg c_20] | rw [if_neg (Bool.eq_false_iff.mp c_20)] | skip)
        (try dsimp only)
        first
          | done
          | exact ⟨rfl, rfl⟩
          | rfl
          | (simp only [c_5, c_15, c_20, if_true, if_false, and_self, and_true, true_and, not_true_eq_false, not_false_eq_true, and_false, false_and, or_true, true_or, or_false, false_or, or_self, Bool.false_eq_true, reduceCtorEq, nl10, nl20, nl30, nl40, nl50, nl60, nl70, nl12, nl13, nl21, nl23, nl31, nl32]; first | done | exact ⟨rfl, rfl⟩ | rfl)
          | contradiction
          | (simp only [c_5, c_15, c_20, if_true, if_false, and_self, and_true, true_and, not_true_eq_false, not_false_eq_true, and_false, false_and, or_true, true_or, or_false, false_or, or_self, Bool.false_eq_true, reduceCtorEq, nl10, nl20, nl30, nl40, nl50, nl60, nl70, nl12, nl13, nl21, nl23, nl31, nl32]; contradiction)
          | (exfalso; simp_all; done)
          | simp_all
  · have c_5 := bI0 c_5
    refine lv_aload_n hx hb dX8_met_8 rfl (lv_at hl 0 rfl) ?_
    refine lv_iconst (v := (-1)) hx hb dX8_met_9 (by decide) ?_
    refine f_iV (n := 1) X hP hS [.int (-1)] [] (c_X8_no l E M L (-1) (by decide)) m_5_84 wi_X8_no rfl rfl (by decide) (by decide +kernel) ⟨Nat.le_of_ble_eq_true rfl, Nat.le_of_ble_eq_true rfl⟩ rfl hl rfl (Nat.le_of_ble_eq_true rfl) ⟨Nat.zero_le _, Nat.zero_le _⟩ dX8_met_10 (fun H locs hP hS => ?_)
    refine f_ir X hlk hr (v := (-1)) rfl hP hS ?_ dX8_met_13
    unfold a_X8_met
    (first | rw [if_pos c_5] | rw [if_neg c_5] | rw [if_neg (Bool.eq_false_iff.mp c_5)] | skip)
    (try dsimp only)
    first
      | done
      | exact ⟨rfl, rfl⟩
      | rfl
      | (simp only [c_5, if_true, if_false, and_self, and_true, true_and, not_true_eq_false, not_false_eq_true, and_false, false_and, or_true, true_or, or_false, false_or, or_self, Bool.false_eq_true, reduceCtorEq, nl10, nl20, nl30, nl40, nl50, nl60, nl70, nl12, nl13, nl21, nl23, nl31, nl32]; first | done | exact ⟨rfl, rfl⟩ | rfl)
      | contradiction
      | (simp only [c_5, if_true, if_false, and_self, and_true, true_and, not_true_eq_false, not_false_eq_true, and_false, false_and, or_true, true_or, or_false, false_or, or_self, Bool.false_eq_true, reduceCtorEq, nl10, nl20, nl30, nl40, nl50, nl60, nl70, nl12, nl13, nl21, nl23, nl31, nl32]; contradiction)
      | (exfalso; simp_all; done)
      | simp_all

def a_X8_trace (M : Nat → Nat → Int32) (L : Nat → Nat → Int64) (i : Int32) : Int32 := (if i < 0 then (-1) else (if 20 ≤ i then (-1) else (if (M 86 45) ≤ i then (-1) else (M 114 i.toNatClampNeg))))
set_option maxHeartbeats 1000000 in
set_option maxRecDepth 100000 in
theorem c_X8_trace (l : Launch) (E : fE) (M : Nat → Nat → Int32) (L : Nat → Nat → Int64) (i : Int32) : Met l yX8_trace (wl yX8_trace cX8_trace 2 (some .int)) (fRm 0 0) (va_Pc [.ref (fad E 86), .int i] (fPre E M L)) (fQi E (fun r u => u = (M, L) ∧ r = (a_X8_trace M L i))) 0 0 (fA E) := by
  refine f_head (by decide) (Nat.le_of_ble_eq_true rfl) ?_
  intro pg ev s mi below meth cd ls X hr hlk hP hS hl
  have hx := X.1.1
  have hb := X.1.2.1
  have hl : lv_has ls 2 [(0, .ref (fad E 86)), (1, .int i)] := hl
  refine lv_iload_n hx hb dX8_trace_0 rfl (lv_at hl 1 rfl) ?_
  refine lv_if_lt (tgt := 27) hx hb dX8_trace_1 (by decide) (fun c_1 => ?_) (fun c_1 => ?_)
  · refine lv_iconst (v := (-1)) hx hb dX8_trace_27 (by decide) ?_
    refine f_ir X hlk hr (v := (-1)) rfl hP hS ?_ dX8_trace_28
    unfold a_X8_trace
    (first | rw [if_pos c_1] | rw [if_neg c_1] | rw [if_neg (Bool.eq_false_iff.mp c_1)] | skip)
    (try dsimp only)
    first
      | done
      | exact ⟨rfl, rfl⟩
      | rfl
      | (simp only [c_1, if_true, if_false, and_self, and_true, true_and, not_true_eq_false, not_false_eq_true, and_false, false_and, or_true, true_or, or_false, false_or, or_self, Bool.false_eq_true, reduceCtorEq, nl10, nl20, nl30, nl40, nl50, nl60, nl70, nl12, nl13, nl21, nl23, nl31, nl32]; first | done | exact ⟨rfl, rfl⟩ | rfl)
      | contradiction
      | (simp only [c_1, if_true, if_false, and_self, and_true, true_and, not_true_eq_false, not_false_eq_true, and_false, false_and, or_true, true_or, or_false, false_or, or_self, Bool.false_eq_true, reduceCtorEq, nl10, nl20, nl30, nl40, nl50, nl60, nl70, nl12, nl13, nl21, nl23, nl31, nl32]; contradiction)
      | (exfalso; simp_all; done)
      | simp_all
  · refine lv_iload_n hx hb dX8_trace_4 rfl (lv_at hl 1 rfl) ?_
    refine lv_bipush (v := 20) hx hb dX8_trace_5 (by decide) ?_
    refine lv_icmp_ge (tgt := 27) hx hb dX8_trace_7 (by decide) (fun c_7 => ?_) (fun c_7 => ?_)
    · refine lv_iconst (v := (-1)) hx hb dX8_trace_27 (by decide) ?_
      refine f_ir X hlk hr (v := (-1)) rfl hP hS ?_ dX8_trace_28
      unfold a_X8_trace
      (first | rw [if_pos c_1] | rw [if_neg c_1] | rw [if_neg (Bool.eq_false_iff.mp c_1)] | skip)
      (first | rw [if_pos c_7] | rw [if_neg c_7] | rw [if_neg (Bool.eq_false_iff.mp c_7)] | skip)
      (try dsimp only)
      first
        | done
        | exact ⟨rfl, rfl⟩
        | rfl
        | (simp only [c_1, c_7, if_true, if_false, and_self, and_true, true_and, not_true_eq_false, not_false_eq_true, and_false, false_and, or_true, true_or, or_false, false_or, or_self, Bool.false_eq_true, reduceCtorEq, nl10, nl20, nl30, nl40, nl50, nl60, nl70, nl12, nl13, nl21, nl23, nl31, nl32]; first | done | exact ⟨rfl, rfl⟩ | rfl)
        | contradiction
        | (simp only [c_1, c_7, if_true, if_false, and_self, and_true, true_and, not_true_eq_false, not_false_eq_true, and_false, false_and, or_true, true_or, or_false, false_or, or_self, Bool.false_eq_true, reduceCtorEq, nl10, nl20, nl30, nl40, nl50, nl60, nl70, nl12, nl13, nl21, nl23, nl31, nl32]; contradiction)
        | (exfalso; simp_all; done)
        | simp_all
    · refine lv_iload_n hx hb dX8_trace_10 rfl (lv_at hl 1 rfl) ?_
      refine lv_aload_n hx hb dX8_trace_11 rfl (lv_at hl 0 rfl) ?_
      refine f_get X hP (T := TX8) (ci := 8) (k := 86) rfl inX8 rfl 45 (by decide) m_4_219 rfl (v := .int (M 86 45)) rfl dX8_trace_12 ?_
      refine lv_icmp_ge (tgt := 27) hx hb dX8_trace_15 (by decide) (fun c_15 => ?_) (fun c_15 => ?_)
      · refine lv_iconst (v := (-1)) hx hb dX8_trace_27 (by decide) ?_
        refine f_ir X hlk hr (v := (-1)) rfl hP hS ?_ dX8_trace_28
        unfold a_X8_trace
        (first | rw [if_pos c_1] | rw [if_neg c_1] | rw [if_neg (Bool.eq_false_iff.mp c_1)] | skip)
        (first | rw [if_pos c_7] | rw [if_neg c_7] | rw [if_neg (Bool.eq_false_iff.mp c_7)] | skip)
        (first | rw [if_pos c_15] | rw [if_neg c_15] | rw [if_neg (Bool.eq_false_iff.mp c_15)] | skip)
        (try dsimp only)
        first
          | done
          | exact ⟨rfl, rfl⟩
          | rfl
          | (simp only [c_1, c_7, c_15, if_true, if_false, and_self, and_true, true_and, not_true_eq_false, not_false_eq_true, and_false, false_and, or_true, true_or, or_false, false_or, or_self, Bool.false_eq_true, reduceCtorEq, nl10, nl20, nl30, nl40, nl50, nl60, nl70, nl12, nl13, nl21, nl23, nl31, nl32]; first | done | exact ⟨rfl, rfl⟩ | rfl)
          | contradiction
          | (simp only [c_1, c_7, c_15, if_true, if_false, and_self, and_true, true_and, not_true_eq_false, not_false_eq_true, and_false, false_and, or_true, true_or, or_false, false_or, or_self, Bool.false_eq_true, reduceCtorEq, nl10, nl20, nl30, nl40, nl50, nl60, nl70, nl12, nl13, nl21, nl23, nl31, nl32]; contradiction)
          | (exfalso; simp_all; done)
          | simp_all
      · refine lv_aload_n hx hb dX8_trace_18 rfl (lv_at hl 0 rfl) ?_
        refine f_get X hP (T := TX8) (ci := 8) (k := 86) rfl inX8 rfl 44 (by decide) m_4_218 rfl (v := .ref (fad E 114)) rfl dX8_trace_19 ?_
        refine lv_iload_n hx hb dX8_trace_22 rfl (lv_at hl 1 rfl) ?_
        have hix_1 : fIx i 20 i.toNatClampNeg := by
          first
            | exact fIx_lt 20 c_1.1 c_1.2 (by decide)
            | exact fIx_lt 20 c_7.1 c_7.2 (by decide)
            | exact fIx_lt 20 c_15.1 c_15.2 (by decide)
            | exact fIx_le 19 c_1.1 c_1.2 (by decide)
            | exact fIx_le 19 c_7.1 c_7.2 (by decide)
            | exact fIx_le 19 c_15.1 c_15.2 (by decide)
            | exact fIx_lt 20 c_1.1 c_1.2.2 (by decide)
            | exact fIx_lt 20 c_7.1 c_7.2.2 (by decide)
            | exact fIx_lt 20 c_15.1 c_15.2.2 (by decide)
            | exact fIx_le 19 (rr0 c_1).1.1 (rr0 c_1).1.2 (by decide)
            | exact fIx_le 19 (rr0 c_7).1.1 (rr0 c_7).1.2 (by decide)
            | exact fIx_le 19 (rr0 c_15).1.1 (rr0 c_15).1.2 (by decide)
            | (refine fIx_lt 20 (show (0 : Int32) ≤ i from ?_) (show i < (20 : Int32) from ?_) (by decide) <;> (have e0_9 : (0 : Int32).toInt = 0 := rfl; have en_9 : (20 : Int32).toInt = 20 := rfl; simp only [Int32.lt_iff_toInt_lt, Int32.le_iff_toInt_le, Int32.not_lt, Int32.not_le, ← Int32.toInt_inj] at *; omega))
        have hlt_1 := hix_1.2.2
        refine f_iald X hP (k := 114) (n := 20) (q := i.toNatClampNeg) rfl rfl hix_1 dX8_trace_23 ?_
        refine lv_goto (tgt := 28) hx hb dX8_trace_24 (by decide) ?_
        refine f_ir X hlk hr (v := (M 114 i.toNatClampNeg)) rfl hP hS ?_ dX8_trace_28
        unfold a_X8_trace
        (first | rw [if_pos c_1] | rw [if_neg c_1] | rw [if_neg (Bool.eq_false_iff.mp c_1)] | skip)
        (first | rw [if_pos c_7] | rw [if_neg c_7] | rw [if_neg (Bool.eq_false_iff.mp c_7)] | skip)
        (first | rw [if_pos c_15] | rw [if_neg c_15] | rw [if_neg (Bool.eq_false_iff.mp c_15)] | skip)
        (try dsimp only)
        first
          | done
          | exact ⟨rfl, rfl⟩
          | rfl
          | (simp only [c_1, c_7, c_15, if_true, if_false, and_self, and_true, true_and, not_true_eq_false, not_false_eq_true, and_false, false_and, or_true, true_or, or_false, false_or, or_self, Bool.false_eq_true, reduceCtorEq, nl10, nl20, nl30, nl40, nl50, nl60, nl70, nl12, nl13, nl21, nl23, nl31, nl32]; first | done | exact ⟨rfl, rfl⟩ | rfl)
          | contradiction
          | (simp only [c_1, c_7, c_15, if_true, if_false, and_self, and_true, true_and, not_true_eq_false, not_false_eq_true, and_false, false_and, or_true, true_or, or_false, false_or, or_self, Bool.false_eq_true, reduceCtorEq, nl10, nl20, nl30, nl40, nl50, nl60, nl70, nl12, nl13, nl21, nl23, nl31, nl32]; contradiction)
          | (exfalso; simp_all; done)
          | simp_all

def a_X8_says (M : Nat → Nat → Int32) (L : Nat → Nat → Int64) (s1 : Int32) (k : Int32) (wc : Nat) : fR := (if (0 ≤ s1 ∧ s1 < 8) then (if k < 0 then ((-1), (noM M (-1)), L) else (if k ≤ 6 then (if (M 100 s1.toNatClampNeg) = 1 then ((-2), (noM M (-2)), L) else (if (M 100 s1.toNatClampNeg) = 0 then ((-3), (noM M (-3)), L) else (if k = 0 then (if k = 0 then ((M 92 ((M 103 s1.toNatClampNeg).toNatClampNeg)), M, L) else (if k = 1 then ((M 91 ((M 103 s1.toNatClampNeg).toNatClampNeg)), M, L) else (if k = 2 then ((M 89 ((M 103 s1.toNatClampNeg).toNatClampNeg)), M, L) else (if k = 3 then ((M 91 ((M 103 s1.toNatClampNeg).toNatClampNeg)), M, L) else (if k = 4 then ((M 90 ((M 103 s1.toNatClampNeg).toNatClampNeg)), M, L) else (if k = 5 then ((M 89 ((M 103 s1.toNatClampNeg).toNatClampNeg)), M, L) else ((M 90 ((M 103 s1.toNatClampNeg).toNatClampNeg)), M, L))))))) else (if k = (M 88 ((M 103 s1.toNatClampNeg).toNatClampNeg)) then (if k = 0 then ((M 92 ((M 103 s1.toNatClampNeg).toNatClampNeg)), M, L) else (if k = 1 then ((M 91 ((M 103 s1.toNatClampNeg).toNatClampNeg)), M, L) else (if k = 2 then ((M 89 ((M 103 s1.toNatClampNeg).toNatClampNeg)), M, L) else (if k = 3 then ((M 91 ((M 103 s1.toNatClampNeg).toNatClampNeg)), M, L) else (if k = 4 then ((M 90 ((M 103 s1.toNatClampNeg).toNatClampNeg)), M, L) else (if k = 5 then ((M 89 ((M 103 s1.toNatClampNeg).toNatClampNeg)), M, L) else ((M 90 ((M 103 s1.toNatClampNeg).toNatClampNeg)), M, L))))))) else (if ((k = 1 ∧ (M 88 (M 103 s1.toNatClampNeg).toNatClampNeg) = 3) ∨ (k = 2 ∧ (M 88 (M 103 s1.toNatClampNeg).toNatClampNeg) = 5) ∨ (k = 4 ∧ (M 88 (M 103 s1.toNatClampNeg).toNatClampNeg) = 6)) then (if k = 0 then ((M 92 ((M 103 s1.toNatClampNeg).toNatClampNeg)), M, L) else (if k = 1 then ((M 91 ((M 103 s1.toNatClampNeg).toNatClampNeg)), M, L) else (if k = 2 then ((M 89 ((M 103 s1.toNatClampNeg).toNatClampNeg)), M, L) else (if k = 3 then ((M 91 ((M 103 s1.toNatClampNeg).toNatClampNeg)), M, L) else (if k = 4 then ((M 90 ((M 103 s1.toNatClampNeg).toNatClampNeg)), M, L) else (if k = 5 then ((M 89 ((M 103 s1.toNatClampNeg).toNatClampNeg)), M, L) else ((M 90 ((M 103 s1.toNatClampNeg).toNatClampNeg)), M, L))))))) else ((-2), (noM M (-2)), L)))))) else ((-1), (noM M (-1)), L))) else ((-1), (noM M (-1)), L))
set_option maxHeartbeats 4000000 in
set_option maxRecDepth 100000 in
theorem c_X8_says (l : Launch) (E : fE) (M : Nat → Nat → Int32) (L : Nat → Nat → Int64) (s1 : Int32) (k : Int32) (wc : Nat) (hwc : M 86 0 = nI wc) (hwc6 : wc ≤ 6) (hsh : ∀ s, s < 8 → M 100 s = 0 ∨ M 100 s = 1 ∨ (0 ≤ M 103 s ∧ M 103 s < M 86 0)) : Met l yX8_says (wl yX8_says cX8_says 6 (some .int)) (fRm 1 21) (va_Pc [.ref (fad E 86), .int s1, .int k] (fPre E M L)) (fQi E (fun r u => u = ((a_X8_says M L s1 k wc).2.1, L) ∧ r = (a_X8_says M L s1 k wc).1)) 0 0 (fA E) := by
  refine f_head (by decide) (Nat.le_of_ble_eq_true rfl) ?_
  intro pg ev s mi below meth cd ls X hr hlk hP hS hl
  have hx := X.1.1
  have hb := X.1.2.1
  have hl : lv_has ls 6 [(0, .ref (fad E 86)), (1, .int s1), (2, .int k)] := hl
  refine lv_aload_n hx hb dX8_says_0 rfl (lv_at hl 0 rfl) ?_
  refine lv_iload_n hx hb dX8_says_1 rfl (lv_at hl 1 rfl) ?_
  refine f_iV (n := 1) X hP hS [.int s1] [] (c_X8_isShelf l E M L s1) m_5_80 wi_X8_isShelf rfl rfl (by decide) (by decide +kernel) ⟨Nat.le_of_ble_eq_true rfl, Nat.le_of_ble_eq_true rfl⟩ rfl hl rfl (Nat.le_of_ble_eq_true rfl) ⟨Nat.zero_le _, Nat.zero_le _⟩ dX8_says_2 (fun H locs hP hS => ?_)
  refine lv_if_eq (tgt := 18) hx hb dX8_says_5 (by decide) (fun c_5 => ?_) (fun c_5 => ?_)
  · have c_5 := bI0 c_5
    refine lv_aload_n hx hb dX8_says_18 rfl (lv_at hl 0 rfl) ?_
    refine lv_iconst (v := (-1)) hx hb dX8_says_19 (by decide) ?_
    refine f_iV (n := 1) X hP hS [.int (-1)] [] (c_X8_no l E M L (-1) (by decide)) m_5_84 wi_X8_no rfl rfl (by decide) (by decide +kernel) ⟨Nat.le_of_ble_eq_true rfl, Nat.le_of_ble_eq_true rfl⟩ rfl hl rfl (Nat.le_of_ble_eq_true rfl) ⟨Nat.zero_le _, Nat.zero_le _⟩ dX8_says_20 (fun H locs hP hS => ?_)
    refine f_ir X hlk hr (v := (-1)) rfl hP hS ?_ dX8_says_23
    unfold a_X8_says
    (first | rw [if_pos c_5] | rw [if_neg c_5] | rw [if_neg (Bool.eq_false_iff.mp c_5)] | skip)
    (try dsimp only)
    first
      | done
      | exact ⟨rfl, rfl⟩
      | rfl
      | (simp only [c_5, if_true, if_false, and_self, and_true, true_and, not_true_eq_false, not_false_eq_true, and_false, false_and, or_true, true_or, or_false, false_or, or_self, Bool.false_eq_true, reduceCtorEq, nl10, nl20, nl30, nl40, nl50, nl60, nl70, nl12, nl13, nl21, nl23, nl31, nl32]; first | done | exact ⟨rfl, rfl⟩ | rfl)
      | contradiction
      | (simp only [c_5, if_true, if_false, and_self, and_true, true_and, not_true_eq_false, not_false_eq_true, and_false, false_and, or_true, true_or, or_false, false_or, or_self, Bool.false_eq_true, reduceCtorEq, nl10, nl20, nl30, nl40, nl50, nl60, nl70, nl12, nl13, nl21, nl23, nl31, nl32]; contradiction)
      | (exfalso; simp_all; done)
      | simp_all
  · have c_5 := bI1 c_5
    refine lv_iload_n hx hb dX8_says_8 rfl (lv_at hl 2 rfl) ?_
    refine lv_if_lt (tgt := 18) hx hb dX8_says_9 (by decide) (fun c_9 => ?_) (fun c_9 => ?_)
    · refine lv_aload_n hx hb dX8_says_18 rfl (lv_at hl 0 rfl) ?_
      refine lv_iconst (v := (-1)) hx hb dX8_says_19 (by decide) ?_
      refine f_iV (n := 1) X hP hS [.int (-1)] [] (c_X8_no l E M L (-1) (by decide)) m_5_84 wi_X8_no rfl rfl (by decide) (by decide +kernel) ⟨Nat.le_of_ble_eq_true rfl, Nat.le_of_ble_eq_true rfl⟩ rfl hl rfl (Nat.le_of_ble_eq_true rfl) ⟨Nat.zero_le _, Nat.zero_le _⟩ dX8_says_20 (fun H locs hP hS => ?_)
      refine f_ir X hlk hr (v := (-1)) rfl hP hS ?_ dX8_says_23
      unfold a_X8_says
      (first | rw [if_pos c_5] | rw [if_neg c_5] | rw [if_neg (Bool.eq_false_iff.mp c_5)] | skip)
      (first | rw [if_pos c_9] | rw [if_neg c_9] | rw [if_neg (Bool.eq_false_iff.mp c_9)] | skip)
      (try dsimp only)
      first
        | done
        | exact ⟨rfl, rfl⟩
        | rfl
        | (simp only [c_5, c_9, if_true, if_false, and_self, and_true, true_and, not_true_eq_false, not_false_eq_true, and_false, false_and, or_true, true_or, or_false, false_or, or_self, Bool.false_eq_true, reduceCtorEq, nl10, nl20, nl30, nl40, nl50, nl60, nl70, nl12, nl13, nl21, nl23, nl31, nl32]; first | done | exact ⟨rfl, rfl⟩ | rfl)
        | contradiction
        | (simp only [c_5, c_9, if_true, if_false, and_self, and_true, true_and, not_true_eq_false, not_false_eq_true, and_false, false_and, or_true, true_or, or_false, false_or, or_self, Bool.false_eq_true, reduceCtorEq, nl10, nl20, nl30, nl40, nl50, nl60, nl70, nl12, nl13, nl21, nl23, nl31, nl32]; contradiction)
        | (exfalso; simp_all; done)
        | simp_all
    · refine lv_iload_n hx hb dX8_says_12 rfl (lv_at hl 2 rfl) ?_
      refine lv_bipush (v := 6) hx hb dX8_says_13 (by decide) ?_
      refine lv_icmp_le (tgt := 24) hx hb dX8_says_15 (by decide) (fun c_15 => ?_) (fun c_15 => ?_)
      · refine lv_aload_n hx hb dX8_says_24 rfl (lv_at hl 0 rfl) ?_
        refine f_get X hP (T := TX8) (ci := 8) (k := 86) rfl inX8 rfl 21 (by decide) m_4_195 rfl (v := .ref (fad E 100)) rfl dX8_says_25 ?_
        refine lv_iload_n hx hb dX8_says_28 rfl (lv_at hl 1 rfl) ?_
        have hix_1 : fIx s1 8 s1.toNatClampNeg := by
          first
            | exact fIx_lt 8 c_5.1 c_5.2 (by decide)
            | exact fIx_lt 8 c_9.1 c_9.2 (by decide)
            | exact fIx_lt 8 c_15.1 c_15.2 (by decide)
            | exact fIx_le 7 c_5.1 c_5.2 (by decide)
            | exact fIx_le 7 c_9.1 c_9.2 (by decide)
            | exact fIx_le 7 c_15.1 c_15.2 (by decide)
            | exact fIx_lt 8 c_5.1 c_5.2.2 (by decide)
            | exact fIx_lt 8 c_9.1 c_9.2.2 (by decide)
            | exact fIx_lt 8 c_15.1 c_15.2.2 (by decide)
            | exact fIx_le 7 (rr0 c_5).1.1 (rr0 c_5).1.2 (by decide)
            | exact fIx_le 7 (rr0 c_9).1.1 (rr0 c_9).1.2 (by decide)
            | exact fIx_le 7 (rr0 c_15).1.1 (rr0 c_15).1.2 (by decide)
            | (refine fIx_lt 8 (show (0 : Int32) ≤ s1 from ?_) (show s1 < (8 : Int32) from ?_) (by decide) <;> (have e0_9 : (0 : Int32).toInt = 0 := rfl; have en_9 : (8 : Int32).toInt = 8 := rfl; simp only [Int32.lt_iff_toInt_lt, Int32.le_iff_toInt_le, Int32.not_lt, Int32.not_le, ← Int32.toInt_inj] at *; omega))
        have hlt_1 := hix_1.2.2
        refine f_iald X hP (k := 100) (n := 8) (q := s1.toNatClampNeg) rfl rfl hix_1 dX8_says_29 ?_
        refine lv_iconst (v := 1) hx hb dX8_says_30 (by decide) ?_
        refine lv_icmp_ne (tgt := 41) hx hb dX8_says_31 (by decide) (fun c_31 => ?_) (fun c_31 => ?_)
        · refine lv_aload_n hx hb dX8_says_41 rfl (lv_at hl 0 rfl) ?_
          refine f_get X hP (T := TX8) (ci := 8) (k := 86) rfl inX8 rfl 21 (by decide) m_4_195 rfl (v := .ref (fad E 100)) rfl dX8_says_42 ?_
          refine lv_iload_n hx hb dX8_says_45 rfl (lv_at hl 1 rfl) ?_
          refine f_iald X hP (k := 100) (n := 8) (q := s1.toNatClampNeg) rfl rfl hix_1 dX8_says_46 ?_
          refine lv_if_ne (tgt := 57) hx hb dX8_says_47 (by decide) (fun c_47 => ?_) (fun c_47 => ?_)
          · have hs9 : 0 ≤ M 103 s1.toNatClampNeg ∧ M 103 s1.toNatClampNeg < M 86 0 := ((hsh _ (by omega)).resolve_left c_47).resolve_left c_31
            have hl9 := (fIx_cnt 6 hs9.1 hs9.2 hwc hwc6 (by decide)).2.2
            refine lv_aload_n hx hb dX8_says_57 rfl (lv_at hl 0 rfl) ?_
            refine f_get X hP (T := TX8) (ci := 8) (k := 86) rfl inX8 rfl 24 (by decide) m_4_198 rfl (v := .ref (fad E 103)) rfl dX8_says_58 ?_
            refine lv_iload_n hx hb dX8_says_61 rfl (lv_at hl 1 rfl) ?_
            refine f_iald X hP (k := 103) (n := 8) (q := s1.toNatClampNeg) rfl rfl hix_1 dX8_says_62 ?_
            refine lv_istore_n (lv' := [(3, .int (M 103 s1.toNatClampNeg)), (0, .ref (fad E 86)), (1, .int s1), (2, .int k)]) hx hb dX8_says_63 rfl hl (by decide) rfl (fun ls hl => ?_)
            refine lv_aload_n hx hb dX8_says_64 rfl (lv_at hl 1 rfl) ?_
            refine f_get X hP (T := TX8) (ci := 8) (k := 86) rfl inX8 rfl 9 (by decide) m_4_183 rfl (v := .ref (fad E 88)) rfl dX8_says_65 ?_
            refine lv_iload_n hx hb dX8_says_68 rfl (lv_at hl 0 rfl) ?_
            refine f_iald X hP (k := 88) (n := 6) (q := (M 103 s1.toNatClampNeg).toNatClampNeg) rfl rfl (fIx_cnt 6 hs9.1 hs9.2 hwc hwc6 (by decide)) dX8_says_69 ?_
            refine lv_istore (lv' := [(4, .int (M 88 ((M 103 s1.toNatClampNeg).toNatClampNeg))), (3, .int (M 103 s1.toNatClampNeg)), (0, .ref (fad E 86)), (1, .int s1), (2, .int k)]) hx hb dX8_says_70 hl (by decide) rfl (fun ls hl => ?_)
            refine f_join (α := Int32) (fun (u5 : Int32) H locs ls => fP E M L H ∧ va_S (fA E) s.heap H locs ∧ lv_has ls 6 [(4, .int (M 88 ((M 103 s1.toNatClampNeg).toNatClampNeg))), (3, .int (M 103 s1.toNatClampNeg)), (0, .ref (fad E 86)), (1, .int s1), (2, .int k)] ∧ (u5 = (bI (decide ((k = 1 ∧ (M 88 (M 103 s1.toNatClampNeg).toNatClampNeg) = 3) ∨ (k = 2 ∧ (M 88 (M 103 s1.toNatClampNeg).toNatClampNeg) = 5) ∨ (k = 4 ∧ (M 88 (M 103 s1.toNatClampNeg).toNatClampNeg) = 6)))))) (pc0 := 111) (st := fun (u5 : Int32) => [.int u5]) ?_ ?_
            · rintro u5 H locs ls ⟨hP, hS, hl, hu⟩
              subst hu
              refine lv_istore (lv' := [(5, .int (bI (decide ((k = 1 ∧ (M 88 (M 103 s1.toNatClampNeg).toNatClampNeg) = 3) ∨ (k = 2 ∧ (M 88 (M 103 s1.toNatClampNeg).toNatClampNeg) = 5) ∨ (k = 4 ∧ (M 88 (M 103 s1.toNatClampNeg).toNatClampNeg) = 6))))), (4, .int (M 88 ((M 103 s1.toNatClampNeg).toNatClampNeg))), (3, .int (M 103 s1.toNatClampNeg)), (0, .ref (fad E 86)), (1, .int s1), (2, .int k)]) hx hb dX8_says_111 hl (by decide) rfl (fun ls hl => ?_)
              refine lv_iload_n hx hb dX8_says_113 rfl (lv_at hl 5 rfl) ?_
              refine lv_if_eq (tgt := 135) hx hb dX8_says_114 (by decide) (fun c_114 => ?_) (fun c_114 => ?_)
              · refine lv_iload_n hx hb dX8_says_135 rfl (lv_at hl 5 rfl) ?_
                by_cases s_136_0 : k = 0
                · refine lv_tableIn (tgt := 176) hx hb dX8_says_136 (by rw [s_136_0]; decide) (by rw [s_136_0]; decide) (by rw [s_136_0]; rfl) (by decide) ?_
                  refine lv_aload_n hx hb dX8_says_176 rfl (lv_at hl 3 rfl) ?_
                  refine f_get X hP (T := TX8) (ci := 8) (k := 86) rfl inX8 rfl 13 (by decide) m_4_187 rfl (v := .ref (fad E 92)) rfl dX8_says_177 ?_
                  refine lv_iload_n hx hb dX8_says_180 rfl (lv_at hl 2 rfl) ?_
                  refine f_iald X hP (k := 92) (n := 6) (q := (M 103 s1.toNatClampNeg).toNatClampNeg) rfl rfl (fIx_cnt 6 hs9.1 hs9.2 hwc hwc6 (by decide)) dX8_says_181 ?_
                  refine f_ir X hlk hr (v := (M 92 ((M 103 s1.toNatClampNeg).toNatClampNeg))) rfl hP hS ?_ dX8_says_182
                  unfold a_X8_says
                  (first | rw [if_pos c_5] | rw [if_neg c_5] | rw [if_neg (Bool.eq_false_iff.mp c_5)] | skip)
                  (first | rw [if_pos c_9] | rw [if_neg c_9] | rw [if_neg (Bool.eq_false_iff.mp c_9)] | skip)
                  (first | rw [if_pos c_15] | rw [if_neg c_15] | rw [if_neg (Bool.eq_false_iff.mp c_15)] | skip)
                  (first | rw [if_pos c_31] | rw [if_neg c_31] | rw [if_neg (Bool.eq_false_iff.mp c_31)] | skip)
                  (first | rw [if_pos c_47] | rw [if_neg c_47] | rw [if_neg (Bool.eq_false_iff.mp c_47)] | skip)
                  (first | rw [if_pos c_114] | rw [if_neg c_114] | rw [if_neg (Bool.eq_false_iff.mp c_114)] | skip)
                  (first | rw [if_pos s_136_0] | rw [if_neg s_136_0] | rw [if_neg (Bool.eq_false_iff.mp s_136_0)] | skip)
                  (try dsimp only)
                  first
                    | done
                    | exact ⟨rfl, rfl⟩
                    | rfl
                    | (simp only [c_5, c_9, c_15, c_31, c_47, c_114, s_136_0, if_true, if_false, and_self, and_true, true_and, not_true_eq_false, not_false_eq_true, and_false, false_and, or_true, true_or, or_false, false_or, or_self, Bool.false_eq_true, reduceCtorEq, nl10, nl20, nl30, nl40, nl50, nl60, nl70, nl12, nl13, nl21, nl23, nl31, nl32]; first | done | exact ⟨rfl, rfl⟩ | rfl)
                    | contradiction
                    | (simp only [c_5, c_9, c_15, c_31, c_47, c_114, s_136_0, if_true, if_false, and_self, and_true, true_and, not_true_eq_false, not_false_eq_true, and_false, false_and, or_true, true_or, or_false, false_or, or_self, Bool.false_eq_true, reduceCtorEq, nl10, nl20, nl30, nl40, nl50, nl60, nl70, nl12, nl13, nl21, nl23, nl31, nl32]; contradiction)
                    | (exfalso; simp_all; done)
                    | simp_all
                by_cases s_136_1 : k = 1
                · refine lv_tableIn (tgt := 183) hx hb dX8_says_136 (by rw [s_136_1]; decide) (by rw [s_136_1]; decide) (by rw [s_136_1]; rfl) (by decide) ?_
                  refine lv_aload_n hx hb dX8_says_183 rfl (lv_at hl 3 rfl) ?_
                  refine f_get X hP (T := TX8) (ci := 8) (k := 86) rfl inX8 rfl 12 (by decide) m_4_186 rfl (v := .ref (fad E 91)) rfl dX8_says_184 ?_
                  refine lv_iload_n hx hb dX8_says_187 rfl (lv_at hl 2 rfl) ?_
                  refine f_iald X hP (k := 91) (n := 6) (q := (M 103 s1.toNatClampNeg).toNatClampNeg) rfl rfl (fIx_cnt 6 hs9.1 hs9.2 hwc hwc6 (by decide)) dX8_says_188 ?_
                  refine f_ir X hlk hr (v := (M 91 ((M 103 s1.toNatClampNeg).toNatClampNeg))) rfl hP hS ?_ dX8_says_189
                  unfold a_X8_says
                  (first | rw [if_pos c_5] | rw [if_neg c_5] | rw [if_neg (Bool.eq_false_iff.mp c_5)] | skip)
                  (first | rw [if_pos c_9] | rw [if_neg c_9] | rw [if_neg (Bool.eq_false_iff.mp c_9)] | skip)
                  (first | rw [if_pos c_15] | rw [if_neg c_15] | rw [if_neg (Bool.eq_false_iff.mp c_15)] | skip)
                  (first | rw [if_pos c_31] | rw [if_neg c_31] | rw [if_neg (Bool.eq_false_iff.mp c_31)] | skip)
                  (first | rw [if_pos c_47] | rw [if_neg c_47] | rw [if_neg (Bool.eq_false_iff.mp c_47)] | skip)
                  (first | rw [if_pos c_114] | rw [if_neg c_114] | rw [if_neg (Bool.eq_false_iff.mp c_114)] | skip)
                  (first | rw [if_pos s_136_0] | rw [if_neg s_136_0] | rw [if_neg (Bool.eq_false_iff.mp s_136_0)] | skip)
                  (first | rw [if_pos s_136_1] | rw [if_neg s_136_1] | rw [if_neg (Bool.eq_false_iff.mp s_136_1)] | skip)
                  (try dsimp only)
                  first
                    | done
                    | exact ⟨rfl, rfl⟩
                    | rfl
                    | (simp only [c_5, c_9, c_15, c_31, c_47, c_114, s_136_0, s_136_1, if_true, if_false, and_self, and_true, true_and, not_true_eq_false, not_false_eq_true, and_false, false_and, or_true, true_or, or_false, false_or, or_self, Bool.false_eq_true, reduceCtorEq, nl10, nl20, nl30, nl40, nl50, nl60, nl70, nl12, nl13, nl21, nl23, nl31, nl32]; first | done | exact ⟨rfl, rfl⟩ | rfl)
                    | contradiction
                    | (simp only [c_5, c_9, c_15, c_31, c_47, c_114, s_136_0, s_136_1, if_true, if_false, and_self, and_true, true_and, not_true_eq_false, not_false_eq_true, and_false, false_and, or_true, true_or, or_false, false_or, or_self, Bool.false_eq_true, reduceCtorEq, nl10, nl20, nl30, nl40, nl50, nl60, nl70, nl12, nl13, nl21, nl23, nl31, nl32]; contradiction)
                    | (exfalso; simp_all; done)
                    | simp_all
                by_cases s_136_2 : k = 2
                · refine lv_tableIn (tgt := 190) hx hb dX8_says_136 (by rw [s_136_2]; decide) (by rw [s_136_2]; decide) (by rw [s_136_2]; rfl) (by decide) ?_
                  refine lv_aload_n hx hb dX8_says_190 rfl (lv_at hl 3 rfl) ?_
                  refine f_get X hP (T := TX8) (ci := 8) (k := 86) rfl inX8 rfl 10 (by decide) m_4_184 rfl (v := .ref (fad E 89)) rfl dX8_says_191 ?_
                  refine lv_iload_n hx hb dX8_says_194 rfl (lv_at hl 2 rfl) ?_
                  refine f_iald X hP (k := 89) (n := 6) (q := (M 103 s1.toNatClampNeg).toNatClampNeg) rfl rfl (fIx_cnt 6 hs9.1 hs9.2 hwc hwc6 (by decide)) dX8_says_195 ?_
                  refine f_ir X hlk hr (v := (M 89 ((M 103 s1.toNatClampNeg).toNatClampNeg))) rfl hP hS ?_ dX8_says_196
                  unfold a_X8_says
                  (first | rw [if_pos c_5] | rw [if_neg c_5] | rw [if_neg (Bool.eq_false_iff.mp c_5)] | skip)
                  (first | rw [if_pos c_9] | rw [if_neg c_9] | rw [if_neg (Bool.eq_false_iff.mp c_9)] | skip)
                  (first | rw [if_pos c_15] | rw [if_neg c_15] | rw [if_neg (Bool.eq_false_iff.mp c_15)] | skip)
                  (first | rw [if_pos c_31] | rw [if_neg c_31] | rw [if_neg (Bool.eq_false_iff.mp c_31)] | skip)
                  (first | rw [if_pos c_47] | rw [if_neg c_47] | rw [if_neg (Bool.eq_false_iff.mp c_47)] | skip)
                  (first | rw [if_pos c_114] | rw [if_neg c_114] | rw [if_neg (Bool.eq_false_iff.mp c_114)] | skip)
                  (first | rw [if_pos s_136_0] | rw [if_neg s_136_0] | rw [if_neg (Bool.eq_false_iff.mp s_136_0)] | skip)
                  (first | rw [if_pos s_136_1] | rw [if_neg s_136_1] | rw [if_neg (Bool.eq_false_iff.mp s_136_1)] | skip)
                  (first | rw [if_pos s_136_2] | rw [if_neg s_136_2] | rw [if_neg (Bool.eq_false_iff.mp s_136_2)] | skip)
                  (try dsimp only)
                  first
                    | done
                    | exact ⟨rfl, rfl⟩
                    | rfl
                    | (simp only [c_5, c_9, c_15, c_31, c_47, c_114, s_136_0, s_136_1, s_136_2, if_true, if_false, and_self, and_true, true_and, not_true_eq_false, not_false_eq_true, and_false, false_and, or_true, true_or, or_false, false_or, or_self, Bool.false_eq_true, reduceCtorEq, nl10, nl20, nl30, nl40, nl50, nl60, nl70, nl12, nl13, nl21, nl23, nl31, nl32]; first | done | exact ⟨rfl, rfl⟩ | rfl)
                    | contradiction
                    | (simp only [c_5, c_9, c_15, c_31, c_47, c_114, s_136_0, s_136_1, s_136_2, if_true, if_false, and_self, and_true, true_and, not_true_eq_false, not_false_eq_true, and_false, false_and, or_true, true_or, or_false, false_or, or_self, Bool.false_eq_true, reduceCtorEq, nl10, nl20, nl30, nl40, nl50, nl60, nl70, nl12, nl13, nl21, nl23, nl31, nl32]; contradiction)
                    | (exfalso; simp_all; done)
                    | simp_all
                by_cases s_136_3 : k = 3
                · refine lv_tableIn (tgt := 183) hx hb dX8_says_136 (by rw [s_136_3]; decide) (by rw [s_136_3]; decide) (by rw [s_136_3]; rfl) (by decide) ?_
                  refine lv_aload_n hx hb dX8_says_183 rfl (lv_at hl 3 rfl) ?_
                  refine f_get X hP (T := TX8) (ci := 8) (k := 86) rfl inX8 rfl 12 (by decide) m_4_186 rfl (v := .ref (fad E 91)) rfl dX8_says_184 ?_
                  refine lv_iload_n hx hb dX8_says_187 rfl (lv_at hl 2 rfl) ?_
                  refine f_iald X hP (k := 91) (n := 6) (q := (M 103 s1.toNatClampNeg).toNatClampNeg) rfl rfl (fIx_cnt 6 hs9.1 hs9.2 hwc hwc6 (by decide)) dX8_says_188 ?_
                  refine f_ir X hlk hr (v := (M 91 ((M 103 s1.toNatClampNeg).toNatClampNeg))) rfl hP hS ?_ dX8_says_189
                  unfold a_X8_says
                  (first | rw [if_pos c_5] | rw [if_neg c_5] | rw [if_neg (Bool.eq_false_iff.mp c_5)] | skip)
                  (first | rw [if_pos c_9] | rw [if_neg c_9] | rw [if_neg (Bool.eq_false_iff.mp c_9)] | skip)
                  (first | rw [if_pos c_15] | rw [if_neg c_15] | rw [if_neg (Bool.eq_false_iff.mp c_15)] | skip)
                  (first | rw [if_pos c_31] | rw [if_neg c_31] | rw [if_neg (Bool.eq_false_iff.mp c_31)] | skip)
                  (first | rw [if_pos c_47] | rw [if_neg c_47] | rw [if_neg (Bool.eq_false_iff.mp c_47)] | skip)
                  (first | rw [if_pos c_114] | rw [if_neg c_114] | rw [if_neg (Bool.eq_false_iff.mp c_114)] | skip)
                  (first | rw [if_pos s_136_0] | rw [if_neg s_136_0] | rw [if_neg (Bool.eq_false_iff.mp s_136_0)] | skip)
                  (first | rw [if_pos s_136_1] | rw [if_neg s_136_1] | rw [if_neg (Bool.eq_false_iff.mp s_136_1)] | skip)
                  (first | rw [if_pos s_136_2] | rw [if_neg s_136_2] | rw [if_neg (Bool.eq_false_iff.mp s_136_2)] | skip)
                  (first | rw [if_pos s_136_3] | rw [if_neg s_136_3] | rw [if_neg (Bool.eq_false_iff.mp s_136_3)] | skip)
                  (try dsimp only)
                  first
                    | done
                    | exact ⟨rfl, rfl⟩
                    | rfl
                    | (simp only [c_5, c_9, c_15, c_31, c_47, c_114, s_136_0, s_136_1, s_136_2, s_136_3, if_true, if_false, and_self, and_true, true_and, not_true_eq_false, not_false_eq_true, and_false, false_and, or_true, true_or, or_false, false_or, or_self, Bool.false_eq_true, reduceCtorEq, nl10, nl20, nl30, nl40, nl50, nl60, nl70, nl12, nl13, nl21, nl23, nl31, nl32]; first | done | exact ⟨rfl, rfl⟩ | rfl)
                    | contradiction
                    | (simp only [c_5, c_9, c_15, c_31, c_47, c_114, s_136_0, s_136_1, s_136_2, s_136_3, if_true, if_false, and_self, and_true, true_and, not_true_eq_false, not_false_eq_true, and_false, false_and, or_true, true_or, or_false, false_or, or_self, Bool.false_eq_true, reduceCtorEq, nl10, nl20, nl30, nl40, nl50, nl60, nl70, nl12, nl13, nl21, nl23, nl31, nl32]; contradiction)
                    | (exfalso; simp_all; done)
                    | simp_all
                by_cases s_136_4 : k = 4
                · refine lv_tableIn (tgt := 197) hx hb dX8_says_136 (by rw [s_136_4]; decide) (by rw [s_136_4]; decide) (by rw [s_136_4]; rfl) (by decide) ?_
                  refine lv_aload_n hx hb dX8_says_197 rfl (lv_at hl 3 rfl) ?_
                  refine f_get X hP (T := TX8) (ci := 8) (k := 86) rfl inX8 rfl 11 (by decide) m_4_185 rfl (v := .ref (fad E 90)) rfl dX8_says_198 ?_
                  refine lv_iload_n hx hb dX8_says_201 rfl (lv_at hl 2 rfl) ?_
                  refine f_iald X hP (k := 90) (n := 6) (q := (M 103 s1.toNatClampNeg).toNatClampNeg) rfl rfl (fIx_cnt 6 hs9.1 hs9.2 hwc hwc6 (by decide)) dX8_says_202 ?_
                  refine f_ir X hlk hr (v := (M 90 ((M 103 s1.toNatClampNeg).toNatClampNeg))) rfl hP hS ?_ dX8_says_203
                  unfold a_X8_says
                  (first | rw [if_pos c_5] | rw [if_neg c_5] | rw [if_neg (Bool.eq_false_iff.mp c_5)] | skip)
                  (first | rw [if_pos c_9] | rw [if_neg c_9] | rw [if_neg (Bool.eq_false_iff.mp c_9)] | skip)
                  (first | rw [if_pos c_15] | rw [if_neg c_15] | rw [if_neg (Bool.eq_false_iff.mp c_15)] | skip)
                  (first | rw [if_pos c_31] | rw [if_neg c_31] | rw [if_neg (Bool.eq_false_iff.mp c_31)] | skip)
                  (first | rw [if_pos c_47] | rw [if_neg c_47] | rw [if_neg (Bool.eq_false_iff.mp c_47)] | skip)
                  (first | rw [if_pos c_114] | rw [if_neg c_114] | rw [if_neg (Bool.eq_false_iff.mp c_114)] | skip)
                  (first | rw [if_pos s_136_0] | rw [if_neg s_136_0] | rw [if_neg (Bool.eq_false_iff.mp s_136_0)] | skip)
                  (first | rw [if_pos s_136_1] | rw [if_neg s_136_1] | rw [if_neg (Bool.eq_false_iff.mp s_136_1)] | skip)
                  (first | rw [if_pos s_136_2] | rw [if_neg s_136_2] | rw [if_neg (Bool.eq_false_iff.mp s_136_2)] | skip)
                  (first | rw [if_pos s_136_3] | rw [if_neg s_136_3] | rw [if_neg (Bool.eq_false_iff.mp s_136_3)] | skip)
                  (first | rw [if_pos s_136_4] | rw [if_neg s_136_4] | rw [if_neg (Bool.eq_false_iff.mp s_136_4)] | skip)
                  (try dsimp only)
                  first
                    | done
                    | exact ⟨rfl, rfl⟩
                    | rfl
                    | (simp only [c_5, c_9, c_15, c_31, c_47, c_114, s_136_0, s_136_1, s_136_2, s_136_3, s_136_4, if_true, if_false, and_self, and_true, true_and, not_true_eq_false, not_false_eq_true, and_false, false_and, or_true, true_or, or_false, false_or, or_self, Bool.false_eq_true, reduceCtorEq, nl10, nl20, nl30, nl40, nl50, nl60, nl70, nl12, nl13, nl21, nl23, nl31, nl32]; first | done | exact ⟨rfl, rfl⟩ | rfl)
                    | contradiction
                    | (simp only [c_5, c_9, c_15, c_31, c_47, c_114, s_136_0, s_136_1, s_136_2, s_136_3, s_136_4, if_true, if_false, and_self, and_true, true_and, not_true_eq_false, not_false_eq_true, and_false, false_and, or_true, true_or, or_false, false_or, or_self, Bool.false_eq_true, reduceCtorEq, nl10, nl20, nl30, nl40, nl50, nl60, nl70, nl12, nl13, nl21, nl23, nl31, nl32]; contradiction)
                    | (exfalso; simp_all; done)
                    | simp_all
                by_cases s_136_5 : k = 5
                · refine lv_tableIn (tgt := 190) hx hb dX8_says_136 (by rw [s_136_5]; decide) (by rw [s_136_5]; decide) (by rw [s_136_5]; rfl) (by decide) ?_
                  refine lv_aload_n hx hb dX8_says_190 rfl (lv_at hl 3 rfl) ?_
                  refine f_get X hP (T := TX8) (ci := 8) (k := 86) rfl inX8 rfl 10 (by decide) m_4_184 rfl (v := .ref (fad E 89)) rfl dX8_says_191 ?_
                  refine lv_iload_n hx hb dX8_says_194 rfl (lv_at hl 2 rfl) ?_
                  refine f_iald X hP (k := 89) (n := 6) (q := (M 103 s1.toNatClampNeg).toNatClampNeg) rfl rfl (fIx_cnt 6 hs9.1 hs9.2 hwc hwc6 (by decide)) dX8_says_195 ?_
                  refine f_ir X hlk hr (v := (M 89 ((M 103 s1.toNatClampNeg).toNatClampNeg))) rfl hP hS ?_ dX8_says_196
                  unfold a_X8_says
                  (first | rw [if_pos c_5] | rw [if_neg c_5] | rw [if_neg (Bool.eq_false_iff.mp c_5)] | skip)
                  (first | rw [if_pos c_9] | rw [if_neg c_9] | rw [if_neg (Bool.eq_false_iff.mp c_9)] | skip)
                  (first | rw [if_pos c_15] | rw [if_neg c_15] | rw [if_neg (Bool.eq_false_iff.mp c_15)] | skip)
                  (first | rw [if_pos c_31] | rw [if_neg c_31] | rw [if_neg (Bool.eq_false_iff.mp c_31)] | skip)
                  (first | rw [if_pos c_47] | rw [if_neg c_47] | rw [if_neg (Bool.eq_false_iff.mp c_47)] | skip)
                  (first | rw [if_pos c_114] | rw [if_neg c_114] | rw [if_neg (Bool.eq_false_iff.mp c_114)] | skip)
                  (first | rw [if_pos s_136_0] | rw [if_neg s_136_0] | rw [if_neg (Bool.eq_false_iff.mp s_136_0)] | skip)
                  (first | rw [if_pos s_136_1] | rw [if_neg s_136_1] | rw [if_neg (Bool.eq_false_iff.mp s_136_1)] | skip)
                  (first | rw [if_pos s_136_2] | rw [if_neg s_136_2] | rw [if_neg (Bool.eq_false_iff.mp s_136_2)] | skip)
                  (first | rw [if_pos s_136_3] | rw [if_neg s_136_3] | rw [if_neg (Bool.eq_false_iff.mp s_136_3)] | skip)
                  (first | rw [if_pos s_136_4] | rw [if_neg s_136_4] | rw [if_neg (Bool.eq_false_iff.mp s_136_4)] | skip)
                  (first | rw [if_pos s_136_5] | rw [if_neg s_136_5] | rw [if_neg (Bool.eq_false_iff.mp s_136_5)] | skip)
                  (try dsimp only)
                  first
                    | done
                    | exact ⟨rfl, rfl⟩
                    | rfl
                    | (simp only [c_5, c_9, c_15, c_31, c_47, c_114, s_136_0, s_136_1, s_136_2, s_136_3, s_136_4, s_136_5, if_true, if_false, and_self, and_true, true_and, not_true_eq_false, not_false_eq_true, and_false, false_and, or_true, true_or, or_false, false_or, or_self, Bool.false_eq_true, reduceCtorEq, nl10, nl20, nl30, nl40, nl50, nl60, nl70, nl12, nl13, nl21, nl23, nl31, nl32]; first | done | exact ⟨rfl, rfl⟩ | rfl)
                    | contradiction
                    | (simp only [c_5, c_9, c_15, c_31, c_47, c_114, s_136_0, s_136_1, s_136_2, s_136_3, s_136_4, s_136_5, if_true, if_false, and_self, and_true, true_and, not_true_eq_false, not_false_eq_true, and_false, false_and, or_true, true_or, or_false, false_or, or_self, Bool.false_eq_true, reduceCtorEq, nl10, nl20, nl30, nl40, nl50, nl60, nl70, nl12, nl13, nl21, nl23, nl31, nl32]; contradiction)
                    | (exfalso; simp_all; done)
                    | simp_all
                refine lv_tableOut (tgt := 197) hx hb dX8_says_136 (by have q0 := lv_neT s_136_0 (a := 0) rfl; have q1 := lv_neT s_136_1 (a := 1) rfl; have q2 := lv_neT s_136_2 (a := 2) rfl; have q3 := lv_neT s_136_3 (a := 3) rfl; have q4 := lv_neT s_136_4 (a := 4) rfl; have q5 := lv_neT s_136_5 (a := 5) rfl; omega) (by decide) ?_
                refine lv_aload_n hx hb dX8_says_197 rfl (lv_at hl 3 rfl) ?_
                refine f_get X hP (T := TX8) (ci := 8) (k := 86) rfl inX8 rfl 11 (by decide) m_4_185 rfl (v := .ref (fad E 90)) rfl dX8_says_198 ?_
                refine lv_iload_n hx hb dX8_says_201 rfl (lv_at hl 2 rfl) ?_
                refine f_iald X hP (k := 90) (n := 6) (q := (M 103 s1.toNatClampNeg).toNatClampNeg) rfl rfl (fIx_cnt 6 hs9.1 hs9.2 hwc hwc6 (by decide)) dX8_says_202 ?_
                refine f_ir X hlk hr (v := (M 90 ((M 103 s1.toNatClampNeg).toNatClampNeg))) rfl hP hS ?_ dX8_says_203
                unfold a_X8_says
                (first | rw [if_pos c_5] | rw [if_neg c_5] | rw [if_neg (Bool.eq_false_iff.mp c_5)] | skip)
                (first | rw [if_pos c_9] | rw [if_neg c_9] | rw [if_neg (Bool.eq_false_iff.mp c_9)] | skip)
                (first | rw [if_pos c_15] | rw [if_neg c_15] | rw [if_neg (Bool.eq_false_iff.mp c_15)] | skip)
                (first | rw [if_pos c_31] | rw [if_neg c_31] | rw [if_neg (Bool.eq_false_iff.mp c_31)] | skip)
                (first | rw [if_pos c_47] | rw [if_neg c_47] | rw [if_neg (Bool.eq_false_iff.mp c_47)] | skip)
                (first | rw [if_pos c_114] | rw [if_neg c_114] | rw [if_neg (Bool.eq_false_iff.mp c_114)] | skip)
                (first | rw [if_pos s_136_0] | rw [if_neg s_136_0] | rw [if_neg (Bool.eq_false_iff.mp s_136_0)] | skip)
                (first | rw [if_pos s_136_1] | rw [if_neg s_136_1] | rw [if_neg (Bool.eq_false_iff.mp s_136_1)] | skip)
                (first | rw [if_pos s_136_2] | rw [if_neg s_136_2] | rw [if_neg (Bool.eq_false_iff.mp s_136_2)] | skip)
                (first | rw [if_pos s_136_3] | rw [if_neg s_136_3] | rw [if_neg (Bool.eq_false_iff.mp s_136_3)] | skip)
                (first | rw [if_pos s_136_4] | rw [if_neg s_136_4] | rw [if_neg (Bool.eq_false_iff.mp s_136_4)] | skip)
                (first | rw [if_pos s_136_5] | rw [if_neg s_136_5] | rw [if_neg (Bool.eq_false_iff.mp s_136_5)] | skip)
                (try dsimp only)
                first
                  | done
                  | exact ⟨rfl, rfl⟩
                  | rfl
                  | (simp only [c_5, c_9, c_15, c_31, c_47, c_114, s_136_0, s_136_1, s_136_2, s_136_3, s_136_4, s_136_5, if_true, if_false, and_self, and_true, true_and, not_true_eq_false, not_false_eq_true, and_false, false_and, or_true, true_or, or_false, false_or, or_self, Bool.false_eq_true, reduceCtorEq, nl10, nl20, nl30, nl40, nl50, nl60, nl70, nl12, nl13, nl21, nl23, nl31, nl32]; first | done | exact ⟨rfl, rfl⟩ | rfl)
                  | contradiction
                  | (simp only [c_5, c_9, c_15, c_31, c_47, c_114, s_136_0, s_136_1, s_136_2, s_136_3, s_136_4, s_136_5, if_true, if_false, and_self, and_true, true_and, not_true_eq_false, not_false_eq_true, and_false, false_and, or_true, true_or, or_false, false_or, or_self, Bool.false_eq_true, reduceCtorEq, nl10, nl20, nl30, nl40, nl50, nl60, nl70, nl12, nl13, nl21, nl23, nl31, nl32]; contradiction)
                  | (exfalso; simp_all; done)
                  | simp_all
              · refine lv_iload_n hx hb dX8_says_117 rfl (lv_at hl 5 rfl) ?_
                refine lv_iload hx hb dX8_says_118 (lv_at hl 1 rfl) ?_
                refine lv_icmp_eq (tgt := 135) hx hb dX8_says_120 (by decide) (fun c_120 => ?_) (fun c_120 => ?_)
                · refine lv_iload_n hx hb dX8_says_135 rfl (lv_at hl 5 rfl) ?_
                  by_cases s_136_0 : k = 0
                  · refine lv_tableIn (tgt := 176) hx hb dX8_says_136 (by rw [s_136_0]; decide) (by rw [s_136_0]; decide) (by rw [s_136_0]; rfl) (by decide) ?_
                    refine lv_aload_n hx hb dX8_says_176 rfl (lv_at hl 3 rfl) ?_
                    refine f_get X hP (T := TX8) (ci := 8) (k := 86) rfl inX8 rfl 13 (by decide) m_4_187 rfl (v := .ref (fad E 92)) rfl dX8_says_177 ?_
                    refine lv_iload_n hx hb dX8_says_180 rfl (lv_at hl 2 rfl) ?_
                    refine f_iald X hP (k := 92) (n := 6) (q := (M 103 s1.toNatClampNeg).toNatClampNeg) rfl rfl (fIx_cnt 6 hs9.1 hs9.2 hwc hwc6 (by decide)) dX8_says_181 ?_
                    refine f_ir X hlk hr (v := (M 92 ((M 103 s1.toNatClampNeg).toNatClampNeg))) rfl hP hS ?_ dX8_says_182
                    unfold a_X8_says
                    (first | rw [if_pos c_5] | rw [if_neg c_5] | rw [if_neg (Bool.eq_false_iff.mp c_5)] | skip)
                    (first | rw [if_pos c_9] | rw [if_neg c_9] | rw [if_neg (Bool.eq_false_iff.mp c_9)] | skip)
                    (first | rw [if_pos c_15] | rw [if_neg c_15] | rw [if_neg (Bool.eq_false_iff.mp c_15)] | skip)
                    (first | rw [if_pos c_31] | rw [if_neg c_31] | rw [if_neg (Bool.eq_false_iff.mp c_31)] | skip)
                    (first | rw [if_pos c_47] | rw [if_neg c_47] | rw [if_neg (Bool.eq_false_iff.mp c_47)] | skip)
                    (first | rw [if_pos c_114] | rw [if_neg c_114] | rw [if_neg (Bool.eq_false_iff.mp c_114)] | skip)
                    (first | rw [if_pos c_120] | rw [if_neg c_120] | rw [if_neg (Bool.eq_false_iff.mp c_120)] | skip)
                    (first | rw [if_pos s_136_0] | rw [if_neg s_136_0] | rw [if_neg (Bool.eq_false_iff.mp s_136_0)] | skip)
                    (try dsimp only)
                    first
                      | done
                      | exact ⟨rfl, rfl⟩
                      | rfl
                      | (simp only [c_5, c_9, c_15, c_31, c_47, c_114, c_120, s_136_0, if_true, if_false, and_self, and_true, true_and, not_true_eq_false, not_false_eq_true, and_false, false_and, or_true, true_or, or_false, false_or, or_self, Bool.false_eq_true, reduceCtorEq, nl10, nl20, nl30, nl40, nl50, nl60, nl70, nl12, nl13, nl21, nl23, nl31, nl32]; first | done | exact ⟨rfl, rfl⟩ | rfl)
                      | contradiction
                      | (simp only [c_5, c_9, c_15, c_31, c_47, c_114, c_120, s_136_0, if_true, if_false, and_self, and_true, true_and, not_true_eq_false, not_false_eq_true, and_false, false_and, or_true, true_or, or_false, false_or, or_self, Bool.false_eq_true, reduceCtorEq, nl10, nl20, nl30, nl40, nl50, nl60, nl70, nl12, nl13, nl21, nl23, nl31, nl32]; contradiction)
                      | (exfalso; simp_all; done)
                      | simp_all
                  by_cases s_136_1 : k = 1
                  · refine lv_tableIn (tgt := 183) hx hb dX8_says_136 (by rw [s_136_1]; decide) (by rw [s_136_1]; decide) (by rw [s_136_1]; rfl) (by decide) ?_
                    refine lv_aload_n hx hb dX8_says_183 rfl (lv_at hl 3 rfl) ?_
                    refine f_get X hP (T := TX8) (ci := 8) (k := 86) rfl inX8 rfl 12 (by decide) m_4_186 rfl (v := .ref (fad E 91)) rfl dX8_says_184 ?_
                    refine lv_iload_n hx hb dX8_says_187 rfl (lv_at hl 2 rfl) ?_
                    refine f_iald X hP (k := 91) (n := 6) (q := (M 103 s1.toNatClampNeg).toNatClampNeg) rfl rfl (fIx_cnt 6 hs9.1 hs9.2 hwc hwc6 (by decide)) dX8_says_188 ?_
                    refine f_ir X hlk hr (v := (M 91 ((M 103 s1.toNatClampNeg).toNatClampNeg))) rfl hP hS ?_ dX8_says_189
                    unfold a_X8_says
                    (first | rw [if_pos c_5] | rw [if_neg c_5] | rw [if_neg (Bool.eq_false_iff.mp c_5)] | skip)
                    (first | rw [if_pos c_9] | rw [if_neg c_9] | rw [if_neg (Bool.eq_false_iff.mp c_9)] | skip)
                    (first | rw [if_pos c_15] | rw [if_neg c_15] | rw [if_neg (Bool.eq_false_iff.mp c_15)] | skip)
                    (first | rw [if_pos c_31] | rw [if_neg c_31] | rw [if_neg (Bool.eq_false_iff.mp c_31)] | skip)
                    (first | rw [if_pos c_47] | rw [if_neg c_47] | rw [if_neg (Bool.eq_false_iff.mp c_47)] | skip)
                    (first | rw [if_pos c_114] | rw [if_neg c_114] | rw [if_neg (Bool.eq_false_iff.mp c_114)] | skip)
                    (first | rw [if_pos c_120] | rw [if_neg c_120] | rw [if_neg (Bool.eq_false_iff.mp c_120)] | skip)
                    (first | rw [if_pos s_136_0] | rw [if_neg s_136_0] | rw [if_neg (Bool.eq_false_iff.mp s_136_0)] | skip)
                    (first | rw [if_pos s_136_1] | rw [if_neg s_136_1] | rw [if_neg (Bool.eq_false_iff.mp s_136_1)] | skip)
                    (try dsimp only)
                    first
                      | done
                      | exact ⟨rfl, rfl⟩
                      | rfl
                      | (simp only [c_5, c_9, c_15, c_31, c_47, c_114, c_120, s_136_0, s_136_1, if_true, if_false, and_self, and_true, true_and, not_true_eq_false, not_false_eq_true, and_false, false_and, or_true, true_or, or_false, false_or, or_self, Bool.false_eq_true, reduceCtorEq, nl10, nl20, nl30, nl40, nl50, nl60, nl70, nl12, nl13, nl21, nl23, nl31, nl32]; first | done | exact ⟨rfl, rfl⟩ | rfl)
                      | contradiction
                      | (simp only [c_5, c_9, c_15, c_31, c_47, c_114, c_120, s_136_0, s_136_1, if_true, if_false, and_self, and_true, true_and, not_true_eq_false, not_false_eq_true, and_false, false_and, or_true, true_or, or_false, false_or, or_self, Bool.false_eq_true, reduceCtorEq, nl10, nl20, nl30, nl40, nl50, nl60, nl70, nl12, nl13, nl21, nl23, nl31, nl32]; contradiction)
                      | (exfalso; simp_all; done)
                      | simp_all
                  by_cases s_136_2 : k = 2
                  · refine lv_tableIn (tgt := 190) hx hb dX8_says_136 (by rw [s_136_2]; decide) (by rw [s_136_2]; decide) (by rw [s_136_2]; rfl) (by decide) ?_
                    refine lv_aload_n hx hb dX8_says_190 rfl (lv_at hl 3 rfl) ?_
                    refine f_get X hP (T := TX8) (ci := 8) (k := 86) rfl inX8 rfl 10 (by decide) m_4_184 rfl (v := .ref (fad E 89)) rfl dX8_says_191 ?_
                    refine lv_iload_n hx hb dX8_says_194 rfl (lv_at hl 2 rfl) ?_
                    refine f_iald X hP (k := 89) (n := 6) (q := (M 103 s1.toNatClampNeg).toNatClampNeg) rfl rfl (fIx_cnt 6 hs9.1 hs9.2 hwc hwc6 (by decide)) dX8_says_195 ?_
                    refine f_ir X hlk hr (v := (M 89 ((M 103 s1.toNatClampNeg).toNatClampNeg))) rfl hP hS ?_ dX8_says_196
                    unfold a_X8_says
                    (first | rw [if_pos c_5] | rw [if_neg c_5] | rw [if_neg (Bool.eq_false_iff.mp c_5)] | skip)
                    (first | rw [if_pos c_9] | rw [if_neg c_9] | rw [if_neg (Bool.eq_false_iff.mp c_9)] | skip)
                    (first | rw [if_pos c_15] | rw [if_neg c_15] | rw [if_neg (Bool.eq_false_iff.mp c_15)] | skip)
                    (first | rw [if_pos c_31] | rw [if_neg c_31] | rw [if_neg (Bool.eq_false_iff.mp c_31)] | skip)
                    (first | rw [if_pos c_47] | rw [if_neg c_47] | rw [if_neg (Bool.eq_false_iff.mp c_47)] | skip)
                    (first | rw [if_pos c_114] | rw [if_neg c_114] | rw [if_neg (Bool.eq_false_iff.mp c_114)] | skip)
                    (first | rw [if_pos c_120] | rw [if_neg c_120] | rw [if_neg (Bool.eq_false_iff.mp c_120)] | skip)
                    (first | rw [if_pos s_136_0] | rw [if_neg s_136_0] | rw [if_neg (Bool.eq_false_iff.mp s_136_0)] | skip)
                    (first | rw [if_pos s_136_1] | rw [if_neg s_136_1] | rw [if_neg (Bool.eq_false_iff.mp s_136_1)] | skip)
                    (first | rw [if_pos s_136_2] | rw [if_neg s_136_2] | rw [if_neg (Bool.eq_false_iff.mp s_136_2)] | skip)
                    (try dsimp only)
                    first
                      | done
                      | exact ⟨rfl, rfl⟩
                      | rfl
                      | (simp only [c_5, c_9, c_15, c_31, c_47, c_114, c_120, s_136_0, s_136_1, s_136_2, if_true, if_false, and_self, and_true, true_and, not_true_eq_false, not_false_eq_true, and_false, false_and, or_true, true_or, or_false, false_or, or_self, Bool.false_eq_true, reduceCtorEq, nl10, nl20, nl30, nl40, nl50, nl60, nl70, nl12, nl13, nl21, nl23, nl31, nl32]; first | done | exact ⟨rfl, rfl⟩ | rfl)
                      | contradiction
                      | (simp only [c_5, c_9, c_15, c_31, c_47, c_114, c_120, s_136_0, s_136_1, s_136_2, if_true, if_false, and_self, and_true, true_and, not_true_eq_false, not_false_eq_true, and_false, false_and, or_true, true_or, or_false, false_or, or_self, Bool.false_eq_true, reduceCtorEq, nl10, nl20, nl30, nl40, nl50, nl60, nl70, nl12, nl13, nl21, nl23, nl31, nl32]; contradiction)
                      | (exfalso; simp_all; done)
                      | simp_all
                  by_cases s_136_3 : k = 3
                  · refine lv_tableIn (tgt := 183) hx hb dX8_says_136 (by rw [s_136_3]; decide) (by rw [s_136_3]; decide) (by rw [s_136_3]; rfl) (by decide) ?_
                    refine lv_aload_n hx hb dX8_says_183 rfl (lv_at hl 3 rfl) ?_
                    refine f_get X hP (T := TX8) (ci := 8) (k := 86) rfl inX8 rfl 12 (by decide) m_4_186 rfl (v := .ref (fad E 91)) rfl dX8_says_184 ?_
                    refine lv_iload_n hx hb dX8_says_187 rfl (lv_at hl 2 rfl) ?_
                    refine f_iald X hP (k := 91) (n := 6) (q := (M 103 s1.toNatClampNeg).toNatClampNeg) rfl rfl (fIx_cnt 6 hs9.1 hs9.2 hwc hwc6 (by decide)) dX8_says_188 ?_
                    refine f_ir X hlk hr (v := (M 91 ((M 103 s1.toNatClampNeg).toNatClampNeg))) rfl hP hS ?_ dX8_says_189
                    unfold a_X8_says
                    (first | rw [if_pos c_5] | rw [if_neg c_5] | rw [if_neg (Bool.eq_false_iff.mp c_5)] | skip)
                    (first | rw [if_pos c_9] | rw [if_neg c_9] | rw [if_neg (Bool.eq_false_iff.mp c_9)] | skip)
                    (first | rw [if_pos c_15] | rw [if_neg c_15] | rw [if_neg (Bool.eq_false_iff.mp c_15)] | skip)
                    (first | rw [if_pos c_31] | rw [if_neg c_31] | rw [if_neg (Bool.eq_false_iff.mp c_31)] | skip)
                    (first | rw [if_pos c_47] | rw [if_neg c_47] | rw [if_neg (Bool.eq_false_iff.mp c_47)] | skip)
                    (first | rw [if_pos c_114] | rw [if_neg c_114] | rw [if_neg (Bool.eq_false_iff.mp c_114)] | skip)
                    (first | rw [if_pos c_120] | rw [if_neg c_120] | rw [if_neg (Bool.eq_false_iff.mp c_120)] | skip)
                    (first | rw [if_pos s_136_0] | rw [if_neg s_136_0] | rw [if_neg (Bool.eq_false_iff.mp s_136_0)] | skip)
                    (first | rw [if_pos s_136_1] | rw [if_neg s_136_1] | rw [if_neg (Bool.eq_false_iff.mp s_136_1)] | skip)
                    (first | rw [if_pos s_136_2] | rw [if_neg s_136_2] | rw [if_neg (Bool.eq_false_iff.mp s_136_2)] | skip)
                    (first | rw [if_pos s_136_3] | rw [if_neg s_136_3] | rw [if_neg (Bool.eq_false_iff.mp s_136_3)] | skip)
                    (try dsimp only)
                    first
                      | done
                      | exact ⟨rfl, rfl⟩
                      | rfl
                      | (simp only [c_5, c_9, c_15, c_31, c_47, c_114, c_120, s_136_0, s_136_1, s_136_2, s_136_3, if_true, if_false, and_self, and_true, true_and, not_true_eq_false, not_false_eq_true, and_false, false_and, or_true, true_or, or_false, false_or, or_self, Bool.false_eq_true, reduceCtorEq, nl10, nl20, nl30, nl40, nl50, nl60, nl70, nl12, nl13, nl21, nl23, nl31, nl32]; first | done | exact ⟨rfl, rfl⟩ | rfl)
                      | contradiction
                      | (simp only [c_5, c_9, c_15, c_31, c_47, c_114, c_120, s_136_0, s_136_1, s_136_2, s_136_3, if_true, if_false, and_self, and_true, true_and, not_true_eq_false, not_false_eq_true, and_false, false_and, or_true, true_or, or_false, false_or, or_self, Bool.false_eq_true, reduceCtorEq, nl10, nl20, nl30, nl40, nl50, nl60, nl70, nl12, nl13, nl21, nl23, nl31, nl32]; contradiction)
                      | (exfalso; simp_all; done)
                      | simp_all
                  by_cases s_136_4 : k = 4
                  · refine lv_tableIn (tgt := 197) hx hb dX8_says_136 (by rw [s_136_4]; decide) (by rw [s_136_4]; decide) (by rw [s_136_4]; rfl) (by decide) ?_
                    refine lv_aload_n hx hb dX8_says_197 rfl (lv_at hl 3 rfl) ?_
                    refine f_get X hP (T := TX8) (ci := 8) (k := 86) rfl inX8 rfl 11 (by decide) m_4_185 rfl (v := .ref (fad E 90)) rfl dX8_says_198 ?_
                    refine lv_iload_n hx hb dX8_says_201 rfl (lv_at hl 2 rfl) ?_
                    refine f_iald X hP (k := 90) (n := 6) (q := (M 103 s1.toNatClampNeg).toNatClampNeg) rfl rfl (fIx_cnt 6 hs9.1 hs9.2 hwc hwc6 (by decide)) dX8_says_202 ?_
                    refine f_ir X hlk hr (v := (M 90 ((M 103 s1.toNatClampNeg).toNatClampNeg))) rfl hP hS ?_ dX8_says_203
                    unfold a_X8_says
                    (first | rw [if_pos c_5] | rw [if_neg c_5] | rw [if_neg (Bool.eq_false_iff.mp c_5)] | skip)
                    (first | rw [if_pos c_9] | rw [if_neg c_9] | rw [if_neg (Bool.eq_false_iff.mp c_9)] | skip)
                    (first | rw [if_pos c_15] | rw [if_neg c_15] | rw [if_neg (Bool.eq_false_iff.mp c_15)] | skip)
                    (first | rw [if_pos c_31] | rw [if_neg c_31] | rw [if_neg (Bool.eq_false_iff.mp c_31)] | skip)
                    (first | rw [if_pos c_47] | rw [if_neg c_47] | rw [if_neg (Bool.eq_false_iff.mp c_47)] | skip)
                    (first | rw [if_pos c_114] | rw [if_neg c_114] | rw [if_neg (Bool.eq_false_iff.mp c_114)] | skip)
                    (first | rw [if_pos c_120] | rw [if_neg c_120] | rw [if_neg (Bool.eq_false_iff.mp c_120)] | skip)
                    (first | rw [if_pos s_136_0] | rw [if_neg s_136_0] | rw [if_neg (Bool.eq_false_iff.mp s_136_0)] | skip)
                    (first | rw [if_pos s_136_1] | rw [if_neg s_136_1] | rw [if_neg (Bool.eq_false_iff.mp s_136_1)] | skip)
                    (first | rw [if_pos s_136_2] | rw [if_neg s_136_2] | rw [if_neg (Bool.eq_false_iff.mp s_136_2)] | skip)
                    (first | rw [if_pos s_136_3] | rw [if_neg s_136_3] | rw [if_neg (Bool.eq_false_iff.mp s_136_3)] | skip)
                    (first | rw [if_pos s_136_4] | rw [if_neg s_136_4] | rw [if_neg (Bool.eq_false_iff.mp s_136_4)] | skip)
                    (try dsimp only)
                    first
                      | done
                      | exact ⟨rfl, rfl⟩
                      | rfl
                      | (simp only [c_5, c_9, c_15, c_31, c_47, c_114, c_120, s_136_0, s_136_1, s_136_2, s_136_3, s_136_4, if_true, if_false, and_self, and_true, true_and, not_true_eq_false, not_false_eq_true, and_false, false_and, or_true, true_or, or_false, false_or, or_self, Bool.false_eq_true, reduceCtorEq, nl10, nl20, nl30, nl40, nl50, nl60, nl70, nl12, nl13, nl21, nl23, nl31, nl32]; first | done | exact ⟨rfl, rfl⟩ | rfl)
                      | contradiction
                      | (simp only [c_5, c_9, c_15, c_31, c_47, c_114, c_120, s_136_0, s_136_1, s_136_2, s_136_3, s_136_4, if_true, if_false, and_self, and_true, true_and, not_true_eq_false, not_false_eq_true, and_false, false_and, or_true, true_or, or_false, false_or, or_self, Bool.false_eq_true, reduceCtorEq, nl10, nl20, nl30, nl40, nl50, nl60, nl70, nl12, nl13, nl21, nl23, nl31, nl32]; contradiction)
                      | (exfalso; simp_all; done)
                      | simp_all
                  by_cases s_136_5 : k = 5
                  · refine lv_tableIn (tgt := 190) hx hb dX8_says_136 (by rw [s_136_5]; decide) (by rw [s_136_5]; decide) (by rw [s_136_5]; rfl) (by decide) ?_
                    refine lv_aload_n hx hb dX8_says_190 rfl (lv_at hl 3 rfl) ?_
                    refine f_get X hP (T := TX8) (ci := 8) (k := 86) rfl inX8 rfl 10 (by decide) m_4_184 rfl (v := .ref (fad E 89)) rfl dX8_says_191 ?_
                    refine lv_iload_n hx hb dX8_says_194 rfl (lv_at hl 2 rfl) ?_
                    refine f_iald X hP (k := 89) (n := 6) (q := (M 103 s1.toNatClampNeg).toNatClampNeg) rfl rfl (fIx_cnt 6 hs9.1 hs9.2 hwc hwc6 (by decide)) dX8_says_195 ?_
                    refine f_ir X hlk hr (v := (M 89 ((M 103 s1.toNatClampNeg).toNatClampNeg))) rfl hP hS ?_ dX8_says_196
                    unfold a_X8_says
                    (first | rw [if_pos c_5] | rw [if_neg c_5] | rw [if_neg (Bool.eq_false_iff.mp c_5)] | skip)
                    (first | rw [if_pos c_9] | rw [if_neg c_9] | rw [if_neg (Bool.eq_false_iff.mp c_9)] | skip)
                    (first | rw [if_pos c_15] | rw [if_neg c_15] | rw [if_neg (Bool.eq_false_iff.mp c_15)] | skip)
                    (first | rw [if_pos c_31] | rw [if_neg c_31] | rw [if_neg (Bool.eq_false_iff.mp c_31)] | skip)
                    (first | rw [if_pos c_47] | rw [if_neg c_47] | rw [if_neg (Bool.eq_false_iff.mp c_47)] | skip)
                    (first | rw [if_pos c_114] | rw [if_neg c_114] | rw [if_neg (Bool.eq_false_iff.mp c_114)] | skip)
                    (first | rw [if_pos c_120] | rw [if_neg c_120] | rw [if_neg (Bool.eq_false_iff.mp c_120)] | skip)
                    (first | rw [if_pos s_136_0] | rw [if_neg s_136_0] | rw [if_neg (Bool.eq_false_iff.mp s_136_0)] | skip)
                    (first | rw [if_pos s_136_1] | rw [if_neg s_136_1] | rw [if_neg (Bool.eq_false_iff.mp s_136_1)] | skip)
                    (first | rw [if_pos s_136_2] | rw [if_neg s_136_2] | rw [if_neg (Bool.eq_false_iff.mp s_136_2)] | skip)
                    (first | rw [if_pos s_136_3] | rw [if_neg s_136_3] | rw [if_neg (Bool.eq_false_iff.mp s_136_3)] | skip)
                    (first | rw [if_pos s_136_4] | rw [if_neg s_136_4] | rw [if_neg (Bool.eq_false_iff.mp s_136_4)] | skip)
                    (first | rw [if_pos s_136_5] | rw [if_neg s_136_5] | rw [if_neg (Bool.eq_false_iff.mp s_136_5)] | skip)
                    (try dsimp only)
                    first
                      | done
                      | exact ⟨rfl, rfl⟩
                      | rfl
                      | (simp only [c_5, c_9, c_15, c_31, c_47, c_114, c_120, s_136_0, s_136_1, s_136_2, s_136_3, s_136_4, s_136_5, if_true, if_false, and_self, and_true, true_and, not_true_eq_false, not_false_eq_true, and_false, false_and, or_true, true_or, or_false, false_or, or_self, Bool.false_eq_true, reduceCtorEq, nl10, nl20, nl30, nl40, nl50, nl60, nl70, nl12, nl13, nl21, nl23, nl31, nl32]; first | done | exact ⟨rfl, rfl⟩ | rfl)
                      | contradiction
                      | (simp only [c_5, c_9, c_15, c_31, c_47, c_114, c_120, s_136_0, s_136_1, s_136_2, s_136_3, s_136_4, s_136_5, if_true, if_false, and_self, and_true, true_and, not_true_eq_false, not_false_eq_true, and_false, false_and, or_true, true_or, or_false, false_or, or_self, Bool.false_eq_true, reduceCtorEq, nl10, nl20, nl30, nl40, nl50, nl60, nl70, nl12, nl13, nl21, nl23, nl31, nl32]; contradiction)
                      | (exfalso; simp_all; done)
                      | simp_all
                  refine lv_tableOut (tgt := 197) hx hb dX8_says_136 (by have q0 := lv_neT s_136_0 (a := 0) rfl; have q1 := lv_neT s_136_1 (a := 1) rfl; have q2 := lv_neT s_136_2 (a := 2) rfl; have q3 := lv_neT s_136_3 (a := 3) rfl; have q4 := lv_neT s_136_4 (a := 4) rfl; have q5 := lv_neT s_136_5 (a := 5) rfl; omega) (by decide) ?_
                  refine lv_aload_n hx hb dX8_says_197 rfl (lv_at hl 3 rfl) ?_
                  refine f_get X hP (T := TX8) (ci := 8) (k := 86) rfl inX8 rfl 11 (by decide) m_4_185 rfl (v := .ref (fad E 90)) rfl dX8_says_198 ?_
                  refine lv_iload_n hx hb dX8_says_201 rfl (lv_at hl 2 rfl) ?_
                  refine f_iald X hP (k := 90) (n := 6) (q := (M 103 s1.toNatClampNeg).toNatClampNeg) rfl rfl (fIx_cnt 6 hs9.1 hs9.2 hwc hwc6 (by decide)) dX8_says_202 ?_
                  refine f_ir X hlk hr (v := (M 90 ((M 103 s1.toNatClampNeg).toNatClampNeg))) rfl hP hS ?_ dX8_says_203
                  unfold a_X8_says
                  (first | rw [if_pos c_5] | rw [if_neg c_5] | rw [if_neg (Bool.eq_false_iff.mp c_5)] | skip)
                  (first | rw [if_pos c_9] | rw [if_neg c_9] | rw [if_neg (Bool.eq_false_iff.mp c_9)] | skip)
                  (first | rw [if_pos c_15] | rw [if_neg c_15] | rw [if_neg (Bool.eq_false_iff.mp c_15)] | skip)
                  (first | rw [if_pos c_31] | rw [if_neg c_31] | rw [if_neg (Bool.eq_false_iff.mp c_31)] | skip)
                  (first | rw [if_pos c_47] | rw [if_neg c_47] | rw [if_neg (Bool.eq_false_iff.mp c_47)] | skip)
                  (first | rw [if_pos c_114] | rw [if_neg c_114] | rw [if_neg (Bool.eq_false_iff.mp c_114)] | skip)
                  (first | rw [if_pos c_120] | rw [if_neg c_120] | rw [if_neg (Bool.eq_false_iff.mp c_120)] | skip)
                  (first | rw [if_pos s_136_0] | rw [if_neg s_136_0] | rw [if_neg (Bool.eq_false_iff.mp s_136_0)] | skip)
                  (first | rw [if_pos s_136_1] | rw [if_neg s_136_1] | rw [if_neg (Bool.eq_false_iff.mp s_136_1)] | skip)
                  (first | rw [if_pos s_136_2] | rw [if_neg s_136_2] | rw [if_neg (Bool.eq_false_iff.mp s_136_2)] | skip)
                  (first | rw [if_pos s_136_3] | rw [if_neg s_136_3] | rw [if_neg (Bool.eq_false_iff.mp s_136_3)] | skip)
                  (first | rw [if_pos s_136_4] | rw [if_neg s_136_4] | rw [if_neg (Bool.eq_false_iff.mp s_136_4)] | skip)
                  (first | rw [if_pos s_136_5] | rw [if_neg s_136_5] | rw [if_neg (Bool.eq_false_iff.mp s_136_5)] | skip)
                  (try dsimp only)
                  first
                    | done
                    | exact ⟨rfl, rfl⟩
                    | rfl
                    | (simp only [c_5, c_9, c_15, c_31, c_47, c_114, c_120, s_136_0, s_136_1, s_136_2, s_136_3, s_136_4, s_136_5, if_true, if_false, and_self, and_true, true_and, not_true_eq_false, not_false_eq_true, and_false, false_and, or_true, true_or, or_false, false_or, or_self, Bool.false_eq_true, reduceCtorEq, nl10, nl20, nl30, nl40, nl50, nl60, nl70, nl12, nl13, nl21, nl23, nl31, nl32]; first | done | exact ⟨rfl, rfl⟩ | rfl)
                    | contradiction
                    | (simp only [c_5, c_9, c_15, c_31, c_47, c_114, c_120, s_136_0, s_136_1, s_136_2, s_136_3, s_136_4, s_136_5, if_true, if_false, and_self, and_true, true_and, not_true_eq_false, not_false_eq_true, and_false, false_and, or_true, true_or, or_false, false_or, or_self, Bool.false_eq_true, reduceCtorEq, nl10, nl20, nl30, nl40, nl50, nl60, nl70, nl12, nl13, nl21, nl23, nl31, nl32]; contradiction)
                    | (exfalso; simp_all; done)
                    | simp_all
                · refine lv_iload hx hb dX8_says_123 (lv_at hl 0 rfl) ?_
                  refine lv_if_ne (tgt := 135) hx hb dX8_says_125 (by decide) (fun c_125 => ?_) (fun c_125 => ?_)
                  · have c_125 := bI1 c_125
                    refine lv_iload_n hx hb dX8_says_135 rfl (lv_at hl 5 rfl) ?_
                    by_cases s_136_0 : k = 0
                    · refine lv_tableIn (tgt := 176) hx hb dX8_says_136 (by rw [s_136_0]; decide) (by rw [s_136_0]; decide) (by rw [s_136_0]; rfl) (by decide) ?_
                      refine lv_aload_n hx hb dX8_says_176 rfl (lv_at hl 3 rfl) ?_
                      refine f_get X hP (T := TX8) (ci := 8) (k := 86) rfl inX8 rfl 13 (by decide) m_4_187 rfl (v := .ref (fad E 92)) rfl dX8_says_177 ?_
                      refine lv_iload_n hx hb dX8_says_180 rfl (lv_at hl 2 rfl) ?_
                      refine f_iald X hP (k := 92) (n := 6) (q := (M 103 s1.toNatClampNeg).toNatClampNeg) rfl rfl (fIx_cnt 6 hs9.1 hs9.2 hwc hwc6 (by decide)) dX8_says_181 ?_
                      refine f_ir X hlk hr (v := (M 92 ((M 103 s1.toNatClampNeg).toNatClampNeg))) rfl hP hS ?_ dX8_says_182
                      unfold a_X8_says
                      (first | rw [if_pos c_5] | rw [if_neg c_5] | rw [if_neg (Bool.eq_false_iff.mp c_5)] | skip)
                      (first | rw [if_pos c_9] | rw [if_neg c_9] | rw [if_neg (Bool.eq_false_iff.mp c_9)] | skip)
                      (first | rw [if_pos c_15] | rw [if_neg c_15] | rw [if_neg (Bool.eq_false_iff.mp c_15)] | skip)
                      (first | rw [if_pos c_31] | rw [if_neg c_31] | rw [if_neg (Bool.eq_false_iff.mp c_31)] | skip)
                      (first | rw [if_pos c_47] | rw [if_neg c_47] | rw [if_neg (Bool.eq_false_iff.mp c_47)] | skip)
                      (first | rw [if_pos c_114] | rw [if_neg c_114] | rw [if_neg (Bool.eq_false_iff.mp c_114)] | skip)
                      (first | rw [if_pos c_120] | rw [if_neg c_120] | rw [if_neg (Bool.eq_false_iff.mp c_120)] | skip)
                      (first | rw [if_pos c_125] | rw [if_neg c_125] | rw [if_neg (Bool.eq_false_iff.mp c_125)] | skip)
                      (first | rw [if_pos s_136_0] | rw [if_neg s_136_0] | rw [if_neg (Bool.eq_false_iff.mp s_136_0)] | skip)
                      (try dsimp only)
                      first
                        | done
                        | exact ⟨rfl, rfl⟩
                        | rfl
                        | (simp only [c_5, c_9, c_15, c_31, c_47, c_114, c_120, c_125, s_136_0, if_true, if_false, and_self, and_true, true_and, not_true_eq_false, not_false_eq_true, and_false, false_and, or_true, true_or, or_false, false_or, or_self, Bool.false_eq_true, reduceCtorEq, nl10, nl20, nl30, nl40, nl50, nl60, nl70, nl12, nl13, nl21, nl23, nl31, nl32]; first | done | exact ⟨rfl, rfl⟩ | rfl)
                        | contradiction
                        | (simp only [c_5, c_9, c_15, c_31, c_47, c_114, c_120, c_125, s_136_0, if_true, if_false, and_self, and_true, true_and, not_true_eq_false, not_false_eq_true, and_false, false_and, or_true, true_or, or_false, false_or, or_self, Bool.false_eq_true, reduceCtorEq, nl10, nl20, nl30, nl40, nl50, nl60, nl70, nl12, nl13, nl21, nl23, nl31, nl32]; contradiction)
                        | (exfalso; simp_all; done)
                        | simp_all
                    by_cases s_136_1 : k = 1
                    · refine lv_tableIn (tgt := 183) hx hb dX8_says_136 (by rw [s_136_1]; decide) (by rw [s_136_1]; decide) (by rw [s_136_1]; rfl) (by decide) ?_
                      refine lv_aload_n hx hb dX8_says_183 rfl (lv_at hl 3 rfl) ?_
                      refine f_get X hP (T := TX8) (ci := 8) (k := 86) rfl inX8 rfl 12 (by decide) m_4_186 rfl (v := .ref (fad E 91)) rfl dX8_says_184 ?_
                      refine lv_iload_n hx hb dX8_says_187 rfl (lv_at hl 2 rfl) ?_
                      refine f_iald X hP (k := 91) (n := 6) (q := (M 103 s1.toNatClampNeg).toNatClampNeg) rfl rfl (fIx_cnt 6 hs9.1 hs9.2 hwc hwc6 (by decide)) dX8_says_188 ?_
                      refine f_ir X hlk hr (v := (M 91 ((M 103 s1.toNatClampNeg).toNatClampNeg))) rfl hP hS ?_ dX8_says_189
                      unfold a_X8_says
                      (first | rw [if_pos c_5] | rw [if_neg c_5] | rw [if_neg (Bool.eq_false_iff.mp c_5)] | skip)
                      (first | rw [if_pos c_9] | rw [if_neg c_9] | rw [if_neg (Bool.eq_false_iff.mp c_9)] | skip)
                      (first | rw [if_pos c_15] | rw [if_neg c_15] | rw [if_neg (Bool.eq_false_iff.mp c_15)] | skip)
                      (first | rw [if_pos c_31] | rw [if_neg c_31] | rw [if_neg (Bool.eq_false_iff.mp c_31)] | skip)
                      (first | rw [if_pos c_47] | rw [if_neg c_47] | rw [if_neg (Bool.eq_false_iff.mp c_47)] | skip)
                      (first | rw [if_pos c_114] | rw [if_neg c_114] | rw [if_neg (Bool.eq_false_iff.mp c_114)] | skip)
                      (first | rw [if_pos c_120] | rw [if_neg c_120] | rw [if_neg (Bool.eq_false_iff.mp c_120)] | skip)
                      (first | rw [if_pos c_125] | rw [if_neg c_125] | rw [if_neg (Bool.eq_false_iff.mp c_125)] | skip)
                      (first | rw [if_pos s_136_0] | rw [if_neg s_136_0] | rw [if_neg (Bool.eq_false_iff.mp s_136_0)] | skip)
                      (first | rw [if_pos s_136_1] | rw [if_neg s_136_1] | rw [if_neg (Bool.eq_false_iff.mp s_136_1)] | skip)
                      (try dsimp only)
                      first
                        | done
                        | exact ⟨rfl, rfl⟩
                        | rfl
                        | (simp only [c_5, c_9, c_15, c_31, c_47, c_114, c_120, c_125, s_136_0, s_136_1, if_true, if_false, and_self, and_true, true_and, not_true_eq_false, not_false_eq_true, and_false, false_and, or_true, true_or, or_false, false_or, or_self, Bool.false_eq_true, reduceCtorEq, nl10, nl20, nl30, nl40, nl50, nl60, nl70, nl12, nl13, nl21, nl23, nl31, nl32]; first | done | exact ⟨rfl, rfl⟩ | rfl)
                        | contradiction
                        | (simp only [c_5, c_9, c_15, c_31, c_47, c_114, c_120, c_125, s_136_0, s_136_1, if_true, if_false, and_self, and_true, true_and, not_true_eq_false, not_false_eq_true, and_false, false_and, or_true, true_or, or_false, false_or, or_self, Bool.false_eq_true, reduceCtorEq, nl10, nl20, nl30, nl40, nl50, nl60, nl70, nl12, nl13, nl21, nl23, nl31, nl32]; contradiction)
                        | (exfalso; simp_all; done)
                        | simp_all
                    by_cases s_136_2 : k = 2
                    · refine lv_tableIn (tgt := 190) hx hb dX8_says_136 (by rw [s_136_2]; decide) (by rw [s_136_2]; decide) (by rw [s_136_2]; rfl) (by decide) ?_
                      refine lv_aload_n hx hb dX8_says_190 rfl (lv_at hl 3 rfl) ?_
                      refine f_get X hP (T := TX8) (ci := 8) (k := 86) rfl inX8 rfl 10 (by decide) m_4_184 rfl (v := .ref (fad E 89)) rfl dX8_says_191 ?_
                      refine lv_iload_n hx hb dX8_says_194 rfl (lv_at hl 2 rfl) ?_
                      refine f_iald X hP (k := 89) (n := 6) (q := (M 103 s1.toNatClampNeg).toNatClampNeg) rfl rfl (fIx_cnt 6 hs9.1 hs9.2 hwc hwc6 (by decide)) dX8_says_195 ?_
                      refine f_ir X hlk hr (v := (M 89 ((M 103 s1.toNatClampNeg).toNatClampNeg))) rfl hP hS ?_ dX8_says_196
                      unfold a_X8_says
                      (first | rw [if_pos c_5] | rw [if_neg c_5] | rw [if_neg (Bool.eq_false_iff.mp c_5)] | skip)
                      (first | rw [if_pos c_9] | rw [if_neg c_9] | rw [if_neg (Bool.eq_false_iff.mp c_9)] | skip)
                      (first | rw [if_pos c_15] | rw [if_neg c_15] | rw [if_neg (Bool.eq_false_iff.mp c_15)] | skip)
                      (first | rw [if_pos c_31] | rw [if_neg c_31] | rw [if_neg (Bool.eq_false_iff.mp c_31)] | skip)
                      (first | rw [if_pos c_47] | rw [if_neg c_47] | rw [if_neg (Bool.eq_false_iff.mp c_47)] | skip)
                      (first | rw [if_pos c_114] | rw [if_neg c_114] | rw [if_neg (Bool.eq_false_iff.mp c_114)] | skip)
                      (first | rw [if_pos c_120] | rw [if_neg c_120] | rw [if_neg (Bool.eq_false_iff.mp c_120)] | skip)
                      (first | rw [if_pos c_125] | rw [if_neg c_125] | rw [if_neg (Bool.eq_false_iff.mp c_125)] | skip)
                      (first | rw [if_pos s_136_0] | rw [if_neg s_136_0] | rw [if_neg (Bool.eq_false_iff.mp s_136_0)] | skip)
                      (first | rw [if_pos s_136_1] | rw [if_neg s_136_1] | rw [if_neg (Bool.eq_false_iff.mp s_136_1)] | skip)
                      (first | rw [if_pos s_136_2] | rw [if_neg s_136_2] | rw [if_neg (Bool.eq_false_iff.mp s_136_2)] | skip)
                      (try dsimp only)
                      first
                        | done
                        | exact ⟨rfl, rfl⟩
                        | rfl
                        | (simp only [c_5, c_9, c_15, c_31, c_47, c_114, c_120, c_125, s_136_0, s_136_1, s_136_2, if_true, if_false, and_self, and_true, true_and, not_true_eq_false, not_false_eq_true, and_false, false_and, or_true, true_or, or_false, false_or, or_self, Bool.false_eq_true, reduceCtorEq, nl10, nl20, nl30, nl40, nl50, nl60, nl70, nl12, nl13, nl21, nl23, nl31, nl32]; first | done | exact ⟨rfl, rfl⟩ | rfl)
                        | contradiction
                        | (simp only [c_5, c_9, c_15, c_31, c_47, c_114, c_120, c_125, s_136_0, s_136_1, s_136_2, if_true, if_false, and_self, and_true, true_and, not_true_eq_false, not_false_eq_true, and_false, false_and, or_true, true_or, or_false, false_or, or_self, Bool.false_eq_true, reduceCtorEq, nl10, nl20, nl30, nl40, nl50, nl60, nl70, nl12, nl13, nl21, nl23, nl31, nl32]; contradiction)
                        | (exfalso; simp_all; done)
                        | simp_all
                    by_cases s_136_3 : k = 3
                    · refine lv_tableIn (tgt := 183) hx hb dX8_says_136 (by rw [s_136_3]; decide) (by rw [s_136_3]; decide) (by rw [s_136_3]; rfl) (by decide) ?_
                      refine lv_aload_n hx hb dX8_says_183 rfl (lv_at hl 3 rfl) ?_
                      refine f_get X hP (T := TX8) (ci := 8) (k := 86) rfl inX8 rfl 12 (by decide) m_4_186 rfl (v := .ref (fad E 91)) rfl dX8_says_184 ?_
                      refine lv_iload_n hx hb dX8_says_187 rfl (lv_at hl 2 rfl) ?_
                      refine f_iald X hP (k := 91) (n := 6) (q := (M 103 s1.toNatClampNeg).toNatClampNeg) rfl rfl (fIx_cnt 6 hs9.1 hs9.2 hwc hwc6 (by decide)) dX8_says_188 ?_
                      refine f_ir X hlk hr (v := (M 91 ((M 103 s1.toNatClampNeg).toNatClampNeg))) rfl hP hS ?_ dX8_says_189
                      unfold a_X8_says
                      (first | rw [if_pos c_5] | rw [if_neg c_5] | rw [if_neg (Bool.eq_false_iff.mp c_5)] | skip)
                      (first | rw [if_pos c_9] | rw [if_neg c_9] | rw [if_neg (Bool.eq_false_iff.mp c_9)] | skip)
                      (first | rw [if_pos c_15] | rw [if_neg c_15] | rw [if_neg (Bool.eq_false_iff.mp c_15)] | skip)
                      (first | rw [if_pos c_31] | rw [if_neg c_31] | rw [if_neg (Bool.eq_false_iff.mp c_31)] | skip)
                      (first | rw [if_pos c_47] | rw [if_neg c_47] | rw [if_neg (Bool.eq_false_iff.mp c_47)] | skip)
                      (first | rw [if_pos c_114] | rw [if_neg c_114] | rw [if_neg (Bool.eq_false_iff.mp c_114)] | skip)
                      (first | rw [if_pos c_120] | rw [if_neg c_120] | rw [if_neg (Bool.eq_false_iff.mp c_120)] | skip)
                      (first | rw [if_pos c_125] | rw [if_neg c_125] | rw [if_neg (Bool.eq_false_iff.mp c_125)] | skip)
                      (first | rw [if_pos s_136_0] | rw [if_neg s_136_0] | rw [if_neg (Bool.eq_false_iff.mp s_136_0)] | skip)
                      (first | rw [if_pos s_136_1] | rw [if_neg s_136_1] | rw [if_neg (Bool.eq_false_iff.mp s_136_1)] | skip)
                      (first | rw [if_pos s_136_2] | rw [if_neg s_136_2] | rw [if_neg (Bool.eq_false_iff.mp s_136_2)] | skip)
                      (first | rw [if_pos s_136_3] | rw [if_neg s_136_3] | rw [if_neg (Bool.eq_false_iff.mp s_136_3)] | skip)
                      (try dsimp only)
                      first
                        | done
                        | exact ⟨rfl, rfl⟩
                        | rfl
                        | (simp only [c_5, c_9, c_15, c_31, c_47, c_114, c_120, c_125, s_136_0, s_136_1, s_136_2, s_136_3, if_true, if_false, and_self, and_true, true_and, not_true_eq_false, not_false_eq_true, and_false, false_and, or_true, true_or, or_false, false_or, or_self, Bool.false_eq_true, reduceCtorEq, nl10, nl20, nl30, nl40, nl50, nl60, nl70, nl12, nl13, nl21, nl23, nl31, nl32]; first | done | exact ⟨rfl, rfl⟩ | rfl)
                        | contradiction
                        | (simp only [c_5, c_9, c_15, c_31, c_47, c_114, c_120, c_125, s_136_0, s_136_1, s_136_2, s_136_3, if_true, if_false, and_self, and_true, true_and, not_true_eq_false, not_false_eq_true, and_false, false_and, or_true, true_or, or_false, false_or, or_self, Bool.false_eq_true, reduceCtorEq, nl10, nl20, nl30, nl40, nl50, nl60, nl70, nl12, nl13, nl21, nl23, nl31, nl32]; contradiction)
                        | (exfalso; simp_all; done)
                        | simp_all
                    by_cases s_136_4 : k = 4
                    · refine lv_tableIn (tgt := 197) hx hb dX8_says_136 (by rw [s_136_4]; decide) (by rw [s_136_4]; decide) (by rw [s_136_4]; rfl) (by decide) ?_
                      refine lv_aload_n hx hb dX8_says_197 rfl (lv_at hl 3 rfl) ?_
                      refine f_get X hP (T := TX8) (ci := 8) (k := 86) rfl inX8 rfl 11 (by decide) m_4_185 rfl (v := .ref (fad E 90)) rfl dX8_says_198 ?_
                      refine lv_iload_n hx hb dX8_says_201 rfl (lv_at hl 2 rfl) ?_
                      refine f_iald X hP (k := 90) (n := 6) (q := (M 103 s1.toNatClampNeg).toNatClampNeg) rfl rfl (fIx_cnt 6 hs9.1 hs9.2 hwc hwc6 (by decide)) dX8_says_202 ?_
                      refine f_ir X hlk hr (v := (M 90 ((M 103 s1.toNatClampNeg).toNatClampNeg))) rfl hP hS ?_ dX8_says_203
                      unfold a_X8_says
                      (first | rw [if_pos c_5] | rw [if_neg c_5] | rw [if_neg (Bool.eq_false_iff.mp c_5)] | skip)
                      (first | rw [if_pos c_9] | rw [if_neg c_9] | rw [if_neg (Bool.eq_false_iff.mp c_9)] | skip)
                      (first | rw [if_pos c_15] | rw [if_neg c_15] | rw [if_neg (Bool.eq_false_iff.mp c_15)] | skip)
                      (first | rw [if_pos c_31] | rw [if_neg c_31] | rw [if_neg (Bool.eq_false_iff.mp c_31)] | skip)
                      (first | rw [if_pos c_47] | rw [if_neg c_47] | rw [if_neg (Bool.eq_false_iff.mp c_47)] | skip)
                      (first | rw [if_pos c_114] | rw [if_neg c_114] | rw [if_neg (Bool.eq_false_iff.mp c_114)] | skip)
                      (first | rw [if_pos c_120] | rw [if_neg c_120] | rw [if_neg (Bool.eq_false_iff.mp c_120)] | skip)
                      (first | rw [if_pos c_125] | rw [if_neg c_125] | rw [if_neg (Bool.eq_false_iff.mp c_125)] | skip)
                      (first | rw [if_pos s_136_0] | rw [if_neg s_136_0] | rw [if_neg (Bool.eq_false_iff.mp s_136_0)] | skip)
                      (first | rw [if_pos s_136_1] | rw [if_neg s_136_1] | rw [if_neg (Bool.eq_false_iff.mp s_136_1)] | skip)
                      (first | rw [if_pos s_136_2] | rw [if_neg s_136_2] | rw [if_neg (Bool.eq_false_iff.mp s_136_2)] | skip)
                      (first | rw [if_pos s_136_3] | rw [if_neg s_136_3] | rw [if_neg (Bool.eq_false_iff.mp s_136_3)] | skip)
                      (first | rw [if_pos s_136_4] | rw [if_neg s_136_4] | rw [if_neg (Bool.eq_false_iff.mp s_136_4)] | skip)
                      (try dsimp only)
                      first
                        | done
                        | exact ⟨rfl, rfl⟩
                        | rfl
                        | (simp only [c_5, c_9, c_15, c_31, c_47, c_114, c_120, c_125, s_136_0, s_136_1, s_136_2, s_136_3, s_136_4, if_true, if_false, and_self, and_true, true_and, not_true_eq_false, not_false_eq_true, and_false, false_and, or_true, true_or, or_false, false_or, or_self, Bool.false_eq_true, reduceCtorEq, nl10, nl20, nl30, nl40, nl50, nl60, nl70, nl12, nl13, nl21, nl23, nl31, nl32]; first | done | exact ⟨rfl, rfl⟩ | rfl)
                        | contradiction
                        | (simp only [c_5, c_9, c_15, c_31, c_47, c_114, c_120, c_125, s_136_0, s_136_1, s_136_2, s_136_3, s_136_4, if_true, if_false, and_self, and_true, true_and, not_true_eq_false, not_false_eq_true, and_false, false_and, or_true, true_or, or_false, false_or, or_self, Bool.false_eq_true, reduceCtorEq, nl10, nl20, nl30, nl40, nl50, nl60, nl70, nl12, nl13, nl21, nl23, nl31, nl32]; contradiction)
                        | (exfalso; simp_all; done)
                        | simp_all
                    by_cases s_136_5 : k = 5
                    · refine lv_tableIn (tgt := 190) hx hb dX8_says_136 (by rw [s_136_5]; decide) (by rw [s_136_5]; decide) (by rw [s_136_5]; rfl) (by decide) ?_
                      refine lv_aload_n hx hb dX8_says_190 rfl (lv_at hl 3 rfl) ?_
                      refine f_get X hP (T := TX8) (ci := 8) (k := 86) rfl inX8 rfl 10 (by decide) m_4_184 rfl (v := .ref (fad E 89)) rfl dX8_says_191 ?_
                      refine lv_iload_n hx hb dX8_says_194 rfl (lv_at hl 2 rfl) ?_
                      refine f_iald X hP (k := 89) (n := 6) (q := (M 103 s1.toNatClampNeg).toNatClampNeg) rfl rfl (fIx_cnt 6 hs9.1 hs9.2 hwc hwc6 (by decide)) dX8_says_195 ?_
                      refine f_ir X hlk hr (v := (M 89 ((M 103 s1.toNatClampNeg).toNatClampNeg))) rfl hP hS ?_ dX8_says_196
                      unfold a_X8_says
                      (first | rw [if_pos c_5] | rw [if_neg c_5] | rw [if_neg (Bool.eq_false_iff.mp c_5)] | skip)
                      (first | rw [if_pos c_9] | rw [if_neg c_9] | rw [if_neg (Bool.eq_false_iff.mp c_9)] | skip)
                      (first | rw [if_pos c_15] | rw [if_neg c_15] | rw [if_neg (Bool.eq_false_iff.mp c_15)] | skip)
                      (first | rw [if_pos c_31] | rw [if_neg c_31] | rw [if_neg (Bool.eq_false_iff.mp c_31)] | skip)
                      (first | rw [if_pos c_47] | rw [if_neg c_47] | rw [if_neg (Bool.eq_false_iff.mp c_47)] | skip)
                      (first | rw [if_pos c_114] | rw [if_neg c_114] | rw [if_neg (Bool.eq_false_iff.mp c_114)] | skip)
                      (first | rw [if_pos c_120] | rw [if_neg c_120] | rw [if_neg (Bool.eq_false_iff.mp c_120)] | skip)
                      (first | rw [if_pos c_125] | rw [if_neg c_125] | rw [if_neg (Bool.eq_false_iff.mp c_125)] | skip)
                      (first | rw [if_pos s_136_0] | rw [if_neg s_136_0] | rw [if_neg (Bool.eq_false_iff.mp s_136_0)] | skip)
                      (first | rw [if_pos s_136_1] | rw [if_neg s_136_1] | rw [if_neg (Bool.eq_false_iff.mp s_136_1)] | skip)
                      (first | rw [if_pos s_136_2] | rw [if_neg s_136_2] | rw [if_neg (Bool.eq_false_iff.mp s_136_2)] | skip)
                      (first | rw [if_pos s_136_3] | rw [if_neg s_136_3] | rw [if_neg (Bool.eq_false_iff.mp s_136_3)] | skip)
                      (first | rw [if_pos s_136_4] | rw [if_neg s_136_4] | rw [if_neg (Bool.eq_false_iff.mp s_136_4)] | skip)
                      (first | rw [if_pos s_136_5] | rw [if_neg s_136_5] | rw [if_neg (Bool.eq_false_iff.mp s_136_5)] | skip)
                      (try dsimp only)
                      first
                        | done
                        | exact ⟨rfl, rfl⟩
                        | rfl
                        | (simp only [c_5, c_9, c_15, c_31, c_47, c_114, c_120, c_125, s_136_0, s_136_1, s_136_2, s_136_3, s_136_4, s_136_5, if_true, if_false, and_self, and_true, true_and, not_true_eq_false, not_false_eq_true, and_false, false_and, or_true, true_or, or_false, false_or, or_self, Bool.false_eq_true, reduceCtorEq, nl10, nl20, nl30, nl40, nl50, nl60, nl70, nl12, nl13, nl21, nl23, nl31, nl32]; first | done | exact ⟨rfl, rfl⟩ | rfl)
                        | contradiction
                        | (simp only [c_5, c_9, c_15, c_31, c_47, c_114, c_120, c_125, s_136_0, s_136_1, s_136_2, s_136_3, s_136_4, s_136_5, if_true, if_false, and_self, and_true, true_and, not_true_eq_false, not_false_eq_true, and_false, false_and, or_true, true_or, or_false, false_or, or_self, Bool.false_eq_true, reduceCtorEq, nl10, nl20, nl30, nl40, nl50, nl60, nl70, nl12, nl13, nl21, nl23, nl31, nl32]; contradiction)
                        | (exfalso; simp_all; done)
                        | simp_all
                    refine lv_tableOut (tgt := 197) hx hb dX8_says_136 (by have q0 := lv_neT s_136_0 (a := 0) rfl; have q1 := lv_neT s_136_1 (a := 1) rfl; have q2 := lv_neT s_136_2 (a := 2) rfl; have q3 := lv_neT s_136_3 (a := 3) rfl; have q4 := lv_neT s_136_4 (a := 4) rfl; have q5 := lv_neT s_136_5 (a := 5) rfl; omega) (by decide) ?_
                    refine lv_aload_n hx hb dX8_says_197 rfl (lv_at hl 3 rfl) ?_
                    refine f_get X hP (T := TX8) (ci := 8) (k := 86) rfl inX8 rfl 11 (by decide) m_4_185 rfl (v := .ref (fad E 90)) rfl dX8_says_198 ?_
                    refine lv_iload_n hx hb dX8_says_201 rfl (lv_at hl 2 rfl) ?_
                    refine f_iald X hP (k := 90) (n := 6) (q := (M 103 s1.toNatClampNeg).toNatClampNeg) rfl rfl (fIx_cnt 6 hs9.1 hs9.2 hwc hwc6 (by decide)) dX8_says_202 ?_
                    refine f_ir X hlk hr (v := (M 90 ((M 103 s1.toNatClampNeg).toNatClampNeg))) rfl hP hS ?_ dX8_says_203
                    unfold a_X8_says
                    (first | rw [if_pos c_5] | rw [if_neg c_5] | rw [if_neg (Bool.eq_false_iff.mp c_5)] | skip)
                    (first | rw [if_pos c_9] | rw [if_neg c_9] | rw [if_neg (Bool.eq_false_iff.mp c_9)] | skip)
                    (first | rw [if_pos c_15] | rw [if_neg c_15] | rw [if_neg (Bool.eq_false_iff.mp c_15)] | skip)
                    (first | rw [if_pos c_31] | rw [if_neg c_31] | rw [if_neg (Bool.eq_false_iff.mp c_31)] | skip)
                    (first | rw [if_pos c_47] | rw [if_neg c_47] | rw [if_neg (Bool.eq_false_iff.mp c_47)] | skip)
                    (first | rw [if_pos c_114] | rw [if_neg c_114] | rw [if_neg (Bool.eq_false_iff.mp c_114)] | skip)
                    (first | rw [if_pos c_120] | rw [if_neg c_120] | rw [if_neg (Bool.eq_false_iff.mp c_120)] | skip)
                    (first | rw [if_pos c_125] | rw [if_neg c_125] | rw [if_neg (Bool.eq_false_iff.mp c_125)] | skip)
                    (first | rw [if_pos s_136_0] | rw [if_neg s_136_0] | rw [if_neg (Bool.eq_false_iff.mp s_136_0)] | skip)
                    (first | rw [if_pos s_136_1] | rw [if_neg s_136_1] | rw [if_neg (Bool.eq_false_iff.mp s_136_1)] | skip)
                    (first | rw [if_pos s_136_2] | rw [if_neg s_136_2] | rw [if_neg (Bool.eq_false_iff.mp s_136_2)] | skip)
                    (first | rw [if_pos s_136_3] | rw [if_neg s_136_3] | rw [if_neg (Bool.eq_false_iff.mp s_136_3)] | skip)
                    (first | rw [if_pos s_136_4] | rw [if_neg s_136_4] | rw [if_neg (Bool.eq_false_iff.mp s_136_4)] | skip)
                    (first | rw [if_pos s_136_5] | rw [if_neg s_136_5] | rw [if_neg (Bool.eq_false_iff.mp s_136_5)] | skip)
                    (try dsimp only)
                    first
                      | done
                      | exact ⟨rfl, rfl⟩
                      | rfl
                      | (simp only [c_5, c_9, c_15, c_31, c_47, c_114, c_120, c_125, s_136_0, s_136_1, s_136_2, s_136_3, s_136_4, s_136_5, if_true, if_false, and_self, and_true, true_and, not_true_eq_false, not_false_eq_true, and_false, false_and, or_true, true_or, or_false, false_or, or_self, Bool.false_eq_true, reduceCtorEq, nl10, nl20, nl30, nl40, nl50, nl60, nl70, nl12, nl13, nl21, nl23, nl31, nl32]; first | done | exact ⟨rfl, rfl⟩ | rfl)
                      | contradiction
                      | (simp only [c_5, c_9, c_15, c_31, c_47, c_114, c_120, c_125, s_136_0, s_136_1, s_136_2, s_136_3, s_136_4, s_136_5, if_true, if_false, and_self, and_true, true_and, not_true_eq_false, not_false_eq_true, and_false, false_and, or_true, true_or, or_false, false_or, or_self, Bool.false_eq_true, reduceCtorEq, nl10, nl20, nl30, nl40, nl50, nl60, nl70, nl12, nl13, nl21, nl23, nl31, nl32]; contradiction)
                      | (exfalso; simp_all; done)
                      | simp_all
                  · have c_125 := bI0 c_125
                    refine lv_aload_n hx hb dX8_says_128 rfl (lv_at hl 3 rfl) ?_
                    refine lv_bipush (v := (-2)) hx hb dX8_says_129 (by decide) ?_
                    refine f_iV (n := 1) X hP hS [.int (-2)] [] (c_X8_no l E M L (-2) (by decide)) m_5_84 wi_X8_no rfl rfl (by decide) (by decide +kernel) ⟨Nat.le_of_ble_eq_true rfl, Nat.le_of_ble_eq_true rfl⟩ rfl hl rfl (Nat.le_of_ble_eq_true rfl) ⟨Nat.zero_le _, Nat.zero_le _⟩ dX8_says_131 (fun H locs hP hS => ?_)
                    refine f_ir X hlk hr (v := (-2)) rfl hP hS ?_ dX8_says_134
                    unfold a_X8_says
                    (first | rw [if_pos c_5] | rw [if_neg c_5] | rw [if_neg (Bool.eq_false_iff.mp c_5)] | skip)
                    (first | rw [if_pos c_9] | rw [if_neg c_9] | rw [if_neg (Bool.eq_false_iff.mp c_9)] | skip)
                    (first | rw [if_pos c_15] | rw [if_neg c_15] | rw [if_neg (Bool.eq_false_iff.mp c_15)] | skip)
                    (first | rw [if_pos c_31] | rw [if_neg c_31] | rw [if_neg (Bool.eq_false_iff.mp c_31)] | skip)
                    (first | rw [if_pos c_47] | rw [if_neg c_47] | rw [if_neg (Bool.eq_false_iff.mp c_47)] | skip)
                    (first | rw [if_pos c_114] | rw [if_neg c_114] | rw [if_neg (Bool.eq_false_iff.mp c_114)] | skip)
                    (first | rw [if_pos c_120] | rw [if_neg c_120] | rw [if_neg (Bool.eq_false_iff.mp c_120)] | skip)
                    (first | rw [if_pos c_125] | rw [if_neg c_125] | rw [if_neg (Bool.eq_false_iff.mp c_125)] | skip)
                    (try dsimp only)
                    first
                      | done
                      | exact ⟨rfl, rfl⟩
                      | rfl
                      | (simp only [c_5, c_9, c_15, c_31, c_47, c_114, c_120, c_125, if_true, if_false, and_self, and_true, true_and, not_true_eq_false, not_false_eq_true, and_false, false_and, or_true, true_or, or_false, false_or, or_self, Bool.false_eq_true, reduceCtorEq, nl10, nl20, nl30, nl40, nl50, nl60, nl70, nl12, nl13, nl21, nl23, nl31, nl32]; first | done | exact ⟨rfl, rfl⟩ | rfl)
                      | contradiction
                      | (simp only [c_5, c_9, c_15, c_31, c_47, c_114, c_120, c_125, if_true, if_false, and_self, and_true, true_and, not_true_eq_false, not_false_eq_true, and_false, false_and, or_true, true_or, or_false, false_or, or_self, Bool.false_eq_true, reduceCtorEq, nl10, nl20, nl30, nl40, nl50, nl60, nl70, nl12, nl13, nl21, nl23, nl31, nl32]; contradiction)
                      | (exfalso; simp_all; done)
                      | simp_all
            intro jn_111
            refine lv_iload_n hx hb dX8_says_72 rfl (lv_at hl 4 rfl) ?_
            refine lv_iconst (v := 1) hx hb dX8_says_73 (by decide) ?_
            refine lv_icmp_ne (tgt := 83) hx hb dX8_says_74 (by decide) (fun c_74 => ?_) (fun c_74 => ?_)
            · refine lv_iload_n hx hb dX8_says_83 rfl (lv_at hl 4 rfl) ?_
              refine lv_iconst (v := 2) hx hb dX8_says_84 (by decide) ?_
              refine lv_icmp_ne (tgt := 94) hx hb dX8_says_85 (by decide) (fun c_85 => ?_) (fun c_85 => ?_)
              · refine lv_iload_n hx hb dX8_says_94 rfl (lv_at hl 4 rfl) ?_
                refine lv_iconst (v := 4) hx hb dX8_says_95 (by decide) ?_
                refine lv_icmp_ne (tgt := 110) hx hb dX8_says_96 (by decide) (fun c_96 => ?_) (fun c_96 => ?_)
                · refine lv_iconst (v := 0) hx hb dX8_says_110 (by decide) ?_
                  exact jn_111 0 _ _ _ ⟨hP, hS, lv_sub hl [0, 1, 2, 3, 4] rfl, (by first | (refine (bIt ?_).symm; first | exact Or.inl ⟨c_74, c_80⟩ | exact Or.inr (Or.inl ⟨c_85, c_91⟩) | exact Or.inr (Or.inr ⟨c_96, c_103⟩)) | (refine (bIe ?_).symm; rintro (h | h | h) <;> first | exact c_74 h.1 | exact c_80 h.2 | exact c_85 h.1 | exact c_91 h.2 | exact c_96 h.1 | exact c_103 h.2))⟩
                · refine lv_iload hx hb dX8_says_99 (lv_at hl 0 rfl) ?_
                  refine lv_bipush (v := 6) hx hb dX8_says_101 (by decide) ?_
                  refine lv_icmp_ne (tgt := 110) hx hb dX8_says_103 (by decide) (fun c_103 => ?_) (fun c_103 => ?_)
                  · refine lv_iconst (v := 0) hx hb dX8_says_110 (by decide) ?_
                    exact jn_111 0 _ _ _ ⟨hP, hS, lv_sub hl [0, 1, 2, 3, 4] rfl, (by first | (refine (bIt ?_).symm; first | exact Or.inl ⟨c_74, c_80⟩ | exact Or.inr (Or.inl ⟨c_85, c_91⟩) | exact Or.inr (Or.inr ⟨c_96, c_103⟩)) | (refine (bIe ?_).symm; rintro (h | h | h) <;> first | exact c_74 h.1 | exact c_80 h.2 | exact c_85 h.1 | exact c_91 h.2 | exact c_96 h.1 | exact c_103 h.2))⟩
                  · refine lv_iconst (v := 1) hx hb dX8_says_106 (by decide) ?_
                    refine lv_goto (tgt := 111) hx hb dX8_says_107 (by decide) ?_
                    exact jn_111 1 _ _ _ ⟨hP, hS, lv_sub hl [0, 1, 2, 3, 4] rfl, (by first | (refine (bIt ?_).symm; first | exact Or.inl ⟨c_74, c_80⟩ | exact Or.inr (Or.inl ⟨c_85, c_91⟩) | exact Or.inr (Or.inr ⟨c_96, c_103⟩)) | (refine (bIe ?_).symm; rintro (h | h | h) <;> first | exact c_74 h.1 | exact c_80 h.2 | exact c_85 h.1 | exact c_91 h.2 | exact c_96 h.1 | exact c_103 h.2))⟩
              · refine lv_iload hx hb dX8_says_88 (lv_at hl 0 rfl) ?_
                refine lv_iconst (v := 5) hx hb dX8_says_90 (by decide) ?_
                refine lv_icmp_eq (tgt := 106) hx hb dX8_says_91 (by decide) (fun c_91 => ?_) (fun c_91 => ?_)
                · refine lv_iconst (v := 1) hx hb dX8_says_106 (by decide) ?_
                  refine lv_goto (tgt := 111) hx hb dX8_says_107 (by decide) ?_
                  exact jn_111 1 _ _ _ ⟨hP, hS, lv_sub hl [0, 1, 2, 3, 4] rfl, (by first | (refine (bIt ?_).symm; first | exact Or.inl ⟨c_74, c_80⟩ | exact Or.inr (Or.inl ⟨c_85, c_91⟩) | exact Or.inr (Or.inr ⟨c_96, c_103⟩)) | (refine (bIe ?_).symm; rintro (h | h | h) <;> first | exact c_74 h.1 | exact c_80 h.2 | exact c_85 h.1 | exact c_91 h.2 | exact c_96 h.1 | exact c_103 h.2))⟩
                · refine lv_iload_n hx hb dX8_says_94 rfl (lv_at hl 4 rfl) ?_
                  refine lv_iconst (v := 4) hx hb dX8_says_95 (by decide) ?_
                  refine lv_icmp_ne (tgt := 110) hx hb dX8_says_96 (by decide) (fun c_96 => ?_) (fun c_96 => ?_)
                  · refine lv_iconst (v := 0) hx hb dX8_says_110 (by decide) ?_
                    exact jn_111 0 _ _ _ ⟨hP, hS, lv_sub hl [0, 1, 2, 3, 4] rfl, (by first | (refine (bIt ?_).symm; first | exact Or.inl ⟨c_74, c_80⟩ | exact Or.inr (Or.inl ⟨c_85, c_91⟩) | exact Or.inr (Or.inr ⟨c_96, c_103⟩)) | (refine (bIe ?_).symm; rintro (h | h | h) <;> first | exact c_74 h.1 | exact c_80 h.2 | exact c_85 h.1 | exact c_91 h.2 | exact c_96 h.1 | exact c_103 h.2))⟩
                  · refine lv_iload hx hb dX8_says_99 (lv_at hl 0 rfl) ?_
                    refine lv_bipush (v := 6) hx hb dX8_says_101 (by decide) ?_
                    refine lv_icmp_ne (tgt := 110) hx hb dX8_says_103 (by decide) (fun c_103 => ?_) (fun c_103 => ?_)
                    · refine lv_iconst (v := 0) hx hb dX8_says_110 (by decide) ?_
                      exact jn_111 0 _ _ _ ⟨hP, hS, lv_sub hl [0, 1, 2, 3, 4] rfl, (by first | (refine (bIt ?_).symm; first | exact Or.inl ⟨c_74, c_80⟩ | exact Or.inr (Or.inl ⟨c_85, c_91⟩) | exact Or.inr (Or.inr ⟨c_96, c_103⟩)) | (refine (bIe ?_).symm; rintro (h | h | h) <;> first | exact c_74 h.1 | exact c_80 h.2 | exact c_85 h.1 | exact c_91 h.2 | exact c_96 h.1 | exact c_103 h.2))⟩
                    · refine lv_iconst (v := 1) hx hb dX8_says_106 (by decide) ?_
                      refine lv_goto (tgt := 111) hx hb dX8_says_107 (by decide) ?_
                      exact jn_111 1 _ _ _ ⟨hP, hS, lv_sub hl [0, 1, 2, 3, 4] rfl, (by first | (refine (bIt ?_).symm; first | exact Or.inl ⟨c_74, c_80⟩ | exact Or.inr (Or.inl ⟨c_85, c_91⟩) | exact Or.inr (Or.inr ⟨c_96, c_103⟩)) | (refine (bIe ?_).symm; rintro (h | h | h) <;> first | exact c_74 h.1 | exact c_80 h.2 | exact c_85 h.1 | exact c_91 h.2 | exact c_96 h.1 | exact c_103 h.2))⟩
            · refine lv_iload hx hb dX8_says_77 (lv_at hl 0 rfl) ?_
              refine lv_iconst (v := 3) hx hb dX8_says_79 (by decide) ?_
              refine lv_icmp_eq (tgt := 106) hx hb dX8_says_80 (by decide) (fun c_80 => ?_) (fun c_80 => ?_)
              · refine lv_iconst (v := 1) hx hb dX8_says_106 (by decide) ?_
                refine lv_goto (tgt := 111) hx hb dX8_says_107 (by decide) ?_
                exact jn_111 1 _ _ _ ⟨hP, hS, lv_sub hl [0, 1, 2, 3, 4] rfl, (by first | (refine (bIt ?_).symm; first | exact Or.inl ⟨c_74, c_80⟩ | exact Or.inr (Or.inl ⟨c_85, c_91⟩) | exact Or.inr (Or.inr ⟨c_96, c_103⟩)) | (refine (bIe ?_).symm; rintro (h | h | h) <;> first | exact c_74 h.1 | exact c_80 h.2 | exact c_85 h.1 | exact c_91 h.2 | exact c_96 h.1 | exact c_103 h.2))⟩
              · refine lv_iload_n hx hb dX8_says_83 rfl (lv_at hl 4 rfl) ?_
                refine lv_iconst (v := 2) hx hb dX8_says_84 (by decide) ?_
                refine lv_icmp_ne (tgt := 94) hx hb dX8_says_85 (by decide) (fun c_85 => ?_) (fun c_85 => ?_)
                · refine lv_iload_n hx hb dX8_says_94 rfl (lv_at hl 4 rfl) ?_
                  refine lv_iconst (v := 4) hx hb dX8_says_95 (by decide) ?_
                  refine lv_icmp_ne (tgt := 110) hx hb dX8_says_96 (by decide) (fun c_96 => ?_) (fun c_96 => ?_)
                  · refine lv_iconst (v := 0) hx hb dX8_says_110 (by decide) ?_
                    exact jn_111 0 _ _ _ ⟨hP, hS, lv_sub hl [0, 1, 2, 3, 4] rfl, (by first | (refine (bIt ?_).symm; first | exact Or.inl ⟨c_74, c_80⟩ | exact Or.inr (Or.inl ⟨c_85, c_91⟩) | exact Or.inr (Or.inr ⟨c_96, c_103⟩)) | (refine (bIe ?_).symm; rintro (h | h | h) <;> first | exact c_74 h.1 | exact c_80 h.2 | exact c_85 h.1 | exact c_91 h.2 | exact c_96 h.1 | exact c_103 h.2))⟩
                  · refine lv_iload hx hb dX8_says_99 (lv_at hl 0 rfl) ?_
                    refine lv_bipush (v := 6) hx hb dX8_says_101 (by decide) ?_
                    refine lv_icmp_ne (tgt := 110) hx hb dX8_says_103 (by decide) (fun c_103 => ?_) (fun c_103 => ?_)
                    · refine lv_iconst (v := 0) hx hb dX8_says_110 (by decide) ?_
                      exact jn_111 0 _ _ _ ⟨hP, hS, lv_sub hl [0, 1, 2, 3, 4] rfl, (by first | (refine (bIt ?_).symm; first | exact Or.inl ⟨c_74, c_80⟩ | exact Or.inr (Or.inl ⟨c_85, c_91⟩) | exact Or.inr (Or.inr ⟨c_96, c_103⟩)) | (refine (bIe ?_).symm; rintro (h | h | h) <;> first | exact c_74 h.1 | exact c_80 h.2 | exact c_85 h.1 | exact c_91 h.2 | exact c_96 h.1 | exact c_103 h.2))⟩
                    · refine lv_iconst (v := 1) hx hb dX8_says_106 (by decide) ?_
                      refine lv_goto (tgt := 111) hx hb dX8_says_107 (by decide) ?_
                      exact jn_111 1 _ _ _ ⟨hP, hS, lv_sub hl [0, 1, 2, 3, 4] rfl, (by first | (refine (bIt ?_).symm; first | exact Or.inl ⟨c_74, c_80⟩ | exact Or.inr (Or.inl ⟨c_85, c_91⟩) | exact Or.inr (Or.inr ⟨c_96, c_103⟩)) | (refine (bIe ?_).symm; rintro (h | h | h) <;> first | exact c_74 h.1 | exact c_80 h.2 | exact c_85 h.1 | exact c_91 h.2 | exact c_96 h.1 | exact c_103 h.2))⟩
                · refine lv_iload hx hb dX8_says_88 (lv_at hl 0 rfl) ?_
                  refine lv_iconst (v := 5) hx hb dX8_says_90 (by decide) ?_
                  refine lv_icmp_eq (tgt := 106) hx hb dX8_says_91 (by decide) (fun c_91 => ?_) (fun c_91 => ?_)
                  · refine lv_iconst (v := 1) hx hb dX8_says_106 (by decide) ?_
                    refine lv_goto (tgt := 111) hx hb dX8_says_107 (by decide) ?_
                    exact jn_111 1 _ _ _ ⟨hP, hS, lv_sub hl [0, 1, 2, 3, 4] rfl, (by first | (refine (bIt ?_).symm; first | exact Or.inl ⟨c_74, c_80⟩ | exact Or.inr (Or.inl ⟨c_85, c_91⟩) | exact Or.inr (Or.inr ⟨c_96, c_103⟩)) | (refine (bIe ?_).symm; rintro (h | h | h) <;> first | exact c_74 h.1 | exact c_80 h.2 | exact c_85 h.1 | exact c_91 h.2 | exact c_96 h.1 | exact c_103 h.2))⟩
                  · refine lv_iload_n hx hb dX8_says_94 rfl (lv_at hl 4 rfl) ?_
                    refine lv_iconst (v := 4) hx hb dX8_says_95 (by decide) ?_
                    refine lv_icmp_ne (tgt := 110) hx hb dX8_says_96 (by decide) (fun c_96 => ?_) (fun c_96 => ?_)
                    · refine lv_iconst (v := 0) hx hb dX8_says_110 (by decide) ?_
                      exact jn_111 0 _ _ _ ⟨hP, hS, lv_sub hl [0, 1, 2, 3, 4] rfl, (by first | (refine (bIt ?_).symm; first | exact Or.inl ⟨c_74, c_80⟩ | exact Or.inr (Or.inl ⟨c_85, c_91⟩) | exact Or.inr (Or.inr ⟨c_96, c_103⟩)) | (refine (bIe ?_).symm; rintro (h | h | h) <;> first | exact c_74 h.1 | exact c_80 h.2 | exact c_85 h.1 | exact c_91 h.2 | exact c_96 h.1 | exact c_103 h.2))⟩
                    · refine lv_iload hx hb dX8_says_99 (lv_at hl 0 rfl) ?_
                      refine lv_bipush (v := 6) hx hb dX8_says_101 (by decide) ?_
                      refine lv_icmp_ne (tgt := 110) hx hb dX8_says_103 (by decide) (fun c_103 => ?_) (fun c_103 => ?_)
                      · refine lv_iconst (v := 0) hx hb dX8_says_110 (by decide) ?_
                        exact jn_111 0 _ _ _ ⟨hP, hS, lv_sub hl [0, 1, 2, 3, 4] rfl, (by first | (refine (bIt ?_).symm; first | exact Or.inl ⟨c_74, c_80⟩ | exact Or.inr (Or.inl ⟨c_85, c_91⟩) | exact Or.inr (Or.inr ⟨c_96, c_103⟩)) | (refine (bIe ?_).symm; rintro (h | h | h) <;> first | exact c_74 h.1 | exact c_80 h.2 | exact c_85 h.1 | exact c_91 h.2 | exact c_96 h.1 | exact c_103 h.2))⟩
                      · refine lv_iconst (v := 1) hx hb dX8_says_106 (by decide) ?_
                        refine lv_goto (tgt := 111) hx hb dX8_says_107 (by decide) ?_
                        exact jn_111 1 _ _ _ ⟨hP, hS, lv_sub hl [0, 1, 2, 3, 4] rfl, (by first | (refine (bIt ?_).symm; first | exact Or.inl ⟨c_74, c_80⟩ | exact Or.inr (Or.inl ⟨c_85, c_91⟩) | exact Or.inr (Or.inr ⟨c_96, c_103⟩)) | (refine (bIe ?_).symm; rintro (h | h | h) <;> first | exact c_74 h.1 | exact c_80 h.2 | exact c_85 h.1 | exact c_91 h.2 | exact c_96 h.1 | exact c_103 h.2))⟩
          · refine lv_aload_n hx hb dX8_says_50 rfl (lv_at hl 0 rfl) ?_
            refine lv_bipush (v := (-3)) hx hb dX8_says_51 (by decide) ?_
            refine f_iV (n := 1) X hP hS [.int (-3)] [] (c_X8_no l E M L (-3) (by decide)) m_5_84 wi_X8_no rfl rfl (by decide) (by decide +kernel) ⟨Nat.le_of_ble_eq_true rfl, Nat.le_of_ble_eq_true rfl⟩ rfl hl rfl (Nat.le_of_ble_eq_true rfl) ⟨Nat.zero_le _, Nat.zero_le _⟩ dX8_says_53 (fun H locs hP hS => ?_)
            refine f_ir X hlk hr (v := (-3)) rfl hP hS ?_ dX8_says_56
            unfold a_X8_says
            (first | rw [if_pos c_5] | rw [if_neg c_5] | rw [if_neg (Bool.eq_false_iff.mp c_5)] | skip)
            (first | rw [if_pos c_9] | rw [if_neg c_9] | rw [if_neg (Bool.eq_false_iff.mp c_9)] | skip)
            (first | rw [if_pos c_15] | rw [if_neg c_15] | rw [if_neg (Bool.eq_false_iff.mp c_15)] | skip)
            (first | rw [if_pos c_31] | rw [if_neg c_31] | rw [if_neg (Bool.eq_false_iff.mp c_31)] | skip)
            (first | rw [if_pos c_47] | rw [if_neg c_47] | rw [if_neg (Bool.eq_false_iff.mp c_47)] | skip)
            (try dsimp only)
            first
              | done
              | exact ⟨rfl, rfl⟩
              | rfl
              | (simp only [c_5, c_9, c_15, c_31, c_47, if_true, if_false, and_self, and_true, true_and, not_true_eq_false, not_false_eq_true, and_false, false_and, or_true, true_or, or_false, false_or, or_self, Bool.false_eq_true, reduceCtorEq, nl10, nl20, nl30, nl40, nl50, nl60, nl70, nl12, nl13, nl21, nl23, nl31, nl32]; first | done | exact ⟨rfl, rfl⟩ | rfl)
              | contradiction
              | (simp only [c_5, c_9, c_15, c_31, c_47, if_true, if_false, and_self, and_true, true_and, not_true_eq_false, not_false_eq_true, and_false, false_and, or_true, true_or, or_false, false_or, or_self, Bool.false_eq_true, reduceCtorEq, nl10, nl20, nl30, nl40, nl50, nl60, nl70, nl12, nl13, nl21, nl23, nl31, nl32]; contradiction)
              | (exfalso; simp_all; done)
              | simp_all
        · refine lv_aload_n hx hb dX8_says_34 rfl (lv_at hl 0 rfl) ?_
          refine lv_bipush (v := (-2)) hx hb dX8_says_35 (by decide) ?_
          refine f_iV (n := 1) X hP hS [.int (-2)] [] (c_X8_no l E M L (-2) (by decide)) m_5_84 wi_X8_no rfl rfl (by decide) (by decide +kernel) ⟨Nat.le_of_ble_eq_true rfl, Nat.le_of_ble_eq_true rfl⟩ rfl hl rfl (Nat.le_of_ble_eq_true rfl) ⟨Nat.zero_le _, Nat.zero_le _⟩ dX8_says_37 (fun H locs hP hS => ?_)
          refine f_ir X hlk hr (v := (-2)) rfl hP hS ?_ dX8_says_40
          unfold a_X8_says
          (first | rw [if_pos c_5] | rw [if_neg c_5] | rw [if_neg (Bool.eq_false_iff.mp c_5)] | skip)
          (first | rw [if_pos c_9] | rw [if_neg c_9] | rw [if_neg (Bool.eq_false_iff.mp c_9)] | skip)
          (first | rw [if_pos c_15] | rw [if_neg c_15] | rw [if_neg (Bool.eq_false_iff.mp c_15)] | skip)
          (first | rw [if_pos c_31] | rw [if_neg c_31] | rw [if_neg (Bool.eq_false_iff.mp c_31)] | skip)
          (try dsimp only)
          first
            | done
            | exact ⟨rfl, rfl⟩
            | rfl
            | (simp only [c_5, c_9, c_15, c_31, if_true, if_false, and_self, and_true, true_and, not_true_eq_false, not_false_eq_true, and_false, false_and, or_true, true_or, or_false, false_or, or_self, Bool.false_eq_true, reduceCtorEq, nl10, nl20, nl30, nl40, nl50, nl60, nl70, nl12, nl13, nl21, nl23, nl31, nl32]; first | done | exact ⟨rfl, rfl⟩ | rfl)
            | contradiction
            | (simp only [c_5, c_9, c_15, c_31, if_true, if_false, and_self, and_true, true_and, not_true_eq_false, not_false_eq_true, and_false, false_and, or_true, true_or, or_false, false_or, or_self, Bool.false_eq_true, reduceCtorEq, nl10, nl20, nl30, nl40, nl50, nl60, nl70, nl12, nl13, nl21, nl23, nl31, nl32]; contradiction)
            | (exfalso; simp_all; done)
            | simp_all
      · refine lv_aload_n hx hb dX8_says_18 rfl (lv_at hl 0 rfl) ?_
        refine lv_iconst (v := (-1)) hx hb dX8_says_19 (by decide) ?_
        refine f_iV (n := 1) X hP hS [.int (-1)] [] (c_X8_no l E M L (-1) (by decide)) m_5_84 wi_X8_no rfl rfl (by decide) (by decide +kernel) ⟨Nat.le_of_ble_eq_true rfl, Nat.le_of_ble_eq_true rfl⟩ rfl hl rfl (Nat.le_of_ble_eq_true rfl) ⟨Nat.zero_le _, Nat.zero_le _⟩ dX8_says_20 (fun H locs hP hS => ?_)
        refine f_ir X hlk hr (v := (-1)) rfl hP hS ?_ dX8_says_23
        unfold a_X8_says
        (first | rw [if_pos c_5] | rw [if_neg c_5] | rw [if_neg (Bool.eq_false_iff.mp c_5)] | skip)
        (first | rw [if_pos c_9] | rw [if_neg c_9] | rw [if_neg (Bool.eq_false_iff.mp c_9)] | skip)
        (first | rw [if_pos c_15] | rw [if_neg c_15] | rw [if_neg (Bool.eq_false_iff.mp c_15)] | skip)
        (try dsimp only)
        first
          | done
          | exact ⟨rfl, rfl⟩
          | rfl
          | (simp only [c_5, c_9, c_15, if_true, if_false, and_self, and_true, true_and, not_true_eq_false, not_false_eq_true, and_false, false_and, or_true, true_or, or_false, false_or, or_self, Bool.false_eq_true, reduceCtorEq, nl10, nl20, nl30, nl40, nl50, nl60, nl70, nl12, nl13, nl21, nl23, nl31, nl32]; first | done | exact ⟨rfl, rfl⟩ | rfl)
          | contradiction
          | (simp only [c_5, c_9, c_15, if_true, if_false, and_self, and_true, true_and, not_true_eq_false, not_false_eq_true, and_false, false_and, or_true, true_or, or_false, false_or, or_self, Bool.false_eq_true, reduceCtorEq, nl10, nl20, nl30, nl40, nl50, nl60, nl70, nl12, nl13, nl21, nl23, nl31, nl32]; contradiction)
          | (exfalso; simp_all; done)
          | simp_all

def a_X8_isDigit (M : Nat → Nat → Int32) (L : Nat → Nat → Int64) (s0 : Nat) (pl : Nat) (en : Nat) : Int32 := (if en ≤ pl then 0 else (if ((L 104 ((160 * s0) + pl)).toInt32) < 48 then 0 else (if 57 < ((L 104 ((160 * s0) + pl)).toInt32) then 0 else 1)))
set_option maxHeartbeats 1000000 in
set_option maxRecDepth 100000 in
theorem c_X8_isDigit (l : Launch) (E : fE) (M : Nat → Nat → Int32) (L : Nat → Nat → Int64) (s0 pl en : Nat) (hba : M 86 32 = nI (160 * s0)) (hs08 : s0 < 8) (hpl : M 86 33 = nI pl) (hen : M 86 34 = nI en) (hen1 : en ≤ 160) (hpe : pl ≤ en) : Met l yX8_isDigit (wl yX8_isDigit cX8_isDigit 1 (some .boolean)) (fRm 0 0) (va_Pc [.ref (fad E 86)] (fPre E M L)) (fQi E (fun r u => u = (M, L) ∧ r = (a_X8_isDigit M L s0 pl en))) 0 0 (fA E) := by
  refine f_head (by decide) (Nat.le_of_ble_eq_true rfl) ?_
  intro pg ev s mi below meth cd ls X hr hlk hP hS hl
  have hx := X.1.1
  have hb := X.1.2.1
  have hl : lv_has ls 1 [(0, .ref (fad E 86))] := hl
  refine lv_aload_n hx hb dX8_isDigit_0 rfl (lv_at hl 0 rfl) ?_
  refine f_get X hP (T := TX8) (ci := 8) (k := 86) rfl inX8 rfl 33 (by decide) m_4_207 rfl (v := .int (nI pl)) (congrArg Value.int hpl) dX8_isDigit_1 ?_
  refine lv_aload_n hx hb dX8_isDigit_4 rfl (lv_at hl 0 rfl) ?_
  refine f_get X hP (T := TX8) (ci := 8) (k := 86) rfl inX8 rfl 34 (by decide) m_4_208 rfl (v := .int (nI en)) (congrArg Value.int hen) dX8_isDigit_5 ?_
  refine lv_icmp_ge (tgt := 55) hx hb dX8_isDigit_8 (by decide) (fun c_8 => ?_) (fun c_8 => ?_)
  · have c_8 := (nI_le_iff (a := en) (b := pl) (by omega) (by omega)).mp c_8
    refine lv_iconst (v := 0) hx hb dX8_isDigit_55 (by decide) ?_
    refine f_ir X hlk hr (v := 0) rfl hP hS ?_ dX8_isDigit_56
    unfold a_X8_isDigit
    (first | rw [if_pos c_8] | rw [if_neg c_8] | rw [if_neg (Bool.eq_false_iff.mp c_8)] | skip)
    (try dsimp only)
    first
      | done
      | exact ⟨rfl, rfl⟩
      | rfl
      | (simp only [c_8, if_true, if_false, and_self, and_true, true_and, not_true_eq_false, not_false_eq_true, and_false, false_and, or_true, true_or, or_false, false_or, or_self, Bool.false_eq_true, reduceCtorEq, nl10, nl20, nl30, nl40, nl50, nl60, nl70, nl12, nl13, nl21, nl23, nl31, nl32]; first | done | exact ⟨rfl, rfl⟩ | rfl)
      | contradiction
      | (simp only [c_8, if_true, if_false, and_self, and_true, true_and, not_true_eq_false, not_false_eq_true, and_false, false_and, or_true, true_or, or_false, false_or, or_self, Bool.false_eq_true, reduceCtorEq, nl10, nl20, nl30, nl40, nl50, nl60, nl70, nl12, nl13, nl21, nl23, nl31, nl32]; contradiction)
      | (exfalso; simp_all; done)
      | simp_all
  · have c_8 := (not_congr (nI_le_iff (a := en) (b := pl) (by omega) (by omega))).mp c_8
    refine lv_aload_n hx hb dX8_isDigit_11 rfl (lv_at hl 0 rfl) ?_
    refine f_get X hP (T := TX8) (ci := 8) (k := 86) rfl inX8 rfl 25 (by decide) m_4_199 rfl (v := .ref (fad E 104)) rfl dX8_isDigit_12 ?_
    refine lv_aload_n hx hb dX8_isDigit_15 rfl (lv_at hl 0 rfl) ?_
    refine f_get X hP (T := TX8) (ci := 8) (k := 86) rfl inX8 rfl 32 (by decide) m_4_206 rfl (v := .int (nI (160 * s0))) (congrArg Value.int hba) dX8_isDigit_16 ?_
    refine lv_aload_n hx hb dX8_isDigit_19 rfl (lv_at hl 0 rfl) ?_
    refine f_get X hP (T := TX8) (ci := 8) (k := 86) rfl inX8 rfl 33 (by decide) m_4_207 rfl (v := .int (nI pl)) (congrArg Value.int hpl) dX8_isDigit_20 ?_
    refine lv_iadd hx hb dX8_isDigit_23 ?_
    refine f_topI (nI_add (160 * s0) pl) ?_
    refine f_lald X hP (k := 104) (n := 1280) (q := ((160 * s0) + pl)) rfl rfl (fIx_nI (by omega) (by decide)) dX8_isDigit_24 ?_
    refine lv_l2i (v := ((L 104 ((160 * s0) + pl)).toInt32)) hx hb dX8_isDigit_25 rfl ?_
    refine lv_bipush (v := 48) hx hb dX8_isDigit_26 (by decide) ?_
    refine lv_icmp_lt (tgt := 55) hx hb dX8_isDigit_28 (by decide) (fun c_28 => ?_) (fun c_28 => ?_)
    · refine lv_iconst (v := 0) hx hb dX8_isDigit_55 (by decide) ?_
      refine f_ir X hlk hr (v := 0) rfl hP hS ?_ dX8_isDigit_56
      unfold a_X8_isDigit
      (first | rw [if_pos c_8] | rw [if_neg c_8] | rw [if_neg (Bool.eq_false_iff.mp c_8)] | skip)
      (first | rw [if_pos c_28] | rw [if_neg c_28] | rw [if_neg (Bool.eq_false_iff.mp c_28)] | skip)
      (try dsimp only)
      first
        | done
        | exact ⟨rfl, rfl⟩
        | rfl
        | (simp only [c_8, c_28, if_true, if_false, and_self, and_true, true_and, not_true_eq_false, not_false_eq_true, and_false, false_and, or_true, true_or, or_false, false_or, or_self, Bool.false_eq_true, reduceCtorEq, nl10, nl20, nl30, nl40, nl50, nl60, nl70, nl12, nl13, nl21, nl23, nl31, nl32]; first | done | exact ⟨rfl, rfl⟩ | rfl)
        | contradiction
        | (simp only [c_8, c_28, if_true, if_false, and_self, and_true, true_and, not_true_eq_false, not_false_eq_true, and_false, false_and, or_true, true_or, or_false, false_or, or_self, Bool.false_eq_true, reduceCtorEq, nl10, nl20, nl30, nl40, nl50, nl60, nl70, nl12, nl13, nl21, nl23, nl31, nl32]; contradiction)
        | (exfalso; simp_all; done)
        | simp_all
    · refine lv_aload_n hx hb dX8_isDigit_31 rfl (lv_at hl 0 rfl) ?_
      refine f_get X hP (T := TX8) (ci := 8) (k := 86) rfl inX8 rfl 25 (by decide) m_4_199 rfl (v := .ref (fad E 104)) rfl dX8_isDigit_32 ?_
      refine lv_aload_n hx hb dX8_isDigit_35 rfl (lv_at hl 0 rfl) ?_
      refine f_get X hP (T := TX8) (ci := 8) (k := 86) rfl inX8 rfl 32 (by decide) m_4_206 rfl (v := .int (nI (160 * s0))) (congrArg Value.int hba) dX8_isDigit_36 ?_
      refine lv_aload_n hx hb dX8_isDigit_39 rfl (lv_at hl 0 rfl) ?_
      refine f_get X hP (T := TX8) (ci := 8) (k := 86) rfl inX8 rfl 33 (by decide) m_4_207 rfl (v := .int (nI pl)) (congrArg Value.int hpl) dX8_isDigit_40 ?_
      refine lv_iadd hx hb dX8_isDigit_43 ?_
      refine f_topI (nI_add (160 * s0) pl) ?_
      refine f_lald X hP (k := 104) (n := 1280) (q := ((160 * s0) + pl)) rfl rfl (fIx_nI (by omega) (by decide)) dX8_isDigit_44 ?_
      refine lv_l2i (v := ((L 104 ((160 * s0) + pl)).toInt32)) hx hb dX8_isDigit_45 rfl ?_
      refine lv_bipush (v := 57) hx hb dX8_isDigit_46 (by decide) ?_
      refine lv_icmp_gt (tgt := 55) hx hb dX8_isDigit_48 (by decide) (fun c_48 => ?_) (fun c_48 => ?_)
      · refine lv_iconst (v := 0) hx hb dX8_isDigit_55 (by decide) ?_
        refine f_ir X hlk hr (v := 0) rfl hP hS ?_ dX8_isDigit_56
        unfold a_X8_isDigit
        (first | rw [if_pos c_8] | rw [if_neg c_8] | rw [if_neg (Bool.eq_false_iff.mp c_8)] | skip)
        (first | rw [if_pos c_28] | rw [if_neg c_28] | rw [if_neg (Bool.eq_false_iff.mp c_28)] | skip)
        (first | rw [if_pos c_48] | rw [if_neg c_48] | rw [if_neg (Bool.eq_false_iff.mp c_48)] | skip)
        (try dsimp only)
        first
          | done
          | exact ⟨rfl, rfl⟩
          | rfl
          | (simp only [c_8, c_28, c_48, if_true, if_false, and_self, and_true, true_and, not_true_eq_false, not_false_eq_true, and_false, false_and, or_true, true_or, or_false, false_or, or_self, Bool.false_eq_true, reduceCtorEq, nl10, nl20, nl30, nl40, nl50, nl60, nl70, nl12, nl13, nl21, nl23, nl31, nl32]; first | done | exact ⟨rfl, rfl⟩ | rfl)
          | contradiction
          | (simp only [c_8, c_28, c_48, if_true, if_false, and_self, and_true, true_and, not_true_eq_false, not_false_eq_true, and_false, false_and, or_true, true_or, or_false, false_or, or_self, Bool.false_eq_true, reduceCtorEq, nl10, nl20, nl30, nl40, nl50, nl60, nl70, nl12, nl13, nl21, nl23, nl31, nl32]; contradiction)
          | (exfalso; simp_all; done)
          | simp_all
      · refine lv_iconst (v := 1) hx hb dX8_isDigit_51 (by decide) ?_
        refine lv_goto (tgt := 56) hx hb dX8_isDigit_52 (by decide) ?_
        refine f_ir X hlk hr (v := 1) rfl hP hS ?_ dX8_isDigit_56
        unfold a_X8_isDigit
        (first | rw [if_pos c_8] | rw [if_neg c_8] | rw [if_neg (Bool.eq_false_iff.mp c_8)] | skip)
        (first | rw [if_pos c_28] | rw [if_neg c_28] | rw [if_neg (Bool.eq_false_iff.mp c_28)] | skip)
        (first | rw [if_pos c_48] | rw [if_neg c_48] | rw [if_neg (Bool.eq_false_iff.mp c_48)] | skip)
        (try dsimp only)
        first
          | done
          | exact ⟨rfl, rfl⟩
          | rfl
          | (simp only [c_8, c_28, c_48, if_true, if_false, and_self, and_true, true_and, not_true_eq_false, not_false_eq_true, and_false, false_and, or_true, true_or, or_false, false_or, or_self, Bool.false_eq_true, reduceCtorEq, nl10, nl20, nl30, nl40, nl50, nl60, nl70, nl12, nl13, nl21, nl23, nl31, nl32]; first | done | exact ⟨rfl, rfl⟩ | rfl)
          | contradiction
          | (simp only [c_8, c_28, c_48, if_true, if_false, and_self, and_true, true_and, not_true_eq_false, not_false_eq_true, and_false, false_and, or_true, true_or, or_false, false_or, or_self, Bool.false_eq_true, reduceCtorEq, nl10, nl20, nl30, nl40, nl50, nl60, nl70, nl12, nl13, nl21, nl23, nl31, nl32]; contradiction)
          | (exfalso; simp_all; done)
          | simp_all

def a_X8_isSo (M : Nat → Nat → Int32) (L : Nat → Nat → Int64) (w : Int32) (i : Int32) (i0 : Nat) : Int32 := (if w = 0 then (if (M 108 i0) < (M 86 35) then 0 else (if i = 2 then (if (M 86 35) < (M 110 1) then 0 else 1) else 1)) else (if w = 1 then (if (M 109 i0) < (M 86 35) then 0 else (if i = 2 then (if (M 86 35) < 1 then 0 else 1) else (if i = 3 then (if (M 86 35) < 1 then 0 else 1) else 1))) else (if w = 2 then (if i = 0 then (if (M 86 0) ≤ (M 86 35) then 0 else 1) else (if 9 < (M 86 35) then 0 else 1)) else (if 9 < (M 86 35) then 0 else 1))))
set_option maxHeartbeats 1000000 in
set_option maxRecDepth 100000 in
theorem c_X8_isSo (l : Launch) (E : fE) (M : Nat → Nat → Int32) (L : Nat → Nat → Int64) (w : Int32) (i : Int32) (i0 : Nat) (hi7 : fIx i 7 i0) (hi5 : w = 1 → i0 < 5) : Met l yX8_isSo (wl yX8_isSo cX8_isSo 3 (some .boolean)) (fRm 0 0) (va_Pc [.ref (fad E 86), .int w, .int i] (fPre E M L)) (fQi E (fun r u => u = (M, L) ∧ r = (a_X8_isSo M L w i i0))) 0 0 (fA E) := by
  refine f_head (by decide) (Nat.le_of_ble_eq_true rfl) ?_
  intro pg ev s mi below meth cd ls X hr hlk hP hS hl
  have hx := X.1.1
  have hb := X.1.2.1
  have hl : lv_has ls 3 [(0, .ref (fad E 86)), (1, .int w), (2, .int i)] := hl
  refine lv_iload_n hx hb dX8_isSo_0 rfl (lv_at hl 1 rfl) ?_
  refine lv_if_ne (tgt := 41) hx hb dX8_isSo_1 (by decide) (fun c_1 => ?_) (fun c_1 => ?_)
  · refine lv_iload_n hx hb dX8_isSo_41 rfl (lv_at hl 1 rfl) ?_
    refine lv_iconst (v := 1) hx hb dX8_isSo_42 (by decide) ?_
    refine lv_icmp_ne (tgt := 83) hx hb dX8_isSo_43 (by decide) (fun c_43 => ?_) (fun c_43 => ?_)
    · refine lv_iload_n hx hb dX8_isSo_83 rfl (lv_at hl 1 rfl) ?_
      refine lv_iconst (v := 2) hx hb dX8_isSo_84 (by decide) ?_
      refine lv_icmp_ne (tgt := 111) hx hb dX8_isSo_85 (by decide) (fun c_85 => ?_) (fun c_85 => ?_)
      · refine lv_aload_n hx hb dX8_isSo_111 rfl (lv_at hl 0 rfl) ?_
        refine f_get X hP (T := TX8) (ci := 8) (k := 86) rfl inX8 rfl 35 (by decide) m_4_209 rfl (v := .int (M 86 35)) rfl dX8_isSo_112 ?_
        refine lv_bipush (v := 9) hx hb dX8_isSo_115 (by decide) ?_
        refine lv_icmp_gt (tgt := 124) hx hb dX8_isSo_117 (by decide) (fun c_117 => ?_) (fun c_117 => ?_)
        · refine lv_iconst (v := 0) hx hb dX8_isSo_124 (by decide) ?_
          refine f_ir X hlk hr (v := 0) rfl hP hS ?_ dX8_isSo_125
          unfold a_X8_isSo
          (first | rw [if_pos c_1] | rw [if_neg c_1] | rw [if_neg (Bool.eq_false_iff.mp c_1)] | skip)
          (first | rw [if_pos c_43] | rw [if_neg c_43] | rw [if_neg (Bool.eq_false_iff.mp c_43)] | skip)
          (first | rw [if_pos c_85] | rw [if_neg c_85] | rw [if_neg (Bool.eq_false_iff.mp c_85)] | skip)
          (first | rw [if_pos c_117] | rw [if_neg c_117] | rw [if_neg (Bool.eq_false_iff.mp c_117)] | skip)
          (try dsimp only)
          first
            | done
            | exact ⟨rfl, rfl⟩
            | rfl
            | (simp only [c_1, c_43, c_85, c_117, if_true, if_false, and_self, and_true, true_and, not_true_eq_false, not_false_eq_true, and_false, false_and, or_true, true_or, or_false, false_or, or_self, Bool.false_eq_true, reduceCtorEq, nl10, nl20, nl30, nl40, nl50, nl60, nl70, nl12, nl13, nl21, nl23, nl31, nl32]; first | done | exact ⟨rfl, rfl⟩ | rfl)
            | contradiction
            | (simp only [c_1, c_43, c_85, c_117, if_true, if_false, and_self, and_true, true_and, not_true_eq_false, not_false_eq_true, and_false, false_and, or_true, true_or, or_false, false_or, or_self, Bool.false_eq_true, reduceCtorEq, nl10, nl20, nl30, nl40, nl50, nl60, nl70, nl12, nl13, nl21, nl23, nl31, nl32]; contradiction)
            | (exfalso; simp_all; done)
            | simp_all
        · refine lv_iconst (v := 1) hx hb dX8_isSo_120 (by decide) ?_
          refine lv_goto (tgt := 125) hx hb dX8_isSo_121 (by decide) ?_
          refine f_ir X hlk hr (v := 1) rfl hP hS ?_ dX8_isSo_125
          unfold a_X8_isSo
          (first | rw [if_pos c_1] | rw [if_neg c_1] | rw [if_neg (Bool.eq_false_iff.mp c_1)] | skip)
          (first | rw [if_pos c_43] | rw [if_neg c_43] | rw [if_neg (Bool.eq_false_iff.mp c_43)] | skip)
          (first | rw [if_pos c_85] | rw [if_neg c_85] | rw [if_neg (Bool.eq_false_iff.mp c_85)] | skip)
          (first | rw [if_pos c_117] | rw [if_neg c_117] | rw [if_neg (Bool.eq_false_iff.mp c_117)] | skip)
          (try dsimp only)
          first
            | done
            | exact ⟨rfl, rfl⟩
            | rfl
            | (simp only [c_1, c_43, c_85, c_117, if_true, if_false, and_self, and_true, true_and, not_true_eq_false, not_false_eq_true, and_false, false_and, or_true, true_or, or_false, false_or, or_self, Bool.false_eq_true, reduceCtorEq, nl10, nl20, nl30, nl40, nl50, nl60, nl70, nl12, nl13, nl21, nl23, nl31, nl32]; first | done | exact ⟨rfl, rfl⟩ | rfl)
            | contradiction
            | (simp only [c_1, c_43, c_85, c_117, if_true, if_false, and_self, and_true, true_and, not_true_eq_false, not_false_eq_true, and_false, false_and, or_true, true_or, or_false, false_or, or_self, Bool.false_eq_true, reduceCtorEq, nl10, nl20, nl30, nl40, nl50, nl60, nl70, nl12, nl13, nl21, nl23, nl31, nl32]; contradiction)
            | (exfalso; simp_all; done)
            | simp_all
      · refine lv_iload_n hx hb dX8_isSo_88 rfl (lv_at hl 2 rfl) ?_
        refine lv_if_ne (tgt := 111) hx hb dX8_isSo_89 (by decide) (fun c_89 => ?_) (fun c_89 => ?_)
        · refine lv_aload_n hx hb dX8_isSo_111 rfl (lv_at hl 0 rfl) ?_
          refine f_get X hP (T := TX8) (ci := 8) (k := 86) rfl inX8 rfl 35 (by decide) m_4_209 rfl (v := .int (M 86 35)) rfl dX8_isSo_112 ?_
          refine lv_bipush (v := 9) hx hb dX8_isSo_115 (by decide) ?_
          refine lv_icmp_gt (tgt := 124) hx hb dX8_isSo_117 (by decide) (fun c_117 => ?_) (fun c_117 => ?_)
          · refine lv_iconst (v := 0) hx hb dX8_isSo_124 (by decide) ?_
            refine f_ir X hlk hr (v := 0) rfl hP hS ?_ dX8_isSo_125
            unfold a_X8_isSo
            (first | rw [if_pos c_1] | rw [if_neg c_1] | rw [if_neg (Bool.eq_false_iff.mp c_1)] | skip)
            (first | rw [if_pos c_43] | rw [if_neg c_43] | rw [if_neg (Bool.eq_false_iff.mp c_43)] | skip)
            (first | rw [if_pos c_85] | rw [if_neg c_85] | rw [if_neg (Bool.eq_false_iff.mp c_85)] | skip)
            (first | rw [if_pos c_89] | rw [if_neg c_89] | rw [if_neg (Bool.eq_false_iff.mp c_89)] | skip)
            (first | rw [if_pos c_117] | rw [if_neg c_117] | rw [if_neg (Bool.eq_false_iff.mp c_117)] | skip)
            (try dsimp only)
            first
              | done
              | exact ⟨rfl, rfl⟩
              | rfl
              | (simp only [c_1, c_43, c_85, c_89, c_117, if_true, if_false, and_self, and_true, true_and, not_true_eq_false, not_false_eq_true, and_false, false_and, or_true, true_or, or_false, false_or, or_self, Bool.false_eq_true, reduceCtorEq, nl10, nl20, nl30, nl40, nl50, nl60, nl70, nl12, nl13, nl21, nl23, nl31, nl32]; first | done | exact ⟨rfl, rfl⟩ | rfl)
              | contradiction
              | (simp only [c_1, c_43, c_85, c_89, c_117, if_true, if_false, and_self, and_true, true_and, not_true_eq_false, not_false_eq_true, and_false, false_and, or_true, true_or, or_false, false_or, or_self, Bool.false_eq_true, reduceCtorEq, nl10, nl20, nl30, nl40, nl50, nl60, nl70, nl12, nl13, nl21, nl23, nl31, nl32]; contradiction)
              | (exfalso; simp_all; done)
              | simp_all
          · refine lv_iconst (v := 1) hx hb dX8_isSo_120 (by decide) ?_
            refine lv_goto (tgt := 125) hx hb dX8_isSo_121 (by decide) ?_
            refine f_ir X hlk hr (v := 1) rfl hP hS ?_ dX8_isSo_125
            unfold a_X8_isSo
            (first | rw [if_pos c_1] | rw [if_neg c_1] | rw [if_neg (Bool.eq_false_iff.mp c_1)] | skip)
            (first | rw [if_pos c_43] | rw [if_neg c_43] | rw [if_neg (Bool.eq_false_iff.mp c_43)] | skip)
            (first | rw [if_pos c_85] | rw [if_neg c_85] | rw [if_neg (Bool.eq_false_iff.mp c_85)] | skip)
            (first | rw [if_pos c_89] | rw [if_neg c_89] | rw [if_neg (Bool.eq_false_iff.mp c_89)] | skip)
            (first | rw [if_pos c_117] | rw [if_neg c_117] | rw [if_neg (Bool.eq_false_iff.mp c_117)] | skip)
            (try dsimp only)
            first
              | done
              | exact ⟨rfl, rfl⟩
              | rfl
              | (simp only [c_1, c_43, c_85, c_89, c_117, if_true, if_false, and_self, and_true, true_and, not_true_eq_false, not_false_eq_true, and_false, false_and, or_true, true_or, or_false, false_or, or_self, Bool.false_eq_true, reduceCtorEq, nl10, nl20, nl30, nl40, nl50, nl60, nl70, nl12, nl13, nl21, nl23, nl31, nl32]; first | done | exact ⟨rfl, rfl⟩ | rfl)
              | contradiction
              | (simp only [c_1, c_43, c_85, c_89, c_117, if_true, if_false, and_self, and_true, true_and, not_true_eq_false, not_false_eq_true, and_false, false_and, or_true, true_or, or_false, false_or, or_self, Bool.false_eq_true, reduceCtorEq, nl10, nl20, nl30, nl40, nl50, nl60, nl70, nl12, nl13, nl21, nl23, nl31, nl32]; contradiction)
              | (exfalso; simp_all; done)
              | simp_all
        · refine lv_aload_n hx hb dX8_isSo_92 rfl (lv_at hl 0 rfl) ?_
          refine f_get X hP (T := TX8) (ci := 8) (k := 86) rfl inX8 rfl 35 (by decide) m_4_209 rfl (v := .int (M 86 35)) rfl dX8_isSo_93 ?_
          refine lv_aload_n hx hb dX8_isSo_96 rfl (lv_at hl 0 rfl) ?_
          refine f_get X hP (T := TX8) (ci := 8) (k := 86) rfl inX8 rfl 0 (by decide) m_4_174 rfl (v := .int (M 86 0)) rfl dX8_isSo_97 ?_
          refine lv_icmp_ge (tgt := 107) hx hb dX8_isSo_100 (by decide) (fun c_100 => ?_) (fun c_100 => ?_)
          · refine lv_iconst (v := 0) hx hb dX8_isSo_107 (by decide) ?_
            refine lv_goto (tgt := 125) hx hb dX8_isSo_108 (by decide) ?_
            refine f_ir X hlk hr (v := 0) rfl hP hS ?_ dX8_isSo_125
            unfold a_X8_isSo
            (first | rw [if_pos c_1] | rw [if_neg c_1] | rw [if_neg (Bool.eq_false_iff.mp c_1)] | skip)
            (first | rw [if_pos c_43] | rw [if_neg c_43] | rw [if_neg (Bool.eq_false_iff.mp c_43)] | skip)
            (first | rw [if_pos c_85] | rw [if_neg c_85] | rw [if_neg (Bool.eq_false_iff.mp c_85)] | skip)
            (first | rw [if_pos c_89] | rw [if_neg c_89] | rw [if_neg (Bool.eq_false_iff.mp c_89)] | skip)
            (first | rw [if_pos c_100] | rw [if_neg c_100] | rw [if_neg (Bool.eq_false_iff.mp c_100)] | skip)
            (try dsimp only)
            first
              | done
              | exact ⟨rfl, rfl⟩
              | rfl
              | (simp only [c_1, c_43, c_85, c_89, c_100, if_true, if_false, and_self, and_true, true_and, not_true_eq_false, not_false_eq_true, and_false, false_and, or_true, true_or, or_false, false_or, or_self, Bool.false_eq_true, reduceCtorEq, nl10, nl20, nl30, nl40, nl50, nl60, nl70, nl12, nl13, nl21, nl23, nl31, nl32]; first | done | exact ⟨rfl, rfl⟩ | rfl)
              | contradiction
              | (simp only [c_1, c_43, c_85, c_89, c_100, if_true, if_false, and_self, and_true, true_and, not_true_eq_false, not_false_eq_true, and_false, false_and, or_true, true_or, or_false, false_or, or_self, Bool.false_eq_true, reduceCtorEq, nl10, nl20, nl30, nl40, nl50, nl60, nl70, nl12, nl13, nl21, nl23, nl31, nl32]; contradiction)
              | (exfalso; simp_all; done)
              | simp_all
          · refine lv_iconst (v := 1) hx hb dX8_isSo_103 (by decide) ?_
            refine lv_goto (tgt := 125) hx hb dX8_isSo_104 (by decide) ?_
            refine f_ir X hlk hr (v := 1) rfl hP hS ?_ dX8_isSo_125
            unfold a_X8_isSo
            (first | rw [if_pos c_1] | rw [if_neg c_1] | rw [if_neg (Bool.eq_false_iff.mp c_1)] | skip)
            (first | rw [if_pos c_43] | rw [if_neg c_43] | rw [if_neg (Bool.eq_false_iff.mp c_43)] | skip)
            (first | rw [if_pos c_85] | rw [if_neg c_85] | rw [if_neg (Bool.eq_false_iff.mp c_85)] | skip)
            (first | rw [if_pos c_89] | rw [if_neg c_89] | rw [if_neg (Bool.eq_false_iff.mp c_89)] | skip)
            (first | rw [if_pos c_100] | rw [if_neg c_100] | rw [if_neg (Bool.eq_false_iff.mp c_100)] | skip)
            (try dsimp only)
            first
              | done
              | exact ⟨rfl, rfl⟩
              | rfl
              | (simp only [c_1, c_43, c_85, c_89, c_100, if_true, if_false, and_self, and_true, true_and, not_true_eq_false, not_false_eq_true, and_false, false_and, or_true, true_or, or_false, false_or, or_self, Bool.false_eq_true, reduceCtorEq, nl10, nl20, nl30, nl40, nl50, nl60, nl70, nl12, nl13, nl21, nl23, nl31, nl32]; first | done | exact ⟨rfl, rfl⟩ | rfl)
              | contradiction
              | (simp only [c_1, c_43, c_85, c_89, c_100, if_true, if_false, and_self, and_true, true_and, not_true_eq_false, not_false_eq_true, and_false, false_and, or_true, true_or, or_false, false_or, or_self, Bool.false_eq_true, reduceCtorEq, nl10, nl20, nl30, nl40, nl50, nl60, nl70, nl12, nl13, nl21, nl23, nl31, nl32]; contradiction)
              | (exfalso; simp_all; done)
              | simp_all
    · refine lv_aload_n hx hb dX8_isSo_46 rfl (lv_at hl 0 rfl) ?_
      refine f_get X hP (T := TX8) (ci := 8) (k := 86) rfl inX8 rfl 35 (by decide) m_4_209 rfl (v := .int (M 86 35)) rfl dX8_isSo_47 ?_
      refine lv_aload_n hx hb dX8_isSo_50 rfl (lv_at hl 0 rfl) ?_
      refine f_get X hP (T := TX8) (ci := 8) (k := 86) rfl inX8 rfl 30 (by decide) m_4_204 rfl (v := .ref (fad E 109)) rfl dX8_isSo_51 ?_
      refine lv_iload_n hx hb dX8_isSo_54 rfl (lv_at hl 2 rfl) ?_
      refine f_iald X hP (k := 109) (n := 5) (q := i0) rfl rfl ⟨hi7.1, hi7.2.1, hi5 c_43⟩ dX8_isSo_55 ?_
      refine lv_icmp_gt (tgt := 81) hx hb dX8_isSo_56 (by decide) (fun c_56 => ?_) (fun c_56 => ?_)
      · refine lv_iconst (v := 0) hx hb dX8_isSo_81 (by decide) ?_
        refine f_ir X hlk hr (v := 0) rfl hP hS ?_ dX8_isSo_82
        unfold a_X8_isSo
        (first | rw [if_pos c_1] | rw [if_neg c_1] | rw [if_neg (Bool.eq_false_iff.mp c_1)] | skip)
        (first | rw [if_pos c_43] | rw [if_neg c_43] | rw [if_neg (Bool.eq_false_iff.mp c_43)] | skip)
        (first | rw [if_pos c_56] | rw [if_neg c_56] | rw [if_neg (Bool.eq_false_iff.mp c_56)] | skip)
        (try dsimp only)
        first
          | done
          | exact ⟨rfl, rfl⟩
          | rfl
          | (simp only [c_1, c_43, c_56, if_true, if_false, and_self, and_true, true_and, not_true_eq_false, not_false_eq_true, and_false, false_and, or_true, true_or, or_false, false_or, or_self, Bool.false_eq_true, reduceCtorEq, nl10, nl20, nl30, nl40, nl50, nl60, nl70, nl12, nl13, nl21, nl23, nl31, nl32]; first | done | exact ⟨rfl, rfl⟩ | rfl)
          | contradiction
          | (simp only [c_1, c_43, c_56, if_true, if_false, and_self, and_true, true_and, not_true_eq_false, not_false_eq_true, and_false, false_and, or_true, true_or, or_false, false_or, or_self, Bool.false_eq_true, reduceCtorEq, nl10, nl20, nl30, nl40, nl50, nl60, nl70, nl12, nl13, nl21, nl23, nl31, nl32]; contradiction)
          | (exfalso; simp_all; done)
          | simp_all
      · refine lv_iload_n hx hb dX8_isSo_59 rfl (lv_at hl 2 rfl) ?_
        refine lv_iconst (v := 2) hx hb dX8_isSo_60 (by decide) ?_
        refine lv_icmp_eq (tgt := 69) hx hb dX8_isSo_61 (by decide) (fun c_61 => ?_) (fun c_61 => ?_)
        · refine lv_aload_n hx hb dX8_isSo_69 rfl (lv_at hl 0 rfl) ?_
          refine f_get X hP (T := TX8) (ci := 8) (k := 86) rfl inX8 rfl 35 (by decide) m_4_209 rfl (v := .int (M 86 35)) rfl dX8_isSo_70 ?_
          refine lv_iconst (v := 1) hx hb dX8_isSo_73 (by decide) ?_
          refine lv_icmp_lt (tgt := 81) hx hb dX8_isSo_74 (by decide) (fun c_74 => ?_) (fun c_74 => ?_)
          · refine lv_iconst (v := 0) hx hb dX8_isSo_81 (by decide) ?_
            refine f_ir X hlk hr (v := 0) rfl hP hS ?_ dX8_isSo_82
            unfold a_X8_isSo
            (first | rw [if_pos c_1] | rw [if_neg c_1] | rw [if_neg (Bool.eq_false_iff.mp c_1)] | skip)
            (first | rw [if_pos c_43] | rw [if_neg c_43] | rw [if_neg (Bool.eq_false_iff.mp c_43)] | skip)
            (first | rw [if_pos c_56] | rw [if_neg c_56] | rw [if_neg (Bool.eq_false_iff.mp c_56)] | skip)
            (first | rw [if_pos c_61] | rw [if_neg c_61] | rw [if_neg (Bool.eq_false_iff.mp c_61)] | skip)
            (first | rw [if_pos c_74] | rw [if_neg c_74] | rw [if_neg (Bool.eq_false_iff.mp c_74)] | skip)
            (try dsimp only)
            first
              | done
              | exact ⟨rfl, rfl⟩
              | rfl
              | (simp only [c_1, c_43, c_56, c_61, c_74, if_true, if_false, and_self, and_true, true_and, not_true_eq_false, not_false_eq_true, and_false, false_and, or_true, true_or, or_false, false_or, or_self, Bool.false_eq_true, reduceCtorEq, nl10, nl20, nl30, nl40, nl50, nl60, nl70, nl12, nl13, nl21, nl23, nl31, nl32]; first | done | exact ⟨rfl, rfl⟩ | rfl)
              | contradiction
              | (simp only [c_1, c_43, c_56, c_61, c_74, if_true, if_false, and_self, and_true, true_and, not_true_eq_false, not_false_eq_true, and_false, false_and, or_true, true_or, or_false, false_or, or_self, Bool.false_eq_true, reduceCtorEq, nl10, nl20, nl30, nl40, nl50, nl60, nl70, nl12, nl13, nl21, nl23, nl31, nl32]; contradiction)
              | (exfalso; simp_all; done)
              | simp_all
          · refine lv_iconst (v := 1) hx hb dX8_isSo_77 (by decide) ?_
            refine lv_goto (tgt := 82) hx hb dX8_isSo_78 (by decide) ?_
            refine f_ir X hlk hr (v := 1) rfl hP hS ?_ dX8_isSo_82
            unfold a_X8_isSo
            (first | rw [if_pos c_1] | rw [if_neg c_1] | rw [if_neg (Bool.eq_false_iff.mp c_1)] | skip)
            (first | rw [if_pos c_43] | rw [if_neg c_43] | rw [if_neg (Bool.eq_false_iff.mp c_43)] | skip)
            (first | rw [if_pos c_56] | rw [if_neg c_56] | rw [if_neg (Bool.eq_false_iff.mp c_56)] | skip)
            (first | rw [if_pos c_61] | rw [if_neg c_61] | rw [if_neg (Bool.eq_false_iff.mp c_61)] | skip)
            (first | rw [if_pos c_74] | rw [if_neg c_74] | rw [if_neg (Bool.eq_false_iff.mp c_74)] | skip)
            (try dsimp only)
            first
              | done
              | exact ⟨rfl, rfl⟩
              | rfl
              | (simp only [c_1, c_43, c_56, c_61, c_74, if_true, if_false, and_self, and_true, true_and, not_true_eq_false, not_false_eq_true, and_false, false_and, or_true, true_or, or_false, false_or, or_self, Bool.false_eq_true, reduceCtorEq, nl10, nl20, nl30, nl40, nl50, nl60, nl70, nl12, nl13, nl21, nl23, nl31, nl32]; first | done | exact ⟨rfl, rfl⟩ | rfl)
              | contradiction
              | (simp only [c_1, c_43, c_56, c_61, c_74, if_true, if_false, and_self, and_true, true_and, not_true_eq_false, not_false_eq_true, and_false, false_and, or_true, true_or, or_false, false_or, or_self, Bool.false_eq_true, reduceCtorEq, nl10, nl20, nl30, nl40, nl50, nl60, nl70, nl12, nl13, nl21, nl23, nl31, nl32]; contradiction)
              | (exfalso; simp_all; done)
              | simp_all
        · refine lv_iload_n hx hb dX8_isSo_64 rfl (lv_at hl 2 rfl) ?_
          refine lv_iconst (v := 3) hx hb dX8_isSo_65 (by decide) ?_
          refine lv_icmp_ne (tgt := 77) hx hb dX8_isSo_66 (by decide) (fun c_66 => ?_) (fun c_66 => ?_)
          · refine lv_iconst (v := 1) hx hb dX8_isSo_77 (by decide) ?_
            refine lv_goto (tgt := 82) hx hb dX8_isSo_78 (by decide) ?_
            refine f_ir X hlk hr (v := 1) rfl hP hS ?_ dX8_isSo_82
            unfold a_X8_isSo
            (first | rw [if_pos c_1] | rw [if_neg c_1] | rw [if_neg (Bool.eq_false_iff.mp c_1)] | skip)
            (first | rw [if_pos c_43] | rw [if_neg c_43] | rw [if_neg (Bool.eq_false_iff.mp c_43)] | skip)
            (first | rw [if_pos c_56] | rw [if_neg c_56] | rw [if_neg (Bool.eq_false_iff.mp c_56)] | skip)
            (first | rw [if_pos c_61] | rw [if_neg c_61] | rw [if_neg (Bool.eq_false_iff.mp c_61)] | skip)
            (first | rw [if_pos c_66] | rw [if_neg c_66] | rw [if_neg (Bool.eq_false_iff.mp c_66)] | skip)
            (try dsimp only)
            first
              | done
              | exact ⟨rfl, rfl⟩
              | rfl
              | (simp only [c_1, c_43, c_56, c_61, c_66, if_true, if_false, and_self, and_true, true_and, not_true_eq_false, not_false_eq_true, and_false, false_and, or_true, true_or, or_false, false_or, or_self, Bool.false_eq_true, reduceCtorEq, nl10, nl20, nl30, nl40, nl50, nl60, nl70, nl12, nl13, nl21, nl23, nl31, nl32]; first | done | exact ⟨rfl, rfl⟩ | rfl)
              | contradiction
              | (simp only [c_1, c_43, c_56, c_61, c_66, if_true, if_false, and_self, and_true, true_and, not_true_eq_false, not_false_eq_true, and_false, false_and, or_true, true_or, or_false, false_or, or_self, Bool.false_eq_true, reduceCtorEq, nl10, nl20, nl30, nl40, nl50, nl60, nl70, nl12, nl13, nl21, nl23, nl31, nl32]; contradiction)
              | (exfalso; simp_all; done)
              | simp_all
          · refine lv_aload_n hx hb dX8_isSo_69 rfl (lv_at hl 0 rfl) ?_
            refine f_get X hP (T := TX8) (ci := 8) (k := 86) rfl inX8 rfl 35 (by decide) m_4_209 rfl (v := .int (M 86 35)) rfl dX8_isSo_70 ?_
            refine lv_iconst (v := 1) hx hb dX8_isSo_73 (by decide) ?_
            refine lv_icmp_lt (tgt := 81) hx hb dX8_isSo_74 (by decide) (fun c_74 => ?_) (fun c_74 => ?_)
            · refine lv_iconst (v := 0) hx hb dX8_isSo_81 (by decide) ?_
              refine f_ir X hlk hr (v := 0) rfl hP hS ?_ dX8_isSo_82
              unfold a_X8_isSo
              (first | rw [if_pos c_1] | rw [if_neg c_1] | rw [if_neg (Bool.eq_false_iff.mp c_1)] | skip)
              (first | rw [if_pos c_43] | rw [if_neg c_43] | rw [if_neg (Bool.eq_false_iff.mp c_43)] | skip)
              (first | rw [if_pos c_56] | rw [if_neg c_56] | rw [if_neg (Bool.eq_false_iff.mp c_56)] | skip)
              (first | rw [if_pos c_61] | rw [if_neg c_61] | rw [if_neg (Bool.eq_false_iff.mp c_61)] | skip)
              (first | rw [if_pos c_66] | rw [if_neg c_66] | rw [if_neg (Bool.eq_false_iff.mp c_66)] | skip)
              (first | rw [if_pos c_74] | rw [if_neg c_74] | rw [if_neg (Bool.eq_false_iff.mp c_74)] | skip)
              (try dsimp only)
              first
                | done
                | exact ⟨rfl, rfl⟩
                | rfl
                | (simp only [c_1, c_43, c_56, c_61, c_66, c_74, if_true, if_false, and_self, and_true, true_and, not_true_eq_false, not_false_eq_true, and_false, false_and, or_true, true_or, or_false, false_or, or_self, Bool.false_eq_true, reduceCtorEq, nl10, nl20, nl30, nl40, nl50, nl60, nl70, nl12, nl13, nl21, nl23, nl31, nl32]; first | done | exact ⟨rfl, rfl⟩ | rfl)
                | contradiction
                | (simp only [c_1, c_43, c_56, c_61, c_66, c_74, if_true, if_false, and_self, and_true, true_and, not_true_eq_false, not_false_eq_true, and_false, false_and, or_true, true_or, or_false, false_or, or_self, Bool.false_eq_true, reduceCtorEq, nl10, nl20, nl30, nl40, nl50, nl60, nl70, nl12, nl13, nl21, nl23, nl31, nl32]; contradiction)
                | (exfalso; simp_all; done)
                | simp_all
            · refine lv_iconst (v := 1) hx hb dX8_isSo_77 (by decide) ?_
              refine lv_goto (tgt := 82) hx hb dX8_isSo_78 (by decide) ?_
              refine f_ir X hlk hr (v := 1) rfl hP hS ?_ dX8_isSo_82
              unfold a_X8_isSo
              (first | rw [if_pos c_1] | rw [if_neg c_1] | rw [if_neg (Bool.eq_false_iff.mp c_1)] | skip)
              (first | rw [if_pos c_43] | rw [if_neg c_43] | rw [if_neg (Bool.eq_false_iff.mp c_43)] | skip)
              (first | rw [if_pos c_56] | rw [if_neg c_56] | rw [if_neg (Bool.eq_false_iff.mp c_56)] | skip)
              (first | rw [if_pos c_61] | rw [if_neg c_61] | rw [if_neg (Bool.eq_false_iff.mp c_61)] | skip)
              (first | rw [if_pos c_66] | rw [if_neg c_66] | rw [if_neg (Bool.eq_false_iff.mp c_66)] | skip)
              (first | rw [if_pos c_74] | rw [if_neg c_74] | rw [if_neg (Bool.eq_false_iff.mp c_74)] | skip)
              (try dsimp only)
              first
                | done
                | exact ⟨rfl, rfl⟩
                | rfl
                | (simp only [c_1, c_43, c_56, c_61, c_66, c_74, if_true, if_false, and_self, and_true, true_and, not_true_eq_false, not_false_eq_true, and_false, false_and, or_true, true_or, or_false, false_or, or_self, Bool.false_eq_true, reduceCtorEq, nl10, nl20, nl30, nl40, nl50, nl60, nl70, nl12, nl13, nl21, nl23, nl31, nl32]; first | done | exact ⟨rfl, rfl⟩ | rfl)
                | contradiction
                | (simp only [c_1, c_43, c_56, c_61, c_66, c_74, if_true, if_false, and_self, and_true, true_and, not_true_eq_false, not_false_eq_true, and_false, false_and, or_true, true_or, or_false, false_or, or_self, Bool.false_eq_true, reduceCtorEq, nl10, nl20, nl30, nl40, nl50, nl60, nl70, nl12, nl13, nl21, nl23, nl31, nl32]; contradiction)
                | (exfalso; simp_all; done)
                | simp_all
  · refine lv_aload_n hx hb dX8_isSo_4 rfl (lv_at hl 0 rfl) ?_
    refine f_get X hP (T := TX8) (ci := 8) (k := 86) rfl inX8 rfl 35 (by decide) m_4_209 rfl (v := .int (M 86 35)) rfl dX8_isSo_5 ?_
    refine lv_aload_n hx hb dX8_isSo_8 rfl (lv_at hl 0 rfl) ?_
    refine f_get X hP (T := TX8) (ci := 8) (k := 86) rfl inX8 rfl 29 (by decide) m_4_203 rfl (v := .ref (fad E 108)) rfl dX8_isSo_9 ?_
    refine lv_iload_n hx hb dX8_isSo_12 rfl (lv_at hl 2 rfl) ?_
    refine f_iald X hP (k := 108) (n := 7) (q := i0) rfl rfl hi7 dX8_isSo_13 ?_
    refine lv_icmp_gt (tgt := 39) hx hb dX8_isSo_14 (by decide) (fun c_14 => ?_) (fun c_14 => ?_)
    · refine lv_iconst (v := 0) hx hb dX8_isSo_39 (by decide) ?_
      refine f_ir X hlk hr (v := 0) rfl hP hS ?_ dX8_isSo_40
      unfold a_X8_isSo
      (first | rw [if_pos c_1] | rw [if_neg c_1] | rw [if_neg (Bool.eq_false_iff.mp c_1)] | skip)
      (first | rw [if_pos c_14] | rw [if_neg c_14] | rw [if_neg (Bool.eq_false_iff.mp c_14)] | skip)
      (try dsimp only)
      first
        | done
        | exact ⟨rfl, rfl⟩
        | rfl
        | (simp only [c_1, c_14, if_true, if_false, and_self, and_true, true_and, not_true_eq_false, not_false_eq_true, and_false, false_and, or_true, true_or, or_false, false_or, or_self, Bool.false_eq_true, reduceCtorEq, nl10, nl20, nl30, nl40, nl50, nl60, nl70, nl12, nl13, nl21, nl23, nl31, nl32]; first | done | exact ⟨rfl, rfl⟩ | rfl)
        | contradiction
        | (simp only [c_1, c_14, if_true, if_false, and_self, and_true, true_and, not_true_eq_false, not_false_eq_true, and_false, false_and, or_true, true_or, or_false, false_or, or_self, Bool.false_eq_true, reduceCtorEq, nl10, nl20, nl30, nl40, nl50, nl60, nl70, nl12, nl13, nl21, nl23, nl31, nl32]; contradiction)
        | (exfalso; simp_all; done)
        | simp_all
    · refine lv_iload_n hx hb dX8_isSo_17 rfl (lv_at hl 2 rfl) ?_
      refine lv_iconst (v := 2) hx hb dX8_isSo_18 (by decide) ?_
      refine lv_icmp_ne (tgt := 35) hx hb dX8_isSo_19 (by decide) (fun c_19 => ?_) (fun c_19 => ?_)
      · refine lv_iconst (v := 1) hx hb dX8_isSo_35 (by decide) ?_
        refine lv_goto (tgt := 40) hx hb dX8_isSo_36 (by decide) ?_
        refine f_ir X hlk hr (v := 1) rfl hP hS ?_ dX8_isSo_40
        unfold a_X8_isSo
        (first | rw [if_pos c_1] | rw [if_neg c_1] | rw [if_neg (Bool.eq_false_iff.mp c_1)] | skip)
        (first | rw [if_pos c_14] | rw [if_neg c_14] | rw [if_neg (Bool.eq_false_iff.mp c_14)] | skip)
        (first | rw [if_pos c_19] | rw [if_neg c_19] | rw [if_neg (Bool.eq_false_iff.mp c_19)] | skip)
        (try dsimp only)
        first
          | done
          | exact ⟨rfl, rfl⟩
          | rfl
          | (simp only [c_1, c_14, c_19, if_true, if_false, and_self, and_true, true_and, not_true_eq_false, not_false_eq_true, and_false, false_and, or_true, true_or, or_false, false_or, or_self, Bool.false_eq_true, reduceCtorEq, nl10, nl20, nl30, nl40, nl50, nl60, nl70, nl12, nl13, nl21, nl23, nl31, nl32]; first | done | exact ⟨rfl, rfl⟩ | rfl)
          | contradiction
          | (simp only [c_1, c_14, c_19, if_true, if_false, and_self, and_true, true_and, not_true_eq_false, not_false_eq_true, and_false, false_and, or_true, true_or, or_false, false_or, or_self, Bool.false_eq_true, reduceCtorEq, nl10, nl20, nl30, nl40, nl50, nl60, nl70, nl12, nl13, nl21, nl23, nl31, nl32]; contradiction)
          | (exfalso; simp_all; done)
          | simp_all
      · refine lv_aload_n hx hb dX8_isSo_22 rfl (lv_at hl 0 rfl) ?_
        refine f_get X hP (T := TX8) (ci := 8) (k := 86) rfl inX8 rfl 35 (by decide) m_4_209 rfl (v := .int (M 86 35)) rfl dX8_isSo_23 ?_
        refine lv_aload_n hx hb dX8_isSo_26 rfl (lv_at hl 0 rfl) ?_
        refine f_get X hP (T := TX8) (ci := 8) (k := 86) rfl inX8 rfl 31 (by decide) m_4_205 rfl (v := .ref (fad E 110)) rfl dX8_isSo_27 ?_
        refine lv_iconst (v := 1) hx hb dX8_isSo_30 (by decide) ?_
        refine f_iald X hP (k := 110) (n := 7) (q := 1) rfl rfl ⟨by decide, rfl, by decide⟩ dX8_isSo_31 ?_
        refine lv_icmp_lt (tgt := 39) hx hb dX8_isSo_32 (by decide) (fun c_32 => ?_) (fun c_32 => ?_)
        · refine lv_iconst (v := 0) hx hb dX8_isSo_39 (by decide) ?_
          refine f_ir X hlk hr (v := 0) rfl hP hS ?_ dX8_isSo_40
          unfold a_X8_isSo
          (first | rw [if_pos c_1] | rw [if_neg c_1] | rw [if_neg (Bool.eq_false_iff.mp c_1)] | skip)
          (first | rw [if_pos c_14] | rw [if_neg c_14] | rw [if_neg (Bool.eq_false_iff.mp c_14)] | skip)
          (first | rw [if_pos c_19] | rw [if_neg c_19] | rw [if_neg (Bool.eq_false_iff.mp c_19)] | skip)
          (first | rw [if_pos c_32] | rw [if_neg c_32] | rw [if_neg (Bool.eq_false_iff.mp c_32)] | skip)
          (try dsimp only)
          first
            | done
            | exact ⟨rfl, rfl⟩
            | rfl
            | (simp only [c_1, c_14, c_19, c_32, if_true, if_false, and_self, and_true, true_and, not_true_eq_false, not_false_eq_true, and_false, false_and, or_true, true_or, or_false, false_or, or_self, Bool.false_eq_true, reduceCtorEq, nl10, nl20, nl30, nl40, nl50, nl60, nl70, nl12, nl13, nl21, nl23, nl31, nl32]; first | done | exact ⟨rfl, rfl⟩ | rfl)
            | contradiction
            | (simp only [c_1, c_14, c_19, c_32, if_true, if_false, and_self, and_true, true_and, not_true_eq_false, not_false_eq_true, and_false, false_and, or_true, true_or, or_false, false_or, or_self, Bool.false_eq_true, reduceCtorEq, nl10, nl20, nl30, nl40, nl50, nl60, nl70, nl12, nl13, nl21, nl23, nl31, nl32]; contradiction)
            | (exfalso; simp_all; done)
            | simp_all
        · refine lv_iconst (v := 1) hx hb dX8_isSo_35 (by decide) ?_
          refine lv_goto (tgt := 40) hx hb dX8_isSo_36 (by decide) ?_
          refine f_ir X hlk hr (v := 1) rfl hP hS ?_ dX8_isSo_40
          unfold a_X8_isSo
          (first | rw [if_pos c_1] | rw [if_neg c_1] | rw [if_neg (Bool.eq_false_iff.mp c_1)] | skip)
          (first | rw [if_pos c_14] | rw [if_neg c_14] | rw [if_neg (Bool.eq_false_iff.mp c_14)] | skip)
          (first | rw [if_pos c_19] | rw [if_neg c_19] | rw [if_neg (Bool.eq_false_iff.mp c_19)] | skip)
          (first | rw [if_pos c_32] | rw [if_neg c_32] | rw [if_neg (Bool.eq_false_iff.mp c_32)] | skip)
          (try dsimp only)
          first
            | done
            | exact ⟨rfl, rfl⟩
            | rfl
            | (simp only [c_1, c_14, c_19, c_32, if_true, if_false, and_self, and_true, true_and, not_true_eq_false, not_false_eq_true, and_false, false_and, or_true, true_or, or_false, false_or, or_self, Bool.false_eq_true, reduceCtorEq, nl10, nl20, nl30, nl40, nl50, nl60, nl70, nl12, nl13, nl21, nl23, nl31, nl32]; first | done | exact ⟨rfl, rfl⟩ | rfl)
            | contradiction
            | (simp only [c_1, c_14, c_19, c_32, if_true, if_false, and_self, and_true, true_and, not_true_eq_false, not_false_eq_true, and_false, false_and, or_true, true_or, or_false, false_or, or_self, Bool.false_eq_true, reduceCtorEq, nl10, nl20, nl30, nl40, nl50, nl60, nl70, nl12, nl13, nl21, nl23, nl31, nl32]; contradiction)
            | (exfalso; simp_all; done)
            | simp_all
