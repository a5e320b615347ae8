def a_X7_thing (M : Nat → Nat → Int32) (L : Nat → Nat → Int64) (c1 : Int32) (f : Int32) (l1 : Int32) (n : Int32) (w : Int32) (st : Int32) (a : Int32) (tc : Nat) : fR := (if (0 ≤ f ∧ f ≤ 23) then (if (f ≤ l1 ∧ l1 ≤ 23) then (if (0 ≤ n ∧ n ≤ 9) then (if (0 ≤ w ∧ w ≤ 99) then (if (0 ≤ st ∧ st ≤ 9) then (if (0 ≤ a ∧ a ≤ 20) then (if (0 ≤ c1 ∧ c1 ≤ 9) then (if ((M 18 3) < 8) then ((if tc < 8 then nI tc else -1), (if tc < 8 then addT M 18 tc c1 f l1 n w st a else M), L) else ((-7), (rfM M (-7)), L)) else ((-6), (rfM M (-6)), L)) else ((-6), (rfM M (-6)), L)) else ((-6), (rfM M (-6)), L)) else ((-6), (rfM M (-6)), L)) else (if (0 ≤ w ∧ w ≤ 99) then (if (0 ≤ st ∧ st ≤ 9) then (if (0 ≤ a ∧ a ≤ 20) then ((-6), (rfM M (-6)), L) else ((-6), (rfM M (-6)), L)) else ((-6), (rfM M (-6)), L)) else ((-6), (rfM M (-6)), L))) else (if (0 ≤ w ∧ w ≤ 99) then (if (0 ≤ st ∧ st ≤ 9) then (if (0 ≤ a ∧ a ≤ 20) then ((-6), (rfM M (-6)), L) else ((-6), (rfM M (-6)), L)) else ((-6), (rfM M (-6)), L)) else ((-6), (rfM M (-6)), L))) else (if (0 ≤ w ∧ w ≤ 99) then (if (0 ≤ st ∧ st ≤ 9) then (if (0 ≤ a ∧ a ≤ 20) then ((-6), (rfM M (-6)), L) else ((-6), (rfM M (-6)), L)) else ((-6), (rfM M (-6)), L)) else ((-6), (rfM M (-6)), L)))
set_option maxHeartbeats 1000000 in
set_option maxRecDepth 100000 in
theorem c_X7_thing (l : Launch) (E : fE) (M : Nat → Nat → Int32) (L : Nat → Nat → Int64) (c1 : Int32) (f : Int32) (l1 : Int32) (n : Int32) (w : Int32) (st : Int32) (a : Int32) (tc : Nat) (htc : M 18 3 = nI tc) (htc8 : tc ≤ 8) : Met l yX7_thing (wl yX7_thing cX7_thing 10 (some .int)) (fRm 2 48) (va_Pc [.ref (fad E 0), .int c1, .int f, .int l1, .int n, .int w, .int st, .int a] (fPre E M L)) (fQi E (fun r u => u = ((a_X7_thing M L c1 f l1 n w st a tc).2.1, (a_X7_thing M L c1 f l1 n w st a tc).2.2) ∧ r = (a_X7_thing M L c1 f l1 n w st a tc).1)) 0 0 (fA E) := by
  refine f_head (by decide) (Nat.le_of_ble_eq_true rfl) ?_
  intro pg ev s mi below meth cd ls X hr hlk hP hS hl
  have hx := X.1.1
  have hb := X.1.2.1
  have hl : lv_has ls 10 [(0, .ref (fad E 0)), (1, .int c1), (2, .int f), (3, .int l1), (4, .int n), (5, .int w), (6, .int st), (7, .int a)] := hl
  refine lv_iload_n hx hb dX7_thing_0 rfl (lv_at hl 2 rfl) ?_
  refine lv_iconst (v := 0) hx hb dX7_thing_1 (by decide) ?_
  refine lv_bipush (v := 23) hx hb dX7_thing_2 (by decide) ?_
  refine f_iS (n := 3) X hP hS [.int f, .int 0, .int 23] [] (c_X7_within l E M L f 0 23) m_2_26 wi_X7_within (by decide +kernel) ⟨Nat.le_of_ble_eq_true rfl, Nat.le_of_ble_eq_true rfl⟩ rfl hl rfl (Nat.le_of_ble_eq_true rfl) ⟨Nat.zero_le _, Nat.zero_le _⟩ dX7_thing_4 (fun H locs hP hS => ?_)
  refine lv_if_eq (tgt := 35) hx hb dX7_thing_7 (by decide) (fun c_7 => ?_) (fun c_7 => ?_)
  · have c_7 := bI0 c_7
    refine lv_iconst (v := 0) hx hb dX7_thing_35 (by decide) ?_
    refine lv_istore (lv' := [(8, .int 0), (0, .ref (fad E 0)), (1, .int c1), (2, .int f), (3, .int l1), (4, .int n), (5, .int w), (6, .int st), (7, .int a)]) hx hb dX7_thing_36 hl (by decide) rfl (fun ls hl => ?_)
    refine lv_iload hx hb dX7_thing_38 (lv_at hl 6 rfl) ?_
    refine lv_iconst (v := 0) hx hb dX7_thing_40 (by decide) ?_
    refine lv_bipush (v := 99) hx hb dX7_thing_41 (by decide) ?_
    refine f_iS (n := 3) X hP hS [.int w, .int 0, .int 99] [] (c_X7_within l E M L w 0 99) m_2_26 wi_X7_within (by decide +kernel) ⟨Nat.le_of_ble_eq_true rfl, Nat.le_of_ble_eq_true rfl⟩ rfl hl rfl (Nat.le_of_ble_eq_true rfl) ⟨Nat.zero_le _, Nat.zero_le _⟩ dX7_thing_43 (fun H locs hP hS => ?_)
    refine lv_if_eq (tgt := 75) hx hb dX7_thing_46 (by decide) (fun c_46 => ?_) (fun c_46 => ?_)
    · have c_46 := bI0 c_46
      refine lv_iconst (v := 0) hx hb dX7_thing_75 (by decide) ?_
      refine lv_istore (lv' := [(9, .int 0), (8, .int 0), (0, .ref (fad E 0)), (1, .int c1), (2, .int f), (3, .int l1), (4, .int n), (5, .int w), (6, .int st), (7, .int a)]) hx hb dX7_thing_76 hl (by decide) rfl (fun ls hl => ?_)
      refine lv_iload hx hb dX7_thing_78 (lv_at hl 1 rfl) ?_
      refine lv_if_eq (tgt := 95) hx hb dX7_thing_80 (by decide) (fun _ => ?_) (fun c_80 => absurd c_80 (by decide))
      refine lv_aload_n hx hb dX7_thing_95 rfl (lv_at hl 2 rfl) ?_
      refine lv_bipush (v := (-6)) hx hb dX7_thing_96 (by decide) ?_
      refine f_iV (n := 1) X hP hS [.int (-6)] [] (c_X7_refuse l E M L (-6)) m_2_29 wi_X7_refuse rfl rfl (by decide) (by decide +kernel) ⟨Nat.le_of_ble_eq_true rfl, Nat.le_of_ble_eq_true rfl⟩ rfl hl rfl (Nat.le_of_ble_eq_true rfl) ⟨Nat.zero_le _, Nat.zero_le _⟩ dX7_thing_98 (fun H locs hP hS => ?_)
      refine f_ir X hlk hr (v := (-6)) rfl hP hS ?_ dX7_thing_101
      unfold a_X7_thing
      (first | rw [if_pos c_7] | rw [if_neg c_7] | rw [if_neg (Bool.eq_false_iff.mp c_7)] | skip)
      (first | rw [if_pos c_46] | rw [if_neg c_46] | rw [if_neg (Bool.eq_false_iff.mp c_46)] | skip)
      (try dsimp only)
      first
        | done
        | exact ⟨rfl, rfl⟩
        | rfl
        | (simp only [c_7, c_46, if_true, if_false, and_self, and_true, true_and, not_true_eq_false, not_false_eq_true, and_false, false_and, or_true, true_or, or_false, false_or, or_self, Bool.false_eq_true, reduceCtorEq, nl10, nl20, nl30, nl40, nl50, nl60, nl70, nl12, nl13, nl21, nl23, nl31, nl32]; first | done | exact ⟨rfl, rfl⟩ | rfl)
        | contradiction
        | (simp only [c_7, c_46, if_true, if_false, and_self, and_true, true_and, not_true_eq_false, not_false_eq_true, and_false, false_and, or_true, true_or, or_false, false_or, or_self, Bool.false_eq_true, reduceCtorEq, nl10, nl20, nl30, nl40, nl50, nl60, nl70, nl12, nl13, nl21, nl23, nl31, nl32]; contradiction)
        | (exfalso; simp_all; done)
        | simp_all
    · have c_46 := bI1 c_46
      refine lv_iload hx hb dX7_thing_49 (lv_at hl 7 rfl) ?_
      refine lv_iconst (v := 0) hx hb dX7_thing_51 (by decide) ?_
      refine lv_bipush (v := 9) hx hb dX7_thing_52 (by decide) ?_
      refine f_iS (n := 3) X hP hS [.int st, .int 0, .int 9] [] (c_X7_within l E M L st 0 9) m_2_26 wi_X7_within (by decide +kernel) ⟨Nat.le_of_ble_eq_true rfl, Nat.le_of_ble_eq_true rfl⟩ rfl hl rfl (Nat.le_of_ble_eq_true rfl) ⟨Nat.zero_le _, Nat.zero_le _⟩ dX7_thing_54 (fun H locs hP hS => ?_)
      refine lv_if_eq (tgt := 75) hx hb dX7_thing_57 (by decide) (fun c_57 => ?_) (fun c_57 => ?_)
      · have c_57 := bI0 c_57
        refine lv_iconst (v := 0) hx hb dX7_thing_75 (by decide) ?_
        refine lv_istore (lv' := [(9, .int 0), (8, .int 0), (0, .ref (fad E 0)), (1, .int c1), (2, .int f), (3, .int l1), (4, .int n), (5, .int w), (6, .int st), (7, .int a)]) hx hb dX7_thing_76 hl (by decide) rfl (fun ls hl => ?_)
        refine lv_iload hx hb dX7_thing_78 (lv_at hl 1 rfl) ?_
        refine lv_if_eq (tgt := 95) hx hb dX7_thing_80 (by decide) (fun _ => ?_) (fun c_80 => absurd c_80 (by decide))
        refine lv_aload_n hx hb dX7_thing_95 rfl (lv_at hl 2 rfl) ?_
        refine lv_bipush (v := (-6)) hx hb dX7_thing_96 (by decide) ?_
        refine f_iV (n := 1) X hP hS [.int (-6)] [] (c_X7_refuse l E M L (-6)) m_2_29 wi_X7_refuse rfl rfl (by decide) (by decide +kernel) ⟨Nat.le_of_ble_eq_true rfl, Nat.le_of_ble_eq_true rfl⟩ rfl hl rfl (Nat.le_of_ble_eq_true rfl) ⟨Nat.zero_le _, Nat.zero_le _⟩ dX7_thing_98 (fun H locs hP hS => ?_)
        refine f_ir X hlk hr (v := (-6)) rfl hP hS ?_ dX7_thing_101
        unfold a_X7_thing
        (first | rw [if_pos c_7] | rw [if_neg c_7] | rw [if_neg (Bool.eq_false_iff.mp c_7)] | skip)
        (first | rw [if_pos c_46] | rw [if_neg c_46] | rw [if_neg (Bool.eq_false_iff.mp c_46)] | skip)
        (first | rw [if_pos c_57] | rw [if_neg c_57] | rw [if_neg (Bool.eq_false_iff.mp c_57)] | skip)
        (try dsimp only)
        first
          | done
          | exact ⟨rfl, rfl⟩
          | rfl
          | (simp only [c_7, c_46, c_57, if_true, if_false, and_self, and_true, true_and, not_true_eq_false, not_false_eq_true, and_false, false_and, or_true, true_or, or_false, false_or, or_self, Bool.false_eq_true, reduceCtorEq, nl10, nl20, nl30, nl40, nl50, nl60, nl70, nl12, nl13, nl21, nl23, nl31, nl32]; first | done | exact ⟨rfl, rfl⟩ | rfl)
          | contradiction
          | (simp only [c_7, c_46, c_57, if_true, if_false, and_self, and_true, true_and, not_true_eq_false, not_false_eq_true, and_false, false_and, or_true, true_or, or_false, false_or, or_self, Bool.false_eq_true, reduceCtorEq, nl10, nl20, nl30, nl40, nl50, nl60, nl70, nl12, nl13, nl21, nl23, nl31, nl32]; contradiction)
          | (exfalso; simp_all; done)
          | simp_all
      · have c_57 := bI1 c_57
        refine lv_iload hx hb dX7_thing_60 (lv_at hl 8 rfl) ?_
        refine lv_iconst (v := 0) hx hb dX7_thing_62 (by decide) ?_
        refine lv_bipush (v := 20) hx hb dX7_thing_63 (by decide) ?_
        refine f_iS (n := 3) X hP hS [.int a, .int 0, .int 20] [] (c_X7_within l E M L a 0 20) m_2_26 wi_X7_within (by decide +kernel) ⟨Nat.le_of_ble_eq_true rfl, Nat.le_of_ble_eq_true rfl⟩ rfl hl rfl (Nat.le_of_ble_eq_true rfl) ⟨Nat.zero_le _, Nat.zero_le _⟩ dX7_thing_65 (fun H locs hP hS => ?_)
        refine lv_if_eq (tgt := 75) hx hb dX7_thing_68 (by decide) (fun c_68 => ?_) (fun c_68 => ?_)
        · have c_68 := bI0 c_68
          refine lv_iconst (v := 0) hx hb dX7_thing_75 (by decide) ?_
          refine lv_istore (lv' := [(9, .int 0), (8, .int 0), (0, .ref (fad E 0)), (1, .int c1), (2, .int f), (3, .int l1), (4, .int n), (5, .int w), (6, .int st), (7, .int a)]) hx hb dX7_thing_76 hl (by decide) rfl (fun ls hl => ?_)
          refine lv_iload hx hb dX7_thing_78 (lv_at hl 1 rfl) ?_
          refine lv_if_eq (tgt := 95) hx hb dX7_thing_80 (by decide) (fun _ => ?_) (fun c_80 => absurd c_80 (by decide))
          refine lv_aload_n hx hb dX7_thing_95 rfl (lv_at hl 2 rfl) ?_
          refine lv_bipush (v := (-6)) hx hb dX7_thing_96 (by decide) ?_
          refine f_iV (n := 1) X hP hS [.int (-6)] [] (c_X7_refuse l E M L (-6)) m_2_29 wi_X7_refuse rfl rfl (by decide) (by decide +kernel) ⟨Nat.le_of_ble_eq_true rfl, Nat.le_of_ble_eq_true rfl⟩ rfl hl rfl (Nat.le_of_ble_eq_true rfl) ⟨Nat.zero_le _, Nat.zero_le _⟩ dX7_thing_98 (fun H locs hP hS => ?_)
          refine f_ir X hlk hr (v := (-6)) rfl hP hS ?_ dX7_thing_101
          unfold a_X7_thing
          (first | rw [if_pos c_7] | rw [if_neg c_7] | rw [if_neg (Bool.eq_false_iff.mp c_7)] | skip)
          (first | rw [if_pos c_46] | rw [if_neg c_46] | rw [if_neg (Bool.eq_false_iff.mp c_46)] | skip)
          (first | rw [if_pos c_57] | rw [if_neg c_57] | rw [if_neg (Bool.eq_false_iff.mp c_57)] | skip)
          (first | rw [if_pos c_68] | rw [if_neg c_68] | rw [if_neg (Bool.eq_false_iff.mp c_68)] | skip)
          (try dsimp only)
          first
            | done
            | exact ⟨rfl, rfl⟩
            | rfl
            | (simp only [c_7, c_46, c_57, c_68, if_true, if_false, and_self, and_true, true_and, not_true_eq_false, not_false_eq_true, and_false, false_and, or_true, true_or, or_false, false_or, or_self, Bool.false_eq_true, reduceCtorEq, nl10, nl20, nl30, nl40, nl50, nl60, nl70, nl12, nl13, nl21, nl23, nl31, nl32]; first | done | exact ⟨rfl, rfl⟩ | rfl)
            | contradiction
            | (simp only [c_7, c_46, c_57, c_68, if_true, if_false, and_self, and_true, true_and, not_true_eq_false, not_false_eq_true, and_false, false_and, or_true, true_or, or_false, false_or, or_self, Bool.false_eq_true, reduceCtorEq, nl10, nl20, nl30, nl40, nl50, nl60, nl70, nl12, nl13, nl21, nl23, nl31, nl32]; contradiction)
            | (exfalso; simp_all; done)
            | simp_all
        · have c_68 := bI1 c_68
          refine lv_iconst (v := 1) hx hb dX7_thing_71 (by decide) ?_
          refine lv_goto (tgt := 76) hx hb dX7_thing_72 (by decide) ?_
          refine lv_istore (lv' := [(9, .int 1), (8, .int 0), (0, .ref (fad E 0)), (1, .int c1), (2, .int f), (3, .int l1), (4, .int n), (5, .int w), (6, .int st), (7, .int a)]) hx hb dX7_thing_76 hl (by decide) rfl (fun ls hl => ?_)
          refine lv_iload hx hb dX7_thing_78 (lv_at hl 1 rfl) ?_
          refine lv_if_eq (tgt := 95) hx hb dX7_thing_80 (by decide) (fun _ => ?_) (fun c_80 => absurd c_80 (by decide))
          refine lv_aload_n hx hb dX7_thing_95 rfl (lv_at hl 2 rfl) ?_
          refine lv_bipush (v := (-6)) hx hb dX7_thing_96 (by decide) ?_
          refine f_iV (n := 1) X hP hS [.int (-6)] [] (c_X7_refuse l E M L (-6)) m_2_29 wi_X7_refuse rfl rfl (by decide) (by decide +kernel) ⟨Nat.le_of_ble_eq_true rfl, Nat.le_of_ble_eq_true rfl⟩ rfl hl rfl (Nat.le_of_ble_eq_true rfl) ⟨Nat.zero_le _, Nat.zero_le _⟩ dX7_thing_98 (fun H locs hP hS => ?_)
          refine f_ir X hlk hr (v := (-6)) rfl hP hS ?_ dX7_thing_101
          unfold a_X7_thing
          (first | rw [if_pos c_7] | rw [if_neg c_7] | rw [if_neg (Bool.eq_false_iff.mp c_7)] | skip)
          (first | rw [if_pos c_46] | rw [if_neg c_46] | rw [if_neg (Bool.eq_false_iff.mp c_46)] | skip)
          (first | rw [if_pos c_57] | rw [if_neg c_57] | rw [if_neg (Bool.eq_false_iff.mp c_57)] | skip)
          (first | rw [if_pos c_68] | rw [if_neg c_68] | rw [if_neg (Bool.eq_false_iff.mp c_68)] | skip)
          (try dsimp only)
          first
            | done
            | exact ⟨rfl, rfl⟩
            | rfl
            | (simp only [c_7, c_46, c_57, c_68, if_true, if_false, and_self, and_true, true_and, not_true_eq_false, not_false_eq_true, and_false, false_and, or_true, true_or, or_false, false_or, or_self, Bool.false_eq_true, reduceCtorEq, nl10, nl20, nl30, nl40, nl50, nl60, nl70, nl12, nl13, nl21, nl23, nl31, nl32]; first | done | exact ⟨rfl, rfl⟩ | rfl)
            | contradiction
            | (simp only [c_7, c_46, c_57, c_68, if_true, if_false, and_self, and_true, true_and, not_true_eq_false, not_false_eq_true, and_false, false_and, or_true, true_or, or_false, false_or, or_self, Bool.false_eq_true, reduceCtorEq, nl10, nl20, nl30, nl40, nl50, nl60, nl70, nl12, nl13, nl21, nl23, nl31, nl32]; contradiction)
            | (exfalso; simp_all; done)
            | simp_all
  · have c_7 := bI1 c_7
    refine lv_iload_n hx hb dX7_thing_10 rfl (lv_at hl 3 rfl) ?_
    refine lv_iload_n hx hb dX7_thing_11 rfl (lv_at hl 2 rfl) ?_
    refine lv_bipush (v := 23) hx hb dX7_thing_12 (by decide) ?_
    refine f_iS (n := 3) X hP hS [.int l1, .int f, .int 23] [] (c_X7_within l E M L l1 f 23) m_2_26 wi_X7_within (by decide +kernel) ⟨Nat.le_of_ble_eq_true rfl, Nat.le_of_ble_eq_true rfl⟩ rfl hl rfl (Nat.le_of_ble_eq_true rfl) ⟨Nat.zero_le _, Nat.zero_le _⟩ dX7_thing_14 (fun H locs hP hS => ?_)
    refine lv_if_eq (tgt := 35) hx hb dX7_thing_17 (by decide) (fun c_17 => ?_) (fun c_17 => ?_)
    · have c_17 := bI0 c_17
      refine lv_iconst (v := 0) hx hb dX7_thing_35 (by decide) ?_
      refine lv_istore (lv' := [(8, .int 0), (0, .ref (fad E 0)), (1, .int c1), (2, .int f), (3, .int l1), (4, .int n), (5, .int w), (6, .int st), (7, .int a)]) hx hb dX7_thing_36 hl (by decide) rfl (fun ls hl => ?_)
      refine lv_iload hx hb dX7_thing_38 (lv_at hl 6 rfl) ?_
      refine lv_iconst (v := 0) hx hb dX7_thing_40 (by decide) ?_
      refine lv_bipush (v := 99) hx hb dX7_thing_41 (by decide) ?_
      refine f_iS (n := 3) X hP hS [.int w, .int 0, .int 99] [] (c_X7_within l E M L w 0 99) m_2_26 wi_X7_within (by decide +kernel) ⟨Nat.le_of_ble_eq_true rfl, Nat.le_of_ble_eq_true rfl⟩ rfl hl rfl (Nat.le_of_ble_eq_true rfl) ⟨Nat.zero_le _, Nat.zero_le _⟩ dX7_thing_43 (fun H locs hP hS => ?_)
      refine lv_if_eq (tgt := 75) hx hb dX7_thing_46 (by decide) (fun c_46 => ?_) (fun c_46 => ?_)
      · have c_46 := bI0 c_46
        refine lv_iconst (v := 0) hx hb dX7_thing_75 (by decide) ?_
        refine lv_istore (lv' := [(9, .int 0), (8, .int 0), (0, .ref (fad E 0)), (1, .int c1), (2, .int f), (3, .int l1), (4, .int n), (5, .int w), (6, .int st), (7, .int a)]) hx hb dX7_thing_76 hl (by decide) rfl (fun ls hl => ?_)
        refine lv_iload hx hb dX7_thing_78 (lv_at hl 1 rfl) ?_
        refine lv_if_eq (tgt := 95) hx hb dX7_thing_80 (by decide) (fun _ => ?_) (fun c_80 => absurd c_80 (by decide))
        refine lv_aload_n hx hb dX7_thing_95 rfl (lv_at hl 2 rfl) ?_
        refine lv_bipush (v := (-6)) hx hb dX7_thing_96 (by decide) ?_
        refine f_iV (n := 1) X hP hS [.int (-6)] [] (c_X7_refuse l E M L (-6)) m_2_29 wi_X7_refuse rfl rfl (by decide) (by decide +kernel) ⟨Nat.le_of_ble_eq_true rfl, Nat.le_of_ble_eq_true rfl⟩ rfl hl rfl (Nat.le_of_ble_eq_true rfl) ⟨Nat.zero_le _, Nat.zero_le _⟩ dX7_thing_98 (fun H locs hP hS => ?_)
        refine f_ir X hlk hr (v := (-6)) rfl hP hS ?_ dX7_thing_101
        unfold a_X7_thing
        (first | rw [if_pos c_7] | rw [if_neg c_7] | rw [if_neg (Bool.eq_false_iff.mp c_7)] | skip)
        (first | rw [if_pos c_17] | rw [if_neg c_17] | rw [if_neg (Bool.eq_false_iff.mp c_17)] | skip)
        (first | rw [if_pos c_46] | rw [if_neg c_46] | rw [if_neg (Bool.eq_false_iff.mp c_46)] | skip)
        (try dsimp only)
        first
          | done
          | exact ⟨rfl, rfl⟩
          | rfl
          | (simp only [c_7, c_17, c_46, if_true, if_false, and_self, and_true, true_and, not_true_eq_false, not_false_eq_true, and_false, false_and, or_true, true_or, or_false, false_or, or_self, Bool.false_eq_true, reduceCtorEq, nl10, nl20, nl30, nl40, nl50, nl60, nl70, nl12, nl13, nl21, nl23, nl31, nl32]; first | done | exact ⟨rfl, rfl⟩ | rfl)
          | contradiction
          | (simp only [c_7, c_17, c_46, if_true, if_false, and_self, and_true, true_and, not_true_eq_false, not_false_eq_true, and_false, false_and, or_true, true_or, or_false, false_or, or_self, Bool.false_eq_true, reduceCtorEq, nl10, nl20, nl30, nl40, nl50, nl60, nl70, nl12, nl13, nl21, nl23, nl31, nl32]; contradiction)
          | (exfalso; simp_all; done)
          | simp_all
      · have c_46 := bI1 c_46
        refine lv_iload hx hb dX7_thing_49 (lv_at hl 7 rfl) ?_
        refine lv_iconst (v := 0) hx hb dX7_thing_51 (by decide) ?_
        refine lv_bipush (v := 9) hx hb dX7_thing_52 (by decide) ?_
        refine f_iS (n := 3) X hP hS [.int st, .int 0, .int 9] [] (c_X7_within l E M L st 0 9) m_2_26 wi_X7_within (by decide +kernel) ⟨Nat.le_of_ble_eq_true rfl, Nat.le_of_ble_eq_true rfl⟩ rfl hl rfl (Nat.le_of_ble_eq_true rfl) ⟨Nat.zero_le _, Nat.zero_le _⟩ dX7_thing_54 (fun H locs hP hS => ?_)
        refine lv_if_eq (tgt := 75) hx hb dX7_thing_57 (by decide) (fun c_57 => ?_) (fun c_57 => ?_)
        · have c_57 := bI0 c_57
          refine lv_iconst (v := 0) hx hb dX7_thing_75 (by decide) ?_
          refine lv_istore (lv' := [(9, .int 0), (8, .int 0), (0, .ref (fad E 0)), (1, .int c1), (2, .int f), (3, .int l1), (4, .int n), (5, .int w), (6, .int st), (7, .int a)]) hx hb dX7_thing_76 hl (by decide) rfl (fun ls hl => ?_)
          refine lv_iload hx hb dX7_thing_78 (lv_at hl 1 rfl) ?_
          refine lv_if_eq (tgt := 95) hx hb dX7_thing_80 (by decide) (fun _ => ?_) (fun c_80 => absurd c_80 (by decide))
          refine lv_aload_n hx hb dX7_thing_95 rfl (lv_at hl 2 rfl) ?_
          refine lv_bipush (v := (-6)) hx hb dX7_thing_96 (by decide) ?_
          refine f_iV (n := 1) X hP hS [.int (-6)] [] (c_X7_refuse l E M L (-6)) m_2_29 wi_X7_refuse rfl rfl (by decide) (by decide +kernel) ⟨Nat.le_of_ble_eq_true rfl, Nat.le_of_ble_eq_true rfl⟩ rfl hl rfl (Nat.le_of_ble_eq_true rfl) ⟨Nat.zero_le _, Nat.zero_le _⟩ dX7_thing_98 (fun H locs hP hS => ?_)
          refine f_ir X hlk hr (v := (-6)) rfl hP hS ?_ dX7_thing_101
          unfold a_X7_thing
          (first | rw [if_pos c_7] | rw [if_neg c_7] | rw [if_neg (Bool.eq_false_iff.mp c_7)] | skip)
          (first | rw [if_pos c_17] | rw [if_neg c_17] | rw [if_neg (Bool.eq_false_iff.mp c_17)] | skip)
          (first | rw [if_pos c_46] | rw [if_neg c_46] | rw [if_neg (Bool.eq_false_iff.mp c_46)] | skip)
          (first | rw [if_pos c_57] | rw [if_neg c_57] | rw [if_neg (Bool.eq_false_iff.mp c_57)] | skip)
          (try dsimp only)
          first
            | done
            | exact ⟨rfl, rfl⟩
            | rfl
            | (simp only [c_7, c_17, c_46, c_57, if_true, if_false, and_self, and_true, true_and, not_true_eq_false, not_false_eq_true, and_false, false_and, or_true, true_or, or_false, false_or, or_self, Bool.false_eq_true, reduceCtorEq, nl10, nl20, nl30, nl40, nl50, nl60, nl70, nl12, nl13, nl21, nl23, nl31, nl32]; first | done | exact ⟨rfl, rfl⟩ | rfl)
            | contradiction
            | (simp only [c_7, c_17, c_46, c_57, if_true, if_false, and_self, and_true, true_and, not_true_eq_false, not_false_eq_true, and_false, false_and, or_true, true_or, or_false, false_or, or_self, Bool.false_eq_true, reduceCtorEq, nl10, nl20, nl30, nl40, nl50, nl60, nl70, nl12, nl13, nl21, nl23, nl31, nl32]; contradiction)
            | (exfalso; simp_all; done)
            | simp_all
        · have c_57 := bI1 c_57
          refine lv_iload hx hb dX7_thing_60 (lv_at hl 8 rfl) ?_
          refine lv_iconst (v := 0) hx hb dX7_thing_62 (by decide) ?_
          refine lv_bipush (v := 20) hx hb dX7_thing_63 (by decide) ?_
          refine f_iS (n := 3) X hP hS [.int a, .int 0, .int 20] [] (c_X7_within l E M L a 0 20) m_2_26 wi_X7_within (by decide +kernel) ⟨Nat.le_of_ble_eq_true rfl, Nat.le_of_ble_eq_true rfl⟩ rfl hl rfl (Nat.le_of_ble_eq_true rfl) ⟨Nat.zero_le _, Nat.zero_le _⟩ dX7_thing_65 (fun H locs hP hS => ?_)
          refine lv_if_eq (tgt := 75) hx hb dX7_thing_68 (by decide) (fun c_68 => ?_) (fun c_68 => ?_)
          · have c_68 := bI0 c_68
            refine lv_iconst (v := 0) hx hb dX7_thing_75 (by decide) ?_
            refine lv_istore (lv' := [(9, .int 0), (8, .int 0), (0, .ref (fad E 0)), (1, .int c1), (2, .int f), (3, .int l1), (4, .int n), (5, .int w), (6, .int st), (7, .int a)]) hx hb dX7_thing_76 hl (by decide) rfl (fun ls hl => ?_)
            refine lv_iload hx hb dX7_thing_78 (lv_at hl 1 rfl) ?_
            refine lv_if_eq (tgt := 95) hx hb dX7_thing_80 (by decide) (fun _ => ?_) (fun c_80 => absurd c_80 (by decide))
            refine lv_aload_n hx hb dX7_thing_95 rfl (lv_at hl 2 rfl) ?_
            refine lv_bipush (v := (-6)) hx hb dX7_thing_96 (by decide) ?_
            refine f_iV (n := 1) X hP hS [.int (-6)] [] (c_X7_refuse l E M L (-6)) m_2_29 wi_X7_refuse rfl rfl (by decide) (by decide +kernel) ⟨Nat.le_of_ble_eq_true rfl, Nat.le_of_ble_eq_true rfl⟩ rfl hl rfl (Nat.le_of_ble_eq_true rfl) ⟨Nat.zero_le _, Nat.zero_le _⟩ dX7_thing_98 (fun H locs hP hS => ?_)
            refine f_ir X hlk hr (v := (-6)) rfl hP hS ?_ dX7_thing_101
            unfold a_X7_thing
            (first | rw [if_pos c_7] | rw [if_neg c_7] | rw [if_neg (Bool.eq_false_iff.mp c_7)] | skip)
            (first | rw [if_pos c_17] | rw [if_neg c_17] | rw [if_neg (Bool.eq_false_iff.mp c_17)] | skip)
            (first | rw [if_pos c_46] | rw [if_neg c_46] | rw [if_neg (Bool.eq_false_iff.mp c_46)] | skip)
            (first | rw [if_pos c_57] | rw [if_neg c_57] | rw [if_neg (Bool.eq_false_iff.mp c_57)] | skip)
            (first | rw [if_pos c_68] | rw [if_neg c_68] | rw [if_neg (Bool.eq_false_iff.mp c_68)] | skip)
            (try dsimp only)
            first
              | done
              | exact ⟨rfl, rfl⟩
              | rfl
              | (simp only [c_7, c_17, c_46, c_57, c_68, if_true, if_false, and_self, and_true, true_and, not_true_eq_false, not_false_eq_true, and_false, false_and, or_true, true_or, or_false, false_or, or_self, Bool.false_eq_true, reduceCtorEq, nl10, nl20, nl30, nl40, nl50, nl60, nl70, nl12, nl13, nl21, nl23, nl31, nl32]; first | done | exact ⟨rfl, rfl⟩ | rfl)
              | contradiction
              | (simp only [c_7, c_17, c_46, c_57, c_68, if_true, if_false, and_self, and_true, true_and, not_true_eq_false, not_false_eq_true, and_false, false_and, or_true, true_or, or_false, false_or, or_self, Bool.false_eq_true, reduceCtorEq, nl10, nl20, nl30, nl40, nl50, nl60, nl70, nl12, nl13, nl21, nl23, nl31, nl32]; contradiction)
              | (exfalso; simp_all; done)
              | simp_all
          · have c_68 := bI1 c_68
            refine lv_iconst (v := 1) hx hb dX7_thing_71 (by decide) ?_
            refine lv_goto (tgt := 76) hx hb dX7_thing_72 (by decide) ?_
            refine lv_istore (lv' := [(9, .int 1), (8, .int 0), (0, .ref (fad E 0)), (1, .int c1), (2, .int f), (3, .int l1), (4, .int n), (5, .int w), (6, .int st), (7, .int a)]) hx hb dX7_thing_76 hl (by decide) rfl (fun ls hl => ?_)
            refine lv_iload hx hb dX7_thing_78 (lv_at hl 1 rfl) ?_
            refine lv_if_eq (tgt := 95) hx hb dX7_thing_80 (by decide) (fun _ => ?_) (fun c_80 => absurd c_80 (by decide))
            refine lv_aload_n hx hb dX7_thing_95 rfl (lv_at hl 2 rfl) ?_
            refine lv_bipush (v := (-6)) hx hb dX7_thing_96 (by decide) ?_
            refine f_iV (n := 1) X hP hS [.int (-6)] [] (c_X7_refuse l E M L (-6)) m_2_29 wi_X7_refuse rfl rfl (by decide) (by decide +kernel) ⟨Nat.le_of_ble_eq_true rfl, Nat.le_of_ble_eq_true rfl⟩ rfl hl rfl (Nat.le_of_ble_eq_true rfl) ⟨Nat.zero_le _, Nat.zero_le _⟩ dX7_thing_98 (fun H locs hP hS => ?_)
            refine f_ir X hlk hr (v := (-6)) rfl hP hS ?_ dX7_thing_101
            unfold a_X7_thing
            (first | rw [if_pos c_7] | rw [if_neg c_7] | rw [if_neg (Bool.eq_false_iff.mp c_7)] | skip)
            (first | rw [if_pos c_17] | rw [if_neg c_17] | rw [if_neg (Bool.eq_false_iff.mp c_17)] | skip)
            (first | rw [if_pos c_46] | rw [if_neg c_46] | rw [if_neg (Bool.eq_false_iff.mp c_46)] | skip)
            (first | rw [if_pos c_57] | rw [if_neg c_57] | rw [if_neg (Bool.eq_false_iff.mp c_57)] | skip)
            (first | rw [if_pos c_68] | rw [if_neg c_68] | rw [if_neg (Bool.eq_false_iff.mp c_68)] | skip)
            (try dsimp only)
            first
              | done
              | exact ⟨rfl, rfl⟩
              | rfl
              | (simp only [c_7, c_17, c_46, c_57, c_68, if_true, if_false, and_self, and_true, true_and, not_true_eq_false, not_false_eq_true, and_false, false_and, or_true, true_or, or_false, false_or, or_self, Bool.false_eq_true, reduceCtorEq, nl10, nl20, nl30, nl40, nl50, nl60, nl70, nl12, nl13, nl21, nl23, nl31, nl32]; first | done | exact ⟨rfl, rfl⟩ | rfl)
              | contradiction
              | (simp only [c_7, c_17, c_46, c_57, c_68, if_true, if_false, and_self, and_true, true_and, not_true_eq_false, not_false_eq_true, and_false, false_and, or_true, true_or, or_false, false_or, or_self, Bool.false_eq_true, reduceCtorEq, nl10, nl20, nl30, nl40, nl50, nl60, nl70, nl12, nl13, nl21, nl23, nl31, nl32]; contradiction)
              | (exfalso; simp_all; done)
              | simp_all
    · have c_17 := bI1 c_17
      refine lv_iload hx hb dX7_thing_20 (lv_at hl 4 rfl) ?_
      refine lv_iconst (v := 0) hx hb dX7_thing_22 (by decide) ?_
      refine lv_bipush (v := 9) hx hb dX7_thing_23 (by decide) ?_
      refine f_iS (n := 3) X hP hS [.int n, .int 0, .int 9] [] (c_X7_within l E M L n 0 9) m_2_26 wi_X7_within (by decide +kernel) ⟨Nat.le_of_ble_eq_true rfl, Nat.le_of_ble_eq_true rfl⟩ rfl hl rfl (Nat.le_of_ble_eq_true rfl) ⟨Nat.zero_le _, Nat.zero_le _⟩ dX7_thing_25 (fun H locs hP hS => ?_)
      refine lv_if_eq (tgt := 35) hx hb dX7_thing_28 (by decide) (fun c_28 => ?_) (fun c_28 => ?_)
      · have c_28 := bI0 c_28
        refine lv_iconst (v := 0) hx hb dX7_thing_35 (by decide) ?_
        refine lv_istore (lv' := [(8, .int 0), (0, .ref (fad E 0)), (1, .int c1), (2, .int f), (3, .int l1), (4, .int n), (5, .int w), (6, .int st), (7, .int a)]) hx hb dX7_thing_36 hl (by decide) rfl (fun ls hl => ?_)
        refine lv_iload hx hb dX7_thing_38 (lv_at hl 6 rfl) ?_
        refine lv_iconst (v := 0) hx hb dX7_thing_40 (by decide) ?_
        refine lv_bipush (v := 99) hx hb dX7_thing_41 (by decide) ?_
        refine f_iS (n := 3) X hP hS [.int w, .int 0, .int 99] [] (c_X7_within l E M L w 0 99) m_2_26 wi_X7_within (by decide +kernel) ⟨Nat.le_of_ble_eq_true rfl, Nat.le_of_ble_eq_true rfl⟩ rfl hl rfl (Nat.le_of_ble_eq_true rfl) ⟨Nat.zero_le _, Nat.zero_le _⟩ dX7_thing_43 (fun H locs hP hS => ?_)
        refine lv_if_eq (tgt := 75) hx hb dX7_thing_46 (by decide) (fun c_46 => ?_) (fun c_46 => ?_)
        · have c_46 := bI0 c_46
          refine lv_iconst (v := 0) hx hb dX7_thing_75 (by decide) ?_
          refine lv_istore (lv' := [(9, .int 0), (8, .int 0), (0, .ref (fad E 0)), (1, .int c1), (2, .int f), (3, .int l1), (4, .int n), (5, .int w), (6, .int st), (7, .int a)]) hx hb dX7_thing_76 hl (by decide) rfl (fun ls hl => ?_)
          refine lv_iload hx hb dX7_thing_78 (lv_at hl 1 rfl) ?_
          refine lv_if_eq (tgt := 95) hx hb dX7_thing_80 (by decide) (fun _ => ?_) (fun c_80 => absurd c_80 (by decide))
          refine lv_aload_n hx hb dX7_thing_95 rfl (lv_at hl 2 rfl) ?_
          refine lv_bipush (v := (-6)) hx hb dX7_thing_96 (by decide) ?_
          refine f_iV (n := 1) X hP hS [.int (-6)] [] (c_X7_refuse l E M L (-6)) m_2_29 wi_X7_refuse rfl rfl (by decide) (by decide +kernel) ⟨Nat.le_of_ble_eq_true rfl, Nat.le_of_ble_eq_true rfl⟩ rfl hl rfl (Nat.le_of_ble_eq_true rfl) ⟨Nat.zero_le _, Nat.zero_le _⟩ dX7_thing_98 (fun H locs hP hS => ?_)
          refine f_ir X hlk hr (v := (-6)) rfl hP hS ?_ dX7_thing_101
          unfold a_X7_thing
          (first | rw [if_pos c_7] | rw [if_neg c_7] | rw [if_neg (Bool.eq_false_iff.mp c_7)] | skip)
          (first | rw [if_pos c_17] | rw [if_neg c_17] | rw [if_neg (Bool.eq_false_iff.mp c_17)] | skip)
          (first | rw [if_pos c_28] | rw [if_neg c_28] | rw [if_neg (Bool.eq_false_iff.mp c_28)] | skip)
          (first | rw [if_pos c_46] | rw [if_neg c_46] | rw [if_neg (Bool.eq_false_iff.mp c_46)] | skip)
          (try dsimp only)
          first
            | done
            | exact ⟨rfl, rfl⟩
            | rfl
            | (simp only [c_7, c_17, c_28, c_46, if_true, if_false, and_self, and_true, true_and, not_true_eq_false, not_false_eq_true, and_false, false_and, or_true, true_or, or_false, false_or, or_self, Bool.false_eq_true, reduceCtorEq, nl10, nl20, nl30, nl40, nl50, nl60, nl70, nl12, nl13, nl21, nl23, nl31, nl32]; first | done | exact ⟨rfl, rfl⟩ | rfl)
            | contradiction
            | (simp only [c_7, c_17, c_28, c_46, if_true, if_false, and_self, and_true, true_and, not_true_eq_false, not_false_eq_true, and_false, false_and, or_true, true_or, or_false, false_or, or_self, Bool.false_eq_true, reduceCtorEq, nl10, nl20, nl30, nl40, nl50, nl60, nl70, nl12, nl13, nl21, nl23, nl31, nl32]; contradiction)
            | (exfalso; simp_all; done)
            | simp_all
        · have c_46 := bI1 c_46
          refine lv_iload hx hb dX7_thing_49 (lv_at hl 7 rfl) ?_
          refine lv_iconst (v := 0) hx hb dX7_thing_51 (by decide) ?_
          refine lv_bipush (v := 9) hx hb dX7_thing_52 (by decide) ?_
          refine f_iS (n := 3) X hP hS [.int st, .int 0, .int 9] [] (c_X7_within l E M L st 0 9) m_2_26 wi_X7_within (by decide +kernel) ⟨Nat.le_of_ble_eq_true rfl, Nat.le_of_ble_eq_true rfl⟩ rfl hl rfl (Nat.le_of_ble_eq_true rfl) ⟨Nat.zero_le _, Nat.zero_le _⟩ dX7_thing_54 (fun H locs hP hS => ?_)
          refine lv_if_eq (tgt := 75) hx hb dX7_thing_57 (by decide) (fun c_57 => ?_) (fun c_57 => ?_)
          · have c_57 := bI0 c_57
            refine lv_iconst (v := 0) hx hb dX7_thing_75 (by decide) ?_
            refine lv_istore (lv' := [(9, .int 0), (8, .int 0), (0, .ref (fad E 0)), (1, .int c1), (2, .int f), (3, .int l1), (4, .int n), (5, .int w), (6, .int st), (7, .int a)]) hx hb dX7_thing_76 hl (by decide) rfl (fun ls hl => ?_)
            refine lv_iload hx hb dX7_thing_78 (lv_at hl 1 rfl) ?_
            refine lv_if_eq (tgt := 95) hx hb dX7_thing_80 (by decide) (fun _ => ?_) (fun c_80 => absurd c_80 (by decide))
            refine lv_aload_n hx hb dX7_thing_95 rfl (lv_at hl 2 rfl) ?_
            refine lv_bipush (v := (-6)) hx hb dX7_thing_96 (by decide) ?_
            refine f_iV (n := 1) X hP hS [.int (-6)] [] (c_X7_refuse l E M L (-6)) m_2_29 wi_X7_refuse rfl rfl (by decide) (by decide +kernel) ⟨Nat.le_of_ble_eq_true rfl, Nat.le_of_ble_eq_true rfl⟩ rfl hl rfl (Nat.le_of_ble_eq_true rfl) ⟨Nat.zero_le _, Nat.zero_le _⟩ dX7_thing_98 (fun H locs hP hS => ?_)
            refine f_ir X hlk hr (v := (-6)) rfl hP hS ?_ dX7_thing_101
            unfold a_X7_thing
            (first | rw [if_pos c_7] | rw [if_neg c_7] | rw [if_neg (Bool.eq_false_iff.mp c_7)] | skip)
            (first | rw [if_pos c_17] | rw [if_neg c_17] | rw [if_neg (Bool.eq_false_iff.mp c_17)] | skip)
            (first | rw [if_pos c_28] | rw [if_neg c_28] | rw [if_neg (Bool.eq_false_iff.mp c_28)] | skip)
            (first | rw [if_pos c_46] | rw [if_neg c_46] | rw [if_neg (Bool.eq_false_iff.mp c_46)] | skip)
            (first | rw [if_pos c_57] | rw [if_neg c_57] | rw [if_neg (Bool.eq_false_iff.mp c_57)] | skip)
            (try dsimp only)
            first
              | done
              | exact ⟨rfl, rfl⟩
              | rfl
              | (simp only [c_7, c_17, c_28, c_46, c_57, if_true, if_false, and_self, and_true, true_and, not_true_eq_false, not_false_eq_true, and_false, false_and, or_true, true_or, or_false, false_or, or_self, Bool.false_eq_true, reduceCtorEq, nl10, nl20, nl30, nl40, nl50, nl60, nl70, nl12, nl13, nl21, nl23, nl31, nl32]; first | done | exact ⟨rfl, rfl⟩ | rfl)
              | contradiction
              | (simp only [c_7, c_17, c_28, c_46, c_57, if_true, if_false, and_self, and_true, true_and, not_true_eq_false, not_false_eq_true, and_false, false_and, or_true, true_or, or_false, false_or, or_self, Bool.false_eq_true, reduceCtorEq, nl10, nl20, nl30, nl40, nl50, nl60, nl70, nl12, nl13, nl21, nl23, nl31, nl32]; contradiction)
              | (exfalso; simp_all; done)
              | simp_all
          · have c_57 := bI1 c_57
            refine lv_iload hx hb dX7_thing_60 (lv_at hl 8 rfl) ?_
            refine lv_iconst (v := 0) hx hb dX7_thing_62 (by decide) ?_
            refine lv_bipush (v := 20) hx hb dX7_thing_63 (by decide) ?_
            refine f_iS (n := 3) X hP hS [.int a, .int 0, .int 20] [] (c_X7_within l E M L a 0 20) m_2_26 wi_X7_within (by decide +kernel) ⟨Nat.le_of_ble_eq_true rfl, Nat.le_of_ble_eq_true rfl⟩ rfl hl rfl (Nat.le_of_ble_eq_true rfl) ⟨Nat.zero_le _, Nat.zero_le _⟩ dX7_thing_65 (fun H locs hP hS => ?_)
            refine lv_if_eq (tgt := 75) hx hb dX7_thing_68 (by decide) (fun c_68 => ?_) (fun c_68 => ?_)
            · have c_68 := bI0 c_68
              refine lv_iconst (v := 0) hx hb dX7_thing_75 (by decide) ?_
              refine lv_istore (lv' := [(9, .int 0), (8, .int 0), (0, .ref (fad E 0)), (1, .int c1), (2, .int f), (3, .int l1), (4, .int n), (5, .int w), (6, .int st), (7, .int a)]) hx hb dX7_thing_76 hl (by decide) rfl (fun ls hl => ?_)
              refine lv_iload hx hb dX7_thing_78 (lv_at hl 1 rfl) ?_
              refine lv_if_eq (tgt := 95) hx hb dX7_thing_80 (by decide) (fun _ => ?_) (fun c_80 => absurd c_80 (by decide))
              refine lv_aload_n hx hb dX7_thing_95 rfl (lv_at hl 2 rfl) ?_
              refine lv_bipush (v := (-6)) hx hb dX7_thing_96 (by decide) ?_
              refine f_iV (n := 1) X hP hS [.int (-6)] [] (c_X7_refuse l E M L (-6)) m_2_29 wi_X7_refuse rfl rfl (by decide) (by decide +kernel) ⟨Nat.le_of_ble_eq_true rfl, Nat.le_of_ble_eq_true rfl⟩ rfl hl rfl (Nat.le_of_ble_eq_true rfl) ⟨Nat.zero_le _, Nat.zero_le _⟩ dX7_thing_98 (fun H locs hP hS => ?_)
              refine f_ir X hlk hr (v := (-6)) rfl hP hS ?_ dX7_thing_101
              unfold a_X7_thing
              (first | rw [if_pos c_7] | rw [if_neg c_7] | rw [if_neg (Bool.eq_false_iff.mp c_7)] | skip)
              (first | rw [if_pos c_17] | rw [if_neg c_17] | rw [if_neg (Bool.eq_false_iff.mp c_17)] | skip)
              (first | rw [if_pos c_28] | rw [if_neg c_28] | rw [if_neg (Bool.eq_false_iff.mp c_28)] | skip)
              (first | rw [if_pos c_46] | rw [if_neg c_46] | rw [if_neg (Bool.eq_false_iff.mp c_46)] | skip)
              (first | rw [if_pos c_57] | rw [if_neg c_57] | rw [if_neg (Bool.eq_false_iff.mp c_57)] | skip)
              (first | rw [if_pos c_68] | rw [if_neg c_68] | rw [if_neg (Bool.eq_false_iff.mp c_68)] | skip)
              (try dsimp only)
              first
                | done
                | exact ⟨rfl, rfl⟩
                | rfl
                | (simp only [c_7, c_17, c_28, c_46, c_57, c_68, if_true, if_false, and_self, and_true, true_and, not_true_eq_false, not_false_eq_true, and_false, false_and, or_true, true_or, or_false, false_or, or_self, Bool.false_eq_true, reduceCtorEq, nl10, nl20, nl30, nl40, nl50, nl60, nl70, nl12, nl13, nl21, nl23, nl31, nl32]; first | done | exact ⟨rfl, rfl⟩ | rfl)
                | contradiction
                | (simp only [c_7, c_17, c_28, c_46, c_57, c_68, if_true, if_false, and_self, and_true, true_and, not_true_eq_false, not_false_eq_true, and_false, false_and, or_true, true_or, or_false, false_or, or_self, Bool.false_eq_true, reduceCtorEq, nl10, nl20, nl30, nl40, nl50, nl60, nl70, nl12, nl13, nl21, nl23, nl31, nl32]; contradiction)
                | (exfalso; simp_all; done)
                | simp_all
            · have c_68 := bI1 c_68
              refine lv_iconst (v := 1) hx hb dX7_thing_71 (by decide) ?_
              refine lv_goto (tgt := 76) hx hb dX7_thing_72 (by decide) ?_
              refine lv_istore (lv' := [(9, .int 1), (8, .int 0), (0, .ref (fad E 0)), (1, .int c1), (2, .int f), (3, .int l1), (4, .int n), (5, .int w), (6, .int st), (7, .int a)]) hx hb dX7_thing_76 hl (by decide) rfl (fun ls hl => ?_)
              refine lv_iload hx hb dX7_thing_78 (lv_at hl 1 rfl) ?_
              refine lv_if_eq (tgt := 95) hx hb dX7_thing_80 (by decide) (fun _ => ?_) (fun c_80 => absurd c_80 (by decide))
              refine lv_aload_n hx hb dX7_thing_95 rfl (lv_at hl 2 rfl) ?_
              refine lv_bipush (v := (-6)) hx hb dX7_thing_96 (by decide) ?_
              refine f_iV (n := 1) X hP hS [.int (-6)] [] (c_X7_refuse l E M L (-6)) m_2_29 wi_X7_refuse rfl rfl (by decide) (by decide +kernel) ⟨Nat.le_of_ble_eq_true rfl, Nat.le_of_ble_eq_true rfl⟩ rfl hl rfl (Nat.le_of_ble_eq_true rfl) ⟨Nat.zero_le _, Nat.zero_le _⟩ dX7_thing_98 (fun H locs hP hS => ?_)
              refine f_ir X hlk hr (v := (-6)) rfl hP hS ?_ dX7_thing_101
              unfold a_X7_thing
              (first | rw [if_pos c_7] | rw [if_neg c_7] | rw [if_neg (Bool.eq_false_iff.mp c_7)] | skip)
              (first | rw [if_pos c_17] | rw [if_neg c_17] | rw [if_neg (Bool.eq_false_iff.mp c_17)] | skip)
              (first | rw [if_pos c_28] | rw [if_neg c_28] | rw [if_neg (Bool.eq_false_iff.mp c_28)] | skip)
              (first | rw [if_pos c_46] | rw [if_neg c_46] | rw [if_neg (Bool.eq_false_iff.mp c_46)] | skip)
              (first | rw [if_pos c_57] | rw [if_neg c_57] | rw [if_neg (Bool.eq_false_iff.mp c_57)] | skip)
              (first | rw [if_pos c_68] | rw [if_neg c_68] | rw [if_neg (Bool.eq_false_iff.mp c_68)] | skip)
              (try dsimp only)
              first
                | done
                | exact ⟨rfl, rfl⟩
                | rfl
                | (simp only [c_7, c_17, c_28, c_46, c_57, c_68, if_true, if_false, and_self, and_true, true_and, not_true_eq_false, not_false_eq_true, and_false, false_and, or_true, true_or, or_false, false_or, or_self, Bool.false_eq_true, reduceCtorEq, nl10, nl20, nl30, nl40, nl50, nl60, nl70, nl12, nl13, nl21, nl23, nl31, nl32]; first | done | exact ⟨rfl, rfl⟩ | rfl)
                | contradiction
                | (simp only [c_7, c_17, c_28, c_46, c_57, c_68, if_true, if_false, and_self, and_true, true_and, not_true_eq_false, not_false_eq_true, and_false, false_and, or_true, true_or, or_false, false_or, or_self, Bool.false_eq_true, reduceCtorEq, nl10, nl20, nl30, nl40, nl50, nl60, nl70, nl12, nl13, nl21, nl23, nl31, nl32]; contradiction)
                | (exfalso; simp_all; done)
                | simp_all
      · have c_28 := bI1 c_28
        refine lv_iconst (v := 1) hx hb dX7_thing_31 (by decide) ?_
        refine lv_goto (tgt := 36) hx hb dX7_thing_32 (by decide) ?_
        refine lv_istore (lv' := [(8, .int 1), (0, .ref (fad E 0)), (1, .int c1), (2, .int f), (3, .int l1), (4, .int n), (5, .int w), (6, .int st), (7, .int a)]) hx hb dX7_thing_36 hl (by decide) rfl (fun ls hl => ?_)
        refine lv_iload hx hb dX7_thing_38 (lv_at hl 6 rfl) ?_
        refine lv_iconst (v := 0) hx hb dX7_thing_40 (by decide) ?_
        refine lv_bipush (v := 99) hx hb dX7_thing_41 (by decide) ?_
        refine f_iS (n := 3) X hP hS [.int w, .int 0, .int 99] [] (c_X7_within l E M L w 0 99) m_2_26 wi_X7_within (by decide +kernel) ⟨Nat.le_of_ble_eq_true rfl, Nat.le_of_ble_eq_true rfl⟩ rfl hl rfl (Nat.le_of_ble_eq_true rfl) ⟨Nat.zero_le _, Nat.zero_le _⟩ dX7_thing_43 (fun H locs hP hS => ?_)
        refine lv_if_eq (tgt := 75) hx hb dX7_thing_46 (by decide) (fun c_46 => ?_) (fun c_46 => ?_)
        · have c_46 := bI0 c_46
          refine lv_iconst (v := 0) hx hb dX7_thing_75 (by decide) ?_
          refine lv_istore (lv' := [(9, .int 0), (8, .int 1), (0, .ref (fad E 0)), (1, .int c1), (2, .int f), (3, .int l1), (4, .int n), (5, .int w), (6, .int st), (7, .int a)]) hx hb dX7_thing_76 hl (by decide) rfl (fun ls hl => ?_)
          refine lv_iload hx hb dX7_thing_78 (lv_at hl 1 rfl) ?_
          refine lv_if_eq (tgt := 95) hx hb dX7_thing_80 (by decide) (fun c_80 => absurd c_80 (by decide)) (fun _ => ?_)
          refine lv_iload hx hb dX7_thing_83 (lv_at hl 0 rfl) ?_
          refine lv_if_eq (tgt := 95) hx hb dX7_thing_85 (by decide) (fun _ => ?_) (fun c_85 => absurd c_85 (by decide))
          refine lv_aload_n hx hb dX7_thing_95 rfl (lv_at hl 2 rfl) ?_
          refine lv_bipush (v := (-6)) hx hb dX7_thing_96 (by decide) ?_
          refine f_iV (n := 1) X hP hS [.int (-6)] [] (c_X7_refuse l E M L (-6)) m_2_29 wi_X7_refuse rfl rfl (by decide) (by decide +kernel) ⟨Nat.le_of_ble_eq_true rfl, Nat.le_of_ble_eq_true rfl⟩ rfl hl rfl (Nat.le_of_ble_eq_true rfl) ⟨Nat.zero_le _, Nat.zero_le _⟩ dX7_thing_98 (fun H locs hP hS => ?_)
          refine f_ir X hlk hr (v := (-6)) rfl hP hS ?_ dX7_thing_101
          unfold a_X7_thing
          (first | rw [if_pos c_7] | rw [if_neg c_7] | rw [if_neg (Bool.eq_false_iff.mp c_7)] | skip)
          (first | rw [if_pos c_17] | rw [if_neg c_17] | rw [if_neg (Bool.eq_false_iff.mp c_17)] | skip)
          (first | rw [if_pos c_28] | rw [if_neg c_28] | rw [if_neg (Bool.eq_false_iff.mp c_28)] | skip)
          (first | rw [if_pos c_46] | rw [if_neg c_46] | rw [if_neg (Bool.eq_false_iff.mp c_46)] | skip)
          (try dsimp only)
          first
            | done
            | exact ⟨rfl, rfl⟩
            | rfl
            | (simp only [c_7, c_17, c_28, c_46, if_true, if_false, and_self, and_true, true_and, not_true_eq_false, not_false_eq_true, and_false, false_and, or_true, true_or, or_false, false_or, or_self, Bool.false_eq_true, reduceCtorEq, nl10, nl20, nl30, nl40, nl50, nl60, nl70, nl12, nl13, nl21, nl23, nl31, nl32]; first | done | exact ⟨rfl, rfl⟩ | rfl)
            | contradiction
            | (simp only [c_7, c_17, c_28, c_46, if_true, if_false, and_self, and_true, true_and, not_true_eq_false, not_false_eq_true, and_false, false_and, or_true, true_or, or_false, false_or, or_self, Bool.false_eq_true, reduceCtorEq, nl10, nl20, nl30, nl40, nl50, nl60, nl70, nl12, nl13, nl21, nl23, nl31, nl32]; contradiction)
            | (exfalso; simp_all; done)
            | simp_all
        · have c_46 := bI1 c_46
          refine lv_iload hx hb dX7_thing_49 (lv_at hl 7 rfl) ?_
          refine lv_iconst (v := 0) hx hb dX7_thing_51 (by decide) ?_
          refine lv_bipush (v := 9) hx hb dX7_thing_52 (by decide) ?_
          refine f_iS (n := 3) X hP hS [.int st, .int 0, .int 9] [] (c_X7_within l E M L st 0 9) m_2_26 wi_X7_within (by decide +kernel) ⟨Nat.le_of_ble_eq_true rfl, Nat.le_of_ble_eq_true rfl⟩ rfl hl rfl (Nat.le_of_ble_eq_true rfl) ⟨Nat.zero_le _, Nat.zero_le _⟩ dX7_thing_54 (fun H locs hP hS => ?_)
          refine lv_if_eq (tgt := 75) hx hb dX7_thing_57 (by decide) (fun c_57 => ?_) (fun c_57 => ?_)
          · have c_57 := bI0 c_57
            refine lv_iconst (v := 0) hx hb dX7_thing_75 (by decide) ?_
            refine lv_istore (lv' := [(9, .int 0), (8, .int 1), (0, .ref (fad E 0)), (1, .int c1), (2, .int f), (3, .int l1), (4, .int n), (5, .int w), (6, .int st), (7, .int a)]) hx hb dX7_thing_76 hl (by decide) rfl (fun ls hl => ?_)
            refine lv_iload hx hb dX7_thing_78 (lv_at hl 1 rfl) ?_
            refine lv_if_eq (tgt := 95) hx hb dX7_thing_80 (by decide) (fun c_80 => absurd c_80 (by decide)) (fun _ => ?_)
            refine lv_iload hx hb dX7_thing_83 (lv_at hl 0 rfl) ?_
            refine lv_if_eq (tgt := 95) hx hb dX7_thing_85 (by decide) (fun _ => ?_) (fun c_85 => absurd c_85 (by decide))
            refine lv_aload_n hx hb dX7_thing_95 rfl (lv_at hl 2 rfl) ?_
            refine lv_bipush (v := (-6)) hx hb dX7_thing_96 (by decide) ?_
            refine f_iV (n := 1) X hP hS [.int (-6)] [] (c_X7_refuse l E M L (-6)) m_2_29 wi_X7_refuse rfl rfl (by decide) (by decide +kernel) ⟨Nat.le_of_ble_eq_true rfl, Nat.le_of_ble_eq_true rfl⟩ rfl hl rfl (Nat.le_of_ble_eq_true rfl) ⟨Nat.zero_le _, Nat.zero_le _⟩ dX7_thing_98 (fun H locs hP hS => ?_)
            refine f_ir X hlk hr (v := (-6)) rfl hP hS ?_ dX7_thing_101
            unfold a_X7_thing
            (first | rw [if_pos c_7] | rw [if_neg c_7] | rw [if_neg (Bool.eq_false_iff.mp c_7)] | skip)
            (first | rw [if_pos c_17] | rw [if_neg c_17] | rw [if_neg (Bool.eq_false_iff.mp c_17)] | skip)
            (first | rw [if_pos c_28] | rw [if_neg c_28] | rw [if_neg (Bool.eq_false_iff.mp c_28)] | skip)
            (first | rw [if_pos c_46] | rw [if_neg c_46] | rw [if_neg (Bool.eq_false_iff.mp c_46)] | skip)
            (first | rw [if_pos c_57] | rw [if_neg c_57] | rw [if_neg (Bool.eq_false_iff.mp c_57)] | skip)
            (try dsimp only)
            first
              | done
              | exact ⟨rfl, rfl⟩
              | rfl
              | (simp only [c_7, c_17, c_28, c_46, c_57, if_true, if_false, and_self, and_true, true_and, not_true_eq_false, not_false_eq_true, and_false, false_and, or_true, true_or, or_false, false_or, or_self, Bool.false_eq_true, reduceCtorEq, nl10, nl20, nl30, nl40, nl50, nl60, nl70, nl12, nl13, nl21, nl23, nl31, nl32]; first | done | exact ⟨rfl, rfl⟩ | rfl)
              | contradiction
              | (simp only [c_7, c_17, c_28, c_46, c_57, if_true, if_false, and_self, and_true, true_and, not_true_eq_false, not_false_eq_true, and_false, false_and, or_true, true_or, or_false, false_or, or_self, Bool.false_eq_true, reduceCtorEq, nl10, nl20, nl30, nl40, nl50, nl60, nl70, nl12, nl13, nl21, nl23, nl31, nl32]; contradiction)
              | (exfalso; simp_all; done)
              | simp_all
          · have c_57 := bI1 c_57
            refine lv_iload hx hb dX7_thing_60 (lv_at hl 8 rfl) ?_
            refine lv_iconst (v := 0) hx hb dX7_thing_62 (by decide) ?_
            refine lv_bipush (v := 20) hx hb dX7_thing_63 (by decide) ?_
            refine f_iS (n := 3) X hP hS [.int a, .int 0, .int 20] [] (c_X7_within l E M L a 0 20) m_2_26 wi_X7_within (by decide +kernel) ⟨Nat.le_of_ble_eq_true rfl, Nat.le_of_ble_eq_true rfl⟩ rfl hl rfl (Nat.le_of_ble_eq_true rfl) ⟨Nat.zero_le _, Nat.zero_le _⟩ dX7_thing_65 (fun H locs hP hS => ?_)
            refine lv_if_eq (tgt := 75) hx hb dX7_thing_68 (by decide) (fun c_68 => ?_) (fun c_68 => ?_)
            · have c_68 := bI0 c_68
              refine lv_iconst (v := 0) hx hb dX7_thing_75 (by decide) ?_
              refine lv_istore (lv' := [(9, .int 0), (8, .int 1), (0, .ref (fad E 0)), (1, .int c1), (2, .int f), (3, .int l1), (4, .int n), (5, .int w), (6, .int st), (7, .int a)]) hx hb dX7_thing_76 hl (by decide) rfl (fun ls hl => ?_)
              refine lv_iload hx hb dX7_thing_78 (lv_at hl 1 rfl) ?_
              refine lv_if_eq (tgt := 95) hx hb dX7_thing_80 (by decide) (fun c_80 => absurd c_80 (by decide)) (fun _ => ?_)
              refine lv_iload hx hb dX7_thing_83 (lv_at hl 0 rfl) ?_
              refine lv_if_eq (tgt := 95) hx hb dX7_thing_85 (by decide) (fun _ => ?_) (fun c_85 => absurd c_85 (by decide))
              refine lv_aload_n hx hb dX7_thing_95 rfl (lv_at hl 2 rfl) ?_
              refine lv_bipush (v := (-6)) hx hb dX7_thing_96 (by decide) ?_
              refine f_iV (n := 1) X hP hS [.int (-6)] [] (c_X7_refuse l E M L (-6)) m_2_29 wi_X7_refuse rfl rfl (by decide) (by decide +kernel) ⟨Nat.le_of_ble_eq_true rfl, Nat.le_of_ble_eq_true rfl⟩ rfl hl rfl (Nat.le_of_ble_eq_true rfl) ⟨Nat.zero_le _, Nat.zero_le _⟩ dX7_thing_98 (fun H locs hP hS => ?_)
              refine f_ir X hlk hr (v := (-6)) rfl hP hS ?_ dX7_thing_101
              unfold a_X7_thing
              (first | rw [if_pos c_7] | rw [if_neg c_7] | rw [if_neg (Bool.eq_false_iff.mp c_7)] | skip)
              (first | rw [if_pos c_17] | rw [if_neg c_17] | rw [if_neg (Bool.eq_false_iff.mp c_17)] | skip)
              (first | rw [if_pos c_28] | rw [if_neg c_28] | rw [if_neg (Bool.eq_false_iff.mp c_28)] | skip)
              (first | rw [if_pos c_46] | rw [if_neg c_46] | rw [if_neg (Bool.eq_false_iff.mp c_46)] | skip)
              (first | rw [if_pos c_57] | rw [if_neg c_57] | rw [if_neg (Bool.eq_false_iff.mp c_57)] | skip)
              (first | rw [if_pos c_68] | rw [if_neg c_68] | rw [if_neg (Bool.eq_false_iff.mp c_68)] | skip)
              (try dsimp only)
              first
                | done
                | exact ⟨rfl, rfl⟩
                | rfl
                | (simp only [c_7, c_17, c_28, c_46, c_57, c_68, if_true, if_false, and_self, and_true, true_and, not_true_eq_false, not_false_eq_true, and_false, false_and, or_true, true_or, or_false, false_or, or_self, Bool.false_eq_true, reduceCtorEq, nl10, nl20, nl30, nl40, nl50, nl60, nl70, nl12, nl13, nl21, nl23, nl31, nl32]; first | done | exact ⟨rfl, rfl⟩ | rfl)
                | contradiction
                | (simp only [c_7, c_17, c_28, c_46, c_57, c_68, if_true, if_false, and_self, and_true, true_and, not_true_eq_false, not_false_eq_true, and_false, false_and, or_true, true_or, or_false, false_or, or_self, Bool.false_eq_true, reduceCtorEq, nl10, nl20, nl30, nl40, nl50, nl60, nl70, nl12, nl13, nl21, nl23, nl31, nl32]; contradiction)
                | (exfalso; simp_all; done)
                | simp_all
            · have c_68 := bI1 c_68
              refine lv_iconst (v := 1) hx hb dX7_thing_71 (by decide) ?_
              refine lv_goto (tgt := 76) hx hb dX7_thing_72 (by decide) ?_
              refine lv_istore (lv' := [(9, .int 1), (8, .int 1), (0, .ref (fad E 0)), (1, .int c1), (2, .int f), (3, .int l1), (4, .int n), (5, .int w), (6, .int st), (7, .int a)]) hx hb dX7_thing_76 hl (by decide) rfl (fun ls hl => ?_)
              refine lv_iload hx hb dX7_thing_78 (lv_at hl 1 rfl) ?_
              refine lv_if_eq (tgt := 95) hx hb dX7_thing_80 (by decide) (fun c_80 => absurd c_80 (by decide)) (fun _ => ?_)
              refine lv_iload hx hb dX7_thing_83 (lv_at hl 0 rfl) ?_
              refine lv_if_eq (tgt := 95) hx hb dX7_thing_85 (by decide) (fun c_85 => absurd c_85 (by decide)) (fun _ => ?_)
              refine lv_iload_n hx hb dX7_thing_88 rfl (lv_at hl 3 rfl) ?_
              refine f_iS (n := 1) X hP hS [.int c1] [] (c_X7_isCorner l E M L c1) m_2_121 wi_X7_isCorner (by decide +kernel) ⟨Nat.le_of_ble_eq_true rfl, Nat.le_of_ble_eq_true rfl⟩ rfl hl rfl (Nat.le_of_ble_eq_true rfl) ⟨Nat.zero_le _, Nat.zero_le _⟩ dX7_thing_89 (fun H locs hP hS => ?_)
              refine lv_if_ne (tgt := 102) hx hb dX7_thing_92 (by decide) (fun c_92 => ?_) (fun c_92 => ?_)
              · have c_92 := bI1 c_92
                refine lv_aload_n hx hb dX7_thing_102 rfl (lv_at hl 2 rfl) ?_
                refine f_get X hP (T := TX7) (ci := 7) (k := 0) rfl inX7 rfl 1 (by decide) m_1_232 rfl (v := .ref (fad E 18)) rfl dX7_thing_103 ?_
                refine f_iV (n := 0) X hP hS [] [] (c_X1_hasRoomForThing l E M L 18 rfl) m_2_124 wi_X1_hasRoomForThing rfl rfl (by decide) (by decide +kernel) ⟨Nat.le_of_ble_eq_true rfl, Nat.le_of_ble_eq_true rfl⟩ rfl hl rfl (Nat.le_of_ble_eq_true rfl) ⟨Nat.zero_le _, Nat.zero_le _⟩ dX7_thing_106 (fun H locs hP hS => ?_)
                refine lv_if_ne (tgt := 119) hx hb dX7_thing_109 (by decide) (fun c_109 => ?_) (fun c_109 => ?_)
                · have c_109 := bI1 c_109
                  refine lv_aload_n hx hb dX7_thing_119 rfl (lv_at hl 2 rfl) ?_
                  refine f_get X hP (T := TX7) (ci := 7) (k := 0) rfl inX7 rfl 1 (by decide) m_1_232 rfl (v := .ref (fad E 18)) rfl dX7_thing_120 ?_
                  refine lv_iload_n hx hb dX7_thing_123 rfl (lv_at hl 3 rfl) ?_
                  refine lv_iload_n hx hb dX7_thing_124 rfl (lv_at hl 4 rfl) ?_
                  refine lv_iload_n hx hb dX7_thing_125 rfl (lv_at hl 5 rfl) ?_
                  refine lv_iload hx hb dX7_thing_126 (lv_at hl 6 rfl) ?_
                  refine lv_iload hx hb dX7_thing_128 (lv_at hl 7 rfl) ?_
                  refine lv_iload hx hb dX7_thing_130 (lv_at hl 8 rfl) ?_
                  refine lv_iload hx hb dX7_thing_132 (lv_at hl 9 rfl) ?_
                  refine f_iV (n := 7) X hP hS [.int c1, .int f, .int l1, .int n, .int w, .int st, .int a] [] (c_X1_addThing l E M L 18 c1 f l1 n w st a tc rfl htc htc8) m_2_128 wi_X1_addThing rfl rfl (by decide) (by decide +kernel) ⟨Nat.le_of_ble_eq_true rfl, Nat.le_of_ble_eq_true rfl⟩ rfl hl rfl (Nat.le_of_ble_eq_true rfl) ⟨Nat.zero_le _, Nat.zero_le _⟩ dX7_thing_134 (fun H locs hP hS => ?_)
                  refine f_ir X hlk hr (v := (if tc < 8 then nI tc else -1)) rfl hP hS ?_ dX7_thing_137
                  unfold a_X7_thing
                  (first | rw [if_pos c_7] | rw [if_neg c_7] | rw [if_neg (Bool.eq_false_iff.mp c_7)] | skip)
                  (first | rw [if_pos c_17] | rw [if_neg c_17] | rw [if_neg (Bool.eq_false_iff.mp c_17)] | skip)
                  (first | rw [if_pos c_28] | rw [if_neg c_28] | rw [if_neg (Bool.eq_false_iff.mp c_28)] | skip)
                  (first | rw [if_pos c_46] | rw [if_neg c_46] | rw [if_neg (Bool.eq_false_iff.mp c_46)] | skip)
                  (first | rw [if_pos c_57] | rw [if_neg c_57] | rw [if_neg (Bool.eq_false_iff.mp c_57)] | skip)
                  (first | rw [if_pos c_68] | rw [if_neg c_68] | rw [if_neg (Bool.eq_false_iff.mp c_68)] | skip)
                  (first | rw [if_pos c_92] | rw [if_neg c_92] | rw [if_neg (Bool.eq_false_iff.mp c_92)] | skip)
                  (first | rw [if_pos c_109] | rw [if_neg c_109] | rw [if_neg (Bool.eq_false_iff.mp c_109)] | skip)
                  (try dsimp only)
                  first
                    | done
                    | exact ⟨rfl, rfl⟩
                    | rfl
                    | (simp only [c_7, c_17, c_28, c_46, c_57, c_68, c_92, c_109, if_true, if_false, and_self, and_true, true_and, not_true_eq_false, not_false_eq_true, and_false, false_and, or_true, true_or, or_false, false_or, or_self, Bool.false_eq_true, reduceCtorEq, nl10, nl20, nl30, nl40, nl50, nl60, nl70, nl12, nl13, nl21, nl23, nl31, nl32]; first | done | exact ⟨rfl, rfl⟩ | rfl)
                    | contradiction
                    | (simp only [c_7, c_17, c_28, c_46, c_57, c_68, c_92, c_109, if_true, if_false, and_self, and_true, true_and, not_true_eq_false, not_false_eq_true, and_false, false_and, or_true, true_or, or_false, false_or, or_self, Bool.false_eq_true, reduceCtorEq, nl10, nl20, nl30, nl40, nl50, nl60, nl70, nl12, nl13, nl21, nl23, nl31, nl32]; contradiction)
                    | (exfalso; simp_all; done)
                    | simp_all
                · have c_109 := bI0 c_109
                  refine lv_aload_n hx hb dX7_thing_112 rfl (lv_at hl 2 rfl) ?_
                  refine lv_bipush (v := (-7)) hx hb dX7_thing_113 (by decide) ?_
                  refine f_iV (n := 1) X hP hS [.int (-7)] [] (c_X7_refuse l E M L (-7)) m_2_29 wi_X7_refuse rfl rfl (by decide) (by decide +kernel) ⟨Nat.le_of_ble_eq_true rfl, Nat.le_of_ble_eq_true rfl⟩ rfl hl rfl (Nat.le_of_ble_eq_true rfl) ⟨Nat.zero_le _, Nat.zero_le _⟩ dX7_thing_115 (fun H locs hP hS => ?_)
                  refine f_ir X hlk hr (v := (-7)) rfl hP hS ?_ dX7_thing_118
                  unfold a_X7_thing
                  (first | rw [if_pos c_7] | rw [if_neg c_7] | rw [if_neg (Bool.eq_false_iff.mp c_7)] | skip)
                  (first | rw [if_pos c_17] | rw [if_neg c_17] | rw [if_neg (Bool.eq_false_iff.mp c_17)] | skip)
                  (first | rw [if_pos c_28] | rw [if_neg c_28] | rw [if_neg (Bool.eq_false_iff.mp c_28)] | skip)
                  (first | rw [if_pos c_46] | rw [if_neg c_46] | rw [if_neg (Bool.eq_false_iff.mp c_46)] | skip)
                  (first | rw [if_pos c_57] | rw [if_neg c_57] | rw [if_neg (Bool.eq_false_iff.mp c_57)] | skip)
                  (first | rw [if_pos c_68] | rw [if_neg c_68] | rw [if_neg (Bool.eq_false_iff.mp c_68)] | skip)
                  (first | rw [if_pos c_92] | rw [if_neg c_92] | rw [if_neg (Bool.eq_false_iff.mp c_92)] | skip)
                  (first | rw [if_pos c_109] | rw [if_neg c_109] | rw [if_neg (Bool.eq_false_iff.mp c_109)] | skip)
                  (try dsimp only)
                  first
                    | done
                    | exact ⟨rfl, rfl⟩
                    | rfl
                    | (simp only [c_7, c_17, c_28, c_46, c_57, c_68, c_92, c_109, if_true, if_false, and_self, and_true, true_and, not_true_eq_false, not_false_eq_true, and_false, false_and, or_true, true_or, or_false, false_or, or_self, Bool.false_eq_true, reduceCtorEq, nl10, nl20, nl30, nl40, nl50, nl60, nl70, nl12, nl13, nl21, nl23, nl31, nl32]; first | done | exact ⟨rfl, rfl⟩ | rfl)
                    | contradiction
                    | (simp only [c_7, c_17, c_28, c_46, c_57, c_68, c_92, c_109, if_true, if_false, and_self, and_true, true_and, not_true_eq_false, not_false_eq_true, and_false, false_and, or_true, true_or, or_false, false_or, or_self, Bool.false_eq_true, reduceCtorEq, nl10, nl20, nl30, nl40, nl50, nl60, nl70, nl12, nl13, nl21, nl23, nl31, nl32]; contradiction)
                    | (exfalso; simp_all; done)
                    | simp_all
              · have c_92 := bI0 c_92
                refine lv_aload_n hx hb dX7_thing_95 rfl (lv_at hl 2 rfl) ?_
                refine lv_bipush (v := (-6)) hx hb dX7_thing_96 (by decide) ?_
                refine f_iV (n := 1) X hP hS [.int (-6)] [] (c_X7_refuse l E M L (-6)) m_2_29 wi_X7_refuse rfl rfl (by decide) (by decide +kernel) ⟨Nat.le_of_ble_eq_true rfl, Nat.le_of_ble_eq_true rfl⟩ rfl hl rfl (Nat.le_of_ble_eq_true rfl) ⟨Nat.zero_le _, Nat.zero_le _⟩ dX7_thing_98 (fun H locs hP hS => ?_)
                refine f_ir X hlk hr (v := (-6)) rfl hP hS ?_ dX7_thing_101
                unfold a_X7_thing
                (first | rw [if_pos c_7] | rw [if_neg c_7] | rw [if_neg (Bool.eq_false_iff.mp c_7)] | skip)
                (first | rw [if_pos c_17] | rw [if_neg c_17] | rw [if_neg (Bool.eq_false_iff.mp c_17)] | skip)
                (first | rw [if_pos c_28] | rw [if_neg c_28] | rw [if_neg (Bool.eq_false_iff.mp c_28)] | skip)
                (first | rw [if_pos c_46] | rw [if_neg c_46] | rw [if_neg (Bool.eq_false_iff.mp c_46)] | skip)
                (first | rw [if_pos c_57] | rw [if_neg c_57] | rw [if_neg (Bool.eq_false_iff.mp c_57)] | skip)
                (first | rw [if_pos c_68] | rw [if_neg c_68] | rw [if_neg (Bool.eq_false_iff.mp c_68)] | skip)
                (first | rw [if_pos c_92] | rw [if_neg c_92] | rw [if_neg (Bool.eq_false_iff.mp c_92)] | skip)
                (try dsimp only)
                first
                  | done
                  | exact ⟨rfl, rfl⟩
                  | rfl
                  | (simp only [c_7, c_17, c_28, c_46, c_57, c_68, c_92, if_true, if_false, and_self, and_true, true_and, not_true_eq_false, not_false_eq_true, and_false, false_and, or_true, true_or, or_false, false_or, or_self, Bool.false_eq_true, reduceCtorEq, nl10, nl20, nl30, nl40, nl50, nl60, nl70, nl12, nl13, nl21, nl23, nl31, nl32]; first | done | exact ⟨rfl, rfl⟩ | rfl)
                  | contradiction
                  | (simp only [c_7, c_17, c_28, c_46, c_57, c_68, c_92, if_true, if_false, and_self, and_true, true_and, not_true_eq_false, not_false_eq_true, and_false, false_and, or_true, true_or, or_false, false_or, or_self, Bool.false_eq_true, reduceCtorEq, nl10, nl20, nl30, nl40, nl50, nl60, nl70, nl12, nl13, nl21, nl23, nl31, nl32]; contradiction)
                  | (exfalso; simp_all; done)
                  | simp_all

def a_X7_waiter (M : Nat → Nat → Int32) (L : Nat → Nat → Int64) (k : Int32) (a : Int32) (p : Int32) (q : Int32) (c1 : Int32) (wc : Nat) : fR := (if (0 ≤ k ∧ k ≤ 6) then (if (0 ≤ a ∧ a ≤ 9) then (if (1 ≤ p ∧ p ≤ 9) then (if (1 ≤ q ∧ q ≤ 24) then (if (0 ≤ c1 ∧ c1 ≤ 9) then (if ((M 18 4) < 6) then ((if wc < 6 then nI wc else -1), (if wc < 6 then addW M 18 wc k a p q c1 else M), L) else ((-7), (rfM M (-7)), L)) else ((-6), (rfM M (-6)), L)) else ((-6), (rfM M (-6)), L)) else ((-6), (rfM M (-6)), L)) else ((-6), (rfM M (-6)), L)) else ((-1), (rfM M (-1)), L))
set_option maxHeartbeats 1000000 in
set_option maxRecDepth 100000 in
theorem c_X7_waiter (l : Launch) (E : fE) (M : Nat → Nat → Int32) (L : Nat → Nat → Int64) (k : Int32) (a : Int32) (p : Int32) (q : Int32) (c1 : Int32) (wc : Nat) (hwc : M 18 4 = nI wc) (hwc6 : wc ≤ 6) : Met l yX7_waiter (wl yX7_waiter cX7_waiter 7 (some .int)) (fRm 2 46) (va_Pc [.ref (fad E 0), .int k, .int a, .int p, .int q, .int c1] (fPre E M L)) (fQi E (fun r u => u = ((a_X7_waiter M L k a p q c1 wc).2.1, (a_X7_waiter M L k a p q c1 wc).2.2) ∧ r = (a_X7_waiter M L k a p q c1 wc).1)) 0 0 (fA E) := by
  refine f_head (by decide) (Nat.le_of_ble_eq_true rfl) ?_
  intro pg ev s mi below meth cd ls X hr hlk hP hS hl
  have hx := X.1.1
  have hb := X.1.2.1
  have hl : lv_has ls 7 [(0, .ref (fad E 0)), (1, .int k), (2, .int a), (3, .int p), (4, .int q), (5, .int c1)] := hl
  refine lv_iload_n hx hb dX7_waiter_0 rfl (lv_at hl 1 rfl) ?_
  refine f_iS (n := 1) X hP hS [.int k] [] (c_X7_isKind l E M L k) m_2_105 wi_X7_isKind (by decide +kernel) ⟨Nat.le_of_ble_eq_true rfl, Nat.le_of_ble_eq_true rfl⟩ rfl hl rfl (Nat.le_of_ble_eq_true rfl) ⟨Nat.zero_le _, Nat.zero_le _⟩ dX7_waiter_1 (fun H locs hP hS => ?_)
  refine lv_if_ne (tgt := 13) hx hb dX7_waiter_4 (by decide) (fun c_4 => ?_) (fun c_4 => ?_)
  · have c_4 := bI1 c_4
    refine lv_iload_n hx hb dX7_waiter_13 rfl (lv_at hl 2 rfl) ?_
    refine lv_iconst (v := 0) hx hb dX7_waiter_14 (by decide) ?_
    refine lv_bipush (v := 9) hx hb dX7_waiter_15 (by decide) ?_
    refine f_iS (n := 3) X hP hS [.int a, .int 0, .int 9] [] (c_X7_within l E M L a 0 9) m_2_26 wi_X7_within (by decide +kernel) ⟨Nat.le_of_ble_eq_true rfl, Nat.le_of_ble_eq_true rfl⟩ rfl hl rfl (Nat.le_of_ble_eq_true rfl) ⟨Nat.zero_le _, Nat.zero_le _⟩ dX7_waiter_17 (fun H locs hP hS => ?_)
    refine lv_if_eq (tgt := 56) hx hb dX7_waiter_20 (by decide) (fun c_20 => ?_) (fun c_20 => ?_)
    · have c_20 := bI0 c_20
      refine lv_iconst (v := 0) hx hb dX7_waiter_56 (by decide) ?_
      refine lv_istore (lv' := [(6, .int 0), (0, .ref (fad E 0)), (1, .int k), (2, .int a), (3, .int p), (4, .int q), (5, .int c1)]) hx hb dX7_waiter_57 hl (by decide) rfl (fun ls hl => ?_)
      refine lv_iload hx hb dX7_waiter_59 (lv_at hl 0 rfl) ?_
      refine lv_if_ne (tgt := 71) hx hb dX7_waiter_61 (by decide) (fun c_61 => absurd c_61 (by decide)) (fun _ => ?_)
      refine lv_aload_n hx hb dX7_waiter_64 rfl (lv_at hl 1 rfl) ?_
      refine lv_bipush (v := (-6)) hx hb dX7_waiter_65 (by decide) ?_
      refine f_iV (n := 1) X hP hS [.int (-6)] [] (c_X7_refuse l E M L (-6)) m_2_29 wi_X7_refuse rfl rfl (by decide) (by decide +kernel) ⟨Nat.le_of_ble_eq_true rfl, Nat.le_of_ble_eq_true rfl⟩ rfl hl rfl (Nat.le_of_ble_eq_true rfl) ⟨Nat.zero_le _, Nat.zero_le _⟩ dX7_waiter_67 (fun H locs hP hS => ?_)
      refine f_ir X hlk hr (v := (-6)) rfl hP hS ?_ dX7_waiter_70
      unfold a_X7_waiter
      (first | rw [if_pos c_4] | rw [if_neg c_4] | rw [if_neg (Bool.eq_false_iff.mp c_4)] | skip)
      (first | rw [if_pos c_20] | rw [if_neg c_20] | rw [if_neg (Bool.eq_false_iff.mp c_20)] | skip)
      (try dsimp only)
      first
        | done
        | exact ⟨rfl, rfl⟩
        | rfl
        | (simp only [c_4, c_20, if_true, if_false, and_self, and_true, true_and, not_true_eq_false, not_false_eq_true, and_false, false_and, or_true, true_or, or_false, false_or, or_self, Bool.false_eq_true, reduceCtorEq, nl10, nl20, nl30, nl40, nl50, nl60, nl70, nl12, nl13, nl21, nl23, nl31, nl32]; first | done | exact ⟨rfl, rfl⟩ | rfl)
        | contradiction
        | (simp only [c_4, c_20, if_true, if_false, and_self, and_true, true_and, not_true_eq_false, not_false_eq_true, and_false, false_and, or_true, true_or, or_false, false_or, or_self, Bool.false_eq_true, reduceCtorEq, nl10, nl20, nl30, nl40, nl50, nl60, nl70, nl12, nl13, nl21, nl23, nl31, nl32]; contradiction)
        | (exfalso; simp_all; done)
        | simp_all
    · have c_20 := bI1 c_20
      refine lv_iload_n hx hb dX7_waiter_23 rfl (lv_at hl 3 rfl) ?_
      refine lv_iconst (v := 1) hx hb dX7_waiter_24 (by decide) ?_
      refine lv_bipush (v := 9) hx hb dX7_waiter_25 (by decide) ?_
      refine f_iS (n := 3) X hP hS [.int p, .int 1, .int 9] [] (c_X7_within l E M L p 1 9) m_2_26 wi_X7_within (by decide +kernel) ⟨Nat.le_of_ble_eq_true rfl, Nat.le_of_ble_eq_true rfl⟩ rfl hl rfl (Nat.le_of_ble_eq_true rfl) ⟨Nat.zero_le _, Nat.zero_le _⟩ dX7_waiter_27 (fun H locs hP hS => ?_)
      refine lv_if_eq (tgt := 56) hx hb dX7_waiter_30 (by decide) (fun c_30 => ?_) (fun c_30 => ?_)
      · have c_30 := bI0 c_30
        refine lv_iconst (v := 0) hx hb dX7_waiter_56 (by decide) ?_
        refine lv_istore (lv' := [(6, .int 0), (0, .ref (fad E 0)), (1, .int k), (2, .int a), (3, .int p), (4, .int q), (5, .int c1)]) hx hb dX7_waiter_57 hl (by decide) rfl (fun ls hl => ?_)
        refine lv_iload hx hb dX7_waiter_59 (lv_at hl 0 rfl) ?_
        refine lv_if_ne (tgt := 71) hx hb dX7_waiter_61 (by decide) (fun c_61 => absurd c_61 (by decide)) (fun _ => ?_)
        refine lv_aload_n hx hb dX7_waiter_64 rfl (lv_at hl 1 rfl) ?_
        refine lv_bipush (v := (-6)) hx hb dX7_waiter_65 (by decide) ?_
        refine f_iV (n := 1) X hP hS [.int (-6)] [] (c_X7_refuse l E M L (-6)) m_2_29 wi_X7_refuse rfl rfl (by decide) (by decide +kernel) ⟨Nat.le_of_ble_eq_true rfl, Nat.le_of_ble_eq_true rfl⟩ rfl hl rfl (Nat.le_of_ble_eq_true rfl) ⟨Nat.zero_le _, Nat.zero_le _⟩ dX7_waiter_67 (fun H locs hP hS => ?_)
        refine f_ir X hlk hr (v := (-6)) rfl hP hS ?_ dX7_waiter_70
        unfold a_X7_waiter
        (first | rw [if_pos c_4] | rw [if_neg c_4] | rw [if_neg (Bool.eq_false_iff.mp c_4)] | skip)
        (first | rw [if_pos c_20] | rw [if_neg c_20] | rw [if_neg (Bool.eq_false_iff.mp c_20)] | skip)
        (first | rw [if_pos c_30] | rw [if_neg c_30] | rw [if_neg (Bool.eq_false_iff.mp c_30)] | skip)
        (try dsimp only)
        first
          | done
          | exact ⟨rfl, rfl⟩
          | rfl
          | (simp only [c_4, c_20, c_30, if_true, if_false, and_self, and_true, true_and, not_true_eq_false, not_false_eq_true, and_false, false_and, or_true, true_or, or_false, false_or, or_self, Bool.false_eq_true, reduceCtorEq, nl10, nl20, nl30, nl40, nl50, nl60, nl70, nl12, nl13, nl21, nl23, nl31, nl32]; first | done | exact ⟨rfl, rfl⟩ | rfl)
          | contradiction
          | (simp only [c_4, c_20, c_30, if_true, if_false, and_self, and_true, true_and, not_true_eq_false, not_false_eq_true, and_false, false_and, or_true, true_or, or_false, false_or, or_self, Bool.false_eq_true, reduceCtorEq, nl10, nl20, nl30, nl40, nl50, nl60, nl70, nl12, nl13, nl21, nl23, nl31, nl32]; contradiction)
          | (exfalso; simp_all; done)
          | simp_all
      · have c_30 := bI1 c_30
        refine lv_iload hx hb dX7_waiter_33 (lv_at hl 4 rfl) ?_
        refine lv_iconst (v := 1) hx hb dX7_waiter_35 (by decide) ?_
        refine lv_bipush (v := 24) hx hb dX7_waiter_36 (by decide) ?_
        refine f_iS (n := 3) X hP hS [.int q, .int 1, .int 24] [] (c_X7_within l E M L q 1 24) m_2_26 wi_X7_within (by decide +kernel) ⟨Nat.le_of_ble_eq_true rfl, Nat.le_of_ble_eq_true rfl⟩ rfl hl rfl (Nat.le_of_ble_eq_true rfl) ⟨Nat.zero_le _, Nat.zero_le _⟩ dX7_waiter_38 (fun H locs hP hS => ?_)
        refine lv_if_eq (tgt := 56) hx hb dX7_waiter_41 (by decide) (fun c_41 => ?_) (fun c_41 => ?_)
        · have c_41 := bI0 c_41
          refine lv_iconst (v := 0) hx hb dX7_waiter_56 (by decide) ?_
          refine lv_istore (lv' := [(6, .int 0), (0, .ref (fad E 0)), (1, .int k), (2, .int a), (3, .int p), (4, .int q), (5, .int c1)]) hx hb dX7_waiter_57 hl (by decide) rfl (fun ls hl => ?_)
          refine lv_iload hx hb dX7_waiter_59 (lv_at hl 0 rfl) ?_
          refine lv_if_ne (tgt := 71) hx hb dX7_waiter_61 (by decide) (fun c_61 => absurd c_61 (by decide)) (fun _ => ?_)
          refine lv_aload_n hx hb dX7_waiter_64 rfl (lv_at hl 1 rfl) ?_
          refine lv_bipush (v := (-6)) hx hb dX7_waiter_65 (by decide) ?_
          refine f_iV (n := 1) X hP hS [.int (-6)] [] (c_X7_refuse l E M L (-6)) m_2_29 wi_X7_refuse rfl rfl (by decide) (by decide +kernel) ⟨Nat.le_of_ble_eq_true rfl, Nat.le_of_ble_eq_true rfl⟩ rfl hl rfl (Nat.le_of_ble_eq_true rfl) ⟨Nat.zero_le _, Nat.zero_le _⟩ dX7_waiter_67 (fun H locs hP hS => ?_)
          refine f_ir X hlk hr (v := (-6)) rfl hP hS ?_ dX7_waiter_70
          unfold a_X7_waiter
          (first | rw [if_pos c_4] | rw [if_neg c_4] | rw [if_neg (Bool.eq_false_iff.mp c_4)] | skip)
          (first | rw [if_pos c_20] | rw [if_neg c_20] | rw [if_neg (Bool.eq_false_iff.mp c_20)] | skip)
          (first | rw [if_pos c_30] | rw [if_neg c_30] | rw [if_neg (Bool.eq_false_iff.mp c_30)] | skip)
          (first | rw [if_pos c_41] | rw [if_neg c_41] | rw [if_neg (Bool.eq_false_iff.mp c_41)] | skip)
          (try dsimp only)
          first
            | done
            | exact ⟨rfl, rfl⟩
            | rfl
            | (simp only [c_4, c_20, c_30, c_41, if_true, if_false, and_self, and_true, true_and, not_true_eq_false, not_false_eq_true, and_false, false_and, or_true, true_or, or_false, false_or, or_self, Bool.false_eq_true, reduceCtorEq, nl10, nl20, nl30, nl40, nl50, nl60, nl70, nl12, nl13, nl21, nl23, nl31, nl32]; first | done | exact ⟨rfl, rfl⟩ | rfl)
            | contradiction
            | (simp only [c_4, c_20, c_30, c_41, if_true, if_false, and_self, and_true, true_and, not_true_eq_false, not_false_eq_true, and_false, false_and, or_true, true_or, or_false, false_or, or_self, Bool.false_eq_true, reduceCtorEq, nl10, nl20, nl30, nl40, nl50, nl60, nl70, nl12, nl13, nl21, nl23, nl31, nl32]; contradiction)
            | (exfalso; simp_all; done)
            | simp_all
        · have c_41 := bI1 c_41
          refine lv_iload hx hb dX7_waiter_44 (lv_at hl 5 rfl) ?_
          refine f_iS (n := 1) X hP hS [.int c1] [] (c_X7_isCorner l E M L c1) m_2_121 wi_X7_isCorner (by decide +kernel) ⟨Nat.le_of_ble_eq_true rfl, Nat.le_of_ble_eq_true rfl⟩ rfl hl rfl (Nat.le_of_ble_eq_true rfl) ⟨Nat.zero_le _, Nat.zero_le _⟩ dX7_waiter_46 (fun H locs hP hS => ?_)
          refine lv_if_eq (tgt := 56) hx hb dX7_waiter_49 (by decide) (fun c_49 => ?_) (fun c_49 => ?_)
          · have c_49 := bI0 c_49
            refine lv_iconst (v := 0) hx hb dX7_waiter_56 (by decide) ?_
            refine lv_istore (lv' := [(6, .int 0), (0, .ref (fad E 0)), (1, .int k), (2, .int a), (3, .int p), (4, .int q), (5, .int c1)]) hx hb dX7_waiter_57 hl (by decide) rfl (fun ls hl => ?_)
            refine lv_iload hx hb dX7_waiter_59 (lv_at hl 0 rfl) ?_
            refine lv_if_ne (tgt := 71) hx hb dX7_waiter_61 (by decide) (fun c_61 => absurd c_61 (by decide)) (fun _ => ?_)
            refine lv_aload_n hx hb dX7_waiter_64 rfl (lv_at hl 1 rfl) ?_
            refine lv_bipush (v := (-6)) hx hb dX7_waiter_65 (by decide) ?_
            refine f_iV (n := 1) X hP hS [.int (-6)] [] (c_X7_refuse l E M L (-6)) m_2_29 wi_X7_refuse rfl rfl (by decide) (by decide +kernel) ⟨Nat.le_of_ble_eq_true rfl, Nat.le_of_ble_eq_true rfl⟩ rfl hl rfl (Nat.le_of_ble_eq_true rfl) ⟨Nat.zero_le _, Nat.zero_le _⟩ dX7_waiter_67 (fun H locs hP hS => ?_)
            refine f_ir X hlk hr (v := (-6)) rfl hP hS ?_ dX7_waiter_70
            unfold a_X7_waiter
            (first | rw [if_pos c_4] | rw [if_neg c_4] | rw [if_neg (Bool.eq_false_iff.mp c_4)] | skip)
            (first | rw [if_pos c_20] | rw [if_neg c_20] | rw [if_neg (Bool.eq_false_iff.mp c_20)] | skip)
            (first | rw [if_pos c_30] | rw [if_neg c_30] | rw [if_neg (Bool.eq_false_iff.mp c_30)] | skip)
            (first | rw [if_pos c_41] | rw [if_neg c_41] | rw [if_neg (Bool.eq_false_iff.mp c_41)] | skip)
            (first | rw [if_pos c_49] | rw [if_neg c_49] | rw [if_neg (Bool.eq_false_iff.mp c_49)] | skip)
            (try dsimp only)
            first
              | done
              | exact ⟨rfl, rfl⟩
              | rfl
              | (simp only [c_4, c_20, c_30, c_41, c_49, if_true, if_false, and_self, and_true, true_and, not_true_eq_false, not_false_eq_true, and_false, false_and, or_true, true_or, or_false, false_or, or_self, Bool.false_eq_true, reduceCtorEq, nl10, nl20, nl30, nl40, nl50, nl60, nl70, nl12, nl13, nl21, nl23, nl31, nl32]; first | done | exact ⟨rfl, rfl⟩ | rfl)
              | contradiction
              | (simp only [c_4, c_20, c_30, c_41, c_49, if_true, if_false, and_self, and_true, true_and, not_true_eq_false, not_false_eq_true, and_false, false_and, or_true, true_or, or_false, false_or, or_self, Bool.false_eq_true, reduceCtorEq, nl10, nl20, nl30, nl40, nl50, nl60, nl70, nl12, nl13, nl21, nl23, nl31, nl32]; contradiction)
              | (exfalso; simp_all; done)
              | simp_all
          · have c_49 := bI1 c_49
            refine lv_iconst (v := 1) hx hb dX7_waiter_52 (by decide) ?_
            refine lv_goto (tgt := 57) hx hb dX7_waiter_53 (by decide) ?_
            refine lv_istore (lv' := [(6, .int 1), (0, .ref (fad E 0)), (1, .int k), (2, .int a), (3, .int p), (4, .int q), (5, .int c1)]) hx hb dX7_waiter_57 hl (by decide) rfl (fun ls hl => ?_)
            refine lv_iload hx hb dX7_waiter_59 (lv_at hl 0 rfl) ?_
            refine lv_if_ne (tgt := 71) hx hb dX7_waiter_61 (by decide) (fun _ => ?_) (fun c_61 => absurd c_61 (by decide))
            refine lv_aload_n hx hb dX7_waiter_71 rfl (lv_at hl 1 rfl) ?_
            refine f_get X hP (T := TX7) (ci := 7) (k := 0) rfl inX7 rfl 1 (by decide) m_1_232 rfl (v := .ref (fad E 18)) rfl dX7_waiter_72 ?_
            refine f_iV (n := 0) X hP hS [] [] (c_X1_hasRoomForWaiter l E M L 18 rfl) m_2_137 wi_X1_hasRoomForWaiter rfl rfl (by decide) (by decide +kernel) ⟨Nat.le_of_ble_eq_true rfl, Nat.le_of_ble_eq_true rfl⟩ rfl hl rfl (Nat.le_of_ble_eq_true rfl) ⟨Nat.zero_le _, Nat.zero_le _⟩ dX7_waiter_75 (fun H locs hP hS => ?_)
            refine lv_if_ne (tgt := 88) hx hb dX7_waiter_78 (by decide) (fun c_78 => ?_) (fun c_78 => ?_)
            · have c_78 := bI1 c_78
              refine lv_aload_n hx hb dX7_waiter_88 rfl (lv_at hl 1 rfl) ?_
              refine f_get X hP (T := TX7) (ci := 7) (k := 0) rfl inX7 rfl 1 (by decide) m_1_232 rfl (v := .ref (fad E 18)) rfl dX7_waiter_89 ?_
              refine lv_iload_n hx hb dX7_waiter_92 rfl (lv_at hl 2 rfl) ?_
              refine lv_iload_n hx hb dX7_waiter_93 rfl (lv_at hl 3 rfl) ?_
              refine lv_iload_n hx hb dX7_waiter_94 rfl (lv_at hl 4 rfl) ?_
              refine lv_iload hx hb dX7_waiter_95 (lv_at hl 5 rfl) ?_
              refine lv_iload hx hb dX7_waiter_97 (lv_at hl 6 rfl) ?_
              refine f_iV (n := 5) X hP hS [.int k, .int a, .int p, .int q, .int c1] [] (c_X1_addWaiter l E M L 18 k a p q c1 wc rfl hwc hwc6) m_2_141 wi_X1_addWaiter rfl rfl (by decide) (by decide +kernel) ⟨Nat.le_of_ble_eq_true rfl, Nat.le_of_ble_eq_true rfl⟩ rfl hl rfl (Nat.le_of_ble_eq_true rfl) ⟨Nat.zero_le _, Nat.zero_le _⟩ dX7_waiter_99 (fun H locs hP hS => ?_)
              refine f_ir X hlk hr (v := (if wc < 6 then nI wc else -1)) rfl hP hS ?_ dX7_waiter_102
              unfold a_X7_waiter
              (first | rw [if_pos c_4] | rw [if_neg c_4] | rw [if_neg (Bool.eq_false_iff.mp c_4)] | skip)
              (first | rw [if_pos c_20] | rw [if_neg c_20] | rw [if_neg (Bool.eq_false_iff.mp c_20)] | skip)
              (first | rw [if_pos c_30] | rw [if_neg c_30] | rw [if_neg (Bool.eq_false_iff.mp c_30)] | skip)
              (first | rw [if_pos c_41] | rw [if_neg c_41] | rw [if_neg (Bool.eq_false_iff.mp c_41)] | skip)
              (first | rw [if_pos c_49] | rw [if_neg c_49] | rw [if_neg (Bool.eq_false_iff.mp c_49)] | skip)
              (first | rw [if_pos c_78] | rw [if_neg c_78] | rw [if_neg (Bool.eq_false_iff.mp c_78)] | skip)
              (try dsimp only)
              first
                | done
                | exact ⟨rfl, rfl⟩
                | rfl
                | (simp only [c_4, c_20, c_30, c_41, c_49, c_78, if_true, if_false, and_self, and_true, true_and, not_true_eq_false, not_false_eq_true, and_false, false_and, or_true, true_or, or_false, false_or, or_self, Bool.false_eq_true, reduceCtorEq, nl10, nl20, nl30, nl40, nl50, nl60, nl70, nl12, nl13, nl21, nl23, nl31, nl32]; first | done | exact ⟨rfl, rfl⟩ | rfl)
                | contradiction
                | (simp only [c_4, c_20, c_30, c_41, c_49, c_78, if_true, if_false, and_self, and_true, true_and, not_true_eq_false, not_false_eq_true, and_false, false_and, or_true, true_or, or_false, false_or, or_self, Bool.false_eq_true, reduceCtorEq, nl10, nl20, nl30, nl40, nl50, nl60, nl70, nl12, nl13, nl21, nl23, nl31, nl32]; contradiction)
                | (exfalso; simp_all; done)
                | simp_all
            · have c_78 := bI0 c_78
              refine lv_aload_n hx hb dX7_waiter_81 rfl (lv_at hl 1 rfl) ?_
              refine lv_bipush (v := (-7)) hx hb dX7_waiter_82 (by decide) ?_
              refine f_iV (n := 1) X hP hS [.int (-7)] [] (c_X7_refuse l E M L (-7)) m_2_29 wi_X7_refuse rfl rfl (by decide) (by decide +kernel) ⟨Nat.le_of_ble_eq_true rfl, Nat.le_of_ble_eq_true rfl⟩ rfl hl rfl (Nat.le_of_ble_eq_true rfl) ⟨Nat.zero_le _, Nat.zero_le _⟩ dX7_waiter_84 (fun H locs hP hS => ?_)
              refine f_ir X hlk hr (v := (-7)) rfl hP hS ?_ dX7_waiter_87
              unfold a_X7_waiter
              (first | rw [if_pos c_4] | rw [if_neg c_4] | rw [if_neg (Bool.eq_false_iff.mp c_4)] | skip)
              (first | rw [if_pos c_20] | rw [if_neg c_20] | rw [if_neg (Bool.eq_false_iff.mp c_20)] | skip)
              (first | rw [if_pos c_30] | rw [if_neg c_30] | rw [if_neg (Bool.eq_false_iff.mp c_30)] | skip)
              (first | rw [if_pos c_41] | rw [if_neg c_41] | rw [if_neg (Bool.eq_false_iff.mp c_41)] | skip)
              (first | rw [if_pos c_49] | rw [if_neg c_49] | rw [if_neg (Bool.eq_false_iff.mp c_49)] | skip)
              (first | rw [if_pos c_78] | rw [if_neg c_78] | rw [if_neg (Bool.eq_false_iff.mp c_78)] | skip)
              (try dsimp only)
              first
                | done
                | exact ⟨rfl, rfl⟩
                | rfl
                | (simp only [c_4, c_20, c_30, c_41, c_49, c_78, if_true, if_false, and_self, and_true, true_and, not_true_eq_false, not_false_eq_true, and_false, false_and, or_true, true_or, or_false, false_or, or_self, Bool.false_eq_true, reduceCtorEq, nl10, nl20, nl30, nl40, nl50, nl60, nl70, nl12, nl13, nl21, nl23, nl31, nl32]; first | done | exact ⟨rfl, rfl⟩ | rfl)
                | contradiction
                | (simp only [c_4, c_20, c_30, c_41, c_49, c_78, if_true, if_false, and_self, and_true, true_and, not_true_eq_false, not_false_eq_true, and_false, false_and, or_true, true_or, or_false, false_or, or_self, Bool.false_eq_true, reduceCtorEq, nl10, nl20, nl30, nl40, nl50, nl60, nl70, nl12, nl13, nl21, nl23, nl31, nl32]; contradiction)
                | (exfalso; simp_all; done)
                | simp_all
  · have c_4 := bI0 c_4
    refine lv_aload_n hx hb dX7_waiter_7 rfl (lv_at hl 0 rfl) ?_
    refine lv_iconst (v := (-1)) hx hb dX7_waiter_8 (by decide) ?_
    refine f_iV (n := 1) X hP hS [.int (-1)] [] (c_X7_refuse l E M L (-1)) m_2_29 wi_X7_refuse rfl rfl (by decide) (by decide +kernel) ⟨Nat.le_of_ble_eq_true rfl, Nat.le_of_ble_eq_true rfl⟩ rfl hl rfl (Nat.le_of_ble_eq_true rfl) ⟨Nat.zero_le _, Nat.zero_le _⟩ dX7_waiter_9 (fun H locs hP hS => ?_)
    refine f_ir X hlk hr (v := (-1)) rfl hP hS ?_ dX7_waiter_12
    unfold a_X7_waiter
    (first | rw [if_pos c_4] | rw [if_neg c_4] | rw [if_neg (Bool.eq_false_iff.mp c_4)] | skip)
    (try dsimp only)
    first
      | done
      | exact ⟨rfl, rfl⟩
      | rfl
      | (simp only [c_4, if_true, if_false, and_self, and_true, true_and, not_true_eq_false, not_false_eq_true, and_false, false_and, or_true, true_or, or_false, false_or, or_self, Bool.false_eq_true, reduceCtorEq, nl10, nl20, nl30, nl40, nl50, nl60, nl70, nl12, nl13, nl21, nl23, nl31, nl32]; first | done | exact ⟨rfl, rfl⟩ | rfl)
      | contradiction
      | (simp only [c_4, if_true, if_false, and_self, and_true, true_and, not_true_eq_false, not_false_eq_true, and_false, false_and, or_true, true_or, or_false, false_or, or_self, Bool.false_eq_true, reduceCtorEq, nl10, nl20, nl30, nl40, nl50, nl60, nl70, nl12, nl13, nl21, nl23, nl31, nl32]; contradiction)
      | (exfalso; simp_all; done)
      | simp_all

def a_X7_move (M : Nat → Nat → Int32) (L : Nat → Nat → Int64) (w : Int32) (c1 : Int32) : fR := (if (0 ≤ w ∧ w < (M 18 4) ∧ w < 6) then (if (0 ≤ c1 ∧ c1 ≤ 9) then ((M (30 + w.toNatClampNeg) 5), (up2 M (30 + w.toNatClampNeg) 5 c1), L) else ((-6), (rfM M (-6)), L)) else ((-1), (rfM M (-1)), L))
set_option maxHeartbeats 1000000 in
set_option maxRecDepth 100000 in
theorem c_X7_move (l : Launch) (E : fE) (M : Nat → Nat → Int32) (L : Nat → Nat → Int64) (w : Int32) (c1 : Int32) : Met l yX7_move (wl yX7_move cX7_move 4 (some .int)) (fRm 2 44) (va_Pc [.ref (fad E 0), .int w, .int c1] (fPre E M L)) (fQi E (fun r u => u = ((a_X7_move M L w c1).2.1, (a_X7_move M L w c1).2.2) ∧ r = (a_X7_move M L w c1).1)) 0 0 (fA E) := by
  refine f_head (by decide) (Nat.le_of_ble_eq_true rfl) ?_
  intro pg ev s mi below meth cd ls X hr hlk hP hS hl
  have hx := X.1.1
  have hb := X.1.2.1
  have hl : lv_has ls 4 [(0, .ref (fad E 0)), (1, .int w), (2, .int c1)] := hl
  refine lv_aload_n hx hb dX7_move_0 rfl (lv_at hl 0 rfl) ?_
  refine f_get X hP (T := TX7) (ci := 7) (k := 0) rfl inX7 rfl 1 (by decide) m_1_232 rfl (v := .ref (fad E 18)) rfl dX7_move_1 ?_
  refine lv_iload_n hx hb dX7_move_4 rfl (lv_at hl 1 rfl) ?_
  refine f_iV (n := 1) X hP hS [.int w] [] (c_X1_hasWaiter l E M L 18 w rfl) m_2_89 wi_X1_hasWaiter rfl rfl (by decide) (by decide +kernel) ⟨Nat.le_of_ble_eq_true rfl, Nat.le_of_ble_eq_true rfl⟩ rfl hl rfl (Nat.le_of_ble_eq_true rfl) ⟨Nat.zero_le _, Nat.zero_le _⟩ dX7_move_5 (fun H locs hP hS => ?_)
  refine lv_if_ne (tgt := 17) hx hb dX7_move_8 (by decide) (fun c_8 => ?_) (fun c_8 => ?_)
  · have c_8 := bI1 c_8
    refine lv_iload_n hx hb dX7_move_17 rfl (lv_at hl 2 rfl) ?_
    refine f_iS (n := 1) X hP hS [.int c1] [] (c_X7_isCorner l E M L c1) m_2_121 wi_X7_isCorner (by decide +kernel) ⟨Nat.le_of_ble_eq_true rfl, Nat.le_of_ble_eq_true rfl⟩ rfl hl rfl (Nat.le_of_ble_eq_true rfl) ⟨Nat.zero_le _, Nat.zero_le _⟩ dX7_move_18 (fun H locs hP hS => ?_)
    refine lv_if_ne (tgt := 31) hx hb dX7_move_21 (by decide) (fun c_21 => ?_) (fun c_21 => ?_)
    · have c_21 := bI1 c_21
      refine lv_aload_n hx hb dX7_move_31 rfl (lv_at hl 0 rfl) ?_
      refine f_get X hP (T := TX7) (ci := 7) (k := 0) rfl inX7 rfl 1 (by decide) m_1_232 rfl (v := .ref (fad E 18)) rfl dX7_move_32 ?_
      refine f_get X hP (T := TX1) (ci := 1) (k := 18) rfl inX1 rfl 1 (by decide) m_1_112 rfl (v := .ref (fad E 20)) rfl dX7_move_35 ?_
      refine lv_iload_n hx hb dX7_move_38 rfl (lv_at hl 1 rfl) ?_
      have hix_1 : fIx w 6 w.toNatClampNeg := by
        first
          | exact fIx_le 5 c_8.1 c_8.2 (by decide)
          | exact fIx_le 5 c_21.1 c_21.2 (by decide)
          | exact fIx_lt 6 c_8.1 c_8.2.2 (by decide)
          | exact fIx_lt 6 c_21.1 c_21.2.2 (by decide)
          | exact fIx_le 5 (rr0 c_8).1.1 (rr0 c_8).1.2 (by decide)
          | exact fIx_le 5 (rr0 c_21).1.1 (rr0 c_21).1.2 (by decide)
          | (refine fIx_lt 6 ?_ ?_ (by decide) <;> (simp only [Int32.lt_iff_toInt_lt, Int32.le_iff_toInt_le, Int32.not_lt, Int32.not_le, ← Int32.toInt_inj] at *; omega))
      have hlt_1 := hix_1.2.2
      refine f_aald X hP (t := 13) (d := 10) (n := 6) (r := w.toNatClampNeg) rfl rfl (.inr (.inr (.inl ⟨rfl, rfl⟩))) hix_1 (30 + w.toNatClampNeg) (by omega) dX7_move_39 ?_
      refine f_get X hP (T := TX6) (ci := 6) (k := (30 + w.toNatClampNeg)) (sh_gw (g := 18) rfl (by omega)) inX6 rfl 5 (by decide) m_1_93 rfl (v := .int (M (30 + w.toNatClampNeg) 5)) rfl dX7_move_40 ?_
      refine lv_istore_n (lv' := [(3, .int (M (30 + w.toNatClampNeg) 5)), (0, .ref (fad E 0)), (1, .int w), (2, .int c1)]) hx hb dX7_move_43 rfl hl (by decide) rfl (fun ls hl => ?_)
      refine lv_aload_n hx hb dX7_move_44 rfl (lv_at hl 1 rfl) ?_
      refine f_get X hP (T := TX7) (ci := 7) (k := 0) rfl inX7 rfl 1 (by decide) m_1_232 rfl (v := .ref (fad E 18)) rfl dX7_move_45 ?_
      refine f_get X hP (T := TX1) (ci := 1) (k := 18) rfl inX1 rfl 1 (by decide) m_1_112 rfl (v := .ref (fad E 20)) rfl dX7_move_48 ?_
      refine lv_iload_n hx hb dX7_move_51 rfl (lv_at hl 2 rfl) ?_
      refine f_aald X hP (t := 13) (d := 10) (n := 6) (r := w.toNatClampNeg) rfl rfl (.inr (.inr (.inl ⟨rfl, rfl⟩))) hix_1 (30 + w.toNatClampNeg) (by omega) dX7_move_52 ?_
      refine lv_iload_n hx hb dX7_move_53 rfl (lv_at hl 3 rfl) ?_
      refine f_put X hP hS (T := TX6) (ci := 6) (k := (30 + w.toNatClampNeg)) (sh_gw (g := 18) rfl (by omega)) inX6 rfl tyX6 tyX6_ok nmX6 5 (by decide) m_1_93 ⟨rfl, rfl⟩ rfl (v := c1) rfl rfl dX7_move_54 (fun H locs hP hS => ?_)
      refine lv_iload_n hx hb dX7_move_57 rfl (lv_at hl 0 rfl) ?_
      refine f_ir X hlk hr (v := (M (30 + w.toNatClampNeg) 5)) rfl hP hS ?_ dX7_move_58
      unfold a_X7_move
      (first | rw [if_pos c_8] | rw [if_neg c_8] | rw [if_neg (Bool.eq_false_iff.mp c_8)] | skip)
      (first | rw [if_pos c_21] | rw [if_neg c_21] | rw [if_neg (Bool.eq_false_iff.mp c_21)] | skip)
      (try dsimp only)
      first
        | done
        | exact ⟨rfl, rfl⟩
        | rfl
        | (simp only [c_8, c_21, if_true, if_false, and_self, and_true, true_and, not_true_eq_false, not_false_eq_true, and_false, false_and, or_true, true_or, or_false, false_or, or_self, Bool.false_eq_true, reduceCtorEq, nl10, nl20, nl30, nl40, nl50, nl60, nl70, nl12, nl13, nl21, nl23, nl31, nl32]; first | done | exact ⟨rfl, rfl⟩ | rfl)
        | contradiction
        | (simp only [c_8, c_21, if_true, if_false, and_self, and_true, true_and, not_true_eq_false, not_false_eq_true, and_false, false_and, or_true, true_or, or_false, false_or, or_self, Bool.false_eq_true, reduceCtorEq, nl10, nl20, nl30, nl40, nl50, nl60, nl70, nl12, nl13, nl21, nl23, nl31, nl32]; contradiction)
        | (exfalso; simp_all; done)
        | simp_all
    · have c_21 := bI0 c_21
      refine lv_aload_n hx hb dX7_move_24 rfl (lv_at hl 0 rfl) ?_
      refine lv_bipush (v := (-6)) hx hb dX7_move_25 (by decide) ?_
      refine f_iV (n := 1) X hP hS [.int (-6)] [] (c_X7_refuse l E M L (-6)) m_2_29 wi_X7_refuse rfl rfl (by decide) (by decide +kernel) ⟨Nat.le_of_ble_eq_true rfl, Nat.le_of_ble_eq_true rfl⟩ rfl hl rfl (Nat.le_of_ble_eq_true rfl) ⟨Nat.zero_le _, Nat.zero_le _⟩ dX7_move_27 (fun H locs hP hS => ?_)
      refine f_ir X hlk hr (v := (-6)) rfl hP hS ?_ dX7_move_30
      unfold a_X7_move
      (first | rw [if_pos c_8] | rw [if_neg c_8] | rw [if_neg (Bool.eq_false_iff.mp c_8)] | skip)
      (first | rw [if_pos c_21] | rw [if_neg c_21] | rw [if_neg (Bool.eq_false_iff.mp c_21)] | skip)
      (try dsimp only)
      first
        | done
        | exact ⟨rfl, rfl⟩
        | rfl
        | (simp only [c_8, c_21, if_true, if_false, and_self, and_true, true_and, not_true_eq_false, not_false_eq_true, and_false, false_and, or_true, true_or, or_false, false_or, or_self, Bool.false_eq_true, reduceCtorEq, nl10, nl20, nl30, nl40, nl50, nl60, nl70, nl12, nl13, nl21, nl23, nl31, nl32]; first | done | exact ⟨rfl, rfl⟩ | rfl)
        | contradiction
        | (simp only [c_8, c_21, if_true, if_false, and_self, and_true, true_and, not_true_eq_false, not_false_eq_true, and_false, false_and, or_true, true_or, or_false, false_or, or_self, Bool.false_eq_true, reduceCtorEq, nl10, nl20, nl30, nl40, nl50, nl60, nl70, nl12, nl13, nl21, nl23, nl31, nl32]; contradiction)
        | (exfalso; simp_all; done)
        | simp_all
  · have c_8 := bI0 c_8
    refine lv_aload_n hx hb dX7_move_11 rfl (lv_at hl 0 rfl) ?_
    refine lv_iconst (v := (-1)) hx hb dX7_move_12 (by decide) ?_
    refine f_iV (n := 1) X hP hS [.int (-1)] [] (c_X7_refuse l E M L (-1)) m_2_29 wi_X7_refuse rfl rfl (by decide) (by decide +kernel) ⟨Nat.le_of_ble_eq_true rfl, Nat.le_of_ble_eq_true rfl⟩ rfl hl rfl (Nat.le_of_ble_eq_true rfl) ⟨Nat.zero_le _, Nat.zero_le _⟩ dX7_move_13 (fun H locs hP hS => ?_)
    refine f_ir X hlk hr (v := (-1)) rfl hP hS ?_ dX7_move_16
    unfold a_X7_move
    (first | rw [if_pos c_8] | rw [if_neg c_8] | rw [if_neg (Bool.eq_false_iff.mp c_8)] | skip)
    (try dsimp only)
    first
      | done
      | exact ⟨rfl, rfl⟩
      | rfl
      | (simp only [c_8, if_true, if_false, and_self, and_true, true_and, not_true_eq_false, not_false_eq_true, and_false, false_and, or_true, true_or, or_false, false_or, or_self, Bool.false_eq_true, reduceCtorEq, nl10, nl20, nl30, nl40, nl50, nl60, nl70, nl12, nl13, nl21, nl23, nl31, nl32]; first | done | exact ⟨rfl, rfl⟩ | rfl)
      | contradiction
      | (simp only [c_8, if_true, if_false, and_self, and_true, true_and, not_true_eq_false, not_false_eq_true, and_false, false_and, or_true, true_or, or_false, false_or, or_self, Bool.false_eq_true, reduceCtorEq, nl10, nl20, nl30, nl40, nl50, nl60, nl70, nl12, nl13, nl21, nl23, nl31, nl32]; contradiction)
      | (exfalso; simp_all; done)
      | simp_all

def a_X7_ask (M : Nat → Nat → Int32) (L : Nat → Nat → Int64) (v : Int32) : fR := (if (0 ≤ v ∧ v ≤ 9) then ((M 18 5), (up2 M 18 5 v), L) else ((-6), (rfM M (-6)), L))
set_option maxHeartbeats 1000000 in
set_option maxRecDepth 100000 in
theorem c_X7_ask (l : Launch) (E : fE) (M : Nat → Nat → Int32) (L : Nat → Nat → Int64) (v : Int32) : Met l yX7_ask (wl yX7_ask cX7_ask 3 (some .int)) (fRm 2 44) (va_Pc [.ref (fad E 0), .int v] (fPre E M L)) (fQi E (fun r u => u = ((a_X7_ask M L v).2.1, (a_X7_ask M L v).2.2) ∧ r = (a_X7_ask M L v).1)) 0 0 (fA E) := by
  refine f_head (by decide) (Nat.le_of_ble_eq_true rfl) ?_
  intro pg ev s mi below meth cd ls X hr hlk hP hS hl
  have hx := X.1.1
  have hb := X.1.2.1
  have hl : lv_has ls 3 [(0, .ref (fad E 0)), (1, .int v)] := hl
  refine lv_iload_n hx hb dX7_ask_0 rfl (lv_at hl 1 rfl) ?_
  refine lv_iconst (v := 0) hx hb dX7_ask_1 (by decide) ?_
  refine lv_bipush (v := 9) hx hb dX7_ask_2 (by decide) ?_
  refine f_iS (n := 3) X hP hS [.int v, .int 0, .int 9] [] (c_X7_within l E M L v 0 9) m_2_26 wi_X7_within (by decide +kernel) ⟨Nat.le_of_ble_eq_true rfl, Nat.le_of_ble_eq_true rfl⟩ rfl hl rfl (Nat.le_of_ble_eq_true rfl) ⟨Nat.zero_le _, Nat.zero_le _⟩ dX7_ask_4 (fun H locs hP hS => ?_)
  refine lv_if_ne (tgt := 17) hx hb dX7_ask_7 (by decide) (fun c_7 => ?_) (fun c_7 => ?_)
  · have c_7 := bI1 c_7
    refine lv_aload_n hx hb dX7_ask_17 rfl (lv_at hl 0 rfl) ?_
    refine f_get X hP (T := TX7) (ci := 7) (k := 0) rfl inX7 rfl 1 (by decide) m_1_232 rfl (v := .ref (fad E 18)) rfl dX7_ask_18 ?_
    refine f_get X hP (T := TX1) (ci := 1) (k := 18) rfl inX1 rfl 5 (by decide) m_1_123 rfl (v := .int (M 18 5)) rfl dX7_ask_21 ?_
    refine lv_istore_n (lv' := [(2, .int (M 18 5)), (0, .ref (fad E 0)), (1, .int v)]) hx hb dX7_ask_24 rfl hl (by decide) rfl (fun ls hl => ?_)
    refine lv_aload_n hx hb dX7_ask_25 rfl (lv_at hl 1 rfl) ?_
    refine f_get X hP (T := TX7) (ci := 7) (k := 0) rfl inX7 rfl 1 (by decide) m_1_232 rfl (v := .ref (fad E 18)) rfl dX7_ask_26 ?_
    refine lv_iload_n hx hb dX7_ask_29 rfl (lv_at hl 2 rfl) ?_
    refine f_put X hP hS (T := TX1) (ci := 1) (k := 18) rfl inX1 rfl tyX1 tyX1_ok nmX1 5 (by decide) m_1_123 ⟨rfl, rfl⟩ rfl (v := v) rfl rfl dX7_ask_30 (fun H locs hP hS => ?_)
    refine lv_iload_n hx hb dX7_ask_33 rfl (lv_at hl 0 rfl) ?_
    refine f_ir X hlk hr (v := (M 18 5)) rfl hP hS ?_ dX7_ask_34
    unfold a_X7_ask
    (first | rw [if_pos c_7] | rw [if_neg c_7] | rw [if_neg (Bool.eq_false_iff.mp c_7)] | skip)
    (try dsimp only)
    first
      | done
      | exact ⟨rfl, rfl⟩
      | rfl
      | (simp only [c_7, if_true, if_false, and_self, and_true, true_and, not_true_eq_false, not_false_eq_true, and_false, false_and, or_true, true_or, or_false, false_or, or_self, Bool.false_eq_true, reduceCtorEq, nl10, nl20, nl30, nl40, nl50, nl60, nl70, nl12, nl13, nl21, nl23, nl31, nl32]; first | done | exact ⟨rfl, rfl⟩ | rfl)
      | contradiction
      | (simp only [c_7, if_true, if_false, and_self, and_true, true_and, not_true_eq_false, not_false_eq_true, and_false, false_and, or_true, true_or, or_false, false_or, or_self, Bool.false_eq_true, reduceCtorEq, nl10, nl20, nl30, nl40, nl50, nl60, nl70, nl12, nl13, nl21, nl23, nl31, nl32]; contradiction)
      | (exfalso; simp_all; done)
      | simp_all
  · have c_7 := bI0 c_7
    refine lv_aload_n hx hb dX7_ask_10 rfl (lv_at hl 0 rfl) ?_
    refine lv_bipush (v := (-6)) hx hb dX7_ask_11 (by decide) ?_
    refine f_iV (n := 1) X hP hS [.int (-6)] [] (c_X7_refuse l E M L (-6)) m_2_29 wi_X7_refuse rfl rfl (by decide) (by decide +kernel) ⟨Nat.le_of_ble_eq_true rfl, Nat.le_of_ble_eq_true rfl⟩ rfl hl rfl (Nat.le_of_ble_eq_true rfl) ⟨Nat.zero_le _, Nat.zero_le _⟩ dX7_ask_13 (fun H locs hP hS => ?_)
    refine f_ir X hlk hr (v := (-6)) rfl hP hS ?_ dX7_ask_16
    unfold a_X7_ask
    (first | rw [if_pos c_7] | rw [if_neg c_7] | rw [if_neg (Bool.eq_false_iff.mp c_7)] | skip)
    (try dsimp only)
    first
      | done
      | exact ⟨rfl, rfl⟩
      | rfl
      | (simp only [c_7, if_true, if_false, and_self, and_true, true_and, not_true_eq_false, not_false_eq_true, and_false, false_and, or_true, true_or, or_false, false_or, or_self, Bool.false_eq_true, reduceCtorEq, nl10, nl20, nl30, nl40, nl50, nl60, nl70, nl12, nl13, nl21, nl23, nl31, nl32]; first | done | exact ⟨rfl, rfl⟩ | rfl)
      | contradiction
      | (simp only [c_7, if_true, if_false, and_self, and_true, true_and, not_true_eq_false, not_false_eq_true, and_false, false_and, or_true, true_or, or_false, false_or, or_self, Bool.false_eq_true, reduceCtorEq, nl10, nl20, nl30, nl40, nl50, nl60, nl70, nl12, nl13, nl21, nl23, nl31, nl32]; contradiction)
      | (exfalso; simp_all; done)
      | simp_all

def a_X7_thingOf (M : Nat → Nat → Int32) (L : Nat → Nat → Int64) (t : Int32) (what : Int32) : fR := (if (0 ≤ t ∧ t < (M 18 3) ∧ t < 8) then (if (0 ≤ what ∧ what ≤ 7) then ((if what = 0 then (M (22 + t.toNatClampNeg) 0) else if what = 1 then (M (22 + t.toNatClampNeg) 1) else if what = 2 then (M (22 + t.toNatClampNeg) 2) else if what = 3 then (M (22 + t.toNatClampNeg) 3) else if what = 4 then (M (22 + t.toNatClampNeg) 4) else if what = 5 then (M (22 + t.toNatClampNeg) 5) else if what = 6 then (M (22 + t.toNatClampNeg) 6) else ((M (22 + t.toNatClampNeg) 2) - (M (22 + t.toNatClampNeg) 1) + 1 + (M (22 + t.toNatClampNeg) 3))), M, L) else ((-5), (rfM M (-5)), L)) else ((-5), (rfM M (-5)), L))
set_option maxHeartbeats 1000000 in
set_option maxRecDepth 100000 in
theorem c_X7_thingOf (l : Launch) (E : fE) (M : Nat → Nat → Int32) (L : Nat → Nat → Int64) (t : Int32) (what : Int32) : Met l yX7_thingOf (wl yX7_thingOf cX7_thingOf 3 (some .int)) (fRm 3 61) (va_Pc [.ref (fad E 0), .int t, .int what] (fPre E M L)) (fQi E (fun r u => u = ((a_X7_thingOf M L t what).2.1, (a_X7_thingOf M L t what).2.2) ∧ r = (a_X7_thingOf M L t what).1)) 0 0 (fA E) := by
  refine f_head (by decide) (Nat.le_of_ble_eq_true rfl) ?_
  intro pg ev s mi below meth cd ls X hr hlk hP hS hl
  have hx := X.1.1
  have hb := X.1.2.1
  have hl : lv_has ls 3 [(0, .ref (fad E 0)), (1, .int t), (2, .int what)] := hl
  refine lv_aload_n hx hb dX7_thingOf_0 rfl (lv_at hl 0 rfl) ?_
  refine f_get X hP (T := TX7) (ci := 7) (k := 0) rfl inX7 rfl 1 (by decide) m_1_232 rfl (v := .ref (fad E 18)) rfl dX7_thingOf_1 ?_
  refine lv_iload_n hx hb dX7_thingOf_4 rfl (lv_at hl 1 rfl) ?_
  refine f_iV (n := 1) X hP hS [.int t] [] (c_X1_hasThing l E M L 18 t rfl) m_2_158 wi_X1_hasThing rfl rfl (by decide) (by decide +kernel) ⟨Nat.le_of_ble_eq_true rfl, Nat.le_of_ble_eq_true rfl⟩ rfl hl rfl (Nat.le_of_ble_eq_true rfl) ⟨Nat.zero_le _, Nat.zero_le _⟩ dX7_thingOf_5 (fun H locs hP hS => ?_)
  refine lv_if_eq (tgt := 21) hx hb dX7_thingOf_8 (by decide) (fun c_8 => ?_) (fun c_8 => ?_)
  · have c_8 := bI0 c_8
    refine lv_aload_n hx hb dX7_thingOf_21 rfl (lv_at hl 0 rfl) ?_
    refine lv_bipush (v := (-5)) hx hb dX7_thingOf_22 (by decide) ?_
    refine f_iV (n := 1) X hP hS [.int (-5)] [] (c_X7_refuse l E M L (-5)) m_2_29 wi_X7_refuse rfl rfl (by decide) (by decide +kernel) ⟨Nat.le_of_ble_eq_true rfl, Nat.le_of_ble_eq_true rfl⟩ rfl hl rfl (Nat.le_of_ble_eq_true rfl) ⟨Nat.zero_le _, Nat.zero_le _⟩ dX7_thingOf_24 (fun H locs hP hS => ?_)
    refine f_ir X hlk hr (v := (-5)) rfl hP hS ?_ dX7_thingOf_27
    unfold a_X7_thingOf
    (first | rw [if_pos c_8] | rw [if_neg c_8] | rw [if_neg (Bool.eq_false_iff.mp c_8)] | skip)
    (try dsimp only)
    first
      | done
      | exact ⟨rfl, rfl⟩
      | rfl
      | (simp only [c_8, if_true, if_false, and_self, and_true, true_and, not_true_eq_false, not_false_eq_true, and_false, false_and, or_true, true_or, or_false, false_or, or_self, Bool.false_eq_true, reduceCtorEq, nl10, nl20, nl30, nl40, nl50, nl60, nl70, nl12, nl13, nl21, nl23, nl31, nl32]; first | done | exact ⟨rfl, rfl⟩ | rfl)
      | contradiction
      | (simp only [c_8, if_true, if_false, and_self, and_true, true_and, not_true_eq_false, not_false_eq_true, and_false, false_and, or_true, true_or, or_false, false_or, or_self, Bool.false_eq_true, reduceCtorEq, nl10, nl20, nl30, nl40, nl50, nl60, nl70, nl12, nl13, nl21, nl23, nl31, nl32]; contradiction)
      | (exfalso; simp_all; done)
      | simp_all
  · have c_8 := bI1 c_8
    refine lv_iload_n hx hb dX7_thingOf_11 rfl (lv_at hl 2 rfl) ?_
    refine lv_iconst (v := 0) hx hb dX7_thingOf_12 (by decide) ?_
    refine lv_bipush (v := 7) hx hb dX7_thingOf_13 (by decide) ?_
    refine f_iS (n := 3) X hP hS [.int what, .int 0, .int 7] [] (c_X7_within l E M L what 0 7) m_2_26 wi_X7_within (by decide +kernel) ⟨Nat.le_of_ble_eq_true rfl, Nat.le_of_ble_eq_true rfl⟩ rfl hl rfl (Nat.le_of_ble_eq_true rfl) ⟨Nat.zero_le _, Nat.zero_le _⟩ dX7_thingOf_15 (fun H locs hP hS => ?_)
    refine lv_if_ne (tgt := 28) hx hb dX7_thingOf_18 (by decide) (fun c_18 => ?_) (fun c_18 => ?_)
    · have c_18 := bI1 c_18
      refine lv_aload_n hx hb dX7_thingOf_28 rfl (lv_at hl 0 rfl) ?_
      refine f_get X hP (T := TX7) (ci := 7) (k := 0) rfl inX7 rfl 1 (by decide) m_1_232 rfl (v := .ref (fad E 18)) rfl dX7_thingOf_29 ?_
      refine f_get X hP (T := TX1) (ci := 1) (k := 18) rfl inX1 rfl 0 (by decide) m_1_108 rfl (v := .ref (fad E 19)) rfl dX7_thingOf_32 ?_
      refine lv_iload_n hx hb dX7_thingOf_35 rfl (lv_at hl 1 rfl) ?_
      have hix_1 : fIx t 8 t.toNatClampNeg := by
        first
          | exact fIx_le 7 c_8.1 c_8.2 (by decide)
          | exact fIx_le 7 c_18.1 c_18.2 (by decide)
          | exact fIx_lt 8 c_8.1 c_8.2.2 (by decide)
          | exact fIx_lt 8 c_18.1 c_18.2.2 (by decide)
          | exact fIx_le 7 (rr0 c_8).1.1 (rr0 c_8).1.2 (by decide)
          | exact fIx_le 7 (rr0 c_18).1.1 (rr0 c_18).1.2 (by decide)
          | (refine fIx_lt 8 ?_ ?_ (by decide) <;> (simp only [Int32.lt_iff_toInt_lt, Int32.le_iff_toInt_le, Int32.not_lt, Int32.not_le, ← Int32.toInt_inj] at *; omega))
      have hlt_1 := hix_1.2.2
      refine f_aald X hP (t := 12) (d := 3) (n := 8) (r := t.toNatClampNeg) rfl rfl (.inr (.inl ⟨rfl, rfl⟩)) hix_1 (22 + t.toNatClampNeg) (by omega) dX7_thingOf_36 ?_
      refine lv_iload_n hx hb dX7_thingOf_37 rfl (lv_at hl 2 rfl) ?_
      refine f_iV (n := 1) X hP hS [.int what] [] (c_X5_tell l E M L (22 + t.toNatClampNeg) what (sh_gt (g := 18) rfl (by omega))) m_2_162 wi_X5_tell (sh_gt (g := 18) rfl (by omega)) rfl (by decide) (by decide +kernel) ⟨Nat.le_of_ble_eq_true rfl, Nat.le_of_ble_eq_true rfl⟩ rfl hl rfl (Nat.le_of_ble_eq_true rfl) ⟨Nat.zero_le _, Nat.zero_le _⟩ dX7_thingOf_38 (fun H locs hP hS => ?_)
      refine f_ir X hlk hr (v := (if what = 0 then (M (22 + t.toNatClampNeg) 0) else if what = 1 then (M (22 + t.toNatClampNeg) 1) else if what = 2 then (M (22 + t.toNatClampNeg) 2) else if what = 3 then (M (22 + t.toNatClampNeg) 3) else if what = 4 then (M (22 + t.toNatClampNeg) 4) else if what = 5 then (M (22 + t.toNatClampNeg) 5) else if what = 6 then (M (22 + t.toNatClampNeg) 6) else ((M (22 + t.toNatClampNeg) 2) - (M (22 + t.toNatClampNeg) 1) + 1 + (M (22 + t.toNatClampNeg) 3)))) rfl hP hS ?_ dX7_thingOf_41
      unfold a_X7_thingOf
      (first | rw [if_pos c_8] | rw [if_neg c_8] | rw [if_neg (Bool.eq_false_iff.mp c_8)] | skip)
      (first | rw [if_pos c_18] | rw [if_neg c_18] | rw [if_neg (Bool.eq_false_iff.mp c_18)] | skip)
      (try dsimp only)
      first
        | done
        | exact ⟨rfl, rfl⟩
        | rfl
        | (simp only [c_8, c_18, if_true, if_false, and_self, and_true, true_and, not_true_eq_false, not_false_eq_true, and_false, false_and, or_true, true_or, or_false, false_or, or_self, Bool.false_eq_true, reduceCtorEq, nl10, nl20, nl30, nl40, nl50, nl60, nl70, nl12, nl13, nl21, nl23, nl31, nl32]; first | done | exact ⟨rfl, rfl⟩ | rfl)
        | contradiction
        | (simp only [c_8, c_18, if_true, if_false, and_self, and_true, true_and, not_true_eq_false, not_false_eq_true, and_false, false_and, or_true, true_or, or_false, false_or, or_self, Bool.false_eq_true, reduceCtorEq, nl10, nl20, nl30, nl40, nl50, nl60, nl70, nl12, nl13, nl21, nl23, nl31, nl32]; contradiction)
        | (exfalso; simp_all; done)
        | simp_all
    · have c_18 := bI0 c_18
      refine lv_aload_n hx hb dX7_thingOf_21 rfl (lv_at hl 0 rfl) ?_
      refine lv_bipush (v := (-5)) hx hb dX7_thingOf_22 (by decide) ?_
      refine f_iV (n := 1) X hP hS [.int (-5)] [] (c_X7_refuse l E M L (-5)) m_2_29 wi_X7_refuse rfl rfl (by decide) (by decide +kernel) ⟨Nat.le_of_ble_eq_true rfl, Nat.le_of_ble_eq_true rfl⟩ rfl hl rfl (Nat.le_of_ble_eq_true rfl) ⟨Nat.zero_le _, Nat.zero_le _⟩ dX7_thingOf_24 (fun H locs hP hS => ?_)
      refine f_ir X hlk hr (v := (-5)) rfl hP hS ?_ dX7_thingOf_27
      unfold a_X7_thingOf
      (first | rw [if_pos c_8] | rw [if_neg c_8] | rw [if_neg (Bool.eq_false_iff.mp c_8)] | skip)
      (first | rw [if_pos c_18] | rw [if_neg c_18] | rw [if_neg (Bool.eq_false_iff.mp c_18)] | skip)
      (try dsimp only)
      first
        | done
        | exact ⟨rfl, rfl⟩
        | rfl
        | (simp only [c_8, c_18, if_true, if_false, and_self, and_true, true_and, not_true_eq_false, not_false_eq_true, and_false, false_and, or_true, true_or, or_false, false_or, or_self, Bool.false_eq_true, reduceCtorEq, nl10, nl20, nl30, nl40, nl50, nl60, nl70, nl12, nl13, nl21, nl23, nl31, nl32]; first | done | exact ⟨rfl, rfl⟩ | rfl)
        | contradiction
        | (simp only [c_8, c_18, if_true, if_false, and_self, and_true, true_and, not_true_eq_false, not_false_eq_true, and_false, false_and, or_true, true_or, or_false, false_or, or_self, Bool.false_eq_true, reduceCtorEq, nl10, nl20, nl30, nl40, nl50, nl60, nl70, nl12, nl13, nl21, nl23, nl31, nl32]; contradiction)
        | (exfalso; simp_all; done)
        | simp_all

def a_X7_waiterOf (M : Nat → Nat → Int32) (L : Nat → Nat → Int64) (w : Int32) (what : Int32) : fR := (if (0 ≤ w ∧ w < (M 18 4) ∧ w < 6) then (if (0 ≤ what ∧ what ≤ 6) then ((if what = 0 then (M (30 + w.toNatClampNeg) 1) else if what = 1 then (M (30 + w.toNatClampNeg) 2) else if what = 2 then (M (30 + w.toNatClampNeg) 3) else if what = 3 then (M (30 + w.toNatClampNeg) 4) else if what = 4 then (M (30 + w.toNatClampNeg) 5) else if what = 5 then holdF (M (30 + w.toNatClampNeg) 1) (M (30 + w.toNatClampNeg) 2) (M (30 + w.toNatClampNeg) 4) (M 18 5) else sightF (M (30 + w.toNatClampNeg) 1)), M, L) else ((-5), (rfM M (-5)), L)) else ((-5), (rfM M (-5)), L))
set_option maxHeartbeats 1000000 in
set_option maxRecDepth 100000 in
theorem c_X7_waiterOf (l : Launch) (E : fE) (M : Nat → Nat → Int32) (L : Nat → Nat → Int64) (w : Int32) (what : Int32) : Met l yX7_waiterOf (wl yX7_waiterOf cX7_waiterOf 3 (some .int)) (fRm 4 85) (va_Pc [.ref (fad E 0), .int w, .int what] (fPre E M L)) (fQi E (fun r u => u = ((a_X7_waiterOf M L w what).2.1, (a_X7_waiterOf M L w what).2.2) ∧ r = (a_X7_waiterOf M L w what).1)) 0 0 (fA E) := by
  refine f_head (by decide) (Nat.le_of_ble_eq_true rfl) ?_
  intro pg ev s mi below meth cd ls X hr hlk hP hS hl
  have hx := X.1.1
  have hb := X.1.2.1
  have hl : lv_has ls 3 [(0, .ref (fad E 0)), (1, .int w), (2, .int what)] := hl
  refine lv_aload_n hx hb dX7_waiterOf_0 rfl (lv_at hl 0 rfl) ?_
  refine f_get X hP (T := TX7) (ci := 7) (k := 0) rfl inX7 rfl 1 (by decide) m_1_232 rfl (v := .ref (fad E 18)) rfl dX7_waiterOf_1 ?_
  refine lv_iload_n hx hb dX7_waiterOf_4 rfl (lv_at hl 1 rfl) ?_
  refine f_iV (n := 1) X hP hS [.int w] [] (c_X1_hasWaiter l E M L 18 w rfl) m_2_89 wi_X1_hasWaiter rfl rfl (by decide) (by decide +kernel) ⟨Nat.le_of_ble_eq_true rfl, Nat.le_of_ble_eq_true rfl⟩ rfl hl rfl (Nat.le_of_ble_eq_true rfl) ⟨Nat.zero_le _, Nat.zero_le _⟩ dX7_waiterOf_5 (fun H locs hP hS => ?_)
  refine lv_if_eq (tgt := 21) hx hb dX7_waiterOf_8 (by decide) (fun c_8 => ?_) (fun c_8 => ?_)
  · have c_8 := bI0 c_8
    refine lv_aload_n hx hb dX7_waiterOf_21 rfl (lv_at hl 0 rfl) ?_
    refine lv_bipush (v := (-5)) hx hb dX7_waiterOf_22 (by decide) ?_
    refine f_iV (n := 1) X hP hS [.int (-5)] [] (c_X7_refuse l E M L (-5)) m_2_29 wi_X7_refuse rfl rfl (by decide) (by decide +kernel) ⟨Nat.le_of_ble_eq_true rfl, Nat.le_of_ble_eq_true rfl⟩ rfl hl rfl (Nat.le_of_ble_eq_true rfl) ⟨Nat.zero_le _, Nat.zero_le _⟩ dX7_waiterOf_24 (fun H locs hP hS => ?_)
    refine f_ir X hlk hr (v := (-5)) rfl hP hS ?_ dX7_waiterOf_27
    unfold a_X7_waiterOf
    (first | rw [if_pos c_8] | rw [if_neg c_8] | rw [if_neg (Bool.eq_false_iff.mp c_8)] | skip)
    (try dsimp only)
    first
      | done
      | exact ⟨rfl, rfl⟩
      | rfl
      | (simp only [c_8, if_true, if_false, and_self, and_true, true_and, not_true_eq_false, not_false_eq_true, and_false, false_and, or_true, true_or, or_false, false_or, or_self, Bool.false_eq_true, reduceCtorEq, nl10, nl20, nl30, nl40, nl50, nl60, nl70, nl12, nl13, nl21, nl23, nl31, nl32]; first | done | exact ⟨rfl, rfl⟩ | rfl)
      | contradiction
      | (simp only [c_8, if_true, if_false, and_self, and_true, true_and, not_true_eq_false, not_false_eq_true, and_false, false_and, or_true, true_or, or_false, false_or, or_self, Bool.false_eq_true, reduceCtorEq, nl10, nl20, nl30, nl40, nl50, nl60, nl70, nl12, nl13, nl21, nl23, nl31, nl32]; contradiction)
      | (exfalso; simp_all; done)
      | simp_all
  · have c_8 := bI1 c_8
    refine lv_iload_n hx hb dX7_waiterOf_11 rfl (lv_at hl 2 rfl) ?_
    refine lv_iconst (v := 0) hx hb dX7_waiterOf_12 (by decide) ?_
    refine lv_bipush (v := 6) hx hb dX7_waiterOf_13 (by decide) ?_
    refine f_iS (n := 3) X hP hS [.int what, .int 0, .int 6] [] (c_X7_within l E M L what 0 6) m_2_26 wi_X7_within (by decide +kernel) ⟨Nat.le_of_ble_eq_true rfl, Nat.le_of_ble_eq_true rfl⟩ rfl hl rfl (Nat.le_of_ble_eq_true rfl) ⟨Nat.zero_le _, Nat.zero_le _⟩ dX7_waiterOf_15 (fun H locs hP hS => ?_)
    refine lv_if_ne (tgt := 28) hx hb dX7_waiterOf_18 (by decide) (fun c_18 => ?_) (fun c_18 => ?_)
    · have c_18 := bI1 c_18
      refine lv_aload_n hx hb dX7_waiterOf_28 rfl (lv_at hl 0 rfl) ?_
      refine f_get X hP (T := TX7) (ci := 7) (k := 0) rfl inX7 rfl 1 (by decide) m_1_232 rfl (v := .ref (fad E 18)) rfl dX7_waiterOf_29 ?_
      refine f_get X hP (T := TX1) (ci := 1) (k := 18) rfl inX1 rfl 1 (by decide) m_1_112 rfl (v := .ref (fad E 20)) rfl dX7_waiterOf_32 ?_
      refine lv_iload_n hx hb dX7_waiterOf_35 rfl (lv_at hl 1 rfl) ?_
      have hix_1 : fIx w 6 w.toNatClampNeg := by
        first
          | exact fIx_le 5 c_8.1 c_8.2 (by decide)
          | exact fIx_le 5 c_18.1 c_18.2 (by decide)
          | exact fIx_lt 6 c_8.1 c_8.2.2 (by decide)
          | exact fIx_lt 6 c_18.1 c_18.2.2 (by decide)
          | exact fIx_le 5 (rr0 c_8).1.1 (rr0 c_8).1.2 (by decide)
          | exact fIx_le 5 (rr0 c_18).1.1 (rr0 c_18).1.2 (by decide)
          | (refine fIx_lt 6 ?_ ?_ (by decide) <;> (simp only [Int32.lt_iff_toInt_lt, Int32.le_iff_toInt_le, Int32.not_lt, Int32.not_le, ← Int32.toInt_inj] at *; omega))
      have hlt_1 := hix_1.2.2
      refine f_aald X hP (t := 13) (d := 10) (n := 6) (r := w.toNatClampNeg) rfl rfl (.inr (.inr (.inl ⟨rfl, rfl⟩))) hix_1 (30 + w.toNatClampNeg) (by omega) dX7_waiterOf_36 ?_
      refine lv_iload_n hx hb dX7_waiterOf_37 rfl (lv_at hl 2 rfl) ?_
      refine lv_aload_n hx hb dX7_waiterOf_38 rfl (lv_at hl 0 rfl) ?_
      refine f_get X hP (T := TX7) (ci := 7) (k := 0) rfl inX7 rfl 1 (by decide) m_1_232 rfl (v := .ref (fad E 18)) rfl dX7_waiterOf_39 ?_
      refine f_get X hP (T := TX1) (ci := 1) (k := 18) rfl inX1 rfl 5 (by decide) m_1_123 rfl (v := .int (M 18 5)) rfl dX7_waiterOf_42 ?_
      refine f_iV (n := 2) X hP hS [.int what, .int (M 18 5)] [] (c_X6_tell l E M L (30 + w.toNatClampNeg) what (M 18 5) (sh_gw (g := 18) rfl (by omega))) m_2_178 wi_X6_tell (sh_gw (g := 18) rfl (by omega)) rfl (by decide) (by decide +kernel) ⟨Nat.le_of_ble_eq_true rfl, Nat.le_of_ble_eq_true rfl⟩ rfl hl rfl (Nat.le_of_ble_eq_true rfl) ⟨Nat.zero_le _, Nat.zero_le _⟩ dX7_waiterOf_45 (fun H locs hP hS => ?_)
      refine f_ir X hlk hr (v := (if what = 0 then (M (30 + w.toNatClampNeg) 1) else if what = 1 then (M (30 + w.toNatClampNeg) 2) else if what = 2 then (M (30 + w.toNatClampNeg) 3) else if what = 3 then (M (30 + w.toNatClampNeg) 4) else if what = 4 then (M (30 + w.toNatClampNeg) 5) else if what = 5 then holdF (M (30 + w.toNatClampNeg) 1) (M (30 + w.toNatClampNeg) 2) (M (30 + w.toNatClampNeg) 4) (M 18 5) else sightF (M (30 + w.toNatClampNeg) 1))) rfl hP hS ?_ dX7_waiterOf_48
      unfold a_X7_waiterOf
      (first | rw [if_pos c_8] | rw [if_neg c_8] | rw [if_neg (Bool.eq_false_iff.mp c_8)] | skip)
      (first | rw [if_pos c_18] | rw [if_neg c_18] | rw [if_neg (Bool.eq_false_iff.mp c_18)] | skip)
      (try dsimp only)
      first
        | done
        | exact ⟨rfl, rfl⟩
        | rfl
        | (simp only [c_8, c_18, if_true, if_false, and_self, and_true, true_and, not_true_eq_false, not_false_eq_true, and_false, false_and, or_true, true_or, or_false, false_or, or_self, Bool.false_eq_true, reduceCtorEq, nl10, nl20, nl30, nl40, nl50, nl60, nl70, nl12, nl13, nl21, nl23, nl31, nl32]; first | done | exact ⟨rfl, rfl⟩ | rfl)
        | contradiction
        | (simp only [c_8, c_18, if_true, if_false, and_self, and_true, true_and, not_true_eq_false, not_false_eq_true, and_false, false_and, or_true, true_or, or_false, false_or, or_self, Bool.false_eq_true, reduceCtorEq, nl10, nl20, nl30, nl40, nl50, nl60, nl70, nl12, nl13, nl21, nl23, nl31, nl32]; contradiction)
        | (exfalso; simp_all; done)
        | simp_all
    · have c_18 := bI0 c_18
      refine lv_aload_n hx hb dX7_waiterOf_21 rfl (lv_at hl 0 rfl) ?_
      refine lv_bipush (v := (-5)) hx hb dX7_waiterOf_22 (by decide) ?_
      refine f_iV (n := 1) X hP hS [.int (-5)] [] (c_X7_refuse l E M L (-5)) m_2_29 wi_X7_refuse rfl rfl (by decide) (by decide +kernel) ⟨Nat.le_of_ble_eq_true rfl, Nat.le_of_ble_eq_true rfl⟩ rfl hl rfl (Nat.le_of_ble_eq_true rfl) ⟨Nat.zero_le _, Nat.zero_le _⟩ dX7_waiterOf_24 (fun H locs hP hS => ?_)
      refine f_ir X hlk hr (v := (-5)) rfl hP hS ?_ dX7_waiterOf_27
      unfold a_X7_waiterOf
      (first | rw [if_pos c_8] | rw [if_neg c_8] | rw [if_neg (Bool.eq_false_iff.mp c_8)] | skip)
      (first | rw [if_pos c_18] | rw [if_neg c_18] | rw [if_neg (Bool.eq_false_iff.mp c_18)] | skip)
      (try dsimp only)
      first
        | done
        | exact ⟨rfl, rfl⟩
        | rfl
        | (simp only [c_8, c_18, if_true, if_false, and_self, and_true, true_and, not_true_eq_false, not_false_eq_true, and_false, false_and, or_true, true_or, or_false, false_or, or_self, Bool.false_eq_true, reduceCtorEq, nl10, nl20, nl30, nl40, nl50, nl60, nl70, nl12, nl13, nl21, nl23, nl31, nl32]; first | done | exact ⟨rfl, rfl⟩ | rfl)
        | contradiction
        | (simp only [c_8, c_18, if_true, if_false, and_self, and_true, true_and, not_true_eq_false, not_false_eq_true, and_false, false_and, or_true, true_or, or_false, false_or, or_self, Bool.false_eq_true, reduceCtorEq, nl10, nl20, nl30, nl40, nl50, nl60, nl70, nl12, nl13, nl21, nl23, nl31, nl32]; contradiction)
        | (exfalso; simp_all; done)
        | simp_all

def a_X7_cost (M : Nat → Nat → Int32) (L : Nat → Nat → Int64) (w : Int32) (n : Int32) : fR := (if (0 ≤ w ∧ w < (M 18 4) ∧ w < 6) then (if (0 ≤ n ∧ n ≤ 24) then ((wageF (M (30 + w.toNatClampNeg) 1) (M (30 + w.toNatClampNeg) 2) (M (30 + w.toNatClampNeg) 3) (M (30 + w.toNatClampNeg) 4) (M 18 5) n), M, L) else ((-6), (rfM M (-6)), L)) else ((-1), (rfM M (-1)), L))
set_option maxHeartbeats 1000000 in
set_option maxRecDepth 100000 in
theorem c_X7_cost (l : Launch) (E : fE) (M : Nat → Nat → Int32) (L : Nat → Nat → Int64) (w : Int32) (n : Int32) : Met l yX7_cost (wl yX7_cost cX7_cost 3 (some .int)) (fRm 2 44) (va_Pc [.ref (fad E 0), .int w, .int n] (fPre E M L)) (fQi E (fun r u => u = ((a_X7_cost M L w n).2.1, (a_X7_cost M L w n).2.2) ∧ r = (a_X7_cost M L w n).1)) 0 0 (fA E) := by
  refine f_head (by decide) (Nat.le_of_ble_eq_true rfl) ?_
  intro pg ev s mi below meth cd ls X hr hlk hP hS hl
  have hx := X.1.1
  have hb := X.1.2.1
  have hl : lv_has ls 3 [(0, .ref (fad E 0)), (1, .int w), (2, .int n)] := hl
  refine lv_aload_n hx hb dX7_cost_0 rfl (lv_at hl 0 rfl) ?_
  refine f_get X hP (T := TX7) (ci := 7) (k := 0) rfl inX7 rfl 1 (by decide) m_1_232 rfl (v := .ref (fad E 18)) rfl dX7_cost_1 ?_
  refine lv_iload_n hx hb dX7_cost_4 rfl (lv_at hl 1 rfl) ?_
  refine f_iV (n := 1) X hP hS [.int w] [] (c_X1_hasWaiter l E M L 18 w rfl) m_2_89 wi_X1_hasWaiter rfl rfl (by decide) (by decide +kernel) ⟨Nat.le_of_ble_eq_true rfl, Nat.le_of_ble_eq_true rfl⟩ rfl hl rfl (Nat.le_of_ble_eq_true rfl) ⟨Nat.zero_le _, Nat.zero_le _⟩ dX7_cost_5 (fun H locs hP hS => ?_)
  refine lv_if_ne (tgt := 17) hx hb dX7_cost_8 (by decide) (fun c_8 => ?_) (fun c_8 => ?_)
  · have c_8 := bI1 c_8
    refine lv_iload_n hx hb dX7_cost_17 rfl (lv_at hl 2 rfl) ?_
    refine lv_iconst (v := 0) hx hb dX7_cost_18 (by decide) ?_
    refine lv_bipush (v := 24) hx hb dX7_cost_19 (by decide) ?_
    refine f_iS (n := 3) X hP hS [.int n, .int 0, .int 24] [] (c_X7_within l E M L n 0 24) m_2_26 wi_X7_within (by decide +kernel) ⟨Nat.le_of_ble_eq_true rfl, Nat.le_of_ble_eq_true rfl⟩ rfl hl rfl (Nat.le_of_ble_eq_true rfl) ⟨Nat.zero_le _, Nat.zero_le _⟩ dX7_cost_21 (fun H locs hP hS => ?_)
    refine lv_if_ne (tgt := 34) hx hb dX7_cost_24 (by decide) (fun c_24 => ?_) (fun c_24 => ?_)
    · have c_24 := bI1 c_24
      refine lv_aload_n hx hb dX7_cost_34 rfl (lv_at hl 0 rfl) ?_
      refine f_get X hP (T := TX7) (ci := 7) (k := 0) rfl inX7 rfl 1 (by decide) m_1_232 rfl (v := .ref (fad E 18)) rfl dX7_cost_35 ?_
      refine f_get X hP (T := TX1) (ci := 1) (k := 18) rfl inX1 rfl 1 (by decide) m_1_112 rfl (v := .ref (fad E 20)) rfl dX7_cost_38 ?_
      refine lv_iload_n hx hb dX7_cost_41 rfl (lv_at hl 1 rfl) ?_
      have hix_1 : fIx w 6 w.toNatClampNeg := by
        first
          | exact fIx_le 5 c_8.1 c_8.2 (by decide)
          | exact fIx_le 5 c_24.1 c_24.2 (by decide)
          | exact fIx_lt 6 c_8.1 c_8.2.2 (by decide)
          | exact fIx_lt 6 c_24.1 c_24.2.2 (by decide)
          | exact fIx_le 5 (rr0 c_8).1.1 (rr0 c_8).1.2 (by decide)
          | exact fIx_le 5 (rr0 c_24).1.1 (rr0 c_24).1.2 (by decide)
          | (refine fIx_lt 6 ?_ ?_ (by decide) <;> (simp only [Int32.lt_iff_toInt_lt, Int32.le_iff_toInt_le, Int32.not_lt, Int32.not_le, ← Int32.toInt_inj] at *; omega))
      have hlt_1 := hix_1.2.2
      refine f_aald X hP (t := 13) (d := 10) (n := 6) (r := w.toNatClampNeg) rfl rfl (.inr (.inr (.inl ⟨rfl, rfl⟩))) hix_1 (30 + w.toNatClampNeg) (by omega) dX7_cost_42 ?_
      refine lv_iload_n hx hb dX7_cost_43 rfl (lv_at hl 2 rfl) ?_
      refine lv_aload_n hx hb dX7_cost_44 rfl (lv_at hl 0 rfl) ?_
      refine f_get X hP (T := TX7) (ci := 7) (k := 0) rfl inX7 rfl 1 (by decide) m_1_232 rfl (v := .ref (fad E 18)) rfl dX7_cost_45 ?_
      refine f_get X hP (T := TX1) (ci := 1) (k := 18) rfl inX1 rfl 5 (by decide) m_1_123 rfl (v := .int (M 18 5)) rfl dX7_cost_48 ?_
      refine f_iV (n := 2) X hP hS [.int n, .int (M 18 5)] [] (c_X6_wageFor l E M L (30 + w.toNatClampNeg) n (M 18 5) (sh_gw (g := 18) rfl (by omega))) m_2_204 wi_X6_wageFor (sh_gw (g := 18) rfl (by omega)) rfl (by decide) (by decide +kernel) ⟨Nat.le_of_ble_eq_true rfl, Nat.le_of_ble_eq_true rfl⟩ rfl hl rfl (Nat.le_of_ble_eq_true rfl) ⟨Nat.zero_le _, Nat.zero_le _⟩ dX7_cost_51 (fun H locs hP hS => ?_)
      refine f_ir X hlk hr (v := (wageF (M (30 + w.toNatClampNeg) 1) (M (30 + w.toNatClampNeg) 2) (M (30 + w.toNatClampNeg) 3) (M (30 + w.toNatClampNeg) 4) (M 18 5) n)) rfl hP hS ?_ dX7_cost_54
      unfold a_X7_cost
      (first | rw [if_pos c_8] | rw [if_neg c_8] | rw [if_neg (Bool.eq_false_iff.mp c_8)] | skip)
      (first | rw [if_pos c_24] | rw [if_neg c_24] | rw [if_neg (Bool.eq_false_iff.mp c_24)] | skip)
      (try dsimp only)
      first
        | done
        | exact ⟨rfl, rfl⟩
        | rfl
        | (simp only [c_8, c_24, if_true, if_false, and_self, and_true, true_and, not_true_eq_false, not_false_eq_true, and_false, false_and, or_true, true_or, or_false, false_or, or_self, Bool.false_eq_true, reduceCtorEq, nl10, nl20, nl30, nl40, nl50, nl60, nl70, nl12, nl13, nl21, nl23, nl31, nl32]; first | done | exact ⟨rfl, rfl⟩ | rfl)
        | contradiction
        | (simp only [c_8, c_24, if_true, if_false, and_self, and_true, true_and, not_true_eq_false, not_false_eq_true, and_false, false_and, or_true, true_or, or_false, false_or, or_self, Bool.false_eq_true, reduceCtorEq, nl10, nl20, nl30, nl40, nl50, nl60, nl70, nl12, nl13, nl21, nl23, nl31, nl32]; contradiction)
        | (exfalso; simp_all; done)
        | simp_all
    · have c_24 := bI0 c_24
      refine lv_aload_n hx hb dX7_cost_27 rfl (lv_at hl 0 rfl) ?_
      refine lv_bipush (v := (-6)) hx hb dX7_cost_28 (by decide) ?_
      refine f_iV (n := 1) X hP hS [.int (-6)] [] (c_X7_refuse l E M L (-6)) m_2_29 wi_X7_refuse rfl rfl (by decide) (by decide +kernel) ⟨Nat.le_of_ble_eq_true rfl, Nat.le_of_ble_eq_true rfl⟩ rfl hl rfl (Nat.le_of_ble_eq_true rfl) ⟨Nat.zero_le _, Nat.zero_le _⟩ dX7_cost_30 (fun H locs hP hS => ?_)
      refine f_ir X hlk hr (v := (-6)) rfl hP hS ?_ dX7_cost_33
      unfold a_X7_cost
      (first | rw [if_pos c_8] | rw [if_neg c_8] | rw [if_neg (Bool.eq_false_iff.mp c_8)] | skip)
      (first | rw [if_pos c_24] | rw [if_neg c_24] | rw [if_neg (Bool.eq_false_iff.mp c_24)] | skip)
      (try dsimp only)
      first
        | done
        | exact ⟨rfl, rfl⟩
        | rfl
        | (simp only [c_8, c_24, if_true, if_false, and_self, and_true, true_and, not_true_eq_false, not_false_eq_true, and_false, false_and, or_true, true_or, or_false, false_or, or_self, Bool.false_eq_true, reduceCtorEq, nl10, nl20, nl30, nl40, nl50, nl60, nl70, nl12, nl13, nl21, nl23, nl31, nl32]; first | done | exact ⟨rfl, rfl⟩ | rfl)
        | contradiction
        | (simp only [c_8, c_24, if_true, if_false, and_self, and_true, true_and, not_true_eq_false, not_false_eq_true, and_false, false_and, or_true, true_or, or_false, false_or, or_self, Bool.false_eq_true, reduceCtorEq, nl10, nl20, nl30, nl40, nl50, nl60, nl70, nl12, nl13, nl21, nl23, nl31, nl32]; contradiction)
        | (exfalso; simp_all; done)
        | simp_all
  · have c_8 := bI0 c_8
    refine lv_aload_n hx hb dX7_cost_11 rfl (lv_at hl 0 rfl) ?_
    refine lv_iconst (v := (-1)) hx hb dX7_cost_12 (by decide) ?_
    refine f_iV (n := 1) X hP hS [.int (-1)] [] (c_X7_refuse l E M L (-1)) m_2_29 wi_X7_refuse rfl rfl (by decide) (by decide +kernel) ⟨Nat.le_of_ble_eq_true rfl, Nat.le_of_ble_eq_true rfl⟩ rfl hl rfl (Nat.le_of_ble_eq_true rfl) ⟨Nat.zero_le _, Nat.zero_le _⟩ dX7_cost_13 (fun H locs hP hS => ?_)
    refine f_ir X hlk hr (v := (-1)) rfl hP hS ?_ dX7_cost_16
    unfold a_X7_cost
    (first | rw [if_pos c_8] | rw [if_neg c_8] | rw [if_neg (Bool.eq_false_iff.mp c_8)] | skip)
    (try dsimp only)
    first
      | done
      | exact ⟨rfl, rfl⟩
      | rfl
      | (simp only [c_8, if_true, if_false, and_self, and_true, true_and, not_true_eq_false, not_false_eq_true, and_false, false_and, or_true, true_or, or_false, false_or, or_self, Bool.false_eq_true, reduceCtorEq, nl10, nl20, nl30, nl40, nl50, nl60, nl70, nl12, nl13, nl21, nl23, nl31, nl32]; first | done | exact ⟨rfl, rfl⟩ | rfl)
      | contradiction
      | (simp only [c_8, if_true, if_false, and_self, and_true, true_and, not_true_eq_false, not_false_eq_true, and_false, false_and, or_true, true_or, or_false, false_or, or_self, Bool.false_eq_true, reduceCtorEq, nl10, nl20, nl30, nl40, nl50, nl60, nl70, nl12, nl13, nl21, nl23, nl31, nl32]; contradiction)
      | (exfalso; simp_all; done)
      | simp_all

def a_X7_fault (M : Nat → Nat → Int32) (L : Nat → Nat → Int64) : fR := ((M 0 8), M, L)
set_option maxHeartbeats 1000000 in
set_option maxRecDepth 100000 in
theorem c_X7_fault (l : Launch) (E : fE) (M : Nat → Nat → Int32) (L : Nat → Nat → Int64) : Met l yX7_fault (wl yX7_fault cX7_fault 1 (some .int)) (fRm 0 0) (va_Pc [.ref (fad E 0)] (fPre E M L)) (fQi E (fun r u => u = ((a_X7_fault M L).2.1, (a_X7_fault M L).2.2) ∧ r = (a_X7_fault M L).1)) 0 0 (fA E) := by
  refine f_head (by decide) (Nat.le_of_ble_eq_true rfl) ?_
  intro pg ev s mi below meth cd ls X hr hlk hP hS hl
  have hx := X.1.1
  have hb := X.1.2.1
  have hl : lv_has ls 1 [(0, .ref (fad E 0))] := hl
  refine lv_aload_n hx hb dX7_fault_0 rfl (lv_at hl 0 rfl) ?_
  refine f_get X hP (T := TX7) (ci := 7) (k := 0) rfl inX7 rfl 8 (by decide) m_1_239 rfl (v := .int (M 0 8)) rfl dX7_fault_1 ?_
  refine f_ir X hlk hr (v := (M 0 8)) rfl hP hS ?_ dX7_fault_4
  unfold a_X7_fault
  (try dsimp only)
  first
    | done
    | exact ⟨rfl, rfl⟩
    | rfl
    | (simp only [if_true, if_false, and_self, and_true, true_and, not_true_eq_false, not_false_eq_true, and_false, false_and, or_true, true_or, or_false, false_or, or_self, Bool.false_eq_true, reduceCtorEq, nl10, nl20, nl30, nl40, nl50, nl60, nl70, nl12, nl13, nl21, nl23, nl31, nl32]; first | done | exact ⟨rfl, rfl⟩ | rfl)
    | contradiction
    | (simp only [if_true, if_false, and_self, and_true, true_and, not_true_eq_false, not_false_eq_true, and_false, false_and, or_true, true_or, or_false, false_or, or_self, Bool.false_eq_true, reduceCtorEq, nl10, nl20, nl30, nl40, nl50, nl60, nl70, nl12, nl13, nl21, nl23, nl31, nl32]; contradiction)
    | (exfalso; simp_all; done)
    | simp_all

def a_X7_by (M : Nat → Nat → Int32) (L : Nat → Nat → Int64) (t : Int32) (q : Int32) : fR := (if (0 ≤ t ∧ t < (M 18 3) ∧ t < 8) then (if (0 ≤ q ∧ q ≤ 23) then ((byF (M (22 + t.toNatClampNeg) 1) (M (22 + t.toNatClampNeg) 2) q), M, L) else ((-6), (rfM M (-6)), L)) else ((-1), (rfM M (-1)), L))
set_option maxHeartbeats 1000000 in
set_option maxRecDepth 100000 in
theorem c_X7_by (l : Launch) (E : fE) (M : Nat → Nat → Int32) (L : Nat → Nat → Int64) (t : Int32) (q : Int32) : Met l yX7_by (wl yX7_by cX7_by 3 (some .int)) (fRm 2 44) (va_Pc [.ref (fad E 0), .int t, .int q] (fPre E M L)) (fQi E (fun r u => u = ((a_X7_by M L t q).2.1, (a_X7_by M L t q).2.2) ∧ r = (a_X7_by M L t q).1)) 0 0 (fA E) := by
  refine f_head (by decide) (Nat.le_of_ble_eq_true rfl) ?_
  intro pg ev s mi below meth cd ls X hr hlk hP hS hl
  have hx := X.1.1
  have hb := X.1.2.1
  have hl : lv_has ls 3 [(0, .ref (fad E 0)), (1, .int t), (2, .int q)] := hl
  refine lv_aload_n hx hb dX7_by_0 rfl (lv_at hl 0 rfl) ?_
  refine f_get X hP (T := TX7) (ci := 7) (k := 0) rfl inX7 rfl 1 (by decide) m_1_232 rfl (v := .ref (fad E 18)) rfl dX7_by_1 ?_
  refine lv_iload_n hx hb dX7_by_4 rfl (lv_at hl 1 rfl) ?_
  refine f_iV (n := 1) X hP hS [.int t] [] (c_X1_hasThing l E M L 18 t rfl) m_2_158 wi_X1_hasThing rfl rfl (by decide) (by decide +kernel) ⟨Nat.le_of_ble_eq_true rfl, Nat.le_of_ble_eq_true rfl⟩ rfl hl rfl (Nat.le_of_ble_eq_true rfl) ⟨Nat.zero_le _, Nat.zero_le _⟩ dX7_by_5 (fun H locs hP hS => ?_)
  refine lv_if_ne (tgt := 17) hx hb dX7_by_8 (by decide) (fun c_8 => ?_) (fun c_8 => ?_)
  · have c_8 := bI1 c_8
    refine lv_iload_n hx hb dX7_by_17 rfl (lv_at hl 2 rfl) ?_
    refine f_iS (n := 1) X hP hS [.int q] [] (c_X7_isQuarter l E M L q) m_3_117 wi_X7_isQuarter (by decide +kernel) ⟨Nat.le_of_ble_eq_true rfl, Nat.le_of_ble_eq_true rfl⟩ rfl hl rfl (Nat.le_of_ble_eq_true rfl) ⟨Nat.zero_le _, Nat.zero_le _⟩ dX7_by_18 (fun H locs hP hS => ?_)
    refine lv_if_ne (tgt := 31) hx hb dX7_by_21 (by decide) (fun c_21 => ?_) (fun c_21 => ?_)
    · have c_21 := bI1 c_21
      refine lv_aload_n hx hb dX7_by_31 rfl (lv_at hl 0 rfl) ?_
      refine f_get X hP (T := TX7) (ci := 7) (k := 0) rfl inX7 rfl 1 (by decide) m_1_232 rfl (v := .ref (fad E 18)) rfl dX7_by_32 ?_
      refine f_get X hP (T := TX1) (ci := 1) (k := 18) rfl inX1 rfl 0 (by decide) m_1_108 rfl (v := .ref (fad E 19)) rfl dX7_by_35 ?_
      refine lv_iload_n hx hb dX7_by_38 rfl (lv_at hl 1 rfl) ?_
      have hix_1 : fIx t 8 t.toNatClampNeg := by
        first
          | exact fIx_le 7 c_8.1 c_8.2 (by decide)
          | exact fIx_le 7 c_21.1 c_21.2 (by decide)
          | exact fIx_lt 8 c_8.1 c_8.2.2 (by decide)
          | exact fIx_lt 8 c_21.1 c_21.2.2 (by decide)
          | exact fIx_le 7 (rr0 c_8).1.1 (rr0 c_8).1.2 (by decide)
          | exact fIx_le 7 (rr0 c_21).1.1 (rr0 c_21).1.2 (by decide)
          | (refine fIx_lt 8 ?_ ?_ (by decide) <;> (simp only [Int32.lt_iff_toInt_lt, Int32.le_iff_toInt_le, Int32.not_lt, Int32.not_le, ← Int32.toInt_inj] at *; omega))
      have hlt_1 := hix_1.2.2
      refine f_aald X hP (t := 12) (d := 3) (n := 8) (r := t.toNatClampNeg) rfl rfl (.inr (.inl ⟨rfl, rfl⟩)) hix_1 (22 + t.toNatClampNeg) (by omega) dX7_by_39 ?_
      refine lv_iload_n hx hb dX7_by_40 rfl (lv_at hl 2 rfl) ?_
      refine f_iV (n := 1) X hP hS [.int q] [] (c_X5_casesBy l E M L (22 + t.toNatClampNeg) q (sh_gt (g := 18) rfl (by omega))) m_3_120 wi_X5_casesBy (sh_gt (g := 18) rfl (by omega)) rfl (by decide) (by decide +kernel) ⟨Nat.le_of_ble_eq_true rfl, Nat.le_of_ble_eq_true rfl⟩ rfl hl rfl (Nat.le_of_ble_eq_true rfl) ⟨Nat.zero_le _, Nat.zero_le _⟩ dX7_by_41 (fun H locs hP hS => ?_)
      refine f_ir X hlk hr (v := (byF (M (22 + t.toNatClampNeg) 1) (M (22 + t.toNatClampNeg) 2) q)) rfl hP hS ?_ dX7_by_44
      unfold a_X7_by
      (first | rw [if_pos c_8] | rw [if_neg c_8] | rw [if_neg (Bool.eq_false_iff.mp c_8)] | skip)
      (first | rw [if_pos c_21] | rw [if_neg c_21] | rw [if_neg (Bool.eq_false_iff.mp c_21)] | skip)
      (try dsimp only)
      first
        | done
        | exact ⟨rfl, rfl⟩
        | rfl
        | (simp only [c_8, c_21, if_true, if_false, and_self, and_true, true_and, not_true_eq_false, not_false_eq_true, and_false, false_and, or_true, true_or, or_false, false_or, or_self, Bool.false_eq_true, reduceCtorEq, nl10, nl20, nl30, nl40, nl50, nl60, nl70, nl12, nl13, nl21, nl23, nl31, nl32]; first | done | exact ⟨rfl, rfl⟩ | rfl)
        | contradiction
        | (simp only [c_8, c_21, if_true, if_false, and_self, and_true, true_and, not_true_eq_false, not_false_eq_true, and_false, false_and, or_true, true_or, or_false, false_or, or_self, Bool.false_eq_true, reduceCtorEq, nl10, nl20, nl30, nl40, nl50, nl60, nl70, nl12, nl13, nl21, nl23, nl31, nl32]; contradiction)
        | (exfalso; simp_all; done)
        | simp_all
    · have c_21 := bI0 c_21
      refine lv_aload_n hx hb dX7_by_24 rfl (lv_at hl 0 rfl) ?_
      refine lv_bipush (v := (-6)) hx hb dX7_by_25 (by decide) ?_
      refine f_iV (n := 1) X hP hS [.int (-6)] [] (c_X7_refuse l E M L (-6)) m_2_29 wi_X7_refuse rfl rfl (by decide) (by decide +kernel) ⟨Nat.le_of_ble_eq_true rfl, Nat.le_of_ble_eq_true rfl⟩ rfl hl rfl (Nat.le_of_ble_eq_true rfl) ⟨Nat.zero_le _, Nat.zero_le _⟩ dX7_by_27 (fun H locs hP hS => ?_)
      refine f_ir X hlk hr (v := (-6)) rfl hP hS ?_ dX7_by_30
      unfold a_X7_by
      (first | rw [if_pos c_8] | rw [if_neg c_8] | rw [if_neg (Bool.eq_false_iff.mp c_8)] | skip)
      (first | rw [if_pos c_21] | rw [if_neg c_21] | rw [if_neg (Bool.eq_false_iff.mp c_21)] | skip)
      (try dsimp only)
      first
        | done
        | exact ⟨rfl, rfl⟩
        | rfl
        | (simp only [c_8, c_21, if_true, if_false, and_self, and_true, true_and, not_true_eq_false, not_false_eq_true, and_false, false_and, or_true, true_or, or_false, false_or, or_self, Bool.false_eq_true, reduceCtorEq, nl10, nl20, nl30, nl40, nl50, nl60, nl70, nl12, nl13, nl21, nl23, nl31, nl32]; first | done | exact ⟨rfl, rfl⟩ | rfl)
        | contradiction
        | (simp only [c_8, c_21, if_true, if_false, and_self, and_true, true_and, not_true_eq_false, not_false_eq_true, and_false, false_and, or_true, true_or, or_false, false_or, or_self, Bool.false_eq_true, reduceCtorEq, nl10, nl20, nl30, nl40, nl50, nl60, nl70, nl12, nl13, nl21, nl23, nl31, nl32]; contradiction)
        | (exfalso; simp_all; done)
        | simp_all
  · have c_8 := bI0 c_8
    refine lv_aload_n hx hb dX7_by_11 rfl (lv_at hl 0 rfl) ?_
    refine lv_iconst (v := (-1)) hx hb dX7_by_12 (by decide) ?_
    refine f_iV (n := 1) X hP hS [.int (-1)] [] (c_X7_refuse l E M L (-1)) m_2_29 wi_X7_refuse rfl rfl (by decide) (by decide +kernel) ⟨Nat.le_of_ble_eq_true rfl, Nat.le_of_ble_eq_true rfl⟩ rfl hl rfl (Nat.le_of_ble_eq_true rfl) ⟨Nat.zero_le _, Nat.zero_le _⟩ dX7_by_13 (fun H locs hP hS => ?_)
    refine f_ir X hlk hr (v := (-1)) rfl hP hS ?_ dX7_by_16
    unfold a_X7_by
    (first | rw [if_pos c_8] | rw [if_neg c_8] | rw [if_neg (Bool.eq_false_iff.mp c_8)] | skip)
    (try dsimp only)
    first
      | done
      | exact ⟨rfl, rfl⟩
      | rfl
      | (simp only [c_8, if_true, if_false, and_self, and_true, true_and, not_true_eq_false, not_false_eq_true, and_false, false_and, or_true, true_or, or_false, false_or, or_self, Bool.false_eq_true, reduceCtorEq, nl10, nl20, nl30, nl40, nl50, nl60, nl70, nl12, nl13, nl21, nl23, nl31, nl32]; first | done | exact ⟨rfl, rfl⟩ | rfl)
      | contradiction
      | (simp only [c_8, if_true, if_false, and_self, and_true, true_and, not_true_eq_false, not_false_eq_true, and_false, false_and, or_true, true_or, or_false, false_or, or_self, Bool.false_eq_true, reduceCtorEq, nl10, nl20, nl30, nl40, nl50, nl60, nl70, nl12, nl13, nl21, nl23, nl31, nl32]; contradiction)
      | (exfalso; simp_all; done)
      | simp_all

def a_X7_stop (M : Nat → Nat → Int32) (L : Nat → Nat → Int64) (t : Int32) (w : Int32) (what : Int32) : fR := (if (0 ≤ t ∧ t < (M 18 3) ∧ t < 8) then (if (0 ≤ w ∧ w < (M 18 4) ∧ w < 6) then (if (0 ≤ what ∧ what ≤ 1) then (if what = 0 then (((stopI (M (22 + t.toNatClampNeg) 1) (M (22 + t.toNatClampNeg) 2) (M (22 + t.toNatClampNeg) 3) (M (22 + t.toNatClampNeg) 4) (M (30 + w.toNatClampNeg) 1) (M (30 + w.toNatClampNeg) 2) (M (30 + w.toNatClampNeg) 3) (M (30 + w.toNatClampNeg) 4) (M 18 5)).2), M, L) else (((stopI (M (22 + t.toNatClampNeg) 1) (M (22 + t.toNatClampNeg) 2) (M (22 + t.toNatClampNeg) 3) (M (22 + t.toNatClampNeg) 4) (M (30 + w.toNatClampNeg) 1) (M (30 + w.toNatClampNeg) 2) (M (30 + w.toNatClampNeg) 3) (M (30 + w.toNatClampNeg) 4) (M 18 5)).1), M, L)) else (((-5) - 10), (rfM M (-5)), L)) else (((-1) - 10), (rfM M (-1)), L)) else (((-1) - 10), (rfM M (-1)), L))
set_option maxHeartbeats 1000000 in
set_option maxRecDepth 100000 in
theorem c_X7_stop (l : Launch) (E : fE) (M : Nat → Nat → Int32) (L : Nat → Nat → Int64) (t : Int32) (w : Int32) (what : Int32) (hTs : ∀ t, t < 8 → okT M (22 + t)) (hWs : ∀ w, w < 6 → okW M (30 + w)) (hH : 0 ≤ M 18 5 ∧ M 18 5 ≤ 9) : Met l yX7_stop (wl yX7_stop cX7_stop 6 (some .int)) (fRm 5 120) (va_Pc [.ref (fad E 0), .int t, .int w, .int what] (fPre E M L)) (fQi E (fun r u => u = ((a_X7_stop M L t w what).2.1, (a_X7_stop M L t w what).2.2) ∧ r = (a_X7_stop M L t w what).1)) 0 0 (fA E) := by
  refine f_head (by decide) (Nat.le_of_ble_eq_true rfl) ?_
  intro pg ev s mi below meth cd ls X hr hlk hP hS hl
  have hx := X.1.1
  have hb := X.1.2.1
  have hl : lv_has ls 6 [(0, .ref (fad E 0)), (1, .int t), (2, .int w), (3, .int what)] := hl
  refine lv_aload_n hx hb dX7_stop_0 rfl (lv_at hl 0 rfl) ?_
  refine f_get X hP (T := TX7) (ci := 7) (k := 0) rfl inX7 rfl 1 (by decide) m_1_232 rfl (v := .ref (fad E 18)) rfl dX7_stop_1 ?_
  refine lv_iload_n hx hb dX7_stop_4 rfl (lv_at hl 1 rfl) ?_
  refine f_iV (n := 1) X hP hS [.int t] [] (c_X1_hasThing l E M L 18 t rfl) m_2_158 wi_X1_hasThing rfl rfl (by decide) (by decide +kernel) ⟨Nat.le_of_ble_eq_true rfl, Nat.le_of_ble_eq_true rfl⟩ rfl hl rfl (Nat.le_of_ble_eq_true rfl) ⟨Nat.zero_le _, Nat.zero_le _⟩ dX7_stop_5 (fun H locs hP hS => ?_)
  refine lv_if_eq (tgt := 22) hx hb dX7_stop_8 (by decide) (fun c_8 => ?_) (fun c_8 => ?_)
  · have c_8 := bI0 c_8
    refine lv_aload_n hx hb dX7_stop_22 rfl (lv_at hl 0 rfl) ?_
    refine lv_iconst (v := (-1)) hx hb dX7_stop_23 (by decide) ?_
    refine f_iV (n := 1) X hP hS [.int (-1)] [] (c_X7_refuseApart l E M L (-1)) m_3_130 wi_X7_refuseApart rfl rfl (by decide) (by decide +kernel) ⟨Nat.le_of_ble_eq_true rfl, Nat.le_of_ble_eq_true rfl⟩ rfl hl rfl (Nat.le_of_ble_eq_true rfl) ⟨Nat.zero_le _, Nat.zero_le _⟩ dX7_stop_24 (fun H locs hP hS => ?_)
    refine f_ir X hlk hr (v := ((-1) - 10)) rfl hP hS ?_ dX7_stop_27
    unfold a_X7_stop
    (first | rw [if_pos c_8] | rw [if_neg c_8] | rw [if_neg (Bool.eq_false_iff.mp c_8)] | skip)
    (try dsimp only)
    first
      | done
      | exact ⟨rfl, rfl⟩
      | rfl
      | (simp only [c_8, if_true, if_false, and_self, and_true, true_and, not_true_eq_false, not_false_eq_true, and_false, false_and, or_true, true_or, or_false, false_or, or_self, Bool.false_eq_true, reduceCtorEq, nl10, nl20, nl30, nl40, nl50, nl60, nl70, nl12, nl13, nl21, nl23, nl31, nl32]; first | done | exact ⟨rfl, rfl⟩ | rfl)
      | contradiction
      | (simp only [c_8, if_true, if_false, and_self, and_true, true_and, not_true_eq_false, not_false_eq_true, and_false, false_and, or_true, true_or, or_false, false_or, or_self, Bool.false_eq_true, reduceCtorEq, nl10, nl20, nl30, nl40, nl50, nl60, nl70, nl12, nl13, nl21, nl23, nl31, nl32]; contradiction)
      | (exfalso; simp_all; done)
      | simp_all
  · have c_8 := bI1 c_8
    refine lv_aload_n hx hb dX7_stop_11 rfl (lv_at hl 0 rfl) ?_
    refine f_get X hP (T := TX7) (ci := 7) (k := 0) rfl inX7 rfl 1 (by decide) m_1_232 rfl (v := .ref (fad E 18)) rfl dX7_stop_12 ?_
    refine lv_iload_n hx hb dX7_stop_15 rfl (lv_at hl 2 rfl) ?_
    refine f_iV (n := 1) X hP hS [.int w] [] (c_X1_hasWaiter l E M L 18 w rfl) m_2_89 wi_X1_hasWaiter rfl rfl (by decide) (by decide +kernel) ⟨Nat.le_of_ble_eq_true rfl, Nat.le_of_ble_eq_true rfl⟩ rfl hl rfl (Nat.le_of_ble_eq_true rfl) ⟨Nat.zero_le _, Nat.zero_le _⟩ dX7_stop_16 (fun H locs hP hS => ?_)
    refine lv_if_ne (tgt := 28) hx hb dX7_stop_19 (by decide) (fun c_19 => ?_) (fun c_19 => ?_)
    · have c_19 := bI1 c_19
      refine lv_iload_n hx hb dX7_stop_28 rfl (lv_at hl 3 rfl) ?_
      refine lv_iconst (v := 0) hx hb dX7_stop_29 (by decide) ?_
      refine lv_iconst (v := 1) hx hb dX7_stop_30 (by decide) ?_
      refine f_iS (n := 3) X hP hS [.int what, .int 0, .int 1] [] (c_X7_within l E M L what 0 1) m_2_26 wi_X7_within (by decide +kernel) ⟨Nat.le_of_ble_eq_true rfl, Nat.le_of_ble_eq_true rfl⟩ rfl hl rfl (Nat.le_of_ble_eq_true rfl) ⟨Nat.zero_le _, Nat.zero_le _⟩ dX7_stop_31 (fun H locs hP hS => ?_)
      refine lv_if_ne (tgt := 44) hx hb dX7_stop_34 (by decide) (fun c_34 => ?_) (fun c_34 => ?_)
      · have c_34 := bI1 c_34
        refine lv_aload_n hx hb dX7_stop_44 rfl (lv_at hl 0 rfl) ?_
        refine f_get X hP (T := TX7) (ci := 7) (k := 0) rfl inX7 rfl 1 (by decide) m_1_232 rfl (v := .ref (fad E 18)) rfl dX7_stop_45 ?_
        refine f_get X hP (T := TX1) (ci := 1) (k := 18) rfl inX1 rfl 0 (by decide) m_1_108 rfl (v := .ref (fad E 19)) rfl dX7_stop_48 ?_
        refine lv_iload_n hx hb dX7_stop_51 rfl (lv_at hl 1 rfl) ?_
        have hix_1 : fIx t 8 t.toNatClampNeg := by
          first
            | exact fIx_le 7 c_8.1 c_8.2 (by decide)
            | exact fIx_le 7 c_19.1 c_19.2 (by decide)
            | exact fIx_le 7 c_34.1 c_34.2 (by decide)
            | exact fIx_lt 8 c_8.1 c_8.2.2 (by decide)
            | exact fIx_lt 8 c_19.1 c_19.2.2 (by decide)
            | exact fIx_lt 8 c_34.1 c_34.2.2 (by decide)
            | exact fIx_le 7 (rr0 c_8).1.1 (rr0 c_8).1.2 (by decide)
            | exact fIx_le 7 (rr0 c_19).1.1 (rr0 c_19).1.2 (by decide)
            | exact fIx_le 7 (rr0 c_34).1.1 (rr0 c_34).1.2 (by decide)
            | (refine fIx_lt 8 ?_ ?_ (by decide) <;> (simp only [Int32.lt_iff_toInt_lt, Int32.le_iff_toInt_le, Int32.not_lt, Int32.not_le, ← Int32.toInt_inj] at *; omega))
        have hlt_1 := hix_1.2.2
        refine f_aald X hP (t := 12) (d := 3) (n := 8) (r := t.toNatClampNeg) rfl rfl (.inr (.inl ⟨rfl, rfl⟩)) hix_1 (22 + t.toNatClampNeg) (by omega) dX7_stop_52 ?_
        refine lv_astore (lv' := [(4, .ref (fad E (22 + t.toNatClampNeg))), (0, .ref (fad E 0)), (1, .int t), (2, .int w), (3, .int what)]) hx hb dX7_stop_53 hl (by decide) rfl (fun ls hl => ?_)
        refine lv_aload_n hx hb dX7_stop_55 rfl (lv_at hl 1 rfl) ?_
        refine f_get X hP (T := TX7) (ci := 7) (k := 0) rfl inX7 rfl 1 (by decide) m_1_232 rfl (v := .ref (fad E 18)) rfl dX7_stop_56 ?_
        refine f_get X hP (T := TX1) (ci := 1) (k := 18) rfl inX1 rfl 1 (by decide) m_1_112 rfl (v := .ref (fad E 20)) rfl dX7_stop_59 ?_
        refine lv_iload_n hx hb dX7_stop_62 rfl (lv_at hl 3 rfl) ?_
        have hix_2 : fIx w 6 w.toNatClampNeg := by
          first
            | exact fIx_le 5 c_8.1 c_8.2 (by decide)
            | exact fIx_le 5 c_19.1 c_19.2 (by decide)
            | exact fIx_le 5 c_34.1 c_34.2 (by decide)
            | exact fIx_lt 6 c_8.1 c_8.2.2 (by decide)
            | exact fIx_lt 6 c_19.1 c_19.2.2 (by decide)
            | exact fIx_lt 6 c_34.1 c_34.2.2 (by decide)
            | exact fIx_le 5 (rr0 c_8).1.1 (rr0 c_8).1.2 (by decide)
            | exact fIx_le 5 (rr0 c_19).1.1 (rr0 c_19).1.2 (by decide)
            | exact fIx_le 5 (rr0 c_34).1.1 (rr0 c_34).1.2 (by decide)
            | (refine fIx_lt 6 ?_ ?_ (by decide) <;> (simp only [Int32.lt_iff_toInt_lt, Int32.le_iff_toInt_le, Int32.not_lt, Int32.not_le, ← Int32.toInt_inj] at *; omega))
        have hlt_2 := hix_2.2.2
        refine f_aald X hP (t := 13) (d := 10) (n := 6) (r := w.toNatClampNeg) rfl rfl (.inr (.inr (.inl ⟨rfl, rfl⟩))) hix_2 (30 + w.toNatClampNeg) (by omega) dX7_stop_63 ?_
        refine lv_astore (lv' := [(5, .ref (fad E (30 + w.toNatClampNeg))), (4, .ref (fad E (22 + t.toNatClampNeg))), (0, .ref (fad E 0)), (1, .int t), (2, .int w), (3, .int what)]) hx hb dX7_stop_64 hl (by decide) rfl (fun ls hl => ?_)
        refine lv_iload_n hx hb dX7_stop_66 rfl (lv_at hl 5 rfl) ?_
        refine lv_if_ne (tgt := 84) hx hb dX7_stop_67 (by decide) (fun c_67 => ?_) (fun c_67 => ?_)
        · refine lv_aload_n hx hb dX7_stop_84 rfl (lv_at hl 2 rfl) ?_
          refine f_get X hP (T := TX7) (ci := 7) (k := 0) rfl inX7 rfl 1 (by decide) m_1_232 rfl (v := .ref (fad E 18)) rfl dX7_stop_85 ?_
          refine lv_aload hx hb dX7_stop_88 (lv_at hl 1 rfl) ?_
          refine lv_aload hx hb dX7_stop_90 (lv_at hl 0 rfl) ?_
          refine f_iV (n := 2) X hP hS [.ref (fad E (22 + t.toNatClampNeg)), .ref (fad E (30 + w.toNatClampNeg))] [] (c_X1_bestGain l E M L 18 (22 + t.toNatClampNeg) (30 + w.toNatClampNeg) rfl (sh_gt (g := 18) rfl (by omega)) (sh_gw (g := 18) rfl (by omega)) (hTs _ (by omega)) (hWs _ (by omega)) hH) m_3_147 wi_X1_bestGain rfl rfl (by decide) (by decide +kernel) ⟨Nat.le_of_ble_eq_true rfl, Nat.le_of_ble_eq_true rfl⟩ rfl hl rfl (Nat.le_of_ble_eq_true rfl) ⟨Nat.zero_le _, Nat.zero_le _⟩ dX7_stop_92 (fun H locs hP hS => ?_)
          refine f_ir X hlk hr (v := ((stopI (M (22 + t.toNatClampNeg) 1) (M (22 + t.toNatClampNeg) 2) (M (22 + t.toNatClampNeg) 3) (M (22 + t.toNatClampNeg) 4) (M (30 + w.toNatClampNeg) 1) (M (30 + w.toNatClampNeg) 2) (M (30 + w.toNatClampNeg) 3) (M (30 + w.toNatClampNeg) 4) (M 18 5)).1)) rfl hP hS ?_ dX7_stop_95
          unfold a_X7_stop
          (first | rw [if_pos c_8] | rw [if_neg c_8] | rw [if_neg (Bool.eq_false_iff.mp c_8)] | skip)
          (first | rw [if_pos c_19] | rw [if_neg c_19] | rw [if_neg (Bool.eq_false_iff.mp c_19)] | skip)
          (first | rw [if_pos c_34] | rw [if_neg c_34] | rw [if_neg (Bool.eq_false_iff.mp c_34)] | skip)
          (first | rw [if_pos c_67] | rw [if_neg c_67] | rw [if_neg (Bool.eq_false_iff.mp c_67)] | skip)
          (try dsimp only)
          first
            | done
            | exact ⟨rfl, rfl⟩
            | rfl
            | (simp only [c_8, c_19, c_34, c_67, if_true, if_false, and_self, and_true, true_and, not_true_eq_false, not_false_eq_true, and_false, false_and, or_true, true_or, or_false, false_or, or_self, Bool.false_eq_true, reduceCtorEq, nl10, nl20, nl30, nl40, nl50, nl60, nl70, nl12, nl13, nl21, nl23, nl31, nl32]; first | done | exact ⟨rfl, rfl⟩ | rfl)
            | contradiction
            | (simp only [c_8, c_19, c_34, c_67, if_true, if_false, and_self, and_true, true_and, not_true_eq_false, not_false_eq_true, and_false, false_and, or_true, true_or, or_false, false_or, or_self, Bool.false_eq_true, reduceCtorEq, nl10, nl20, nl30, nl40, nl50, nl60, nl70, nl12, nl13, nl21, nl23, nl31, nl32]; contradiction)
            | (exfalso; simp_all; done)
            | simp_all
        · refine lv_aload_n hx hb dX7_stop_70 rfl (lv_at hl 2 rfl) ?_
          refine f_get X hP (T := TX7) (ci := 7) (k := 0) rfl inX7 rfl 1 (by decide) m_1_232 rfl (v := .ref (fad E 18)) rfl dX7_stop_71 ?_
          refine lv_aload hx hb dX7_stop_74 (lv_at hl 1 rfl) ?_
          refine lv_aload hx hb dX7_stop_76 (lv_at hl 0 rfl) ?_
          refine f_iV (n := 2) X hP hS [.ref (fad E (22 + t.toNatClampNeg)), .ref (fad E (30 + w.toNatClampNeg))] [] (c_X1_stopQuarter l E M L 18 (22 + t.toNatClampNeg) (30 + w.toNatClampNeg) rfl (sh_gt (g := 18) rfl (by omega)) (sh_gw (g := 18) rfl (by omega)) (hTs _ (by omega)) (hWs _ (by omega)) hH) m_3_134 wi_X1_stopQuarter rfl rfl (by decide) (by decide +kernel) ⟨Nat.le_of_ble_eq_true rfl, Nat.le_of_ble_eq_true rfl⟩ rfl hl rfl (Nat.le_of_ble_eq_true rfl) ⟨Nat.zero_le _, Nat.zero_le _⟩ dX7_stop_78 (fun H locs hP hS => ?_)
          refine lv_goto (tgt := 95) hx hb dX7_stop_81 (by decide) ?_
          refine f_ir X hlk hr (v := ((stopI (M (22 + t.toNatClampNeg) 1) (M (22 + t.toNatClampNeg) 2) (M (22 + t.toNatClampNeg) 3) (M (22 + t.toNatClampNeg) 4) (M (30 + w.toNatClampNeg) 1) (M (30 + w.toNatClampNeg) 2) (M (30 + w.toNatClampNeg) 3) (M (30 + w.toNatClampNeg) 4) (M 18 5)).2)) rfl hP hS ?_ dX7_stop_95
          unfold a_X7_stop
          (first | rw [if_pos c_8] | rw [if_neg c_8] | rw [if_neg (Bool.eq_false_iff.mp c_8)] | skip)
          (first | rw [if_pos c_19] | rw [if_neg c_19] | rw [if_neg (Bool.eq_false_iff.mp c_19)] | skip)
          (first | rw [if_pos c_34] | rw [if_neg c_34] | rw [if_neg (Bool.eq_false_iff.mp c_34)] | skip)
          (first | rw [if_pos c_67] | rw [if_neg c_67] | rw [if_neg (Bool.eq_false_iff.mp c_67)] | skip)
          (try dsimp only)
          first
            | done
            | exact ⟨rfl, rfl⟩
            | rfl
            | (simp only [c_8, c_19, c_34, c_67, if_true, if_false, and_self, and_true, true_and, not_true_eq_false, not_false_eq_true, and_false, false_and, or_true, true_or, or_false, false_or, or_self, Bool.false_eq_true, reduceCtorEq, nl10, nl20, nl30, nl40, nl50, nl60, nl70, nl12, nl13, nl21, nl23, nl31, nl32]; first | done | exact ⟨rfl, rfl⟩ | rfl)
            | contradiction
            | (simp only [c_8, c_19, c_34, c_67, if_true, if_false, and_self, and_true, true_and, not_true_eq_false, not_false_eq_true, and_false, false_and, or_true, true_or, or_false, false_or, or_self, Bool.false_eq_true, reduceCtorEq, nl10, nl20, nl30, nl40, nl50, nl60, nl70, nl12, nl13, nl21, nl23, nl31, nl32]; contradiction)
            | (exfalso; simp_all; done)
            | simp_all
      · have c_34 := bI0 c_34
        refine lv_aload_n hx hb dX7_stop_37 rfl (lv_at hl 0 rfl) ?_
        refine lv_bipush (v := (-5)) hx hb dX7_stop_38 (by decide) ?_
        refine f_iV (n := 1) X hP hS [.int (-5)] [] (c_X7_refuseApart l E M L (-5)) m_3_130 wi_X7_refuseApart rfl rfl (by decide) (by decide +kernel) ⟨Nat.le_of_ble_eq_true rfl, Nat.le_of_ble_eq_true rfl⟩ rfl hl rfl (Nat.le_of_ble_eq_true rfl) ⟨Nat.zero_le _, Nat.zero_le _⟩ dX7_stop_40 (fun H locs hP hS => ?_)
        refine f_ir X hlk hr (v := ((-5) - 10)) rfl hP hS ?_ dX7_stop_43
        unfold a_X7_stop
        (first | rw [if_pos c_8] | rw [if_neg c_8] | rw [if_neg (Bool.eq_false_iff.mp c_8)] | skip)
        (first | rw [if_pos c_19] | rw [if_neg c_19] | rw [if_neg (Bool.eq_false_iff.mp c_19)] | skip)
        (first | rw [if_pos c_34] | rw [if_neg c_34] | rw [if_neg (Bool.eq_false_iff.mp c_34)] | skip)
        (try dsimp only)
        first
          | done
          | exact ⟨rfl, rfl⟩
          | rfl
          | (simp only [c_8, c_19, c_34, if_true, if_false, and_self, and_true, true_and, not_true_eq_false, not_false_eq_true, and_false, false_and, or_true, true_or, or_false, false_or, or_self, Bool.false_eq_true, reduceCtorEq, nl10, nl20, nl30, nl40, nl50, nl60, nl70, nl12, nl13, nl21, nl23, nl31, nl32]; first | done | exact ⟨rfl, rfl⟩ | rfl)
          | contradiction
          | (simp only [c_8, c_19, c_34, if_true, if_false, and_self, and_true, true_and, not_true_eq_false, not_false_eq_true, and_false, false_and, or_true, true_or, or_false, false_or, or_self, Bool.false_eq_true, reduceCtorEq, nl10, nl20, nl30, nl40, nl50, nl60, nl70, nl12, nl13, nl21, nl23, nl31, nl32]; contradiction)
          | (exfalso; simp_all; done)
          | simp_all
    · have c_19 := bI0 c_19
      refine lv_aload_n hx hb dX7_stop_22 rfl (lv_at hl 0 rfl) ?_
      refine lv_iconst (v := (-1)) hx hb dX7_stop_23 (by decide) ?_
      refine f_iV (n := 1) X hP hS [.int (-1)] [] (c_X7_refuseApart l E M L (-1)) m_3_130 wi_X7_refuseApart rfl rfl (by decide) (by decide +kernel) ⟨Nat.le_of_ble_eq_true rfl, Nat.le_of_ble_eq_true rfl⟩ rfl hl rfl (Nat.le_of_ble_eq_true rfl) ⟨Nat.zero_le _, Nat.zero_le _⟩ dX7_stop_24 (fun H locs hP hS => ?_)
      refine f_ir X hlk hr (v := ((-1) - 10)) rfl hP hS ?_ dX7_stop_27
      unfold a_X7_stop
      (first | rw [if_pos c_8] | rw [if_neg c_8] | rw [if_neg (Bool.eq_false_iff.mp c_8)] | skip)
      (first | rw [if_pos c_19] | rw [if_neg c_19] | rw [if_neg (Bool.eq_false_iff.mp c_19)] | skip)
      (try dsimp only)
      first
        | done
        | exact ⟨rfl, rfl⟩
        | rfl
        | (simp only [c_8, c_19, if_true, if_false, and_self, and_true, true_and, not_true_eq_false, not_false_eq_true, and_false, false_and, or_true, true_or, or_false, false_or, or_self, Bool.false_eq_true, reduceCtorEq, nl10, nl20, nl30, nl40, nl50, nl60, nl70, nl12, nl13, nl21, nl23, nl31, nl32]; first | done | exact ⟨rfl, rfl⟩ | rfl)
        | contradiction
        | (simp only [c_8, c_19, if_true, if_false, and_self, and_true, true_and, not_true_eq_false, not_false_eq_true, and_false, false_and, or_true, true_or, or_false, false_or, or_self, Bool.false_eq_true, reduceCtorEq, nl10, nl20, nl30, nl40, nl50, nl60, nl70, nl12, nl13, nl21, nl23, nl31, nl32]; contradiction)
        | (exfalso; simp_all; done)
        | simp_all

def a_X7_best (M : Nat → Nat → Int32) (L : Nat → Nat → Int64) (t : Int32) (wc : Nat) : fR := (if (0 ≤ t ∧ t < (M 18 3) ∧ t < 8) then (((bestI (fun w => (stopI (M (22 + t.toNatClampNeg) 1) (M (22 + t.toNatClampNeg) 2) (M (22 + t.toNatClampNeg) 3) (M (22 + t.toNatClampNeg) 4) (M (18 + 12 + w) 1) (M (18 + 12 + w) 2) (M (18 + 12 + w) 3) (M (18 + 12 + w) 4) (M 18 5)).1) nI (-1) wc).2), M, L) else (((-1) - 10), (rfM M (-1)), L))
set_option maxHeartbeats 1000000 in
set_option maxRecDepth 100000 in
theorem c_X7_best (l : Launch) (E : fE) (M : Nat → Nat → Int32) (L : Nat → Nat → Int64) (t : Int32) (wc : Nat) (hwc : M 18 4 = nI wc) (hwc6 : wc ≤ 6) (hTs : ∀ t, t < 8 → okT M (22 + t)) (hWs : ∀ w, w < 6 → okW M (30 + w)) (hH : 0 ≤ M 18 5 ∧ M 18 5 ≤ 9) : Met l yX7_best (wl yX7_best cX7_best 2 (some .int)) (fRm 6 145) (va_Pc [.ref (fad E 0), .int t] (fPre E M L)) (fQi E (fun r u => u = ((a_X7_best M L t wc).2.1, (a_X7_best M L t wc).2.2) ∧ r = (a_X7_best M L t wc).1)) 0 0 (fA E) := by
  refine f_head (by decide) (Nat.le_of_ble_eq_true rfl) ?_
  intro pg ev s mi below meth cd ls X hr hlk hP hS hl
  have hx := X.1.1
  have hb := X.1.2.1
  have hl : lv_has ls 2 [(0, .ref (fad E 0)), (1, .int t)] := hl
  refine lv_aload_n hx hb dX7_best_0 rfl (lv_at hl 0 rfl) ?_
  refine f_get X hP (T := TX7) (ci := 7) (k := 0) rfl inX7 rfl 1 (by decide) m_1_232 rfl (v := .ref (fad E 18)) rfl dX7_best_1 ?_
  refine lv_iload_n hx hb dX7_best_4 rfl (lv_at hl 1 rfl) ?_
  refine f_iV (n := 1) X hP hS [.int t] [] (c_X1_hasThing l E M L 18 t rfl) m_2_158 wi_X1_hasThing rfl rfl (by decide) (by decide +kernel) ⟨Nat.le_of_ble_eq_true rfl, Nat.le_of_ble_eq_true rfl⟩ rfl hl rfl (Nat.le_of_ble_eq_true rfl) ⟨Nat.zero_le _, Nat.zero_le _⟩ dX7_best_5 (fun H locs hP hS => ?_)
  refine lv_if_ne (tgt := 17) hx hb dX7_best_8 (by decide) (fun c_8 => ?_) (fun c_8 => ?_)
  · have c_8 := bI1 c_8
    refine lv_aload_n hx hb dX7_best_17 rfl (lv_at hl 0 rfl) ?_
    refine f_get X hP (T := TX7) (ci := 7) (k := 0) rfl inX7 rfl 1 (by decide) m_1_232 rfl (v := .ref (fad E 18)) rfl dX7_best_18 ?_
    refine lv_aload_n hx hb dX7_best_21 rfl (lv_at hl 0 rfl) ?_
    refine f_get X hP (T := TX7) (ci := 7) (k := 0) rfl inX7 rfl 1 (by decide) m_1_232 rfl (v := .ref (fad E 18)) rfl dX7_best_22 ?_
    refine f_get X hP (T := TX1) (ci := 1) (k := 18) rfl inX1 rfl 0 (by decide) m_1_108 rfl (v := .ref (fad E 19)) rfl dX7_best_25 ?_
    refine lv_iload_n hx hb dX7_best_28 rfl (lv_at hl 1 rfl) ?_
    have hix_1 : fIx t 8 t.toNatClampNeg := by
      first
        | exact fIx_le 7 c_8.1 c_8.2 (by decide)
        | exact fIx_lt 8 c_8.1 c_8.2.2 (by decide)
        | exact fIx_le 7 (rr0 c_8).1.1 (rr0 c_8).1.2 (by decide)
        | (refine fIx_lt 8 ?_ ?_ (by decide) <;> (simp only [Int32.lt_iff_toInt_lt, Int32.le_iff_toInt_le, Int32.not_lt, Int32.not_le, ← Int32.toInt_inj] at *; omega))
    have hlt_1 := hix_1.2.2
    refine f_aald X hP (t := 12) (d := 3) (n := 8) (r := t.toNatClampNeg) rfl rfl (.inr (.inl ⟨rfl, rfl⟩)) hix_1 (22 + t.toNatClampNeg) (by omega) dX7_best_29 ?_
    refine f_iV (n := 1) X hP hS [.ref (fad E (22 + t.toNatClampNeg))] [] (c_X1_bestWaiter l E M L 18 (22 + t.toNatClampNeg) wc rfl (sh_gt (g := 18) rfl (by omega)) hwc hwc6 (hTs _ (by omega)) hWs hH) m_3_156 wi_X1_bestWaiter rfl rfl (by decide) (by decide +kernel) ⟨Nat.le_of_ble_eq_true rfl, Nat.le_of_ble_eq_true rfl⟩ rfl hl rfl (Nat.le_of_ble_eq_true rfl) ⟨Nat.zero_le _, Nat.zero_le _⟩ dX7_best_30 (fun H locs hP hS => ?_)
    refine f_ir X hlk hr (v := ((bestI (fun w => (stopI (M (22 + t.toNatClampNeg) 1) (M (22 + t.toNatClampNeg) 2) (M (22 + t.toNatClampNeg) 3) (M (22 + t.toNatClampNeg) 4) (M (18 + 12 + w) 1) (M (18 + 12 + w) 2) (M (18 + 12 + w) 3) (M (18 + 12 + w) 4) (M 18 5)).1) nI (-1) wc).2)) rfl hP hS ?_ dX7_best_33
    unfold a_X7_best
    (first | rw [if_pos c_8] | rw [if_neg c_8] | rw [if_neg (Bool.eq_false_iff.mp c_8)] | skip)
    (try dsimp only)
    first
      | done
      | exact ⟨rfl, rfl⟩
      | rfl
      | (simp only [c_8, if_true, if_false, and_self, and_true, true_and, not_true_eq_false, not_false_eq_true, and_false, false_and, or_true, true_or, or_false, false_or, or_self, Bool.false_eq_true, reduceCtorEq, nl10, nl20, nl30, nl40, nl50, nl60, nl70, nl12, nl13, nl21, nl23, nl31, nl32]; first | done | exact ⟨rfl, rfl⟩ | rfl)
      | contradiction
      | (simp only [c_8, if_true, if_false, and_self, and_true, true_and, not_true_eq_false, not_false_eq_true, and_false, false_and, or_true, true_or, or_false, false_or, or_self, Bool.false_eq_true, reduceCtorEq, nl10, nl20, nl30, nl40, nl50, nl60, nl70, nl12, nl13, nl21, nl23, nl31, nl32]; contradiction)
      | (exfalso; simp_all; done)
      | simp_all
  · have c_8 := bI0 c_8
    refine lv_aload_n hx hb dX7_best_11 rfl (lv_at hl 0 rfl) ?_
    refine lv_iconst (v := (-1)) hx hb dX7_best_12 (by decide) ?_
    refine f_iV (n := 1) X hP hS [.int (-1)] [] (c_X7_refuseApart l E M L (-1)) m_3_130 wi_X7_refuseApart rfl rfl (by decide) (by decide +kernel) ⟨Nat.le_of_ble_eq_true rfl, Nat.le_of_ble_eq_true rfl⟩ rfl hl rfl (Nat.le_of_ble_eq_true rfl) ⟨Nat.zero_le _, Nat.zero_le _⟩ dX7_best_13 (fun H locs hP hS => ?_)
    refine f_ir X hlk hr (v := ((-1) - 10)) rfl hP hS ?_ dX7_best_16
    unfold a_X7_best
    (first | rw [if_pos c_8] | rw [if_neg c_8] | rw [if_neg (Bool.eq_false_iff.mp c_8)] | skip)
    (try dsimp only)
    first
      | done
      | exact ⟨rfl, rfl⟩
      | rfl
      | (simp only [c_8, if_true, if_false, and_self, and_true, true_and, not_true_eq_false, not_false_eq_true, and_false, false_and, or_true, true_or, or_false, false_or, or_self, Bool.false_eq_true, reduceCtorEq, nl10, nl20, nl30, nl40, nl50, nl60, nl70, nl12, nl13, nl21, nl23, nl31, nl32]; first | done | exact ⟨rfl, rfl⟩ | rfl)
      | contradiction
      | (simp only [c_8, if_true, if_false, and_self, and_true, true_and, not_true_eq_false, not_false_eq_true, and_false, false_and, or_true, true_or, or_false, false_or, or_self, Bool.false_eq_true, reduceCtorEq, nl10, nl20, nl30, nl40, nl50, nl60, nl70, nl12, nl13, nl21, nl23, nl31, nl32]; contradiction)
      | (exfalso; simp_all; done)
      | simp_all

def a_X7_lookouts (M : Nat → Nat → Int32) (L : Nat → Nat → Int64) (w : Int32) (tc : Nat) : fR := (if (0 ≤ w ∧ w < (M 18 4) ∧ w < 6) then ((lookI (fun c => seenI (fun t => (M (18 + 4 + t) 0)) (sightF (M (30 + w.toNatClampNeg) 1)) (nI c) tc) 10), M, L) else ((-1), (rfM M (-1)), L))
set_option maxHeartbeats 1000000 in
set_option maxRecDepth 100000 in
theorem c_X7_lookouts (l : Launch) (E : fE) (M : Nat → Nat → Int32) (L : Nat → Nat → Int64) (w : Int32) (tc : Nat) (htc : M 18 3 = nI tc) (htc8 : tc ≤ 8) : Met l yX7_lookouts (wl yX7_lookouts cX7_lookouts 2 (some .int)) (fRm 3 68) (va_Pc [.ref (fad E 0), .int w] (fPre E M L)) (fQi E (fun r u => u = ((a_X7_lookouts M L w tc).2.1, (a_X7_lookouts M L w tc).2.2) ∧ r = (a_X7_lookouts M L w tc).1)) 0 0 (fA E) := by
  refine f_head (by decide) (Nat.le_of_ble_eq_true rfl) ?_
  intro pg ev s mi below meth cd ls X hr hlk hP hS hl
  have hx := X.1.1
  have hb := X.1.2.1
  have hl : lv_has ls 2 [(0, .ref (fad E 0)), (1, .int w)] := hl
  refine lv_aload_n hx hb dX7_lookouts_0 rfl (lv_at hl 0 rfl) ?_
  refine f_get X hP (T := TX7) (ci := 7) (k := 0) rfl inX7 rfl 1 (by decide) m_1_232 rfl (v := .ref (fad E 18)) rfl dX7_lookouts_1 ?_
  refine lv_iload_n hx hb dX7_lookouts_4 rfl (lv_at hl 1 rfl) ?_
  refine f_iV (n := 1) X hP hS [.int w] [] (c_X1_hasWaiter l E M L 18 w rfl) m_2_89 wi_X1_hasWaiter rfl rfl (by decide) (by decide +kernel) ⟨Nat.le_of_ble_eq_true rfl, Nat.le_of_ble_eq_true rfl⟩ rfl hl rfl (Nat.le_of_ble_eq_true rfl) ⟨Nat.zero_le _, Nat.zero_le _⟩ dX7_lookouts_5 (fun H locs hP hS => ?_)
  refine lv_if_ne (tgt := 17) hx hb dX7_lookouts_8 (by decide) (fun c_8 => ?_) (fun c_8 => ?_)
  · have c_8 := bI1 c_8
    refine lv_aload_n hx hb dX7_lookouts_17 rfl (lv_at hl 0 rfl) ?_
    refine f_get X hP (T := TX7) (ci := 7) (k := 0) rfl inX7 rfl 1 (by decide) m_1_232 rfl (v := .ref (fad E 18)) rfl dX7_lookouts_18 ?_
    refine lv_aload_n hx hb dX7_lookouts_21 rfl (lv_at hl 0 rfl) ?_
    refine f_get X hP (T := TX7) (ci := 7) (k := 0) rfl inX7 rfl 1 (by decide) m_1_232 rfl (v := .ref (fad E 18)) rfl dX7_lookouts_22 ?_
    refine f_get X hP (T := TX1) (ci := 1) (k := 18) rfl inX1 rfl 1 (by decide) m_1_112 rfl (v := .ref (fad E 20)) rfl dX7_lookouts_25 ?_
    refine lv_iload_n hx hb dX7_lookouts_28 rfl (lv_at hl 1 rfl) ?_
    have hix_1 : fIx w 6 w.toNatClampNeg := by
      first
        | exact fIx_le 5 c_8.1 c_8.2 (by decide)
        | exact fIx_lt 6 c_8.1 c_8.2.2 (by decide)
        | exact fIx_le 5 (rr0 c_8).1.1 (rr0 c_8).1.2 (by decide)
        | (refine fIx_lt 6 ?_ ?_ (by decide) <;> (simp only [Int32.lt_iff_toInt_lt, Int32.le_iff_toInt_le, Int32.not_lt, Int32.not_le, ← Int32.toInt_inj] at *; omega))
    have hlt_1 := hix_1.2.2
    refine f_aald X hP (t := 13) (d := 10) (n := 6) (r := w.toNatClampNeg) rfl rfl (.inr (.inr (.inl ⟨rfl, rfl⟩))) hix_1 (30 + w.toNatClampNeg) (by omega) dX7_lookouts_29 ?_
    refine f_iV (n := 1) X hP hS [.ref (fad E (30 + w.toNatClampNeg))] [] (c_X1_cornersWithSight l E M L 18 (30 + w.toNatClampNeg) tc rfl (sh_gw (g := 18) rfl (by omega)) htc htc8) m_3_165 wi_X1_cornersWithSight rfl rfl (by decide) (by decide +kernel) ⟨Nat.le_of_ble_eq_true rfl, Nat.le_of_ble_eq_true rfl⟩ rfl hl rfl (Nat.le_of_ble_eq_true rfl) ⟨Nat.zero_le _, Nat.zero_le _⟩ dX7_lookouts_30 (fun H locs hP hS => ?_)
    refine f_ir X hlk hr (v := (lookI (fun c => seenI (fun t => (M (18 + 4 + t) 0)) (sightF (M (30 + w.toNatClampNeg) 1)) (nI c) tc) 10)) rfl hP hS ?_ dX7_lookouts_33
    unfold a_X7_lookouts
    (first | rw [if_pos c_8] | rw [if_neg c_8] | rw [if_neg (Bool.eq_false_iff.mp c_8)] | skip)
    (try dsimp only)
    first
      | done
      | exact ⟨rfl, rfl⟩
      | rfl
      | (simp only [c_8, if_true, if_false, and_self, and_true, true_and, not_true_eq_false, not_false_eq_true, and_false, false_and, or_true, true_or, or_false, false_or, or_self, Bool.false_eq_true, reduceCtorEq, nl10, nl20, nl30, nl40, nl50, nl60, nl70, nl12, nl13, nl21, nl23, nl31, nl32]; first | done | exact ⟨rfl, rfl⟩ | rfl)
      | contradiction
      | (simp only [c_8, if_true, if_false, and_self, and_true, true_and, not_true_eq_false, not_false_eq_true, and_false, false_and, or_true, true_or, or_false, false_or, or_self, Bool.false_eq_true, reduceCtorEq, nl10, nl20, nl30, nl40, nl50, nl60, nl70, nl12, nl13, nl21, nl23, nl31, nl32]; contradiction)
      | (exfalso; simp_all; done)
      | simp_all
  · have c_8 := bI0 c_8
    refine lv_aload_n hx hb dX7_lookouts_11 rfl (lv_at hl 0 rfl) ?_
    refine lv_iconst (v := (-1)) hx hb dX7_lookouts_12 (by decide) ?_
    refine f_iV (n := 1) X hP hS [.int (-1)] [] (c_X7_refuse l E M L (-1)) m_2_29 wi_X7_refuse rfl rfl (by decide) (by decide +kernel) ⟨Nat.le_of_ble_eq_true rfl, Nat.le_of_ble_eq_true rfl⟩ rfl hl rfl (Nat.le_of_ble_eq_true rfl) ⟨Nat.zero_le _, Nat.zero_le _⟩ dX7_lookouts_13 (fun H locs hP hS => ?_)
    refine f_ir X hlk hr (v := (-1)) rfl hP hS ?_ dX7_lookouts_16
    unfold a_X7_lookouts
    (first | rw [if_pos c_8] | rw [if_neg c_8] | rw [if_neg (Bool.eq_false_iff.mp c_8)] | skip)
    (try dsimp only)
    first
      | done
      | exact ⟨rfl, rfl⟩
      | rfl
      | (simp only [c_8, if_true, if_false, and_self, and_true, true_and, not_true_eq_false, not_false_eq_true, and_false, false_and, or_true, true_or, or_false, false_or, or_self, Bool.false_eq_true, reduceCtorEq, nl10, nl20, nl30, nl40, nl50, nl60, nl70, nl12, nl13, nl21, nl23, nl31, nl32]; first | done | exact ⟨rfl, rfl⟩ | rfl)
      | contradiction
      | (simp only [c_8, if_true, if_false, and_self, and_true, true_and, not_true_eq_false, not_false_eq_true, and_false, false_and, or_true, true_or, or_false, false_or, or_self, Bool.false_eq_true, reduceCtorEq, nl10, nl20, nl30, nl40, nl50, nl60, nl70, nl12, nl13, nl21, nl23, nl31, nl32]; contradiction)
      | (exfalso; simp_all; done)
      | simp_all
