def a_X7_judge (M : Nat → Nat → Int32) (L : Nat → Nat → Int64) (s1 : Int32) (n : Int32) : fR := (if (tdI M s1 n 8 1) = 0 then ((fwI M L (2 + s1.toNatClampNeg) n), M, L) else (((tdI M s1 n 8 1) - 10), (rfM M (tdI M s1 n 8 1)), L))
set_option maxHeartbeats 1000000 in
set_option maxRecDepth 100000 in
theorem c_X7_judge (l : Launch) (E : fE) (M : Nat → Nat → Int32) (L : Nat → Nat → Int64) (s1 : Int32) (n : Int32) : Met l yX7_judge (wl yX7_judge cX7_judge 4 (some .int)) (fRm 5 112) (va_Pc [.ref (fad E 0), .int s1, .int n] (fPre E M L)) (fQi E (fun r u => u = ((a_X7_judge M L s1 n).2.1, (a_X7_judge M L s1 n).2.2) ∧ r = (a_X7_judge M L s1 n).1)) 0 0 (fA E) := by
  refine f_head (by decide) (Nat.le_of_ble_eq_true rfl) ?_
  intro pg ev s mi below meth cd ls X hr hlk hP hS hl
  have hx := X.1.1
  have hb := X.1.2.1
  have hl : lv_has ls 4 [(0, .ref (fad E 0)), (1, .int s1), (2, .int n)] := hl
  refine lv_aload_n hx hb dX7_judge_0 rfl (lv_at hl 0 rfl) ?_
  refine lv_iload_n hx hb dX7_judge_1 rfl (lv_at hl 1 rfl) ?_
  refine lv_iload_n hx hb dX7_judge_2 rfl (lv_at hl 2 rfl) ?_
  refine lv_bipush (v := 8) hx hb dX7_judge_3 (by decide) ?_
  refine lv_iconst (v := 1) hx hb dX7_judge_5 (by decide) ?_
  refine f_iV (n := 4) X hP hS [.int s1, .int n, .int 8, .int 1] [] (c_X7_toldRefusal l E M L s1 n 8 1) m_4_34 wi_X7_toldRefusal rfl rfl (by decide) (by decide +kernel) ⟨Nat.le_of_ble_eq_true rfl, Nat.le_of_ble_eq_true rfl⟩ rfl hl rfl (Nat.le_of_ble_eq_true rfl) ⟨Nat.zero_le _, Nat.zero_le _⟩ dX7_judge_6 (fun H locs hP hS => ?_)
  refine lv_istore_n (lv' := [(3, .int (tdI M s1 n 8 1)), (0, .ref (fad E 0)), (1, .int s1), (2, .int n)]) hx hb dX7_judge_9 rfl hl (by decide) rfl (fun ls hl => ?_)
  refine lv_iload_n hx hb dX7_judge_10 rfl (lv_at hl 0 rfl) ?_
  refine lv_if_eq (tgt := 20) hx hb dX7_judge_11 (by decide) (fun c_11 => ?_) (fun c_11 => ?_)
  · have t0 := td0 c_11
    obtain ⟨m, hm, em⟩ := i_le 8 t0.2.1 t0.2.2.1 (by decide)
    have hlt_s1 : s1.toNatClampNeg < 8 := (fIx_le 7 (rr0 t0.1).1.1 (rr0 t0.1).1.2 (by decide)).2.2
    refine lv_aload_n hx hb dX7_judge_20 rfl (lv_at hl 1 rfl) ?_
    refine lv_aload_n hx hb dX7_judge_21 rfl (lv_at hl 1 rfl) ?_
    refine f_get X hP (T := TX7) (ci := 7) (k := 0) rfl inX7 rfl 0 (by decide) m_1_231 rfl (v := .ref (fad E 1)) rfl dX7_judge_22 ?_
    refine lv_iload_n hx hb dX7_judge_25 rfl (lv_at hl 2 rfl) ?_
    refine f_aald X hP (t := 11) (d := 1) (n := 8) (r := s1.toNatClampNeg) rfl rfl (.inl ⟨rfl, rfl⟩) (fIx_le 7 (rr0 t0.1).1.1 (rr0 t0.1).1.2 (by decide)) (2 + s1.toNatClampNeg) (by omega) dX7_judge_26 ?_
    refine lv_iload_n hx hb dX7_judge_27 rfl (lv_at hl 3 rfl) ?_
    refine f_iV (n := 2) X hP hS [.ref (fad E (2 + s1.toNatClampNeg)), .int n] [] (c_X7_firstWrong l E M L (2 + s1.toNatClampNeg) n m (sh_sh (by omega)) em (by omega)) m_4_61 wi_X7_firstWrong rfl rfl (by decide) (by decide +kernel) ⟨Nat.le_of_ble_eq_true rfl, Nat.le_of_ble_eq_true rfl⟩ rfl hl rfl (Nat.le_of_ble_eq_true rfl) ⟨Nat.zero_le _, Nat.zero_le _⟩ dX7_judge_28 (fun H locs hP hS => ?_)
    refine f_ir X hlk hr (v := (fwI M L (2 + s1.toNatClampNeg) n)) rfl hP hS ?_ dX7_judge_31
    unfold a_X7_judge
    (first | rw [if_pos c_11] | rw [if_neg c_11] | rw [if_neg (Bool.eq_false_iff.mp c_11)] | skip)
    (try dsimp only)
    first
      | done
      | exact ⟨rfl, rfl⟩
      | rfl
      | (simp only [c_11, if_true, if_false, and_self, and_true, true_and, not_true_eq_false, not_false_eq_true, and_false, false_and, or_true, true_or, or_false, false_or, or_self, Bool.false_eq_true, reduceCtorEq, nl10, nl20, nl30, nl40, nl50, nl60, nl70, nl12, nl13, nl21, nl23, nl31, nl32]; first | done | exact ⟨rfl, rfl⟩ | rfl)
      | contradiction
      | (simp only [c_11, if_true, if_false, and_self, and_true, true_and, not_true_eq_false, not_false_eq_true, and_false, false_and, or_true, true_or, or_false, false_or, or_self, Bool.false_eq_true, reduceCtorEq, nl10, nl20, nl30, nl40, nl50, nl60, nl70, nl12, nl13, nl21, nl23, nl31, nl32]; contradiction)
      | (exfalso; simp_all; done)
      | simp_all
  · refine lv_aload_n hx hb dX7_judge_14 rfl (lv_at hl 1 rfl) ?_
    refine lv_iload_n hx hb dX7_judge_15 rfl (lv_at hl 0 rfl) ?_
    refine f_iV (n := 1) X hP hS [.int (tdI M s1 n 8 1)] [] (c_X7_refuseApart l E M L (tdI M s1 n 8 1)) m_3_130 wi_X7_refuseApart rfl rfl (by decide) (by decide +kernel) ⟨Nat.le_of_ble_eq_true rfl, Nat.le_of_ble_eq_true rfl⟩ rfl hl rfl (Nat.le_of_ble_eq_true rfl) ⟨Nat.zero_le _, Nat.zero_le _⟩ dX7_judge_16 (fun H locs hP hS => ?_)
    refine f_ir X hlk hr (v := ((tdI M s1 n 8 1) - 10)) rfl hP hS ?_ dX7_judge_19
    unfold a_X7_judge
    (first | rw [if_pos c_11] | rw [if_neg c_11] | rw [if_neg (Bool.eq_false_iff.mp c_11)] | skip)
    (try dsimp only)
    first
      | done
      | exact ⟨rfl, rfl⟩
      | rfl
      | (simp only [c_11, if_true, if_false, and_self, and_true, true_and, not_true_eq_false, not_false_eq_true, and_false, false_and, or_true, true_or, or_false, false_or, or_self, Bool.false_eq_true, reduceCtorEq, nl10, nl20, nl30, nl40, nl50, nl60, nl70, nl12, nl13, nl21, nl23, nl31, nl32]; first | done | exact ⟨rfl, rfl⟩ | rfl)
      | contradiction
      | (simp only [c_11, if_true, if_false, and_self, and_true, true_and, not_true_eq_false, not_false_eq_true, and_false, false_and, or_true, true_or, or_false, false_or, or_self, Bool.false_eq_true, reduceCtorEq, nl10, nl20, nl30, nl40, nl50, nl60, nl70, nl12, nl13, nl21, nl23, nl31, nl32]; contradiction)
      | (exfalso; simp_all; done)
      | simp_all

def a_X7_runners (M : Nat → Nat → Int32) (L : Nat → Nat → Int64) (k : Int32) (what : Int32) (tc : Nat) : fR := (if (0 ≤ what ∧ what ≤ 1) then (if (0 ≤ k ∧ k ≤ 8) then (if what = 0 then ((wmetI (fun t => (M (18 + 4 + t) 5)) (fun t => (M (18 + 4 + t) 6)) (fun t => (M (18 + 4 + t) 4)) (runI (fun bes => (needI (fun t => (M (18 + 4 + t) 5)) (fun t => (M (18 + 4 + t) 6)) (fun t => (M (18 + 4 + t) 4)) bes tc).2) k.toNatClampNeg) tc), M, L) else ((runI (fun bes => (needI (fun t => (M (18 + 4 + t) 5)) (fun t => (M (18 + 4 + t) 6)) (fun t => (M (18 + 4 + t) 4)) bes tc).2) k.toNatClampNeg), M, L)) else ((-6), (rfM M (-6)), L)) else ((-5), (rfM M (-5)), L))
set_option maxHeartbeats 1000000 in
set_option maxRecDepth 100000 in
theorem c_X7_runners (l : Launch) (E : fE) (M : Nat → Nat → Int32) (L : Nat → Nat → Int64) (k : Int32) (what : Int32) (tc : Nat) (htc : M 18 3 = nI tc) (htc8 : tc ≤ 8) : Met l yX7_runners (wl yX7_runners cX7_runners 4 (some .int)) (fRm 4 90) (va_Pc [.ref (fad E 0), .int k, .int what] (fPre E M L)) (fQi E (fun r u => u = ((a_X7_runners M L k what tc).2.1, (a_X7_runners M L k what tc).2.2) ∧ r = (a_X7_runners M L k what tc).1)) 0 0 (fA E) := by
  refine f_head (by decide) (Nat.le_of_ble_eq_true rfl) ?_
  intro pg ev s mi below meth cd ls X hr hlk hP hS hl
  have hx := X.1.1
  have hb := X.1.2.1
  have hl : lv_has ls 4 [(0, .ref (fad E 0)), (1, .int k), (2, .int what)] := hl
  refine lv_iload_n hx hb dX7_runners_0 rfl (lv_at hl 2 rfl) ?_
  refine lv_iconst (v := 0) hx hb dX7_runners_1 (by decide) ?_
  refine lv_iconst (v := 1) hx hb dX7_runners_2 (by decide) ?_
  refine f_iS (n := 3) X hP hS [.int what, .int 0, .int 1] [] (c_X7_within l E M L what 0 1) m_2_26 wi_X7_within (by decide +kernel) ⟨Nat.le_of_ble_eq_true rfl, Nat.le_of_ble_eq_true rfl⟩ rfl hl rfl (Nat.le_of_ble_eq_true rfl) ⟨Nat.zero_le _, Nat.zero_le _⟩ dX7_runners_3 (fun H locs hP hS => ?_)
  refine lv_if_ne (tgt := 16) hx hb dX7_runners_6 (by decide) (fun c_6 => ?_) (fun c_6 => ?_)
  · have c_6 := bI1 c_6
    refine lv_iload_n hx hb dX7_runners_16 rfl (lv_at hl 1 rfl) ?_
    refine lv_iconst (v := 0) hx hb dX7_runners_17 (by decide) ?_
    refine lv_bipush (v := 8) hx hb dX7_runners_18 (by decide) ?_
    refine f_iS (n := 3) X hP hS [.int k, .int 0, .int 8] [] (c_X7_within l E M L k 0 8) m_2_26 wi_X7_within (by decide +kernel) ⟨Nat.le_of_ble_eq_true rfl, Nat.le_of_ble_eq_true rfl⟩ rfl hl rfl (Nat.le_of_ble_eq_true rfl) ⟨Nat.zero_le _, Nat.zero_le _⟩ dX7_runners_20 (fun H locs hP hS => ?_)
    refine lv_if_ne (tgt := 33) hx hb dX7_runners_23 (by decide) (fun c_23 => ?_) (fun c_23 => ?_)
    · have c_23 := bI1 c_23
      refine lv_aload_n hx hb dX7_runners_33 rfl (lv_at hl 0 rfl) ?_
      refine f_get X hP (T := TX7) (ci := 7) (k := 0) rfl inX7 rfl 1 (by decide) m_1_232 rfl (v := .ref (fad E 18)) rfl dX7_runners_34 ?_
      refine lv_iload_n hx hb dX7_runners_37 rfl (lv_at hl 1 rfl) ?_
      refine f_iV (n := 1) X hP hS [.int k] [] (c_X1_thingsToRunFor l E M L 18 k tc k.toNatClampNeg rfl htc htc8 (nI_self 8 c_23 (by decide)).1 (nI_self 8 c_23 (by decide)).2) m_4_12 wi_X1_thingsToRunFor rfl rfl (by decide) (by decide +kernel) ⟨Nat.le_of_ble_eq_true rfl, Nat.le_of_ble_eq_true rfl⟩ rfl hl rfl (Nat.le_of_ble_eq_true rfl) ⟨Nat.zero_le _, Nat.zero_le _⟩ dX7_runners_38 (fun H locs hP hS => ?_)
      refine lv_istore_n (lv' := [(3, .int (runI (fun bes => (needI (fun t => (M (18 + 4 + t) 5)) (fun t => (M (18 + 4 + t) 6)) (fun t => (M (18 + 4 + t) 4)) bes tc).2) k.toNatClampNeg)), (0, .ref (fad E 0)), (1, .int k), (2, .int what)]) hx hb dX7_runners_41 rfl hl (by decide) rfl (fun ls hl => ?_)
      refine lv_iload_n hx hb dX7_runners_42 rfl (lv_at hl 3 rfl) ?_
      refine lv_if_ne (tgt := 57) hx hb dX7_runners_43 (by decide) (fun c_43 => ?_) (fun c_43 => ?_)
      · refine lv_iload_n hx hb dX7_runners_57 rfl (lv_at hl 0 rfl) ?_
        refine f_ir X hlk hr (v := (runI (fun bes => (needI (fun t => (M (18 + 4 + t) 5)) (fun t => (M (18 + 4 + t) 6)) (fun t => (M (18 + 4 + t) 4)) bes tc).2) k.toNatClampNeg)) rfl hP hS ?_ dX7_runners_58
        unfold a_X7_runners
        (first | rw [if_pos c_6] | rw [if_neg c_6] | rw [if_neg (Bool.eq_false_iff.mp c_6)] | skip)
        (first | rw [if_pos c_23] | rw [if_neg c_23] | rw [if_neg (Bool.eq_false_iff.mp c_23)] | skip)
        (first | rw [if_pos c_43] | rw [if_neg c_43] | rw [if_neg (Bool.eq_false_iff.mp c_43)] | skip)
        (try dsimp only)
        first
          | done
          | exact ⟨rfl, rfl⟩
          | rfl
          | (simp only [c_6, c_23, c_43, if_true, if_false, and_self, and_true, true_and, not_true_eq_false, not_false_eq_true, and_false, false_and, or_true, true_or, or_false, false_or, or_self, Bool.false_eq_true, reduceCtorEq, nl10, nl20, nl30, nl40, nl50, nl60, nl70, nl12, nl13, nl21, nl23, nl31, nl32]; first | done | exact ⟨rfl, rfl⟩ | rfl)
          | contradiction
          | (simp only [c_6, c_23, c_43, if_true, if_false, and_self, and_true, true_and, not_true_eq_false, not_false_eq_true, and_false, false_and, or_true, true_or, or_false, false_or, or_self, Bool.false_eq_true, reduceCtorEq, nl10, nl20, nl30, nl40, nl50, nl60, nl70, nl12, nl13, nl21, nl23, nl31, nl32]; contradiction)
          | (exfalso; simp_all; done)
          | simp_all
      · refine lv_aload_n hx hb dX7_runners_46 rfl (lv_at hl 1 rfl) ?_
        refine f_get X hP (T := TX7) (ci := 7) (k := 0) rfl inX7 rfl 1 (by decide) m_1_232 rfl (v := .ref (fad E 18)) rfl dX7_runners_47 ?_
        refine lv_iload_n hx hb dX7_runners_50 rfl (lv_at hl 0 rfl) ?_
        refine f_iV (n := 1) X hP hS [.int (runI (fun bes => (needI (fun t => (M (18 + 4 + t) 5)) (fun t => (M (18 + 4 + t) 6)) (fun t => (M (18 + 4 + t) 4)) bes tc).2) k.toNatClampNeg)] [] (c_X1_worthMet l E M L 18 (runI (fun bes => (needI (fun t => (M (18 + 4 + t) 5)) (fun t => (M (18 + 4 + t) 6)) (fun t => (M (18 + 4 + t) 4)) bes tc).2) k.toNatClampNeg) tc rfl htc htc8) m_4_25 wi_X1_worthMet rfl rfl (by decide) (by decide +kernel) ⟨Nat.le_of_ble_eq_true rfl, Nat.le_of_ble_eq_true rfl⟩ rfl hl rfl (Nat.le_of_ble_eq_true rfl) ⟨Nat.zero_le _, Nat.zero_le _⟩ dX7_runners_51 (fun H locs hP hS => ?_)
        refine lv_goto (tgt := 58) hx hb dX7_runners_54 (by decide) ?_
        refine f_ir X hlk hr (v := (wmetI (fun t => (M (18 + 4 + t) 5)) (fun t => (M (18 + 4 + t) 6)) (fun t => (M (18 + 4 + t) 4)) (runI (fun bes => (needI (fun t => (M (18 + 4 + t) 5)) (fun t => (M (18 + 4 + t) 6)) (fun t => (M (18 + 4 + t) 4)) bes tc).2) k.toNatClampNeg) tc)) rfl hP hS ?_ dX7_runners_58
        unfold a_X7_runners
        (first | rw [if_pos c_6] | rw [if_neg c_6] | rw [if_neg (Bool.eq_false_iff.mp c_6)] | skip)
        (first | rw [if_pos c_23] | rw [if_neg c_23] | rw [if_neg (Bool.eq_false_iff.mp c_23)] | skip)
        (first | rw [if_pos c_43] | rw [if_neg c_43] | rw [if_neg (Bool.eq_false_iff.mp c_43)] | skip)
        (try dsimp only)
        first
          | done
          | exact ⟨rfl, rfl⟩
          | rfl
          | (simp only [c_6, c_23, c_43, if_true, if_false, and_self, and_true, true_and, not_true_eq_false, not_false_eq_true, and_false, false_and, or_true, true_or, or_false, false_or, or_self, Bool.false_eq_true, reduceCtorEq, nl10, nl20, nl30, nl40, nl50, nl60, nl70, nl12, nl13, nl21, nl23, nl31, nl32]; first | done | exact ⟨rfl, rfl⟩ | rfl)
          | contradiction
          | (simp only [c_6, c_23, c_43, if_true, if_false, and_self, and_true, true_and, not_true_eq_false, not_false_eq_true, and_false, false_and, or_true, true_or, or_false, false_or, or_self, Bool.false_eq_true, reduceCtorEq, nl10, nl20, nl30, nl40, nl50, nl60, nl70, nl12, nl13, nl21, nl23, nl31, nl32]; contradiction)
          | (exfalso; simp_all; done)
          | simp_all
    · have c_23 := bI0 c_23
      refine lv_aload_n hx hb dX7_runners_26 rfl (lv_at hl 0 rfl) ?_
      refine lv_bipush (v := (-6)) hx hb dX7_runners_27 (by decide) ?_
      refine f_iV (n := 1) X hP hS [.int (-6)] [] (c_X7_refuse l E M L (-6)) m_2_29 wi_X7_refuse rfl rfl (by decide) (by decide +kernel) ⟨Nat.le_of_ble_eq_true rfl, Nat.le_of_ble_eq_true rfl⟩ rfl hl rfl (Nat.le_of_ble_eq_true rfl) ⟨Nat.zero_le _, Nat.zero_le _⟩ dX7_runners_29 (fun H locs hP hS => ?_)
      refine f_ir X hlk hr (v := (-6)) rfl hP hS ?_ dX7_runners_32
      unfold a_X7_runners
      (first | rw [if_pos c_6] | rw [if_neg c_6] | rw [if_neg (Bool.eq_false_iff.mp c_6)] | skip)
      (first | rw [if_pos c_23] | rw [if_neg c_23] | rw [if_neg (Bool.eq_false_iff.mp c_23)] | skip)
      (try dsimp only)
      first
        | done
        | exact ⟨rfl, rfl⟩
        | rfl
        | (simp only [c_6, c_23, if_true, if_false, and_self, and_true, true_and, not_true_eq_false, not_false_eq_true, and_false, false_and, or_true, true_or, or_false, false_or, or_self, Bool.false_eq_true, reduceCtorEq, nl10, nl20, nl30, nl40, nl50, nl60, nl70, nl12, nl13, nl21, nl23, nl31, nl32]; first | done | exact ⟨rfl, rfl⟩ | rfl)
        | contradiction
        | (simp only [c_6, c_23, if_true, if_false, and_self, and_true, true_and, not_true_eq_false, not_false_eq_true, and_false, false_and, or_true, true_or, or_false, false_or, or_self, Bool.false_eq_true, reduceCtorEq, nl10, nl20, nl30, nl40, nl50, nl60, nl70, nl12, nl13, nl21, nl23, nl31, nl32]; contradiction)
        | (exfalso; simp_all; done)
        | simp_all
  · have c_6 := bI0 c_6
    refine lv_aload_n hx hb dX7_runners_9 rfl (lv_at hl 0 rfl) ?_
    refine lv_bipush (v := (-5)) hx hb dX7_runners_10 (by decide) ?_
    refine f_iV (n := 1) X hP hS [.int (-5)] [] (c_X7_refuse l E M L (-5)) m_2_29 wi_X7_refuse rfl rfl (by decide) (by decide +kernel) ⟨Nat.le_of_ble_eq_true rfl, Nat.le_of_ble_eq_true rfl⟩ rfl hl rfl (Nat.le_of_ble_eq_true rfl) ⟨Nat.zero_le _, Nat.zero_le _⟩ dX7_runners_12 (fun H locs hP hS => ?_)
    refine f_ir X hlk hr (v := (-5)) rfl hP hS ?_ dX7_runners_15
    unfold a_X7_runners
    (first | rw [if_pos c_6] | rw [if_neg c_6] | rw [if_neg (Bool.eq_false_iff.mp c_6)] | skip)
    (try dsimp only)
    first
      | done
      | exact ⟨rfl, rfl⟩
      | rfl
      | (simp only [c_6, if_true, if_false, and_self, and_true, true_and, not_true_eq_false, not_false_eq_true, and_false, false_and, or_true, true_or, or_false, false_or, or_self, Bool.false_eq_true, reduceCtorEq, nl10, nl20, nl30, nl40, nl50, nl60, nl70, nl12, nl13, nl21, nl23, nl31, nl32]; first | done | exact ⟨rfl, rfl⟩ | rfl)
      | contradiction
      | (simp only [c_6, if_true, if_false, and_self, and_true, true_and, not_true_eq_false, not_false_eq_true, and_false, false_and, or_true, true_or, or_false, false_or, or_self, Bool.false_eq_true, reduceCtorEq, nl10, nl20, nl30, nl40, nl50, nl60, nl70, nl12, nl13, nl21, nl23, nl31, nl32]; contradiction)
      | (exfalso; simp_all; done)
      | simp_all

def a_X7_guild (M : Nat → Nat → Int32) (L : Nat → Nat → Int64) (s1 : Int32) (tc : Nat) (wc : Nat) : fR := (if (rrI M s1) = 0 then (if ((restF ((M (2 + s1.toNatClampNeg) 2).toNatClampNeg) 160 (itemF (ldM M L 18 (2 + s1.toNatClampNeg) ((M (2 + s1.toNatClampNeg) 2).toNatClampNeg) ((M (2 + s1.toNatClampNeg) 2).toNatClampNeg)) ((M (2 + s1.toNatClampNeg) 2).toNatClampNeg) (0, -1))).2.2) = (-1) then (((cpG (pM (up2 (restF ((M (2 + s1.toNatClampNeg) 2).toNatClampNeg) 160 (itemF (ldM M L 18 (2 + s1.toNatClampNeg) ((M (2 + s1.toNatClampNeg) 2).toNatClampNeg) ((M (2 + s1.toNatClampNeg) 2).toNatClampNeg)) ((M (2 + s1.toNatClampNeg) 2).toNatClampNeg) (0, -1))).1 0 8 ((restF ((M (2 + s1.toNatClampNeg) 2).toNatClampNeg) 160 (itemF (ldM M L 18 (2 + s1.toNatClampNeg) ((M (2 + s1.toNatClampNeg) 2).toNatClampNeg) ((M (2 + s1.toNatClampNeg) 2).toNatClampNeg)) ((M (2 + s1.toNatClampNeg) 2).toNatClampNeg) (0, -1))).2.2)) (restF ((M (2 + s1.toNatClampNeg) 2).toNatClampNeg) 160 (itemF (ldM M L 18 (2 + s1.toNatClampNeg) ((M (2 + s1.toNatClampNeg) 2).toNatClampNeg) ((M (2 + s1.toNatClampNeg) 2).toNatClampNeg)) ((M (2 + s1.toNatClampNeg) 2).toNatClampNeg) (0, -1))).2.1 (restF ((M (2 + s1.toNatClampNeg) 2).toNatClampNeg) 160 (itemF (ldM M L 18 (2 + s1.toNatClampNeg) ((M (2 + s1.toNatClampNeg) 2).toNatClampNeg) ((M (2 + s1.toNatClampNeg) 2).toNatClampNeg)) ((M (2 + s1.toNatClampNeg) 2).toNatClampNeg) (0, -1))).2.2) 18 54) 72 1), (cpG (pM (up2 (restF ((M (2 + s1.toNatClampNeg) 2).toNatClampNeg) 160 (itemF (ldM M L 18 (2 + s1.toNatClampNeg) ((M (2 + s1.toNatClampNeg) 2).toNatClampNeg) ((M (2 + s1.toNatClampNeg) 2).toNatClampNeg)) ((M (2 + s1.toNatClampNeg) 2).toNatClampNeg) (0, -1))).1 0 8 ((restF ((M (2 + s1.toNatClampNeg) 2).toNatClampNeg) 160 (itemF (ldM M L 18 (2 + s1.toNatClampNeg) ((M (2 + s1.toNatClampNeg) 2).toNatClampNeg) ((M (2 + s1.toNatClampNeg) 2).toNatClampNeg)) ((M (2 + s1.toNatClampNeg) 2).toNatClampNeg) (0, -1))).2.2)) (restF ((M (2 + s1.toNatClampNeg) 2).toNatClampNeg) 160 (itemF (ldM M L 18 (2 + s1.toNatClampNeg) ((M (2 + s1.toNatClampNeg) 2).toNatClampNeg) ((M (2 + s1.toNatClampNeg) 2).toNatClampNeg)) ((M (2 + s1.toNatClampNeg) 2).toNatClampNeg) (0, -1))).2.1 (restF ((M (2 + s1.toNatClampNeg) 2).toNatClampNeg) 160 (itemF (ldM M L 18 (2 + s1.toNatClampNeg) ((M (2 + s1.toNatClampNeg) 2).toNatClampNeg) ((M (2 + s1.toNatClampNeg) 2).toNatClampNeg)) ((M (2 + s1.toNatClampNeg) 2).toNatClampNeg) (0, -1))).2.2) 18 54), L) else ((-6), (rfM (pM (up2 (restF ((M (2 + s1.toNatClampNeg) 2).toNatClampNeg) 160 (itemF (ldM M L 18 (2 + s1.toNatClampNeg) ((M (2 + s1.toNatClampNeg) 2).toNatClampNeg) ((M (2 + s1.toNatClampNeg) 2).toNatClampNeg)) ((M (2 + s1.toNatClampNeg) 2).toNatClampNeg) (0, -1))).1 0 8 ((restF ((M (2 + s1.toNatClampNeg) 2).toNatClampNeg) 160 (itemF (ldM M L 18 (2 + s1.toNatClampNeg) ((M (2 + s1.toNatClampNeg) 2).toNatClampNeg) ((M (2 + s1.toNatClampNeg) 2).toNatClampNeg)) ((M (2 + s1.toNatClampNeg) 2).toNatClampNeg) (0, -1))).2.2)) (restF ((M (2 + s1.toNatClampNeg) 2).toNatClampNeg) 160 (itemF (ldM M L 18 (2 + s1.toNatClampNeg) ((M (2 + s1.toNatClampNeg) 2).toNatClampNeg) ((M (2 + s1.toNatClampNeg) 2).toNatClampNeg)) ((M (2 + s1.toNatClampNeg) 2).toNatClampNeg) (0, -1))).2.1 (restF ((M (2 + s1.toNatClampNeg) 2).toNatClampNeg) 160 (itemF (ldM M L 18 (2 + s1.toNatClampNeg) ((M (2 + s1.toNatClampNeg) 2).toNatClampNeg) ((M (2 + s1.toNatClampNeg) 2).toNatClampNeg)) ((M (2 + s1.toNatClampNeg) 2).toNatClampNeg) (0, -1))).2.2) (-6)), L)) else ((rrI M s1), (rfM M (rrI M s1)), L))
set_option maxHeartbeats 1000000 in
set_option maxRecDepth 100000 in
theorem c_X7_guild (l : Launch) (E : fE) (M : Nat → Nat → Int32) (L : Nat → Nat → Int64) (s1 : Int32) (tc wc : Nat) (htc : M 18 3 = nI tc) (htc8 : tc ≤ 8) (hwc : M 18 4 = nI wc) (hwc6 : wc ≤ 6) (hz : szOK M) : Met l yX7_guild (wl yX7_guild cX7_guild 3 (some .int)) (fRm 9 200) (va_Pc [.ref (fad E 0), .int s1] (fPre E M L)) (fQi E (fun r u => u = ((a_X7_guild M L s1 tc wc).2.1, (a_X7_guild M L s1 tc wc).2.2) ∧ r = (a_X7_guild M L s1 tc wc).1)) 0 0 (fA E) := by
  refine f_head (by decide) (Nat.le_of_ble_eq_true rfl) ?_
  intro pg ev s mi below meth cd ls X hr hlk hP hS hl
  have hx := X.1.1
  have hb := X.1.2.1
  have hl : lv_has ls 3 [(0, .ref (fad E 0)), (1, .int s1)] := hl
  refine lv_aload_n hx hb dX7_guild_0 rfl (lv_at hl 0 rfl) ?_
  refine lv_iload_n hx hb dX7_guild_1 rfl (lv_at hl 1 rfl) ?_
  refine f_iV (n := 1) X hP hS [.int s1] [] (c_X7_rowRefusal l E M L s1) m_2_41 wi_X7_rowRefusal rfl rfl (by decide) (by decide +kernel) ⟨Nat.le_of_ble_eq_true rfl, Nat.le_of_ble_eq_true rfl⟩ rfl hl rfl (Nat.le_of_ble_eq_true rfl) ⟨Nat.zero_le _, Nat.zero_le _⟩ dX7_guild_2 (fun H locs hP hS => ?_)
  refine lv_istore_n (lv' := [(2, .int (rrI M s1)), (0, .ref (fad E 0)), (1, .int s1)]) hx hb dX7_guild_5 rfl hl (by decide) rfl (fun ls hl => ?_)
  refine lv_iload_n hx hb dX7_guild_6 rfl (lv_at hl 0 rfl) ?_
  refine lv_if_eq (tgt := 16) hx hb dX7_guild_7 (by decide) (fun c_7 => ?_) (fun c_7 => ?_)
  · have hlt_s1 : s1.toNatClampNeg < 8 := (fIx_le 7 (rr0 c_7).1.1 (rr0 c_7).1.2 (by decide)).2.2
    refine lv_aload_n hx hb dX7_guild_16 rfl (lv_at hl 1 rfl) ?_
    refine lv_aload_n hx hb dX7_guild_17 rfl (lv_at hl 1 rfl) ?_
    refine f_get X hP (T := TX7) (ci := 7) (k := 0) rfl inX7 rfl 3 (by decide) m_1_234 rfl (v := .ref (fad E 72)) rfl dX7_guild_18 ?_
    refine lv_aload_n hx hb dX7_guild_21 rfl (lv_at hl 1 rfl) ?_
    refine f_get X hP (T := TX7) (ci := 7) (k := 0) rfl inX7 rfl 0 (by decide) m_1_231 rfl (v := .ref (fad E 1)) rfl dX7_guild_22 ?_
    refine lv_iload_n hx hb dX7_guild_25 rfl (lv_at hl 2 rfl) ?_
    refine f_aald X hP (t := 11) (d := 1) (n := 8) (r := s1.toNatClampNeg) rfl rfl (.inl ⟨rfl, rfl⟩) (fIx_le 7 (rr0 c_7).1.1 (rr0 c_7).1.2 (by decide)) (2 + s1.toNatClampNeg) (by omega) dX7_guild_26 ?_
    refine lv_aload_n hx hb dX7_guild_27 rfl (lv_at hl 1 rfl) ?_
    refine f_get X hP (T := TX7) (ci := 7) (k := 0) rfl inX7 rfl 1 (by decide) m_1_232 rfl (v := .ref (fad E 18)) rfl dX7_guild_28 ?_
    refine f_iV (n := 2) X hP hS [.ref (fad E (2 + s1.toNatClampNeg)), .ref (fad E 18)] [.ref (fad E 0)] (c_X2_readFault l E M L (2 + s1.toNatClampNeg) 18 ((M (2 + s1.toNatClampNeg) 2).toNatClampNeg) tc wc (sh_sh (by omega)) rfl (sz_at hz (by omega)).1 (sz_at hz (by omega)).2 (by omega) htc htc8 hwc hwc6) m_2_220 wi_X2_readFault rfl rfl (by decide) (by decide +kernel) ⟨Nat.le_of_ble_eq_true rfl, Nat.le_of_ble_eq_true rfl⟩ rfl hl rfl (Nat.le_of_ble_eq_true rfl) ⟨Nat.zero_le _, Nat.zero_le _⟩ dX7_guild_31 (fun H locs hP hS => ?_)
    refine f_put X hP hS (T := TX7) (ci := 7) (k := 0) rfl inX7 rfl tyX7 tyX7_ok nmX7 8 (by decide) m_1_239 ⟨rfl, rfl⟩ rfl (v := ((restF ((M (2 + s1.toNatClampNeg) 2).toNatClampNeg) 160 (itemF (ldM M L 18 (2 + s1.toNatClampNeg) ((M (2 + s1.toNatClampNeg) 2).toNatClampNeg) ((M (2 + s1.toNatClampNeg) 2).toNatClampNeg)) ((M (2 + s1.toNatClampNeg) 2).toNatClampNeg) (0, -1))).2.2)) rfl rfl dX7_guild_34 (fun H locs hP hS => ?_)
    have hP := fP_eq (pM_wo _ _ _ _ (Or.inr (by decide))) hP
    refine lv_aload_n hx hb dX7_guild_37 rfl (lv_at hl 1 rfl) ?_
    refine f_get X hP (T := TX7) (ci := 7) (k := 0) rfl inX7 rfl 8 (by decide) m_1_239 rfl (v := .int ((restF ((M (2 + s1.toNatClampNeg) 2).toNatClampNeg) 160 (itemF (ldM M L 18 (2 + s1.toNatClampNeg) ((M (2 + s1.toNatClampNeg) 2).toNatClampNeg) ((M (2 + s1.toNatClampNeg) 2).toNatClampNeg)) ((M (2 + s1.toNatClampNeg) 2).toNatClampNeg) (0, -1))).2.2)) (congrArg Value.int ((pM_o _ _ _ (Or.inr (by decide))).trans (up2_s _ _ _ _))) dX7_guild_38 ?_
    refine lv_iconst (v := (-1)) hx hb dX7_guild_41 (by decide) ?_
    refine lv_icmp_eq (tgt := 52) hx hb dX7_guild_42 (by decide) (fun c_42 => ?_) (fun c_42 => ?_)
    · refine lv_aload_n hx hb dX7_guild_52 rfl (lv_at hl 1 rfl) ?_
      refine f_get X hP (T := TX7) (ci := 7) (k := 0) rfl inX7 rfl 1 (by decide) m_1_232 rfl (v := .ref (fad E 18)) rfl dX7_guild_53 ?_
      refine lv_aload_n hx hb dX7_guild_56 rfl (lv_at hl 1 rfl) ?_
      refine f_get X hP (T := TX7) (ci := 7) (k := 0) rfl inX7 rfl 3 (by decide) m_1_234 rfl (v := .ref (fad E 72)) rfl dX7_guild_57 ?_
      refine f_get X hP (T := TX2) (ci := 2) (k := 72) rfl inX2 rfl 0 (by decide) m_1_162 rfl (v := .ref (fad E 54)) rfl dX7_guild_60 ?_
      refine f_vV (n := 1) X hP hS [.ref (fad E 54)] [] (c_X1_become l E (pM (up2 (restF ((M (2 + s1.toNatClampNeg) 2).toNatClampNeg) 160 (itemF (ldM M L 18 (2 + s1.toNatClampNeg) ((M (2 + s1.toNatClampNeg) 2).toNatClampNeg) ((M (2 + s1.toNatClampNeg) 2).toNatClampNeg)) ((M (2 + s1.toNatClampNeg) 2).toNatClampNeg) (0, -1))).1 0 8 ((restF ((M (2 + s1.toNatClampNeg) 2).toNatClampNeg) 160 (itemF (ldM M L 18 (2 + s1.toNatClampNeg) ((M (2 + s1.toNatClampNeg) 2).toNatClampNeg) ((M (2 + s1.toNatClampNeg) 2).toNatClampNeg)) ((M (2 + s1.toNatClampNeg) 2).toNatClampNeg) (0, -1))).2.2)) (restF ((M (2 + s1.toNatClampNeg) 2).toNatClampNeg) 160 (itemF (ldM M L 18 (2 + s1.toNatClampNeg) ((M (2 + s1.toNatClampNeg) 2).toNatClampNeg) ((M (2 + s1.toNatClampNeg) 2).toNatClampNeg)) ((M (2 + s1.toNatClampNeg) 2).toNatClampNeg) (0, -1))).2.1 (restF ((M (2 + s1.toNatClampNeg) 2).toNatClampNeg) 160 (itemF (ldM M L 18 (2 + s1.toNatClampNeg) ((M (2 + s1.toNatClampNeg) 2).toNatClampNeg) ((M (2 + s1.toNatClampNeg) 2).toNatClampNeg)) ((M (2 + s1.toNatClampNeg) 2).toNatClampNeg) (0, -1))).2.2) L 18 54 rfl rfl (by decide)) m_3_107 wi_X1_become rfl rfl (by decide) (by decide +kernel) ⟨Nat.le_of_ble_eq_true rfl, Nat.le_of_ble_eq_true rfl⟩ rfl hl rfl (Nat.le_of_ble_eq_true rfl) ⟨Nat.zero_le _, Nat.zero_le _⟩ dX7_guild_63 (fun H locs hP hS => ?_)
      refine lv_aload_n hx hb dX7_guild_66 rfl (lv_at hl 1 rfl) ?_
      refine f_get X hP (T := TX7) (ci := 7) (k := 0) rfl inX7 rfl 3 (by decide) m_1_234 rfl (v := .ref (fad E 72)) rfl dX7_guild_67 ?_
      refine f_get X hP (T := TX2) (ci := 2) (k := 72) rfl inX2 rfl 1 (by decide) m_1_164 rfl (v := .int ((cpG (pM (up2 (restF ((M (2 + s1.toNatClampNeg) 2).toNatClampNeg) 160 (itemF (ldM M L 18 (2 + s1.toNatClampNeg) ((M (2 + s1.toNatClampNeg) 2).toNatClampNeg) ((M (2 + s1.toNatClampNeg) 2).toNatClampNeg)) ((M (2 + s1.toNatClampNeg) 2).toNatClampNeg) (0, -1))).1 0 8 ((restF ((M (2 + s1.toNatClampNeg) 2).toNatClampNeg) 160 (itemF (ldM M L 18 (2 + s1.toNatClampNeg) ((M (2 + s1.toNatClampNeg) 2).toNatClampNeg) ((M (2 + s1.toNatClampNeg) 2).toNatClampNeg)) ((M (2 + s1.toNatClampNeg) 2).toNatClampNeg) (0, -1))).2.2)) (restF ((M (2 + s1.toNatClampNeg) 2).toNatClampNeg) 160 (itemF (ldM M L 18 (2 + s1.toNatClampNeg) ((M (2 + s1.toNatClampNeg) 2).toNatClampNeg) ((M (2 + s1.toNatClampNeg) 2).toNatClampNeg)) ((M (2 + s1.toNatClampNeg) 2).toNatClampNeg) (0, -1))).2.1 (restF ((M (2 + s1.toNatClampNeg) 2).toNatClampNeg) 160 (itemF (ldM M L 18 (2 + s1.toNatClampNeg) ((M (2 + s1.toNatClampNeg) 2).toNatClampNeg) ((M (2 + s1.toNatClampNeg) 2).toNatClampNeg)) ((M (2 + s1.toNatClampNeg) 2).toNatClampNeg) (0, -1))).2.2) 18 54) 72 1)) rfl dX7_guild_70 ?_
      refine f_ir X hlk hr (v := ((cpG (pM (up2 (restF ((M (2 + s1.toNatClampNeg) 2).toNatClampNeg) 160 (itemF (ldM M L 18 (2 + s1.toNatClampNeg) ((M (2 + s1.toNatClampNeg) 2).toNatClampNeg) ((M (2 + s1.toNatClampNeg) 2).toNatClampNeg)) ((M (2 + s1.toNatClampNeg) 2).toNatClampNeg) (0, -1))).1 0 8 ((restF ((M (2 + s1.toNatClampNeg) 2).toNatClampNeg) 160 (itemF (ldM M L 18 (2 + s1.toNatClampNeg) ((M (2 + s1.toNatClampNeg) 2).toNatClampNeg) ((M (2 + s1.toNatClampNeg) 2).toNatClampNeg)) ((M (2 + s1.toNatClampNeg) 2).toNatClampNeg) (0, -1))).2.2)) (restF ((M (2 + s1.toNatClampNeg) 2).toNatClampNeg) 160 (itemF (ldM M L 18 (2 + s1.toNatClampNeg) ((M (2 + s1.toNatClampNeg) 2).toNatClampNeg) ((M (2 + s1.toNatClampNeg) 2).toNatClampNeg)) ((M (2 + s1.toNatClampNeg) 2).toNatClampNeg) (0, -1))).2.1 (restF ((M (2 + s1.toNatClampNeg) 2).toNatClampNeg) 160 (itemF (ldM M L 18 (2 + s1.toNatClampNeg) ((M (2 + s1.toNatClampNeg) 2).toNatClampNeg) ((M (2 + s1.toNatClampNeg) 2).toNatClampNeg)) ((M (2 + s1.toNatClampNeg) 2).toNatClampNeg) (0, -1))).2.2) 18 54) 72 1)) rfl hP hS ?_ dX7_guild_73
      unfold a_X7_guild
      (first | rw [if_pos c_7] | rw [if_neg c_7] | rw [if_neg (Bool.eq_false_iff.mp c_7)] | skip)
      (first | rw [if_pos c_42] | rw [if_neg c_42] | rw [if_neg (Bool.eq_false_iff.mp c_42)] | skip)
      (try dsimp only)
      first
        | done
        | exact ⟨rfl, rfl⟩
        | rfl
        | (simp only [c_7, c_42, if_true, if_false, and_self, and_true, true_and, not_true_eq_false, not_false_eq_true, and_false, false_and, or_true, true_or, or_false, false_or, or_self, Bool.false_eq_true, reduceCtorEq, nl10, nl20, nl30, nl40, nl50, nl60, nl70, nl12, nl13, nl21, nl23, nl31, nl32]; first | done | exact ⟨rfl, rfl⟩ | rfl)
        | contradiction
        | (simp only [c_7, c_42, if_true, if_false, and_self, and_true, true_and, not_true_eq_false, not_false_eq_true, and_false, false_and, or_true, true_or, or_false, false_or, or_self, Bool.false_eq_true, reduceCtorEq, nl10, nl20, nl30, nl40, nl50, nl60, nl70, nl12, nl13, nl21, nl23, nl31, nl32]; contradiction)
        | (exfalso; simp_all; done)
        | simp_all
    · refine lv_aload_n hx hb dX7_guild_45 rfl (lv_at hl 1 rfl) ?_
      refine lv_bipush (v := (-6)) hx hb dX7_guild_46 (by decide) ?_
      refine f_iV (n := 1) X hP hS [.int (-6)] [] (c_X7_refuse l E (pM (up2 (restF ((M (2 + s1.toNatClampNeg) 2).toNatClampNeg) 160 (itemF (ldM M L 18 (2 + s1.toNatClampNeg) ((M (2 + s1.toNatClampNeg) 2).toNatClampNeg) ((M (2 + s1.toNatClampNeg) 2).toNatClampNeg)) ((M (2 + s1.toNatClampNeg) 2).toNatClampNeg) (0, -1))).1 0 8 ((restF ((M (2 + s1.toNatClampNeg) 2).toNatClampNeg) 160 (itemF (ldM M L 18 (2 + s1.toNatClampNeg) ((M (2 + s1.toNatClampNeg) 2).toNatClampNeg) ((M (2 + s1.toNatClampNeg) 2).toNatClampNeg)) ((M (2 + s1.toNatClampNeg) 2).toNatClampNeg) (0, -1))).2.2)) (restF ((M (2 + s1.toNatClampNeg) 2).toNatClampNeg) 160 (itemF (ldM M L 18 (2 + s1.toNatClampNeg) ((M (2 + s1.toNatClampNeg) 2).toNatClampNeg) ((M (2 + s1.toNatClampNeg) 2).toNatClampNeg)) ((M (2 + s1.toNatClampNeg) 2).toNatClampNeg) (0, -1))).2.1 (restF ((M (2 + s1.toNatClampNeg) 2).toNatClampNeg) 160 (itemF (ldM M L 18 (2 + s1.toNatClampNeg) ((M (2 + s1.toNatClampNeg) 2).toNatClampNeg) ((M (2 + s1.toNatClampNeg) 2).toNatClampNeg)) ((M (2 + s1.toNatClampNeg) 2).toNatClampNeg) (0, -1))).2.2) L (-6)) m_2_29 wi_X7_refuse rfl rfl (by decide) (by decide +kernel) ⟨Nat.le_of_ble_eq_true rfl, Nat.le_of_ble_eq_true rfl⟩ rfl hl rfl (Nat.le_of_ble_eq_true rfl) ⟨Nat.zero_le _, Nat.zero_le _⟩ dX7_guild_48 (fun H locs hP hS => ?_)
      refine f_ir X hlk hr (v := (-6)) rfl hP hS ?_ dX7_guild_51
      unfold a_X7_guild
      (first | rw [if_pos c_7] | rw [if_neg c_7] | rw [if_neg (Bool.eq_false_iff.mp c_7)] | skip)
      (first | rw [if_pos c_42] | rw [if_neg c_42] | rw [if_neg (Bool.eq_false_iff.mp c_42)] | skip)
      (try dsimp only)
      first
        | done
        | exact ⟨rfl, rfl⟩
        | rfl
        | (simp only [c_7, c_42, if_true, if_false, and_self, and_true, true_and, not_true_eq_false, not_false_eq_true, and_false, false_and, or_true, true_or, or_false, false_or, or_self, Bool.false_eq_true, reduceCtorEq, nl10, nl20, nl30, nl40, nl50, nl60, nl70, nl12, nl13, nl21, nl23, nl31, nl32]; first | done | exact ⟨rfl, rfl⟩ | rfl)
        | contradiction
        | (simp only [c_7, c_42, if_true, if_false, and_self, and_true, true_and, not_true_eq_false, not_false_eq_true, and_false, false_and, or_true, true_or, or_false, false_or, or_self, Bool.false_eq_true, reduceCtorEq, nl10, nl20, nl30, nl40, nl50, nl60, nl70, nl12, nl13, nl21, nl23, nl31, nl32]; contradiction)
        | (exfalso; simp_all; done)
        | simp_all
  · refine lv_aload_n hx hb dX7_guild_10 rfl (lv_at hl 1 rfl) ?_
    refine lv_iload_n hx hb dX7_guild_11 rfl (lv_at hl 0 rfl) ?_
    refine f_iV (n := 1) X hP hS [.int (rrI M s1)] [] (c_X7_refuse l E M L (rrI M s1)) m_2_29 wi_X7_refuse rfl rfl (by decide) (by decide +kernel) ⟨Nat.le_of_ble_eq_true rfl, Nat.le_of_ble_eq_true rfl⟩ rfl hl rfl (Nat.le_of_ble_eq_true rfl) ⟨Nat.zero_le _, Nat.zero_le _⟩ dX7_guild_12 (fun H locs hP hS => ?_)
    refine f_ir X hlk hr (v := (rrI M s1)) rfl hP hS ?_ dX7_guild_15
    unfold a_X7_guild
    (first | rw [if_pos c_7] | rw [if_neg c_7] | rw [if_neg (Bool.eq_false_iff.mp c_7)] | skip)
    (try dsimp only)
    first
      | done
      | exact ⟨rfl, rfl⟩
      | rfl
      | (simp only [c_7, if_true, if_false, and_self, and_true, true_and, not_true_eq_false, not_false_eq_true, and_false, false_and, or_true, true_or, or_false, false_or, or_self, Bool.false_eq_true, reduceCtorEq, nl10, nl20, nl30, nl40, nl50, nl60, nl70, nl12, nl13, nl21, nl23, nl31, nl32]; first | done | exact ⟨rfl, rfl⟩ | rfl)
      | contradiction
      | (simp only [c_7, if_true, if_false, and_self, and_true, true_and, not_true_eq_false, not_false_eq_true, and_false, false_and, or_true, true_or, or_false, false_or, or_self, Bool.false_eq_true, reduceCtorEq, nl10, nl20, nl30, nl40, nl50, nl60, nl70, nl12, nl13, nl21, nl23, nl31, nl32]; contradiction)
      | (exfalso; simp_all; done)
      | simp_all

set_option maxHeartbeats 4000000 in
set_option maxRecDepth 100000 in
theorem c_X7_left (l : Launch) (E : fE) (M : Nat → Nat → Int32) (L : Nat → Nat → Int64) (s1 : Int32) (n : Int32) (tc : Nat) (htc : M 18 3 = nI tc) (htc8 : tc ≤ 8) : Met l yX7_left (wl yX7_left cX7_left 8 (some .int)) (fRm 4 88) (va_Pc [.ref (fad E 0), .int s1, .int n] (fPre E M L)) (fQi E (fun r u => u = ((leftC M L s1 n tc).2.1, (leftC M L s1 n tc).2.2) ∧ r = (leftC M L s1 n tc).1)) 0 0 (fA E) := by
  refine f_head (by decide) (Nat.le_of_ble_eq_true rfl) ?_
  intro pg ev s mi below meth cd ls X hr hlk hP hS hl
  have hx := X.1.1
  have hb := X.1.2.1
  have hl : lv_has ls 8 [(0, .ref (fad E 0)), (1, .int s1), (2, .int n)] := hl
  refine lv_aload_n hx hb dX7_left_0 rfl (lv_at hl 0 rfl) ?_
  refine lv_iload_n hx hb dX7_left_1 rfl (lv_at hl 1 rfl) ?_
  refine lv_iload_n hx hb dX7_left_2 rfl (lv_at hl 2 rfl) ?_
  refine lv_bipush (v := 40) hx hb dX7_left_3 (by decide) ?_
  refine lv_iconst (v := 1) hx hb dX7_left_5 (by decide) ?_
  refine f_iV (n := 4) X hP hS [.int s1, .int n, .int 40, .int 1] [] (c_X7_toldRefusal l E M L s1 n 40 1) m_4_34 wi_X7_toldRefusal rfl rfl (by decide) (by decide +kernel) ⟨Nat.le_of_ble_eq_true rfl, Nat.le_of_ble_eq_true rfl⟩ rfl hl rfl (Nat.le_of_ble_eq_true rfl) ⟨Nat.zero_le _, Nat.zero_le _⟩ dX7_left_6 (fun H locs hP hS => ?_)
  refine lv_istore_n (lv' := [(3, .int (tdI M s1 n 40 1)), (0, .ref (fad E 0)), (1, .int s1), (2, .int n)]) hx hb dX7_left_9 rfl hl (by decide) rfl (fun ls hl => ?_)
  refine lv_iload_n hx hb dX7_left_10 rfl (lv_at hl 0 rfl) ?_
  refine lv_if_eq (tgt := 20) hx hb dX7_left_11 (by decide) (fun c_11 => ?_) (fun c_11 => ?_)
  · have t0 := td0 c_11
    obtain ⟨m, hm, em⟩ := i_le 40 t0.2.1 t0.2.2.1 (by decide)
    subst em
    have hlt_s1 : s1.toNatClampNeg < 8 := (fIx_le 7 (rr0 t0.1).1.1 (rr0 t0.1).1.2 (by decide)).2.2
    have hlf : leftC M L s1 (nI m) tc = lfF M L (tlI M L (2 + s1.toNatClampNeg)) tc m 0 ((1 <<< ((M 18 3) &&& 31)) - 1) := by unfold leftC; rw [if_pos c_11, nI_clamp (by omega)]
    refine lv_aload_n hx hb dX7_left_20 rfl (lv_at hl 1 rfl) ?_
    refine f_get X hP (T := TX7) (ci := 7) (k := 0) rfl inX7 rfl 0 (by decide) m_1_231 rfl (v := .ref (fad E 1)) rfl dX7_left_21 ?_
    refine lv_iload_n hx hb dX7_left_24 rfl (lv_at hl 2 rfl) ?_
    refine f_aald X hP (t := 11) (d := 1) (n := 8) (r := s1.toNatClampNeg) rfl rfl (.inl ⟨rfl, rfl⟩) (fIx_le 7 (rr0 t0.1).1.1 (rr0 t0.1).1.2 (by decide)) (2 + s1.toNatClampNeg) (by omega) dX7_left_25 ?_
    refine lv_astore (lv' := [(4, .ref (fad E (2 + s1.toNatClampNeg))), (3, .int (tdI M s1 (nI m) 40 1)), (0, .ref (fad E 0)), (1, .int s1), (2, .int (nI m))]) hx hb dX7_left_26 hl (by decide) rfl (fun ls hl => ?_)
    refine lv_iconst (v := 1) hx hb dX7_left_28 (by decide) ?_
    refine lv_aload_n hx hb dX7_left_29 rfl (lv_at hl 2 rfl) ?_
    refine f_get X hP (T := TX7) (ci := 7) (k := 0) rfl inX7 rfl 1 (by decide) m_1_232 rfl (v := .ref (fad E 18)) rfl dX7_left_30 ?_
    refine f_get X hP (T := TX1) (ci := 1) (k := 18) rfl inX1 rfl 3 (by decide) m_1_115 rfl (v := .int (M 18 3)) rfl dX7_left_33 ?_
    refine lv_ishl hx hb dX7_left_36 ?_
    refine lv_iconst (v := 1) hx hb dX7_left_37 (by decide) ?_
    refine lv_isub hx hb dX7_left_38 ?_
    refine lv_istore (lv' := [(5, .int ((1 <<< ((M 18 3) &&& 31)) - 1)), (4, .ref (fad E (2 + s1.toNatClampNeg))), (3, .int (tdI M s1 (nI m) 40 1)), (0, .ref (fad E 0)), (1, .int s1), (2, .int (nI m))]) hx hb dX7_left_39 hl (by decide) rfl (fun ls hl => ?_)
    refine lv_iconst (v := 0) hx hb dX7_left_41 (by decide) ?_
    refine lv_istore (lv' := [(6, .int 0), (5, .int ((1 <<< ((M 18 3) &&& 31)) - 1)), (4, .ref (fad E (2 + s1.toNatClampNeg))), (3, .int (tdI M s1 (nI m) 40 1)), (0, .ref (fad E 0)), (1, .int s1), (2, .int (nI m))]) hx hb dX7_left_42 hl (by decide) rfl (fun ls hl => ?_)
    refine f_loop (α := Nat × Int32) (fun (a : Nat × Int32) H locs ls => match a with | (i, b) => fP E M L H ∧ va_S (fA E) s.heap H locs ∧ lv_has ls 8 [(6, .int (nI i)), (5, .int b), (4, .ref (fad E (2 + s1.toNatClampNeg))), (3, .int (tdI M s1 (nI m) 40 1)), (0, .ref (fad E 0)), (1, .int s1), (2, .int (nI m))] ∧ (i ≤ m) ∧ (leftC M L s1 (nI m) tc = lfF M L (tlI M L (2 + s1.toNatClampNeg)) tc (m - i) i b)) (fun (a : Nat × Int32) => match a with | (i, b) => m - i) (pc0 := 44) (st := fun _ => []) ?_ (0, ((1 <<< ((M 18 3) &&& 31)) - 1)) _ _ _ ⟨hP, hS, lv_sub hl [0, 1, 2, 3, 4, 5, 6] rfl, (by omega), hlf⟩
    rintro ⟨i, b⟩ H locs ls ⟨hP, hS, hl, ht, hbt⟩ ih_44
    refine lv_iload hx hb dX7_left_44 (lv_at hl 0 rfl) ?_
    refine lv_iload_n hx hb dX7_left_46 rfl (lv_at hl 6 rfl) ?_
    refine lv_icmp_ge (tgt := 94) hx hb dX7_left_47 (by decide) (fun c_47 => ?_) (fun c_47 => ?_)
    · have c_47 := (nI_le_iff (a := m) (b := i) (by omega) (by omega)).mp c_47
      refine lv_iload hx hb dX7_left_94 (lv_at hl 1 rfl) ?_
      refine f_ir X hlk hr (v := b) rfl hP hS ?_ dX7_left_96
      rw [hbt, show m - i = 0 from by omega]; exact ⟨rfl, rfl⟩
    · have c_47 := (not_congr (nI_le_iff (a := m) (b := i) (by omega) (by omega))).mp c_47
      have hsv : m - i = m - (i + 1) + 1 := by omega
      refine lv_aload hx hb dX7_left_50 (lv_at hl 2 rfl) ?_
      refine lv_iload hx hb dX7_left_52 (lv_at hl 0 rfl) ?_
      refine f_iV (n := 1) X hP hS [.int (nI i)] [] (c_X4_number l E M L (2 + s1.toNatClampNeg) (nI i) (sh_sh (by omega))) m_4_38 wi_X4_number (sh_sh (by omega)) rfl (by decide) (by decide +kernel) ⟨Nat.le_of_ble_eq_true rfl, Nat.le_of_ble_eq_true rfl⟩ rfl hl rfl (Nat.le_of_ble_eq_true rfl) ⟨Nat.zero_le _, Nat.zero_le _⟩ dX7_left_54 (fun H locs hP hS => ?_)
      refine lv_istore (lv' := [(7, .int (numI M L (2 + s1.toNatClampNeg) (nI i))), (6, .int (nI i)), (5, .int b), (4, .ref (fad E (2 + s1.toNatClampNeg))), (3, .int (tdI M s1 (nI m) 40 1)), (0, .ref (fad E 0)), (1, .int s1), (2, .int (nI m))]) hx hb dX7_left_57 hl (by decide) rfl (fun ls hl => ?_)
      refine lv_iload hx hb dX7_left_59 (lv_at hl 0 rfl) ?_
      refine f_iS (n := 1) X hP hS [.int (numI M L (2 + s1.toNatClampNeg) (nI i))] [] (c_X7_isQuarter l E M L (numI M L (2 + s1.toNatClampNeg) (nI i))) m_3_117 wi_X7_isQuarter (by decide +kernel) ⟨Nat.le_of_ble_eq_true rfl, Nat.le_of_ble_eq_true rfl⟩ rfl hl rfl (Nat.le_of_ble_eq_true rfl) ⟨Nat.zero_le _, Nat.zero_le _⟩ dX7_left_61 (fun H locs hP hS => ?_)
      refine lv_if_ne (tgt := 74) hx hb dX7_left_64 (by decide) (fun c_64 => ?_) (fun c_64 => ?_)
      · have c_64 := bI1 c_64
        refine lv_iload hx hb dX7_left_74 (lv_at hl 2 rfl) ?_
        refine lv_aload_n hx hb dX7_left_76 rfl (lv_at hl 5 rfl) ?_
        refine f_get X hP (T := TX7) (ci := 7) (k := 0) rfl inX7 rfl 1 (by decide) m_1_232 rfl (v := .ref (fad E 18)) rfl dX7_left_77 ?_
        refine lv_iload hx hb dX7_left_80 (lv_at hl 0 rfl) ?_
        refine f_iV (n := 1) X hP hS [.int (numI M L (2 + s1.toNatClampNeg) (nI i))] [.int b] (c_X1_thingsIn l E M L 18 (numI M L (2 + s1.toNatClampNeg) (nI i)) tc rfl htc htc8) m_4_39 wi_X1_thingsIn rfl rfl (by decide) (by decide +kernel) ⟨Nat.le_of_ble_eq_true rfl, Nat.le_of_ble_eq_true rfl⟩ rfl hl rfl (Nat.le_of_ble_eq_true rfl) ⟨Nat.zero_le _, Nat.zero_le _⟩ dX7_left_82 (fun H locs hP hS => ?_)
        refine lv_iand hx hb dX7_left_85 ?_
        refine lv_istore (lv' := [(5, .int (b &&& (inI (fun t => (M (18 + 4 + t) 1)) (fun t => (M (18 + 4 + t) 2)) (numI M L (2 + s1.toNatClampNeg) (nI i)) tc))), (7, .int (numI M L (2 + s1.toNatClampNeg) (nI i))), (6, .int (nI i)), (4, .ref (fad E (2 + s1.toNatClampNeg))), (3, .int (tdI M s1 (nI m) 40 1)), (0, .ref (fad E 0)), (1, .int s1), (2, .int (nI m))]) hx hb dX7_left_86 hl (by decide) rfl (fun ls hl => ?_)
        refine lv_iinc (v := (nI (i + 1))) (lv' := [(6, .int (nI (i + 1))), (5, .int (b &&& (inI (fun t => (M (18 + 4 + t) 1)) (fun t => (M (18 + 4 + t) 2)) (numI M L (2 + s1.toNatClampNeg) (nI i)) tc))), (7, .int (numI M L (2 + s1.toNatClampNeg) (nI i))), (4, .ref (fad E (2 + s1.toNatClampNeg))), (3, .int (tdI M s1 (nI m) 40 1)), (0, .ref (fad E 0)), (1, .int s1), (2, .int (nI m))]) hx hb dX7_left_88 hl (k := 2) rfl (nI_1 _) (by decide) rfl (fun ls hl => ?_)
        refine lv_goto (tgt := 44) hx hb dX7_left_91 (by decide) ?_
        exact ih_44 ((i + 1), (b &&& (inI (fun t => (M (18 + 4 + t) 1)) (fun t => (M (18 + 4 + t) 2)) (numI M L (2 + s1.toNatClampNeg) (nI i)) tc))) _ _ _ (by show m - (i + 1) < m - i; omega) ⟨hP, hS, lv_sub hl [0, 1, 3, 4, 5, 6, 7] rfl, (by omega), (by rw [hbt, hsv, lfF_s]; exact if_pos c_64)⟩
      · have c_64 := bI0 c_64
        have c_64 : ¬ (0 ≤ tlI M L (2 + s1.toNatClampNeg) i ∧ tlI M L (2 + s1.toNatClampNeg) i ≤ 23) := c_64
        refine lv_aload_n hx hb dX7_left_67 rfl (lv_at hl 5 rfl) ?_
        refine lv_bipush (v := (-6)) hx hb dX7_left_68 (by decide) ?_
        refine f_iV (n := 1) X hP hS [.int (-6)] [] (c_X7_refuse l E M L (-6)) m_2_29 wi_X7_refuse rfl rfl (by decide) (by decide +kernel) ⟨Nat.le_of_ble_eq_true rfl, Nat.le_of_ble_eq_true rfl⟩ rfl hl rfl (Nat.le_of_ble_eq_true rfl) ⟨Nat.zero_le _, Nat.zero_le _⟩ dX7_left_70 (fun H locs hP hS => ?_)
        refine f_ir X hlk hr (v := (-6)) rfl hP hS ?_ dX7_left_73
        rw [hbt, hsv, lfF_s, if_neg c_64]; exact ⟨rfl, rfl⟩
  · refine lv_aload_n hx hb dX7_left_14 rfl (lv_at hl 1 rfl) ?_
    refine lv_iload_n hx hb dX7_left_15 rfl (lv_at hl 0 rfl) ?_
    refine f_iV (n := 1) X hP hS [.int (tdI M s1 n 40 1)] [] (c_X7_refuse l E M L (tdI M s1 n 40 1)) m_2_29 wi_X7_refuse rfl rfl (by decide) (by decide +kernel) ⟨Nat.le_of_ble_eq_true rfl, Nat.le_of_ble_eq_true rfl⟩ rfl hl rfl (Nat.le_of_ble_eq_true rfl) ⟨Nat.zero_le _, Nat.zero_le _⟩ dX7_left_16 (fun H locs hP hS => ?_)
    refine f_ir X hlk hr (v := (tdI M s1 n 40 1)) rfl hP hS ?_ dX7_left_19
    unfold leftC
    (first | rw [if_pos c_11] | rw [if_neg c_11] | rw [if_neg (Bool.eq_false_iff.mp c_11)] | skip)
    (try dsimp only)
    first
      | done
      | exact ⟨rfl, rfl⟩
      | rfl
      | (simp only [c_11, if_true, if_false, and_self, and_true, true_and, not_true_eq_false, not_false_eq_true, and_false, false_and, or_true, true_or, or_false, false_or, or_self, Bool.false_eq_true, reduceCtorEq, nl10, nl20, nl30, nl40, nl50, nl60, nl70, nl12, nl13, nl21, nl23, nl31, nl32]; first | done | exact ⟨rfl, rfl⟩ | rfl)
      | contradiction
      | (simp only [c_11, if_true, if_false, and_self, and_true, true_and, not_true_eq_false, not_false_eq_true, and_false, false_and, or_true, true_or, or_false, false_or, or_self, Bool.false_eq_true, reduceCtorEq, nl10, nl20, nl30, nl40, nl50, nl60, nl70, nl12, nl13, nl21, nl23, nl31, nl32]; contradiction)
      | (exfalso; simp_all; done)
      | simp_all

set_option maxHeartbeats 4000000 in
set_option maxRecDepth 100000 in
theorem c_X7_behind (l : Launch) (E : fE) (M : Nat → Nat → Int32) (L : Nat → Nat → Int64) (s1 : Int32) (n : Int32) (what : Int32) : Met l yX7_behind (wl yX7_behind cX7_behind 10 (some .int)) (fRm 6 136) (va_Pc [.ref (fad E 0), .int s1, .int n, .int what] (fPre E M L)) (fQi E (fun r u => u = ((behindC M L s1 n what).2.1, (behindC M L s1 n what).2.2) ∧ r = (behindC M L s1 n what).1)) 0 0 (fA E) := by
  refine f_head (by decide) (Nat.le_of_ble_eq_true rfl) ?_
  intro pg ev s mi below meth cd ls X hr hlk hP hS hl
  have hx := X.1.1
  have hb := X.1.2.1
  have hl : lv_has ls 10 [(0, .ref (fad E 0)), (1, .int s1), (2, .int n), (3, .int what)] := hl
  refine lv_aload_n hx hb dX7_behind_0 rfl (lv_at hl 0 rfl) ?_
  refine lv_iload_n hx hb dX7_behind_1 rfl (lv_at hl 1 rfl) ?_
  refine lv_iload_n hx hb dX7_behind_2 rfl (lv_at hl 2 rfl) ?_
  refine lv_iload_n hx hb dX7_behind_3 rfl (lv_at hl 3 rfl) ?_
  refine lv_iconst (v := 0) hx hb dX7_behind_4 (by decide) ?_
  refine lv_iconst (v := 2) hx hb dX7_behind_5 (by decide) ?_
  refine f_iS (n := 3) X hP hS [.int what, .int 0, .int 2] [.int n, .int s1, .ref (fad E 0)] (c_X7_within l E M L what 0 2) m_2_26 wi_X7_within (by decide +kernel) ⟨Nat.le_of_ble_eq_true rfl, Nat.le_of_ble_eq_true rfl⟩ rfl hl rfl (Nat.le_of_ble_eq_true rfl) ⟨Nat.zero_le _, Nat.zero_le _⟩ dX7_behind_6 (fun H locs hP hS => ?_)
  refine f_iV (n := 3) X hP hS [.int s1, .int n, .int (bI (decide (0 ≤ what ∧ what ≤ 2)))] [] (c_X7_dayRefusal l E M L s1 n (bI (decide (0 ≤ what ∧ what ≤ 2)))) m_4_79 wi_X7_dayRefusal rfl rfl (by decide) (by decide +kernel) ⟨Nat.le_of_ble_eq_true rfl, Nat.le_of_ble_eq_true rfl⟩ rfl hl rfl (Nat.le_of_ble_eq_true rfl) ⟨Nat.zero_le _, Nat.zero_le _⟩ dX7_behind_9 (fun H locs hP hS => ?_)
  refine lv_istore (lv' := [(4, .int (dyI M L s1 n (bI (decide (0 ≤ what ∧ what ≤ 2))))), (0, .ref (fad E 0)), (1, .int s1), (2, .int n), (3, .int what)]) hx hb dX7_behind_12 hl (by decide) rfl (fun ls hl => ?_)
  refine lv_iload hx hb dX7_behind_14 (lv_at hl 0 rfl) ?_
  refine lv_if_eq (tgt := 26) hx hb dX7_behind_16 (by decide) (fun c_16 => ?_) (fun c_16 => ?_)
  · have t0 := td0 (dy0 c_16)
    obtain ⟨m, hm, em⟩ := i_le 8 t0.2.1 t0.2.2.1 (by decide)
    subst em
    have hnm : (nI m).toNatClampNeg = m := nI_clamp (by omega)
    have hlt_s1 : s1.toNatClampNeg < 8 := (fIx_le 7 (rr0 t0.1).1.1 (rr0 t0.1).1.2 (by decide)).2.2
    refine lv_iconst (v := 0) hx hb dX7_behind_26 (by decide) ?_
    refine lv_istore (lv' := [(5, .int 0), (4, .int (dyI M L s1 (nI m) (bI (decide (0 ≤ what ∧ what ≤ 2))))), (0, .ref (fad E 0)), (1, .int s1), (2, .int (nI m)), (3, .int what)]) hx hb dX7_behind_27 hl (by decide) rfl (fun ls hl => ?_)
    refine lv_iconst (v := 0) hx hb dX7_behind_29 (by decide) ?_
    refine lv_istore (lv' := [(6, .int 0), (5, .int 0), (4, .int (dyI M L s1 (nI m) (bI (decide (0 ≤ what ∧ what ≤ 2))))), (0, .ref (fad E 0)), (1, .int s1), (2, .int (nI m)), (3, .int what)]) hx hb dX7_behind_30 hl (by decide) rfl (fun ls hl => ?_)
    refine lv_iconst (v := 0) hx hb dX7_behind_32 (by decide) ?_
    refine lv_istore (lv' := [(7, .int 0), (6, .int 0), (5, .int 0), (4, .int (dyI M L s1 (nI m) (bI (decide (0 ≤ what ∧ what ≤ 2))))), (0, .ref (fad E 0)), (1, .int s1), (2, .int (nI m)), (3, .int what)]) hx hb dX7_behind_33 hl (by decide) rfl (fun ls hl => ?_)
    refine lv_iconst (v := 0) hx hb dX7_behind_35 (by decide) ?_
    refine lv_istore (lv' := [(8, .int 0), (7, .int 0), (6, .int 0), (5, .int 0), (4, .int (dyI M L s1 (nI m) (bI (decide (0 ≤ what ∧ what ≤ 2))))), (0, .ref (fad E 0)), (1, .int s1), (2, .int (nI m)), (3, .int what)]) hx hb dX7_behind_36 hl (by decide) rfl (fun ls hl => ?_)
    refine f_loop (α := Nat × Int32 × Int32 × Int32) (fun (a : Nat × Int32 × Int32 × Int32) H locs ls => match a with | (i, a, b, c1) => fP E M L H ∧ va_S (fA E) s.heap H locs ∧ lv_has ls 10 [(8, .int (nI i)), (7, .int c1), (6, .int b), (5, .int a), (4, .int (dyI M L s1 (nI m) (bI (decide (0 ≤ what ∧ what ≤ 2))))), (0, .ref (fad E 0)), (1, .int s1), (2, .int (nI m)), (3, .int what)] ∧ (i ≤ m) ∧ ((a, b, c1) = bhF M (tlI M L (2 + s1.toNatClampNeg)) i)) (fun (a : Nat × Int32 × Int32 × Int32) => match a with | (i, a, b, c1) => m - i) (pc0 := 38) (st := fun _ => []) ?_ (0, 0, 0, 0) _ _ _ ⟨hP, hS, lv_sub hl [0, 1, 2, 3, 4, 5, 6, 7, 8] rfl, (by omega), rfl⟩
    rintro ⟨i, a, b, c1⟩ H locs ls ⟨hP, hS, hl, ht, hbt⟩ ih_38
    refine lv_iload hx hb dX7_behind_38 (lv_at hl 0 rfl) ?_
    refine lv_iload_n hx hb dX7_behind_40 rfl (lv_at hl 7 rfl) ?_
    refine lv_icmp_ge (tgt := 108) hx hb dX7_behind_41 (by decide) (fun c_41 => ?_) (fun c_41 => ?_)
    · have c_41 := (nI_le_iff (a := m) (b := i) (by omega) (by omega)).mp c_41
      obtain rfl : m = i := by omega
      refine lv_iload_n hx hb dX7_behind_108 rfl (lv_at hl 8 rfl) ?_
      refine lv_if_ne (tgt := 117) hx hb dX7_behind_109 (by decide) (fun c_109 => ?_) (fun c_109 => ?_)
      · refine lv_iload_n hx hb dX7_behind_117 rfl (lv_at hl 8 rfl) ?_
        refine lv_iconst (v := 1) hx hb dX7_behind_118 (by decide) ?_
        refine lv_icmp_ne (tgt := 127) hx hb dX7_behind_119 (by decide) (fun c_119 => ?_) (fun c_119 => ?_)
        · refine lv_iload hx hb dX7_behind_127 (lv_at hl 1 rfl) ?_
          refine f_ir X hlk hr (v := c1) rfl hP hS ?_ dX7_behind_129
          unfold behindC; rw [if_pos c_16, hnm, ← hbt]; dsimp only; first | (rw [if_pos c_109]; exact ⟨rfl, rfl⟩) | (rw [if_neg c_109]; first | (rw [if_pos c_119]; exact ⟨rfl, rfl⟩) | (rw [if_neg c_119]; exact ⟨rfl, rfl⟩))
        · refine lv_iload hx hb dX7_behind_122 (lv_at hl 2 rfl) ?_
          refine lv_goto (tgt := 129) hx hb dX7_behind_124 (by decide) ?_
          refine f_ir X hlk hr (v := b) rfl hP hS ?_ dX7_behind_129
          unfold behindC; rw [if_pos c_16, hnm, ← hbt]; dsimp only; first | (rw [if_pos c_109]; exact ⟨rfl, rfl⟩) | (rw [if_neg c_109]; first | (rw [if_pos c_119]; exact ⟨rfl, rfl⟩) | (rw [if_neg c_119]; exact ⟨rfl, rfl⟩))
      · refine lv_iload hx hb dX7_behind_112 (lv_at hl 3 rfl) ?_
        refine lv_goto (tgt := 129) hx hb dX7_behind_114 (by decide) ?_
        refine f_ir X hlk hr (v := a) rfl hP hS ?_ dX7_behind_129
        unfold behindC; rw [if_pos c_16, hnm, ← hbt]; dsimp only; first | (rw [if_pos c_109]; exact ⟨rfl, rfl⟩) | (rw [if_neg c_109]; first | (rw [if_pos c_119]; exact ⟨rfl, rfl⟩) | (rw [if_neg c_119]; exact ⟨rfl, rfl⟩))
    · have c_41 := (not_congr (nI_le_iff (a := m) (b := i) (by omega) (by omega))).mp c_41
      refine lv_aload_n hx hb dX7_behind_44 rfl (lv_at hl 5 rfl) ?_
      refine f_get X hP (T := TX7) (ci := 7) (k := 0) rfl inX7 rfl 0 (by decide) m_1_231 rfl (v := .ref (fad E 1)) rfl dX7_behind_45 ?_
      refine lv_iload_n hx hb dX7_behind_48 rfl (lv_at hl 6 rfl) ?_
      refine f_aald X hP (t := 11) (d := 1) (n := 8) (r := s1.toNatClampNeg) rfl rfl (.inl ⟨rfl, rfl⟩) (fIx_le 7 (rr0 t0.1).1.1 (rr0 t0.1).1.2 (by decide)) (2 + s1.toNatClampNeg) (by omega) dX7_behind_49 ?_
      refine lv_iload hx hb dX7_behind_50 (lv_at hl 0 rfl) ?_
      refine f_iV (n := 1) X hP hS [.int (nI i)] [] (c_X4_number l E M L (2 + s1.toNatClampNeg) (nI i) (sh_sh (by omega))) m_4_38 wi_X4_number (sh_sh (by omega)) rfl (by decide) (by decide +kernel) ⟨Nat.le_of_ble_eq_true rfl, Nat.le_of_ble_eq_true rfl⟩ rfl hl rfl (Nat.le_of_ble_eq_true rfl) ⟨Nat.zero_le _, Nat.zero_le _⟩ dX7_behind_52 (fun H locs hP hS => ?_)
      refine lv_istore (lv' := [(9, .int (numI M L (2 + s1.toNatClampNeg) (nI i))), (8, .int (nI i)), (7, .int c1), (6, .int b), (5, .int a), (4, .int (dyI M L s1 (nI m) (bI (decide (0 ≤ what ∧ what ≤ 2))))), (0, .ref (fad E 0)), (1, .int s1), (2, .int (nI m)), (3, .int what)]) hx hb dX7_behind_55 hl (by decide) rfl (fun ls hl => ?_)
      refine lv_iload hx hb dX7_behind_57 (lv_at hl 0 rfl) ?_
      refine lv_bipush (v := 100) hx hb dX7_behind_59 (by decide) ?_
      refine lv_irem hx hb dX7_behind_61 (by decide) ?_
      refine lv_bipush (v := 99) hx hb dX7_behind_62 (by decide) ?_
      refine lv_icmp_ne (tgt := 73) hx hb dX7_behind_64 (by decide) (fun c_64 => ?_) (fun c_64 => ?_)
      · refine lv_aload_n hx hb dX7_behind_73 rfl (lv_at hl 6 rfl) ?_
        refine f_get X hP (T := TX7) (ci := 7) (k := 0) rfl inX7 rfl 1 (by decide) m_1_232 rfl (v := .ref (fad E 18)) rfl dX7_behind_74 ?_
        refine lv_iload hx hb dX7_behind_77 (lv_at hl 0 rfl) ?_
        refine f_iV (n := 1) X hP hS [.int (numI M L (2 + s1.toNatClampNeg) (nI i))] [] (c_X1_isMetAsTold l E M L 18 (numI M L (2 + s1.toNatClampNeg) (nI i)) rfl) m_4_83 wi_X1_isMetAsTold rfl rfl (by decide) (by decide +kernel) ⟨Nat.le_of_ble_eq_true rfl, Nat.le_of_ble_eq_true rfl⟩ rfl hl rfl (Nat.le_of_ble_eq_true rfl) ⟨Nat.zero_le _, Nat.zero_le _⟩ dX7_behind_79 (fun H locs hP hS => ?_)
        refine lv_if_eq (tgt := 102) hx hb dX7_behind_82 (by decide) (fun c_82 => ?_) (fun c_82 => ?_)
        · have c_82 := bIf0 c_82
          refine lv_iinc (v := (nI (i + 1))) (lv' := [(8, .int (nI (i + 1))), (9, .int (numI M L (2 + s1.toNatClampNeg) (nI i))), (7, .int c1), (6, .int b), (5, .int a), (4, .int (dyI M L s1 (nI m) (bI (decide (0 ≤ what ∧ what ≤ 2))))), (0, .ref (fad E 0)), (1, .int s1), (2, .int (nI m)), (3, .int what)]) hx hb dX7_behind_102 hl (k := 1) rfl (nI_1 _) (by decide) rfl (fun ls hl => ?_)
          refine lv_goto (tgt := 38) hx hb dX7_behind_105 (by decide) ?_
          exact ih_38 ((i + 1), a, b, c1) _ _ _ (by show m - (i + 1) < m - i; omega) ⟨hP, hS, lv_sub hl [0, 2, 3, 4, 5, 6, 7, 8, 9] rfl, (by omega), (by show (_, _, _) = bhF _ _ (_ + 1); unfold bhF; rw [itF_s]; unfold bhF at hbt; rw [← hbt]; first | exact (if_pos c_64).symm | (refine Eq.trans ?_ (if_neg c_64).symm; first | exact (if_pos c_82).symm | exact (if_neg (Bool.eq_false_iff.mp c_82)).symm))⟩
        · have c_82 := bIf1 c_82
          refine lv_iinc (v := (a + 1)) (lv' := [(5, .int (a + 1)), (9, .int (numI M L (2 + s1.toNatClampNeg) (nI i))), (8, .int (nI i)), (7, .int c1), (6, .int b), (4, .int (dyI M L s1 (nI m) (bI (decide (0 ≤ what ∧ what ≤ 2))))), (0, .ref (fad E 0)), (1, .int s1), (2, .int (nI m)), (3, .int what)]) hx hb dX7_behind_85 hl (k := 4) rfl rfl (by decide) rfl (fun ls hl => ?_)
          refine lv_iload hx hb dX7_behind_88 (lv_at hl 4 rfl) ?_
          refine lv_aload_n hx hb dX7_behind_90 rfl (lv_at hl 6 rfl) ?_
          refine f_get X hP (T := TX7) (ci := 7) (k := 0) rfl inX7 rfl 1 (by decide) m_1_232 rfl (v := .ref (fad E 18)) rfl dX7_behind_91 ?_
          refine lv_iload hx hb dX7_behind_94 (lv_at hl 1 rfl) ?_
          refine f_iV (n := 1) X hP hS [.int (numI M L (2 + s1.toNatClampNeg) (nI i))] [.int b] (c_X1_worthAsTold l E M L 18 (numI M L (2 + s1.toNatClampNeg) (nI i)) rfl) m_4_88 wi_X1_worthAsTold rfl rfl (by decide) (by decide +kernel) ⟨Nat.le_of_ble_eq_true rfl, Nat.le_of_ble_eq_true rfl⟩ rfl hl rfl (Nat.le_of_ble_eq_true rfl) ⟨Nat.zero_le _, Nat.zero_le _⟩ dX7_behind_96 (fun H locs hP hS => ?_)
          refine lv_iadd hx hb dX7_behind_99 ?_
          refine lv_istore (lv' := [(6, .int (b + (if (mayB (fun t => (M (18 + 4 + t) 1)) (fun t => (M (18 + 4 + t) 2)) (fun t => (M (18 + 4 + t) 3)) (M 18 3) (numI M L (2 + s1.toNatClampNeg) (nI i))) = true then (M (18 + 4 + tT (numI M L (2 + s1.toNatClampNeg) (nI i))) 4) else 0))), (5, .int (a + 1)), (9, .int (numI M L (2 + s1.toNatClampNeg) (nI i))), (8, .int (nI i)), (7, .int c1), (4, .int (dyI M L s1 (nI m) (bI (decide (0 ≤ what ∧ what ≤ 2))))), (0, .ref (fad E 0)), (1, .int s1), (2, .int (nI m)), (3, .int what)]) hx hb dX7_behind_100 hl (by decide) rfl (fun ls hl => ?_)
          refine lv_iinc (v := (nI (i + 1))) (lv' := [(8, .int (nI (i + 1))), (6, .int (b + (if (mayB (fun t => (M (18 + 4 + t) 1)) (fun t => (M (18 + 4 + t) 2)) (fun t => (M (18 + 4 + t) 3)) (M 18 3) (numI M L (2 + s1.toNatClampNeg) (nI i))) = true then (M (18 + 4 + tT (numI M L (2 + s1.toNatClampNeg) (nI i))) 4) else 0))), (5, .int (a + 1)), (9, .int (numI M L (2 + s1.toNatClampNeg) (nI i))), (7, .int c1), (4, .int (dyI M L s1 (nI m) (bI (decide (0 ≤ what ∧ what ≤ 2))))), (0, .ref (fad E 0)), (1, .int s1), (2, .int (nI m)), (3, .int what)]) hx hb dX7_behind_102 hl (k := 3) rfl (nI_1 _) (by decide) rfl (fun ls hl => ?_)
          refine lv_goto (tgt := 38) hx hb dX7_behind_105 (by decide) ?_
          exact ih_38 ((i + 1), (a + 1), (b + (if (mayB (fun t => (M (18 + 4 + t) 1)) (fun t => (M (18 + 4 + t) 2)) (fun t => (M (18 + 4 + t) 3)) (M 18 3) (numI M L (2 + s1.toNatClampNeg) (nI i))) = true then (M (18 + 4 + tT (numI M L (2 + s1.toNatClampNeg) (nI i))) 4) else 0)), c1) _ _ _ (by show m - (i + 1) < m - i; omega) ⟨hP, hS, lv_sub hl [0, 4, 1, 2, 5, 6, 7, 8, 9] rfl, (by omega), (by show (_, _, _) = bhF _ _ (_ + 1); unfold bhF; rw [itF_s]; unfold bhF at hbt; rw [← hbt]; first | exact (if_pos c_64).symm | (refine Eq.trans ?_ (if_neg c_64).symm; first | exact (if_pos c_82).symm | exact (if_neg (Bool.eq_false_iff.mp c_82)).symm))⟩
      · refine lv_iinc (v := (c1 + 1)) (lv' := [(7, .int (c1 + 1)), (9, .int (numI M L (2 + s1.toNatClampNeg) (nI i))), (8, .int (nI i)), (6, .int b), (5, .int a), (4, .int (dyI M L s1 (nI m) (bI (decide (0 ≤ what ∧ what ≤ 2))))), (0, .ref (fad E 0)), (1, .int s1), (2, .int (nI m)), (3, .int what)]) hx hb dX7_behind_67 hl (k := 2) rfl rfl (by decide) rfl (fun ls hl => ?_)
        refine lv_goto (tgt := 102) hx hb dX7_behind_70 (by decide) ?_
        refine lv_iinc (v := (nI (i + 1))) (lv' := [(8, .int (nI (i + 1))), (7, .int (c1 + 1)), (9, .int (numI M L (2 + s1.toNatClampNeg) (nI i))), (6, .int b), (5, .int a), (4, .int (dyI M L s1 (nI m) (bI (decide (0 ≤ what ∧ what ≤ 2))))), (0, .ref (fad E 0)), (1, .int s1), (2, .int (nI m)), (3, .int what)]) hx hb dX7_behind_102 hl (k := 2) rfl (nI_1 _) (by decide) rfl (fun ls hl => ?_)
        refine lv_goto (tgt := 38) hx hb dX7_behind_105 (by decide) ?_
        exact ih_38 ((i + 1), a, b, (c1 + 1)) _ _ _ (by show m - (i + 1) < m - i; omega) ⟨hP, hS, lv_sub hl [0, 1, 3, 4, 5, 6, 7, 8, 9] rfl, (by omega), (by show (_, _, _) = bhF _ _ (_ + 1); unfold bhF; rw [itF_s]; unfold bhF at hbt; rw [← hbt]; first | exact (if_pos c_64).symm | (refine Eq.trans ?_ (if_neg c_64).symm; first | exact (if_pos c_82).symm | exact (if_neg (Bool.eq_false_iff.mp c_82)).symm))⟩
  · refine lv_aload_n hx hb dX7_behind_19 rfl (lv_at hl 1 rfl) ?_
    refine lv_iload hx hb dX7_behind_20 (lv_at hl 0 rfl) ?_
    refine f_iV (n := 1) X hP hS [.int (dyI M L s1 n (bI (decide (0 ≤ what ∧ what ≤ 2))))] [] (c_X7_refuse l E M L (dyI M L s1 n (bI (decide (0 ≤ what ∧ what ≤ 2))))) m_2_29 wi_X7_refuse rfl rfl (by decide) (by decide +kernel) ⟨Nat.le_of_ble_eq_true rfl, Nat.le_of_ble_eq_true rfl⟩ rfl hl rfl (Nat.le_of_ble_eq_true rfl) ⟨Nat.zero_le _, Nat.zero_le _⟩ dX7_behind_22 (fun H locs hP hS => ?_)
    refine f_ir X hlk hr (v := (dyI M L s1 n (bI (decide (0 ≤ what ∧ what ≤ 2))))) rfl hP hS ?_ dX7_behind_25
    unfold behindC
    (first | rw [if_pos c_16] | rw [if_neg c_16] | rw [if_neg (Bool.eq_false_iff.mp c_16)] | skip)
    (try dsimp only)
    first
      | done
      | exact ⟨rfl, rfl⟩
      | rfl
      | (simp only [c_16, if_true, if_false, and_self, and_true, true_and, not_true_eq_false, not_false_eq_true, and_false, false_and, or_true, true_or, or_false, false_or, or_self, Bool.false_eq_true, reduceCtorEq, nl10, nl20, nl30, nl40, nl50, nl60, nl70, nl12, nl13, nl21, nl23, nl31, nl32]; first | done | exact ⟨rfl, rfl⟩ | rfl)
      | contradiction
      | (simp only [c_16, if_true, if_false, and_self, and_true, true_and, not_true_eq_false, not_false_eq_true, and_false, false_and, or_true, true_or, or_false, false_or, or_self, Bool.false_eq_true, reduceCtorEq, nl10, nl20, nl30, nl40, nl50, nl60, nl70, nl12, nl13, nl21, nl23, nl31, nl32]; contradiction)
      | (exfalso; simp_all; done)
      | simp_all

set_option maxHeartbeats 4000000 in
set_option maxRecDepth 100000 in
theorem c_X7_done (l : Launch) (E : fE) (M : Nat → Nat → Int32) (L : Nat → Nat → Int64) (s1 : Int32) (n : Int32) : Met l yX7_done (wl yX7_done cX7_done 6 (some .int)) (fRm 6 136) (va_Pc [.ref (fad E 0), .int s1, .int n] (fPre E M L)) (fQi E (fun r u => u = ((doneC M L s1 n).2.1, (doneC M L s1 n).2.2) ∧ r = (doneC M L s1 n).1)) 0 0 (fA E) := by
  refine f_head (by decide) (Nat.le_of_ble_eq_true rfl) ?_
  intro pg ev s mi below meth cd ls X hr hlk hP hS hl
  have hx := X.1.1
  have hb := X.1.2.1
  have hl : lv_has ls 6 [(0, .ref (fad E 0)), (1, .int s1), (2, .int n)] := hl
  refine lv_aload_n hx hb dX7_done_0 rfl (lv_at hl 0 rfl) ?_
  refine lv_iload_n hx hb dX7_done_1 rfl (lv_at hl 1 rfl) ?_
  refine lv_iload_n hx hb dX7_done_2 rfl (lv_at hl 2 rfl) ?_
  refine lv_iconst (v := 1) hx hb dX7_done_3 (by decide) ?_
  refine f_iV (n := 3) X hP hS [.int s1, .int n, .int 1] [] (c_X7_dayRefusal l E M L s1 n 1) m_4_79 wi_X7_dayRefusal rfl rfl (by decide) (by decide +kernel) ⟨Nat.le_of_ble_eq_true rfl, Nat.le_of_ble_eq_true rfl⟩ rfl hl rfl (Nat.le_of_ble_eq_true rfl) ⟨Nat.zero_le _, Nat.zero_le _⟩ dX7_done_4 (fun H locs hP hS => ?_)
  refine lv_istore_n (lv' := [(3, .int (dyI M L s1 n 1)), (0, .ref (fad E 0)), (1, .int s1), (2, .int n)]) hx hb dX7_done_7 rfl hl (by decide) rfl (fun ls hl => ?_)
  refine lv_iload_n hx hb dX7_done_8 rfl (lv_at hl 0 rfl) ?_
  refine lv_if_eq (tgt := 18) hx hb dX7_done_9 (by decide) (fun c_9 => ?_) (fun c_9 => ?_)
  · have t0 := td0 (dy0 c_9)
    obtain ⟨m, hm, em⟩ := i_le 8 t0.2.1 t0.2.2.1 (by decide)
    subst em
    have hnm : (nI m).toNatClampNeg = m := nI_clamp (by omega)
    have hlt_s1 : s1.toNatClampNeg < 8 := (fIx_le 7 (rr0 t0.1).1.1 (rr0 t0.1).1.2 (by decide)).2.2
    refine lv_iconst (v := 0) hx hb dX7_done_18 (by decide) ?_
    refine lv_istore (lv' := [(4, .int 0), (3, .int (dyI M L s1 (nI m) 1)), (0, .ref (fad E 0)), (1, .int s1), (2, .int (nI m))]) hx hb dX7_done_19 hl (by decide) rfl (fun ls hl => ?_)
    refine f_loop (α := Nat × (Nat → Nat → Int32)) (fun (a : Nat × (Nat → Nat → Int32)) H locs ls => match a with | (i, D) => fP E D L H ∧ va_S (fA E) s.heap H locs ∧ lv_has ls 6 [(4, .int (nI i)), (3, .int (dyI M L s1 (nI m) 1)), (0, .ref (fad E 0)), (1, .int s1), (2, .int (nI m))] ∧ (i ≤ m) ∧ (D = (dnF M L (2 + s1.toNatClampNeg) i))) (fun (a : Nat × (Nat → Nat → Int32)) => match a with | (i, D) => m - i) (pc0 := 21) (st := fun _ => []) ?_ (0, M) _ _ _ ⟨hP, hS, lv_sub hl [0, 1, 2, 3, 4] rfl, (by omega), rfl⟩
    rintro ⟨i, D⟩ H locs ls ⟨hP, hS, hl, ht, hbt⟩ ih_21
    refine lv_iload hx hb dX7_done_21 (lv_at hl 0 rfl) ?_
    refine lv_iload_n hx hb dX7_done_23 rfl (lv_at hl 4 rfl) ?_
    refine lv_icmp_ge (tgt := 79) hx hb dX7_done_24 (by decide) (fun c_24 => ?_) (fun c_24 => ?_)
    · have c_24 := (nI_le_iff (a := m) (b := i) (by omega) (by omega)).mp c_24
      obtain rfl : m = i := by omega
      refine lv_aload_n hx hb dX7_done_79 rfl (lv_at hl 2 rfl) ?_
      refine f_get X hP (T := TX7) (ci := 7) (k := 0) rfl inX7 rfl 1 (by decide) m_1_232 rfl (v := .ref (fad E 18)) rfl dX7_done_80 ?_
      refine lv_dup hx hb dX7_done_83 rfl ?_
      refine f_get X hP (T := TX1) (ci := 1) (k := 18) rfl inX1 rfl 6 (by decide) m_1_125 rfl (v := .int (D 18 6)) rfl dX7_done_84 ?_
      refine lv_iconst (v := 1) hx hb dX7_done_87 (by decide) ?_
      refine lv_iadd hx hb dX7_done_88 ?_
      refine f_put X hP hS (T := TX1) (ci := 1) (k := 18) rfl inX1 rfl tyX1 tyX1_ok nmX1 6 (by decide) m_1_125 ⟨rfl, rfl⟩ rfl (v := ((D 18 6) + 1)) rfl rfl dX7_done_89 (fun H locs hP hS => ?_)
      refine lv_aload_n hx hb dX7_done_92 rfl (lv_at hl 2 rfl) ?_
      refine f_get X hP (T := TX7) (ci := 7) (k := 0) rfl inX7 rfl 1 (by decide) m_1_232 rfl (v := .ref (fad E 18)) rfl dX7_done_93 ?_
      refine f_get X hP (T := TX1) (ci := 1) (k := 18) rfl inX1 rfl 7 (by decide) m_1_127 rfl (v := .int (D 18 7)) (congrArg Value.int (up2_o _ _ (Or.inr (by decide)))) dX7_done_96 ?_
      refine f_ir X hlk hr (v := (D 18 7)) rfl hP hS ?_ dX7_done_99
      unfold doneC; rw [if_pos c_9, hnm, ← hbt]; exact ⟨rfl, rfl⟩
    · have c_24 := (not_congr (nI_le_iff (a := m) (b := i) (by omega) (by omega))).mp c_24
      refine lv_aload_n hx hb dX7_done_27 rfl (lv_at hl 2 rfl) ?_
      refine f_get X hP (T := TX7) (ci := 7) (k := 0) rfl inX7 rfl 0 (by decide) m_1_231 rfl (v := .ref (fad E 1)) rfl dX7_done_28 ?_
      refine lv_iload_n hx hb dX7_done_31 rfl (lv_at hl 3 rfl) ?_
      refine f_aald X hP (t := 11) (d := 1) (n := 8) (r := s1.toNatClampNeg) rfl rfl (.inl ⟨rfl, rfl⟩) (fIx_le 7 (rr0 t0.1).1.1 (rr0 t0.1).1.2 (by decide)) (2 + s1.toNatClampNeg) (by omega) dX7_done_32 ?_
      refine lv_iload hx hb dX7_done_33 (lv_at hl 0 rfl) ?_
      refine f_iV (n := 1) X hP hS [.int (nI i)] [] (c_X4_number l E D L (2 + s1.toNatClampNeg) (nI i) (sh_sh (by omega))) m_4_38 wi_X4_number (sh_sh (by omega)) rfl (by decide) (by decide +kernel) ⟨Nat.le_of_ble_eq_true rfl, Nat.le_of_ble_eq_true rfl⟩ rfl hl rfl (Nat.le_of_ble_eq_true rfl) ⟨Nat.zero_le _, Nat.zero_le _⟩ dX7_done_35 (fun H locs hP hS => ?_)
      refine lv_istore (lv' := [(5, .int (numI D L (2 + s1.toNatClampNeg) (nI i))), (4, .int (nI i)), (3, .int (dyI M L s1 (nI m) 1)), (0, .ref (fad E 0)), (1, .int s1), (2, .int (nI m))]) hx hb dX7_done_38 hl (by decide) rfl (fun ls hl => ?_)
      refine lv_aload_n hx hb dX7_done_40 rfl (lv_at hl 3 rfl) ?_
      refine f_get X hP (T := TX7) (ci := 7) (k := 0) rfl inX7 rfl 1 (by decide) m_1_232 rfl (v := .ref (fad E 18)) rfl dX7_done_41 ?_
      refine lv_iload hx hb dX7_done_44 (lv_at hl 0 rfl) ?_
      refine f_iV (n := 1) X hP hS [.int (numI D L (2 + s1.toNatClampNeg) (nI i))] [] (c_X1_isMetAsTold l E D L 18 (numI D L (2 + s1.toNatClampNeg) (nI i)) rfl) m_4_83 wi_X1_isMetAsTold rfl rfl (by decide) (by decide +kernel) ⟨Nat.le_of_ble_eq_true rfl, Nat.le_of_ble_eq_true rfl⟩ rfl hl rfl (Nat.le_of_ble_eq_true rfl) ⟨Nat.zero_le _, Nat.zero_le _⟩ dX7_done_46 (fun H locs hP hS => ?_)
      refine lv_if_eq (tgt := 73) hx hb dX7_done_49 (by decide) (fun c_49 => ?_) (fun c_49 => ?_)
      · have c_49 := bIf0 c_49
        refine lv_iinc (v := (nI (i + 1))) (lv' := [(4, .int (nI (i + 1))), (5, .int (numI D L (2 + s1.toNatClampNeg) (nI i))), (3, .int (dyI M L s1 (nI m) 1)), (0, .ref (fad E 0)), (1, .int s1), (2, .int (nI m))]) hx hb dX7_done_73 hl (k := 1) rfl (nI_1 _) (by decide) rfl (fun ls hl => ?_)
        refine lv_goto (tgt := 21) hx hb dX7_done_76 (by decide) ?_
        exact ih_21 ((i + 1), D) _ _ _ (by show m - (i + 1) < m - i; omega) ⟨hP, hS, lv_sub hl [0, 2, 3, 4, 5] rfl, (by omega), (by show _ = dnF _ _ _ (_ + 1); unfold dnF; rw [itF_s]; unfold dnF at hbt; rw [← hbt]; first | exact (if_pos c_49).symm | exact (if_neg (Bool.eq_false_iff.mp c_49)).symm)⟩
      · have c_49 := bIf1 c_49
        refine lv_aload_n hx hb dX7_done_52 rfl (lv_at hl 3 rfl) ?_
        refine f_get X hP (T := TX7) (ci := 7) (k := 0) rfl inX7 rfl 1 (by decide) m_1_232 rfl (v := .ref (fad E 18)) rfl dX7_done_53 ?_
        refine lv_dup hx hb dX7_done_56 rfl ?_
        refine f_get X hP (T := TX1) (ci := 1) (k := 18) rfl inX1 rfl 7 (by decide) m_1_127 rfl (v := .int (D 18 7)) rfl dX7_done_57 ?_
        refine lv_aload_n hx hb dX7_done_60 rfl (lv_at hl 3 rfl) ?_
        refine f_get X hP (T := TX7) (ci := 7) (k := 0) rfl inX7 rfl 1 (by decide) m_1_232 rfl (v := .ref (fad E 18)) rfl dX7_done_61 ?_
        refine lv_iload hx hb dX7_done_64 (lv_at hl 0 rfl) ?_
        refine f_iV (n := 1) X hP hS [.int (numI D L (2 + s1.toNatClampNeg) (nI i))] [.int (D 18 7), .ref (fad E 18)] (c_X1_worthAsTold l E D L 18 (numI D L (2 + s1.toNatClampNeg) (nI i)) rfl) m_4_88 wi_X1_worthAsTold rfl rfl (by decide) (by decide +kernel) ⟨Nat.le_of_ble_eq_true rfl, Nat.le_of_ble_eq_true rfl⟩ rfl hl rfl (Nat.le_of_ble_eq_true rfl) ⟨Nat.zero_le _, Nat.zero_le _⟩ dX7_done_66 (fun H locs hP hS => ?_)
        refine lv_iadd hx hb dX7_done_69 ?_
        refine f_put X hP hS (T := TX1) (ci := 1) (k := 18) rfl inX1 rfl tyX1 tyX1_ok nmX1 7 (by decide) m_1_127 ⟨rfl, rfl⟩ rfl (v := ((D 18 7) + (if (mayB (fun t => (D (18 + 4 + t) 1)) (fun t => (D (18 + 4 + t) 2)) (fun t => (D (18 + 4 + t) 3)) (D 18 3) (numI D L (2 + s1.toNatClampNeg) (nI i))) = true then (D (18 + 4 + tT (numI D L (2 + s1.toNatClampNeg) (nI i))) 4) else 0))) rfl rfl dX7_done_70 (fun H locs hP hS => ?_)
        refine lv_iinc (v := (nI (i + 1))) (lv' := [(4, .int (nI (i + 1))), (5, .int (numI D L (2 + s1.toNatClampNeg) (nI i))), (3, .int (dyI M L s1 (nI m) 1)), (0, .ref (fad E 0)), (1, .int s1), (2, .int (nI m))]) hx hb dX7_done_73 hl (k := 1) rfl (nI_1 _) (by decide) rfl (fun ls hl => ?_)
        refine lv_goto (tgt := 21) hx hb dX7_done_76 (by decide) ?_
        exact ih_21 ((i + 1), (up2 D 18 7 ((D 18 7) + (if (mayB (fun t => (D (18 + 4 + t) 1)) (fun t => (D (18 + 4 + t) 2)) (fun t => (D (18 + 4 + t) 3)) (D 18 3) (numI D L (2 + s1.toNatClampNeg) (nI i))) = true then (D (18 + 4 + tT (numI D L (2 + s1.toNatClampNeg) (nI i))) 4) else 0)))) _ _ _ (by show m - (i + 1) < m - i; omega) ⟨hP, hS, lv_sub hl [0, 2, 3, 4, 5] rfl, (by omega), (by show _ = dnF _ _ _ (_ + 1); unfold dnF; rw [itF_s]; unfold dnF at hbt; rw [← hbt]; first | exact (if_pos c_49).symm | exact (if_neg (Bool.eq_false_iff.mp c_49)).symm)⟩
  · refine lv_aload_n hx hb dX7_done_12 rfl (lv_at hl 1 rfl) ?_
    refine lv_iload_n hx hb dX7_done_13 rfl (lv_at hl 0 rfl) ?_
    refine f_iV (n := 1) X hP hS [.int (dyI M L s1 n 1)] [] (c_X7_refuse l E M L (dyI M L s1 n 1)) m_2_29 wi_X7_refuse rfl rfl (by decide) (by decide +kernel) ⟨Nat.le_of_ble_eq_true rfl, Nat.le_of_ble_eq_true rfl⟩ rfl hl rfl (Nat.le_of_ble_eq_true rfl) ⟨Nat.zero_le _, Nat.zero_le _⟩ dX7_done_14 (fun H locs hP hS => ?_)
    refine f_ir X hlk hr (v := (dyI M L s1 n 1)) rfl hP hS ?_ dX7_done_17
    unfold doneC
    (first | rw [if_pos c_9] | rw [if_neg c_9] | rw [if_neg (Bool.eq_false_iff.mp c_9)] | skip)
    (try dsimp only)
    first
      | done
      | exact ⟨rfl, rfl⟩
      | rfl
      | (simp only [c_9, if_true, if_false, and_self, and_true, true_and, not_true_eq_false, not_false_eq_true, and_false, false_and, or_true, true_or, or_false, false_or, or_self, Bool.false_eq_true, reduceCtorEq, nl10, nl20, nl30, nl40, nl50, nl60, nl70, nl12, nl13, nl21, nl23, nl31, nl32]; first | done | exact ⟨rfl, rfl⟩ | rfl)
      | contradiction
      | (simp only [c_9, if_true, if_false, and_self, and_true, true_and, not_true_eq_false, not_false_eq_true, and_false, false_and, or_true, true_or, or_false, false_or, or_self, Bool.false_eq_true, reduceCtorEq, nl10, nl20, nl30, nl40, nl50, nl60, nl70, nl12, nl13, nl21, nl23, nl31, nl32]; contradiction)
      | (exfalso; simp_all; done)
      | simp_all

set_option maxHeartbeats 4000000 in
set_option maxRecDepth 100000 in
theorem c_X7_days (l : Launch) (E : fE) (M : Nat → Nat → Int32) (L : Nat → Nat → Int64) (n : Int32) (tc wc : Nat) (htc : M 18 3 = nI tc) (htc8 : tc ≤ 8) (hwc : M 18 4 = nI wc) (hwc6 : wc ≤ 6) : Met l yX7_days (wl yX7_days cX7_days 3 (some .int)) (fRm 4 86) (va_Pc [.ref (fad E 0), .int n] (fPre E M L)) (fQi E (fun r u => u = ((daysC M L n tc wc).2.1, (daysC M L n tc wc).2.2) ∧ r = (daysC M L n tc wc).1)) 0 0 (fA E) := by
  refine f_head (by decide) (Nat.le_of_ble_eq_true rfl) ?_
  intro pg ev s mi below meth cd ls X hr hlk hP hS hl
  have hx := X.1.1
  have hb := X.1.2.1
  have hl : lv_has ls 3 [(0, .ref (fad E 0)), (1, .int n)] := hl
  refine lv_iload_n hx hb dX7_days_0 rfl (lv_at hl 1 rfl) ?_
  refine lv_iconst (v := 1) hx hb dX7_days_1 (by decide) ?_
  refine lv_bipush (v := 60) hx hb dX7_days_2 (by decide) ?_
  refine f_iS (n := 3) X hP hS [.int n, .int 1, .int 60] [] (c_X7_within l E M L n 1 60) m_2_26 wi_X7_within (by decide +kernel) ⟨Nat.le_of_ble_eq_true rfl, Nat.le_of_ble_eq_true rfl⟩ rfl hl rfl (Nat.le_of_ble_eq_true rfl) ⟨Nat.zero_le _, Nat.zero_le _⟩ dX7_days_4 (fun H locs hP hS => ?_)
  refine lv_if_ne (tgt := 17) hx hb dX7_days_7 (by decide) (fun c_7 => ?_) (fun c_7 => ?_)
  · have c_7 := bI1 c_7
    obtain ⟨m, hm, em⟩ := i_le 60 (Int32.le_trans (by decide) c_7.1) c_7.2 (by decide)
    subst em
    have hnm : (nI m).toNatClampNeg = m := nI_clamp (by omega)
    refine lv_iconst (v := 0) hx hb dX7_days_17 (by decide) ?_
    refine lv_istore_n (lv' := [(2, .int 0), (0, .ref (fad E 0)), (1, .int (nI m))]) hx hb dX7_days_18 rfl hl (by decide) rfl (fun ls hl => ?_)
    refine f_loop (α := Nat × (Nat → Nat → Int32)) (fun (a : Nat × (Nat → Nat → Int32)) H locs ls => match a with | (d1, D) => fP E D L H ∧ va_S (fA E) s.heap H locs ∧ lv_has ls 3 [(2, .int (nI d1)), (0, .ref (fad E 0)), (1, .int (nI m))] ∧ (d1 ≤ m) ∧ (D = (dvF M tc wc d1)) ∧ (D 18 3 = nI tc) ∧ (D 18 4 = nI wc)) (fun (a : Nat × (Nat → Nat → Int32)) => match a with | (d1, D) => m - d1) (pc0 := 19) (st := fun _ => []) ?_ (0, M) _ _ _ ⟨hP, hS, lv_sub hl [0, 1, 2] rfl, (by omega), rfl, htc, hwc⟩
    rintro ⟨d1, D⟩ H locs ls ⟨hP, hS, hl, ht, hbt, hDt, hDw⟩ ih_19
    refine lv_iload_n hx hb dX7_days_19 rfl (lv_at hl 0 rfl) ?_
    refine lv_iload_n hx hb dX7_days_20 rfl (lv_at hl 2 rfl) ?_
    refine lv_icmp_ge (tgt := 37) hx hb dX7_days_21 (by decide) (fun c_21 => ?_) (fun c_21 => ?_)
    · have c_21 := (nI_le_iff (a := m) (b := d1) (by omega) (by omega)).mp c_21
      obtain rfl : m = d1 := by omega
      refine lv_aload_n hx hb dX7_days_37 rfl (lv_at hl 1 rfl) ?_
      refine f_get X hP (T := TX7) (ci := 7) (k := 0) rfl inX7 rfl 1 (by decide) m_1_232 rfl (v := .ref (fad E 18)) rfl dX7_days_38 ?_
      refine f_get X hP (T := TX1) (ci := 1) (k := 18) rfl inX1 rfl 7 (by decide) m_1_127 rfl (v := .int (D 18 7)) rfl dX7_days_41 ?_
      refine f_ir X hlk hr (v := (D 18 7)) rfl hP hS ?_ dX7_days_44
      unfold daysC; rw [if_pos c_7, hnm, ← hbt]; exact ⟨rfl, rfl⟩
    · have c_21 := (not_congr (nI_le_iff (a := m) (b := d1) (by omega) (by omega))).mp c_21
      refine lv_aload_n hx hb dX7_days_24 rfl (lv_at hl 1 rfl) ?_
      refine f_get X hP (T := TX7) (ci := 7) (k := 0) rfl inX7 rfl 1 (by decide) m_1_232 rfl (v := .ref (fad E 18)) rfl dX7_days_25 ?_
      refine f_vV (n := 0) X hP hS [] [] (c_X1_passDay l E D L 18 tc wc rfl hDt htc8 hDw hwc6) m_4_100 wi_X1_passDay rfl rfl (by decide) (by decide +kernel) ⟨Nat.le_of_ble_eq_true rfl, Nat.le_of_ble_eq_true rfl⟩ rfl hl rfl (Nat.le_of_ble_eq_true rfl) ⟨Nat.zero_le _, Nat.zero_le _⟩ dX7_days_28 (fun H locs hP hS => ?_)
      refine lv_iinc (v := (nI (d1 + 1))) (lv' := [(2, .int (nI (d1 + 1))), (0, .ref (fad E 0)), (1, .int (nI m))]) hx hb dX7_days_31 hl (k := 0) rfl (nI_1 _) (by decide) rfl (fun ls hl => ?_)
      refine lv_goto (tgt := 19) hx hb dX7_days_34 (by decide) ?_
      have hP := fP_eq (show (pdF D tc wc) = (up2 (up2 (up2 (up2 D 18 9 (dayI (fun t => (D (18 + 4 + t) 1)) (fun t => (D (18 + 4 + t) 2)) (fun t => (D (18 + 4 + t) 3)) (fun t => (D (18 + 4 + t) 4)) (fun t => (D (18 + 4 + t) 5)) (fun t => (D (18 + 4 + t) 6)) (D 18 9) (D 18 7) tc).1) 18 7 (dayI (fun t => (D (18 + 4 + t) 1)) (fun t => (D (18 + 4 + t) 2)) (fun t => (D (18 + 4 + t) 3)) (fun t => (D (18 + 4 + t) 4)) (fun t => (D (18 + 4 + t) 5)) (fun t => (D (18 + 4 + t) 6)) (D 18 9) (D 18 7) tc).2) 18 8 (wagesI (fun w => (D (18 + 12 + w) 1)) (fun w => (D (18 + 12 + w) 2)) (fun w => (D (18 + 12 + w) 3)) (fun w => (D (18 + 12 + w) 4)) (D 18 5) (D 18 8) wc)) 18 6 ((D 18 6) + 1)) from by
          rfl) hP
      exact ih_19 ((d1 + 1), (pdF D tc wc)) _ _ _ (by show m - (d1 + 1) < m - d1; omega) ⟨hP, hS, lv_sub hl [0, 1, 2] rfl, (by omega), (by rw [hbt]; rfl), (pdF_3.trans hDt), (pdF_4.trans hDw)⟩
  · have c_7 := bI0 c_7
    refine lv_aload_n hx hb dX7_days_10 rfl (lv_at hl 0 rfl) ?_
    refine lv_bipush (v := (-6)) hx hb dX7_days_11 (by decide) ?_
    refine f_iV (n := 1) X hP hS [.int (-6)] [] (c_X7_refuse l E M L (-6)) m_2_29 wi_X7_refuse rfl rfl (by decide) (by decide +kernel) ⟨Nat.le_of_ble_eq_true rfl, Nat.le_of_ble_eq_true rfl⟩ rfl hl rfl (Nat.le_of_ble_eq_true rfl) ⟨Nat.zero_le _, Nat.zero_le _⟩ dX7_days_13 (fun H locs hP hS => ?_)
    refine f_ir X hlk hr (v := (-6)) rfl hP hS ?_ dX7_days_16
    unfold daysC
    (first | rw [if_pos c_7] | rw [if_neg c_7] | rw [if_neg (Bool.eq_false_iff.mp c_7)] | skip)
    (try dsimp only)
    first
      | done
      | exact ⟨rfl, rfl⟩
      | rfl
      | (simp only [c_7, if_true, if_false, and_self, and_true, true_and, not_true_eq_false, not_false_eq_true, and_false, false_and, or_true, true_or, or_false, false_or, or_self, Bool.false_eq_true, reduceCtorEq, nl10, nl20, nl30, nl40, nl50, nl60, nl70, nl12, nl13, nl21, nl23, nl31, nl32]; first | done | exact ⟨rfl, rfl⟩ | rfl)
      | contradiction
      | (simp only [c_7, if_true, if_false, and_self, and_true, true_and, not_true_eq_false, not_false_eq_true, and_false, false_and, or_true, true_or, or_false, false_or, or_self, Bool.false_eq_true, reduceCtorEq, nl10, nl20, nl30, nl40, nl50, nl60, nl70, nl12, nl13, nl21, nl23, nl31, nl32]; contradiction)
      | (exfalso; simp_all; done)
      | simp_all

set_option maxHeartbeats 4000000 in
set_option maxRecDepth 100000 in
theorem c_X7_restore (l : Launch) (E : fE) (M : Nat → Nat → Int32) (L : Nat → Nat → Int64) : Met l yX7_restore (wl yX7_restore cX7_restore 3 (some .int)) (fRm 2 44) (va_Pc [.ref (fad E 0)] (fPre E M L)) (fQi E (fun r u => u = ((restC M L).2.1, (restC M L).2.2) ∧ r = (restC M L).1)) 0 0 (fA E) := by
  refine f_head (by decide) (Nat.le_of_ble_eq_true rfl) ?_
  intro pg ev s mi below meth cd ls X hr hlk hP hS hl
  have hx := X.1.1
  have hb := X.1.2.1
  have hl : lv_has ls 3 [(0, .ref (fad E 0))] := hl
  refine lv_aload_n hx hb dX7_restore_0 rfl (lv_at hl 0 rfl) ?_
  refine f_get X hP (T := TX7) (ci := 7) (k := 0) rfl inX7 rfl 7 (by decide) m_1_238 rfl (v := .int (M 0 7)) rfl dX7_restore_1 ?_
  refine lv_if_ne (tgt := 14) hx hb dX7_restore_4 (by decide) (fun c_4 => ?_) (fun c_4 => ?_)
  · refine lv_aload_n hx hb dX7_restore_14 rfl (lv_at hl 0 rfl) ?_
    refine f_get X hP (T := TX7) (ci := 7) (k := 0) rfl inX7 rfl 1 (by decide) m_1_232 rfl (v := .ref (fad E 18)) rfl dX7_restore_15 ?_
    refine lv_aload_n hx hb dX7_restore_18 rfl (lv_at hl 0 rfl) ?_
    refine f_get X hP (T := TX7) (ci := 7) (k := 0) rfl inX7 rfl 2 (by decide) m_1_233 rfl (v := .ref (fad E 36)) rfl dX7_restore_19 ?_
    refine f_vV (n := 1) X hP hS [.ref (fad E 36)] [] (c_X1_become l E M L 18 36 rfl rfl (by decide)) m_3_107 wi_X1_become rfl rfl (by decide) (by decide +kernel) ⟨Nat.le_of_ble_eq_true rfl, Nat.le_of_ble_eq_true rfl⟩ rfl hl rfl (Nat.le_of_ble_eq_true rfl) ⟨Nat.zero_le _, Nat.zero_le _⟩ dX7_restore_22 (fun H locs hP hS => ?_)
    refine lv_iconst (v := 0) hx hb dX7_restore_25 (by decide) ?_
    refine lv_istore_n (lv' := [(1, .int 0), (0, .ref (fad E 0))]) hx hb dX7_restore_26 rfl hl (by decide) rfl (fun ls hl => ?_)
    refine f_loop (α := Nat × (Nat → Nat → Int32)) (fun (a : Nat × (Nat → Nat → Int32)) H locs ls => match a with | (s1, D) => fP E D L H ∧ va_S (fA E) s.heap H locs ∧ lv_has ls 3 [(1, .int (nI s1)), (0, .ref (fad E 0))] ∧ (s1 ≤ 8) ∧ (D = (rsM (cpG M 18 36) s1))) (fun (a : Nat × (Nat → Nat → Int32)) => match a with | (s1, D) => 8 - s1) (pc0 := 27) (st := fun _ => []) ?_ (0, (cpG M 18 36)) _ _ _ ⟨hP, hS, lv_sub hl [0, 1] rfl, (by omega), rfl⟩
    rintro ⟨s1, D⟩ H locs ls ⟨hP, hS, hl, ht, hbt⟩ ih_27
    refine lv_iload_n hx hb dX7_restore_27 rfl (lv_at hl 0 rfl) ?_
    refine lv_bipush (v := 8) hx hb dX7_restore_28 (by decide) ?_
    refine lv_icmp_ge (tgt := 72) hx hb dX7_restore_30 (by decide) (fun c_30 => ?_) (fun c_30 => ?_)
    · have c_30 := (nI_le_iff (a := 8) (b := s1) (by omega) (by omega)).mp c_30
      obtain rfl : s1 = 8 := by omega
      refine lv_aload_n hx hb dX7_restore_72 rfl (lv_at hl 1 rfl) ?_
      refine f_get X hP (T := TX7) (ci := 7) (k := 0) rfl inX7 rfl 1 (by decide) m_1_232 rfl (v := .ref (fad E 18)) rfl dX7_restore_73 ?_
      refine f_get X hP (T := TX1) (ci := 1) (k := 18) rfl inX1 rfl 4 (by decide) m_1_119 rfl (v := .int (D 18 4)) rfl dX7_restore_76 ?_
      refine f_ir X hlk hr (v := (D 18 4)) rfl hP hS ?_ dX7_restore_79
      unfold restC; rw [if_neg c_4, ← hbt]; exact ⟨rfl, rfl⟩
    · have c_30 := (not_congr (nI_le_iff (a := 8) (b := s1) (by omega) (by omega))).mp c_30
      refine lv_aload_n hx hb dX7_restore_33 rfl (lv_at hl 1 rfl) ?_
      refine f_get X hP (T := TX7) (ci := 7) (k := 0) rfl inX7 rfl 0 (by decide) m_1_231 rfl (v := .ref (fad E 1)) rfl dX7_restore_34 ?_
      refine lv_iload_n hx hb dX7_restore_37 rfl (lv_at hl 0 rfl) ?_
      refine f_aald X hP (t := 11) (d := 1) (n := 8) (r := s1) rfl rfl (.inl ⟨rfl, rfl⟩) (fIx_nI (by omega) (by decide)) (2 + s1) (by omega) dX7_restore_38 ?_
      refine lv_astore_n (lv' := [(2, .ref (fad E (2 + s1))), (1, .int (nI s1)), (0, .ref (fad E 0))]) hx hb dX7_restore_39 rfl hl (by decide) rfl (fun ls hl => ?_)
      refine lv_aload_n hx hb dX7_restore_40 rfl (lv_at hl 0 rfl) ?_
      refine f_iV (n := 0) X hP hS [] [] (c_X4_isRow l E D L (2 + s1) (sh_sh (by omega))) m_2_45 wi_X4_isRow (sh_sh (by omega)) rfl (by decide) (by decide +kernel) ⟨Nat.le_of_ble_eq_true rfl, Nat.le_of_ble_eq_true rfl⟩ rfl hl rfl (Nat.le_of_ble_eq_true rfl) ⟨Nat.zero_le _, Nat.zero_le _⟩ dX7_restore_41 (fun H locs hP hS => ?_)
      refine lv_if_ne (tgt := 66) hx hb dX7_restore_44 (by decide) (fun c_44 => ?_) (fun c_44 => ?_)
      · have c_44 := bI1 c_44
        refine lv_iinc (v := (nI (s1 + 1))) (lv' := [(1, .int (nI (s1 + 1))), (2, .ref (fad E (2 + s1))), (0, .ref (fad E 0))]) hx hb dX7_restore_66 hl (k := 1) rfl (nI_1 _) (by decide) rfl (fun ls hl => ?_)
        refine lv_goto (tgt := 27) hx hb dX7_restore_69 (by decide) ?_
        exact ih_27 ((s1 + 1), D) _ _ _ (by show 8 - (s1 + 1) < 8 - s1; omega) ⟨hP, hS, lv_sub hl [0, 2] rfl, (by omega), (by show _ = rsM _ (_ + 1); unfold rsM; rw [itF_s]; unfold rsM at hbt; rw [← hbt]; unfold rsF; first | exact (if_pos c_44).symm | (refine Eq.trans ?_ (if_neg c_44).symm; first | exact (if_pos c_58).symm | exact (if_neg c_58).symm))⟩
      · have c_44 := bI0 c_44
        refine lv_aload_n hx hb dX7_restore_47 rfl (lv_at hl 2 rfl) ?_
        refine f_get X hP (T := TX7) (ci := 7) (k := 0) rfl inX7 rfl 1 (by decide) m_1_232 rfl (v := .ref (fad E 18)) rfl dX7_restore_48 ?_
        refine lv_aload_n hx hb dX7_restore_51 rfl (lv_at hl 0 rfl) ?_
        refine f_get X hP (T := TX4) (ci := 4) (k := (2 + s1)) (sh_sh (by omega)) inX4 rfl 1 (by decide) m_1_219 rfl (v := .int (D (2 + s1) 1)) rfl dX7_restore_52 ?_
        refine f_iV (n := 1) X hP hS [.int (D (2 + s1) 1)] [] (c_X1_hasWaiter l E D L 18 (D (2 + s1) 1) rfl) m_2_89 wi_X1_hasWaiter rfl rfl (by decide) (by decide +kernel) ⟨Nat.le_of_ble_eq_true rfl, Nat.le_of_ble_eq_true rfl⟩ rfl hl rfl (Nat.le_of_ble_eq_true rfl) ⟨Nat.zero_le _, Nat.zero_le _⟩ dX7_restore_55 (fun H locs hP hS => ?_)
        refine lv_if_ne (tgt := 66) hx hb dX7_restore_58 (by decide) (fun c_58 => ?_) (fun c_58 => ?_)
        · have c_58 := bI1 c_58
          refine lv_iinc (v := (nI (s1 + 1))) (lv' := [(1, .int (nI (s1 + 1))), (2, .ref (fad E (2 + s1))), (0, .ref (fad E 0))]) hx hb dX7_restore_66 hl (k := 1) rfl (nI_1 _) (by decide) rfl (fun ls hl => ?_)
          refine lv_goto (tgt := 27) hx hb dX7_restore_69 (by decide) ?_
          exact ih_27 ((s1 + 1), D) _ _ _ (by show 8 - (s1 + 1) < 8 - s1; omega) ⟨hP, hS, lv_sub hl [0, 2] rfl, (by omega), (by show _ = rsM _ (_ + 1); unfold rsM; rw [itF_s]; unfold rsM at hbt; rw [← hbt]; unfold rsF; first | exact (if_pos c_44).symm | (refine Eq.trans ?_ (if_neg c_44).symm; first | exact (if_pos c_58).symm | exact (if_neg c_58).symm))⟩
        · have c_58 := bI0 c_58
          refine lv_aload_n hx hb dX7_restore_61 rfl (lv_at hl 0 rfl) ?_
          refine lv_iconst (v := (-1)) hx hb dX7_restore_62 (by decide) ?_
          refine f_vV (n := 1) X hP hS [.int (-1)] [] (c_X4_hold l E D L (2 + s1) (-1) (sh_sh (by omega))) m_2_93 wi_X4_hold (sh_sh (by omega)) rfl (by decide) (by decide +kernel) ⟨Nat.le_of_ble_eq_true rfl, Nat.le_of_ble_eq_true rfl⟩ rfl hl rfl (Nat.le_of_ble_eq_true rfl) ⟨Nat.zero_le _, Nat.zero_le _⟩ dX7_restore_63 (fun H locs hP hS => ?_)
          refine lv_iinc (v := (nI (s1 + 1))) (lv' := [(1, .int (nI (s1 + 1))), (2, .ref (fad E (2 + s1))), (0, .ref (fad E 0))]) hx hb dX7_restore_66 hl (k := 1) rfl (nI_1 _) (by decide) rfl (fun ls hl => ?_)
          refine lv_goto (tgt := 27) hx hb dX7_restore_69 (by decide) ?_
          exact ih_27 ((s1 + 1), (up2 (up2 D (2 + s1) 1 (-1)) (2 + s1) 2 0)) _ _ _ (by show 8 - (s1 + 1) < 8 - s1; omega) ⟨hP, hS, lv_sub hl [0, 2] rfl, (by omega), (by show _ = rsM _ (_ + 1); unfold rsM; rw [itF_s]; unfold rsM at hbt; rw [← hbt]; unfold rsF; first | exact (if_pos c_44).symm | (refine Eq.trans ?_ (if_neg c_44).symm; first | exact (if_pos c_58).symm | exact (if_neg c_58).symm))⟩
  · refine lv_aload_n hx hb dX7_restore_7 rfl (lv_at hl 0 rfl) ?_
    refine lv_bipush (v := (-6)) hx hb dX7_restore_8 (by decide) ?_
    refine f_iV (n := 1) X hP hS [.int (-6)] [] (c_X7_refuse l E M L (-6)) m_2_29 wi_X7_refuse rfl rfl (by decide) (by decide +kernel) ⟨Nat.le_of_ble_eq_true rfl, Nat.le_of_ble_eq_true rfl⟩ rfl hl rfl (Nat.le_of_ble_eq_true rfl) ⟨Nat.zero_le _, Nat.zero_le _⟩ dX7_restore_10 (fun H locs hP hS => ?_)
    refine f_ir X hlk hr (v := (-6)) rfl hP hS ?_ dX7_restore_13
    unfold restC
    (first | rw [if_pos c_4] | rw [if_neg c_4] | rw [if_neg (Bool.eq_false_iff.mp c_4)] | skip)
    (try dsimp only)
    first
      | done
      | exact ⟨rfl, rfl⟩
      | rfl
      | (simp only [c_4, if_true, if_false, and_self, and_true, true_and, not_true_eq_false, not_false_eq_true, and_false, false_and, or_true, true_or, or_false, false_or, or_self, Bool.false_eq_true, reduceCtorEq, nl10, nl20, nl30, nl40, nl50, nl60, nl70, nl12, nl13, nl21, nl23, nl31, nl32]; first | done | exact ⟨rfl, rfl⟩ | rfl)
      | contradiction
      | (simp only [c_4, if_true, if_false, and_self, and_true, true_and, not_true_eq_false, not_false_eq_true, and_false, false_and, or_true, true_or, or_false, false_or, or_self, Bool.false_eq_true, reduceCtorEq, nl10, nl20, nl30, nl40, nl50, nl60, nl70, nl12, nl13, nl21, nl23, nl31, nl32]; contradiction)
      | (exfalso; simp_all; done)
      | simp_all
