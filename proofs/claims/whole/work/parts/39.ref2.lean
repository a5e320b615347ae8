def a_X8_cases (M : Nat → Nat → Int32) (L : Nat → Nat → Int64) (t : Int32) (t0 : Nat) : Int32 := ((((M 95 t0) - (M 94 t0)) + 1) + (M 96 t0))
set_option maxHeartbeats 1000000 in
set_option maxRecDepth 100000 in
theorem c_X8_cases (l : Launch) (E : fE) (M : Nat → Nat → Int32) (L : Nat → Nat → Int64) (t : Int32) (t0 : Nat) (ht : fIx t 8 t0) : Met l yX8_cases (wl yX8_cases cX8_cases 2 (some .int)) (fRm 0 0) (va_Pc [.ref (fad E 86), .int t] (fPre E M L)) (fQi E (fun r u => u = (M, L) ∧ r = (a_X8_cases M L t t0))) 0 0 (fA E) := by
  refine f_head (by decide) (Nat.le_of_ble_eq_true rfl) ?_
  intro pg ev s mi below meth cd ls X hr hlk hP hS hl
  have hx := X.1.1
  have hb := X.1.2.1
  have hl : lv_has ls 2 [(0, .ref (fad E 86)), (1, .int t)] := hl
  refine lv_aload_n hx hb dX8_cases_0 rfl (lv_at hl 0 rfl) ?_
  refine f_get X hP (T := TX8) (ci := 8) (k := 86) rfl inX8 rfl 16 (by decide) m_4_190 rfl (v := .ref (fad E 95)) rfl dX8_cases_1 ?_
  refine lv_iload_n hx hb dX8_cases_4 rfl (lv_at hl 1 rfl) ?_
  refine f_iald X hP (k := 95) (n := 8) (q := t0) rfl rfl ht dX8_cases_5 ?_
  refine lv_aload_n hx hb dX8_cases_6 rfl (lv_at hl 0 rfl) ?_
  refine f_get X hP (T := TX8) (ci := 8) (k := 86) rfl inX8 rfl 15 (by decide) m_4_189 rfl (v := .ref (fad E 94)) rfl dX8_cases_7 ?_
  refine lv_iload_n hx hb dX8_cases_10 rfl (lv_at hl 1 rfl) ?_
  refine f_iald X hP (k := 94) (n := 8) (q := t0) rfl rfl ht dX8_cases_11 ?_
  refine lv_isub hx hb dX8_cases_12 ?_
  refine lv_iconst (v := 1) hx hb dX8_cases_13 (by decide) ?_
  refine lv_iadd hx hb dX8_cases_14 ?_
  refine lv_aload_n hx hb dX8_cases_15 rfl (lv_at hl 0 rfl) ?_
  refine f_get X hP (T := TX8) (ci := 8) (k := 86) rfl inX8 rfl 17 (by decide) m_4_191 rfl (v := .ref (fad E 96)) rfl dX8_cases_16 ?_
  refine lv_iload_n hx hb dX8_cases_19 rfl (lv_at hl 1 rfl) ?_
  refine f_iald X hP (k := 96) (n := 8) (q := t0) rfl rfl ht dX8_cases_20 ?_
  refine lv_iadd hx hb dX8_cases_21 ?_
  refine f_ir X hlk hr (v := ((((M 95 t0) - (M 94 t0)) + 1) + (M 96 t0))) rfl hP hS ?_ dX8_cases_22
  unfold a_X8_cases
  (try dsimp only)
  first
    | done
    | exact ⟨rfl, rfl⟩
    | rfl
    | (simp only [if_true, if_false, and_self, and_true, true_and, not_true_eq_false, not_false_eq_true, and_false, false_and, or_true, true_or, or_false, false_or, or_self, Bool.false_eq_true, reduceCtorEq, nl10, nl20, nl30, nl40, nl50, nl60, nl70, nl12, nl13, nl21, nl23, nl31, nl32]; first | done | exact ⟨rfl, rfl⟩ | rfl)
    | contradiction
    | (simp only [if_true, if_false, and_self, and_true, true_and, not_true_eq_false, not_false_eq_true, and_false, false_and, or_true, true_or, or_false, false_or, or_self, Bool.false_eq_true, reduceCtorEq, nl10, nl20, nl30, nl40, nl50, nl60, nl70, nl12, nl13, nl21, nl23, nl31, nl32]; contradiction)
    | (exfalso; simp_all; done)
    | simp_all

def a_X8_holding (M : Nat → Nat → Int32) (L : Nat → Nat → Int64) (w : Int32) (w0 : Nat) : Int32 := (if (M 88 w0) = 1 then (if (2 * (M 91 w0)) ≤ 24 then (2 * (M 91 w0)) else 24) else (if (M 88 w0) = 2 then (if ((M 91 w0) + (M 89 w0)) ≤ 24 then ((M 91 w0) + (M 89 w0)) else 24) else (if (M 88 w0) = 3 then 24 else (if (M 88 w0) = 4 then (if (((M 91 w0) + 1) / 2) ≤ 24 then (((M 91 w0) + 1) / 2) else 24) else (if (M 88 w0) = 5 then (if ((M 91 w0) + (M 89 w0)) ≤ 1 then 1 else (if (((M 91 w0) + (M 89 w0)) - 1) ≤ 24 then (((M 91 w0) + (M 89 w0)) - 1) else 24)) else (if (M 88 w0) = 6 then (if ((((M 91 w0) + 1) / 2) + (M 86 2)) ≤ 24 then ((((M 91 w0) + 1) / 2) + (M 86 2)) else 24) else (if (M 91 w0) ≤ 24 then (M 91 w0) else 24)))))))
set_option maxHeartbeats 1000000 in
set_option maxRecDepth 100000 in
theorem c_X8_holding (l : Launch) (E : fE) (M : Nat → Nat → Int32) (L : Nat → Nat → Int64) (w : Int32) (w0 : Nat) (hw : fIx w 6 w0) : Met l yX8_holding (wl yX8_holding cX8_holding 4 (some .int)) (fRm 0 0) (va_Pc [.ref (fad E 86), .int w] (fPre E M L)) (fQi E (fun r u => u = (M, L) ∧ r = (a_X8_holding M L w w0))) 0 0 (fA E) := by
  refine f_head (by decide) (Nat.le_of_ble_eq_true rfl) ?_
  intro pg ev s mi below meth cd ls X hr hlk hP hS hl
  have hx := X.1.1
  have hb := X.1.2.1
  have hl : lv_has ls 4 [(0, .ref (fad E 86)), (1, .int w)] := hl
  refine lv_aload_n hx hb dX8_holding_0 rfl (lv_at hl 0 rfl) ?_
  refine f_get X hP (T := TX8) (ci := 8) (k := 86) rfl inX8 rfl 12 (by decide) m_4_186 rfl (v := .ref (fad E 91)) rfl dX8_holding_1 ?_
  refine lv_iload_n hx hb dX8_holding_4 rfl (lv_at hl 1 rfl) ?_
  refine f_iald X hP (k := 91) (n := 6) (q := w0) rfl rfl hw dX8_holding_5 ?_
  refine lv_istore_n (lv' := [(2, .int (M 91 w0)), (0, .ref (fad E 86)), (1, .int w)]) hx hb dX8_holding_6 rfl hl (by decide) rfl (fun ls hl => ?_)
  refine lv_aload_n hx hb dX8_holding_7 rfl (lv_at hl 1 rfl) ?_
  refine f_get X hP (T := TX8) (ci := 8) (k := 86) rfl inX8 rfl 9 (by decide) m_4_183 rfl (v := .ref (fad E 88)) rfl dX8_holding_8 ?_
  refine lv_iload_n hx hb dX8_holding_11 rfl (lv_at hl 2 rfl) ?_
  refine f_iald X hP (k := 88) (n := 6) (q := w0) rfl rfl hw dX8_holding_12 ?_
  by_cases s_13_1 : (M 88 w0) = 1
  · refine lv_tableIn (tgt := 52) hx hb dX8_holding_13 (by rw [s_13_1]; decide) (by rw [s_13_1]; decide) (by rw [s_13_1]; rfl) (by decide) ?_
    refine lv_iconst (v := 2) hx hb dX8_holding_52 (by decide) ?_
    refine lv_iload_n hx hb dX8_holding_53 rfl (lv_at hl 0 rfl) ?_
    refine lv_imul hx hb dX8_holding_54 ?_
    refine lv_istore_n (lv' := [(3, .int (2 * (M 91 w0))), (2, .int (M 91 w0)), (0, .ref (fad E 86)), (1, .int w)]) hx hb dX8_holding_55 rfl hl (by decide) rfl (fun ls hl => ?_)
    refine lv_goto (tgt := 132) hx hb dX8_holding_56 (by decide) ?_
    refine lv_iload_n hx hb dX8_holding_132 rfl (lv_at hl 0 rfl) ?_
    refine lv_bipush (v := 24) hx hb dX8_holding_133 (by decide) ?_
    refine lv_icmp_le (tgt := 143) hx hb dX8_holding_135 (by decide) (fun c_135 => ?_) (fun c_135 => ?_)
    · refine lv_iload_n hx hb dX8_holding_143 rfl (lv_at hl 0 rfl) ?_
      refine f_ir X hlk hr (v := (2 * (M 91 w0))) rfl hP hS ?_ dX8_holding_144
      unfold a_X8_holding
      (first | rw [if_pos s_13_1] | rw [if_neg s_13_1] | rw [if_neg (Bool.eq_false_iff.mp s_13_1)] | skip)
      (first | rw [if_pos c_135] | rw [if_neg c_135] | rw [if_neg (Bool.eq_false_iff.mp c_135)] | skip)
      (try dsimp only)
      first
        | done
        | exact ⟨rfl, rfl⟩
        | rfl
        | (simp only [s_13_1, c_135, if_true, if_false, and_self, and_true, true_and, not_true_eq_false, not_false_eq_true, and_false, false_and, or_true, true_or, or_false, false_or, or_self, Bool.false_eq_true, reduceCtorEq, nl10, nl20, nl30, nl40, nl50, nl60, nl70, nl12, nl13, nl21, nl23, nl31, nl32]; first | done | exact ⟨rfl, rfl⟩ | rfl)
        | contradiction
        | (simp only [s_13_1, c_135, if_true, if_false, and_self, and_true, true_and, not_true_eq_false, not_false_eq_true, and_false, false_and, or_true, true_or, or_false, false_or, or_self, Bool.false_eq_true, reduceCtorEq, nl10, nl20, nl30, nl40, nl50, nl60, nl70, nl12, nl13, nl21, nl23, nl31, nl32]; contradiction)
        | (exfalso; simp_all; done)
        | simp_all
    · refine lv_bipush (v := 24) hx hb dX8_holding_138 (by decide) ?_
      refine lv_goto (tgt := 144) hx hb dX8_holding_140 (by decide) ?_
      refine f_ir X hlk hr (v := 24) rfl hP hS ?_ dX8_holding_144
      unfold a_X8_holding
      (first | rw [if_pos s_13_1] | rw [if_neg s_13_1] | rw [if_neg (Bool.eq_false_iff.mp s_13_1)] | skip)
      (first | rw [if_pos c_135] | rw [if_neg c_135] | rw [if_neg (Bool.eq_false_iff.mp c_135)] | skip)
      (try dsimp only)
      first
        | done
        | exact ⟨rfl, rfl⟩
        | rfl
        | (simp only [s_13_1, c_135, if_true, if_false, and_self, and_true, true_and, not_true_eq_false, not_false_eq_true, and_false, false_and, or_true, true_or, or_false, false_or, or_self, Bool.false_eq_true, reduceCtorEq, nl10, nl20, nl30, nl40, nl50, nl60, nl70, nl12, nl13, nl21, nl23, nl31, nl32]; first | done | exact ⟨rfl, rfl⟩ | rfl)
        | contradiction
        | (simp only [s_13_1, c_135, if_true, if_false, and_self, and_true, true_and, not_true_eq_false, not_false_eq_true, and_false, false_and, or_true, true_or, or_false, false_or, or_self, Bool.false_eq_true, reduceCtorEq, nl10, nl20, nl30, nl40, nl50, nl60, nl70, nl12, nl13, nl21, nl23, nl31, nl32]; contradiction)
        | (exfalso; simp_all; done)
        | simp_all
  by_cases s_13_2 : (M 88 w0) = 2
  · refine lv_tableIn (tgt := 65) hx hb dX8_holding_13 (by rw [s_13_2]; decide) (by rw [s_13_2]; decide) (by rw [s_13_2]; rfl) (by decide) ?_
    refine lv_iload_n hx hb dX8_holding_65 rfl (lv_at hl 0 rfl) ?_
    refine lv_aload_n hx hb dX8_holding_66 rfl (lv_at hl 1 rfl) ?_
    refine f_get X hP (T := TX8) (ci := 8) (k := 86) rfl inX8 rfl 10 (by decide) m_4_184 rfl (v := .ref (fad E 89)) rfl dX8_holding_67 ?_
    refine lv_iload_n hx hb dX8_holding_70 rfl (lv_at hl 2 rfl) ?_
    refine f_iald X hP (k := 89) (n := 6) (q := w0) rfl rfl hw dX8_holding_71 ?_
    refine lv_iadd hx hb dX8_holding_72 ?_
    refine lv_istore_n (lv' := [(3, .int ((M 91 w0) + (M 89 w0))), (2, .int (M 91 w0)), (0, .ref (fad E 86)), (1, .int w)]) hx hb dX8_holding_73 rfl hl (by decide) rfl (fun ls hl => ?_)
    refine lv_goto (tgt := 132) hx hb dX8_holding_74 (by decide) ?_
    refine lv_iload_n hx hb dX8_holding_132 rfl (lv_at hl 0 rfl) ?_
    refine lv_bipush (v := 24) hx hb dX8_holding_133 (by decide) ?_
    refine lv_icmp_le (tgt := 143) hx hb dX8_holding_135 (by decide) (fun c_135 => ?_) (fun c_135 => ?_)
    · refine lv_iload_n hx hb dX8_holding_143 rfl (lv_at hl 0 rfl) ?_
      refine f_ir X hlk hr (v := ((M 91 w0) + (M 89 w0))) rfl hP hS ?_ dX8_holding_144
      unfold a_X8_holding
      (first | rw [if_pos s_13_1] | rw [if_neg s_13_1] | rw [if_neg (Bool.eq_false_iff.mp s_13_1)] | skip)
      (first | rw [if_pos s_13_2] | rw [if_neg s_13_2] | rw [if_neg (Bool.eq_false_iff.mp s_13_2)] | skip)
      (first | rw [if_pos c_135] | rw [if_neg c_135] | rw [if_neg (Bool.eq_false_iff.mp c_135)] | skip)
      (try dsimp only)
      first
        | done
        | exact ⟨rfl, rfl⟩
        | rfl
        | (simp only [s_13_1, s_13_2, c_135, if_true, if_false, and_self, and_true, true_and, not_true_eq_false, not_false_eq_true, and_false, false_and, or_true, true_or, or_false, false_or, or_self, Bool.false_eq_true, reduceCtorEq, nl10, nl20, nl30, nl40, nl50, nl60, nl70, nl12, nl13, nl21, nl23, nl31, nl32]; first | done | exact ⟨rfl, rfl⟩ | rfl)
        | contradiction
        | (simp only [s_13_1, s_13_2, c_135, if_true, if_false, and_self, and_true, true_and, not_true_eq_false, not_false_eq_true, and_false, false_and, or_true, true_or, or_false, false_or, or_self, Bool.false_eq_true, reduceCtorEq, nl10, nl20, nl30, nl40, nl50, nl60, nl70, nl12, nl13, nl21, nl23, nl31, nl32]; contradiction)
        | (exfalso; simp_all; done)
        | simp_all
    · refine lv_bipush (v := 24) hx hb dX8_holding_138 (by decide) ?_
      refine lv_goto (tgt := 144) hx hb dX8_holding_140 (by decide) ?_
      refine f_ir X hlk hr (v := 24) rfl hP hS ?_ dX8_holding_144
      unfold a_X8_holding
      (first | rw [if_pos s_13_1] | rw [if_neg s_13_1] | rw [if_neg (Bool.eq_false_iff.mp s_13_1)] | skip)
      (first | rw [if_pos s_13_2] | rw [if_neg s_13_2] | rw [if_neg (Bool.eq_false_iff.mp s_13_2)] | skip)
      (first | rw [if_pos c_135] | rw [if_neg c_135] | rw [if_neg (Bool.eq_false_iff.mp c_135)] | skip)
      (try dsimp only)
      first
        | done
        | exact ⟨rfl, rfl⟩
        | rfl
        | (simp only [s_13_1, s_13_2, c_135, if_true, if_false, and_self, and_true, true_and, not_true_eq_false, not_false_eq_true, and_false, false_and, or_true, true_or, or_false, false_or, or_self, Bool.false_eq_true, reduceCtorEq, nl10, nl20, nl30, nl40, nl50, nl60, nl70, nl12, nl13, nl21, nl23, nl31, nl32]; first | done | exact ⟨rfl, rfl⟩ | rfl)
        | contradiction
        | (simp only [s_13_1, s_13_2, c_135, if_true, if_false, and_self, and_true, true_and, not_true_eq_false, not_false_eq_true, and_false, false_and, or_true, true_or, or_false, false_or, or_self, Bool.false_eq_true, reduceCtorEq, nl10, nl20, nl30, nl40, nl50, nl60, nl70, nl12, nl13, nl21, nl23, nl31, nl32]; contradiction)
        | (exfalso; simp_all; done)
        | simp_all
  by_cases s_13_3 : (M 88 w0) = 3
  · refine lv_tableIn (tgt := 59) hx hb dX8_holding_13 (by rw [s_13_3]; decide) (by rw [s_13_3]; decide) (by rw [s_13_3]; rfl) (by decide) ?_
    refine lv_bipush (v := 24) hx hb dX8_holding_59 (by decide) ?_
    refine lv_istore_n (lv' := [(3, .int 24), (2, .int (M 91 w0)), (0, .ref (fad E 86)), (1, .int w)]) hx hb dX8_holding_61 rfl hl (by decide) rfl (fun ls hl => ?_)
    refine lv_goto (tgt := 132) hx hb dX8_holding_62 (by decide) ?_
    refine lv_iload_n hx hb dX8_holding_132 rfl (lv_at hl 0 rfl) ?_
    refine lv_bipush (v := 24) hx hb dX8_holding_133 (by decide) ?_
    refine lv_icmp_le (tgt := 143) hx hb dX8_holding_135 (by decide) (fun _ => ?_) (fun c_135 => absurd c_135 (by decide))
    refine lv_iload_n hx hb dX8_holding_143 rfl (lv_at hl 0 rfl) ?_
    refine f_ir X hlk hr (v := 24) rfl hP hS ?_ dX8_holding_144
    unfold a_X8_holding
    (first | rw [if_pos s_13_1] | rw [if_neg s_13_1] | rw [if_neg (Bool.eq_false_iff.mp s_13_1)] | skip)
    (first | rw [if_pos s_13_2] | rw [if_neg s_13_2] | rw [if_neg (Bool.eq_false_iff.mp s_13_2)] | skip)
    (first | rw [if_pos s_13_3] | rw [if_neg s_13_3] | rw [if_neg (Bool.eq_false_iff.mp s_13_3)] | skip)
    (try dsimp only)
    first
      | done
      | exact ⟨rfl, rfl⟩
      | rfl
      | (simp only [s_13_1, s_13_2, s_13_3, if_true, if_false, and_self, and_true, true_and, not_true_eq_false, not_false_eq_true, and_false, false_and, or_true, true_or, or_false, false_or, or_self, Bool.false_eq_true, reduceCtorEq, nl10, nl20, nl30, nl40, nl50, nl60, nl70, nl12, nl13, nl21, nl23, nl31, nl32]; first | done | exact ⟨rfl, rfl⟩ | rfl)
      | contradiction
      | (simp only [s_13_1, s_13_2, s_13_3, if_true, if_false, and_self, and_true, true_and, not_true_eq_false, not_false_eq_true, and_false, false_and, or_true, true_or, or_false, false_or, or_self, Bool.false_eq_true, reduceCtorEq, nl10, nl20, nl30, nl40, nl50, nl60, nl70, nl12, nl13, nl21, nl23, nl31, nl32]; contradiction)
      | (exfalso; simp_all; done)
      | simp_all
  by_cases s_13_4 : (M 88 w0) = 4
  · refine lv_tableIn (tgt := 107) hx hb dX8_holding_13 (by rw [s_13_4]; decide) (by rw [s_13_4]; decide) (by rw [s_13_4]; rfl) (by decide) ?_
    refine lv_iload_n hx hb dX8_holding_107 rfl (lv_at hl 0 rfl) ?_
    refine lv_iconst (v := 1) hx hb dX8_holding_108 (by decide) ?_
    refine lv_iadd hx hb dX8_holding_109 ?_
    refine lv_iconst (v := 2) hx hb dX8_holding_110 (by decide) ?_
    refine lv_idiv hx hb dX8_holding_111 (by decide) ?_
    refine lv_istore_n (lv' := [(3, .int (((M 91 w0) + 1) / 2)), (2, .int (M 91 w0)), (0, .ref (fad E 86)), (1, .int w)]) hx hb dX8_holding_112 rfl hl (by decide) rfl (fun ls hl => ?_)
    refine lv_goto (tgt := 132) hx hb dX8_holding_113 (by decide) ?_
    refine lv_iload_n hx hb dX8_holding_132 rfl (lv_at hl 0 rfl) ?_
    refine lv_bipush (v := 24) hx hb dX8_holding_133 (by decide) ?_
    refine lv_icmp_le (tgt := 143) hx hb dX8_holding_135 (by decide) (fun c_135 => ?_) (fun c_135 => ?_)
    · refine lv_iload_n hx hb dX8_holding_143 rfl (lv_at hl 0 rfl) ?_
      refine f_ir X hlk hr (v := (((M 91 w0) + 1) / 2)) rfl hP hS ?_ dX8_holding_144
      unfold a_X8_holding
      (first | rw [if_pos s_13_1] | rw [if_neg s_13_1] | rw [if_neg (Bool.eq_false_iff.mp s_13_1)] | skip)
      (first | rw [if_pos s_13_2] | rw [if_neg s_13_2] | rw [if_neg (Bool.eq_false_iff.mp s_13_2)] | skip)
      (first | rw [if_pos s_13_3] | rw [if_neg s_13_3] | rw [if_neg (Bool.eq_false_iff.mp s_13_3)] | skip)
      (first | rw [if_pos s_13_4] | rw [if_neg s_13_4] | rw [if_neg (Bool.eq_false_iff.mp s_13_4)] | skip)
      (first | rw [if_pos c_135] | rw [if_neg c_135] | rw [if_neg (Bool.eq_false_iff.mp c_135)] | skip)
      (try dsimp only)
      first
        | done
        | exact ⟨rfl, rfl⟩
        | rfl
        | (simp only [s_13_1, s_13_2, s_13_3, s_13_4, c_135, if_true, if_false, and_self, and_true, true_and, not_true_eq_false, not_false_eq_true, and_false, false_and, or_true, true_or, or_false, false_or, or_self, Bool.false_eq_true, reduceCtorEq, nl10, nl20, nl30, nl40, nl50, nl60, nl70, nl12, nl13, nl21, nl23, nl31, nl32]; first | done | exact ⟨rfl, rfl⟩ | rfl)
        | contradiction
        | (simp only [s_13_1, s_13_2, s_13_3, s_13_4, c_135, if_true, if_false, and_self, and_true, true_and, not_true_eq_false, not_false_eq_true, and_false, false_and, or_true, true_or, or_false, false_or, or_self, Bool.false_eq_true, reduceCtorEq, nl10, nl20, nl30, nl40, nl50, nl60, nl70, nl12, nl13, nl21, nl23, nl31, nl32]; contradiction)
        | (exfalso; simp_all; done)
        | simp_all
    · refine lv_bipush (v := 24) hx hb dX8_holding_138 (by decide) ?_
      refine lv_goto (tgt := 144) hx hb dX8_holding_140 (by decide) ?_
      refine f_ir X hlk hr (v := 24) rfl hP hS ?_ dX8_holding_144
      unfold a_X8_holding
      (first | rw [if_pos s_13_1] | rw [if_neg s_13_1] | rw [if_neg (Bool.eq_false_iff.mp s_13_1)] | skip)
      (first | rw [if_pos s_13_2] | rw [if_neg s_13_2] | rw [if_neg (Bool.eq_false_iff.mp s_13_2)] | skip)
      (first | rw [if_pos s_13_3] | rw [if_neg s_13_3] | rw [if_neg (Bool.eq_false_iff.mp s_13_3)] | skip)
      (first | rw [if_pos s_13_4] | rw [if_neg s_13_4] | rw [if_neg (Bool.eq_false_iff.mp s_13_4)] | skip)
      (first | rw [if_pos c_135] | rw [if_neg c_135] | rw [if_neg (Bool.eq_false_iff.mp c_135)] | skip)
      (try dsimp only)
      first
        | done
        | exact ⟨rfl, rfl⟩
        | rfl
        | (simp only [s_13_1, s_13_2, s_13_3, s_13_4, c_135, if_true, if_false, and_self, and_true, true_and, not_true_eq_false, not_false_eq_true, and_false, false_and, or_true, true_or, or_false, false_or, or_self, Bool.false_eq_true, reduceCtorEq, nl10, nl20, nl30, nl40, nl50, nl60, nl70, nl12, nl13, nl21, nl23, nl31, nl32]; first | done | exact ⟨rfl, rfl⟩ | rfl)
        | contradiction
        | (simp only [s_13_1, s_13_2, s_13_3, s_13_4, c_135, if_true, if_false, and_self, and_true, true_and, not_true_eq_false, not_false_eq_true, and_false, false_and, or_true, true_or, or_false, false_or, or_self, Bool.false_eq_true, reduceCtorEq, nl10, nl20, nl30, nl40, nl50, nl60, nl70, nl12, nl13, nl21, nl23, nl31, nl32]; contradiction)
        | (exfalso; simp_all; done)
        | simp_all
  by_cases s_13_5 : (M 88 w0) = 5
  · refine lv_tableIn (tgt := 77) hx hb dX8_holding_13 (by rw [s_13_5]; decide) (by rw [s_13_5]; decide) (by rw [s_13_5]; rfl) (by decide) ?_
    refine lv_iload_n hx hb dX8_holding_77 rfl (lv_at hl 0 rfl) ?_
    refine lv_aload_n hx hb dX8_holding_78 rfl (lv_at hl 1 rfl) ?_
    refine f_get X hP (T := TX8) (ci := 8) (k := 86) rfl inX8 rfl 10 (by decide) m_4_184 rfl (v := .ref (fad E 89)) rfl dX8_holding_79 ?_
    refine lv_iload_n hx hb dX8_holding_82 rfl (lv_at hl 2 rfl) ?_
    refine f_iald X hP (k := 89) (n := 6) (q := w0) rfl rfl hw dX8_holding_83 ?_
    refine lv_iadd hx hb dX8_holding_84 ?_
    refine lv_iconst (v := 1) hx hb dX8_holding_85 (by decide) ?_
    refine lv_icmp_le (tgt := 102) hx hb dX8_holding_86 (by decide) (fun c_86 => ?_) (fun c_86 => ?_)
    · refine lv_iconst (v := 1) hx hb dX8_holding_102 (by decide) ?_
      refine lv_istore_n (lv' := [(3, .int 1), (2, .int (M 91 w0)), (0, .ref (fad E 86)), (1, .int w)]) hx hb dX8_holding_103 rfl hl (by decide) rfl (fun ls hl => ?_)
      refine lv_goto (tgt := 132) hx hb dX8_holding_104 (by decide) ?_
      refine lv_iload_n hx hb dX8_holding_132 rfl (lv_at hl 0 rfl) ?_
      refine lv_bipush (v := 24) hx hb dX8_holding_133 (by decide) ?_
      refine lv_icmp_le (tgt := 143) hx hb dX8_holding_135 (by decide) (fun _ => ?_) (fun c_135 => absurd c_135 (by decide))
      refine lv_iload_n hx hb dX8_holding_143 rfl (lv_at hl 0 rfl) ?_
      refine f_ir X hlk hr (v := 1) rfl hP hS ?_ dX8_holding_144
      unfold a_X8_holding
      (first | rw [if_pos s_13_1] | rw [if_neg s_13_1] | rw [if_neg (Bool.eq_false_iff.mp s_13_1)] | skip)
      (first | rw [if_pos s_13_2] | rw [if_neg s_13_2] | rw [if_neg (Bool.eq_false_iff.mp s_13_2)] | skip)
      (first | rw [if_pos s_13_3] | rw [if_neg s_13_3] | rw [if_neg (Bool.eq_false_iff.mp s_13_3)] | skip)
      (first | rw [if_pos s_13_4] | rw [if_neg s_13_4] | rw [if_neg (Bool.eq_false_iff.mp s_13_4)] | skip)
      (first | rw [if_pos s_13_5] | rw [if_neg s_13_5] | rw [if_neg (Bool.eq_false_iff.mp s_13_5)] | skip)
      (first | rw [if_pos c_86] | rw [if_neg c_86] | rw [if_neg (Bool.eq_false_iff.mp c_86)] | skip)
      (try dsimp only)
      first
        | done
        | exact ⟨rfl, rfl⟩
        | rfl
        | (simp only [s_13_1, s_13_2, s_13_3, s_13_4, s_13_5, c_86, if_true, if_false, and_self, and_true, true_and, not_true_eq_false, not_false_eq_true, and_false, false_and, or_true, true_or, or_false, false_or, or_self, Bool.false_eq_true, reduceCtorEq, nl10, nl20, nl30, nl40, nl50, nl60, nl70, nl12, nl13, nl21, nl23, nl31, nl32]; first | done | exact ⟨rfl, rfl⟩ | rfl)
        | contradiction
        | (simp only [s_13_1, s_13_2, s_13_3, s_13_4, s_13_5, c_86, if_true, if_false, and_self, and_true, true_and, not_true_eq_false, not_false_eq_true, and_false, false_and, or_true, true_or, or_false, false_or, or_self, Bool.false_eq_true, reduceCtorEq, nl10, nl20, nl30, nl40, nl50, nl60, nl70, nl12, nl13, nl21, nl23, nl31, nl32]; contradiction)
        | (exfalso; simp_all; done)
        | simp_all
    · refine lv_iload_n hx hb dX8_holding_89 rfl (lv_at hl 0 rfl) ?_
      refine lv_aload_n hx hb dX8_holding_90 rfl (lv_at hl 1 rfl) ?_
      refine f_get X hP (T := TX8) (ci := 8) (k := 86) rfl inX8 rfl 10 (by decide) m_4_184 rfl (v := .ref (fad E 89)) rfl dX8_holding_91 ?_
      refine lv_iload_n hx hb dX8_holding_94 rfl (lv_at hl 2 rfl) ?_
      refine f_iald X hP (k := 89) (n := 6) (q := w0) rfl rfl hw dX8_holding_95 ?_
      refine lv_iadd hx hb dX8_holding_96 ?_
      refine lv_iconst (v := 1) hx hb dX8_holding_97 (by decide) ?_
      refine lv_isub hx hb dX8_holding_98 ?_
      refine lv_goto (tgt := 103) hx hb dX8_holding_99 (by decide) ?_
      refine lv_istore_n (lv' := [(3, .int (((M 91 w0) + (M 89 w0)) - 1)), (2, .int (M 91 w0)), (0, .ref (fad E 86)), (1, .int w)]) hx hb dX8_holding_103 rfl hl (by decide) rfl (fun ls hl => ?_)
      refine lv_goto (tgt := 132) hx hb dX8_holding_104 (by decide) ?_
      refine lv_iload_n hx hb dX8_holding_132 rfl (lv_at hl 0 rfl) ?_
      refine lv_bipush (v := 24) hx hb dX8_holding_133 (by decide) ?_
      refine lv_icmp_le (tgt := 143) hx hb dX8_holding_135 (by decide) (fun c_135 => ?_) (fun c_135 => ?_)
      · refine lv_iload_n hx hb dX8_holding_143 rfl (lv_at hl 0 rfl) ?_
        refine f_ir X hlk hr (v := (((M 91 w0) + (M 89 w0)) - 1)) rfl hP hS ?_ dX8_holding_144
        unfold a_X8_holding
        (first | rw [if_pos s_13_1] | rw [if_neg s_13_1] | rw [if_neg (Bool.eq_false_iff.mp s_13_1)] | skip)
        (first | rw [if_pos s_13_2] | rw [if_neg s_13_2] | rw [if_neg (Bool.eq_false_iff.mp s_13_2)] | skip)
        (first | rw [if_pos s_13_3] | rw [if_neg s_13_3] | rw [if_neg (Bool.eq_false_iff.mp s_13_3)] | skip)
        (first | rw [if_pos s_13_4] | rw [if_neg s_13_4] | rw [if_neg (Bool.eq_false_iff.mp s_13_4)] | skip)
        (first | rw [if_pos s_13_5] | rw [if_neg s_13_5] | rw [if_neg (Bool.eq_false_iff.mp s_13_5)] | skip)
        (first | rw [if_pos c_86] | rw [if_neg c_86] | rw [if_neg (Bool.eq_false_iff.mp c_86)] | skip)
        (first | rw [if_pos c_135] | rw [if_neg c_135] | rw [if_neg (Bool.eq_false_iff.mp c_135)] | skip)
        (try dsimp only)
        first
          | done
          | exact ⟨rfl, rfl⟩
          | rfl
          | (simp only [s_13_1, s_13_2, s_13_3, s_13_4, s_13_5, c_86, c_135, if_true, if_false, and_self, and_true, true_and, not_true_eq_false, not_false_eq_true, and_false, false_and, or_true, true_or, or_false, false_or, or_self, Bool.false_eq_true, reduceCtorEq, nl10, nl20, nl30, nl40, nl50, nl60, nl70, nl12, nl13, nl21, nl23, nl31, nl32]; first | done | exact ⟨rfl, rfl⟩ | rfl)
          | contradiction
          | (simp only [s_13_1, s_13_2, s_13_3, s_13_4, s_13_5, c_86, c_135, if_true, if_false, and_self, and_true, true_and, not_true_eq_false, not_false_eq_true, and_false, false_and, or_true, true_or, or_false, false_or, or_self, Bool.false_eq_true, reduceCtorEq, nl10, nl20, nl30, nl40, nl50, nl60, nl70, nl12, nl13, nl21, nl23, nl31, nl32]; contradiction)
          | (exfalso; simp_all; done)
          | simp_all
      · refine lv_bipush (v := 24) hx hb dX8_holding_138 (by decide) ?_
        refine lv_goto (tgt := 144) hx hb dX8_holding_140 (by decide) ?_
        refine f_ir X hlk hr (v := 24) rfl hP hS ?_ dX8_holding_144
        unfold a_X8_holding
        (first | rw [if_pos s_13_1] | rw [if_neg s_13_1] | rw [if_neg (Bool.eq_false_iff.mp s_13_1)] | skip)
        (first | rw [if_pos s_13_2] | rw [if_neg s_13_2] | rw [if_neg (Bool.eq_false_iff.mp s_13_2)] | skip)
        (first | rw [if_pos s_13_3] | rw [if_neg s_13_3] | rw [if_neg (Bool.eq_false_iff.mp s_13_3)] | skip)
        (first | rw [if_pos s_13_4] | rw [if_neg s_13_4] | rw [if_neg (Bool.eq_false_iff.mp s_13_4)] | skip)
        (first | rw [if_pos s_13_5] | rw [if_neg s_13_5] | rw [if_neg (Bool.eq_false_iff.mp s_13_5)] | skip)
        (first | rw [if_pos c_86] | rw [if_neg c_86] | rw [if_neg (Bool.eq_false_iff.mp c_86)] | skip)
        (first | rw [if_pos c_135] | rw [if_neg c_135] | rw [if_neg (Bool.eq_false_iff.mp c_135)] | skip)
        (try dsimp only)
        first
          | done
          | exact ⟨rfl, rfl⟩
          | rfl
          | (simp only [s_13_1, s_13_2, s_13_3, s_13_4, s_13_5, c_86, c_135, if_true, if_false, and_self, and_true, true_and, not_true_eq_false, not_false_eq_true, and_false, false_and, or_true, true_or, or_false, false_or, or_self, Bool.false_eq_true, reduceCtorEq, nl10, nl20, nl30, nl40, nl50, nl60, nl70, nl12, nl13, nl21, nl23, nl31, nl32]; first | done | exact ⟨rfl, rfl⟩ | rfl)
          | contradiction
          | (simp only [s_13_1, s_13_2, s_13_3, s_13_4, s_13_5, c_86, c_135, if_true, if_false, and_self, and_true, true_and, not_true_eq_false, not_false_eq_true, and_false, false_and, or_true, true_or, or_false, false_or, or_self, Bool.false_eq_true, reduceCtorEq, nl10, nl20, nl30, nl40, nl50, nl60, nl70, nl12, nl13, nl21, nl23, nl31, nl32]; contradiction)
          | (exfalso; simp_all; done)
          | simp_all
  by_cases s_13_6 : (M 88 w0) = 6
  · refine lv_tableIn (tgt := 116) hx hb dX8_holding_13 (by rw [s_13_6]; decide) (by rw [s_13_6]; decide) (by rw [s_13_6]; rfl) (by decide) ?_
    refine lv_iload_n hx hb dX8_holding_116 rfl (lv_at hl 0 rfl) ?_
    refine lv_iconst (v := 1) hx hb dX8_holding_117 (by decide) ?_
    refine lv_iadd hx hb dX8_holding_118 ?_
    refine lv_iconst (v := 2) hx hb dX8_holding_119 (by decide) ?_
    refine lv_idiv hx hb dX8_holding_120 (by decide) ?_
    refine lv_aload_n hx hb dX8_holding_121 rfl (lv_at hl 1 rfl) ?_
    refine f_get X hP (T := TX8) (ci := 8) (k := 86) rfl inX8 rfl 2 (by decide) m_4_176 rfl (v := .int (M 86 2)) rfl dX8_holding_122 ?_
    refine lv_iadd hx hb dX8_holding_125 ?_
    refine lv_istore_n (lv' := [(3, .int ((((M 91 w0) + 1) / 2) + (M 86 2))), (2, .int (M 91 w0)), (0, .ref (fad E 86)), (1, .int w)]) hx hb dX8_holding_126 rfl hl (by decide) rfl (fun ls hl => ?_)
    refine lv_goto (tgt := 132) hx hb dX8_holding_127 (by decide) ?_
    refine lv_iload_n hx hb dX8_holding_132 rfl (lv_at hl 0 rfl) ?_
    refine lv_bipush (v := 24) hx hb dX8_holding_133 (by decide) ?_
    refine lv_icmp_le (tgt := 143) hx hb dX8_holding_135 (by decide) (fun c_135 => ?_) (fun c_135 => ?_)
    · refine lv_iload_n hx hb dX8_holding_143 rfl (lv_at hl 0 rfl) ?_
      refine f_ir X hlk hr (v := ((((M 91 w0) + 1) / 2) + (M 86 2))) rfl hP hS ?_ dX8_holding_144
      unfold a_X8_holding
      (first | rw [if_pos s_13_1] | rw [if_neg s_13_1] | rw [if_neg (Bool.eq_false_iff.mp s_13_1)] | skip)
      (first | rw [if_pos s_13_2] | rw [if_neg s_13_2] | rw [if_neg (Bool.eq_false_iff.mp s_13_2)] | skip)
      (first | rw [if_pos s_13_3] | rw [if_neg s_13_3] | rw [if_neg (Bool.eq_false_iff.mp s_13_3)] | skip)
      (first | rw [if_pos s_13_4] | rw [if_neg s_13_4] | rw [if_neg (Bool.eq_false_iff.mp s_13_4)] | skip)
      (first | rw [if_pos s_13_5] | rw [if_neg s_13_5] | rw [if_neg (Bool.eq_false_iff.mp s_13_5)] | skip)
      (first | rw [if_pos s_13_6] | rw [if_neg s_13_6] | rw [if_neg (Bool.eq_false_iff.mp s_13_6)] | skip)
      (first | rw [if_pos c_135] | rw [if_neg c_135] | rw [if_neg (Bool.eq_false_iff.mp c_135)] | skip)
      (try dsimp only)
      first
        | done
        | exact ⟨rfl, rfl⟩
        | rfl
        | (simp only [s_13_1, s_13_2, s_13_3, s_13_4, s_13_5, s_13_6, c_135, if_true, if_false, and_self, and_true, true_and, not_true_eq_false, not_false_eq_true, and_false, false_and, or_true, true_or, or_false, false_or, or_self, Bool.false_eq_true, reduceCtorEq, nl10, nl20, nl30, nl40, nl50, nl60, nl70, nl12, nl13, nl21, nl23, nl31, nl32]; first | done | exact ⟨rfl, rfl⟩ | rfl)
        | contradiction
        | (simp only [s_13_1, s_13_2, s_13_3, s_13_4, s_13_5, s_13_6, c_135, if_true, if_false, and_self, and_true, true_and, not_true_eq_false, not_false_eq_true, and_false, false_and, or_true, true_or, or_false, false_or, or_self, Bool.false_eq_true, reduceCtorEq, nl10, nl20, nl30, nl40, nl50, nl60, nl70, nl12, nl13, nl21, nl23, nl31, nl32]; contradiction)
        | (exfalso; simp_all; done)
        | simp_all
    · refine lv_bipush (v := 24) hx hb dX8_holding_138 (by decide) ?_
      refine lv_goto (tgt := 144) hx hb dX8_holding_140 (by decide) ?_
      refine f_ir X hlk hr (v := 24) rfl hP hS ?_ dX8_holding_144
      unfold a_X8_holding
      (first | rw [if_pos s_13_1] | rw [if_neg s_13_1] | rw [if_neg (Bool.eq_false_iff.mp s_13_1)] | skip)
      (first | rw [if_pos s_13_2] | rw [if_neg s_13_2] | rw [if_neg (Bool.eq_false_iff.mp s_13_2)] | skip)
      (first | rw [if_pos s_13_3] | rw [if_neg s_13_3] | rw [if_neg (Bool.eq_false_iff.mp s_13_3)] | skip)
      (first | rw [if_pos s_13_4] | rw [if_neg s_13_4] | rw [if_neg (Bool.eq_false_iff.mp s_13_4)] | skip)
      (first | rw [if_pos s_13_5] | rw [if_neg s_13_5] | rw [if_neg (Bool.eq_false_iff.mp s_13_5)] | skip)
      (first | rw [if_pos s_13_6] | rw [if_neg s_13_6] | rw [if_neg (Bool.eq_false_iff.mp s_13_6)] | skip)
      (first | rw [if_pos c_135] | rw [if_neg c_135] | rw [if_neg (Bool.eq_false_iff.mp c_135)] | skip)
      (try dsimp only)
      first
        | done
        | exact ⟨rfl, rfl⟩
        | rfl
        | (simp only [s_13_1, s_13_2, s_13_3, s_13_4, s_13_5, s_13_6, c_135, if_true, if_false, and_self, and_true, true_and, not_true_eq_false, not_false_eq_true, and_false, false_and, or_true, true_or, or_false, false_or, or_self, Bool.false_eq_true, reduceCtorEq, nl10, nl20, nl30, nl40, nl50, nl60, nl70, nl12, nl13, nl21, nl23, nl31, nl32]; first | done | exact ⟨rfl, rfl⟩ | rfl)
        | contradiction
        | (simp only [s_13_1, s_13_2, s_13_3, s_13_4, s_13_5, s_13_6, c_135, if_true, if_false, and_self, and_true, true_and, not_true_eq_false, not_false_eq_true, and_false, false_and, or_true, true_or, or_false, false_or, or_self, Bool.false_eq_true, reduceCtorEq, nl10, nl20, nl30, nl40, nl50, nl60, nl70, nl12, nl13, nl21, nl23, nl31, nl32]; contradiction)
        | (exfalso; simp_all; done)
        | simp_all
  refine lv_tableOut (tgt := 130) hx hb dX8_holding_13 (by have q0 := lv_neT s_13_1 (a := 1) rfl; have q1 := lv_neT s_13_2 (a := 2) rfl; have q2 := lv_neT s_13_3 (a := 3) rfl; have q3 := lv_neT s_13_4 (a := 4) rfl; have q4 := lv_neT s_13_5 (a := 5) rfl; have q5 := lv_neT s_13_6 (a := 6) rfl; omega) (by decide) ?_
  refine lv_iload_n hx hb dX8_holding_130 rfl (lv_at hl 0 rfl) ?_
  refine lv_istore_n (lv' := [(3, .int (M 91 w0)), (2, .int (M 91 w0)), (0, .ref (fad E 86)), (1, .int w)]) hx hb dX8_holding_131 rfl hl (by decide) rfl (fun ls hl => ?_)
  refine lv_iload_n hx hb dX8_holding_132 rfl (lv_at hl 0 rfl) ?_
  refine lv_bipush (v := 24) hx hb dX8_holding_133 (by decide) ?_
  refine lv_icmp_le (tgt := 143) hx hb dX8_holding_135 (by decide) (fun c_135 => ?_) (fun c_135 => ?_)
  · refine lv_iload_n hx hb dX8_holding_143 rfl (lv_at hl 0 rfl) ?_
    refine f_ir X hlk hr (v := (M 91 w0)) rfl hP hS ?_ dX8_holding_144
    unfold a_X8_holding
    (first | rw [if_pos s_13_1] | rw [if_neg s_13_1] | rw [if_neg (Bool.eq_false_iff.mp s_13_1)] | skip)
    (first | rw [if_pos s_13_2] | rw [if_neg s_13_2] | rw [if_neg (Bool.eq_false_iff.mp s_13_2)] | skip)
    (first | rw [if_pos s_13_3] | rw [if_neg s_13_3] | rw [if_neg (Bool.eq_false_iff.mp s_13_3)] | skip)
    (first | rw [if_pos s_13_4] | rw [if_neg s_13_4] | rw [if_neg (Bool.eq_false_iff.mp s_13_4)] | skip)
    (first | rw [if_pos s_13_5] | rw [if_neg s_13_5] | rw [if_neg (Bool.eq_false_iff.mp s_13_5)] | skip)
    (first | rw [if_pos s_13_6] | rw [if_neg s_13_6] | rw [if_neg (Bool.eq_false_iff.mp s_13_6)] | skip)
    (first | rw [if_pos c_135] | rw [if_neg c_135] | rw [if_neg (Bool.eq_false_iff.mp c_135)] | skip)
    (try dsimp only)
    first
      | done
      | exact ⟨rfl, rfl⟩
      | rfl
      | (simp only [s_13_1, s_13_2, s_13_3, s_13_4, s_13_5, s_13_6, c_135, if_true, if_false, and_self, and_true, true_and, not_true_eq_false, not_false_eq_true, and_false, false_and, or_true, true_or, or_false, false_or, or_self, Bool.false_eq_true, reduceCtorEq, nl10, nl20, nl30, nl40, nl50, nl60, nl70, nl12, nl13, nl21, nl23, nl31, nl32]; first | done | exact ⟨rfl, rfl⟩ | rfl)
      | contradiction
      | (simp only [s_13_1, s_13_2, s_13_3, s_13_4, s_13_5, s_13_6, c_135, if_true, if_false, and_self, and_true, true_and, not_true_eq_false, not_false_eq_true, and_false, false_and, or_true, true_or, or_false, false_or, or_self, Bool.false_eq_true, reduceCtorEq, nl10, nl20, nl30, nl40, nl50, nl60, nl70, nl12, nl13, nl21, nl23, nl31, nl32]; contradiction)
      | (exfalso; simp_all; done)
      | simp_all
  · refine lv_bipush (v := 24) hx hb dX8_holding_138 (by decide) ?_
    refine lv_goto (tgt := 144) hx hb dX8_holding_140 (by decide) ?_
    refine f_ir X hlk hr (v := 24) rfl hP hS ?_ dX8_holding_144
    unfold a_X8_holding
    (first | rw [if_pos s_13_1] | rw [if_neg s_13_1] | rw [if_neg (Bool.eq_false_iff.mp s_13_1)] | skip)
    (first | rw [if_pos s_13_2] | rw [if_neg s_13_2] | rw [if_neg (Bool.eq_false_iff.mp s_13_2)] | skip)
    (first | rw [if_pos s_13_3] | rw [if_neg s_13_3] | rw [if_neg (Bool.eq_false_iff.mp s_13_3)] | skip)
    (first | rw [if_pos s_13_4] | rw [if_neg s_13_4] | rw [if_neg (Bool.eq_false_iff.mp s_13_4)] | skip)
    (first | rw [if_pos s_13_5] | rw [if_neg s_13_5] | rw [if_neg (Bool.eq_false_iff.mp s_13_5)] | skip)
    (first | rw [if_pos s_13_6] | rw [if_neg s_13_6] | rw [if_neg (Bool.eq_false_iff.mp s_13_6)] | skip)
    (first | rw [if_pos c_135] | rw [if_neg c_135] | rw [if_neg (Bool.eq_false_iff.mp c_135)] | skip)
    (try dsimp only)
    first
      | done
      | exact ⟨rfl, rfl⟩
      | rfl
      | (simp only [s_13_1, s_13_2, s_13_3, s_13_4, s_13_5, s_13_6, c_135, if_true, if_false, and_self, and_true, true_and, not_true_eq_false, not_false_eq_true, and_false, false_and, or_true, true_or, or_false, false_or, or_self, Bool.false_eq_true, reduceCtorEq, nl10, nl20, nl30, nl40, nl50, nl60, nl70, nl12, nl13, nl21, nl23, nl31, nl32]; first | done | exact ⟨rfl, rfl⟩ | rfl)
      | contradiction
      | (simp only [s_13_1, s_13_2, s_13_3, s_13_4, s_13_5, s_13_6, c_135, if_true, if_false, and_self, and_true, true_and, not_true_eq_false, not_false_eq_true, and_false, false_and, or_true, true_or, or_false, false_or, or_self, Bool.false_eq_true, reduceCtorEq, nl10, nl20, nl30, nl40, nl50, nl60, nl70, nl12, nl13, nl21, nl23, nl31, nl32]; contradiction)
      | (exfalso; simp_all; done)
      | simp_all

def a_X8_sees (M : Nat → Nat → Int32) (L : Nat → Nat → Int64) (w : Int32) (w0 : Nat) : Int32 := (if (M 88 w0) = 3 then 2 else (if (M 88 w0) = 1 then 1 else (if (M 88 w0) = 6 then 1 else 0)))
set_option maxHeartbeats 1000000 in
set_option maxRecDepth 100000 in
theorem c_X8_sees (l : Launch) (E : fE) (M : Nat → Nat → Int32) (L : Nat → Nat → Int64) (w : Int32) (w0 : Nat) (hw : fIx w 6 w0) : Met l yX8_sees (wl yX8_sees cX8_sees 2 (some .int)) (fRm 0 0) (va_Pc [.ref (fad E 86), .int w] (fPre E M L)) (fQi E (fun r u => u = (M, L) ∧ r = (a_X8_sees M L w w0))) 0 0 (fA E) := by
  refine f_head (by decide) (Nat.le_of_ble_eq_true rfl) ?_
  intro pg ev s mi below meth cd ls X hr hlk hP hS hl
  have hx := X.1.1
  have hb := X.1.2.1
  have hl : lv_has ls 2 [(0, .ref (fad E 86)), (1, .int w)] := hl
  refine lv_aload_n hx hb dX8_sees_0 rfl (lv_at hl 0 rfl) ?_
  refine f_get X hP (T := TX8) (ci := 8) (k := 86) rfl inX8 rfl 9 (by decide) m_4_183 rfl (v := .ref (fad E 88)) rfl dX8_sees_1 ?_
  refine lv_iload_n hx hb dX8_sees_4 rfl (lv_at hl 1 rfl) ?_
  refine f_iald X hP (k := 88) (n := 6) (q := w0) rfl rfl hw dX8_sees_5 ?_
  refine lv_iconst (v := 3) hx hb dX8_sees_6 (by decide) ?_
  refine lv_icmp_ne (tgt := 14) hx hb dX8_sees_7 (by decide) (fun c_7 => ?_) (fun c_7 => ?_)
  · refine lv_aload_n hx hb dX8_sees_14 rfl (lv_at hl 0 rfl) ?_
    refine f_get X hP (T := TX8) (ci := 8) (k := 86) rfl inX8 rfl 9 (by decide) m_4_183 rfl (v := .ref (fad E 88)) rfl dX8_sees_15 ?_
    refine lv_iload_n hx hb dX8_sees_18 rfl (lv_at hl 1 rfl) ?_
    refine f_iald X hP (k := 88) (n := 6) (q := w0) rfl rfl hw dX8_sees_19 ?_
    refine lv_iconst (v := 1) hx hb dX8_sees_20 (by decide) ?_
    refine lv_icmp_eq (tgt := 35) hx hb dX8_sees_21 (by decide) (fun c_21 => ?_) (fun c_21 => ?_)
    · refine lv_iconst (v := 1) hx hb dX8_sees_35 (by decide) ?_
      refine lv_goto (tgt := 40) hx hb dX8_sees_36 (by decide) ?_
      refine f_ir X hlk hr (v := 1) rfl hP hS ?_ dX8_sees_40
      unfold a_X8_sees
      (first | rw [if_pos c_7] | rw [if_neg c_7] | rw [if_neg (Bool.eq_false_iff.mp c_7)] | skip)
      (first | rw [if_pos c_21] | rw [if_neg c_21] | rw [if_neg (Bool.eq_false_iff.mp c_21)] | skip)
      (try dsimp only)
      first
        | done
        | exact ⟨rfl, rfl⟩
        | rfl
        | (simp only [c_7, c_21, if_true, if_false, and_self, and_true, true_and, not_true_eq_false, not_false_eq_true, and_false, false_and, or_true, true_or, or_false, false_or, or_self, Bool.false_eq_true, reduceCtorEq, nl10, nl20, nl30, nl40, nl50, nl60, nl70, nl12, nl13, nl21, nl23, nl31, nl32]; first | done | exact ⟨rfl, rfl⟩ | rfl)
        | contradiction
        | (simp only [c_7, c_21, if_true, if_false, and_self, and_true, true_and, not_true_eq_false, not_false_eq_true, and_false, false_and, or_true, true_or, or_false, false_or, or_self, Bool.false_eq_true, reduceCtorEq, nl10, nl20, nl30, nl40, nl50, nl60, nl70, nl12, nl13, nl21, nl23, nl31, nl32]; contradiction)
        | (exfalso; simp_all; done)
        | simp_all
    · refine lv_aload_n hx hb dX8_sees_24 rfl (lv_at hl 0 rfl) ?_
      refine f_get X hP (T := TX8) (ci := 8) (k := 86) rfl inX8 rfl 9 (by decide) m_4_183 rfl (v := .ref (fad E 88)) rfl dX8_sees_25 ?_
      refine lv_iload_n hx hb dX8_sees_28 rfl (lv_at hl 1 rfl) ?_
      refine f_iald X hP (k := 88) (n := 6) (q := w0) rfl rfl hw dX8_sees_29 ?_
      refine lv_bipush (v := 6) hx hb dX8_sees_30 (by decide) ?_
      refine lv_icmp_ne (tgt := 39) hx hb dX8_sees_32 (by decide) (fun c_32 => ?_) (fun c_32 => ?_)
      · refine lv_iconst (v := 0) hx hb dX8_sees_39 (by decide) ?_
        refine f_ir X hlk hr (v := 0) rfl hP hS ?_ dX8_sees_40
        unfold a_X8_sees
        (first | rw [if_pos c_7] | rw [if_neg c_7] | rw [if_neg (Bool.eq_false_iff.mp c_7)] | skip)
        (first | rw [if_pos c_21] | rw [if_neg c_21] | rw [if_neg (Bool.eq_false_iff.mp c_21)] | skip)
        (first | rw [if_pos c_32] | rw [if_neg c_32] | rw [if_neg (Bool.eq_false_iff.mp c_32)] | skip)
        (try dsimp only)
        first
          | done
          | exact ⟨rfl, rfl⟩
          | rfl
          | (simp only [c_7, c_21, c_32, if_true, if_false, and_self, and_true, true_and, not_true_eq_false, not_false_eq_true, and_false, false_and, or_true, true_or, or_false, false_or, or_self, Bool.false_eq_true, reduceCtorEq, nl10, nl20, nl30, nl40, nl50, nl60, nl70, nl12, nl13, nl21, nl23, nl31, nl32]; first | done | exact ⟨rfl, rfl⟩ | rfl)
          | contradiction
          | (simp only [c_7, c_21, c_32, if_true, if_false, and_self, and_true, true_and, not_true_eq_false, not_false_eq_true, and_false, false_and, or_true, true_or, or_false, false_or, or_self, Bool.false_eq_true, reduceCtorEq, nl10, nl20, nl30, nl40, nl50, nl60, nl70, nl12, nl13, nl21, nl23, nl31, nl32]; contradiction)
          | (exfalso; simp_all; done)
          | simp_all
      · refine lv_iconst (v := 1) hx hb dX8_sees_35 (by decide) ?_
        refine lv_goto (tgt := 40) hx hb dX8_sees_36 (by decide) ?_
        refine f_ir X hlk hr (v := 1) rfl hP hS ?_ dX8_sees_40
        unfold a_X8_sees
        (first | rw [if_pos c_7] | rw [if_neg c_7] | rw [if_neg (Bool.eq_false_iff.mp c_7)] | skip)
        (first | rw [if_pos c_21] | rw [if_neg c_21] | rw [if_neg (Bool.eq_false_iff.mp c_21)] | skip)
        (first | rw [if_pos c_32] | rw [if_neg c_32] | rw [if_neg (Bool.eq_false_iff.mp c_32)] | skip)
        (try dsimp only)
        first
          | done
          | exact ⟨rfl, rfl⟩
          | rfl
          | (simp only [c_7, c_21, c_32, if_true, if_false, and_self, and_true, true_and, not_true_eq_false, not_false_eq_true, and_false, false_and, or_true, true_or, or_false, false_or, or_self, Bool.false_eq_true, reduceCtorEq, nl10, nl20, nl30, nl40, nl50, nl60, nl70, nl12, nl13, nl21, nl23, nl31, nl32]; first | done | exact ⟨rfl, rfl⟩ | rfl)
          | contradiction
          | (simp only [c_7, c_21, c_32, if_true, if_false, and_self, and_true, true_and, not_true_eq_false, not_false_eq_true, and_false, false_and, or_true, true_or, or_false, false_or, or_self, Bool.false_eq_true, reduceCtorEq, nl10, nl20, nl30, nl40, nl50, nl60, nl70, nl12, nl13, nl21, nl23, nl31, nl32]; contradiction)
          | (exfalso; simp_all; done)
          | simp_all
  · refine lv_iconst (v := 2) hx hb dX8_sees_10 (by decide) ?_
    refine lv_goto (tgt := 40) hx hb dX8_sees_11 (by decide) ?_
    refine f_ir X hlk hr (v := 2) rfl hP hS ?_ dX8_sees_40
    unfold a_X8_sees
    (first | rw [if_pos c_7] | rw [if_neg c_7] | rw [if_neg (Bool.eq_false_iff.mp c_7)] | skip)
    (try dsimp only)
    first
      | done
      | exact ⟨rfl, rfl⟩
      | rfl
      | (simp only [c_7, if_true, if_false, and_self, and_true, true_and, not_true_eq_false, not_false_eq_true, and_false, false_and, or_true, true_or, or_false, false_or, or_self, Bool.false_eq_true, reduceCtorEq, nl10, nl20, nl30, nl40, nl50, nl60, nl70, nl12, nl13, nl21, nl23, nl31, nl32]; first | done | exact ⟨rfl, rfl⟩ | rfl)
      | contradiction
      | (simp only [c_7, if_true, if_false, and_self, and_true, true_and, not_true_eq_false, not_false_eq_true, and_false, false_and, or_true, true_or, or_false, false_or, or_self, Bool.false_eq_true, reduceCtorEq, nl10, nl20, nl30, nl40, nl50, nl60, nl70, nl12, nl13, nl21, nl23, nl31, nl32]; contradiction)
      | (exfalso; simp_all; done)
      | simp_all

def a_X8_costs (M : Nat → Nat → Int32) (L : Nat → Nat → Int64) (w : Int32) (n : Int32) (w0 : Nat) : Int32 := (if n = 0 then 0 else (if n ≤ (M 89 w0) then (if (M 88 w0) = 1 then (((M 90 w0) * n) + (M 89 w0)) else (if (M 88 w0) = 2 then ((((M 90 w0) * n) + 1) / 2) else (if (M 88 w0) = 3 then (if (M 91 w0) ≤ n then (((M 90 w0) * (M 91 w0)) + (M 89 w0)) else (((M 90 w0) * n) + (M 89 w0))) else (if (M 88 w0) = 4 then ((M 90 w0) * 0) else (if (M 88 w0) = 5 then (((((M 90 w0) * n) + 1) / 2) + 1) else (if (M 88 w0) = 6 then (((M 90 w0) * 0) + ((M 86 2) * n)) else ((M 90 w0) * n))))))) else (if (M 88 w0) = 1 then (((M 90 w0) * n) + (M 89 w0)) else (if (M 88 w0) = 2 then ((((M 90 w0) * n) + 1) / 2) else (if (M 88 w0) = 3 then (if (M 91 w0) ≤ n then (((M 90 w0) * (M 91 w0)) + (M 89 w0)) else (((M 90 w0) * n) + (M 89 w0))) else (if (M 88 w0) = 4 then ((M 90 w0) * (n - (M 89 w0))) else (if (M 88 w0) = 5 then (((((M 90 w0) * n) + 1) / 2) + 1) else (if (M 88 w0) = 6 then (((M 90 w0) * (n - (M 89 w0))) + ((M 86 2) * n)) else ((M 90 w0) * n)))))))))
set_option maxHeartbeats 1000000 in
set_option maxRecDepth 100000 in
theorem c_X8_costs (l : Launch) (E : fE) (M : Nat → Nat → Int32) (L : Nat → Nat → Int64) (w : Int32) (n : Int32) (w0 : Nat) (hw : fIx w 6 w0) : Met l yX8_costs (wl yX8_costs cX8_costs 6 (some .int)) (fRm 0 0) (va_Pc [.ref (fad E 86), .int w, .int n] (fPre E M L)) (fQi E (fun r u => u = (M, L) ∧ r = (a_X8_costs M L w n w0))) 0 0 (fA E) := by
  refine f_head (by decide) (Nat.le_of_ble_eq_true rfl) ?_
  intro pg ev s mi below meth cd ls X hr hlk hP hS hl
  have hx := X.1.1
  have hb := X.1.2.1
  have hl : lv_has ls 6 [(0, .ref (fad E 86)), (1, .int w), (2, .int n)] := hl
  refine lv_iload_n hx hb dX8_costs_0 rfl (lv_at hl 2 rfl) ?_
  refine lv_if_ne (tgt := 6) hx hb dX8_costs_1 (by decide) (fun c_1 => ?_) (fun c_1 => ?_)
  · refine lv_aload_n hx hb dX8_costs_6 rfl (lv_at hl 0 rfl) ?_
    refine f_get X hP (T := TX8) (ci := 8) (k := 86) rfl inX8 rfl 11 (by decide) m_4_185 rfl (v := .ref (fad E 90)) rfl dX8_costs_7 ?_
    refine lv_iload_n hx hb dX8_costs_10 rfl (lv_at hl 1 rfl) ?_
    refine f_iald X hP (k := 90) (n := 6) (q := w0) rfl rfl hw dX8_costs_11 ?_
    refine lv_istore_n (lv' := [(3, .int (M 90 w0)), (0, .ref (fad E 86)), (1, .int w), (2, .int n)]) hx hb dX8_costs_12 rfl hl (by decide) rfl (fun ls hl => ?_)
    refine lv_aload_n hx hb dX8_costs_13 rfl (lv_at hl 1 rfl) ?_
    refine f_get X hP (T := TX8) (ci := 8) (k := 86) rfl inX8 rfl 10 (by decide) m_4_184 rfl (v := .ref (fad E 89)) rfl dX8_costs_14 ?_
    refine lv_iload_n hx hb dX8_costs_17 rfl (lv_at hl 2 rfl) ?_
    refine f_iald X hP (k := 89) (n := 6) (q := w0) rfl rfl hw dX8_costs_18 ?_
    refine lv_istore (lv' := [(4, .int (M 89 w0)), (3, .int (M 90 w0)), (0, .ref (fad E 86)), (1, .int w), (2, .int n)]) hx hb dX8_costs_19 hl (by decide) rfl (fun ls hl => ?_)
    refine lv_iload_n hx hb dX8_costs_21 rfl (lv_at hl 4 rfl) ?_
    refine lv_iload hx hb dX8_costs_22 (lv_at hl 0 rfl) ?_
    refine lv_icmp_le (tgt := 34) hx hb dX8_costs_24 (by decide) (fun c_24 => ?_) (fun c_24 => ?_)
    · refine lv_iconst (v := 0) hx hb dX8_costs_34 (by decide) ?_
      refine lv_istore (lv' := [(5, .int 0), (4, .int (M 89 w0)), (3, .int (M 90 w0)), (0, .ref (fad E 86)), (1, .int w), (2, .int n)]) hx hb dX8_costs_35 hl (by decide) rfl (fun ls hl => ?_)
      refine lv_aload_n hx hb dX8_costs_37 rfl (lv_at hl 3 rfl) ?_
      refine f_get X hP (T := TX8) (ci := 8) (k := 86) rfl inX8 rfl 9 (by decide) m_4_183 rfl (v := .ref (fad E 88)) rfl dX8_costs_38 ?_
      refine lv_iload_n hx hb dX8_costs_41 rfl (lv_at hl 4 rfl) ?_
      refine f_iald X hP (k := 88) (n := 6) (q := w0) rfl rfl hw dX8_costs_42 ?_
      by_cases s_43_1 : (M 88 w0) = 1
      · refine lv_tableIn (tgt := 80) hx hb dX8_costs_43 (by rw [s_43_1]; decide) (by rw [s_43_1]; decide) (by rw [s_43_1]; rfl) (by decide) ?_
        refine lv_iload_n hx hb dX8_costs_80 rfl (lv_at hl 2 rfl) ?_
        refine lv_iload_n hx hb dX8_costs_81 rfl (lv_at hl 5 rfl) ?_
        refine lv_imul hx hb dX8_costs_82 ?_
        refine lv_iload hx hb dX8_costs_83 (lv_at hl 1 rfl) ?_
        refine lv_iadd hx hb dX8_costs_85 ?_
        refine f_ir X hlk hr (v := (((M 90 w0) * n) + (M 89 w0))) rfl hP hS ?_ dX8_costs_86
        unfold a_X8_costs
        (first | rw [if_pos c_1] | rw [if_neg c_1] | rw [if_neg (Bool.eq_false_iff.mp c_1)] | skip)
        (first | rw [if_pos c_24] | rw [if_neg c_24] | rw [if_neg (Bool.eq_false_iff.mp c_24)] | skip)
        (first | rw [if_pos s_43_1] | rw [if_neg s_43_1] | rw [if_neg (Bool.eq_false_iff.mp s_43_1)] | skip)
        (try dsimp only)
        first
          | done
          | exact ⟨rfl, rfl⟩
          | rfl
          | (simp only [c_1, c_24, s_43_1, if_true, if_false, and_self, and_true, true_and, not_true_eq_false, not_false_eq_true, and_false, false_and, or_true, true_or, or_false, false_or, or_self, Bool.false_eq_true, reduceCtorEq, nl10, nl20, nl30, nl40, nl50, nl60, nl70, nl12, nl13, nl21, nl23, nl31, nl32]; first | done | exact ⟨rfl, rfl⟩ | rfl)
          | contradiction
          | (simp only [c_1, c_24, s_43_1, if_true, if_false, and_self, and_true, true_and, not_true_eq_false, not_false_eq_true, and_false, false_and, or_true, true_or, or_false, false_or, or_self, Bool.false_eq_true, reduceCtorEq, nl10, nl20, nl30, nl40, nl50, nl60, nl70, nl12, nl13, nl21, nl23, nl31, nl32]; contradiction)
          | (exfalso; simp_all; done)
          | simp_all
      by_cases s_43_2 : (M 88 w0) = 2
      · refine lv_tableIn (tgt := 113) hx hb dX8_costs_43 (by rw [s_43_2]; decide) (by rw [s_43_2]; decide) (by rw [s_43_2]; rfl) (by decide) ?_
        refine lv_iload_n hx hb dX8_costs_113 rfl (lv_at hl 2 rfl) ?_
        refine lv_iload_n hx hb dX8_costs_114 rfl (lv_at hl 5 rfl) ?_
        refine lv_imul hx hb dX8_costs_115 ?_
        refine lv_iconst (v := 1) hx hb dX8_costs_116 (by decide) ?_
        refine lv_iadd hx hb dX8_costs_117 ?_
        refine lv_iconst (v := 2) hx hb dX8_costs_118 (by decide) ?_
        refine lv_idiv hx hb dX8_costs_119 (by decide) ?_
        refine f_ir X hlk hr (v := ((((M 90 w0) * n) + 1) / 2)) rfl hP hS ?_ dX8_costs_120
        unfold a_X8_costs
        (first | rw [if_pos c_1] | rw [if_neg c_1] | rw [if_neg (Bool.eq_false_iff.mp c_1)] | skip)
        (first | rw [if_pos c_24] | rw [if_neg c_24] | rw [if_neg (Bool.eq_false_iff.mp c_24)] | skip)
        (first | rw [if_pos s_43_1] | rw [if_neg s_43_1] | rw [if_neg (Bool.eq_false_iff.mp s_43_1)] | skip)
        (first | rw [if_pos s_43_2] | rw [if_neg s_43_2] | rw [if_neg (Bool.eq_false_iff.mp s_43_2)] | skip)
        (try dsimp only)
        first
          | done
          | exact ⟨rfl, rfl⟩
          | rfl
          | (simp only [c_1, c_24, s_43_1, s_43_2, if_true, if_false, and_self, and_true, true_and, not_true_eq_false, not_false_eq_true, and_false, false_and, or_true, true_or, or_false, false_or, or_self, Bool.false_eq_true, reduceCtorEq, nl10, nl20, nl30, nl40, nl50, nl60, nl70, nl12, nl13, nl21, nl23, nl31, nl32]; first | done | exact ⟨rfl, rfl⟩ | rfl)
          | contradiction
          | (simp only [c_1, c_24, s_43_1, s_43_2, if_true, if_false, and_self, and_true, true_and, not_true_eq_false, not_false_eq_true, and_false, false_and, or_true, true_or, or_false, false_or, or_self, Bool.false_eq_true, reduceCtorEq, nl10, nl20, nl30, nl40, nl50, nl60, nl70, nl12, nl13, nl21, nl23, nl31, nl32]; contradiction)
          | (exfalso; simp_all; done)
          | simp_all
      by_cases s_43_3 : (M 88 w0) = 3
      · refine lv_tableIn (tgt := 87) hx hb dX8_costs_43 (by rw [s_43_3]; decide) (by rw [s_43_3]; decide) (by rw [s_43_3]; rfl) (by decide) ?_
        refine lv_iload_n hx hb dX8_costs_87 rfl (lv_at hl 2 rfl) ?_
        refine lv_iload_n hx hb dX8_costs_88 rfl (lv_at hl 5 rfl) ?_
        refine lv_aload_n hx hb dX8_costs_89 rfl (lv_at hl 3 rfl) ?_
        refine f_get X hP (T := TX8) (ci := 8) (k := 86) rfl inX8 rfl 12 (by decide) m_4_186 rfl (v := .ref (fad E 91)) rfl dX8_costs_90 ?_
        refine lv_iload_n hx hb dX8_costs_93 rfl (lv_at hl 4 rfl) ?_
        refine f_iald X hP (k := 91) (n := 6) (q := w0) rfl rfl hw dX8_costs_94 ?_
        refine lv_icmp_ge (tgt := 102) hx hb dX8_costs_95 (by decide) (fun c_95 => ?_) (fun c_95 => ?_)
        · refine lv_aload_n hx hb dX8_costs_102 rfl (lv_at hl 3 rfl) ?_
          refine f_get X hP (T := TX8) (ci := 8) (k := 86) rfl inX8 rfl 12 (by decide) m_4_186 rfl (v := .ref (fad E 91)) rfl dX8_costs_103 ?_
          refine lv_iload_n hx hb dX8_costs_106 rfl (lv_at hl 4 rfl) ?_
          refine f_iald X hP (k := 91) (n := 6) (q := w0) rfl rfl hw dX8_costs_107 ?_
          refine lv_imul hx hb dX8_costs_108 ?_
          refine lv_iload hx hb dX8_costs_109 (lv_at hl 1 rfl) ?_
          refine lv_iadd hx hb dX8_costs_111 ?_
          refine f_ir X hlk hr (v := (((M 90 w0) * (M 91 w0)) + (M 89 w0))) rfl hP hS ?_ dX8_costs_112
          unfold a_X8_costs
          (first | rw [if_pos c_1] | rw [if_neg c_1] | rw [if_neg (Bool.eq_false_iff.mp c_1)] | skip)
          (first | rw [if_pos c_24] | rw [if_neg c_24] | rw [if_neg (Bool.eq_false_iff.mp c_24)] | skip)
          (first | rw [if_pos s_43_1] | rw [if_neg s_43_1] | rw [if_neg (Bool.eq_false_iff.mp s_43_1)] | skip)
          (first | rw [if_pos s_43_2] | rw [if_neg s_43_2] | rw [if_neg (Bool.eq_false_iff.mp s_43_2)] | skip)
          (first | rw [if_pos s_43_3] | rw [if_neg s_43_3] | rw [if_neg (Bool.eq_false_iff.mp s_43_3)] | skip)
          (first | rw [if_pos c_95] | rw [if_neg c_95] | rw [if_neg (Bool.eq_false_iff.mp c_95)] | skip)
          (try dsimp only)
          first
            | done
            | exact ⟨rfl, rfl⟩
            | rfl
            | (simp only [c_1, c_24, s_43_1, s_43_2, s_43_3, c_95, if_true, if_false, and_self, and_true, true_and, not_true_eq_false, not_false_eq_true, and_false, false_and, or_true, true_or, or_false, false_or, or_self, Bool.false_eq_true, reduceCtorEq, nl10, nl20, nl30, nl40, nl50, nl60, nl70, nl12, nl13, nl21, nl23, nl31, nl32]; first | done | exact ⟨rfl, rfl⟩ | rfl)
            | contradiction
            | (simp only [c_1, c_24, s_43_1, s_43_2, s_43_3, c_95, if_true, if_false, and_self, and_true, true_and, not_true_eq_false, not_false_eq_true, and_false, false_and, or_true, true_or, or_false, false_or, or_self, Bool.false_eq_true, reduceCtorEq, nl10, nl20, nl30, nl40, nl50, nl60, nl70, nl12, nl13, nl21, nl23, nl31, nl32]; contradiction)
            | (exfalso; simp_all; done)
            | simp_all
        · refine lv_iload_n hx hb dX8_costs_98 rfl (lv_at hl 5 rfl) ?_
          refine lv_goto (tgt := 108) hx hb dX8_costs_99 (by decide) ?_
          refine lv_imul hx hb dX8_costs_108 ?_
          refine lv_iload hx hb dX8_costs_109 (lv_at hl 1 rfl) ?_
          refine lv_iadd hx hb dX8_costs_111 ?_
          refine f_ir X hlk hr (v := (((M 90 w0) * n) + (M 89 w0))) rfl hP hS ?_ dX8_costs_112
          unfold a_X8_costs
          (first | rw [if_pos c_1] | rw [if_neg c_1] | rw [if_neg (Bool.eq_false_iff.mp c_1)] | skip)
          (first | rw [if_pos c_24] | rw [if_neg c_24] | rw [if_neg (Bool.eq_false_iff.mp c_24)] | skip)
          (first | rw [if_pos s_43_1] | rw [if_neg s_43_1] | rw [if_neg (Bool.eq_false_iff.mp s_43_1)] | skip)
          (first | rw [if_pos s_43_2] | rw [if_neg s_43_2] | rw [if_neg (Bool.eq_false_iff.mp s_43_2)] | skip)
          (first | rw [if_pos s_43_3] | rw [if_neg s_43_3] | rw [if_neg (Bool.eq_false_iff.mp s_43_3)] | skip)
          (first | rw [if_pos c_95] | rw [if_neg c_95] | rw [if_neg (Bool.eq_false_iff.mp c_95)] | skip)
          (try dsimp only)
          first
            | done
            | exact ⟨rfl, rfl⟩
            | rfl
            | (simp only [c_1, c_24, s_43_1, s_43_2, s_43_3, c_95, if_true, if_false, and_self, and_true, true_and, not_true_eq_false, not_false_eq_true, and_false, false_and, or_true, true_or, or_false, false_or, or_self, Bool.false_eq_true, reduceCtorEq, nl10, nl20, nl30, nl40, nl50, nl60, nl70, nl12, nl13, nl21, nl23, nl31, nl32]; first | done | exact ⟨rfl, rfl⟩ | rfl)
            | contradiction
            | (simp only [c_1, c_24, s_43_1, s_43_2, s_43_3, c_95, if_true, if_false, and_self, and_true, true_and, not_true_eq_false, not_false_eq_true, and_false, false_and, or_true, true_or, or_false, false_or, or_self, Bool.false_eq_true, reduceCtorEq, nl10, nl20, nl30, nl40, nl50, nl60, nl70, nl12, nl13, nl21, nl23, nl31, nl32]; contradiction)
            | (exfalso; simp_all; done)
            | simp_all
      by_cases s_43_4 : (M 88 w0) = 4
      · refine lv_tableIn (tgt := 131) hx hb dX8_costs_43 (by rw [s_43_4]; decide) (by rw [s_43_4]; decide) (by rw [s_43_4]; rfl) (by decide) ?_
        refine lv_iload_n hx hb dX8_costs_131 rfl (lv_at hl 2 rfl) ?_
        refine lv_iload hx hb dX8_costs_132 (lv_at hl 0 rfl) ?_
        refine lv_imul hx hb dX8_costs_134 ?_
        refine f_ir X hlk hr (v := ((M 90 w0) * 0)) rfl hP hS ?_ dX8_costs_135
        unfold a_X8_costs
        (first | rw [if_pos c_1] | rw [if_neg c_1] | rw [if_neg (Bool.eq_false_iff.mp c_1)] | skip)
        (first | rw [if_pos c_24] | rw [if_neg c_24] | rw [if_neg (Bool.eq_false_iff.mp c_24)] | skip)
        (first | rw [if_pos s_43_1] | rw [if_neg s_43_1] | rw [if_neg (Bool.eq_false_iff.mp s_43_1)] | skip)
        (first | rw [if_pos s_43_2] | rw [if_neg s_43_2] | rw [if_neg (Bool.eq_false_iff.mp s_43_2)] | skip)
        (first | rw [if_pos s_43_3] | rw [if_neg s_43_3] | rw [if_neg (Bool.eq_false_iff.mp s_43_3)] | skip)
        (first | rw [if_pos s_43_4] | rw [if_neg s_43_4] | rw [if_neg (Bool.eq_false_iff.mp s_43_4)] | skip)
        (try dsimp only)
        first
          | done
          | exact ⟨rfl, rfl⟩
          | rfl
          | (simp only [c_1, c_24, s_43_1, s_43_2, s_43_3, s_43_4, if_true, if_false, and_self, and_true, true_and, not_true_eq_false, not_false_eq_true, and_false, false_and, or_true, true_or, or_false, false_or, or_self, Bool.false_eq_true, reduceCtorEq, nl10, nl20, nl30, nl40, nl50, nl60, nl70, nl12, nl13, nl21, nl23, nl31, nl32]; first | done | exact ⟨rfl, rfl⟩ | rfl)
          | contradiction
          | (simp only [c_1, c_24, s_43_1, s_43_2, s_43_3, s_43_4, if_true, if_false, and_self, and_true, true_and, not_true_eq_false, not_false_eq_true, and_false, false_and, or_true, true_or, or_false, false_or, or_self, Bool.false_eq_true, reduceCtorEq, nl10, nl20, nl30, nl40, nl50, nl60, nl70, nl12, nl13, nl21, nl23, nl31, nl32]; contradiction)
          | (exfalso; simp_all; done)
          | simp_all
      by_cases s_43_5 : (M 88 w0) = 5
      · refine lv_tableIn (tgt := 121) hx hb dX8_costs_43 (by rw [s_43_5]; decide) (by rw [s_43_5]; decide) (by rw [s_43_5]; rfl) (by decide) ?_
        refine lv_iload_n hx hb dX8_costs_121 rfl (lv_at hl 2 rfl) ?_
        refine lv_iload_n hx hb dX8_costs_122 rfl (lv_at hl 5 rfl) ?_
        refine lv_imul hx hb dX8_costs_123 ?_
        refine lv_iconst (v := 1) hx hb dX8_costs_124 (by decide) ?_
        refine lv_iadd hx hb dX8_costs_125 ?_
        refine lv_iconst (v := 2) hx hb dX8_costs_126 (by decide) ?_
        refine lv_idiv hx hb dX8_costs_127 (by decide) ?_
        refine lv_iconst (v := 1) hx hb dX8_costs_128 (by decide) ?_
        refine lv_iadd hx hb dX8_costs_129 ?_
        refine f_ir X hlk hr (v := (((((M 90 w0) * n) + 1) / 2) + 1)) rfl hP hS ?_ dX8_costs_130
        unfold a_X8_costs
        (first | rw [if_pos c_1] | rw [if_neg c_1] | rw [if_neg (Bool.eq_false_iff.mp c_1)] | skip)
        (first | rw [if_pos c_24] | rw [if_neg c_24] | rw [if_neg (Bool.eq_false_iff.mp c_24)] | skip)
        (first | rw [if_pos s_43_1] | rw [if_neg s_43_1] | rw [if_neg (Bool.eq_false_iff.mp s_43_1)] | skip)
        (first | rw [if_pos s_43_2] | rw [if_neg s_43_2] | rw [if_neg (Bool.eq_false_iff.mp s_43_2)] | skip)
        (first | rw [if_pos s_43_3] | rw [if_neg s_43_3] | rw [if_neg (Bool.eq_false_iff.mp s_43_3)] | skip)
        (first | rw [if_pos s_43_4] | rw [if_neg s_43_4] | rw [if_neg (Bool.eq_false_iff.mp s_43_4)] | skip)
        (first | rw [if_pos s_43_5] | rw [if_neg s_43_5] | rw [if_neg (Bool.eq_false_iff.mp s_43_5)] | skip)
        (try dsimp only)
        first
          | done
          | exact ⟨rfl, rfl⟩
          | rfl
          | (simp only [c_1, c_24, s_43_1, s_43_2, s_43_3, s_43_4, s_43_5, if_true, if_false, and_self, and_true, true_and, not_true_eq_false, not_false_eq_true, and_false, false_and, or_true, true_or, or_false, false_or, or_self, Bool.false_eq_true, reduceCtorEq, nl10, nl20, nl30, nl40, nl50, nl60, nl70, nl12, nl13, nl21, nl23, nl31, nl32]; first | done | exact ⟨rfl, rfl⟩ | rfl)
          | contradiction
          | (simp only [c_1, c_24, s_43_1, s_43_2, s_43_3, s_43_4, s_43_5, if_true, if_false, and_self, and_true, true_and, not_true_eq_false, not_false_eq_true, and_false, false_and, or_true, true_or, or_false, false_or, or_self, Bool.false_eq_true, reduceCtorEq, nl10, nl20, nl30, nl40, nl50, nl60, nl70, nl12, nl13, nl21, nl23, nl31, nl32]; contradiction)
          | (exfalso; simp_all; done)
          | simp_all
      by_cases s_43_6 : (M 88 w0) = 6
      · refine lv_tableIn (tgt := 136) hx hb dX8_costs_43 (by rw [s_43_6]; decide) (by rw [s_43_6]; decide) (by rw [s_43_6]; rfl) (by decide) ?_
        refine lv_iload_n hx hb dX8_costs_136 rfl (lv_at hl 2 rfl) ?_
        refine lv_iload hx hb dX8_costs_137 (lv_at hl 0 rfl) ?_
        refine lv_imul hx hb dX8_costs_139 ?_
        refine lv_aload_n hx hb dX8_costs_140 rfl (lv_at hl 3 rfl) ?_
        refine f_get X hP (T := TX8) (ci := 8) (k := 86) rfl inX8 rfl 2 (by decide) m_4_176 rfl (v := .int (M 86 2)) rfl dX8_costs_141 ?_
        refine lv_iload_n hx hb dX8_costs_144 rfl (lv_at hl 5 rfl) ?_
        refine lv_imul hx hb dX8_costs_145 ?_
        refine lv_iadd hx hb dX8_costs_146 ?_
        refine f_ir X hlk hr (v := (((M 90 w0) * 0) + ((M 86 2) * n))) rfl hP hS ?_ dX8_costs_147
        unfold a_X8_costs
        (first | rw [if_pos c_1] | rw [if_neg c_1] | rw [if_neg (Bool.eq_false_iff.mp c_1)] | skip)
        (first | rw [if_pos c_24] | rw [if_neg c_24] | rw [if_neg (Bool.eq_false_iff.mp c_24)] | skip)
        (first | rw [if_pos s_43_1] | rw [if_neg s_43_1] | rw [if_neg (Bool.eq_false_iff.mp s_43_1)] | skip)
        (first | rw [if_pos s_43_2] | rw [if_neg s_43_2] | rw [if_neg (Bool.eq_false_iff.mp s_43_2)] | skip)
        (first | rw [if_pos s_43_3] | rw [if_neg s_43_3] | rw [if_neg (Bool.eq_false_iff.mp s_43_3)] | skip)
        (first | rw [if_pos s_43_4] | rw [if_neg s_43_4] | rw [if_neg (Bool.eq_false_iff.mp s_43_4)] | skip)
        (first | rw [if_pos s_43_5] | rw [if_neg s_43_5] | rw [if_neg (Bool.eq_false_iff.mp s_43_5)] | skip)
        (first | rw [if_pos s_43_6] | rw [if_neg s_43_6] | rw [if_neg (Bool.eq_false_iff.mp s_43_6)] | skip)
        (try dsimp only)
        first
          | done
          | exact ⟨rfl, rfl⟩
          | rfl
          | (simp only [c_1, c_24, s_43_1, s_43_2, s_43_3, s_43_4, s_43_5, s_43_6, if_true, if_false, and_self, and_true, true_and, not_true_eq_false, not_false_eq_true, and_false, false_and, or_true, true_or, or_false, false_or, or_self, Bool.false_eq_true, reduceCtorEq, nl10, nl20, nl30, nl40, nl50, nl60, nl70, nl12, nl13, nl21, nl23, nl31, nl32]; first | done | exact ⟨rfl, rfl⟩ | rfl)
          | contradiction
          | (simp only [c_1, c_24, s_43_1, s_43_2, s_43_3, s_43_4, s_43_5, s_43_6, if_true, if_false, and_self, and_true, true_and, not_true_eq_false, not_false_eq_true, and_false, false_and, or_true, true_or, or_false, false_or, or_self, Bool.false_eq_true, reduceCtorEq, nl10, nl20, nl30, nl40, nl50, nl60, nl70, nl12, nl13, nl21, nl23, nl31, nl32]; contradiction)
          | (exfalso; simp_all; done)
          | simp_all
      refine lv_tableOut (tgt := 148) hx hb dX8_costs_43 (by have q0 := lv_neT s_43_1 (a := 1) rfl; have q1 := lv_neT s_43_2 (a := 2) rfl; have q2 := lv_neT s_43_3 (a := 3) rfl; have q3 := lv_neT s_43_4 (a := 4) rfl; have q4 := lv_neT s_43_5 (a := 5) rfl; have q5 := lv_neT s_43_6 (a := 6) rfl; omega) (by decide) ?_
      refine lv_iload_n hx hb dX8_costs_148 rfl (lv_at hl 2 rfl) ?_
      refine lv_iload_n hx hb dX8_costs_149 rfl (lv_at hl 5 rfl) ?_
      refine lv_imul hx hb dX8_costs_150 ?_
      refine f_ir X hlk hr (v := ((M 90 w0) * n)) rfl hP hS ?_ dX8_costs_151
      unfold a_X8_costs
      (first | rw [if_pos c_1] | rw [if_neg c_1] | rw [if_neg (Bool.eq_false_iff.mp c_1)] | skip)
      (first | rw [if_pos c_24] | rw [if_neg c_24] | rw [if_neg (Bool.eq_false_iff.mp c_24)] | skip)
      (first | rw [if_pos s_43_1] | rw [if_neg s_43_1] | rw [if_neg (Bool.eq_false_iff.mp s_43_1)] | skip)
      (first | rw [if_pos s_43_2] | rw [if_neg s_43_2] | rw [if_neg (Bool.eq_false_iff.mp s_43_2)] | skip)
      (first | rw [if_pos s_43_3] | rw [if_neg s_43_3] | rw [if_neg (Bool.eq_false_iff.mp s_43_3)] | skip)
      (first | rw [if_pos s_43_4] | rw [if_neg s_43_4] | rw [if_neg (Bool.eq_false_iff.mp s_43_4)] | skip)
      (first | rw [if_pos s_43_5] | rw [if_neg s_43_5] | rw [if_neg (Bool.eq_false_iff.mp s_43_5)] | skip)
      (first | rw [if_pos s_43_6] | rw [if_neg s_43_6] | rw [if_neg (Bool.eq_false_iff.mp s_43_6)] | skip)
      (try dsimp only)
      first
        | done
        | exact ⟨rfl, rfl⟩
        | rfl
        | (simp only [c_1, c_24, s_43_1, s_43_2, s_43_3, s_43_4, s_43_5, s_43_6, if_true, if_false, and_self, and_true, true_and, not_true_eq_false, not_false_eq_true, and_false, false_and, or_true, true_or, or_false, false_or, or_self, Bool.false_eq_true, reduceCtorEq, nl10, nl20, nl30, nl40, nl50, nl60, nl70, nl12, nl13, nl21, nl23, nl31, nl32]; first | done | exact ⟨rfl, rfl⟩ | rfl)
        | contradiction
        | (simp only [c_1, c_24, s_43_1, s_43_2, s_43_3, s_43_4, s_43_5, s_43_6, if_true, if_false, and_self, and_true, true_and, not_true_eq_false, not_false_eq_true, and_false, false_and, or_true, true_or, or_false, false_or, or_self, Bool.false_eq_true, reduceCtorEq, nl10, nl20, nl30, nl40, nl50, nl60, nl70, nl12, nl13, nl21, nl23, nl31, nl32]; contradiction)
        | (exfalso; simp_all; done)
        | simp_all
    · refine lv_iload_n hx hb dX8_costs_27 rfl (lv_at hl 4 rfl) ?_
      refine lv_iload hx hb dX8_costs_28 (lv_at hl 0 rfl) ?_
      refine lv_isub hx hb dX8_costs_30 ?_
      refine lv_goto (tgt := 35) hx hb dX8_costs_31 (by decide) ?_
      refine lv_istore (lv' := [(5, .int (n - (M 89 w0))), (4, .int (M 89 w0)), (3, .int (M 90 w0)), (0, .ref (fad E 86)), (1, .int w), (2, .int n)]) hx hb dX8_costs_35 hl (by decide) rfl (fun ls hl => ?_)
      refine lv_aload_n hx hb dX8_costs_37 rfl (lv_at hl 3 rfl) ?_
      refine f_get X hP (T := TX8) (ci := 8) (k := 86) rfl inX8 rfl 9 (by decide) m_4_183 rfl (v := .ref (fad E 88)) rfl dX8_costs_38 ?_
      refine lv_iload_n hx hb dX8_costs_41 rfl (lv_at hl 4 rfl) ?_
      refine f_iald X hP (k := 88) (n := 6) (q := w0) rfl rfl hw dX8_costs_42 ?_
      by_cases s_43_1 : (M 88 w0) = 1
      · refine lv_tableIn (tgt := 80) hx hb dX8_costs_43 (by rw [s_43_1]; decide) (by rw [s_43_1]; decide) (by rw [s_43_1]; rfl) (by decide) ?_
        refine lv_iload_n hx hb dX8_costs_80 rfl (lv_at hl 2 rfl) ?_
        refine lv_iload_n hx hb dX8_costs_81 rfl (lv_at hl 5 rfl) ?_
        refine lv_imul hx hb dX8_costs_82 ?_
        refine lv_iload hx hb dX8_costs_83 (lv_at hl 1 rfl) ?_
        refine lv_iadd hx hb dX8_costs_85 ?_
        refine f_ir X hlk hr (v := (((M 90 w0) * n) + (M 89 w0))) rfl hP hS ?_ dX8_costs_86
        unfold a_X8_costs
        (first | rw [if_pos c_1] | rw [if_neg c_1] | rw [if_neg (Bool.eq_false_iff.mp c_1)] | skip)
        (first | rw [if_pos c_24] | rw [if_neg c_24] | rw [if_neg (Bool.eq_false_iff.mp c_24)] | skip)
        (first | rw [if_pos s_43_1] | rw [if_neg s_43_1] | rw [if_neg (Bool.eq_false_iff.mp s_43_1)] | skip)
        (try dsimp only)
        first
          | done
          | exact ⟨rfl, rfl⟩
          | rfl
          | (simp only [c_1, c_24, s_43_1, if_true, if_false, and_self, and_true, true_and, not_true_eq_false, not_false_eq_true, and_false, false_and, or_true, true_or, or_false, false_or, or_self, Bool.false_eq_true, reduceCtorEq, nl10, nl20, nl30, nl40, nl50, nl60, nl70, nl12, nl13, nl21, nl23, nl31, nl32]; first | done | exact ⟨rfl, rfl⟩ | rfl)
          | contradiction
          | (simp only [c_1, c_24, s_43_1, if_true, if_false, and_self, and_true, true_and, not_true_eq_false, not_false_eq_true, and_false, false_and, or_true, true_or, or_false, false_or, or_self, Bool.false_eq_true, reduceCtorEq, nl10, nl20, nl30, nl40, nl50, nl60, nl70, nl12, nl13, nl21, nl23, nl31, nl32]; contradiction)
          | (exfalso; simp_all; done)
          | simp_all
      by_cases s_43_2 : (M 88 w0) = 2
      · refine lv_tableIn (tgt := 113) hx hb dX8_costs_43 (by rw [s_43_2]; decide) (by rw [s_43_2]; decide) (by rw [s_43_2]; rfl) (by decide) ?_
        refine lv_iload_n hx hb dX8_costs_113 rfl (lv_at hl 2 rfl) ?_
        refine lv_iload_n hx hb dX8_costs_114 rfl (lv_at hl 5 rfl) ?_
        refine lv_imul hx hb dX8_costs_115 ?_
        refine lv_iconst (v := 1) hx hb dX8_costs_116 (by decide) ?_
        refine lv_iadd hx hb dX8_costs_117 ?_
        refine lv_iconst (v := 2) hx hb dX8_costs_118 (by decide) ?_
        refine lv_idiv hx hb dX8_costs_119 (by decide) ?_
        refine f_ir X hlk hr (v := ((((M 90 w0) * n) + 1) / 2)) rfl hP hS ?_ dX8_costs_120
        unfold a_X8_costs
        (first | rw [if_pos c_1] | rw [if_neg c_1] | rw [if_neg (Bool.eq_false_iff.mp c_1)] | skip)
        (first | rw [if_pos c_24] | rw [if_neg c_24] | rw [if_neg (Bool.eq_false_iff.mp c_24)] | skip)
        (first | rw [if_pos s_43_1] | rw [if_neg s_43_1] | rw [if_neg (Bool.eq_false_iff.mp s_43_1)] | skip)
        (first | rw [if_pos s_43_2] | rw [if_neg s_43_2] | rw [if_neg (Bool.eq_false_iff.mp s_43_2)] | skip)
        (try dsimp only)
        first
          | done
          | exact ⟨rfl, rfl⟩
          | rfl
          | (simp only [c_1, c_24, s_43_1, s_43_2, if_true, if_false, and_self, and_true, true_and, not_true_eq_false, not_false_eq_true, and_false, false_and, or_true, true_or, or_false, false_or, or_self, Bool.false_eq_true, reduceCtorEq, nl10, nl20, nl30, nl40, nl50, nl60, nl70, nl12, nl13, nl21, nl23, nl31, nl32]; first | done | exact ⟨rfl, rfl⟩ | rfl)
          | contradiction
          | (simp only [c_1, c_24, s_43_1, s_43_2, if_true, if_false, and_self, and_true, true_and, not_true_eq_false, not_false_eq_true, and_false, false_and, or_true, true_or, or_false, false_or, or_self, Bool.false_eq_true, reduceCtorEq, nl10, nl20, nl30, nl40, nl50, nl60, nl70, nl12, nl13, nl21, nl23, nl31, nl32]; contradiction)
          | (exfalso; simp_all; done)
          | simp_all
      by_cases s_43_3 : (M 88 w0) = 3
      · refine lv_tableIn (tgt := 87) hx hb dX8_costs_43 (by rw [s_43_3]; decide) (by rw [s_43_3]; decide) (by rw [s_43_3]; rfl) (by decide) ?_
        refine lv_iload_n hx hb dX8_costs_87 rfl (lv_at hl 2 rfl) ?_
        refine lv_iload_n hx hb dX8_costs_88 rfl (lv_at hl 5 rfl) ?_
        refine lv_aload_n hx hb dX8_costs_89 rfl (lv_at hl 3 rfl) ?_
        refine f_get X hP (T := TX8) (ci := 8) (k := 86) rfl inX8 rfl 12 (by decide) m_4_186 rfl (v := .ref (fad E 91)) rfl dX8_costs_90 ?_
        refine lv_iload_n hx hb dX8_costs_93 rfl (lv_at hl 4 rfl) ?_
        refine f_iald X hP (k := 91) (n := 6) (q := w0) rfl rfl hw dX8_costs_94 ?_
        refine lv_icmp_ge (tgt := 102) hx hb dX8_costs_95 (by decide) (fun c_95 => ?_) (fun c_95 => ?_)
        · refine lv_aload_n hx hb dX8_costs_102 rfl (lv_at hl 3 rfl) ?_
          refine f_get X hP (T := TX8) (ci := 8) (k := 86) rfl inX8 rfl 12 (by decide) m_4_186 rfl (v := .ref (fad E 91)) rfl dX8_costs_103 ?_
          refine lv_iload_n hx hb dX8_costs_106 rfl (lv_at hl 4 rfl) ?_
          refine f_iald X hP (k := 91) (n := 6) (q := w0) rfl rfl hw dX8_costs_107 ?_
          refine lv_imul hx hb dX8_costs_108 ?_
          refine lv_iload hx hb dX8_costs_109 (lv_at hl 1 rfl) ?_
          refine lv_iadd hx hb dX8_costs_111 ?_
          refine f_ir X hlk hr (v := (((M 90 w0) * (M 91 w0)) + (M 89 w0))) rfl hP hS ?_ dX8_costs_112
          unfold a_X8_costs
          (first | rw [if_pos c_1] | rw [if_neg c_1] | rw [if_neg (Bool.eq_false_iff.mp c_1)] | skip)
          (first | rw [if_pos c_24] | rw [if_neg c_24] | rw [if_neg (Bool.eq_false_iff.mp c_24)] | skip)
          (first | rw [if_pos s_43_1] | rw [if_neg s_43_1] | rw [if_neg (Bool.eq_false_iff.mp s_43_1)] | skip)
          (first | rw [if_pos s_43_2] | rw [if_neg s_43_2] | rw [if_neg (Bool.eq_false_iff.mp s_43_2)] | skip)
          (first | rw [if_pos s_43_3] | rw [if_neg s_43_3] | rw [if_neg (Bool.eq_false_iff.mp s_43_3)] | skip)
          (first | rw [if_pos c_95] | rw [if_neg c_95] | rw [if_neg (Bool.eq_false_iff.mp c_95)] | skip)
          (try dsimp only)
          first
            | done
            | exact ⟨rfl, rfl⟩
            | rfl
            | (simp only [c_1, c_24, s_43_1, s_43_2, s_43_3, c_95, if_true, if_false, and_self, and_true, true_and, not_true_eq_false, not_false_eq_true, and_false, false_and, or_true, true_or, or_false, false_or, or_self, Bool.false_eq_true, reduceCtorEq, nl10, nl20, nl30, nl40, nl50, nl60, nl70, nl12, nl13, nl21, nl23, nl31, nl32]; first | done | exact ⟨rfl, rfl⟩ | rfl)
            | contradiction
            | (simp only [c_1, c_24, s_43_1, s_43_2, s_43_3, c_95, if_true, if_false, and_self, and_true, true_and, not_true_eq_false, not_false_eq_true, and_false, false_and, or_true, true_or, or_false, false_or, or_self, Bool.false_eq_true, reduceCtorEq, nl10, nl20, nl30, nl40, nl50, nl60, nl70, nl12, nl13, nl21, nl23, nl31, nl32]; contradiction)
            | (exfalso; simp_all; done)
            | simp_all
        · refine lv_iload_n hx hb dX8_costs_98 rfl (lv_at hl 5 rfl) ?_
          refine lv_goto (tgt := 108) hx hb dX8_costs_99 (by decide) ?_
          refine lv_imul hx hb dX8_costs_108 ?_
          refine lv_iload hx hb dX8_costs_109 (lv_at hl 1 rfl) ?_
          refine lv_iadd hx hb dX8_costs_111 ?_
          refine f_ir X hlk hr (v := (((M 90 w0) * n) + (M 89 w0))) rfl hP hS ?_ dX8_costs_112
          unfold a_X8_costs
          (first | rw [if_pos c_1] | rw [if_neg c_1] | rw [if_neg (Bool.eq_false_iff.mp c_1)] | skip)
          (first | rw [if_pos c_24] | rw [if_neg c_24] | rw [if_neg (Bool.eq_false_iff.mp c_24)] | skip)
          (first | rw [if_pos s_43_1] | rw [if_neg s_43_1] | rw [if_neg (Bool.eq_false_iff.mp s_43_1)] | skip)
          (first | rw [if_pos s_43_2] | rw [if_neg s_43_2] | rw [if_neg (Bool.eq_false_iff.mp s_43_2)] | skip)
          (first | rw [if_pos s_43_3] | rw [if_neg s_43_3] | rw [if_neg (Bool.eq_false_iff.mp s_43_3)] | skip)
          (first | rw [if_pos c_95] | rw [if_neg c_95] | rw [if_neg (Bool.eq_false_iff.mp c_95)] | skip)
          (try dsimp only)
          first
            | done
            | exact ⟨rfl, rfl⟩
            | rfl
            | (simp only [c_1, c_24, s_43_1, s_43_2, s_43_3, c_95, if_true, if_false, and_self, and_true, true_and, not_true_eq_false, not_false_eq_true, and_false, false_and, or_true, true_or, or_false, false_or, or_self, Bool.false_eq_true, reduceCtorEq, nl10, nl20, nl30, nl40, nl50, nl60, nl70, nl12, nl13, nl21, nl23, nl31, nl32]; first | done | exact ⟨rfl, rfl⟩ | rfl)
            | contradiction
            | (simp only [c_1, c_24, s_43_1, s_43_2, s_43_3, c_95, if_true, if_false, and_self, and_true, true_and, not_true_eq_false, not_false_eq_true, and_false, false_and, or_true, true_or, or_false, false_or, or_self, Bool.false_eq_true, reduceCtorEq, nl10, nl20, nl30, nl40, nl50, nl60, nl70, nl12, nl13, nl21, nl23, nl31, nl32]; contradiction)
            | (exfalso; simp_all; done)
            | simp_all
      by_cases s_43_4 : (M 88 w0) = 4
      · refine lv_tableIn (tgt := 131) hx hb dX8_costs_43 (by rw [s_43_4]; decide) (by rw [s_43_4]; decide) (by rw [s_43_4]; rfl) (by decide) ?_
        refine lv_iload_n hx hb dX8_costs_131 rfl (lv_at hl 2 rfl) ?_
        refine lv_iload hx hb dX8_costs_132 (lv_at hl 0 rfl) ?_
        refine lv_imul hx hb dX8_costs_134 ?_
        refine f_ir X hlk hr (v := ((M 90 w0) * (n - (M 89 w0)))) rfl hP hS ?_ dX8_costs_135
        unfold a_X8_costs
        (first | rw [if_pos c_1] | rw [if_neg c_1] | rw [if_neg (Bool.eq_false_iff.mp c_1)] | skip)
        (first | rw [if_pos c_24] | rw [if_neg c_24] | rw [if_neg (Bool.eq_false_iff.mp c_24)] | skip)
        (first | rw [if_pos s_43_1] | rw [if_neg s_43_1] | rw [if_neg (Bool.eq_false_iff.mp s_43_1)] | skip)
        (first | rw [if_pos s_43_2] | rw [if_neg s_43_2] | rw [if_neg (Bool.eq_false_iff.mp s_43_2)] | skip)
        (first | rw [if_pos s_43_3] | rw [if_neg s_43_3] | rw [if_neg (Bool.eq_false_iff.mp s_43_3)] | skip)
        (first | rw [if_pos s_43_4] | rw [if_neg s_43_4] | rw [if_neg (Bool.eq_false_iff.mp s_43_4)] | skip)
        (try dsimp only)
        first
          | done
          | exact ⟨rfl, rfl⟩
          | rfl
          | (simp only [c_1, c_24, s_43_1, s_43_2, s_43_3, s_43_4, if_true, if_false, and_self, and_true, true_and, not_true_eq_false, not_false_eq_true, and_false, false_and, or_true, true_or, or_false, false_or, or_self, Bool.false_eq_true, reduceCtorEq, nl10, nl20, nl30, nl40, nl50, nl60, nl70, nl12, nl13, nl21, nl23, nl31, nl32]; first | done | exact ⟨rfl, rfl⟩ | rfl)
          | contradiction
          | (simp only [c_1, c_24, s_43_1, s_43_2, s_43_3, s_43_4, if_true, if_false, and_self, and_true, true_and, not_true_eq_false, not_false_eq_true, and_false, false_and, or_true, true_or, or_false, false_or, or_self, Bool.false_eq_true, reduceCtorEq, nl10, nl20, nl30, nl40, nl50, nl60, nl70, nl12, nl13, nl21, nl23, nl31, nl32]; contradiction)
          | (exfalso; simp_all; done)
          | simp_all
      by_cases s_43_5 : (M 88 w0) = 5
      · refine lv_tableIn (tgt := 121) hx hb dX8_costs_43 (by rw [s_43_5]; decide) (by rw [s_43_5]; decide) (by rw [s_43_5]; rfl) (by decide) ?_
        refine lv_iload_n hx hb dX8_costs_121 rfl (lv_at hl 2 rfl) ?_
        refine lv_iload_n hx hb dX8_costs_122 rfl (lv_at hl 5 rfl) ?_
        refine lv_imul hx hb dX8_costs_123 ?_
        refine lv_iconst (v := 1) hx hb dX8_costs_124 (by decide) ?_
        refine lv_iadd hx hb dX8_costs_125 ?_
        refine lv_iconst (v := 2) hx hb dX8_costs_126 (by decide) ?_
        refine lv_idiv hx hb dX8_costs_127 (by decide) ?_
        refine lv_iconst (v := 1) hx hb dX8_costs_128 (by decide) ?_
        refine lv_iadd hx hb dX8_costs_129 ?_
        refine f_ir X hlk hr (v := (((((M 90 w0) * n) + 1) / 2) + 1)) rfl hP hS ?_ dX8_costs_130
        unfold a_X8_costs
        (first | rw [if_pos c_1] | rw [if_neg c_1] | rw [if_neg (Bool.eq_false_iff.mp c_1)] | skip)
        (first | rw [if_pos c_24] | rw [if_neg c_24] | rw [if_neg (Bool.eq_false_iff.mp c_24)] | skip)
        (first | rw [if_pos s_43_1] | rw [if_neg s_43_1] | rw [if_neg (Bool.eq_false_iff.mp s_43_1)] | skip)
        (first | rw [if_pos s_43_2] | rw [if_neg s_43_2] | rw [if_neg (Bool.eq_false_iff.mp s_43_2)] | skip)
        (first | rw [if_pos s_43_3] | rw [if_neg s_43_3] | rw [if_neg (Bool.eq_false_iff.mp s_43_3)] | skip)
        (first | rw [if_pos s_43_4] | rw [if_neg s_43_4] | rw [if_neg (Bool.eq_false_iff.mp s_43_4)] | skip)
        (first | rw [if_pos s_43_5] | rw [if_neg s_43_5] | rw [if_neg (Bool.eq_false_iff.mp s_43_5)] | skip)
        (try dsimp only)
        first
          | done
          | exact ⟨rfl, rfl⟩
          | rfl
          | (simp only [c_1, c_24, s_43_1, s_43_2, s_43_3, s_43_4, s_43_5, if_true, if_false, and_self, and_true, true_and, not_true_eq_false, not_false_eq_true, and_false, false_and, or_true, true_or, or_false, false_or, or_self, Bool.false_eq_true, reduceCtorEq, nl10, nl20, nl30, nl40, nl50, nl60, nl70, nl12, nl13, nl21, nl23, nl31, nl32]; first | done | exact ⟨rfl, rfl⟩ | rfl)
          | contradiction
          | (simp only [c_1, c_24, s_43_1, s_43_2, s_43_3, s_43_4, s_43_5, if_true, if_false, and_self, and_true, true_and, not_true_eq_false, not_false_eq_true, and_false, false_and, or_true, true_or, or_false, false_or, or_self, Bool.false_eq_true, reduceCtorEq, nl10, nl20, nl30, nl40, nl50, nl60, nl70, nl12, nl13, nl21, nl23, nl31, nl32]; contradiction)
          | (exfalso; simp_all; done)
          | simp_all
      by_cases s_43_6 : (M 88 w0) = 6
      · refine lv_tableIn (tgt := 136) hx hb dX8_costs_43 (by rw [s_43_6]; decide) (by rw [s_43_6]; decide) (by rw [s_43_6]; rfl) (by decide) ?_
        refine lv_iload_n hx hb dX8_costs_136 rfl (lv_at hl 2 rfl) ?_
        refine lv_iload hx hb dX8_costs_137 (lv_at hl 0 rfl) ?_
        refine lv_imul hx hb dX8_costs_139 ?_
        refine lv_aload_n hx hb dX8_costs_140 rfl (lv_at hl 3 rfl) ?_
        refine f_get X hP (T := TX8) (ci := 8) (k := 86) rfl inX8 rfl 2 (by decide) m_4_176 rfl (v := .int (M 86 2)) rfl dX8_costs_141 ?_
        refine lv_iload_n hx hb dX8_costs_144 rfl (lv_at hl 5 rfl) ?_
        refine lv_imul hx hb dX8_costs_145 ?_
        refine lv_iadd hx hb dX8_costs_146 ?_
        refine f_ir X hlk hr (v := (((M 90 w0) * (n - (M 89 w0))) + ((M 86 2) * n))) rfl hP hS ?_ dX8_costs_147
        unfold a_X8_costs
        (first | rw [if_pos c_1] | rw [if_neg c_1] | rw [if_neg (Bool.eq_false_iff.mp c_1)] | skip)
        (first | rw [if_pos c_24] | rw [if_neg c_24] | rw [if_neg (Bool.eq_false_iff.mp c_24)] | skip)
        (first | rw [if_pos s_43_1] | rw [if_neg s_43_1] | rw [if_neg (Bool.eq_false_iff.mp s_43_1)] | skip)
        (first | rw [if_pos s_43_2] | rw [if_neg s_43_2] | rw [if_neg (Bool.eq_false_iff.mp s_43_2)] | skip)
        (first | rw [if_pos s_43_3] | rw [if_neg s_43_3] | rw [if_neg (Bool.eq_false_iff.mp s_43_3)] | skip)
        (first | rw [if_pos s_43_4] | rw [if_neg s_43_4] | rw [if_neg (Bool.eq_false_iff.mp s_43_4)] | skip)
        (first | rw [if_pos s_43_5] | rw [if_neg s_43_5] | rw [if_neg (Bool.eq_false_iff.mp s_43_5)] | skip)
        (first | rw [if_pos s_43_6] | rw [if_neg s_43_6] | rw [if_neg (Bool.eq_false_iff.mp s_43_6)] | skip)
        (try dsimp only)
        first
          | done
          | exact ⟨rfl, rfl⟩
          | rfl
          | (simp only [c_1, c_24, s_43_1, s_43_2, s_43_3, s_43_4, s_43_5, s_43_6, if_true, if_false, and_self, and_true, true_and, not_true_eq_false, not_false_eq_true, and_false, false_and, or_true, true_or, or_false, false_or, or_self, Bool.false_eq_true, reduceCtorEq, nl10, nl20, nl30, nl40, nl50, nl60, nl70, nl12, nl13, nl21, nl23, nl31, nl32]; first | done | exact ⟨rfl, rfl⟩ | rfl)
          | contradiction
          | (simp only [c_1, c_24, s_43_1, s_43_2, s_43_3, s_43_4, s_43_5, s_43_6, if_true, if_false, and_self, and_true, true_and, not_true_eq_false, not_false_eq_true, and_false, false_and, or_true, true_or, or_false, false_or, or_self, Bool.false_eq_true, reduceCtorEq, nl10, nl20, nl30, nl40, nl50, nl60, nl70, nl12, nl13, nl21, nl23, nl31, nl32]; contradiction)
          | (exfalso; simp_all; done)
          | simp_all
      refine lv_tableOut (tgt := 148) hx hb dX8_costs_43 (by have q0 := lv_neT s_43_1 (a := 1) rfl; have q1 := lv_neT s_43_2 (a := 2) rfl; have q2 := lv_neT s_43_3 (a := 3) rfl; have q3 := lv_neT s_43_4 (a := 4) rfl; have q4 := lv_neT s_43_5 (a := 5) rfl; have q5 := lv_neT s_43_6 (a := 6) rfl; omega) (by decide) ?_
      refine lv_iload_n hx hb dX8_costs_148 rfl (lv_at hl 2 rfl) ?_
      refine lv_iload_n hx hb dX8_costs_149 rfl (lv_at hl 5 rfl) ?_
      refine lv_imul hx hb dX8_costs_150 ?_
      refine f_ir X hlk hr (v := ((M 90 w0) * n)) rfl hP hS ?_ dX8_costs_151
      unfold a_X8_costs
      (first | rw [if_pos c_1] | rw [if_neg c_1] | rw [if_neg (Bool.eq_false_iff.mp c_1)] | skip)
      (first | rw [if_pos c_24] | rw [if_neg c_24] | rw [if_neg (Bool.eq_false_iff.mp c_24)] | skip)
      (first | rw [if_pos s_43_1] | rw [if_neg s_43_1] | rw [if_neg (Bool.eq_false_iff.mp s_43_1)] | skip)
      (first | rw [if_pos s_43_2] | rw [if_neg s_43_2] | rw [if_neg (Bool.eq_false_iff.mp s_43_2)] | skip)
      (first | rw [if_pos s_43_3] | rw [if_neg s_43_3] | rw [if_neg (Bool.eq_false_iff.mp s_43_3)] | skip)
      (first | rw [if_pos s_43_4] | rw [if_neg s_43_4] | rw [if_neg (Bool.eq_false_iff.mp s_43_4)] | skip)
      (first | rw [if_pos s_43_5] | rw [if_neg s_43_5] | rw [if_neg (Bool.eq_false_iff.mp s_43_5)] | skip)
      (first | rw [if_pos s_43_6] | rw [if_neg s_43_6] | rw [if_neg (Bool.eq_false_iff.mp s_43_6)] | skip)
      (try dsimp only)
      first
        | done
        | exact ⟨rfl, rfl⟩
        | rfl
        | (simp only [c_1, c_24, s_43_1, s_43_2, s_43_3, s_43_4, s_43_5, s_43_6, if_true, if_false, and_self, and_true, true_and, not_true_eq_false, not_false_eq_true, and_false, false_and, or_true, true_or, or_false, false_or, or_self, Bool.false_eq_true, reduceCtorEq, nl10, nl20, nl30, nl40, nl50, nl60, nl70, nl12, nl13, nl21, nl23, nl31, nl32]; first | done | exact ⟨rfl, rfl⟩ | rfl)
        | contradiction
        | (simp only [c_1, c_24, s_43_1, s_43_2, s_43_3, s_43_4, s_43_5, s_43_6, if_true, if_false, and_self, and_true, true_and, not_true_eq_false, not_false_eq_true, and_false, false_and, or_true, true_or, or_false, false_or, or_self, Bool.false_eq_true, reduceCtorEq, nl10, nl20, nl30, nl40, nl50, nl60, nl70, nl12, nl13, nl21, nl23, nl31, nl32]; contradiction)
        | (exfalso; simp_all; done)
        | simp_all
  · refine lv_iconst (v := 0) hx hb dX8_costs_4 (by decide) ?_
    refine f_ir X hlk hr (v := 0) rfl hP hS ?_ dX8_costs_5
    unfold a_X8_costs
    (first | rw [if_pos c_1] | rw [if_neg c_1] | rw [if_neg (Bool.eq_false_iff.mp c_1)] | skip)
    (try dsimp only)
    first
      | done
      | exact ⟨rfl, rfl⟩
      | rfl
      | (simp only [c_1, if_true, if_false, and_self, and_true, true_and, not_true_eq_false, not_false_eq_true, and_false, false_and, or_true, true_or, or_false, false_or, or_self, Bool.false_eq_true, reduceCtorEq, nl10, nl20, nl30, nl40, nl50, nl60, nl70, nl12, nl13, nl21, nl23, nl31, nl32]; first | done | exact ⟨rfl, rfl⟩ | rfl)
      | contradiction
      | (simp only [c_1, if_true, if_false, and_self, and_true, true_and, not_true_eq_false, not_false_eq_true, and_false, false_and, or_true, true_or, or_false, false_or, or_self, Bool.false_eq_true, reduceCtorEq, nl10, nl20, nl30, nl40, nl50, nl60, nl70, nl12, nl13, nl21, nl23, nl31, nl32]; contradiction)
      | (exfalso; simp_all; done)
      | simp_all

def a_X8_comesBy (M : Nat → Nat → Int32) (L : Nat → Nat → Int64) (t : Int32) (q1 : Int32) (t0 : Nat) : Int32 := (if (M 94 t0) ≤ q1 then (if q1 ≤ (M 95 t0) then ((q1 - (M 94 t0)) + 1) else (((M 95 t0) - (M 94 t0)) + 1)) else 0)
set_option maxHeartbeats 1000000 in
set_option maxRecDepth 100000 in
theorem c_X8_comesBy (l : Launch) (E : fE) (M : Nat → Nat → Int32) (L : Nat → Nat → Int64) (t : Int32) (q1 : Int32) (t0 : Nat) (ht : fIx t 8 t0) : Met l yX8_comesBy (wl yX8_comesBy cX8_comesBy 3 (some .int)) (fRm 0 0) (va_Pc [.ref (fad E 86), .int t, .int q1] (fPre E M L)) (fQi E (fun r u => u = (M, L) ∧ r = (a_X8_comesBy M L t q1 t0))) 0 0 (fA E) := by
  refine f_head (by decide) (Nat.le_of_ble_eq_true rfl) ?_
  intro pg ev s mi below meth cd ls X hr hlk hP hS hl
  have hx := X.1.1
  have hb := X.1.2.1
  have hl : lv_has ls 3 [(0, .ref (fad E 86)), (1, .int t), (2, .int q1)] := hl
  refine lv_iload_n hx hb dX8_comesBy_0 rfl (lv_at hl 2 rfl) ?_
  refine lv_aload_n hx hb dX8_comesBy_1 rfl (lv_at hl 0 rfl) ?_
  refine f_get X hP (T := TX8) (ci := 8) (k := 86) rfl inX8 rfl 15 (by decide) m_4_189 rfl (v := .ref (fad E 94)) rfl dX8_comesBy_2 ?_
  refine lv_iload_n hx hb dX8_comesBy_5 rfl (lv_at hl 1 rfl) ?_
  refine f_iald X hP (k := 94) (n := 8) (q := t0) rfl rfl ht dX8_comesBy_6 ?_
  refine lv_icmp_ge (tgt := 14) hx hb dX8_comesBy_7 (by decide) (fun c_7 => ?_) (fun c_7 => ?_)
  · refine lv_iload_n hx hb dX8_comesBy_14 rfl (lv_at hl 2 rfl) ?_
    refine lv_aload_n hx hb dX8_comesBy_15 rfl (lv_at hl 0 rfl) ?_
    refine f_get X hP (T := TX8) (ci := 8) (k := 86) rfl inX8 rfl 16 (by decide) m_4_190 rfl (v := .ref (fad E 95)) rfl dX8_comesBy_16 ?_
    refine lv_iload_n hx hb dX8_comesBy_19 rfl (lv_at hl 1 rfl) ?_
    refine f_iald X hP (k := 95) (n := 8) (q := t0) rfl rfl ht dX8_comesBy_20 ?_
    refine lv_icmp_le (tgt := 42) hx hb dX8_comesBy_21 (by decide) (fun c_21 => ?_) (fun c_21 => ?_)
    · refine lv_iload_n hx hb dX8_comesBy_42 rfl (lv_at hl 2 rfl) ?_
      refine lv_aload_n hx hb dX8_comesBy_43 rfl (lv_at hl 0 rfl) ?_
      refine f_get X hP (T := TX8) (ci := 8) (k := 86) rfl inX8 rfl 15 (by decide) m_4_189 rfl (v := .ref (fad E 94)) rfl dX8_comesBy_44 ?_
      refine lv_iload_n hx hb dX8_comesBy_47 rfl (lv_at hl 1 rfl) ?_
      refine f_iald X hP (k := 94) (n := 8) (q := t0) rfl rfl ht dX8_comesBy_48 ?_
      refine lv_isub hx hb dX8_comesBy_49 ?_
      refine lv_iconst (v := 1) hx hb dX8_comesBy_50 (by decide) ?_
      refine lv_iadd hx hb dX8_comesBy_51 ?_
      refine f_ir X hlk hr (v := ((q1 - (M 94 t0)) + 1)) rfl hP hS ?_ dX8_comesBy_52
      unfold a_X8_comesBy
      (first | rw [if_pos c_7] | rw [if_neg c_7] | rw [if_neg (Bool.eq_false_iff.mp c_7)] | skip)
      (first | rw [if_pos c_21] | rw [if_neg c_21] | rw [if_neg (Bool.eq_false_iff.mp c_21)] | skip)
      (try dsimp only)
      first
        | done
        | exact ⟨rfl, rfl⟩
        | rfl
        | (simp only [c_7, c_21, if_true, if_false, and_self, and_true, true_and, not_true_eq_false, not_false_eq_true, and_false, false_and, or_true, true_or, or_false, false_or, or_self, Bool.false_eq_true, reduceCtorEq, nl10, nl20, nl30, nl40, nl50, nl60, nl70, nl12, nl13, nl21, nl23, nl31, nl32]; first | done | exact ⟨rfl, rfl⟩ | rfl)
        | contradiction
        | (simp only [c_7, c_21, if_true, if_false, and_self, and_true, true_and, not_true_eq_false, not_false_eq_true, and_false, false_and, or_true, true_or, or_false, false_or, or_self, Bool.false_eq_true, reduceCtorEq, nl10, nl20, nl30, nl40, nl50, nl60, nl70, nl12, nl13, nl21, nl23, nl31, nl32]; contradiction)
        | (exfalso; simp_all; done)
        | simp_all
    · refine lv_aload_n hx hb dX8_comesBy_24 rfl (lv_at hl 0 rfl) ?_
      refine f_get X hP (T := TX8) (ci := 8) (k := 86) rfl inX8 rfl 16 (by decide) m_4_190 rfl (v := .ref (fad E 95)) rfl dX8_comesBy_25 ?_
      refine lv_iload_n hx hb dX8_comesBy_28 rfl (lv_at hl 1 rfl) ?_
      refine f_iald X hP (k := 95) (n := 8) (q := t0) rfl rfl ht dX8_comesBy_29 ?_
      refine lv_aload_n hx hb dX8_comesBy_30 rfl (lv_at hl 0 rfl) ?_
      refine f_get X hP (T := TX8) (ci := 8) (k := 86) rfl inX8 rfl 15 (by decide) m_4_189 rfl (v := .ref (fad E 94)) rfl dX8_comesBy_31 ?_
      refine lv_iload_n hx hb dX8_comesBy_34 rfl (lv_at hl 1 rfl) ?_
      refine f_iald X hP (k := 94) (n := 8) (q := t0) rfl rfl ht dX8_comesBy_35 ?_
      refine lv_isub hx hb dX8_comesBy_36 ?_
      refine lv_iconst (v := 1) hx hb dX8_comesBy_37 (by decide) ?_
      refine lv_iadd hx hb dX8_comesBy_38 ?_
      refine lv_goto (tgt := 52) hx hb dX8_comesBy_39 (by decide) ?_
      refine f_ir X hlk hr (v := (((M 95 t0) - (M 94 t0)) + 1)) rfl hP hS ?_ dX8_comesBy_52
      unfold a_X8_comesBy
      (first | rw [if_pos c_7] | rw [if_neg c_7] | rw [if_neg (Bool.eq_false_iff.mp c_7)] | skip)
      (first | rw [if_pos c_21] | rw [if_neg c_21] | rw [if_neg (Bool.eq_false_iff.mp c_21)] | skip)
      (try dsimp only)
      first
        | done
        | exact ⟨rfl, rfl⟩
        | rfl
        | (simp only [c_7, c_21, if_true, if_false, and_self, and_true, true_and, not_true_eq_false, not_false_eq_true, and_false, false_and, or_true, true_or, or_false, false_or, or_self, Bool.false_eq_true, reduceCtorEq, nl10, nl20, nl30, nl40, nl50, nl60, nl70, nl12, nl13, nl21, nl23, nl31, nl32]; first | done | exact ⟨rfl, rfl⟩ | rfl)
        | contradiction
        | (simp only [c_7, c_21, if_true, if_false, and_self, and_true, true_and, not_true_eq_false, not_false_eq_true, and_false, false_and, or_true, true_or, or_false, false_or, or_self, Bool.false_eq_true, reduceCtorEq, nl10, nl20, nl30, nl40, nl50, nl60, nl70, nl12, nl13, nl21, nl23, nl31, nl32]; contradiction)
        | (exfalso; simp_all; done)
        | simp_all
  · refine lv_iconst (v := 0) hx hb dX8_comesBy_10 (by decide) ?_
    refine lv_goto (tgt := 52) hx hb dX8_comesBy_11 (by decide) ?_
    refine f_ir X hlk hr (v := 0) rfl hP hS ?_ dX8_comesBy_52
    unfold a_X8_comesBy
    (first | rw [if_pos c_7] | rw [if_neg c_7] | rw [if_neg (Bool.eq_false_iff.mp c_7)] | skip)
    (try dsimp only)
    first
      | done
      | exact ⟨rfl, rfl⟩
      | rfl
      | (simp only [c_7, if_true, if_false, and_self, and_true, true_and, not_true_eq_false, not_false_eq_true, and_false, false_and, or_true, true_or, or_false, false_or, or_self, Bool.false_eq_true, reduceCtorEq, nl10, nl20, nl30, nl40, nl50, nl60, nl70, nl12, nl13, nl21, nl23, nl31, nl32]; first | done | exact ⟨rfl, rfl⟩ | rfl)
      | contradiction
      | (simp only [c_7, if_true, if_false, and_self, and_true, true_and, not_true_eq_false, not_false_eq_true, and_false, false_and, or_true, true_or, or_false, false_or, or_self, Bool.false_eq_true, reduceCtorEq, nl10, nl20, nl30, nl40, nl50, nl60, nl70, nl12, nl13, nl21, nl23, nl31, nl32]; contradiction)
      | (exfalso; simp_all; done)
      | simp_all

set_option maxHeartbeats 4000000 in
set_option maxRecDepth 100000 in
theorem c_X8_isMet (l : Launch) (E : fE) (M : Nat → Nat → Int32) (L : Nat → Nat → Int64) (t : Int32) (b : Int32) (t0 : Nat) (ht : fIx t 8 t0) : Met l yX8_isMet (wl yX8_isMet cX8_isMet 3 (some .boolean)) (fRm 0 0) (va_Pc [.ref (fad E 86), .int t, .int b] (fPre E M L)) (fQi E (fun r u => u = (M, L) ∧ r = bI (decide ((if b = 0 then (M 99 t0) else (M 99 t0) / 2) ≤ (M 98 t0))))) 0 0 (fA E) := by
  refine f_head (by decide) (Nat.le_of_ble_eq_true rfl) ?_
  intro pg ev s mi below meth cd ls X hr hlk hP hS hl
  have hx := X.1.1
  have hb := X.1.2.1
  have hl : lv_has ls 3 [(0, .ref (fad E 86)), (1, .int t), (2, .int b)] := hl
  refine lv_iload_n hx hb dX8_isMet_0 rfl (lv_at hl 2 rfl) ?_
  refine lv_if_eq (tgt := 15) hx hb dX8_isMet_1 (by decide) (fun c_1 => ?_) (fun c_1 => ?_)
  · refine lv_aload_n hx hb dX8_isMet_15 rfl (lv_at hl 0 rfl) ?_
    refine f_get X hP (T := TX8) (ci := 8) (k := 86) rfl inX8 rfl 20 (by decide) m_4_194 rfl (v := .ref (fad E 99)) rfl dX8_isMet_16 ?_
    refine lv_iload_n hx hb dX8_isMet_19 rfl (lv_at hl 1 rfl) ?_
    refine f_iald X hP (k := 99) (n := 8) (q := t0) rfl rfl ht dX8_isMet_20 ?_
    refine lv_aload_n hx hb dX8_isMet_21 rfl (lv_at hl 0 rfl) ?_
    refine f_get X hP (T := TX8) (ci := 8) (k := 86) rfl inX8 rfl 19 (by decide) m_4_193 rfl (v := .ref (fad E 98)) rfl dX8_isMet_22 ?_
    refine lv_iload_n hx hb dX8_isMet_25 rfl (lv_at hl 1 rfl) ?_
    refine f_iald X hP (k := 98) (n := 8) (q := t0) rfl rfl ht dX8_isMet_26 ?_
    refine lv_icmp_gt (tgt := 34) hx hb dX8_isMet_27 (by decide) (fun c_27 => ?_) (fun c_27 => ?_)
    · refine lv_iconst (v := 0) hx hb dX8_isMet_34 (by decide) ?_
      refine f_ir X hlk hr (v := 0) rfl hP hS ?_ dX8_isMet_35
      refine ⟨rfl, ?_⟩; simp_all [bI, Int32.not_lt, Int32.not_le]
    · refine lv_iconst (v := 1) hx hb dX8_isMet_30 (by decide) ?_
      refine lv_goto (tgt := 35) hx hb dX8_isMet_31 (by decide) ?_
      refine f_ir X hlk hr (v := 1) rfl hP hS ?_ dX8_isMet_35
      refine ⟨rfl, ?_⟩; simp_all [bI, Int32.not_lt, Int32.not_le]
  · refine lv_aload_n hx hb dX8_isMet_4 rfl (lv_at hl 0 rfl) ?_
    refine f_get X hP (T := TX8) (ci := 8) (k := 86) rfl inX8 rfl 20 (by decide) m_4_194 rfl (v := .ref (fad E 99)) rfl dX8_isMet_5 ?_
    refine lv_iload_n hx hb dX8_isMet_8 rfl (lv_at hl 1 rfl) ?_
    refine f_iald X hP (k := 99) (n := 8) (q := t0) rfl rfl ht dX8_isMet_9 ?_
    refine lv_iconst (v := 2) hx hb dX8_isMet_10 (by decide) ?_
    refine lv_idiv hx hb dX8_isMet_11 (by decide) ?_
    refine lv_goto (tgt := 21) hx hb dX8_isMet_12 (by decide) ?_
    refine lv_aload_n hx hb dX8_isMet_21 rfl (lv_at hl 0 rfl) ?_
    refine f_get X hP (T := TX8) (ci := 8) (k := 86) rfl inX8 rfl 19 (by decide) m_4_193 rfl (v := .ref (fad E 98)) rfl dX8_isMet_22 ?_
    refine lv_iload_n hx hb dX8_isMet_25 rfl (lv_at hl 1 rfl) ?_
    refine f_iald X hP (k := 98) (n := 8) (q := t0) rfl rfl ht dX8_isMet_26 ?_
    refine lv_icmp_gt (tgt := 34) hx hb dX8_isMet_27 (by decide) (fun c_27 => ?_) (fun c_27 => ?_)
    · refine lv_iconst (v := 0) hx hb dX8_isMet_34 (by decide) ?_
      refine f_ir X hlk hr (v := 0) rfl hP hS ?_ dX8_isMet_35
      refine ⟨rfl, ?_⟩; simp_all [bI, Int32.not_lt, Int32.not_le]
    · refine lv_iconst (v := 1) hx hb dX8_isMet_30 (by decide) ?_
      refine lv_goto (tgt := 35) hx hb dX8_isMet_31 (by decide) ?_
      refine f_ir X hlk hr (v := 1) rfl hP hS ?_ dX8_isMet_35
      refine ⟨rfl, ?_⟩; simp_all [bI, Int32.not_lt, Int32.not_le]

set_option maxHeartbeats 4000000 in
set_option maxRecDepth 100000 in
theorem c_X8_mayCome (l : Launch) (E : fE) (M : Nat → Nat → Int32) (L : Nat → Nat → Int64) (t : Int32) (q1 : Int32) (t0 : Nat) (ht : fIx t 8 t0) : Met l yX8_mayCome (wl yX8_mayCome cX8_mayCome 3 (some .boolean)) (fRm 0 0) (va_Pc [.ref (fad E 86), .int t, .int q1] (fPre E M L)) (fQi E (fun r u => u = (M, L) ∧ r = bI (decide ((M 94 t0) ≤ q1 ∧ q1 ≤ (M 95 t0))))) 0 0 (fA E) := by
  refine f_head (by decide) (Nat.le_of_ble_eq_true rfl) ?_
  intro pg ev s mi below meth cd ls X hr hlk hP hS hl
  have hx := X.1.1
  have hb := X.1.2.1
  have hl : lv_has ls 3 [(0, .ref (fad E 86)), (1, .int t), (2, .int q1)] := hl
  refine lv_iload_n hx hb dX8_mayCome_0 rfl (lv_at hl 2 rfl) ?_
  refine lv_aload_n hx hb dX8_mayCome_1 rfl (lv_at hl 0 rfl) ?_
  refine f_get X hP (T := TX8) (ci := 8) (k := 86) rfl inX8 rfl 15 (by decide) m_4_189 rfl (v := .ref (fad E 94)) rfl dX8_mayCome_2 ?_
  refine lv_iload_n hx hb dX8_mayCome_5 rfl (lv_at hl 1 rfl) ?_
  refine f_iald X hP (k := 94) (n := 8) (q := t0) rfl rfl ht dX8_mayCome_6 ?_
  refine lv_icmp_lt (tgt := 24) hx hb dX8_mayCome_7 (by decide) (fun c_7 => ?_) (fun c_7 => ?_)
  · refine lv_iconst (v := 0) hx hb dX8_mayCome_24 (by decide) ?_
    refine f_ir X hlk hr (v := 0) rfl hP hS ?_ dX8_mayCome_25
    refine ⟨rfl, ?_⟩; first | exact (bIe (by intro h; (simp only [Int32.lt_iff_toInt_lt, Int32.le_iff_toInt_le, ← Int32.toInt_inj] at *; omega))).symm | exact (bIt (by (simp only [Int32.lt_iff_toInt_lt, Int32.le_iff_toInt_le, ← Int32.toInt_inj] at *; omega))).symm
  · refine lv_iload_n hx hb dX8_mayCome_10 rfl (lv_at hl 2 rfl) ?_
    refine lv_aload_n hx hb dX8_mayCome_11 rfl (lv_at hl 0 rfl) ?_
    refine f_get X hP (T := TX8) (ci := 8) (k := 86) rfl inX8 rfl 16 (by decide) m_4_190 rfl (v := .ref (fad E 95)) rfl dX8_mayCome_12 ?_
    refine lv_iload_n hx hb dX8_mayCome_15 rfl (lv_at hl 1 rfl) ?_
    refine f_iald X hP (k := 95) (n := 8) (q := t0) rfl rfl ht dX8_mayCome_16 ?_
    refine lv_icmp_gt (tgt := 24) hx hb dX8_mayCome_17 (by decide) (fun c_17 => ?_) (fun c_17 => ?_)
    · refine lv_iconst (v := 0) hx hb dX8_mayCome_24 (by decide) ?_
      refine f_ir X hlk hr (v := 0) rfl hP hS ?_ dX8_mayCome_25
      refine ⟨rfl, ?_⟩; first | exact (bIe (by intro h; (simp only [Int32.lt_iff_toInt_lt, Int32.le_iff_toInt_le, ← Int32.toInt_inj] at *; omega))).symm | exact (bIt (by (simp only [Int32.lt_iff_toInt_lt, Int32.le_iff_toInt_le, ← Int32.toInt_inj] at *; omega))).symm
    · refine lv_iconst (v := 1) hx hb dX8_mayCome_20 (by decide) ?_
      refine lv_goto (tgt := 25) hx hb dX8_mayCome_21 (by decide) ?_
      refine f_ir X hlk hr (v := 1) rfl hP hS ?_ dX8_mayCome_25
      refine ⟨rfl, ?_⟩; first | exact (bIe (by intro h; (simp only [Int32.lt_iff_toInt_lt, Int32.le_iff_toInt_le, ← Int32.toInt_inj] at *; omega))).symm | exact (bIt (by (simp only [Int32.lt_iff_toInt_lt, Int32.le_iff_toInt_le, ← Int32.toInt_inj] at *; omega))).symm

set_option maxHeartbeats 4000000 in
set_option maxRecDepth 100000 in
theorem c_X8_wrong (l : Launch) (E : fE) (M : Nat → Nat → Int32) (L : Nat → Nat → Int64) (p1 : Int32) : Met l yX8_wrong (wl yX8_wrong cX8_wrong 2 (some .boolean)) (fRm 0 0) (va_Pc [.ref (fad E 86), .int p1] (fPre E M L)) (fQi E (fun r u => u = ((up2 M 86 36 p1), L) ∧ r = 0)) 0 0 (fA E) := by
  refine f_head (by decide) (Nat.le_of_ble_eq_true rfl) ?_
  intro pg ev s mi below meth cd ls X hr hlk hP hS hl
  have hx := X.1.1
  have hb := X.1.2.1
  have hl : lv_has ls 2 [(0, .ref (fad E 86)), (1, .int p1)] := hl
  refine lv_aload_n hx hb dX8_wrong_0 rfl (lv_at hl 0 rfl) ?_
  refine lv_iload_n hx hb dX8_wrong_1 rfl (lv_at hl 1 rfl) ?_
  refine f_put X hP hS (T := TX8) (ci := 8) (k := 86) rfl inX8 rfl tyX8 tyX8_ok nmX8 36 (by decide) m_4_210 ⟨rfl, rfl⟩ rfl (v := p1) rfl rfl dX8_wrong_2 (fun H locs hP hS => ?_)
  refine lv_iconst (v := 0) hx hb dX8_wrong_5 (by decide) ?_
  exact f_ir X hlk hr (v := 0) rfl hP hS ⟨rfl, rfl⟩ dX8_wrong_6

def a_X8_fault (M : Nat → Nat → Int32) (L : Nat → Nat → Int64) : Int32 := (M 86 7)
set_option maxHeartbeats 1000000 in
set_option maxRecDepth 100000 in
theorem c_X8_fault (l : Launch) (E : fE) (M : Nat → Nat → Int32) (L : Nat → Nat → Int64) : Met l yX8_fault (wl yX8_fault cX8_fault 1 (some .int)) (fRm 0 0) (va_Pc [.ref (fad E 86)] (fPre E M L)) (fQi E (fun r u => u = (M, L) ∧ r = (a_X8_fault M L))) 0 0 (fA E) := by
  refine f_head (by decide) (Nat.le_of_ble_eq_true rfl) ?_
  intro pg ev s mi below meth cd ls X hr hlk hP hS hl
  have hx := X.1.1
  have hb := X.1.2.1
  have hl : lv_has ls 1 [(0, .ref (fad E 86))] := hl
  refine lv_aload_n hx hb dX8_fault_0 rfl (lv_at hl 0 rfl) ?_
  refine f_get X hP (T := TX8) (ci := 8) (k := 86) rfl inX8 rfl 7 (by decide) m_4_181 rfl (v := .int (M 86 7)) rfl dX8_fault_1 ?_
  refine f_ir X hlk hr (v := (M 86 7)) rfl hP hS ?_ dX8_fault_4
  unfold a_X8_fault
  (try dsimp only)
  first
    | done
    | exact ⟨rfl, rfl⟩
    | rfl
    | (simp only [if_true, if_false, and_self, and_true, true_and, not_true_eq_false, not_false_eq_true, and_false, false_and, or_true, true_or, or_false, false_or, or_self, Bool.false_eq_true, reduceCtorEq, nl10, nl20, nl30, nl40, nl50, nl60, nl70, nl12, nl13, nl21, nl23, nl31, nl32]; first | done | exact ⟨rfl, rfl⟩ | rfl)
    | contradiction
    | (simp only [if_true, if_false, and_self, and_true, true_and, not_true_eq_false, not_false_eq_true, and_false, false_and, or_true, true_or, or_false, false_or, or_self, Bool.false_eq_true, reduceCtorEq, nl10, nl20, nl30, nl40, nl50, nl60, nl70, nl12, nl13, nl21, nl23, nl31, nl32]; contradiction)
    | (exfalso; simp_all; done)
    | simp_all

def a_X8_seed (M : Nat → Nat → Int32) (L : Nat → Nat → Int64) (v : Int32) : fR := ((M 86 6), (up2 M 86 6 v), L)
set_option maxHeartbeats 1000000 in
set_option maxRecDepth 100000 in
theorem c_X8_seed (l : Launch) (E : fE) (M : Nat → Nat → Int32) (L : Nat → Nat → Int64) (v : Int32) : Met l yX8_seed (wl yX8_seed cX8_seed 3 (some .int)) (fRm 0 0) (va_Pc [.ref (fad E 86), .int v] (fPre E M L)) (fQi E (fun r u => u = ((a_X8_seed M L v).2.1, L) ∧ r = (a_X8_seed M L v).1)) 0 0 (fA E) := by
  refine f_head (by decide) (Nat.le_of_ble_eq_true rfl) ?_
  intro pg ev s mi below meth cd ls X hr hlk hP hS hl
  have hx := X.1.1
  have hb := X.1.2.1
  have hl : lv_has ls 3 [(0, .ref (fad E 86)), (1, .int v)] := hl
  refine lv_aload_n hx hb dX8_seed_0 rfl (lv_at hl 0 rfl) ?_
  refine f_get X hP (T := TX8) (ci := 8) (k := 86) rfl inX8 rfl 6 (by decide) m_4_180 rfl (v := .int (M 86 6)) rfl dX8_seed_1 ?_
  refine lv_istore_n (lv' := [(2, .int (M 86 6)), (0, .ref (fad E 86)), (1, .int v)]) hx hb dX8_seed_4 rfl hl (by decide) rfl (fun ls hl => ?_)
  refine lv_aload_n hx hb dX8_seed_5 rfl (lv_at hl 1 rfl) ?_
  refine lv_iload_n hx hb dX8_seed_6 rfl (lv_at hl 2 rfl) ?_
  refine f_put X hP hS (T := TX8) (ci := 8) (k := 86) rfl inX8 rfl tyX8 tyX8_ok nmX8 6 (by decide) m_4_180 ⟨rfl, rfl⟩ rfl (v := v) rfl rfl dX8_seed_7 (fun H locs hP hS => ?_)
  refine lv_iload_n hx hb dX8_seed_10 rfl (lv_at hl 0 rfl) ?_
  refine f_ir X hlk hr (v := (M 86 6)) rfl hP hS ?_ dX8_seed_11
  unfold a_X8_seed
  (try dsimp only)
  first
    | done
    | exact ⟨rfl, rfl⟩
    | rfl
    | (simp only [if_true, if_false, and_self, and_true, true_and, not_true_eq_false, not_false_eq_true, and_false, false_and, or_true, true_or, or_false, false_or, or_self, Bool.false_eq_true, reduceCtorEq, nl10, nl20, nl30, nl40, nl50, nl60, nl70, nl12, nl13, nl21, nl23, nl31, nl32]; first | done | exact ⟨rfl, rfl⟩ | rfl)
    | contradiction
    | (simp only [if_true, if_false, and_self, and_true, true_and, not_true_eq_false, not_false_eq_true, and_false, false_and, or_true, true_or, or_false, false_or, or_self, Bool.false_eq_true, reduceCtorEq, nl10, nl20, nl30, nl40, nl50, nl60, nl70, nl12, nl13, nl21, nl23, nl31, nl32]; contradiction)
    | (exfalso; simp_all; done)
    | simp_all

def a_X8_draw (M : Nat → Nat → Int32) (L : Nat → Nat → Int64) (n : Int32) : fR := (((ush (((M 86 6) * 1103515245) + 12345) 16) - (ush (((M 86 6) * 1103515245) + 12345) 16) / n * n), (up2 M 86 6 (((M 86 6) * 1103515245) + 12345)), L)
set_option maxHeartbeats 1000000 in
set_option maxRecDepth 100000 in
theorem c_X8_draw (l : Launch) (E : fE) (M : Nat → Nat → Int32) (L : Nat → Nat → Int64) (n : Int32) (hn : n ≠ 0) : Met l yX8_draw (wl yX8_draw cX8_draw 2 (some .int)) (fRm 0 0) (va_Pc [.ref (fad E 86), .int n] (fPre E M L)) (fQi E (fun r u => u = ((a_X8_draw M L n).2.1, L) ∧ r = (a_X8_draw M L n).1)) 0 0 (fA E) := by
  refine f_head (by decide) (Nat.le_of_ble_eq_true rfl) ?_
  intro pg ev s mi below meth cd ls X hr hlk hP hS hl
  have hx := X.1.1
  have hb := X.1.2.1
  have hl : lv_has ls 2 [(0, .ref (fad E 86)), (1, .int n)] := hl
  refine lv_aload_n hx hb dX8_draw_0 rfl (lv_at hl 0 rfl) ?_
  refine lv_aload_n hx hb dX8_draw_1 rfl (lv_at hl 0 rfl) ?_
  refine f_get X hP (T := TX8) (ci := 8) (k := 86) rfl inX8 rfl 6 (by decide) m_4_180 rfl (v := .int (M 86 6)) rfl dX8_draw_2 ?_
  refine lv_ldcw (v := 1103515245) hx hb X.1.2.2.2.1 (X.ht m_6_100) dX8_draw_5 ?_
  refine lv_imul hx hb dX8_draw_8 ?_
  refine lv_sipush (v := 12345) hx hb dX8_draw_9 (by decide) ?_
  refine lv_iadd hx hb dX8_draw_12 ?_
  refine f_put X hP hS (T := TX8) (ci := 8) (k := 86) rfl inX8 rfl tyX8 tyX8_ok nmX8 6 (by decide) m_4_180 ⟨rfl, rfl⟩ rfl (v := (((M 86 6) * 1103515245) + 12345)) rfl rfl dX8_draw_13 (fun H locs hP hS => ?_)
  refine lv_aload_n hx hb dX8_draw_16 rfl (lv_at hl 0 rfl) ?_
  refine f_get X hP (T := TX8) (ci := 8) (k := 86) rfl inX8 rfl 6 (by decide) m_4_180 rfl (v := .int (((M 86 6) * 1103515245) + 12345)) (congrArg Value.int (up2_s _ _ _ _)) dX8_draw_17 ?_
  refine lv_bipush (v := 16) hx hb dX8_draw_20 (by decide) ?_
  refine lv_iushr (v := (ush (((M 86 6) * 1103515245) + 12345) 16)) hx hb dX8_draw_22 rfl ?_
  refine lv_iload_n hx hb dX8_draw_23 rfl (lv_at hl 1 rfl) ?_
  refine lv_irem hx hb dX8_draw_24 hn ?_
  refine f_ir X hlk hr (v := ((ush (((M 86 6) * 1103515245) + 12345) 16) - (ush (((M 86 6) * 1103515245) + 12345) 16) / n * n)) rfl hP hS ?_ dX8_draw_25
  unfold a_X8_draw
  (try dsimp only)
  first
    | done
    | exact ⟨rfl, rfl⟩
    | rfl
    | (simp only [if_true, if_false, and_self, and_true, true_and, not_true_eq_false, not_false_eq_true, and_false, false_and, or_true, true_or, or_false, false_or, or_self, Bool.false_eq_true, reduceCtorEq, nl10, nl20, nl30, nl40, nl50, nl60, nl70, nl12, nl13, nl21, nl23, nl31, nl32]; first | done | exact ⟨rfl, rfl⟩ | rfl)
    | contradiction
    | (simp only [if_true, if_false, and_self, and_true, true_and, not_true_eq_false, not_false_eq_true, and_false, false_and, or_true, true_or, or_false, false_or, or_self, Bool.false_eq_true, reduceCtorEq, nl10, nl20, nl30, nl40, nl50, nl60, nl70, nl12, nl13, nl21, nl23, nl31, nl32]; contradiction)
    | (exfalso; simp_all; done)
    | simp_all

def a_X8_ask (M : Nat → Nat → Int32) (L : Nat → Nat → Int64) (v : Int32) : fR := (if (0 ≤ v ∧ v ≤ 9) then ((M 86 2), (up2 M 86 2 v), L) else ((-6), (noM M (-6)), L))
set_option maxHeartbeats 1000000 in
set_option maxRecDepth 100000 in
theorem c_X8_ask (l : Launch) (E : fE) (M : Nat → Nat → Int32) (L : Nat → Nat → Int64) (v : Int32) : Met l yX8_ask (wl yX8_ask cX8_ask 3 (some .int)) (fRm 1 23) (va_Pc [.ref (fad E 86), .int v] (fPre E M L)) (fQi E (fun r u => u = ((a_X8_ask M L v).2.1, L) ∧ r = (a_X8_ask M L v).1)) 0 0 (fA E) := by
  refine f_head (by decide) (Nat.le_of_ble_eq_true rfl) ?_
  intro pg ev s mi below meth cd ls X hr hlk hP hS hl
  have hx := X.1.1
  have hb := X.1.2.1
  have hl : lv_has ls 3 [(0, .ref (fad E 86)), (1, .int v)] := hl
  refine lv_aload_n hx hb dX8_ask_0 rfl (lv_at hl 0 rfl) ?_
  refine lv_iload_n hx hb dX8_ask_1 rfl (lv_at hl 1 rfl) ?_
  refine lv_iconst (v := 0) hx hb dX8_ask_2 (by decide) ?_
  refine lv_bipush (v := 9) hx hb dX8_ask_3 (by decide) ?_
  refine f_iV (n := 3) X hP hS [.int v, .int 0, .int 9] [] (c_X8_isFrom l E M L v 0 9) m_5_120 wi_X8_isFrom rfl rfl (by decide) (by decide +kernel) ⟨Nat.le_of_ble_eq_true rfl, Nat.le_of_ble_eq_true rfl⟩ rfl hl rfl (Nat.le_of_ble_eq_true rfl) ⟨Nat.zero_le _, Nat.zero_le _⟩ dX8_ask_5 (fun H locs hP hS => ?_)
  refine lv_if_ne (tgt := 18) hx hb dX8_ask_8 (by decide) (fun c_8 => ?_) (fun c_8 => ?_)
  · have c_8 := bI1 c_8
    refine lv_aload_n hx hb dX8_ask_18 rfl (lv_at hl 0 rfl) ?_
    refine f_get X hP (T := TX8) (ci := 8) (k := 86) rfl inX8 rfl 2 (by decide) m_4_176 rfl (v := .int (M 86 2)) rfl dX8_ask_19 ?_
    refine lv_istore_n (lv' := [(2, .int (M 86 2)), (0, .ref (fad E 86)), (1, .int v)]) hx hb dX8_ask_22 rfl hl (by decide) rfl (fun ls hl => ?_)
    refine lv_aload_n hx hb dX8_ask_23 rfl (lv_at hl 1 rfl) ?_
    refine lv_iload_n hx hb dX8_ask_24 rfl (lv_at hl 2 rfl) ?_
    refine f_put X hP hS (T := TX8) (ci := 8) (k := 86) rfl inX8 rfl tyX8 tyX8_ok nmX8 2 (by decide) m_4_176 ⟨rfl, rfl⟩ rfl (v := v) rfl rfl dX8_ask_25 (fun H locs hP hS => ?_)
    refine lv_iload_n hx hb dX8_ask_28 rfl (lv_at hl 0 rfl) ?_
    refine f_ir X hlk hr (v := (M 86 2)) rfl hP hS ?_ dX8_ask_29
    unfold a_X8_ask
    (first | rw [if_pos c_8] | rw [if_neg c_8] | rw [if_neg (Bool.eq_false_iff.mp c_8)] | skip)
    (try dsimp only)
    first
      | done
      | exact ⟨rfl, rfl⟩
      | rfl
      | (simp only [c_8, if_true, if_false, and_self, and_true, true_and, not_true_eq_false, not_false_eq_true, and_false, false_and, or_true, true_or, or_false, false_or, or_self, Bool.false_eq_true, reduceCtorEq, nl10, nl20, nl30, nl40, nl50, nl60, nl70, nl12, nl13, nl21, nl23, nl31, nl32]; first | done | exact ⟨rfl, rfl⟩ | rfl)
      | contradiction
      | (simp only [c_8, if_true, if_false, and_self, and_true, true_and, not_true_eq_false, not_false_eq_true, and_false, false_and, or_true, true_or, or_false, false_or, or_self, Bool.false_eq_true, reduceCtorEq, nl10, nl20, nl30, nl40, nl50, nl60, nl70, nl12, nl13, nl21, nl23, nl31, nl32]; contradiction)
      | (exfalso; simp_all; done)
      | simp_all
  · have c_8 := bI0 c_8
    refine lv_aload_n hx hb dX8_ask_11 rfl (lv_at hl 0 rfl) ?_
    refine lv_bipush (v := (-6)) hx hb dX8_ask_12 (by decide) ?_
    refine f_iV (n := 1) X hP hS [.int (-6)] [] (c_X8_no l E M L (-6) (by decide)) m_5_84 wi_X8_no rfl rfl (by decide) (by decide +kernel) ⟨Nat.le_of_ble_eq_true rfl, Nat.le_of_ble_eq_true rfl⟩ rfl hl rfl (Nat.le_of_ble_eq_true rfl) ⟨Nat.zero_le _, Nat.zero_le _⟩ dX8_ask_14 (fun H locs hP hS => ?_)
    refine f_ir X hlk hr (v := (-6)) rfl hP hS ?_ dX8_ask_17
    unfold a_X8_ask
    (first | rw [if_pos c_8] | rw [if_neg c_8] | rw [if_neg (Bool.eq_false_iff.mp c_8)] | skip)
    (try dsimp only)
    first
      | done
      | exact ⟨rfl, rfl⟩
      | rfl
      | (simp only [c_8, if_true, if_false, and_self, and_true, true_and, not_true_eq_false, not_false_eq_true, and_false, false_and, or_true, true_or, or_false, false_or, or_self, Bool.false_eq_true, reduceCtorEq, nl10, nl20, nl30, nl40, nl50, nl60, nl70, nl12, nl13, nl21, nl23, nl31, nl32]; first | done | exact ⟨rfl, rfl⟩ | rfl)
      | contradiction
      | (simp only [c_8, if_true, if_false, and_self, and_true, true_and, not_true_eq_false, not_false_eq_true, and_false, false_and, or_true, true_or, or_false, false_or, or_self, Bool.false_eq_true, reduceCtorEq, nl10, nl20, nl30, nl40, nl50, nl60, nl70, nl12, nl13, nl21, nl23, nl31, nl32]; contradiction)
      | (exfalso; simp_all; done)
      | simp_all

def a_X8_status (M : Nat → Nat → Int32) (L : Nat → Nat → Int64) (what : Int32) : Int32 := (if what < 11 then (if what = 0 then (M 86 0) else (if what = 1 then (M 86 1) else (if what = 2 then (M 86 2) else (if what = 3 then (M 86 3) else (if what = 4 then (M 86 4) else (if what = 5 then (M 86 5) else (if what = 6 then (M 86 6) else (if what = 7 then (M 86 45) else (-1))))))))) else (if 17 < what then (if what = 0 then (M 86 0) else (if what = 1 then (M 86 1) else (if what = 2 then (M 86 2) else (if what = 3 then (M 86 3) else (if what = 4 then (M 86 4) else (if what = 5 then (M 86 5) else (if what = 6 then (M 86 6) else (if what = 7 then (M 86 45) else (-1))))))))) else (M 87 ((what - 10).toNatClampNeg))))
set_option maxHeartbeats 1000000 in
set_option maxRecDepth 100000 in
theorem c_X8_status (l : Launch) (E : fE) (M : Nat → Nat → Int32) (L : Nat → Nat → Int64) (what : Int32) : Met l yX8_status (wl yX8_status cX8_status 2 (some .int)) (fRm 0 0) (va_Pc [.ref (fad E 86), .int what] (fPre E M L)) (fQi E (fun r u => u = (M, L) ∧ r = (a_X8_status M L what))) 0 0 (fA E) := by
  refine f_head (by decide) (Nat.le_of_ble_eq_true rfl) ?_
  intro pg ev s mi below meth cd ls X hr hlk hP hS hl
  have hx := X.1.1
  have hb := X.1.2.1
  have hl : lv_has ls 2 [(0, .ref (fad E 86)), (1, .int what)] := hl
  refine lv_iload_n hx hb dX8_status_0 rfl (lv_at hl 1 rfl) ?_
  refine lv_bipush (v := 11) hx hb dX8_status_1 (by decide) ?_
  refine lv_icmp_lt (tgt := 22) hx hb dX8_status_3 (by decide) (fun c_3 => ?_) (fun c_3 => ?_)
  · refine lv_iload_n hx hb dX8_status_22 rfl (lv_at hl 1 rfl) ?_
    by_cases s_23_0 : what = 0
    · refine lv_tableIn (tgt := 68) hx hb dX8_status_23 (by rw [s_23_0]; decide) (by rw [s_23_0]; decide) (by rw [s_23_0]; rfl) (by decide) ?_
      refine lv_aload_n hx hb dX8_status_68 rfl (lv_at hl 0 rfl) ?_
      refine f_get X hP (T := TX8) (ci := 8) (k := 86) rfl inX8 rfl 0 (by decide) m_4_174 rfl (v := .int (M 86 0)) rfl dX8_status_69 ?_
      refine f_ir X hlk hr (v := (M 86 0)) rfl hP hS ?_ dX8_status_72
      unfold a_X8_status
      (first | rw [if_pos c_3] | rw [if_neg c_3] | rw [if_neg (Bool.eq_false_iff.mp c_3)] | skip)
      (first | rw [if_pos s_23_0] | rw [if_neg s_23_0] | rw [if_neg (Bool.eq_false_iff.mp s_23_0)] | skip)
      (try dsimp only)
      first
        | done
        | exact ⟨rfl, rfl⟩
        | rfl
        | (simp only [c_3, s_23_0, if_true, if_false, and_self, and_true, true_and, not_true_eq_false, not_false_eq_true, and_false, false_and, or_true, true_or, or_false, false_or, or_self, Bool.false_eq_true, reduceCtorEq, nl10, nl20, nl30, nl40, nl50, nl60, nl70, nl12, nl13, nl21, nl23, nl31, nl32]; first | done | exact ⟨rfl, rfl⟩ | rfl)
        | contradiction
        | (simp only [c_3, s_23_0, if_true, if_false, and_self, and_true, true_and, not_true_eq_false, not_false_eq_true, and_false, false_and, or_true, true_or, or_false, false_or, or_self, Bool.false_eq_true, reduceCtorEq, nl10, nl20, nl30, nl40, nl50, nl60, nl70, nl12, nl13, nl21, nl23, nl31, nl32]; contradiction)
        | (exfalso; simp_all; done)
        | simp_all
    by_cases s_23_1 : what = 1
    · refine lv_tableIn (tgt := 73) hx hb dX8_status_23 (by rw [s_23_1]; decide) (by rw [s_23_1]; decide) (by rw [s_23_1]; rfl) (by decide) ?_
      refine lv_aload_n hx hb dX8_status_73 rfl (lv_at hl 0 rfl) ?_
      refine f_get X hP (T := TX8) (ci := 8) (k := 86) rfl inX8 rfl 1 (by decide) m_4_175 rfl (v := .int (M 86 1)) rfl dX8_status_74 ?_
      refine f_ir X hlk hr (v := (M 86 1)) rfl hP hS ?_ dX8_status_77
      unfold a_X8_status
      (first | rw [if_pos c_3] | rw [if_neg c_3] | rw [if_neg (Bool.eq_false_iff.mp c_3)] | skip)
      (first | rw [if_pos s_23_0] | rw [if_neg s_23_0] | rw [if_neg (Bool.eq_false_iff.mp s_23_0)] | skip)
      (first | rw [if_pos s_23_1] | rw [if_neg s_23_1] | rw [if_neg (Bool.eq_false_iff.mp s_23_1)] | skip)
      (try dsimp only)
      first
        | done
        | exact ⟨rfl, rfl⟩
        | rfl
        | (simp only [c_3, s_23_0, s_23_1, if_true, if_false, and_self, and_true, true_and, not_true_eq_false, not_false_eq_true, and_false, false_and, or_true, true_or, or_false, false_or, or_self, Bool.false_eq_true, reduceCtorEq, nl10, nl20, nl30, nl40, nl50, nl60, nl70, nl12, nl13, nl21, nl23, nl31, nl32]; first | done | exact ⟨rfl, rfl⟩ | rfl)
        | contradiction
        | (simp only [c_3, s_23_0, s_23_1, if_true, if_false, and_self, and_true, true_and, not_true_eq_false, not_false_eq_true, and_false, false_and, or_true, true_or, or_false, false_or, or_self, Bool.false_eq_true, reduceCtorEq, nl10, nl20, nl30, nl40, nl50, nl60, nl70, nl12, nl13, nl21, nl23, nl31, nl32]; contradiction)
        | (exfalso; simp_all; done)
        | simp_all
    by_cases s_23_2 : what = 2
    · refine lv_tableIn (tgt := 78) hx hb dX8_status_23 (by rw [s_23_2]; decide) (by rw [s_23_2]; decide) (by rw [s_23_2]; rfl) (by decide) ?_
      refine lv_aload_n hx hb dX8_status_78 rfl (lv_at hl 0 rfl) ?_
      refine f_get X hP (T := TX8) (ci := 8) (k := 86) rfl inX8 rfl 2 (by decide) m_4_176 rfl (v := .int (M 86 2)) rfl dX8_status_79 ?_
      refine f_ir X hlk hr (v := (M 86 2)) rfl hP hS ?_ dX8_status_82
      unfold a_X8_status
      (first | rw [if_pos c_3] | rw [if_neg c_3] | rw [if_neg (Bool.eq_false_iff.mp c_3)] | skip)
      (first | rw [if_pos s_23_0] | rw [if_neg s_23_0] | rw [if_neg (Bool.eq_false_iff.mp s_23_0)] | skip)
      (first | rw [if_pos s_23_1] | rw [if_neg s_23_1] | rw [if_neg (Bool.eq_false_iff.mp s_23_1)] | skip)
      (first | rw [if_pos s_23_2] | rw [if_neg s_23_2] | rw [if_neg (Bool.eq_false_iff.mp s_23_2)] | skip)
      (try dsimp only)
      first
        | done
        | exact ⟨rfl, rfl⟩
        | rfl
        | (simp only [c_3, s_23_0, s_23_1, s_23_2, if_true, if_false, and_self, and_true, true_and, not_true_eq_false, not_false_eq_true, and_false, false_and, or_true, true_or, or_false, false_or, or_self, Bool.false_eq_true, reduceCtorEq, nl10, nl20, nl30, nl40, nl50, nl60, nl70, nl12, nl13, nl21, nl23, nl31, nl32]; first | done | exact ⟨rfl, rfl⟩ | rfl)
        | contradiction
        | (simp only [c_3, s_23_0, s_23_1, s_23_2, if_true, if_false, and_self, and_true, true_and, not_true_eq_false, not_false_eq_true, and_false, false_and, or_true, true_or, or_false, false_or, or_self, Bool.false_eq_true, reduceCtorEq, nl10, nl20, nl30, nl40, nl50, nl60, nl70, nl12, nl13, nl21, nl23, nl31, nl32]; contradiction)
        | (exfalso; simp_all; done)
        | simp_all
    by_cases s_23_3 : what = 3
    · refine lv_tableIn (tgt := 83) hx hb dX8_status_23 (by rw [s_23_3]; decide) (by rw [s_23_3]; decide) (by rw [s_23_3]; rfl) (by decide) ?_
      refine lv_aload_n hx hb dX8_status_83 rfl (lv_at hl 0 rfl) ?_
      refine f_get X hP (T := TX8) (ci := 8) (k := 86) rfl inX8 rfl 3 (by decide) m_4_177 rfl (v := .int (M 86 3)) rfl dX8_status_84 ?_
      refine f_ir X hlk hr (v := (M 86 3)) rfl hP hS ?_ dX8_status_87
      unfold a_X8_status
      (first | rw [if_pos c_3] | rw [if_neg c_3] | rw [if_neg (Bool.eq_false_iff.mp c_3)] | skip)
      (first | rw [if_pos s_23_0] | rw [if_neg s_23_0] | rw [if_neg (Bool.eq_false_iff.mp s_23_0)] | skip)
      (first | rw [if_pos s_23_1] | rw [if_neg s_23_1] | rw [if_neg (Bool.eq_false_iff.mp s_23_1)] | skip)
      (first | rw [if_pos s_23_2] | rw [if_neg s_23_2] | rw [if_neg (Bool.eq_false_iff.mp s_23_2)] | skip)
      (first | rw [if_pos s_23_3] | rw [if_neg s_23_3] | rw [if_neg (Bool.eq_false_iff.mp s_23_3)] | skip)
      (try dsimp only)
      first
        | done
        | exact ⟨rfl, rfl⟩
        | rfl
        | (simp only [c_3, s_23_0, s_23_1, s_23_2, s_23_3, if_true, if_false, and_self, and_true, true_and, not_true_eq_false, not_false_eq_true, and_false, false_and, or_true, true_or, or_false, false_or, or_self, Bool.false_eq_true, reduceCtorEq, nl10, nl20, nl30, nl40, nl50, nl60, nl70, nl12, nl13, nl21, nl23, nl31, nl32]; first | done | exact ⟨rfl, rfl⟩ | rfl)
        | contradiction
        | (simp only [c_3, s_23_0, s_23_1, s_23_2, s_23_3, if_true, if_false, and_self, and_true, true_and, not_true_eq_false, not_false_eq_true, and_false, false_and, or_true, true_or, or_false, false_or, or_self, Bool.false_eq_true, reduceCtorEq, nl10, nl20, nl30, nl40, nl50, nl60, nl70, nl12, nl13, nl21, nl23, nl31, nl32]; contradiction)
        | (exfalso; simp_all; done)
        | simp_all
    by_cases s_23_4 : what = 4
    · refine lv_tableIn (tgt := 88) hx hb dX8_status_23 (by rw [s_23_4]; decide) (by rw [s_23_4]; decide) (by rw [s_23_4]; rfl) (by decide) ?_
      refine lv_aload_n hx hb dX8_status_88 rfl (lv_at hl 0 rfl) ?_
      refine f_get X hP (T := TX8) (ci := 8) (k := 86) rfl inX8 rfl 4 (by decide) m_4_178 rfl (v := .int (M 86 4)) rfl dX8_status_89 ?_
      refine f_ir X hlk hr (v := (M 86 4)) rfl hP hS ?_ dX8_status_92
      unfold a_X8_status
      (first | rw [if_pos c_3] | rw [if_neg c_3] | rw [if_neg (Bool.eq_false_iff.mp c_3)] | skip)
      (first | rw [if_pos s_23_0] | rw [if_neg s_23_0] | rw [if_neg (Bool.eq_false_iff.mp s_23_0)] | skip)
      (first | rw [if_pos s_23_1] | rw [if_neg s_23_1] | rw [if_neg (Bool.eq_false_iff.mp s_23_1)] | skip)
      (first | rw [if_pos s_23_2] | rw [if_neg s_23_2] | rw [if_neg (Bool.eq_false_iff.mp s_23_2)] | skip)
      (first | rw [if_pos s_23_3] | rw [if_neg s_23_3] | rw [if_neg (Bool.eq_false_iff.mp s_23_3)] | skip)
      (first | rw [if_pos s_23_4] | rw [if_neg s_23_4] | rw [if_neg (Bool.eq_false_iff.mp s_23_4)] | skip)
      (try dsimp only)
      first
        | done
        | exact ⟨rfl, rfl⟩
        | rfl
        | (simp only [c_3, s_23_0, s_23_1, s_23_2, s_23_3, s_23_4, if_true, if_false, and_self, and_true, true_and, not_true_eq_false, not_false_eq_true, and_false, false_and, or_true, true_or, or_false, false_or, or_self, Bool.false_eq_true, reduceCtorEq, nl10, nl20, nl30, nl40, nl50, nl60, nl70, nl12, nl13, nl21, nl23, nl31, nl32]; first | done | exact ⟨rfl, rfl⟩ | rfl)
        | contradiction
        | (simp only [c_3, s_23_0, s_23_1, s_23_2, s_23_3, s_23_4, if_true, if_false, and_self, and_true, true_and, not_true_eq_false, not_false_eq_true, and_false, false_and, or_true, true_or, or_false, false_or, or_self, Bool.false_eq_true, reduceCtorEq, nl10, nl20, nl30, nl40, nl50, nl60, nl70, nl12, nl13, nl21, nl23, nl31, nl32]; contradiction)
        | (exfalso; simp_all; done)
        | simp_all
    by_cases s_23_5 : what = 5
    · refine lv_tableIn (tgt := 93) hx hb dX8_status_23 (by rw [s_23_5]; decide) (by rw [s_23_5]; decide) (by rw [s_23_5]; rfl) (by decide) ?_
      refine lv_aload_n hx hb dX8_status_93 rfl (lv_at hl 0 rfl) ?_
      refine f_get X hP (T := TX8) (ci := 8) (k := 86) rfl inX8 rfl 5 (by decide) m_4_179 rfl (v := .int (M 86 5)) rfl dX8_status_94 ?_
      refine f_ir X hlk hr (v := (M 86 5)) rfl hP hS ?_ dX8_status_97
      unfold a_X8_status
      (first | rw [if_pos c_3] | rw [if_neg c_3] | rw [if_neg (Bool.eq_false_iff.mp c_3)] | skip)
      (first | rw [if_pos s_23_0] | rw [if_neg s_23_0] | rw [if_neg (Bool.eq_false_iff.mp s_23_0)] | skip)
      (first | rw [if_pos s_23_1] | rw [if_neg s_23_1] | rw [if_neg (Bool.eq_false_iff.mp s_23_1)] | skip)
      (first | rw [if_pos s_23_2] | rw [if_neg s_23_2] | rw [if_neg (Bool.eq_false_iff.mp s_23_2)] | skip)
      (first | rw [if_pos s_23_3] | rw [if_neg s_23_3] | rw [if_neg (Bool.eq_false_iff.mp s_23_3)] | skip)
      (first | rw [if_pos s_23_4] | rw [if_neg s_23_4] | rw [if_neg (Bool.eq_false_iff.mp s_23_4)] | skip)
      (first | rw [if_pos s_23_5] | rw [if_neg s_23_5] | rw [if_neg (Bool.eq_false_iff.mp s_23_5)] | skip)
      (try dsimp only)
      first
        | done
        | exact ⟨rfl, rfl⟩
        | rfl
        | (simp only [c_3, s_23_0, s_23_1, s_23_2, s_23_3, s_23_4, s_23_5, if_true, if_false, and_self, and_true, true_and, not_true_eq_false, not_false_eq_true, and_false, false_and, or_true, true_or, or_false, false_or, or_self, Bool.false_eq_true, reduceCtorEq, nl10, nl20, nl30, nl40, nl50, nl60, nl70, nl12, nl13, nl21, nl23, nl31, nl32]; first | done | exact ⟨rfl, rfl⟩ | rfl)
        | contradiction
        | (simp only [c_3, s_23_0, s_23_1, s_23_2, s_23_3, s_23_4, s_23_5, if_true, if_false, and_self, and_true, true_and, not_true_eq_false, not_false_eq_true, and_false, false_and, or_true, true_or, or_false, false_or, or_self, Bool.false_eq_true, reduceCtorEq, nl10, nl20, nl30, nl40, nl50, nl60, nl70, nl12, nl13, nl21, nl23, nl31, nl32]; contradiction)
        | (exfalso; simp_all; done)
        | simp_all
    by_cases s_23_6 : what = 6
    · refine lv_tableIn (tgt := 98) hx hb dX8_status_23 (by rw [s_23_6]; decide) (by rw [s_23_6]; decide) (by rw [s_23_6]; rfl) (by decide) ?_
      refine lv_aload_n hx hb dX8_status_98 rfl (lv_at hl 0 rfl) ?_
      refine f_get X hP (T := TX8) (ci := 8) (k := 86) rfl inX8 rfl 6 (by decide) m_4_180 rfl (v := .int (M 86 6)) rfl dX8_status_99 ?_
      refine f_ir X hlk hr (v := (M 86 6)) rfl hP hS ?_ dX8_status_102
      unfold a_X8_status
      (first | rw [if_pos c_3] | rw [if_neg c_3] | rw [if_neg (Bool.eq_false_iff.mp c_3)] | skip)
      (first | rw [if_pos s_23_0] | rw [if_neg s_23_0] | rw [if_neg (Bool.eq_false_iff.mp s_23_0)] | skip)
      (first | rw [if_pos s_23_1] | rw [if_neg s_23_1] | rw [if_neg (Bool.eq_false_iff.mp s_23_1)] | skip)
      (first | rw [if_pos s_23_2] | rw [if_neg s_23_2] | rw [if_neg (Bool.eq_false_iff.mp s_23_2)] | skip)
      (first | rw [if_pos s_23_3] | rw [if_neg s_23_3] | rw [if_neg (Bool.eq_false_iff.mp s_23_3)] | skip)
      (first | rw [if_pos s_23_4] | rw [if_neg s_23_4] | rw [if_neg (Bool.eq_false_iff.mp s_23_4)] | skip)
      (first | rw [if_pos s_23_5] | rw [if_neg s_23_5] | rw [if_neg (Bool.eq_false_iff.mp s_23_5)] | skip)
      (first | rw [if_pos s_23_6] | rw [if_neg s_23_6] | rw [if_neg (Bool.eq_false_iff.mp s_23_6)] | skip)
      (try dsimp only)
      first
        | done
        | exact ⟨rfl, rfl⟩
        | rfl
        | (simp only [c_3, s_23_0, s_23_1, s_23_2, s_23_3, s_23_4, s_23_5, s_23_6, if_true, if_false, and_self, and_true, true_and, not_true_eq_false, not_false_eq_true, and_false, false_and, or_true, true_or, or_false, false_or, or_self, Bool.false_eq_true, reduceCtorEq, nl10, nl20, nl30, nl40, nl50, nl60, nl70, nl12, nl13, nl21, nl23, nl31, nl32]; first | done | exact ⟨rfl, rfl⟩ | rfl)
        | contradiction
        | (simp only [c_3, s_23_0, s_23_1, s_23_2, s_23_3, s_23_4, s_23_5, s_23_6, if_true, if_false, and_self, and_true, true_and, not_true_eq_false, not_false_eq_true, and_false, false_and, or_true, true_or, or_false, false_or, or_self, Bool.false_eq_true, reduceCtorEq, nl10, nl20, nl30, nl40, nl50, nl60, nl70, nl12, nl13, nl21, nl23, nl31, nl32]; contradiction)
        | (exfalso; simp_all; done)
        | simp_all
    by_cases s_23_7 : what = 7
    · refine lv_tableIn (tgt := 103) hx hb dX8_status_23 (by rw [s_23_7]; decide) (by rw [s_23_7]; decide) (by rw [s_23_7]; rfl) (by decide) ?_
      refine lv_aload_n hx hb dX8_status_103 rfl (lv_at hl 0 rfl) ?_
      refine f_get X hP (T := TX8) (ci := 8) (k := 86) rfl inX8 rfl 45 (by decide) m_4_219 rfl (v := .int (M 86 45)) rfl dX8_status_104 ?_
      refine f_ir X hlk hr (v := (M 86 45)) rfl hP hS ?_ dX8_status_107
      unfold a_X8_status
      (first | rw [if_pos c_3] | rw [if_neg c_3] | rw [if_neg (Bool.eq_false_iff.mp c_3)] | skip)
      (first | rw [if_pos s_23_0] | rw [if_neg s_23_0] | rw [if_neg (Bool.eq_false_iff.mp s_23_0)] | skip)
      (first | rw [if_pos s_23_1] | rw [if_neg s_23_1] | rw [if_neg (Bool.eq_false_iff.mp s_23_1)] | skip)
      (first | rw [if_pos s_23_2] | rw [if_neg s_23_2] | rw [if_neg (Bool.eq_false_iff.mp s_23_2)] | skip)
      (first | rw [if_pos s_23_3] | rw [if_neg s_23_3] | rw [if_neg (Bool.eq_false_iff.mp s_23_3)] | skip)
      (first | rw [if_pos s_23_4] | rw [if_neg s_23_4] | rw [if_neg (Bool.eq_false_iff.mp s_23_4)] | skip)
      (first | rw [if_pos s_23_5] | rw [if_neg s_23_5] | rw [if_neg (Bool.eq_false_iff.mp s_23_5)] | skip)
      (first | rw [if_pos s_23_6] | rw [if_neg s_23_6] | rw [if_neg (Bool.eq_false_iff.mp s_23_6)] | skip)
      (first | rw [if_pos s_23_7] | rw [if_neg s_23_7] | rw [if_neg (Bool.eq_false_iff.mp s_23_7)] | skip)
      (try dsimp only)
      first
        | done
        | exact ⟨rfl, rfl⟩
        | rfl
        | (simp only [c_3, s_23_0, s_23_1, s_23_2, s_23_3, s_23_4, s_23_5, s_23_6, s_23_7, if_true, if_false, and_self, and_true, true_and, not_true_eq_false, not_false_eq_true, and_false, false_and, or_true, true_or, or_false, false_or, or_self, Bool.false_eq_true, reduceCtorEq, nl10, nl20, nl30, nl40, nl50, nl60, nl70, nl12, nl13, nl21, nl23, nl31, nl32]; first | done | exact ⟨rfl, rfl⟩ | rfl)
        | contradiction
        | (simp only [c_3, s_23_0, s_23_1, s_23_2, s_23_3, s_23_4, s_23_5, s_23_6, s_23_7, if_true, if_false, and_self, and_true, true_and, not_true_eq_false, not_false_eq_true, and_false, false_and, or_true, true_or, or_false, false_or, or_self, Bool.false_eq_true, reduceCtorEq, nl10, nl20, nl30, nl40, nl50, nl60, nl70, nl12, nl13, nl21, nl23, nl31, nl32]; contradiction)
        | (exfalso; simp_all; done)
        | simp_all
    refine lv_tableOut (tgt := 108) hx hb dX8_status_23 (by have q0 := lv_neT s_23_0 (a := 0) rfl; have q1 := lv_neT s_23_1 (a := 1) rfl; have q2 := lv_neT s_23_2 (a := 2) rfl; have q3 := lv_neT s_23_3 (a := 3) rfl; have q4 := lv_neT s_23_4 (a := 4) rfl; have q5 := lv_neT s_23_5 (a := 5) rfl; have q6 := lv_neT s_23_6 (a := 6) rfl; have q7 := lv_neT s_23_7 (a := 7) rfl; omega) (by decide) ?_
    refine lv_iconst (v := (-1)) hx hb dX8_status_108 (by decide) ?_
    refine f_ir X hlk hr (v := (-1)) rfl hP hS ?_ dX8_status_109
    unfold a_X8_status
    (first | rw [if_pos c_3] | rw [if_neg c_3] | rw [if_neg (Bool.eq_false_iff.mp c_3)] | skip)
    (first | rw [if_pos s_23_0] | rw [if_neg s_23_0] | rw [if_neg (Bool.eq_false_iff.mp s_23_0)] | skip)
    (first | rw [if_pos s_23_1] | rw [if_neg s_23_1] | rw [if_neg (Bool.eq_false_iff.mp s_23_1)] | skip)
    (first | rw [if_pos s_23_2] | rw [if_neg s_23_2] | rw [if_neg (Bool.eq_false_iff.mp s_23_2)] | skip)
    (first | rw [if_pos s_23_3] | rw [if_neg s_23_3] | rw [if_neg (Bool.eq_false_iff.mp s_23_3)] | skip)
    (first | rw [if_pos s_23_4] | rw [if_neg s_23_4] | rw [if_neg (Bool.eq_false_iff.mp s_23_4)] | skip)
    (first | rw [if_pos s_23_5] | rw [if_neg s_23_5] | rw [if_neg (Bool.eq_false_iff.mp s_23_5)] | skip)
    (first | rw [if_pos s_23_6] | rw [if_neg s_23_6] | rw [if_neg (Bool.eq_false_iff.mp s_23_6)] | skip)
    (first | rw [if_pos s_23_7] | rw [if_neg s_23_7] | rw [if_neg (Bool.eq_false_iff.mp s_23_7)] | skip)
    (try dsimp only)
    first
      | done
      | exact ⟨rfl, rfl⟩
      | rfl
      | (simp only [c_3, s_23_0, s_23_1, s_23_2, s_23_3, s_23_4, s_23_5, s_23_6, s_23_7, if_true, if_false, and_self, and_true, true_and, not_true_eq_false, not_false_eq_true, and_false, false_and, or_true, true_or, or_false, false_or, or_self, Bool.false_eq_true, reduceCtorEq, nl10, nl20, nl30, nl40, nl50, nl60, nl70, nl12, nl13, nl21, nl23, nl31, nl32]; first | done | exact ⟨rfl, rfl⟩ | rfl)
      | contradiction
      | (simp only [c_3, s_23_0, s_23_1, s_23_2, s_23_3, s_23_4, s_23_5, s_23_6, s_23_7, if_true, if_false, and_self, and_true, true_and, not_true_eq_false, not_false_eq_true, and_false, false_and, or_true, true_or, or_false, false_or, or_self, Bool.false_eq_true, reduceCtorEq, nl10, nl20, nl30, nl40, nl50, nl60, nl70, nl12, nl13, nl21, nl23, nl31, nl32]; contradiction)
      | (exfalso; simp_all; done)
      | simp_all
  · refine lv_iload_n hx hb dX8_status_6 rfl (lv_at hl 1 rfl) ?_
    refine lv_bipush (v := 17) hx hb dX8_status_7 (by decide) ?_
    refine lv_icmp_gt (tgt := 22) hx hb dX8_status_9 (by decide) (fun c_9 => ?_) (fun c_9 => ?_)
    · refine lv_iload_n hx hb dX8_status_22 rfl (lv_at hl 1 rfl) ?_
      by_cases s_23_0 : what = 0
      · refine lv_tableIn (tgt := 68) hx hb dX8_status_23 (by rw [s_23_0]; decide) (by rw [s_23_0]; decide) (by rw [s_23_0]; rfl) (by decide) ?_
        refine lv_aload_n hx hb dX8_status_68 rfl (lv_at hl 0 rfl) ?_
        refine f_get X hP (T := TX8) (ci := 8) (k := 86) rfl inX8 rfl 0 (by decide) m_4_174 rfl (v := .int (M 86 0)) rfl dX8_status_69 ?_
        refine f_ir X hlk hr (v := (M 86 0)) rfl hP hS ?_ dX8_status_72
        unfold a_X8_status
        (first | rw [if_pos c_3] | rw [if_neg c_3] | rw [if_neg (Bool.eq_false_iff.mp c_3)] | skip)
        (first | rw [if_pos c_9] | rw [if_neg c_9] | rw [if_neg (Bool.eq_false_iff.mp c_9)] | skip)
        (first | rw [if_pos s_23_0] | rw [if_neg s_23_0] | rw [if_neg (Bool.eq_false_iff.mp s_23_0)] | skip)
        (try dsimp only)
        first
          | done
          | exact ⟨rfl, rfl⟩
          | rfl
          | (simp only [c_3, c_9, s_23_0, if_true, if_false, and_self, and_true, true_and, not_true_eq_false, not_false_eq_true, and_false, false_and, or_true, true_or, or_false, false_or, or_self, Bool.false_eq_true, reduceCtorEq, nl10, nl20, nl30, nl40, nl50, nl60, nl70, nl12, nl13, nl21, nl23, nl31, nl32]; first | done | exact ⟨rfl, rfl⟩ | rfl)
          | contradiction
          | (simp only [c_3, c_9, s_23_0, if_true, if_false, and_self, and_true, true_and, not_true_eq_false, not_false_eq_true, and_false, false_and, or_true, true_or, or_false, false_or, or_self, Bool.false_eq_true, reduceCtorEq, nl10, nl20, nl30, nl40, nl50, nl60, nl70, nl12, nl13, nl21, nl23, nl31, nl32]; contradiction)
          | (exfalso; simp_all; done)
          | simp_all
      by_cases s_23_1 : what = 1
      · refine lv_tableIn (tgt := 73) hx hb dX8_status_23 (by rw [s_23_1]; decide) (by rw [s_23_1]; decide) (by rw [s_23_1]; rfl) (by decide) ?_
        refine lv_aload_n hx hb dX8_status_73 rfl (lv_at hl 0 rfl) ?_
        refine f_get X hP (T := TX8) (ci := 8) (k := 86) rfl inX8 rfl 1 (by decide) m_4_175 rfl (v := .int (M 86 1)) rfl dX8_status_74 ?_
        refine f_ir X hlk hr (v := (M 86 1)) rfl hP hS ?_ dX8_status_77
        unfold a_X8_status
        (first | rw [if_pos c_3] | rw [if_neg c_3] | rw [if_neg (Bool.eq_false_iff.mp c_3)] | skip)
        (first | rw [if_pos c_9] | rw [if_neg c_9] | rw [if_neg (Bool.eq_false_iff.mp c_9)] | skip)
        (first | rw [if_pos s_23_0] | rw [if_neg s_23_0] | rw [if_neg (Bool.eq_false_iff.mp s_23_0)] | skip)
        (first | rw [if_pos s_23_1] | rw [if_neg s_23_1] | rw [if_neg (Bool.eq_false_iff.mp s_23_1)] | skip)
        (try dsimp only)
        first
          | done
          | exact ⟨rfl, rfl⟩
          | rfl
          | (simp only [c_3, c_9, s_23_0, s_23_1, if_true, if_false, and_self, and_true, true_and, not_true_eq_false, not_false_eq_true, and_false, false_and, or_true, true_or, or_false, false_or, or_self, Bool.false_eq_true, reduceCtorEq, nl10, nl20, nl30, nl40, nl50, nl60, nl70, nl12, nl13, nl21, nl23, nl31, nl32]; first | done | exact ⟨rfl, rfl⟩ | rfl)
          | contradiction
          | (simp only [c_3, c_9, s_23_0, s_23_1, if_true, if_false, and_self, and_true, true_and, not_true_eq_false, not_false_eq_true, and_false, false_and, or_true, true_or, or_false, false_or, or_self, Bool.false_eq_true, reduceCtorEq, nl10, nl20, nl30, nl40, nl50, nl60, nl70, nl12, nl13, nl21, nl23, nl31, nl32]; contradiction)
          | (exfalso; simp_all; done)
          | simp_all
      by_cases s_23_2 : what = 2
      · refine lv_tableIn (tgt := 78) hx hb dX8_status_23 (by rw [s_23_2]; decide) (by rw [s_23_2]; decide) (by rw [s_23_2]; rfl) (by decide) ?_
        refine lv_aload_n hx hb dX8_status_78 rfl (lv_at hl 0 rfl) ?_
        refine f_get X hP (T := TX8) (ci := 8) (k := 86) rfl inX8 rfl 2 (by decide) m_4_176 rfl (v := .int (M 86 2)) rfl dX8_status_79 ?_
        refine f_ir X hlk hr (v := (M 86 2)) rfl hP hS ?_ dX8_status_82
        unfold a_X8_status
        (first | rw [if_pos c_3] | rw [if_neg c_3] | rw [if_neg (Bool.eq_false_iff.mp c_3)] | skip)
        (first | rw [if_pos c_9] | rw [if_neg c_9] | rw [if_neg (Bool.eq_false_iff.mp c_9)] | skip)
        (first | rw [if_pos s_23_0] | rw [if_neg s_23_0] | rw [if_neg (Bool.eq_false_iff.mp s_23_0)] | skip)
        (first | rw [if_pos s_23_1] | rw [if_neg s_23_1] | rw [if_neg (Bool.eq_false_iff.mp s_23_1)] | skip)
        (first | rw [if_pos s_23_2] | rw [if_neg s_23_2] | rw [if_neg (Bool.eq_false_iff.mp s_23_2)] | skip)
        (try dsimp only)
        first
          | done
          | exact ⟨rfl, rfl⟩
          | rfl
          | (simp only [c_3, c_9, s_23_0, s_23_1, s_23_2, if_true, if_false, and_self, and_true, true_and, not_true_eq_false, not_false_eq_true, and_false, false_and, or_true, true_or, or_false, false_or, or_self, Bool.false_eq_true, reduceCtorEq, nl10, nl20, nl30, nl40, nl50, nl60, nl70, nl12, nl13, nl21, nl23, nl31, nl32]; first | done | exact ⟨rfl, rfl⟩ | rfl)
          | contradiction
          | (simp only [c_3, c_9, s_23_0, s_23_1, s_23_2, if_true, if_false, and_self, and_true, true_and, not_true_eq_false, not_false_eq_true, and_false, false_and, or_true, true_or, or_false, false_or, or_self, Bool.false_eq_true, reduceCtorEq, nl10, nl20, nl30, nl40, nl50, nl60, nl70, nl12, nl13, nl21, nl23, nl31, nl32]; contradiction)
          | (exfalso; simp_all; done)
          | simp_all
      by_cases s_23_3 : what = 3
      · refine lv_tableIn (tgt := 83) hx hb dX8_status_23 (by rw [s_23_3]; decide) (by rw [s_23_3]; decide) (by rw [s_23_3]; rfl) (by decide) ?_
        refine lv_aload_n hx hb dX8_status_83 rfl (lv_at hl 0 rfl) ?_
        refine f_get X hP (T := TX8) (ci := 8) (k := 86) rfl inX8 rfl 3 (by decide) m_4_177 rfl (v := .int (M 86 3)) rfl dX8_status_84 ?_
        refine f_ir X hlk hr (v := (M 86 3)) rfl hP hS ?_ dX8_status_87
        unfold a_X8_status
        (first | rw [if_pos c_3] | rw [if_neg c_3] | rw [if_neg (Bool.eq_false_iff.mp c_3)] | skip)
        (first | rw [if_pos c_9] | rw [if_neg c_9] | rw [if_neg (Bool.eq_false_iff.mp c_9)] | skip)
        (first | rw [if_pos s_23_0] | rw [if_neg s_23_0] | rw [if_neg (Bool.eq_false_iff.mp s_23_0)] | skip)
        (first | rw [if_pos s_23_1] | rw [if_neg s_23_1] | rw [if_neg (Bool.eq_false_iff.mp s_23_1)] | skip)
        (first | rw [if_pos s_23_2] | rw [if_neg s_23_2] | rw [if_neg (Bool.eq_false_iff.mp s_23_2)] | skip)
        (first | rw [if_pos s_23_3] | rw [if_neg s_23_3] | rw [if_neg (Bool.eq_false_iff.mp s_23_3)] | skip)
        (try dsimp only)
        first
          | done
          | exact ⟨rfl, rfl⟩
          | rfl
          | (simp only [c_3, c_9, s_23_0, s_23_1, s_23_2, s_23_3, if_true, if_false, and_self, and_true, true_and, not_true_eq_false, not_false_eq_true, and_false, false_and, or_true, true_or, or_false, false_or, or_self, Bool.false_eq_true, reduceCtorEq, nl10, nl20, nl30, nl40, nl50, nl60, nl70, nl12, nl13, nl21, nl23, nl31, nl32]; first | done | exact ⟨rfl, rfl⟩ | rfl)
          | contradiction
          | (simp only [c_3, c_9, s_23_0, s_23_1, s_23_2, s_23_3, if_true, if_false, and_self, and_true, true_and, not_true_eq_false, not_false_eq_true, and_false, false_and, or_true, true_or, or_false, false_or, or_self, Bool.false_eq_true, reduceCtorEq, nl10, nl20, nl30, nl40, nl50, nl60, nl70, nl12, nl13, nl21, nl23, nl31, nl32]; contradiction)
          | (exfalso; simp_all; done)
          | simp_all
      by_cases s_23_4 : what = 4
      · refine lv_tableIn (tgt := 88) hx hb dX8_status_23 (by rw [s_23_4]; decide) (by rw [s_23_4]; decide) (by rw [s_23_4]; rfl) (by decide) ?_
        refine lv_aload_n hx hb dX8_status_88 rfl (lv_at hl 0 rfl) ?_
        refine f_get X hP (T := TX8) (ci := 8) (k := 86) rfl inX8 rfl 4 (by decide) m_4_178 rfl (v := .int (M 86 4)) rfl dX8_status_89 ?_
        refine f_ir X hlk hr (v := (M 86 4)) rfl hP hS ?_ dX8_status_92
        unfold a_X8_status
        (first | rw [if_pos c_3] | rw [if_neg c_3] | rw [if_neg (Bool.eq_false_iff.mp c_3)] | skip)
        (first | rw [if_pos c_9] | rw [if_neg c_9] | rw [if_neg (Bool.eq_false_iff.mp c_9)] | skip)
        (first | rw [if_pos s_23_0] | rw [if_neg s_23_0] | rw [if_neg (Bool.eq_false_iff.mp s_23_0)] | skip)
        (first | rw [if_pos s_23_1] | rw [if_neg s_23_1] | rw [if_neg (Bool.eq_false_iff.mp s_23_1)] | skip)
        (first | rw [if_pos s_23_2] | rw [if_neg s_23_2] | rw [if_neg (Bool.eq_false_iff.mp s_23_2)] | skip)
        (first | rw [if_pos s_23_3] | rw [if_neg s_23_3] | rw [if_neg (Bool.eq_false_iff.mp s_23_3)] | skip)
        (first | rw [if_pos s_23_4] | rw [if_neg s_23_4] | rw [if_neg (Bool.eq_false_iff.mp s_23_4)] | skip)
        (try dsimp only)
        first
          | done
          | exact ⟨rfl, rfl⟩
          | rfl
          | (simp only [c_3, c_9, s_23_0, s_23_1, s_23_2, s_23_3, s_23_4, if_true, if_false, and_self, and_true, true_and, not_true_eq_false, not_false_eq_true, and_false, false_and, or_true, true_or, or_false, false_or, or_self, Bool.false_eq_true, reduceCtorEq, nl10, nl20, nl30, nl40, nl50, nl60, nl70, nl12, nl13, nl21, nl23, nl31, nl32]; first | done | exact ⟨rfl, rfl⟩ | rfl)
          | contradiction
          | (simp only [c_3, c_9, s_23_0, s_23_1, s_23_2, s_23_3, s_23_4, if_true, if_false, and_self, and_true, true_and, not_true_eq_false, not_false_eq_true, and_false, false_and, or_true, true_or, or_false, false_or, or_self, Bool.false_eq_true, reduceCtorEq, nl10, nl20, nl30, nl40, nl50, nl60, nl70, nl12, nl13, nl21, nl23, nl31, nl32]; contradiction)
          | (exfalso; simp_all; done)
          | simp_all
      by_cases s_23_5 : what = 5
      · refine lv_tableIn (tgt := 93) hx hb dX8_status_23 (by rw [s_23_5]; decide) (by rw [s_23_5]; decide) (by rw [s_23_5]; rfl) (by decide) ?_
        refine lv_aload_n hx hb dX8_status_93 rfl (lv_at hl 0 rfl) ?_
        refine f_get X hP (T := TX8) (ci := 8) (k := 86) rfl inX8 rfl 5 (by decide) m_4_179 rfl (v := .int (M 86 5)) rfl dX8_status_94 ?_
        refine f_ir X hlk hr (v := (M 86 5)) rfl hP hS ?_ dX8_status_97
        unfold a_X8_status
        (first | rw [if_pos c_3] | rw [if_neg c_3] | rw [if_neg (Bool.eq_false_iff.mp c_3)] | skip)
        (first | rw [if_pos c_9] | rw [if_neg c_9] | rw [if_neg (Bool.eq_false_iff.mp c_9)] | skip)
        (first | rw [if_pos s_23_0] | rw [if_neg s_23_0] | rw [if_neg (Bool.eq_false_iff.mp s_23_0)] | skip)
        (first | rw [if_pos s_23_1] | rw [if_neg s_23_1] | rw [if_neg (Bool.eq_false_iff.mp s_23_1)] | skip)
        (first | rw [if_pos s_23_2] | rw [if_neg s_23_2] | rw [if_neg (Bool.eq_false_iff.mp s_23_2)] | skip)
        (first | rw [if_pos s_23_3] | rw [if_neg s_23_3] | rw [if_neg (Bool.eq_false_iff.mp s_23_3)] | skip)
        (first | rw [if_pos s_23_4] | rw [if_neg s_23_4] | rw [if_neg (Bool.eq_false_iff.mp s_23_4)] | skip)
        (first | rw [if_pos s_23_5] | rw [if_neg s_23_5] | rw [if_neg (Bool.eq_false_iff.mp s_23_5)] | skip)
        (try dsimp only)
        first
          | done
          | exact ⟨rfl, rfl⟩
          | rfl
          | (simp only [c_3, c_9, s_23_0, s_23_1, s_23_2, s_23_3, s_23_4, s_23_5, if_true, if_false, and_self, and_true, true_and, not_true_eq_false, not_false_eq_true, and_false, false_and, or_true, true_or, or_false, false_or, or_self, Bool.false_eq_true, reduceCtorEq, nl10, nl20, nl30, nl40, nl50, nl60, nl70, nl12, nl13, nl21, nl23, nl31, nl32]; first | done | exact ⟨rfl, rfl⟩ | rfl)
          | contradiction
          | (simp only [c_3, c_9, s_23_0, s_23_1, s_23_2, s_23_3, s_23_4, s_23_5, if_true, if_false, and_self, and_true, true_and, not_true_eq_false, not_false_eq_true, and_false, false_and, or_true, true_or, or_false, false_or, or_self, Bool.false_eq_true, reduceCtorEq, nl10, nl20, nl30, nl40, nl50, nl60, nl70, nl12, nl13, nl21, nl23, nl31, nl32]; contradiction)
          | (exfalso; simp_all; done)
          | simp_all
      by_cases s_23_6 : what = 6
      · refine lv_tableIn (tgt := 98) hx hb dX8_status_23 (by rw [s_23_6]; decide) (by rw [s_23_6]; decide) (by rw [s_23_6]; rfl) (by decide) ?_
        refine lv_aload_n hx hb dX8_status_98 rfl (lv_at hl 0 rfl) ?_
        refine f_get X hP (T := TX8) (ci := 8) (k := 86) rfl inX8 rfl 6 (by decide) m_4_180 rfl (v := .int (M 86 6)) rfl dX8_status_99 ?_
        refine f_ir X hlk hr (v := (M 86 6)) rfl hP hS ?_ dX8_status_102
        unfold a_X8_status
        (first | rw [if_pos c_3] | rw [if_neg c_3] | rw [if_neg (Bool.eq_false_iff.mp c_3)] | skip)
        (first | rw [if_pos c_9] | rw [if_neg c_9] | rw [if_neg (Bool.eq_false_iff.mp c_9)] | skip)
        (first | rw [if_pos s_23_0] | rw [if_neg s_23_0] | rw [if_neg (Bool.eq_false_iff.mp s_23_0)] | skip)
        (first | rw [if_pos s_23_1] | rw [if_neg s_23_1] | rw [if_neg (Bool.eq_false_iff.mp s_23_1)] | skip)
        (first | rw [if_pos s_23_2] | rw [if_neg s_23_2] | rw [if_neg (Bool.eq_false_iff.mp s_23_2)] | skip)
        (first | rw [if_pos s_23_3] | rw [if_neg s_23_3] | rw [if_neg (Bool.eq_false_iff.mp s_23_3)] | skip)
        (first | rw [if_pos s_23_4] | rw [if_neg s_23_4] | rw [if_neg (Bool.eq_false_iff.mp s_23_4)] | skip)
        (first | rw [if_pos s_23_5] | rw [if_neg s_23_5] | rw [if_neg (Bool.eq_false_iff.mp s_23_5)] | skip)
        (first | rw [if_pos s_23_6] | rw [if_neg s_23_6] | rw [if_neg (Bool.eq_false_iff.mp s_23_6)] | skip)
        (try dsimp only)
        first
          | done
          | exact ⟨rfl, rfl⟩
          | rfl
          | (simp only [c_3, c_9, s_23_0, s_23_1, s_23_2, s_23_3, s_23_4, s_23_5, s_23_6, if_true, if_false, and_self, and_true, true_and, not_true_eq_false, not_false_eq_true, and_false, false_and, or_true, true_or, or_false, false_or, or_self, Bool.false_eq_true, reduceCtorEq, nl10, nl20, nl30, nl40, nl50, nl60, nl70, nl12, nl13, nl21, nl23, nl31, nl32]; first | done | exact ⟨rfl, rfl⟩ | rfl)
          | contradiction
          | (simp only [c_3, c_9, s_23_0, s_23_1, s_23_2, s_23_3, s_23_4, s_23_5, s_23_6, if_true, if_false, and_self, and_true, true_and, not_true_eq_false, not_false_eq_true, and_false, false_and, or_true, true_or, or_false, false_or, or_self, Bool.false_eq_true, reduceCtorEq, nl10, nl20, nl30, nl40, nl50, nl60, nl70, nl12, nl13, nl21, nl23, nl31, nl32]; contradiction)
          | (exfalso; simp_all; done)
          | simp_all
      by_cases s_23_7 : what = 7
      · refine lv_tableIn (tgt := 103) hx hb dX8_status_23 (by rw [s_23_7]; decide) (by rw [s_23_7]; decide) (by rw [s_23_7]; rfl) (by decide) ?_
        refine lv_aload_n hx hb dX8_status_103 rfl (lv_at hl 0 rfl) ?_
        refine f_get X hP (T := TX8) (ci := 8) (k := 86) rfl inX8 rfl 45 (by decide) m_4_219 rfl (v := .int (M 86 45)) rfl dX8_status_104 ?_
        refine f_ir X hlk hr (v := (M 86 45)) rfl hP hS ?_ dX8_status_107
        unfold a_X8_status
        (first | rw [if_pos c_3] | rw [if_neg c_3] | rw [if_neg (Bool.eq_false_iff.mp c_3)] | skip)
        (first | rw [if_pos c_9] | rw [if_neg c_9] | rw [if_neg (Bool.eq_false_iff.mp c_9)] | skip)
        (first | rw [if_pos s_23_0] | rw [if_neg s_23_0] | rw [if_neg (Bool.eq_false_iff.mp s_23_0)] | skip)
        (first | rw [if_pos s_23_1] | rw [if_neg s_23_1] | rw [if_neg (Bool.eq_false_iff.mp s_23_1)] | skip)
        (first | rw [if_pos s_23_2] | rw [if_neg s_23_2] | rw [if_neg (Bool.eq_false_iff.mp s_23_2)] | skip)
        (first | rw [if_pos s_23_3] | rw [if_neg s_23_3] | rw [if_neg (Bool.eq_false_iff.mp s_23_3)] | skip)
        (first | rw [if_pos s_23_4] | rw [if_neg s_23_4] | rw [if_neg (Bool.eq_false_iff.mp s_23_4)] | skip)
        (first | rw [if_pos s_23_5] | rw [if_neg s_23_5] | rw [if_neg (Bool.eq_false_iff.mp s_23_5)] | skip)
        (first | rw [if_pos s_23_6] | rw [if_neg s_23_6] | rw [if_neg (Bool.eq_false_iff.mp s_23_6)] | skip)
        (first | rw [if_pos s_23_7] | rw [if_neg s_23_7] | rw [if_neg (Bool.eq_false_iff.mp s_23_7)] | skip)
        (try dsimp only)
        first
          | done
          | exact ⟨rfl, rfl⟩
          | rfl
          | (simp only [c_3, c_9, s_23_0, s_23_1, s_23_2, s_23_3, s_23_4, s_23_5, s_23_6, s_23_7, if_true, if_false, and_self, and_true, true_and, not_true_eq_false, not_false_eq_true, and_false, false_and, or_true, true_or, or_false, false_or, or_self, Bool.false_eq_true, reduceCtorEq, nl10, nl20, nl30, nl40, nl50, nl60, nl70, nl12, nl13, nl21, nl23, nl31, nl32]; first | done | exact ⟨rfl, rfl⟩ | rfl)
          | contradiction
          | (simp only [c_3, c_9, s_23_0, s_23_1, s_23_2, s_23_3, s_23_4, s_23_5, s_23_6, s_23_7, if_true, if_false, and_self, and_true, true_and, not_true_eq_false, not_false_eq_true, and_false, false_and, or_true, true_or, or_false, false_or, or_self, Bool.false_eq_true, reduceCtorEq, nl10, nl20, nl30, nl40, nl50, nl60, nl70, nl12, nl13, nl21, nl23, nl31, nl32]; contradiction)
          | (exfalso; simp_all; done)
          | simp_all
      refine lv_tableOut (tgt := 108) hx hb dX8_status_23 (by have q0 := lv_neT s_23_0 (a := 0) rfl; have q1 := lv_neT s_23_1 (a := 1) rfl; have q2 := lv_neT s_23_2 (a := 2) rfl; have q3 := lv_neT s_23_3 (a := 3) rfl; have q4 := lv_neT s_23_4 (a := 4) rfl; have q5 := lv_neT s_23_5 (a := 5) rfl; have q6 := lv_neT s_23_6 (a := 6) rfl; have q7 := lv_neT s_23_7 (a := 7) rfl; omega) (by decide) ?_
      refine lv_iconst (v := (-1)) hx hb dX8_status_108 (by decide) ?_
      refine f_ir X hlk hr (v := (-1)) rfl hP hS ?_ dX8_status_109
      unfold a_X8_status
      (first | rw [if_pos c_3] | rw [if_neg c_3] | rw [if_neg (Bool.eq_false_iff.mp c_3)] | skip)
      (first | rw [if_pos c_9] | rw [if_neg c_9] | rw [if_neg (Bool.eq_false_iff.mp c_9)] | skip)
      (first | rw [if_pos s_23_0] | rw [if_neg s_23_0] | rw [if_neg (Bool.eq_false_iff.mp s_23_0)] | skip)
      (first | rw [if_pos s_23_1] | rw [if_neg s_23_1] | rw [if_neg (Bool.eq_false_iff.mp s_23_1)] | skip)
      (first | rw [if_pos s_23_2] | rw [if_neg s_23_2] | rw [if_neg (Bool.eq_false_iff.mp s_23_2)] | skip)
      (first | rw [if_pos s_23_3] | rw [if_neg s_23_3] | rw [if_neg (Bool.eq_false_iff.mp s_23_3)] | skip)
      (first | rw [if_pos s_23_4] | rw [if_neg s_23_4] | rw [if_neg (Bool.eq_false_iff.mp s_23_4)] | skip)
      (first | rw [if_pos s_23_5] | rw [if_neg s_23_5] | rw [if_neg (Bool.eq_false_iff.mp s_23_5)] | skip)
      (first | rw [if_pos s_23_6] | rw [if_neg s_23_6] | rw [if_neg (Bool.eq_false_iff.mp s_23_6)] | skip)
      (first | rw [if_pos s_23_7] | rw [if_neg s_23_7] | rw [if_neg (Bool.eq_false_iff.mp s_23_7)] | skip)
      (try dsimp only)
      first
        | done
        | exact ⟨rfl, rfl⟩
        | rfl
        | (simp only [c_3, c_9, s_23_0, s_23_1, s_23_2, s_23_3, s_23_4, s_23_5, s_23_6, s_23_7, if_true, if_false, and_self, and_true, true_and, not_true_eq_false, not_false_eq_true, and_false, false_and, or_true, true_or, or_false, false_or, or_self, Bool.false_eq_true, reduceCtorEq, nl10, nl20, nl30, nl40, nl50, nl60, nl70, nl12, nl13, nl21, nl23, nl31, nl32]; first | done | exact ⟨rfl, rfl⟩ | rfl)
        | contradiction
        | (simp only [c_3, c_9, s_23_0, s_23_1, s_23_2, s_23_3, s_23_4, s_23_5, s_23_6, s_23_7, if_true, if_false, and_self, and_true, true_and, not_true_eq_false, not_false_eq_true, and_false, false_and, or_true, true_or, or_false, false_or, or_self, Bool.false_eq_true, reduceCtorEq, nl10, nl20, nl30, nl40, nl50, nl60, nl70, nl12, nl13, nl21, nl23, nl31, nl32]; contradiction)
        | (exfalso; simp_all; done)
        | simp_all
    · refine lv_aload_n hx hb dX8_status_12 rfl (lv_at hl 0 rfl) ?_
      refine f_get X hP (T := TX8) (ci := 8) (k := 86) rfl inX8 rfl 8 (by decide) m_4_182 rfl (v := .ref (fad E 87)) rfl dX8_status_13 ?_
      refine lv_iload_n hx hb dX8_status_16 rfl (lv_at hl 1 rfl) ?_
      refine lv_bipush (v := 10) hx hb dX8_status_17 (by decide) ?_
      refine lv_isub hx hb dX8_status_19 ?_
      refine f_iald X hP (k := 87) (n := 8) (q := (what - 10).toNatClampNeg) rfl rfl (ix_w ⟨Int32.not_lt.mp c_3, Int32.not_lt.mp c_9⟩) dX8_status_20 ?_
      refine f_ir X hlk hr (v := (M 87 ((what - 10).toNatClampNeg))) rfl hP hS ?_ dX8_status_21
      unfold a_X8_status
      (first | rw [if_pos c_3] | rw [if_neg c_3] | rw [if_neg (Bool.eq_false_iff.mp c_3)] | skip)
      (first | rw [if_pos c_9] | rw [if_neg c_9] | rw [if_neg (Bool.eq_false_iff.mp c_9)] | skip)
      (try dsimp only)
      first
        | done
        | exact ⟨rfl, rfl⟩
        | rfl
        | (simp only [c_3, c_9, if_true, if_false, and_self, and_true, true_and, not_true_eq_false, not_false_eq_true, and_false, false_and, or_true, true_or, or_false, false_or, or_self, Bool.false_eq_true, reduceCtorEq, nl10, nl20, nl30, nl40, nl50, nl60, nl70, nl12, nl13, nl21, nl23, nl31, nl32]; first | done | exact ⟨rfl, rfl⟩ | rfl)
        | contradiction
        | (simp only [c_3, c_9, if_true, if_false, and_self, and_true, true_and, not_true_eq_false, not_false_eq_true, and_false, false_and, or_true, true_or, or_false, false_or, or_self, Bool.false_eq_true, reduceCtorEq, nl10, nl20, nl30, nl40, nl50, nl60, nl70, nl12, nl13, nl21, nl23, nl31, nl32]; contradiction)
        | (exfalso; simp_all; done)
        | simp_all
