def a_X8_judge (M : Nat → Nat → Int32) (L : Nat → Nat → Int64) (s1 : Int32) (n : Int32) (tc : Nat) : fR := (if (a_X8_barsOfDay M L s1 n) = 0 then (((a_X8_wrongIn M L s1 n tc s1.toNatClampNeg n.toNatClampNeg).1), (a_X8_wrongIn M L s1 n tc s1.toNatClampNeg n.toNatClampNeg).2.1, L) else (((a_X8_barsOfDay M L s1 n) - 10), (noM M (a_X8_barsOfDay M L s1 n)), L))
set_option maxHeartbeats 1000000 in
set_option maxRecDepth 100000 in
theorem c_X8_judge (l : Launch) (E : fE) (M : Nat → Nat → Int32) (L : Nat → Nat → Int64) (s1 : Int32) (n : Int32) (tc : Nat) (htc : M 86 1 = nI tc) (htc8 : tc ≤ 8) : Met l yX8_judge (wl yX8_judge cX8_judge 4 (some .int)) (fRm 3 65) (va_Pc [.ref (fad E 86), .int s1, .int n] (fPre E M L)) (fQi E (fun r u => u = ((a_X8_judge M L s1 n tc).2.1, L) ∧ r = (a_X8_judge M L s1 n tc).1)) 0 0 (fA E) := by
  refine f_head (by decide) (Nat.le_of_ble_eq_true rfl) ?_
  intro pg ev s mi below meth cd ls X hr hlk hP hS hl
  have hx := X.1.1
  have hb := X.1.2.1
  have hl : lv_has ls 4 [(0, .ref (fad E 86)), (1, .int s1), (2, .int n)] := hl
  refine lv_aload_n hx hb dX8_judge_0 rfl (lv_at hl 0 rfl) ?_
  refine lv_iload_n hx hb dX8_judge_1 rfl (lv_at hl 1 rfl) ?_
  refine lv_iload_n hx hb dX8_judge_2 rfl (lv_at hl 2 rfl) ?_
  refine f_iV (n := 2) X hP hS [.int s1, .int n] [] (c_X8_barsOfDay l E M L s1 n) m_6_76 wi_X8_barsOfDay rfl rfl (by decide) (by decide +kernel) ⟨Nat.le_of_ble_eq_true rfl, Nat.le_of_ble_eq_true rfl⟩ rfl hl rfl (Nat.le_of_ble_eq_true rfl) ⟨Nat.zero_le _, Nat.zero_le _⟩ dX8_judge_3 (fun H locs hP hS => ?_)
  refine lv_istore_n (lv' := [(3, .int (a_X8_barsOfDay M L s1 n)), (0, .ref (fad E 86)), (1, .int s1), (2, .int n)]) hx hb dX8_judge_6 rfl hl (by decide) rfl (fun ls hl => ?_)
  refine lv_iload_n hx hb dX8_judge_7 rfl (lv_at hl 0 rfl) ?_
  refine lv_if_eq (tgt := 19) hx hb dX8_judge_8 (by decide) (fun c_8 => ?_) (fun c_8 => ?_)
  · have b0 := bars0 c_8
    have w0 := wd0 b0.1
    have hi9 : fIx s1 8 s1.toNatClampNeg := fIx_lt 8 w0.1 w0.2.1 (by decide)
    refine lv_aload_n hx hb dX8_judge_19 rfl (lv_at hl 1 rfl) ?_
    refine lv_iload_n hx hb dX8_judge_20 rfl (lv_at hl 2 rfl) ?_
    refine lv_iload_n hx hb dX8_judge_21 rfl (lv_at hl 3 rfl) ?_
    refine f_iV (n := 2) X hP hS [.int s1, .int n] [] (c_X8_wrongIn l E M L s1 n tc s1.toNatClampNeg n.toNatClampNeg htc htc8 hi9 (nI_self 8 ⟨b0.2.1, b0.2.2.1⟩ (by decide)).1 (nI_self 8 ⟨b0.2.1, b0.2.2.1⟩ (by decide)).2) m_6_80 wi_X8_wrongIn rfl rfl (by decide) (by decide +kernel) ⟨Nat.le_of_ble_eq_true rfl, Nat.le_of_ble_eq_true rfl⟩ rfl hl rfl (Nat.le_of_ble_eq_true rfl) ⟨Nat.zero_le _, Nat.zero_le _⟩ dX8_judge_22 (fun H locs hP hS => ?_)
    refine f_ir X hlk hr (v := ((a_X8_wrongIn M L s1 n tc s1.toNatClampNeg n.toNatClampNeg).1)) rfl hP hS ?_ dX8_judge_25
    unfold a_X8_judge
    (first | rw [if_pos c_8] | rw [if_neg c_8] | rw [if_neg (Bool.eq_false_iff.mp c_8)] | skip)
    (try dsimp only)
    first
      | done
      | exact ⟨rfl, rfl⟩
      | rfl
      | (simp only [c_8, if_true, if_false, and_self, and_true, true_and, not_true_eq_false, not_false_eq_true, and_false, false_and, or_true, true_or, or_false, false_or, or_self, Bool.false_eq_true, reduceCtorEq, nl10, nl20, nl30, nl40, nl50, nl60, nl70, nl12, nl13, nl21, nl23, nl31, nl32]; first | done | exact ⟨rfl, rfl⟩ | rfl)
      | contradiction
      | (simp only [c_8, if_true, if_false, and_self, and_true, true_and, not_true_eq_false, not_false_eq_true, and_false, false_and, or_true, true_or, or_false, false_or, or_self, Bool.false_eq_true, reduceCtorEq, nl10, nl20, nl30, nl40, nl50, nl60, nl70, nl12, nl13, nl21, nl23, nl31, nl32]; contradiction)
      | (exfalso; simp_all; done)
      | simp_all
  · refine lv_aload_n hx hb dX8_judge_11 rfl (lv_at hl 1 rfl) ?_
    refine lv_iload_n hx hb dX8_judge_12 rfl (lv_at hl 0 rfl) ?_
    refine f_iV (n := 1) X hP hS [.int (a_X8_barsOfDay M L s1 n)] [] (c_X8_noTen l E M L (a_X8_barsOfDay M L s1 n) bars_rg) m_5_236 wi_X8_noTen rfl rfl (by decide) (by decide +kernel) ⟨Nat.le_of_ble_eq_true rfl, Nat.le_of_ble_eq_true rfl⟩ rfl hl rfl (Nat.le_of_ble_eq_true rfl) ⟨Nat.zero_le _, Nat.zero_le _⟩ dX8_judge_13 (fun H locs hP hS => ?_)
    refine lv_goto (tgt := 25) hx hb dX8_judge_16 (by decide) ?_
    refine f_ir X hlk hr (v := ((a_X8_barsOfDay M L s1 n) - 10)) rfl hP hS ?_ dX8_judge_25
    unfold a_X8_judge
    (first | rw [if_pos c_8] | rw [if_neg c_8] | rw [if_neg (Bool.eq_false_iff.mp c_8)] | skip)
    (try dsimp only)
    first
      | done
      | exact ⟨rfl, rfl⟩
      | rfl
      | (simp only [c_8, if_true, if_false, and_self, and_true, true_and, not_true_eq_false, not_false_eq_true, and_false, false_and, or_true, true_or, or_false, false_or, or_self, Bool.false_eq_true, reduceCtorEq, nl10, nl20, nl30, nl40, nl50, nl60, nl70, nl12, nl13, nl21, nl23, nl31, nl32]; first | done | exact ⟨rfl, rfl⟩ | rfl)
      | contradiction
      | (simp only [c_8, if_true, if_false, and_self, and_true, true_and, not_true_eq_false, not_false_eq_true, and_false, false_and, or_true, true_or, or_false, false_or, or_self, Bool.false_eq_true, reduceCtorEq, nl10, nl20, nl30, nl40, nl50, nl60, nl70, nl12, nl13, nl21, nl23, nl31, nl32]; contradiction)
      | (exfalso; simp_all; done)
      | simp_all

def a_X8_behind (M : Nat → Nat → Int32) (L : Nat → Nat → Int64) (s1 : Int32) (n : Int32) (what : Int32) (tc : Nat) : fR := (if (a_X8_barsOfDay M L s1 n) = 0 then (if what < 0 then ((-5), (noM M (-5)), L) else (if what ≤ 2 then (if ((a_X8_wrongIn M L s1 n tc s1.toNatClampNeg n.toNatClampNeg).1) = (-1) then (if what = 0 then (((a_X8_wrongIn M L s1 n tc s1.toNatClampNeg n.toNatClampNeg).2.1 86 41), (a_X8_wrongIn M L s1 n tc s1.toNatClampNeg n.toNatClampNeg).2.1, L) else (if what = 1 then (((a_X8_wrongIn M L s1 n tc s1.toNatClampNeg n.toNatClampNeg).2.1 86 42), (a_X8_wrongIn M L s1 n tc s1.toNatClampNeg n.toNatClampNeg).2.1, L) else (((a_X8_wrongIn M L s1 n tc s1.toNatClampNeg n.toNatClampNeg).2.1 86 43), (a_X8_wrongIn M L s1 n tc s1.toNatClampNeg n.toNatClampNeg).2.1, L))) else ((-6), (noM (a_X8_wrongIn M L s1 n tc s1.toNatClampNeg n.toNatClampNeg).2.1 (-6)), L)) else ((-5), (noM M (-5)), L))) else (if (a_X8_barsOfDay M L s1 n) = (-6) then (if what < 0 then ((-5), (noM M (-5)), L) else (if what ≤ 2 then ((a_X8_barsOfDay M L s1 n), (noM M (a_X8_barsOfDay M L s1 n)), L) else ((-5), (noM M (-5)), L))) else ((a_X8_barsOfDay M L s1 n), (noM M (a_X8_barsOfDay M L s1 n)), L)))
set_option maxHeartbeats 1000000 in
set_option maxRecDepth 100000 in
theorem c_X8_behind (l : Launch) (E : fE) (M : Nat → Nat → Int32) (L : Nat → Nat → Int64) (s1 : Int32) (n : Int32) (what : Int32) (tc : Nat) (htc : M 86 1 = nI tc) (htc8 : tc ≤ 8) : Met l yX8_behind (wl yX8_behind cX8_behind 5 (some .int)) (fRm 3 65) (va_Pc [.ref (fad E 86), .int s1, .int n, .int what] (fPre E M L)) (fQi E (fun r u => u = ((a_X8_behind M L s1 n what tc).2.1, L) ∧ r = (a_X8_behind M L s1 n what tc).1)) 0 0 (fA E) := by
  refine f_head (by decide) (Nat.le_of_ble_eq_true rfl) ?_
  intro pg ev s mi below meth cd ls X hr hlk hP hS hl
  have hx := X.1.1
  have hb := X.1.2.1
  have hl : lv_has ls 5 [(0, .ref (fad E 86)), (1, .int s1), (2, .int n), (3, .int what)] := hl
  refine lv_aload_n hx hb dX8_behind_0 rfl (lv_at hl 0 rfl) ?_
  refine lv_iload_n hx hb dX8_behind_1 rfl (lv_at hl 1 rfl) ?_
  refine lv_iload_n hx hb dX8_behind_2 rfl (lv_at hl 2 rfl) ?_
  refine f_iV (n := 2) X hP hS [.int s1, .int n] [] (c_X8_barsOfDay l E M L s1 n) m_6_76 wi_X8_barsOfDay rfl rfl (by decide) (by decide +kernel) ⟨Nat.le_of_ble_eq_true rfl, Nat.le_of_ble_eq_true rfl⟩ rfl hl rfl (Nat.le_of_ble_eq_true rfl) ⟨Nat.zero_le _, Nat.zero_le _⟩ dX8_behind_3 (fun H locs hP hS => ?_)
  refine lv_istore (lv' := [(4, .int (a_X8_barsOfDay M L s1 n)), (0, .ref (fad E 86)), (1, .int s1), (2, .int n), (3, .int what)]) hx hb dX8_behind_6 hl (by decide) rfl (fun ls hl => ?_)
  refine lv_iload hx hb dX8_behind_8 (lv_at hl 0 rfl) ?_
  refine lv_if_eq (tgt := 20) hx hb dX8_behind_10 (by decide) (fun c_10 => ?_) (fun c_10 => ?_)
  · have b0 := bars0 c_10
    have w0 := wd0 b0.1
    have hi9 : fIx s1 8 s1.toNatClampNeg := fIx_lt 8 w0.1 w0.2.1 (by decide)
    refine lv_iload_n hx hb dX8_behind_20 rfl (lv_at hl 4 rfl) ?_
    refine lv_if_lt (tgt := 29) hx hb dX8_behind_21 (by decide) (fun c_21 => ?_) (fun c_21 => ?_)
    · refine lv_bipush (v := (-5)) hx hb dX8_behind_29 (by decide) ?_
      refine lv_istore (lv' := [(4, .int (-5)), (0, .ref (fad E 86)), (1, .int s1), (2, .int n), (3, .int what)]) hx hb dX8_behind_31 hl (by decide) rfl (fun ls hl => ?_)
      refine lv_iload hx hb dX8_behind_33 (lv_at hl 0 rfl) ?_
      refine lv_if_ne (tgt := 52) hx hb dX8_behind_35 (by decide) (fun _ => ?_) (fun c_35 => absurd c_35 (by decide))
      refine lv_iload hx hb dX8_behind_52 (lv_at hl 0 rfl) ?_
      refine lv_if_eq (tgt := 64) hx hb dX8_behind_54 (by decide) (fun c_54 => absurd c_54 (by decide)) (fun _ => ?_)
      refine lv_aload_n hx hb dX8_behind_57 rfl (lv_at hl 1 rfl) ?_
      refine lv_iload hx hb dX8_behind_58 (lv_at hl 0 rfl) ?_
      refine f_iV (n := 1) X hP hS [.int (-5)] [] (c_X8_no l E M L (-5) (by decide)) m_5_84 wi_X8_no rfl rfl (by decide) (by decide +kernel) ⟨Nat.le_of_ble_eq_true rfl, Nat.le_of_ble_eq_true rfl⟩ rfl hl rfl (Nat.le_of_ble_eq_true rfl) ⟨Nat.zero_le _, Nat.zero_le _⟩ dX8_behind_60 (fun H locs hP hS => ?_)
      refine f_ir X hlk hr (v := (-5)) rfl hP hS ?_ dX8_behind_63
      unfold a_X8_behind
      (first | rw [if_pos c_10] | rw [if_neg c_10] | rw [if_neg (Bool.eq_false_iff.mp c_10)] | skip)
      (first | rw [if_pos c_21] | rw [if_neg c_21] | rw [if_neg (Bool.eq_false_iff.mp c_21)] | skip)
      (try dsimp only)
      first
        | done
        | exact ⟨rfl, rfl⟩
        | rfl
        | (simp only [c_10, c_21, if_true, if_false, and_self, and_true, true_and, not_true_eq_false, not_false_eq_true, and_false, false_and, or_true, true_or, or_false, false_or, or_self, Bool.false_eq_true, reduceCtorEq, nl10, nl20, nl30, nl40, nl50, nl60, nl70, nl12, nl13, nl21, nl23, nl31, nl32]; first | done | exact ⟨rfl, rfl⟩ | rfl)
        | contradiction
        | (simp only [c_10, c_21, if_true, if_false, and_self, and_true, true_and, not_true_eq_false, not_false_eq_true, and_false, false_and, or_true, true_or, or_false, false_or, or_self, Bool.false_eq_true, reduceCtorEq, nl10, nl20, nl30, nl40, nl50, nl60, nl70, nl12, nl13, nl21, nl23, nl31, nl32]; contradiction)
        | (exfalso; simp_all; done)
        | simp_all
    · refine lv_iload_n hx hb dX8_behind_24 rfl (lv_at hl 4 rfl) ?_
      refine lv_iconst (v := 2) hx hb dX8_behind_25 (by decide) ?_
      refine lv_icmp_le (tgt := 33) hx hb dX8_behind_26 (by decide) (fun c_26 => ?_) (fun c_26 => ?_)
      · refine lv_iload hx hb dX8_behind_33 (lv_at hl 0 rfl) ?_
        refine lv_if_ne (tgt := 52) hx hb dX8_behind_35 (by decide) (fun c_35 => by exact absurd c_10 c_35) (fun c_35 => ?_)
        refine lv_aload_n hx hb dX8_behind_38 rfl (lv_at hl 1 rfl) ?_
        refine lv_iload_n hx hb dX8_behind_39 rfl (lv_at hl 2 rfl) ?_
        refine lv_iload_n hx hb dX8_behind_40 rfl (lv_at hl 3 rfl) ?_
        refine f_iV (n := 2) X hP hS [.int s1, .int n] [] (c_X8_wrongIn l E M L s1 n tc s1.toNatClampNeg n.toNatClampNeg htc htc8 hi9 (nI_self 8 ⟨b0.2.1, b0.2.2.1⟩ (by decide)).1 (nI_self 8 ⟨b0.2.1, b0.2.2.1⟩ (by decide)).2) m_6_80 wi_X8_wrongIn rfl rfl (by decide) (by decide +kernel) ⟨Nat.le_of_ble_eq_true rfl, Nat.le_of_ble_eq_true rfl⟩ rfl hl rfl (Nat.le_of_ble_eq_true rfl) ⟨Nat.zero_le _, Nat.zero_le _⟩ dX8_behind_41 (fun H locs hP hS => ?_)
        refine lv_iconst (v := (-1)) hx hb dX8_behind_44 (by decide) ?_
        refine lv_icmp_eq (tgt := 52) hx hb dX8_behind_45 (by decide) (fun c_45 => ?_) (fun c_45 => ?_)
        · refine lv_iload hx hb dX8_behind_52 (lv_at hl 0 rfl) ?_
          refine lv_if_eq (tgt := 64) hx hb dX8_behind_54 (by decide) (fun c_54 => ?_) (fun c_54 => by exact absurd c_10 c_54)
          refine lv_iload_n hx hb dX8_behind_64 rfl (lv_at hl 4 rfl) ?_
          refine lv_if_ne (tgt := 75) hx hb dX8_behind_65 (by decide) (fun c_65 => ?_) (fun c_65 => ?_)
          · refine lv_iload_n hx hb dX8_behind_75 rfl (lv_at hl 4 rfl) ?_
            refine lv_iconst (v := 1) hx hb dX8_behind_76 (by decide) ?_
            refine lv_icmp_ne (tgt := 87) hx hb dX8_behind_77 (by decide) (fun c_77 => ?_) (fun c_77 => ?_)
            · refine lv_aload_n hx hb dX8_behind_87 rfl (lv_at hl 1 rfl) ?_
              refine f_get X hP (T := TX8) (ci := 8) (k := 86) rfl inX8 rfl 43 (by decide) m_4_217 rfl (v := .int ((a_X8_wrongIn M L s1 n tc s1.toNatClampNeg n.toNatClampNeg).2.1 86 43)) rfl dX8_behind_88 ?_
              refine f_ir X hlk hr (v := ((a_X8_wrongIn M L s1 n tc s1.toNatClampNeg n.toNatClampNeg).2.1 86 43)) rfl hP hS ?_ dX8_behind_91
              unfold a_X8_behind
              (first | rw [if_pos c_10] | rw [if_neg c_10] | rw [if_neg (Bool.eq_false_iff.mp c_10)] | skip)
              (first | rw [if_pos c_21] | rw [if_neg c_21] | rw [if_neg (Bool.eq_false_iff.mp c_21)] | skip)
              (first | rw [if_pos c_26] | rw [if_neg c_26] | rw [if_neg (Bool.eq_false_iff.mp c_26)] | skip)
              (first | rw [if_pos c_45] | rw [if_neg c_45] | rw [if_neg (Bool.eq_false_iff.mp c_45)] | skip)
              (first | rw [if_pos c_65] | rw [if_neg c_65] | rw [if_neg (Bool.eq_false_iff.mp c_65)] | skip)
              (first | rw [if_pos c_77] | rw [if_neg c_77] | rw [if_neg (Bool.eq_false_iff.mp c_77)] | skip)
              (try dsimp only)
              first
                | done
                | exact ⟨rfl, rfl⟩
                | rfl
                | (simp only [c_10, c_21, c_26, c_45, c_65, c_77, if_true, if_false, and_self, and_true, true_and, not_true_eq_false, not_false_eq_true, and_false, false_and, or_true, true_or, or_false, false_or, or_self, Bool.false_eq_true, reduceCtorEq, nl10, nl20, nl30, nl40, nl50, nl60, nl70, nl12, nl13, nl21, nl23, nl31, nl32]; first | done | exact ⟨rfl, rfl⟩ | rfl)
                | contradiction
                | (simp only [c_10, c_21, c_26, c_45, c_65, c_77, if_true, if_false, and_self, and_true, true_and, not_true_eq_false, not_false_eq_true, and_false, false_and, or_true, true_or, or_false, false_or, or_self, Bool.false_eq_true, reduceCtorEq, nl10, nl20, nl30, nl40, nl50, nl60, nl70, nl12, nl13, nl21, nl23, nl31, nl32]; contradiction)
                | (exfalso; simp_all; done)
                | simp_all
            · refine lv_aload_n hx hb dX8_behind_80 rfl (lv_at hl 1 rfl) ?_
              refine f_get X hP (T := TX8) (ci := 8) (k := 86) rfl inX8 rfl 42 (by decide) m_4_216 rfl (v := .int ((a_X8_wrongIn M L s1 n tc s1.toNatClampNeg n.toNatClampNeg).2.1 86 42)) rfl dX8_behind_81 ?_
              refine lv_goto (tgt := 91) hx hb dX8_behind_84 (by decide) ?_
              refine f_ir X hlk hr (v := ((a_X8_wrongIn M L s1 n tc s1.toNatClampNeg n.toNatClampNeg).2.1 86 42)) rfl hP hS ?_ dX8_behind_91
              unfold a_X8_behind
              (first | rw [if_pos c_10] | rw [if_neg c_10] | rw [if_neg (Bool.eq_false_iff.mp c_10)] | skip)
              (first | rw [if_pos c_21] | rw [if_neg c_21] | rw [if_neg (Bool.eq_false_iff.mp c_21)] | skip)
              (first | rw [if_pos c_26] | rw [if_neg c_26] | rw [if_neg (Bool.eq_false_iff.mp c_26)] | skip)
              (first | rw [if_pos c_45] | rw [if_neg c_45] | rw [if_neg (Bool.eq_false_iff.mp c_45)] | skip)
              (first | rw [if_pos c_65] | rw [if_neg c_65] | rw [if_neg (Bool.eq_false_iff.mp c_65)] | skip)
              (first | rw [if_pos c_77] | rw [if_neg c_77] | rw [if_neg (Bool.eq_false_iff.mp c_77)] | skip)
              (try dsimp only)
              first
                | done
                | exact ⟨rfl, rfl⟩
                | rfl
                | (simp only [c_10, c_21, c_26, c_45, c_65, c_77, if_true, if_false, and_self, and_true, true_and, not_true_eq_false, not_false_eq_true, and_false, false_and, or_true, true_or, or_false, false_or, or_self, Bool.false_eq_true, reduceCtorEq, nl10, nl20, nl30, nl40, nl50, nl60, nl70, nl12, nl13, nl21, nl23, nl31, nl32]; first | done | exact ⟨rfl, rfl⟩ | rfl)
                | contradiction
                | (simp only [c_10, c_21, c_26, c_45, c_65, c_77, if_true, if_false, and_self, and_true, true_and, not_true_eq_false, not_false_eq_true, and_false, false_and, or_true, true_or, or_false, false_or, or_self, Bool.false_eq_true, reduceCtorEq, nl10, nl20, nl30, nl40, nl50, nl60, nl70, nl12, nl13, nl21, nl23, nl31, nl32]; contradiction)
                | (exfalso; simp_all; done)
                | simp_all
          · refine lv_aload_n hx hb dX8_behind_68 rfl (lv_at hl 1 rfl) ?_
            refine f_get X hP (T := TX8) (ci := 8) (k := 86) rfl inX8 rfl 41 (by decide) m_4_215 rfl (v := .int ((a_X8_wrongIn M L s1 n tc s1.toNatClampNeg n.toNatClampNeg).2.1 86 41)) rfl dX8_behind_69 ?_
            refine lv_goto (tgt := 91) hx hb dX8_behind_72 (by decide) ?_
            refine f_ir X hlk hr (v := ((a_X8_wrongIn M L s1 n tc s1.toNatClampNeg n.toNatClampNeg).2.1 86 41)) rfl hP hS ?_ dX8_behind_91
            unfold a_X8_behind
            (first | rw [if_pos c_10] | rw [if_neg c_10] | rw [if_neg (Bool.eq_false_iff.mp c_10)] | skip)
            (first | rw [if_pos c_21] | rw [if_neg c_21] | rw [if_neg (Bool.eq_false_iff.mp c_21)] | skip)
            (first | rw [if_pos c_26] | rw [if_neg c_26] | rw [if_neg (Bool.eq_false_iff.mp c_26)] | skip)
            (first | rw [if_pos c_45] | rw [if_neg c_45] | rw [if_neg (Bool.eq_false_iff.mp c_45)] | skip)
            (first | rw [if_pos c_65] | rw [if_neg c_65] | rw [if_neg (Bool.eq_false_iff.mp c_65)] | skip)
            (try dsimp only)
            first
              | done
              | exact ⟨rfl, rfl⟩
              | rfl
              | (simp only [c_10, c_21, c_26, c_45, c_65, if_true, if_false, and_self, and_true, true_and, not_true_eq_false, not_false_eq_true, and_false, false_and, or_true, true_or, or_false, false_or, or_self, Bool.false_eq_true, reduceCtorEq, nl10, nl20, nl30, nl40, nl50, nl60, nl70, nl12, nl13, nl21, nl23, nl31, nl32]; first | done | exact ⟨rfl, rfl⟩ | rfl)
              | contradiction
              | (simp only [c_10, c_21, c_26, c_45, c_65, if_true, if_false, and_self, and_true, true_and, not_true_eq_false, not_false_eq_true, and_false, false_and, or_true, true_or, or_false, false_or, or_self, Bool.false_eq_true, reduceCtorEq, nl10, nl20, nl30, nl40, nl50, nl60, nl70, nl12, nl13, nl21, nl23, nl31, nl32]; contradiction)
              | (exfalso; simp_all; done)
              | simp_all
        · refine lv_bipush (v := (-6)) hx hb dX8_behind_48 (by decide) ?_
          refine lv_istore (lv' := [(4, .int (-6)), (0, .ref (fad E 86)), (1, .int s1), (2, .int n), (3, .int what)]) hx hb dX8_behind_50 hl (by decide) rfl (fun ls hl => ?_)
          refine lv_iload hx hb dX8_behind_52 (lv_at hl 0 rfl) ?_
          refine lv_if_eq (tgt := 64) hx hb dX8_behind_54 (by decide) (fun c_54 => absurd c_54 (by decide)) (fun _ => ?_)
          refine lv_aload_n hx hb dX8_behind_57 rfl (lv_at hl 1 rfl) ?_
          refine lv_iload hx hb dX8_behind_58 (lv_at hl 0 rfl) ?_
          refine f_iV (n := 1) X hP hS [.int (-6)] [] (c_X8_no l E (a_X8_wrongIn M L s1 n tc s1.toNatClampNeg n.toNatClampNeg).2.1 L (-6) (by decide)) m_5_84 wi_X8_no rfl rfl (by decide) (by decide +kernel) ⟨Nat.le_of_ble_eq_true rfl, Nat.le_of_ble_eq_true rfl⟩ rfl hl rfl (Nat.le_of_ble_eq_true rfl) ⟨Nat.zero_le _, Nat.zero_le _⟩ dX8_behind_60 (fun H locs hP hS => ?_)
          refine f_ir X hlk hr (v := (-6)) rfl hP hS ?_ dX8_behind_63
          unfold a_X8_behind
          (first | rw [if_pos c_10] | rw [if_neg c_10] | rw [if_neg (Bool.eq_false_iff.mp c_10)] | skip)
          (first | rw [if_pos c_21] | rw [if_neg c_21] | rw [if_neg (Bool.eq_false_iff.mp c_21)] | skip)
          (first | rw [if_pos c_26] | rw [if_neg c_26] | rw [if_neg (Bool.eq_false_iff.mp c_26)] | skip)
          (first | rw [if_pos c_45] | rw [if_neg c_45] | rw [if_neg (Bool.eq_false_iff.mp c_45)] | skip)
          (try dsimp only)
          first
            | done
            | exact ⟨rfl, rfl⟩
            | rfl
            | (simp only [c_10, c_21, c_26, c_45, if_true, if_false, and_self, and_true, true_and, not_true_eq_false, not_false_eq_true, and_false, false_and, or_true, true_or, or_false, false_or, or_self, Bool.false_eq_true, reduceCtorEq, nl10, nl20, nl30, nl40, nl50, nl60, nl70, nl12, nl13, nl21, nl23, nl31, nl32]; first | done | exact ⟨rfl, rfl⟩ | rfl)
            | contradiction
            | (simp only [c_10, c_21, c_26, c_45, if_true, if_false, and_self, and_true, true_and, not_true_eq_false, not_false_eq_true, and_false, false_and, or_true, true_or, or_false, false_or, or_self, Bool.false_eq_true, reduceCtorEq, nl10, nl20, nl30, nl40, nl50, nl60, nl70, nl12, nl13, nl21, nl23, nl31, nl32]; contradiction)
            | (exfalso; simp_all; done)
            | simp_all
      · refine lv_bipush (v := (-5)) hx hb dX8_behind_29 (by decide) ?_
        refine lv_istore (lv' := [(4, .int (-5)), (0, .ref (fad E 86)), (1, .int s1), (2, .int n), (3, .int what)]) hx hb dX8_behind_31 hl (by decide) rfl (fun ls hl => ?_)
        refine lv_iload hx hb dX8_behind_33 (lv_at hl 0 rfl) ?_
        refine lv_if_ne (tgt := 52) hx hb dX8_behind_35 (by decide) (fun _ => ?_) (fun c_35 => absurd c_35 (by decide))
        refine lv_iload hx hb dX8_behind_52 (lv_at hl 0 rfl) ?_
        refine lv_if_eq (tgt := 64) hx hb dX8_behind_54 (by decide) (fun c_54 => absurd c_54 (by decide)) (fun _ => ?_)
        refine lv_aload_n hx hb dX8_behind_57 rfl (lv_at hl 1 rfl) ?_
        refine lv_iload hx hb dX8_behind_58 (lv_at hl 0 rfl) ?_
        refine f_iV (n := 1) X hP hS [.int (-5)] [] (c_X8_no l E M L (-5) (by decide)) m_5_84 wi_X8_no rfl rfl (by decide) (by decide +kernel) ⟨Nat.le_of_ble_eq_true rfl, Nat.le_of_ble_eq_true rfl⟩ rfl hl rfl (Nat.le_of_ble_eq_true rfl) ⟨Nat.zero_le _, Nat.zero_le _⟩ dX8_behind_60 (fun H locs hP hS => ?_)
        refine f_ir X hlk hr (v := (-5)) rfl hP hS ?_ dX8_behind_63
        unfold a_X8_behind
        (first | rw [if_pos c_10] | rw [if_neg c_10] | rw [if_neg (Bool.eq_false_iff.mp c_10)] | skip)
        (first | rw [if_pos c_21] | rw [if_neg c_21] | rw [if_neg (Bool.eq_false_iff.mp c_21)] | skip)
        (first | rw [if_pos c_26] | rw [if_neg c_26] | rw [if_neg (Bool.eq_false_iff.mp c_26)] | skip)
        (try dsimp only)
        first
          | done
          | exact ⟨rfl, rfl⟩
          | rfl
          | (simp only [c_10, c_21, c_26, if_true, if_false, and_self, and_true, true_and, not_true_eq_false, not_false_eq_true, and_false, false_and, or_true, true_or, or_false, false_or, or_self, Bool.false_eq_true, reduceCtorEq, nl10, nl20, nl30, nl40, nl50, nl60, nl70, nl12, nl13, nl21, nl23, nl31, nl32]; first | done | exact ⟨rfl, rfl⟩ | rfl)
          | contradiction
          | (simp only [c_10, c_21, c_26, if_true, if_false, and_self, and_true, true_and, not_true_eq_false, not_false_eq_true, and_false, false_and, or_true, true_or, or_false, false_or, or_self, Bool.false_eq_true, reduceCtorEq, nl10, nl20, nl30, nl40, nl50, nl60, nl70, nl12, nl13, nl21, nl23, nl31, nl32]; contradiction)
          | (exfalso; simp_all; done)
          | simp_all
  · refine lv_iload hx hb dX8_behind_13 (lv_at hl 0 rfl) ?_
    refine lv_bipush (v := (-6)) hx hb dX8_behind_15 (by decide) ?_
    refine lv_icmp_ne (tgt := 33) hx hb dX8_behind_17 (by decide) (fun c_17 => ?_) (fun c_17 => ?_)
    · refine lv_iload hx hb dX8_behind_33 (lv_at hl 0 rfl) ?_
      refine lv_if_ne (tgt := 52) hx hb dX8_behind_35 (by decide) (fun c_35 => ?_) (fun c_35 => by exact absurd c_35 c_10)
      refine lv_iload hx hb dX8_behind_52 (lv_at hl 0 rfl) ?_
      refine lv_if_eq (tgt := 64) hx hb dX8_behind_54 (by decide) (fun c_54 => by exact absurd c_54 c_10) (fun c_54 => ?_)
      refine lv_aload_n hx hb dX8_behind_57 rfl (lv_at hl 1 rfl) ?_
      refine lv_iload hx hb dX8_behind_58 (lv_at hl 0 rfl) ?_
      refine f_iV (n := 1) X hP hS [.int (a_X8_barsOfDay M L s1 n)] [] (c_X8_no l E M L (a_X8_barsOfDay M L s1 n) bars_rg) m_5_84 wi_X8_no rfl rfl (by decide) (by decide +kernel) ⟨Nat.le_of_ble_eq_true rfl, Nat.le_of_ble_eq_true rfl⟩ rfl hl rfl (Nat.le_of_ble_eq_true rfl) ⟨Nat.zero_le _, Nat.zero_le _⟩ dX8_behind_60 (fun H locs hP hS => ?_)
      refine f_ir X hlk hr (v := (a_X8_barsOfDay M L s1 n)) rfl hP hS ?_ dX8_behind_63
      unfold a_X8_behind
      (first | rw [if_pos c_10] | rw [if_neg c_10] | rw [if_neg (Bool.eq_false_iff.mp c_10)] | skip)
      (first | rw [if_pos c_17] | rw [if_neg c_17] | rw [if_neg (Bool.eq_false_iff.mp c_17)] | skip)
      (try dsimp only)
      first
        | done
        | exact ⟨rfl, rfl⟩
        | rfl
        | (simp only [c_10, c_17, if_true, if_false, and_self, and_true, true_and, not_true_eq_false, not_false_eq_true, and_false, false_and, or_true, true_or, or_false, false_or, or_self, Bool.false_eq_true, reduceCtorEq, nl10, nl20, nl30, nl40, nl50, nl60, nl70, nl12, nl13, nl21, nl23, nl31, nl32]; first | done | exact ⟨rfl, rfl⟩ | rfl)
        | contradiction
        | (simp only [c_10, c_17, if_true, if_false, and_self, and_true, true_and, not_true_eq_false, not_false_eq_true, and_false, false_and, or_true, true_or, or_false, false_or, or_self, Bool.false_eq_true, reduceCtorEq, nl10, nl20, nl30, nl40, nl50, nl60, nl70, nl12, nl13, nl21, nl23, nl31, nl32]; contradiction)
        | (exfalso; simp_all; done)
        | simp_all
    · refine lv_iload_n hx hb dX8_behind_20 rfl (lv_at hl 4 rfl) ?_
      refine lv_if_lt (tgt := 29) hx hb dX8_behind_21 (by decide) (fun c_21 => ?_) (fun c_21 => ?_)
      · refine lv_bipush (v := (-5)) hx hb dX8_behind_29 (by decide) ?_
        refine lv_istore (lv' := [(4, .int (-5)), (0, .ref (fad E 86)), (1, .int s1), (2, .int n), (3, .int what)]) hx hb dX8_behind_31 hl (by decide) rfl (fun ls hl => ?_)
        refine lv_iload hx hb dX8_behind_33 (lv_at hl 0 rfl) ?_
        refine lv_if_ne (tgt := 52) hx hb dX8_behind_35 (by decide) (fun _ => ?_) (fun c_35 => absurd c_35 (by decide))
        refine lv_iload hx hb dX8_behind_52 (lv_at hl 0 rfl) ?_
        refine lv_if_eq (tgt := 64) hx hb dX8_behind_54 (by decide) (fun c_54 => absurd c_54 (by decide)) (fun _ => ?_)
        refine lv_aload_n hx hb dX8_behind_57 rfl (lv_at hl 1 rfl) ?_
        refine lv_iload hx hb dX8_behind_58 (lv_at hl 0 rfl) ?_
        refine f_iV (n := 1) X hP hS [.int (-5)] [] (c_X8_no l E M L (-5) (by decide)) m_5_84 wi_X8_no rfl rfl (by decide) (by decide +kernel) ⟨Nat.le_of_ble_eq_true rfl, Nat.le_of_ble_eq_true rfl⟩ rfl hl rfl (Nat.le_of_ble_eq_true rfl) ⟨Nat.zero_le _, Nat.zero_le _⟩ dX8_behind_60 (fun H locs hP hS => ?_)
        refine f_ir X hlk hr (v := (-5)) rfl hP hS ?_ dX8_behind_63
        unfold a_X8_behind
        (first | rw [if_pos c_10] | rw [if_neg c_10] | rw [if_neg (Bool.eq_false_iff.mp c_10)] | skip)
        (first | rw [if_pos c_17] | rw [if_neg c_17] | rw [if_neg (Bool.eq_false_iff.mp c_17)] | skip)
        (first | rw [if_pos c_21] | rw [if_neg c_21] | rw [if_neg (Bool.eq_false_iff.mp c_21)] | skip)
        (try dsimp only)
        first
          | done
          | exact ⟨rfl, rfl⟩
          | rfl
          | (simp only [c_10, c_17, c_21, if_true, if_false, and_self, and_true, true_and, not_true_eq_false, not_false_eq_true, and_false, false_and, or_true, true_or, or_false, false_or, or_self, Bool.false_eq_true, reduceCtorEq, nl10, nl20, nl30, nl40, nl50, nl60, nl70, nl12, nl13, nl21, nl23, nl31, nl32]; first | done | exact ⟨rfl, rfl⟩ | rfl)
          | contradiction
          | (simp only [c_10, c_17, c_21, if_true, if_false, and_self, and_true, true_and, not_true_eq_false, not_false_eq_true, and_false, false_and, or_true, true_or, or_false, false_or, or_self, Bool.false_eq_true, reduceCtorEq, nl10, nl20, nl30, nl40, nl50, nl60, nl70, nl12, nl13, nl21, nl23, nl31, nl32]; contradiction)
          | (exfalso; simp_all; done)
          | simp_all
      · refine lv_iload_n hx hb dX8_behind_24 rfl (lv_at hl 4 rfl) ?_
        refine lv_iconst (v := 2) hx hb dX8_behind_25 (by decide) ?_
        refine lv_icmp_le (tgt := 33) hx hb dX8_behind_26 (by decide) (fun c_26 => ?_) (fun c_26 => ?_)
        · refine lv_iload hx hb dX8_behind_33 (lv_at hl 0 rfl) ?_
          refine lv_if_ne (tgt := 52) hx hb dX8_behind_35 (by decide) (fun c_35 => ?_) (fun c_35 => by exact absurd (c_17.symm.trans c_35) (by decide))
          refine lv_iload hx hb dX8_behind_52 (lv_at hl 0 rfl) ?_
          refine lv_if_eq (tgt := 64) hx hb dX8_behind_54 (by decide) (fun c_54 => by exact absurd (c_17.symm.trans c_54) (by decide)) (fun c_54 => ?_)
          refine lv_aload_n hx hb dX8_behind_57 rfl (lv_at hl 1 rfl) ?_
          refine lv_iload hx hb dX8_behind_58 (lv_at hl 0 rfl) ?_
          refine f_iV (n := 1) X hP hS [.int (a_X8_barsOfDay M L s1 n)] [] (c_X8_no l E M L (a_X8_barsOfDay M L s1 n) bars_rg) m_5_84 wi_X8_no rfl rfl (by decide) (by decide +kernel) ⟨Nat.le_of_ble_eq_true rfl, Nat.le_of_ble_eq_true rfl⟩ rfl hl rfl (Nat.le_of_ble_eq_true rfl) ⟨Nat.zero_le _, Nat.zero_le _⟩ dX8_behind_60 (fun H locs hP hS => ?_)
          refine f_ir X hlk hr (v := (a_X8_barsOfDay M L s1 n)) rfl hP hS ?_ dX8_behind_63
          unfold a_X8_behind
          (first | rw [if_pos c_10] | rw [if_neg c_10] | rw [if_neg (Bool.eq_false_iff.mp c_10)] | skip)
          (first | rw [if_pos c_17] | rw [if_neg c_17] | rw [if_neg (Bool.eq_false_iff.mp c_17)] | skip)
          (first | rw [if_pos c_21] | rw [if_neg c_21] | rw [if_neg (Bool.eq_false_iff.mp c_21)] | skip)
          (first | rw [if_pos c_26] | rw [if_neg c_26] | rw [if_neg (Bool.eq_false_iff.mp c_26)] | skip)
          (try dsimp only)
          first
            | done
            | exact ⟨rfl, rfl⟩
            | rfl
            | (simp only [c_10, c_17, c_21, c_26, if_true, if_false, and_self, and_true, true_and, not_true_eq_false, not_false_eq_true, and_false, false_and, or_true, true_or, or_false, false_or, or_self, Bool.false_eq_true, reduceCtorEq, nl10, nl20, nl30, nl40, nl50, nl60, nl70, nl12, nl13, nl21, nl23, nl31, nl32]; first | done | exact ⟨rfl, rfl⟩ | rfl)
            | contradiction
            | (simp only [c_10, c_17, c_21, c_26, if_true, if_false, and_self, and_true, true_and, not_true_eq_false, not_false_eq_true, and_false, false_and, or_true, true_or, or_false, false_or, or_self, Bool.false_eq_true, reduceCtorEq, nl10, nl20, nl30, nl40, nl50, nl60, nl70, nl12, nl13, nl21, nl23, nl31, nl32]; contradiction)
            | (exfalso; simp_all; done)
            | simp_all
        · refine lv_bipush (v := (-5)) hx hb dX8_behind_29 (by decide) ?_
          refine lv_istore (lv' := [(4, .int (-5)), (0, .ref (fad E 86)), (1, .int s1), (2, .int n), (3, .int what)]) hx hb dX8_behind_31 hl (by decide) rfl (fun ls hl => ?_)
          refine lv_iload hx hb dX8_behind_33 (lv_at hl 0 rfl) ?_
          refine lv_if_ne (tgt := 52) hx hb dX8_behind_35 (by decide) (fun _ => ?_) (fun c_35 => absurd c_35 (by decide))
          refine lv_iload hx hb dX8_behind_52 (lv_at hl 0 rfl) ?_
          refine lv_if_eq (tgt := 64) hx hb dX8_behind_54 (by decide) (fun c_54 => absurd c_54 (by decide)) (fun _ => ?_)
          refine lv_aload_n hx hb dX8_behind_57 rfl (lv_at hl 1 rfl) ?_
          refine lv_iload hx hb dX8_behind_58 (lv_at hl 0 rfl) ?_
          refine f_iV (n := 1) X hP hS [.int (-5)] [] (c_X8_no l E M L (-5) (by decide)) m_5_84 wi_X8_no rfl rfl (by decide) (by decide +kernel) ⟨Nat.le_of_ble_eq_true rfl, Nat.le_of_ble_eq_true rfl⟩ rfl hl rfl (Nat.le_of_ble_eq_true rfl) ⟨Nat.zero_le _, Nat.zero_le _⟩ dX8_behind_60 (fun H locs hP hS => ?_)
          refine f_ir X hlk hr (v := (-5)) rfl hP hS ?_ dX8_behind_63
          unfold a_X8_behind
          (first | rw [if_pos c_10] | rw [if_neg c_10] | rw [if_neg (Bool.eq_false_iff.mp c_10)] | skip)
          (first | rw [if_pos c_17] | rw [if_neg c_17] | rw [if_neg (Bool.eq_false_iff.mp c_17)] | skip)
          (first | rw [if_pos c_21] | rw [if_neg c_21] | rw [if_neg (Bool.eq_false_iff.mp c_21)] | skip)
          (first | rw [if_pos c_26] | rw [if_neg c_26] | rw [if_neg (Bool.eq_false_iff.mp c_26)] | skip)
          (try dsimp only)
          first
            | done
            | exact ⟨rfl, rfl⟩
            | rfl
            | (simp only [c_10, c_17, c_21, c_26, if_true, if_false, and_self, and_true, true_and, not_true_eq_false, not_false_eq_true, and_false, false_and, or_true, true_or, or_false, false_or, or_self, Bool.false_eq_true, reduceCtorEq, nl10, nl20, nl30, nl40, nl50, nl60, nl70, nl12, nl13, nl21, nl23, nl31, nl32]; first | done | exact ⟨rfl, rfl⟩ | rfl)
            | contradiction
            | (simp only [c_10, c_17, c_21, c_26, if_true, if_false, and_self, and_true, true_and, not_true_eq_false, not_false_eq_true, and_false, false_and, or_true, true_or, or_false, false_or, or_self, Bool.false_eq_true, reduceCtorEq, nl10, nl20, nl30, nl40, nl50, nl60, nl70, nl12, nl13, nl21, nl23, nl31, nl32]; contradiction)
            | (exfalso; simp_all; done)
            | simp_all

def a_X8_done (M : Nat → Nat → Int32) (L : Nat → Nat → Int64) (s1 : Int32) (n : Int32) (tc : Nat) : fR := (if (a_X8_barsOfDay M L s1 n) = 0 then (if ((a_X8_wrongIn M L s1 n tc s1.toNatClampNeg n.toNatClampNeg).1) = (-1) then ((((a_X8_wrongIn M L s1 n tc s1.toNatClampNeg n.toNatClampNeg).2.1 86 4) + ((a_X8_wrongIn M L s1 n tc s1.toNatClampNeg n.toNatClampNeg).2.1 86 42)), (up2 (up2 (a_X8_wrongIn M L s1 n tc s1.toNatClampNeg n.toNatClampNeg).2.1 86 4 (((a_X8_wrongIn M L s1 n tc s1.toNatClampNeg n.toNatClampNeg).2.1 86 4) + ((a_X8_wrongIn M L s1 n tc s1.toNatClampNeg n.toNatClampNeg).2.1 86 42))) 86 3 (((a_X8_wrongIn M L s1 n tc s1.toNatClampNeg n.toNatClampNeg).2.1 86 3) + 1)), L) else ((-6), (noM (a_X8_wrongIn M L s1 n tc s1.toNatClampNeg n.toNatClampNeg).2.1 (-6)), L)) else ((a_X8_barsOfDay M L s1 n), (noM M (a_X8_barsOfDay M L s1 n)), L))
set_option maxHeartbeats 1000000 in
set_option maxRecDepth 100000 in
theorem c_X8_done (l : Launch) (E : fE) (M : Nat → Nat → Int32) (L : Nat → Nat → Int64) (s1 : Int32) (n : Int32) (tc : Nat) (htc : M 86 1 = nI tc) (htc8 : tc ≤ 8) : Met l yX8_done (wl yX8_done cX8_done 4 (some .int)) (fRm 3 65) (va_Pc [.ref (fad E 86), .int s1, .int n] (fPre E M L)) (fQi E (fun r u => u = ((a_X8_done M L s1 n tc).2.1, L) ∧ r = (a_X8_done M L s1 n tc).1)) 0 0 (fA E) := by
  refine f_head (by decide) (Nat.le_of_ble_eq_true rfl) ?_
  intro pg ev s mi below meth cd ls X hr hlk hP hS hl
  have hx := X.1.1
  have hb := X.1.2.1
  have hl : lv_has ls 4 [(0, .ref (fad E 86)), (1, .int s1), (2, .int n)] := hl
  refine lv_aload_n hx hb dX8_done_0 rfl (lv_at hl 0 rfl) ?_
  refine lv_iload_n hx hb dX8_done_1 rfl (lv_at hl 1 rfl) ?_
  refine lv_iload_n hx hb dX8_done_2 rfl (lv_at hl 2 rfl) ?_
  refine f_iV (n := 2) X hP hS [.int s1, .int n] [] (c_X8_barsOfDay l E M L s1 n) m_6_76 wi_X8_barsOfDay rfl rfl (by decide) (by decide +kernel) ⟨Nat.le_of_ble_eq_true rfl, Nat.le_of_ble_eq_true rfl⟩ rfl hl rfl (Nat.le_of_ble_eq_true rfl) ⟨Nat.zero_le _, Nat.zero_le _⟩ dX8_done_3 (fun H locs hP hS => ?_)
  refine lv_istore_n (lv' := [(3, .int (a_X8_barsOfDay M L s1 n)), (0, .ref (fad E 86)), (1, .int s1), (2, .int n)]) hx hb dX8_done_6 rfl hl (by decide) rfl (fun ls hl => ?_)
  refine lv_iload_n hx hb dX8_done_7 rfl (lv_at hl 0 rfl) ?_
  refine lv_if_ne (tgt := 24) hx hb dX8_done_8 (by decide) (fun c_8 => ?_) (fun c_8 => ?_)
  · refine lv_iload_n hx hb dX8_done_24 rfl (lv_at hl 0 rfl) ?_
    refine lv_if_eq (tgt := 34) hx hb dX8_done_25 (by decide) (fun c_25 => by exact absurd c_25 c_8) (fun c_25 => ?_)
    refine lv_aload_n hx hb dX8_done_28 rfl (lv_at hl 1 rfl) ?_
    refine lv_iload_n hx hb dX8_done_29 rfl (lv_at hl 0 rfl) ?_
    refine f_iV (n := 1) X hP hS [.int (a_X8_barsOfDay M L s1 n)] [] (c_X8_no l E M L (a_X8_barsOfDay M L s1 n) bars_rg) m_5_84 wi_X8_no rfl rfl (by decide) (by decide +kernel) ⟨Nat.le_of_ble_eq_true rfl, Nat.le_of_ble_eq_true rfl⟩ rfl hl rfl (Nat.le_of_ble_eq_true rfl) ⟨Nat.zero_le _, Nat.zero_le _⟩ dX8_done_30 (fun H locs hP hS => ?_)
    refine f_ir X hlk hr (v := (a_X8_barsOfDay M L s1 n)) rfl hP hS ?_ dX8_done_33
    unfold a_X8_done
    (first | rw [if_pos c_8] | rw [if_neg c_8] | rw [if_neg (Bool.eq_false_iff.mp c_8)] | skip)
    (try dsimp only)
    first
      | done
      | exact ⟨rfl, rfl⟩
      | rfl
      | (simp only [c_8, if_true, if_false, and_self, and_true, true_and, not_true_eq_false, not_false_eq_true, and_false, false_and, or_true, true_or, or_false, false_or, or_self, Bool.false_eq_true, reduceCtorEq, nl10, nl20, nl30, nl40, nl50, nl60, nl70, nl12, nl13, nl21, nl23, nl31, nl32]; first | done | exact ⟨rfl, rfl⟩ | rfl)
      | contradiction
      | (simp only [c_8, if_true, if_false, and_self, and_true, true_and, not_true_eq_false, not_false_eq_true, and_false, false_and, or_true, true_or, or_false, false_or, or_self, Bool.false_eq_true, reduceCtorEq, nl10, nl20, nl30, nl40, nl50, nl60, nl70, nl12, nl13, nl21, nl23, nl31, nl32]; contradiction)
      | (exfalso; simp_all; done)
      | simp_all
  · have b0 := bars0 c_8
    have w0 := wd0 b0.1
    have hi9 : fIx s1 8 s1.toNatClampNeg := fIx_lt 8 w0.1 w0.2.1 (by decide)
    refine lv_aload_n hx hb dX8_done_11 rfl (lv_at hl 1 rfl) ?_
    refine lv_iload_n hx hb dX8_done_12 rfl (lv_at hl 2 rfl) ?_
    refine lv_iload_n hx hb dX8_done_13 rfl (lv_at hl 3 rfl) ?_
    refine f_iV (n := 2) X hP hS [.int s1, .int n] [] (c_X8_wrongIn l E M L s1 n tc s1.toNatClampNeg n.toNatClampNeg htc htc8 hi9 (nI_self 8 ⟨b0.2.1, b0.2.2.1⟩ (by decide)).1 (nI_self 8 ⟨b0.2.1, b0.2.2.1⟩ (by decide)).2) m_6_80 wi_X8_wrongIn rfl rfl (by decide) (by decide +kernel) ⟨Nat.le_of_ble_eq_true rfl, Nat.le_of_ble_eq_true rfl⟩ rfl hl rfl (Nat.le_of_ble_eq_true rfl) ⟨Nat.zero_le _, Nat.zero_le _⟩ dX8_done_14 (fun H locs hP hS => ?_)
    refine lv_iconst (v := (-1)) hx hb dX8_done_17 (by decide) ?_
    refine lv_icmp_eq (tgt := 24) hx hb dX8_done_18 (by decide) (fun c_18 => ?_) (fun c_18 => ?_)
    · refine lv_iload_n hx hb dX8_done_24 rfl (lv_at hl 0 rfl) ?_
      refine lv_if_eq (tgt := 34) hx hb dX8_done_25 (by decide) (fun c_25 => ?_) (fun c_25 => by exact absurd c_8 c_25)
      refine lv_aload_n hx hb dX8_done_34 rfl (lv_at hl 1 rfl) ?_
      refine lv_dup hx hb dX8_done_35 rfl ?_
      refine f_get X hP (T := TX8) (ci := 8) (k := 86) rfl inX8 rfl 4 (by decide) m_4_178 rfl (v := .int ((a_X8_wrongIn M L s1 n tc s1.toNatClampNeg n.toNatClampNeg).2.1 86 4)) rfl dX8_done_36 ?_
      refine lv_aload_n hx hb dX8_done_39 rfl (lv_at hl 1 rfl) ?_
      refine f_get X hP (T := TX8) (ci := 8) (k := 86) rfl inX8 rfl 42 (by decide) m_4_216 rfl (v := .int ((a_X8_wrongIn M L s1 n tc s1.toNatClampNeg n.toNatClampNeg).2.1 86 42)) rfl dX8_done_40 ?_
      refine lv_iadd hx hb dX8_done_43 ?_
      refine f_put X hP hS (T := TX8) (ci := 8) (k := 86) rfl inX8 rfl tyX8 tyX8_ok nmX8 4 (by decide) m_4_178 ⟨rfl, rfl⟩ rfl (v := (((a_X8_wrongIn M L s1 n tc s1.toNatClampNeg n.toNatClampNeg).2.1 86 4) + ((a_X8_wrongIn M L s1 n tc s1.toNatClampNeg n.toNatClampNeg).2.1 86 42))) rfl rfl dX8_done_44 (fun H locs hP hS => ?_)
      refine lv_aload_n hx hb dX8_done_47 rfl (lv_at hl 1 rfl) ?_
      refine lv_dup hx hb dX8_done_48 rfl ?_
      refine f_get X hP (T := TX8) (ci := 8) (k := 86) rfl inX8 rfl 3 (by decide) m_4_177 rfl (v := .int ((a_X8_wrongIn M L s1 n tc s1.toNatClampNeg n.toNatClampNeg).2.1 86 3)) (congrArg Value.int (up2_o _ _ (Or.inr (by decide)))) dX8_done_49 ?_
      refine lv_iconst (v := 1) hx hb dX8_done_52 (by decide) ?_
      refine lv_iadd hx hb dX8_done_53 ?_
      refine f_put X hP hS (T := TX8) (ci := 8) (k := 86) rfl inX8 rfl tyX8 tyX8_ok nmX8 3 (by decide) m_4_177 ⟨rfl, rfl⟩ rfl (v := (((a_X8_wrongIn M L s1 n tc s1.toNatClampNeg n.toNatClampNeg).2.1 86 3) + 1)) rfl rfl dX8_done_54 (fun H locs hP hS => ?_)
      refine lv_aload_n hx hb dX8_done_57 rfl (lv_at hl 1 rfl) ?_
      refine f_get X hP (T := TX8) (ci := 8) (k := 86) rfl inX8 rfl 4 (by decide) m_4_178 rfl (v := .int (((a_X8_wrongIn M L s1 n tc s1.toNatClampNeg n.toNatClampNeg).2.1 86 4) + ((a_X8_wrongIn M L s1 n tc s1.toNatClampNeg n.toNatClampNeg).2.1 86 42))) (congrArg Value.int ((up2_o _ _ (Or.inr (by decide))).trans (up2_s _ _ _ _))) dX8_done_58 ?_
      refine f_ir X hlk hr (v := (((a_X8_wrongIn M L s1 n tc s1.toNatClampNeg n.toNatClampNeg).2.1 86 4) + ((a_X8_wrongIn M L s1 n tc s1.toNatClampNeg n.toNatClampNeg).2.1 86 42))) rfl hP hS ?_ dX8_done_61
      unfold a_X8_done
      (first | rw [if_pos c_8] | rw [if_neg c_8] | rw [if_neg (Bool.eq_false_iff.mp c_8)] | skip)
      (first | rw [if_pos c_18] | rw [if_neg c_18] | rw [if_neg (Bool.eq_false_iff.mp c_18)] | skip)
      (try dsimp only)
      first
        | done
        | exact ⟨rfl, rfl⟩
        | rfl
        | (simp only [c_8, c_18, if_true, if_false, and_self, and_true, true_and, not_true_eq_false, not_false_eq_true, and_false, false_and, or_true, true_or, or_false, false_or, or_self, Bool.false_eq_true, reduceCtorEq, nl10, nl20, nl30, nl40, nl50, nl60, nl70, nl12, nl13, nl21, nl23, nl31, nl32]; first | done | exact ⟨rfl, rfl⟩ | rfl)
        | contradiction
        | (simp only [c_8, c_18, if_true, if_false, and_self, and_true, true_and, not_true_eq_false, not_false_eq_true, and_false, false_and, or_true, true_or, or_false, false_or, or_self, Bool.false_eq_true, reduceCtorEq, nl10, nl20, nl30, nl40, nl50, nl60, nl70, nl12, nl13, nl21, nl23, nl31, nl32]; contradiction)
        | (exfalso; simp_all; done)
        | simp_all
    · refine lv_bipush (v := (-6)) hx hb dX8_done_21 (by decide) ?_
      refine lv_istore_n (lv' := [(3, .int (-6)), (0, .ref (fad E 86)), (1, .int s1), (2, .int n)]) hx hb dX8_done_23 rfl hl (by decide) rfl (fun ls hl => ?_)
      refine lv_iload_n hx hb dX8_done_24 rfl (lv_at hl 0 rfl) ?_
      refine lv_if_eq (tgt := 34) hx hb dX8_done_25 (by decide) (fun c_25 => absurd c_25 (by decide)) (fun _ => ?_)
      refine lv_aload_n hx hb dX8_done_28 rfl (lv_at hl 1 rfl) ?_
      refine lv_iload_n hx hb dX8_done_29 rfl (lv_at hl 0 rfl) ?_
      refine f_iV (n := 1) X hP hS [.int (-6)] [] (c_X8_no l E (a_X8_wrongIn M L s1 n tc s1.toNatClampNeg n.toNatClampNeg).2.1 L (-6) (by decide)) m_5_84 wi_X8_no rfl rfl (by decide) (by decide +kernel) ⟨Nat.le_of_ble_eq_true rfl, Nat.le_of_ble_eq_true rfl⟩ rfl hl rfl (Nat.le_of_ble_eq_true rfl) ⟨Nat.zero_le _, Nat.zero_le _⟩ dX8_done_30 (fun H locs hP hS => ?_)
      refine f_ir X hlk hr (v := (-6)) rfl hP hS ?_ dX8_done_33
      unfold a_X8_done
      (first | rw [if_pos c_8] | rw [if_neg c_8] | rw [if_neg (Bool.eq_false_iff.mp c_8)] | skip)
      (first | rw [if_pos c_18] | rw [if_neg c_18] | rw [if_neg (Bool.eq_false_iff.mp c_18)] | skip)
      (try dsimp only)
      first
        | done
        | exact ⟨rfl, rfl⟩
        | rfl
        | (simp only [c_8, c_18, if_true, if_false, and_self, and_true, true_and, not_true_eq_false, not_false_eq_true, and_false, false_and, or_true, true_or, or_false, false_or, or_self, Bool.false_eq_true, reduceCtorEq, nl10, nl20, nl30, nl40, nl50, nl60, nl70, nl12, nl13, nl21, nl23, nl31, nl32]; first | done | exact ⟨rfl, rfl⟩ | rfl)
        | contradiction
        | (simp only [c_8, c_18, if_true, if_false, and_self, and_true, true_and, not_true_eq_false, not_false_eq_true, and_false, false_and, or_true, true_or, or_false, false_or, or_self, Bool.false_eq_true, reduceCtorEq, nl10, nl20, nl30, nl40, nl50, nl60, nl70, nl12, nl13, nl21, nl23, nl31, nl32]; contradiction)
        | (exfalso; simp_all; done)
        | simp_all
