def a_X8_copy (M : Nat → Nat → Int32) (L : Nat → Nat → Int64) (p1 : Int32) (q1 : Int32) (i : Int32) (j : Int32) (n : Int32) : fR := (if (0 ≤ p1 ∧ p1 < 8) then (if (0 ≤ q1 ∧ q1 < 8) then (if (M 100 p1.toNatClampNeg) = 2 then ((-2), (noM M (-2)), L) else (if (M 100 q1.toNatClampNeg) = 2 then ((-2), (noM M (-2)), L) else (if (M 100 p1.toNatClampNeg) = 1 then (if (M 100 q1.toNatClampNeg) = 1 then (if (M 101 p1.toNatClampNeg) = (M 101 q1.toNatClampNeg) then (if 0 ≤ n then (if i < 0 then ((-5), (noM M (-5)), L) else (if j < 0 then ((-5), (noM M (-5)), L) else (if ((M 102 p1.toNatClampNeg) - n) < i then ((-5), (noM M (-5)), L) else (if j ≤ ((M 102 q1.toNatClampNeg) - n) then (1, M, (cwL (crL L p1.toNatClampNeg i.toNatClampNeg n.toNatClampNeg) q1.toNatClampNeg j.toNatClampNeg n.toNatClampNeg)) else ((-5), (noM M (-5)), L))))) else ((-4), (noM M (-4)), L)) else ((-2), (noM M (-2)), L)) else (if (M 100 q1.toNatClampNeg) = 0 then ((-3), (noM M (-3)), L) else (if 0 ≤ n then (if i < 0 then ((-5), (noM M (-5)), L) else (if j < 0 then ((-5), (noM M (-5)), L) else (if ((M 102 p1.toNatClampNeg) - n) < i then ((-5), (noM M (-5)), L) else (if j ≤ ((M 102 q1.toNatClampNeg) - n) then (1, M, (cwL (crL L p1.toNatClampNeg i.toNatClampNeg n.toNatClampNeg) q1.toNatClampNeg j.toNatClampNeg n.toNatClampNeg)) else ((-5), (noM M (-5)), L))))) else ((-4), (noM M (-4)), L)))) else (if (M 100 p1.toNatClampNeg) = 0 then ((-3), (noM M (-3)), L) else (if (M 100 q1.toNatClampNeg) = 0 then ((-3), (noM M (-3)), L) else (if 0 ≤ n then (if i < 0 then ((-5), (noM M (-5)), L) else (if j < 0 then ((-5), (noM M (-5)), L) else (if ((M 102 p1.toNatClampNeg) - n) < i then ((-5), (noM M (-5)), L) else (if j ≤ ((M 102 q1.toNatClampNeg) - n) then (1, M, (cwL (crL L p1.toNatClampNeg i.toNatClampNeg n.toNatClampNeg) q1.toNatClampNeg j.toNatClampNeg n.toNatClampNeg)) else ((-5), (noM M (-5)), L))))) else ((-4), (noM M (-4)), L))))))) else ((-1), (noM M (-1)), L)) else ((-1), (noM M (-1)), L))
set_option maxHeartbeats 4000000 in
set_option maxRecDepth 100000 in
theorem c_X8_copy (l : Launch) (E : fE) (M : Nat → Nat → Int32) (L : Nat → Nat → Int64) (p1 : Int32) (q1 : Int32) (i : Int32) (j : Int32) (n : Int32) (hzz : ∀ s, s < 8 → 0 ≤ M 102 s ∧ M 102 s ≤ 160) : Met l yX8_copy (wl yX8_copy cX8_copy 7 (some .int)) (fRm 1 21) (va_Pc [.ref (fad E 86), .int p1, .int q1, .int i, .int j, .int n] (fPre E M L)) (fQi E (fun r u => u = ((a_X8_copy M L p1 q1 i j n).2.1, (a_X8_copy M L p1 q1 i j n).2.2) ∧ r = (a_X8_copy M L p1 q1 i j n).1)) 0 0 (fA E) := by
  refine f_head (by decide) (Nat.le_of_ble_eq_true rfl) ?_
  intro pg ev s mi below meth cd ls X hr hlk hP hS hl
  have hx := X.1.1
  have hb := X.1.2.1
  have hl : lv_has ls 7 [(0, .ref (fad E 86)), (1, .int p1), (2, .int q1), (3, .int i), (4, .int j), (5, .int n)] := hl
  refine lv_aload_n hx hb dX8_copy_0 rfl (lv_at hl 0 rfl) ?_
  refine lv_iload_n hx hb dX8_copy_1 rfl (lv_at hl 1 rfl) ?_
  refine f_iV (n := 1) X hP hS [.int p1] [] (c_X8_isShelf l E M L p1) m_5_80 wi_X8_isShelf rfl rfl (by decide) (by decide +kernel) ⟨Nat.le_of_ble_eq_true rfl, Nat.le_of_ble_eq_true rfl⟩ rfl hl rfl (Nat.le_of_ble_eq_true rfl) ⟨Nat.zero_le _, Nat.zero_le _⟩ dX8_copy_2 (fun H locs hP hS => ?_)
  refine lv_if_eq (tgt := 16) hx hb dX8_copy_5 (by decide) (fun c_5 => ?_) (fun c_5 => ?_)
  · have c_5 := bI0 c_5
    refine lv_aload_n hx hb dX8_copy_16 rfl (lv_at hl 0 rfl) ?_
    refine lv_iconst (v := (-1)) hx hb dX8_copy_17 (by decide) ?_
    refine f_iV (n := 1) X hP hS [.int (-1)] [] (c_X8_no l E M L (-1) (by decide)) m_5_84 wi_X8_no rfl rfl (by decide) (by decide +kernel) ⟨Nat.le_of_ble_eq_true rfl, Nat.le_of_ble_eq_true rfl⟩ rfl hl rfl (Nat.le_of_ble_eq_true rfl) ⟨Nat.zero_le _, Nat.zero_le _⟩ dX8_copy_18 (fun H locs hP hS => ?_)
    refine f_ir X hlk hr (v := (-1)) rfl hP hS ?_ dX8_copy_21
    unfold a_X8_copy
    (first | rw [if_pos c_5] | rw [if_neg c_5] | rw [if_neg (Bool.eq_false_iff.mp c_5)] | skip)
    (try dsimp only)
    first
      | done
      | exact ⟨rfl, rfl⟩
      | rfl
      | (simp only [c_5, if_true, if_false, and_self, and_true, true_and, not_true_eq_false, not_false_eq_true, and_false, false_and, or_true, true_or, or_false, false_or, or_self, Bool.false_eq_true, reduceCtorEq, nl10, nl20, nl30, nl40, nl50, nl60, nl70, nl12, nl13, nl21, nl23, nl31, nl32]; first | done | exact ⟨rfl, rfl⟩ | rfl)
      | contradiction
      | (simp only [c_5, if_true, if_false, and_self, and_true, true_and, not_true_eq_false, not_false_eq_true, and_false, false_and, or_true, true_or, or_false, false_or, or_self, Bool.false_eq_true, reduceCtorEq, nl10, nl20, nl30, nl40, nl50, nl60, nl70, nl12, nl13, nl21, nl23, nl31, nl32]; contradiction)
      | (exfalso; simp_all; done)
      | simp_all
  · have c_5 := bI1 c_5
    refine lv_aload_n hx hb dX8_copy_8 rfl (lv_at hl 0 rfl) ?_
    refine lv_iload_n hx hb dX8_copy_9 rfl (lv_at hl 2 rfl) ?_
    refine f_iV (n := 1) X hP hS [.int q1] [] (c_X8_isShelf l E M L q1) m_5_80 wi_X8_isShelf rfl rfl (by decide) (by decide +kernel) ⟨Nat.le_of_ble_eq_true rfl, Nat.le_of_ble_eq_true rfl⟩ rfl hl rfl (Nat.le_of_ble_eq_true rfl) ⟨Nat.zero_le _, Nat.zero_le _⟩ dX8_copy_10 (fun H locs hP hS => ?_)
    refine lv_if_ne (tgt := 22) hx hb dX8_copy_13 (by decide) (fun c_13 => ?_) (fun c_13 => ?_)
    · have c_13 := bI1 c_13
      refine lv_aload_n hx hb dX8_copy_22 rfl (lv_at hl 0 rfl) ?_
      refine f_get X hP (T := TX8) (ci := 8) (k := 86) rfl inX8 rfl 21 (by decide) m_4_195 rfl (v := .ref (fad E 100)) rfl dX8_copy_23 ?_
      refine lv_iload_n hx hb dX8_copy_26 rfl (lv_at hl 1 rfl) ?_
      have hix_1 : fIx p1 8 p1.toNatClampNeg := by
        first
          | exact fIx_lt 8 c_5.1 c_5.2 (by decide)
          | exact fIx_lt 8 c_13.1 c_13.2 (by decide)
          | exact fIx_le 7 c_5.1 c_5.2 (by decide)
          | exact fIx_le 7 c_13.1 c_13.2 (by decide)
          | exact fIx_lt 8 c_5.1 c_5.2.2 (by decide)
          | exact fIx_lt 8 c_13.1 c_13.2.2 (by decide)
          | exact fIx_le 7 (rr0 c_5).1.1 (rr0 c_5).1.2 (by decide)
          | exact fIx_le 7 (rr0 c_13).1.1 (rr0 c_13).1.2 (by decide)
          | (refine fIx_lt 8 (show (0 : Int32) ≤ p1 from ?_) (show p1 < (8 : Int32) from ?_) (by decide) <;> (have e0_9 : (0 : Int32).toInt = 0 := rfl; have en_9 : (8 : Int32).toInt = 8 := rfl; simp only [Int32.lt_iff_toInt_lt, Int32.le_iff_toInt_le, Int32.not_lt, Int32.not_le, ← Int32.toInt_inj] at *; omega))
      have hlt_1 := hix_1.2.2
      refine f_iald X hP (k := 100) (n := 8) (q := p1.toNatClampNeg) rfl rfl hix_1 dX8_copy_27 ?_
      refine lv_iconst (v := 2) hx hb dX8_copy_28 (by decide) ?_
      refine lv_icmp_eq (tgt := 77) hx hb dX8_copy_29 (by decide) (fun c_29 => ?_) (fun c_29 => ?_)
      · refine lv_aload_n hx hb dX8_copy_77 rfl (lv_at hl 0 rfl) ?_
        refine lv_bipush (v := (-2)) hx hb dX8_copy_78 (by decide) ?_
        refine f_iV (n := 1) X hP hS [.int (-2)] [] (c_X8_no l E M L (-2) (by decide)) m_5_84 wi_X8_no rfl rfl (by decide) (by decide +kernel) ⟨Nat.le_of_ble_eq_true rfl, Nat.le_of_ble_eq_true rfl⟩ rfl hl rfl (Nat.le_of_ble_eq_true rfl) ⟨Nat.zero_le _, Nat.zero_le _⟩ dX8_copy_80 (fun H locs hP hS => ?_)
        refine f_ir X hlk hr (v := (-2)) rfl hP hS ?_ dX8_copy_83
        unfold a_X8_copy
        (first | rw [if_pos c_5] | rw [if_neg c_5] | rw [if_neg (Bool.eq_false_iff.mp c_5)] | skip)
        (first | rw [if_pos c_13] | rw [if_neg c_13] | rw [if_neg (Bool.eq_false_iff.mp c_13)] | skip)
        (first | rw [if_pos c_29] | rw [if_neg c_29] | rw [if_neg (Bool.eq_false_iff.mp c_29)] | skip)
        (try dsimp only)
        first
          | done
          | exact ⟨rfl, rfl⟩
          | rfl
          | (simp only [c_5, c_13, c_29, if_true, if_false, and_self, and_true, true_and, not_true_eq_false, not_false_eq_true, and_false, false_and, or_true, true_or, or_false, false_or, or_self, Bool.false_eq_true, reduceCtorEq, nl10, nl20, nl30, nl40, nl50, nl60, nl70, nl12, nl13, nl21, nl23, nl31, nl32]; first | done | exact ⟨rfl, rfl⟩ | rfl)
          | contradiction
          | (simp only [c_5, c_13, c_29, if_true, if_false, and_self, and_true, true_and, not_true_eq_false, not_false_eq_true, and_false, false_and, or_true, true_or, or_false, false_or, or_self, Bool.false_eq_true, reduceCtorEq, nl10, nl20, nl30, nl40, nl50, nl60, nl70, nl12, nl13, nl21, nl23, nl31, nl32]; contradiction)
          | (exfalso; simp_all; done)
          | simp_all
      · refine lv_aload_n hx hb dX8_copy_32 rfl (lv_at hl 0 rfl) ?_
        refine f_get X hP (T := TX8) (ci := 8) (k := 86) rfl inX8 rfl 21 (by decide) m_4_195 rfl (v := .ref (fad E 100)) rfl dX8_copy_33 ?_
        refine lv_iload_n hx hb dX8_copy_36 rfl (lv_at hl 2 rfl) ?_
        have hix_2 : fIx q1 8 q1.toNatClampNeg := by
          first
            | exact fIx_lt 8 c_5.1 c_5.2 (by decide)
            | exact fIx_lt 8 c_13.1 c_13.2 (by decide)
            | exact fIx_lt 8 c_29.1 c_29.2 (by decide)
            | exact fIx_le 7 c_5.1 c_5.2 (by decide)
            | exact fIx_le 7 c_13.1 c_13.2 (by decide)
            | exact fIx_le 7 c_29.1 c_29.2 (by decide)
            | exact fIx_lt 8 c_5.1 c_5.2.2 (by decide)
            | exact fIx_lt 8 c_13.1 c_13.2.2 (by decide)
            | exact fIx_lt 8 c_29.1 c_29.2.2 (by decide)
            | exact fIx_le 7 (rr0 c_5).1.1 (rr0 c_5).1.2 (by decide)
            | exact fIx_le 7 (rr0 c_13).1.1 (rr0 c_13).1.2 (by decide)
            | exact fIx_le 7 (rr0 c_29).1.1 (rr0 c_29).1.2 (by decide)
            | (refine fIx_lt 8 (show (0 : Int32) ≤ q1 from ?_) (show q1 < (8 : Int32) from ?_) (by decide) <;> (have e0_9 : (0 : Int32).toInt = 0 := rfl; have en_9 : (8 : Int32).toInt = 8 := rfl; simp only [Int32.lt_iff_toInt_lt, Int32.le_iff_toInt_le, Int32.not_lt, Int32.not_le, ← Int32.toInt_inj] at *; omega))
        have hlt_2 := hix_2.2.2
        refine f_iald X hP (k := 100) (n := 8) (q := q1.toNatClampNeg) rfl rfl hix_2 dX8_copy_37 ?_
        refine lv_iconst (v := 2) hx hb dX8_copy_38 (by decide) ?_
        refine lv_icmp_eq (tgt := 77) hx hb dX8_copy_39 (by decide) (fun c_39 => ?_) (fun c_39 => ?_)
        · refine lv_aload_n hx hb dX8_copy_77 rfl (lv_at hl 0 rfl) ?_
          refine lv_bipush (v := (-2)) hx hb dX8_copy_78 (by decide) ?_
          refine f_iV (n := 1) X hP hS [.int (-2)] [] (c_X8_no l E M L (-2) (by decide)) m_5_84 wi_X8_no rfl rfl (by decide) (by decide +kernel) ⟨Nat.le_of_ble_eq_true rfl, Nat.le_of_ble_eq_true rfl⟩ rfl hl rfl (Nat.le_of_ble_eq_true rfl) ⟨Nat.zero_le _, Nat.zero_le _⟩ dX8_copy_80 (fun H locs hP hS => ?_)
          refine f_ir X hlk hr (v := (-2)) rfl hP hS ?_ dX8_copy_83
          unfold a_X8_copy
          (first | rw [if_pos c_5] | rw [if_neg c_5] | rw [if_neg (Bool.eq_false_iff.mp c_5)] | skip)
          (first | rw [if_pos c_13] | rw [if_neg c_13] | rw [if_neg (Bool.eq_false_iff.mp c_13)] | skip)
          (first | rw [if_pos c_29] | rw [if_neg c_29] | rw [if_neg (Bool.eq_false_iff.mp c_29)] | skip)
          (first | rw [if_pos c_39] | rw [if_neg c_39] | rw [if_neg (Bool.eq_false_iff.mp c_39)] | skip)
          (try dsimp only)
          first
            | done
            | exact ⟨rfl, rfl⟩
            | rfl
            | (simp only [c_5, c_13, c_29, c_39, if_true, if_false, and_self, and_true, true_and, not_true_eq_false, not_false_eq_true, and_false, false_and, or_true, true_or, or_false, false_or, or_self, Bool.false_eq_true, reduceCtorEq, nl10, nl20, nl30, nl40, nl50, nl60, nl70, nl12, nl13, nl21, nl23, nl31, nl32]; first | done | exact ⟨rfl, rfl⟩ | rfl)
            | contradiction
            | (simp only [c_5, c_13, c_29, c_39, if_true, if_false, and_self, and_true, true_and, not_true_eq_false, not_false_eq_true, and_false, false_and, or_true, true_or, or_false, false_or, or_self, Bool.false_eq_true, reduceCtorEq, nl10, nl20, nl30, nl40, nl50, nl60, nl70, nl12, nl13, nl21, nl23, nl31, nl32]; contradiction)
            | (exfalso; simp_all; done)
            | simp_all
        · refine lv_aload_n hx hb dX8_copy_42 rfl (lv_at hl 0 rfl) ?_
          refine f_get X hP (T := TX8) (ci := 8) (k := 86) rfl inX8 rfl 21 (by decide) m_4_195 rfl (v := .ref (fad E 100)) rfl dX8_copy_43 ?_
          refine lv_iload_n hx hb dX8_copy_46 rfl (lv_at hl 1 rfl) ?_
          refine f_iald X hP (k := 100) (n := 8) (q := p1.toNatClampNeg) rfl rfl hix_1 dX8_copy_47 ?_
          refine lv_iconst (v := 1) hx hb dX8_copy_48 (by decide) ?_
          refine lv_icmp_ne (tgt := 84) hx hb dX8_copy_49 (by decide) (fun c_49 => ?_) (fun c_49 => ?_)
          · refine lv_aload_n hx hb dX8_copy_84 rfl (lv_at hl 0 rfl) ?_
            refine f_get X hP (T := TX8) (ci := 8) (k := 86) rfl inX8 rfl 21 (by decide) m_4_195 rfl (v := .ref (fad E 100)) rfl dX8_copy_85 ?_
            refine lv_iload_n hx hb dX8_copy_88 rfl (lv_at hl 1 rfl) ?_
            refine f_iald X hP (k := 100) (n := 8) (q := p1.toNatClampNeg) rfl rfl hix_1 dX8_copy_89 ?_
            refine lv_if_eq (tgt := 102) hx hb dX8_copy_90 (by decide) (fun c_90 => ?_) (fun c_90 => ?_)
            · refine lv_aload_n hx hb dX8_copy_102 rfl (lv_at hl 0 rfl) ?_
              refine lv_bipush (v := (-3)) hx hb dX8_copy_103 (by decide) ?_
              refine f_iV (n := 1) X hP hS [.int (-3)] [] (c_X8_no l E M L (-3) (by decide)) m_5_84 wi_X8_no rfl rfl (by decide) (by decide +kernel) ⟨Nat.le_of_ble_eq_true rfl, Nat.le_of_ble_eq_true rfl⟩ rfl hl rfl (Nat.le_of_ble_eq_true rfl) ⟨Nat.zero_le _, Nat.zero_le _⟩ dX8_copy_105 (fun H locs hP hS => ?_)
              refine f_ir X hlk hr (v := (-3)) rfl hP hS ?_ dX8_copy_108
              unfold a_X8_copy
              (first | rw [if_pos c_5] | rw [if_neg c_5] | rw [if_neg (Bool.eq_false_iff.mp c_5)] | skip)
              (first | rw [if_pos c_13] | rw [if_neg c_13] | rw [if_neg (Bool.eq_false_iff.mp c_13)] | skip)
              (first | rw [if_pos c_29] | rw [if_neg c_29] | rw [if_neg (Bool.eq_false_iff.mp c_29)] | skip)
              (first | rw [if_pos c_39] | rw [if_neg c_39] | rw [if_neg (Bool.eq_false_iff.mp c_39)] | skip)
              (first | rw [if_pos c_49] | rw [if_neg c_49] | rw [if_neg (Bool.eq_false_iff.mp c_49)] | skip)
              (first | rw [if_pos c_90] | rw [if_neg c_90] | rw [if_neg (Bool.eq_false_iff.mp c_90)] | skip)
              (try dsimp only)
              first
                | done
                | exact ⟨rfl, rfl⟩
                | rfl
                | (simp only [c_5, c_13, c_29, c_39, c_49, c_90, if_true, if_false, and_self, and_true, true_and, not_true_eq_false, not_false_eq_true, and_false, false_and, or_true, true_or, or_false, false_or, or_self, Bool.false_eq_true, reduceCtorEq, nl10, nl20, nl30, nl40, nl50, nl60, nl70, nl12, nl13, nl21, nl23, nl31, nl32]; first | done | exact ⟨rfl, rfl⟩ | rfl)
                | contradiction
                | (simp only [c_5, c_13, c_29, c_39, c_49, c_90, if_true, if_false, and_self, and_true, true_and, not_true_eq_false, not_false_eq_true, and_false, false_and, or_true, true_or, or_false, false_or, or_self, Bool.false_eq_true, reduceCtorEq, nl10, nl20, nl30, nl40, nl50, nl60, nl70, nl12, nl13, nl21, nl23, nl31, nl32]; contradiction)
                | (exfalso; simp_all; done)
                | simp_all
            · refine lv_aload_n hx hb dX8_copy_93 rfl (lv_at hl 0 rfl) ?_
              refine f_get X hP (T := TX8) (ci := 8) (k := 86) rfl inX8 rfl 21 (by decide) m_4_195 rfl (v := .ref (fad E 100)) rfl dX8_copy_94 ?_
              refine lv_iload_n hx hb dX8_copy_97 rfl (lv_at hl 2 rfl) ?_
              refine f_iald X hP (k := 100) (n := 8) (q := q1.toNatClampNeg) rfl rfl hix_2 dX8_copy_98 ?_
              refine lv_if_ne (tgt := 109) hx hb dX8_copy_99 (by decide) (fun c_99 => ?_) (fun c_99 => ?_)
              · refine lv_iload hx hb dX8_copy_109 (lv_at hl 5 rfl) ?_
                refine lv_if_ge (tgt := 121) hx hb dX8_copy_111 (by decide) (fun c_111 => ?_) (fun c_111 => ?_)
                · refine lv_iload_n hx hb dX8_copy_121 rfl (lv_at hl 3 rfl) ?_
                  refine lv_if_lt (tgt := 157) hx hb dX8_copy_122 (by decide) (fun c_122 => ?_) (fun c_122 => ?_)
                  · refine lv_aload_n hx hb dX8_copy_157 rfl (lv_at hl 0 rfl) ?_
                    refine lv_bipush (v := (-5)) hx hb dX8_copy_158 (by decide) ?_
                    refine f_iV (n := 1) X hP hS [.int (-5)] [] (c_X8_no l E M L (-5) (by decide)) m_5_84 wi_X8_no rfl rfl (by decide) (by decide +kernel) ⟨Nat.le_of_ble_eq_true rfl, Nat.le_of_ble_eq_true rfl⟩ rfl hl rfl (Nat.le_of_ble_eq_true rfl) ⟨Nat.zero_le _, Nat.zero_le _⟩ dX8_copy_160 (fun H locs hP hS => ?_)
                    refine f_ir X hlk hr (v := (-5)) rfl hP hS ?_ dX8_copy_163
                    unfold a_X8_copy
                    (first | rw [if_pos c_5] | rw [if_neg c_5] | rw [if_neg (Bool.eq_false_iff.mp c_5)] | skip)
                    (first | rw [if_pos c_13] | rw [if_neg c_13] | rw [if_neg (Bool.eq_false_iff.mp c_13)] | skip)
                    (first | rw [if_pos c_29] | rw [if_neg c_29] | rw [if_neg (Bool.eq_false_iff.mp c_29)] | skip)
                    (first | rw [if_pos c_39] | rw [if_neg c_39] | rw [if_neg (Bool.eq_false_iff.mp c_39)] | skip)
                    (first | rw [if_pos c_49] | rw [if_neg c_49] | rw [if_neg (Bool.eq_false_iff.mp c_49)] | skip)
                    (first | rw [if_pos c_90] | rw [if_neg c_90] | rw [if_neg (Bool.eq_false_iff.mp c_90)] | skip)
                    (first | rw [if_pos c_99] | rw [if_neg c_99] | rw [if_neg (Bool.eq_false_iff.mp c_99)] | skip)
                    (first | rw [if_pos c_111] | rw [if_neg c_111] | rw [if_neg (Bool.eq_false_iff.mp c_111)] | skip)
                    (first | rw [if_pos c_122] | rw [if_neg c_122] | rw [if_neg (Bool.eq_false_iff.mp c_122)] | skip)
                    (try dsimp only)
                    first
                      | done
                      | exact ⟨rfl, rfl⟩
                      | rfl
                      | (simp only [c_5, c_13, c_29, c_39, c_49, c_90, c_99, c_111, c_122, if_true, if_false, and_self, and_true, true_and, not_true_eq_false, not_false_eq_true, and_false, false_and, or_true, true_or, or_false, false_or, or_self, Bool.false_eq_true, reduceCtorEq, nl10, nl20, nl30, nl40, nl50, nl60, nl70, nl12, nl13, nl21, nl23, nl31, nl32]; first | done | exact ⟨rfl, rfl⟩ | rfl)
                      | contradiction
                      | (simp only [c_5, c_13, c_29, c_39, c_49, c_90, c_99, c_111, c_122, if_true, if_false, and_self, and_true, true_and, not_true_eq_false, not_false_eq_true, and_false, false_and, or_true, true_or, or_false, false_or, or_self, Bool.false_eq_true, reduceCtorEq, nl10, nl20, nl30, nl40, nl50, nl60, nl70, nl12, nl13, nl21, nl23, nl31, nl32]; contradiction)
                      | (exfalso; simp_all; done)
                      | simp_all
                  · refine lv_iload hx hb dX8_copy_125 (lv_at hl 4 rfl) ?_
                    refine lv_if_lt (tgt := 157) hx hb dX8_copy_127 (by decide) (fun c_127 => ?_) (fun c_127 => ?_)
                    · refine lv_aload_n hx hb dX8_copy_157 rfl (lv_at hl 0 rfl) ?_
                      refine lv_bipush (v := (-5)) hx hb dX8_copy_158 (by decide) ?_
                      refine f_iV (n := 1) X hP hS [.int (-5)] [] (c_X8_no l E M L (-5) (by decide)) m_5_84 wi_X8_no rfl rfl (by decide) (by decide +kernel) ⟨Nat.le_of_ble_eq_true rfl, Nat.le_of_ble_eq_true rfl⟩ rfl hl rfl (Nat.le_of_ble_eq_true rfl) ⟨Nat.zero_le _, Nat.zero_le _⟩ dX8_copy_160 (fun H locs hP hS => ?_)
                      refine f_ir X hlk hr (v := (-5)) rfl hP hS ?_ dX8_copy_163
                      unfold a_X8_copy
                      (first | rw [if_pos c_5] | rw [if_neg c_5] | rw [if_neg (Bool.eq_false_iff.mp c_5)] | skip)
                      (first | rw [if_pos c_13] | rw [if_neg c_13] | rw [if_neg (Bool.eq_false_iff.mp c_13)] | skip)
                      (first | rw [if_pos c_29] | rw [if_neg c_29] | rw [if_neg (Bool.eq_false_iff.mp c_29)] | skip)
                      (first | rw [if_pos c_39] | rw [if_neg c_39] | rw [if_neg (Bool.eq_false_iff.mp c_39)] | skip)
                      (first | rw [if_pos c_49] | rw [if_neg c_49] | rw [if_neg (Bool.eq_false_iff.mp c_49)] | skip)
                      (first | rw [if_pos c_90] | rw [if_neg c_90] | rw [if_neg (Bool.eq_false_iff.mp c_90)] | skip)
                      (first | rw [if_pos c_99] | rw [if_neg c_99] | rw [if_neg (Bool.eq_false_iff.mp c_99)] | skip)
                      (first | rw [if_pos c_111] | rw [if_neg c_111] | rw [if_neg (Bool.eq_false_iff.mp c_111)] | skip)
                      (first | rw [if_pos c_122] | rw [if_neg c_122] | rw [if_neg (Bool.eq_false_iff.mp c_122)] | skip)
                      (first | rw [if_pos c_127] | rw [if_neg c_127] | rw [if_neg (Bool.eq_false_iff.mp c_127)] | skip)
                      (try dsimp only)
                      first
                        | done
                        | exact ⟨rfl, rfl⟩
                        | rfl
                        | (simp only [c_5, c_13, c_29, c_39, c_49, c_90, c_99, c_111, c_122, c_127, if_true, if_false, and_self, and_true, true_and, not_true_eq_false, not_false_eq_true, and_false, false_and, or_true, true_or, or_false, false_or, or_self, Bool.false_eq_true, reduceCtorEq, nl10, nl20, nl30, nl40, nl50, nl60, nl70, nl12, nl13, nl21, nl23, nl31, nl32]; first | done | exact ⟨rfl, rfl⟩ | rfl)
                        | contradiction
                        | (simp only [c_5, c_13, c_29, c_39, c_49, c_90, c_99, c_111, c_122, c_127, if_true, if_false, and_self, and_true, true_and, not_true_eq_false, not_false_eq_true, and_false, false_and, or_true, true_or, or_false, false_or, or_self, Bool.false_eq_true, reduceCtorEq, nl10, nl20, nl30, nl40, nl50, nl60, nl70, nl12, nl13, nl21, nl23, nl31, nl32]; contradiction)
                        | (exfalso; simp_all; done)
                        | simp_all
                    · refine lv_iload_n hx hb dX8_copy_130 rfl (lv_at hl 3 rfl) ?_
                      refine lv_aload_n hx hb dX8_copy_131 rfl (lv_at hl 0 rfl) ?_
                      refine f_get X hP (T := TX8) (ci := 8) (k := 86) rfl inX8 rfl 23 (by decide) m_4_197 rfl (v := .ref (fad E 102)) rfl dX8_copy_132 ?_
                      refine lv_iload_n hx hb dX8_copy_135 rfl (lv_at hl 1 rfl) ?_
                      refine f_iald X hP (k := 102) (n := 8) (q := p1.toNatClampNeg) rfl rfl hix_1 dX8_copy_136 ?_
                      refine lv_iload hx hb dX8_copy_137 (lv_at hl 5 rfl) ?_
                      refine lv_isub hx hb dX8_copy_139 ?_
                      refine lv_icmp_gt (tgt := 157) hx hb dX8_copy_140 (by decide) (fun c_140 => ?_) (fun c_140 => ?_)
                      · refine lv_aload_n hx hb dX8_copy_157 rfl (lv_at hl 0 rfl) ?_
                        refine lv_bipush (v := (-5)) hx hb dX8_copy_158 (by decide) ?_
                        refine f_iV (n := 1) X hP hS [.int (-5)] [] (c_X8_no l E M L (-5) (by decide)) m_5_84 wi_X8_no rfl rfl (by decide) (by decide +kernel) ⟨Nat.le_of_ble_eq_true rfl, Nat.le_of_ble_eq_true rfl⟩ rfl hl rfl (Nat.le_of_ble_eq_true rfl) ⟨Nat.zero_le _, Nat.zero_le _⟩ dX8_copy_160 (fun H locs hP hS => ?_)
                        refine f_ir X hlk hr (v := (-5)) rfl hP hS ?_ dX8_copy_163
                        unfold a_X8_copy
                        (first | rw [if_pos c_5] | rw [if_neg c_5] | rw [if_neg (Bool.eq_false_iff.mp c_5)] | skip)
                        (first | rw [if_pos c_13] | rw [if_neg c_13] | rw [if_neg (Bool.eq_false_iff.mp c_13)] | skip)
                        (first | rw [if_pos c_29] | rw [if_neg c_29] | rw [if_neg (Bool.eq_false_iff.mp c_29)] | skip)
                        (first | rw [if_pos c_39] | rw [if_neg c_39] | rw [if_neg (Bool.eq_false_iff.mp c_39)] | skip)
                        (first | rw [if_pos c_49] | rw [if_neg c_49] | rw [if_neg (Bool.eq_false_iff.mp c_49)] | skip)
                        (first | rw [if_pos c_90] | rw [if_neg c_90] | rw [if_neg (Bool.eq_false_iff.mp c_90)] | skip)
                        (first | rw [if_pos c_99] | rw [if_neg c_99] | rw [if_neg (Bool.eq_false_iff.mp c_99)] | skip)
                        (first | rw [if_pos c_111] | rw [if_neg c_111] | rw [if_neg (Bool.eq_false_iff.mp c_111)] | skip)
                        (first | rw [if_pos c_122] | rw [if_neg c_122] | rw [if_neg (Bool.eq_false_iff.mp c_122)] | skip)
                        (first | rw [if_pos c_127] | rw [if_neg c_127] | rw [if_neg (Bool.eq_false_iff.mp c_127)] | skip)
                        (first | rw [if_pos c_140] | rw [if_neg c_140] | rw [if_neg (Bool.eq_false_iff.mp c_140)] | skip)
                        (try dsimp only)
                        first
                          | done
                          | exact ⟨rfl, rfl⟩
                          | rfl
                          | (simp only [c_5, c_13, c_29, c_39, c_49, c_90, c_99, c_111, c_122, c_127, c_140, if_true, if_false, and_self, and_true, true_and, not_true_eq_false, not_false_eq_true, and_false, false_and, or_true, true_or, or_false, false_or, or_self, Bool.false_eq_true, reduceCtorEq, nl10, nl20, nl30, nl40, nl50, nl60, nl70, nl12, nl13, nl21, nl23, nl31, nl32]; first | done | exact ⟨rfl, rfl⟩ | rfl)
                          | contradiction
                          | (simp only [c_5, c_13, c_29, c_39, c_49, c_90, c_99, c_111, c_122, c_127, c_140, if_true, if_false, and_self, and_true, true_and, not_true_eq_false, not_false_eq_true, and_false, false_and, or_true, true_or, or_false, false_or, or_self, Bool.false_eq_true, reduceCtorEq, nl10, nl20, nl30, nl40, nl50, nl60, nl70, nl12, nl13, nl21, nl23, nl31, nl32]; contradiction)
                          | (exfalso; simp_all; done)
                          | simp_all
                      · refine lv_iload hx hb dX8_copy_143 (lv_at hl 4 rfl) ?_
                        refine lv_aload_n hx hb dX8_copy_145 rfl (lv_at hl 0 rfl) ?_
                        refine f_get X hP (T := TX8) (ci := 8) (k := 86) rfl inX8 rfl 23 (by decide) m_4_197 rfl (v := .ref (fad E 102)) rfl dX8_copy_146 ?_
                        refine lv_iload_n hx hb dX8_copy_149 rfl (lv_at hl 2 rfl) ?_
                        refine f_iald X hP (k := 102) (n := 8) (q := q1.toNatClampNeg) rfl rfl hix_2 dX8_copy_150 ?_
                        refine lv_iload hx hb dX8_copy_151 (lv_at hl 5 rfl) ?_
                        refine lv_isub hx hb dX8_copy_153 ?_
                        refine lv_icmp_le (tgt := 164) hx hb dX8_copy_154 (by decide) (fun c_154 => ?_) (fun c_154 => ?_)
                        · have en : n = nI n.toNatClampNeg := n_self c_111
                          have hpi := part_2 (Int32.not_lt.mp c_122) (Int32.not_lt.mp c_140) c_111 (hzz _ (by omega))
                          have hpj := part_2 (Int32.not_lt.mp c_127) c_154 c_111 (hzz _ (by omega))
                          have hl : lv_has ls 7 [(0, .ref (fad E 86)), (1, .int p1), (2, .int q1), (3, .int i), (4, .int j), (5, .int (nI n.toNatClampNeg))] := by rw [← en]; exact hl
                          have hP := fP_eqL (show L = (crL L p1.toNatClampNeg i.toNatClampNeg 0) from by
                              exact crL_0) hP
                          refine lv_iconst (v := 0) hx hb dX8_copy_164 (by decide) ?_
                          refine lv_istore (lv' := [(6, .int 0), (0, .ref (fad E 86)), (1, .int p1), (2, .int q1), (3, .int i), (4, .int j), (5, .int (nI n.toNatClampNeg))]) hx hb dX8_copy_165 hl (by decide) rfl (fun ls hl => ?_)
                          refine f_loop (α := Nat) (fun (k : Nat) H locs ls => fP E M (crL L p1.toNatClampNeg i.toNatClampNeg k) H ∧ va_S (fA E) s.heap H locs ∧ lv_has ls 7 [(6, .int (nI k)), (0, .ref (fad E 86)), (1, .int p1), (2, .int q1), (3, .int i), (4, .int j), (5, .int (nI n.toNatClampNeg))] ∧ (k ≤ n.toNatClampNeg)) (fun (k : Nat) => n.toNatClampNeg - k) (pc0 := 167) (st := fun _ => []) ?_ 0 _ _ _ ⟨hP, hS, lv_sub hl [0, 1, 2, 3, 4, 5, 6] rfl, (by omega)⟩
                          rintro k H locs ls ⟨hP, hS, hl, ht⟩ ih_167
                          refine lv_iload hx hb dX8_copy_167 (lv_at hl 0 rfl) ?_
                          refine lv_iload hx hb dX8_copy_169 (lv_at hl 6 rfl) ?_
                          refine lv_icmp_ge (tgt := 202) hx hb dX8_copy_171 (by decide) (fun c_171 => ?_) (fun c_171 => ?_)
                          · have c_171 := (nI_le_iff (a := n.toNatClampNeg) (b := k) (by omega) (by omega)).mp c_171
                            obtain hk9 : k = n.toNatClampNeg := by omega
                            have hP := fP_eqL (show (crL L p1.toNatClampNeg i.toNatClampNeg k) = (crL L p1.toNatClampNeg i.toNatClampNeg n.toNatClampNeg) from by
                                rw [hk9]) hP
                            have hP := fP_eqL (show (crL L p1.toNatClampNeg i.toNatClampNeg n.toNatClampNeg) = (cwL (crL L p1.toNatClampNeg i.toNatClampNeg n.toNatClampNeg) q1.toNatClampNeg j.toNatClampNeg 0) from by
                                exact cwL_0) hP
                            refine lv_iconst (v := 0) hx hb dX8_copy_202 (by decide) ?_
                            refine lv_istore (lv' := [(6, .int 0), (0, .ref (fad E 86)), (1, .int p1), (2, .int q1), (3, .int i), (4, .int j), (5, .int (nI n.toNatClampNeg))]) hx hb dX8_copy_203 hl (by decide) rfl (fun ls hl => ?_)
                            refine f_loop (α := Nat) (fun (k : Nat) H locs ls => fP E M (cwL (crL L p1.toNatClampNeg i.toNatClampNeg n.toNatClampNeg) q1.toNatClampNeg j.toNatClampNeg k) H ∧ va_S (fA E) s.heap H locs ∧ lv_has ls 7 [(6, .int (nI k)), (0, .ref (fad E 86)), (1, .int p1), (2, .int q1), (3, .int i), (4, .int j), (5, .int (nI n.toNatClampNeg))] ∧ (k ≤ n.toNatClampNeg)) (fun (k : Nat) => n.toNatClampNeg - k) (pc0 := 205) (st := fun _ => []) ?_ 0 _ _ _ ⟨hP, hS, lv_sub hl [0, 1, 2, 3, 4, 5, 6] rfl, (by omega)⟩
                            rintro k H locs ls ⟨hP, hS, hl, ht⟩ ih_205
                            refine lv_iload hx hb dX8_copy_205 (lv_at hl 0 rfl) ?_
                            refine lv_iload hx hb dX8_copy_207 (lv_at hl 6 rfl) ?_
                            refine lv_icmp_ge (tgt := 241) hx hb dX8_copy_209 (by decide) (fun c_209 => ?_) (fun c_209 => ?_)
                            · have c_209 := (nI_le_iff (a := n.toNatClampNeg) (b := k) (by omega) (by omega)).mp c_209
                              obtain hk9 : k = n.toNatClampNeg := by omega
                              have hP := fP_eqL (show (cwL (crL L p1.toNatClampNeg i.toNatClampNeg n.toNatClampNeg) q1.toNatClampNeg j.toNatClampNeg k) = (cwL (crL L p1.toNatClampNeg i.toNatClampNeg n.toNatClampNeg) q1.toNatClampNeg j.toNatClampNeg n.toNatClampNeg) from by
                                  rw [hk9]) hP
                              refine lv_iconst (v := 1) hx hb dX8_copy_241 (by decide) ?_
                              refine f_ir X hlk hr (v := 1) rfl hP hS ?_ dX8_copy_242
                              unfold a_X8_copy
                              (first | rw [if_pos c_5] | rw [if_neg c_5] | rw [if_neg (Bool.eq_false_iff.mp c_5)] | skip)
                              (first | rw [if_pos c_13] | rw [if_neg c_13] | rw [if_neg (Bool.eq_false_iff.mp c_13)] | skip)
                              (first | rw [if_pos c_29] | rw [if_neg c_29] | rw [if_neg (Bool.eq_false_iff.mp c_29)] | skip)
                              (first | rw [if_pos c_39] | rw [if_neg c_39] | rw [if_neg (Bool.eq_false_iff.mp c_39)] | skip)
                              (first | rw [if_pos c_49] | rw [if_neg c_49] | rw [if_neg (Bool.eq_false_iff.mp c_49)] | skip)
                              (first | rw [if_pos c_90] | rw [if_neg c_90] | rw [if_neg (Bool.eq_false_iff.mp c_90)] | skip)
                              (first | rw [if_pos c_99] | rw [if_neg c_99] | rw [if_neg (Bool.eq_false_iff.mp c_99)] | skip)
                              (first | rw [if_pos c_111] | rw [if_neg c_111] | rw [if_neg (Bool.eq_false_iff.mp c_111)] | skip)
                              (first | rw [if_pos c_122] | rw [if_neg c_122] | rw [if_neg (Bool.eq_false_iff.mp c_122)] | skip)
                              (first | rw [if_pos c_127] | rw [if_neg c_127] | rw [if_neg (Bool.eq_false_iff.mp c_127)] | skip)
                              (first | rw [if_pos c_140] | rw [if_neg c_140] | rw [if_neg (Bool.eq_false_iff.mp c_140)] | skip)
                              (first | rw [if_pos c_154] | rw [if_neg c_154] | rw [if_neg (Bool.eq_false_iff.mp c_154)] | skip)
                              (first | rw [if_pos c_171] | rw [if_neg c_171] | rw [if_neg (Bool.eq_false_iff.mp c_171)] | skip)
                              (first | rw [if_pos c_209] | rw [if_neg c_209] | rw [if_neg (Bool.eq_false_iff.mp c_209)] | skip)
                              (try dsimp only)
                              first
                                | done
                                | exact ⟨rfl, rfl⟩
                                | rfl
                                | (simp only [c_5, c_13, c_29, c_39, c_49, c_90, c_99, c_111, c_122, c_127, c_140, c_154, c_171, c_209, if_true, if_false, and_self, and_true, true_and, not_true_eq_false, not_false_eq_true, and_false, false_and, or_true, true_or, or_false, false_or, or_self, Bool.false_eq_true, reduceCtorEq, nl10, nl20, nl30, nl40, nl50, nl60, nl70, nl12, nl13, nl21, nl23, nl31, nl32]; first | done | exact ⟨rfl, rfl⟩ | rfl)
                                | contradiction
                                | (simp only [c_5, c_13, c_29, c_39, c_49, c_90, c_99, c_111, c_122, c_127, c_140, c_154, c_171, c_209, if_true, if_false, and_self, and_true, true_and, not_true_eq_false, not_false_eq_true, and_false, false_and, or_true, true_or, or_false, false_or, or_self, Bool.false_eq_true, reduceCtorEq, nl10, nl20, nl30, nl40, nl50, nl60, nl70, nl12, nl13, nl21, nl23, nl31, nl32]; contradiction)
                                | (exfalso; simp_all; done)
                                | simp_all
                            · have c_209 := (not_congr (nI_le_iff (a := n.toNatClampNeg) (b := k) (by omega) (by omega))).mp c_209
                              refine lv_aload_n hx hb dX8_copy_212 rfl (lv_at hl 1 rfl) ?_
                              refine f_get X hP (T := TX8) (ci := 8) (k := 86) rfl inX8 rfl 25 (by decide) m_4_199 rfl (v := .ref (fad E 104)) rfl dX8_copy_213 ?_
                              have hik := fIx_cell3 hix_2 c_127 (show j.toNatClampNeg + k < 160 by omega)
                              refine lv_sipush (v := 160) hx hb dX8_copy_216 (by decide) ?_
                              refine lv_iload_n hx hb dX8_copy_219 rfl (lv_at hl 3 rfl) ?_
                              refine lv_imul hx hb dX8_copy_220 ?_
                              refine lv_iload hx hb dX8_copy_221 (lv_at hl 5 rfl) ?_
                              refine lv_iadd hx hb dX8_copy_223 ?_
                              refine lv_iload hx hb dX8_copy_224 (lv_at hl 0 rfl) ?_
                              refine lv_iadd hx hb dX8_copy_226 ?_
                              refine lv_aload_n hx hb dX8_copy_227 rfl (lv_at hl 1 rfl) ?_
                              refine f_get X hP (T := TX8) (ci := 8) (k := 86) rfl inX8 rfl 26 (by decide) m_4_200 rfl (v := .ref (fad E 105)) rfl dX8_copy_228 ?_
                              refine lv_iload hx hb dX8_copy_231 (lv_at hl 0 rfl) ?_
                              refine f_lald X hP (k := 105) (n := 160) (q := k) rfl rfl (fIx_nI (by omega) (by decide)) dX8_copy_233 ?_
                              refine f_last X hP hS (k := 104) (n := 1280) (q := (160 * q1.toNatClampNeg + j.toNatClampNeg + k)) rfl rfl (v := ((cwL (crL L p1.toNatClampNeg i.toNatClampNeg n.toNatClampNeg) q1.toNatClampNeg j.toNatClampNeg k) 105 k)) hik dX8_copy_234 (fun H locs hP hS => ?_)
                              refine lv_iinc (v := (nI (k + 1))) (lv' := [(6, .int (nI (k + 1))), (0, .ref (fad E 86)), (1, .int p1), (2, .int q1), (3, .int i), (4, .int j), (5, .int (nI n.toNatClampNeg))]) hx hb dX8_copy_235 hl (k := 0) rfl (nI_1 _) (by decide) rfl (fun ls hl => ?_)
                              refine lv_goto (tgt := 205) hx hb dX8_copy_238 (by decide) ?_
                              have hP := fP_eqL (show (upL (cwL (crL L p1.toNatClampNeg i.toNatClampNeg n.toNatClampNeg) q1.toNatClampNeg j.toNatClampNeg k) 104 (160 * q1.toNatClampNeg + j.toNatClampNeg + k) ((cwL (crL L p1.toNatClampNeg i.toNatClampNeg n.toNatClampNeg) q1.toNatClampNeg j.toNatClampNeg k) 105 k)) = (cwL (crL L p1.toNatClampNeg i.toNatClampNeg n.toNatClampNeg) q1.toNatClampNeg j.toNatClampNeg (k + 1)) from by
                                  exact cwL_s) hP
                              exact ih_205 (k + 1) _ _ _ (by show n.toNatClampNeg - (k + 1) < n.toNatClampNeg - k; omega) ⟨hP, hS, lv_sub hl [0, 1, 2, 3, 4, 5, 6] rfl, (by omega)⟩
                          · have c_171 := (not_congr (nI_le_iff (a := n.toNatClampNeg) (b := k) (by omega) (by omega))).mp c_171
                            refine lv_aload_n hx hb dX8_copy_174 rfl (lv_at hl 1 rfl) ?_
                            refine f_get X hP (T := TX8) (ci := 8) (k := 86) rfl inX8 rfl 26 (by decide) m_4_200 rfl (v := .ref (fad E 105)) rfl dX8_copy_175 ?_
                            have hik := fIx_cell3 hix_1 c_122 (show i.toNatClampNeg + k < 160 by omega)
                            refine lv_iload hx hb dX8_copy_178 (lv_at hl 0 rfl) ?_
                            refine lv_aload_n hx hb dX8_copy_180 rfl (lv_at hl 1 rfl) ?_
                            refine f_get X hP (T := TX8) (ci := 8) (k := 86) rfl inX8 rfl 25 (by decide) m_4_199 rfl (v := .ref (fad E 104)) rfl dX8_copy_181 ?_
                            refine lv_sipush (v := 160) hx hb dX8_copy_184 (by decide) ?_
                            refine lv_iload_n hx hb dX8_copy_187 rfl (lv_at hl 2 rfl) ?_
                            refine lv_imul hx hb dX8_copy_188 ?_
                            refine lv_iload_n hx hb dX8_copy_189 rfl (lv_at hl 4 rfl) ?_
                            refine lv_iadd hx hb dX8_copy_190 ?_
                            refine lv_iload hx hb dX8_copy_191 (lv_at hl 0 rfl) ?_
                            refine lv_iadd hx hb dX8_copy_193 ?_
                            refine f_lald X hP (k := 104) (n := 1280) (q := (160 * p1.toNatClampNeg + i.toNatClampNeg + k)) rfl rfl hik dX8_copy_194 ?_
                            refine f_last X hP hS (k := 105) (n := 160) (q := k) rfl rfl (v := ((crL L p1.toNatClampNeg i.toNatClampNeg k) 104 (160 * p1.toNatClampNeg + i.toNatClampNeg + k))) (fIx_nI (by omega) (by decide)) dX8_copy_195 (fun H locs hP hS => ?_)
                            refine lv_iinc (v := (nI (k + 1))) (lv' := [(6, .int (nI (k + 1))), (0, .ref (fad E 86)), (1, .int p1), (2, .int q1), (3, .int i), (4, .int j), (5, .int (nI n.toNatClampNeg))]) hx hb dX8_copy_196 hl (k := 0) rfl (nI_1 _) (by decide) rfl (fun ls hl => ?_)
                            refine lv_goto (tgt := 167) hx hb dX8_copy_199 (by decide) ?_
                            have hP := fP_eqL (show (upL (crL L p1.toNatClampNeg i.toNatClampNeg k) 105 k ((crL L p1.toNatClampNeg i.toNatClampNeg k) 104 (160 * p1.toNatClampNeg + i.toNatClampNeg + k))) = (crL L p1.toNatClampNeg i.toNatClampNeg (k + 1)) from by
                                exact crL_s) hP
                            exact ih_167 (k + 1) _ _ _ (by show n.toNatClampNeg - (k + 1) < n.toNatClampNeg - k; omega) ⟨hP, hS, lv_sub hl [0, 1, 2, 3, 4, 5, 6] rfl, (by omega)⟩
                        · refine lv_aload_n hx hb dX8_copy_157 rfl (lv_at hl 0 rfl) ?_
                          refine lv_bipush (v := (-5)) hx hb dX8_copy_158 (by decide) ?_
                          refine f_iV (n := 1) X hP hS [.int (-5)] [] (c_X8_no l E M L (-5) (by decide)) m_5_84 wi_X8_no rfl rfl (by decide) (by decide +kernel) ⟨Nat.le_of_ble_eq_true rfl, Nat.le_of_ble_eq_true rfl⟩ rfl hl rfl (Nat.le_of_ble_eq_true rfl) ⟨Nat.zero_le _, Nat.zero_le _⟩ dX8_copy_160 (fun H locs hP hS => ?_)
                          refine f_ir X hlk hr (v := (-5)) rfl hP hS ?_ dX8_copy_163
                          unfold a_X8_copy
                          (first | rw [if_pos c_5] | rw [if_neg c_5] | rw [if_neg (Bool.eq_false_iff.mp c_5)] | skip)
                          (first | rw [if_pos c_13] | rw [if_neg c_13] | rw [if_neg (Bool.eq_false_iff.mp c_13)] | skip)
                          (first | rw [if_pos c_29] | rw [if_neg c_29] | rw [if_neg (Bool.eq_false_iff.mp c_29)] | skip)
                          (first | rw [if_pos c_39] | rw [if_neg c_39] | rw [if_neg (Bool.eq_false_iff.mp c_39)] | skip)
                          (first | rw [if_pos c_49] | rw [if_neg c_49] | rw [if_neg (Bool.eq_false_iff.mp c_49)] | skip)
                          (first | rw [if_pos c_90] | rw [if_neg c_90] | rw [if_neg (Bool.eq_false_iff.mp c_90)] | skip)
                          (first | rw [if_pos c_99] | rw [if_neg c_99] | rw [if_neg (Bool.eq_false_iff.mp c_99)] | skip)
                          (first | rw [if_pos c_111] | rw [if_neg c_111] | rw [if_neg (Bool.eq_false_iff.mp c_111)] | skip)
                          (first | rw [if_pos c_122] | rw [if_neg c_122] | rw [if_neg (Bool.eq_false_iff.mp c_122)] | skip)
                          (first | rw [if_pos c_127] | rw [if_neg c_127] | rw [if_neg (Bool.eq_false_iff.mp c_127)] | skip)
                          (first | rw [if_pos c_140] | rw [if_neg c_140] | rw [if_neg (Bool.eq_false_iff.mp c_140)] | skip)
                          (first | rw [if_pos c_154] | rw [if_neg c_154] | rw [if_neg (Bool.eq_false_iff.mp c_154)] | skip)
                          (try dsimp only)
                          first
                            | done
                            | exact ⟨rfl, rfl⟩
                            | rfl
                            | (simp only [c_5, c_13, c_29, c_39, c_49, c_90, c_99, c_111, c_122, c_127, c_140, c_154, if_true, if_false, and_self, and_true, true_and, not_true_eq_false, not_false_eq_true, and_false, false_and, or_true, true_or, or_false, false_or, or_self, Bool.false_eq_true, reduceCtorEq, nl10, nl20, nl30, nl40, nl50, nl60, nl70, nl12, nl13, nl21, nl23, nl31, nl32]; first | done | exact ⟨rfl, rfl⟩ | rfl)
                            | contradiction
                            | (simp only [c_5, c_13, c_29, c_39, c_49, c_90, c_99, c_111, c_122, c_127, c_140, c_154, if_true, if_false, and_self, and_true, true_and, not_true_eq_false, not_false_eq_true, and_false, false_and, or_true, true_or, or_false, false_or, or_self, Bool.false_eq_true, reduceCtorEq, nl10, nl20, nl30, nl40, nl50, nl60, nl70, nl12, nl13, nl21, nl23, nl31, nl32]; contradiction)
                            | (exfalso; simp_all; done)
                            | simp_all
                · refine lv_aload_n hx hb dX8_copy_114 rfl (lv_at hl 0 rfl) ?_
                  refine lv_bipush (v := (-4)) hx hb dX8_copy_115 (by decide) ?_
                  refine f_iV (n := 1) X hP hS [.int (-4)] [] (c_X8_no l E M L (-4) (by decide)) m_5_84 wi_X8_no rfl rfl (by decide) (by decide +kernel) ⟨Nat.le_of_ble_eq_true rfl, Nat.le_of_ble_eq_true rfl⟩ rfl hl rfl (Nat.le_of_ble_eq_true rfl) ⟨Nat.zero_le _, Nat.zero_le _⟩ dX8_copy_117 (fun H locs hP hS => ?_)
                  refine f_ir X hlk hr (v := (-4)) rfl hP hS ?_ dX8_copy_120
                  unfold a_X8_copy
                  (first | rw [if_pos c_5] | rw [if_neg c_5] | rw [if_neg (Bool.eq_false_iff.mp c_5)] | skip)
                  (first | rw [if_pos c_13] | rw [if_neg c_13] | rw [if_neg (Bool.eq_false_iff.mp c_13)] | skip)
                  (first | rw [if_pos c_29] | rw [if_neg c_29] | rw [if_neg (Bool.eq_false_iff.mp c_29)] | skip)
                  (first | rw [if_pos c_39] | rw [if_neg c_39] | rw [if_neg (Bool.eq_false_iff.mp c_39)] | skip)
                  (first | rw [if_pos c_49] | rw [if_neg c_49] | rw [if_neg (Bool.eq_false_iff.mp c_49)] | skip)
                  (first | rw [if_pos c_90] | rw [if_neg c_90] | rw [if_neg (Bool.eq_false_iff.mp c_90)] | skip)
                  (first | rw [if_pos c_99] | rw [if_neg c_99] | rw [if_neg (Bool.eq_false_iff.mp c_99)] | skip)
                  (first | rw [if_pos c_111] | rw [if_neg c_111] | rw [if_neg (Bool.eq_false_iff.mp c_111)] | skip)
                  (try dsimp only)
                  first
                    | done
                    | exact ⟨rfl, rfl⟩
                    | rfl
                    | (simp only [c_5, c_13, c_29, c_39, c_49, c_90, c_99, c_111, if_true, if_false, and_self, and_true, true_and, not_true_eq_false, not_false_eq_true, and_false, false_and, or_true, true_or, or_false, false_or, or_self, Bool.false_eq_true, reduceCtorEq, nl10, nl20, nl30, nl40, nl50, nl60, nl70, nl12, nl13, nl21, nl23, nl31, nl32]; first | done | exact ⟨rfl, rfl⟩ | rfl)
                    | contradiction
                    | (simp only [c_5, c_13, c_29, c_39, c_49, c_90, c_99, c_111, if_true, if_false, and_self, and_true, true_and, not_true_eq_false, not_false_eq_true, and_false, false_and, or_true, true_or, or_false, false_or, or_self, Bool.false_eq_true, reduceCtorEq, nl10, nl20, nl30, nl40, nl50, nl60, nl70, nl12, nl13, nl21, nl23, nl31, nl32]; contradiction)
                    | (exfalso; simp_all; done)
                    | simp_all
              · refine lv_aload_n hx hb dX8_copy_102 rfl (lv_at hl 0 rfl) ?_
                refine lv_bipush (v := (-3)) hx hb dX8_copy_103 (by decide) ?_
                refine f_iV (n := 1) X hP hS [.int (-3)] [] (c_X8_no l E M L (-3) (by decide)) m_5_84 wi_X8_no rfl rfl (by decide) (by decide +kernel) ⟨Nat.le_of_ble_eq_true rfl, Nat.le_of_ble_eq_true rfl⟩ rfl hl rfl (Nat.le_of_ble_eq_true rfl) ⟨Nat.zero_le _, Nat.zero_le _⟩ dX8_copy_105 (fun H locs hP hS => ?_)
                refine f_ir X hlk hr (v := (-3)) rfl hP hS ?_ dX8_copy_108
                unfold a_X8_copy
                (first | rw [if_pos c_5] | rw [if_neg c_5] | rw [if_neg (Bool.eq_false_iff.mp c_5)] | skip)
                (first | rw [if_pos c_13] | rw [if_neg c_13] | rw [if_neg (Bool.eq_false_iff.mp c_13)] | skip)
                (first | rw [if_pos c_29] | rw [if_neg c_29] | rw [if_neg (Bool.eq_false_iff.mp c_29)] | skip)
                (first | rw [if_pos c_39] | rw [if_neg c_39] | rw [if_neg (Bool.eq_false_iff.mp c_39)] | skip)
                (first | rw [if_pos c_49] | rw [if_neg c_49] | rw [if_neg (Bool.eq_false_iff.mp c_49)] | skip)
                (first | rw [if_pos c_90] | rw [if_neg c_90] | rw [if_neg (Bool.eq_false_iff.mp c_90)] | skip)
                (first | rw [if_pos c_99] | rw [if_neg c_99] | rw [if_neg (Bool.eq_false_iff.mp c_99)] | skip)
                (try dsimp only)
                first
                  | done
                  | exact ⟨rfl, rfl⟩
                  | rfl
                  | (simp only [c_5, c_13, c_29, c_39, c_49, c_90, c_99, if_true, if_false, and_self, and_true, true_and, not_true_eq_false, not_false_eq_true, and_false, false_and, or_true, true_or, or_false, false_or, or_self, Bool.false_eq_true, reduceCtorEq, nl10, nl20, nl30, nl40, nl50, nl60, nl70, nl12, nl13, nl21, nl23, nl31, nl32]; first | done | exact ⟨rfl, rfl⟩ | rfl)
                  | contradiction
                  | (simp only [c_5, c_13, c_29, c_39, c_49, c_90, c_99, if_true, if_false, and_self, and_true, true_and, not_true_eq_false, not_false_eq_true, and_false, false_and, or_true, true_or, or_false, false_or, or_self, Bool.false_eq_true, reduceCtorEq, nl10, nl20, nl30, nl40, nl50, nl60, nl70, nl12, nl13, nl21, nl23, nl31, nl32]; contradiction)
                  | (exfalso; simp_all; done)
                  | simp_all
          · refine lv_aload_n hx hb dX8_copy_52 rfl (lv_at hl 0 rfl) ?_
            refine f_get X hP (T := TX8) (ci := 8) (k := 86) rfl inX8 rfl 21 (by decide) m_4_195 rfl (v := .ref (fad E 100)) rfl dX8_copy_53 ?_
            refine lv_iload_n hx hb dX8_copy_56 rfl (lv_at hl 2 rfl) ?_
            refine f_iald X hP (k := 100) (n := 8) (q := q1.toNatClampNeg) rfl rfl hix_2 dX8_copy_57 ?_
            refine lv_iconst (v := 1) hx hb dX8_copy_58 (by decide) ?_
            refine lv_icmp_ne (tgt := 84) hx hb dX8_copy_59 (by decide) (fun c_59 => ?_) (fun c_59 => ?_)
            · refine lv_aload_n hx hb dX8_copy_84 rfl (lv_at hl 0 rfl) ?_
              refine f_get X hP (T := TX8) (ci := 8) (k := 86) rfl inX8 rfl 21 (by decide) m_4_195 rfl (v := .ref (fad E 100)) rfl dX8_copy_85 ?_
              refine lv_iload_n hx hb dX8_copy_88 rfl (lv_at hl 1 rfl) ?_
              refine f_iald X hP (k := 100) (n := 8) (q := p1.toNatClampNeg) rfl rfl hix_1 dX8_copy_89 ?_
              refine lv_if_eq (tgt := 102) hx hb dX8_copy_90 (by decide) (fun c_90 => by exact absurd (c_49.symm.trans c_90) (by decide)) (fun c_90 => ?_)
              refine lv_aload_n hx hb dX8_copy_93 rfl (lv_at hl 0 rfl) ?_
              refine f_get X hP (T := TX8) (ci := 8) (k := 86) rfl inX8 rfl 21 (by decide) m_4_195 rfl (v := .ref (fad E 100)) rfl dX8_copy_94 ?_
              refine lv_iload_n hx hb dX8_copy_97 rfl (lv_at hl 2 rfl) ?_
              refine f_iald X hP (k := 100) (n := 8) (q := q1.toNatClampNeg) rfl rfl hix_2 dX8_copy_98 ?_
              refine lv_if_ne (tgt := 109) hx hb dX8_copy_99 (by decide) (fun c_99 => ?_) (fun c_99 => ?_)
              · refine lv_iload hx hb dX8_copy_109 (lv_at hl 5 rfl) ?_
                refine lv_if_ge (tgt := 121) hx hb dX8_copy_111 (by decide) (fun c_111 => ?_) (fun c_111 => ?_)
                · refine lv_iload_n hx hb dX8_copy_121 rfl (lv_at hl 3 rfl) ?_
                  refine lv_if_lt (tgt := 157) hx hb dX8_copy_122 (by decide) (fun c_122 => ?_) (fun c_122 => ?_)
                  · refine lv_aload_n hx hb dX8_copy_157 rfl (lv_at hl 0 rfl) ?_
                    refine lv_bipush (v := (-5)) hx hb dX8_copy_158 (by decide) ?_
                    refine f_iV (n := 1) X hP hS [.int (-5)] [] (c_X8_no l E M L (-5) (by decide)) m_5_84 wi_X8_no rfl rfl (by decide) (by decide +kernel) ⟨Nat.le_of_ble_eq_true rfl, Nat.le_of_ble_eq_true rfl⟩ rfl hl rfl (Nat.le_of_ble_eq_true rfl) ⟨Nat.zero_le _, Nat.zero_le _⟩ dX8_copy_160 (fun H locs hP hS => ?_)
                    refine f_ir X hlk hr (v := (-5)) rfl hP hS ?_ dX8_copy_163
                    unfold a_X8_copy
                    (first | rw [if_pos c_5] | rw [if_neg c_5] | rw [if_neg (Bool.eq_false_iff.mp c_5)] | skip)
                    (first | rw [if_pos c_13] | rw [if_neg c_13] | rw [if_neg (Bool.eq_false_iff.mp c_13)] | skip)
                    (first | rw [if_pos c_29] | rw [if_neg c_29] | rw [if_neg (Bool.eq_false_iff.mp c_29)] | skip)
                    (first | rw [if_pos c_39] | rw [if_neg c_39] | rw [if_neg (Bool.eq_false_iff.mp c_39)] | skip)
                    (first | rw [if_pos c_49] | rw [if_neg c_49] | rw [if_neg (Bool.eq_false_iff.mp c_49)] | skip)
                    (first | rw [if_pos c_59] | rw [if_neg c_59] | rw [if_neg (Bool.eq_false_iff.mp c_59)] | skip)
                    (first | rw [if_pos c_99] | rw [if_neg c_99] | rw [if_neg (Bool.eq_false_iff.mp c_99)] | skip)
                    (first | rw [if_pos c_111] | rw [if_neg c_111] | rw [if_neg (Bool.eq_false_iff.mp c_111)] | skip)
                    (first | rw [if_pos c_122] | rw [if_neg c_122] | rw [if_neg (Bool.eq_false_iff.mp c_122)] | skip)
                    (try dsimp only)
                    first
                      | done
                      | exact ⟨rfl, rfl⟩
                      | rfl
                      | (simp only [c_5, c_13, c_29, c_39, c_49, c_59, c_99, c_111, c_122, if_true, if_false, and_self, and_true, true_and, not_true_eq_false, not_false_eq_true, and_false, false_and, or_true, true_or, or_false, false_or, or_self, Bool.false_eq_true, reduceCtorEq, nl10, nl20, nl30, nl40, nl50, nl60, nl70, nl12, nl13, nl21, nl23, nl31, nl32]; first | done | exact ⟨rfl, rfl⟩ | rfl)
                      | contradiction
                      | (simp only [c_5, c_13, c_29, c_39, c_49, c_59, c_99, c_111, c_122, if_true, if_false, and_self, and_true, true_and, not_true_eq_false, not_false_eq_true, and_false, false_and, or_true, true_or, or_false, false_or, or_self, Bool.false_eq_true, reduceCtorEq, nl10, nl20, nl30, nl40, nl50, nl60, nl70, nl12, nl13, nl21, nl23, nl31, nl32]; contradiction)
                      | (exfalso; simp_all; done)
                      | simp_all
                  · refine lv_iload hx hb dX8_copy_125 (lv_at hl 4 rfl) ?_
                    refine lv_if_lt (tgt := 157) hx hb dX8_copy_127 (by decide) (fun c_127 => ?_) (fun c_127 => ?_)
                    · refine lv_aload_n hx hb dX8_copy_157 rfl (lv_at hl 0 rfl) ?_
                      refine lv_bipush (v := (-5)) hx hb dX8_copy_158 (by decide) ?_
                      refine f_iV (n := 1) X hP hS [.int (-5)] [] (c_X8_no l E M L (-5) (by decide)) m_5_84 wi_X8_no rfl rfl (by decide) (by decide +kernel) ⟨Nat.le_of_ble_eq_true rfl, Nat.le_of_ble_eq_true rfl⟩ rfl hl rfl (Nat.le_of_ble_eq_true rfl) ⟨Nat.zero_le _, Nat.zero_le _⟩ dX8_copy_160 (fun H locs hP hS => ?_)
                      refine f_ir X hlk hr (v := (-5)) rfl hP hS ?_ dX8_copy_163
                      unfold a_X8_copy
                      (first | rw [if_pos c_5] | rw [if_neg c_5] | rw [if_neg (Bool.eq_false_iff.mp c_5)] | skip)
                      (first | rw [if_pos c_13] | rw [if_neg c_13] | rw [if_neg (Bool.eq_false_iff.mp c_13)] | skip)
                      (first | rw [if_pos c_29] | rw [if_neg c_29] | rw [if_neg (Bool.eq_false_iff.mp c_29)] | skip)
                      (first | rw [if_pos c_39] | rw [if_neg c_39] | rw [if_neg (Bool.eq_false_iff.mp c_39)] | skip)
                      (first | rw [if_pos c_49] | rw [if_neg c_49] | rw [if_neg (Bool.eq_false_iff.mp c_49)] | skip)
                      (first | rw [if_pos c_59] | rw [if_neg c_59] | rw [if_neg (Bool.eq_false_iff.mp c_59)] | skip)
                      (first | rw [if_pos c_99] | rw [if_neg c_99] | rw [if_neg (Bool.eq_false_iff.mp c_99)] | skip)
                      (first | rw [if_pos c_111] | rw [if_neg c_111] | rw [if_neg (Bool.eq_false_iff.mp c_111)] | skip)
                      (first | rw [if_pos c_122] | rw [if_neg c_122] | rw [if_neg (Bool.eq_false_iff.mp c_122)] | skip)
                      (first | rw [if_pos c_127] | rw [if_neg c_127] | rw [if_neg (Bool.eq_false_iff.mp c_127)] | skip)
                      (try dsimp only)
                      first
                        | done
                        | exact ⟨rfl, rfl⟩
                        | rfl
                        | (simp only [c_5, c_13, c_29, c_39, c_49, c_59, c_99, c_111, c_122, c_127, if_true, if_false, and_self, and_true, true_and, not_true_eq_false, not_false_eq_true, and_false, false_and, or_true, true_or, or_false, false_or, or_self, Bool.false_eq_true, reduceCtorEq, nl10, nl20, nl30, nl40, nl50, nl60, nl70, nl12, nl13, nl21, nl23, nl31, nl32]; first | done | exact ⟨rfl, rfl⟩ | rfl)
                        | contradiction
                        | (simp only [c_5, c_13, c_29, c_39, c_49, c_59, c_99, c_111, c_122, c_127, if_true, if_false, and_self, and_true, true_and, not_true_eq_false, not_false_eq_true, and_false, false_and, or_true, true_or, or_false, false_or, or_self, Bool.false_eq_true, reduceCtorEq, nl10, nl20, nl30, nl40, nl50, nl60, nl70, nl12, nl13, nl21, nl23, nl31, nl32]; contradiction)
                        | (exfalso; simp_all; done)
                        | simp_all
                    · refine lv_iload_n hx hb dX8_copy_130 rfl (lv_at hl 3 rfl) ?_
                      refine lv_aload_n hx hb dX8_copy_131 rfl (lv_at hl 0 rfl) ?_
                      refine f_get X hP (T := TX8) (ci := 8) (k := 86) rfl inX8 rfl 23 (by decide) m_4_197 rfl (v := .ref (fad E 102)) rfl dX8_copy_132 ?_
                      refine lv_iload_n hx hb dX8_copy_135 rfl (lv_at hl 1 rfl) ?_
                      refine f_iald X hP (k := 102) (n := 8) (q := p1.toNatClampNeg) rfl rfl hix_1 dX8_copy_136 ?_
                      refine lv_iload hx hb dX8_copy_137 (lv_at hl 5 rfl) ?_
                      refine lv_isub hx hb dX8_copy_139 ?_
                      refine lv_icmp_gt (tgt := 157) hx hb dX8_copy_140 (by decide) (fun c_140 => ?_) (fun c_140 => ?_)
                      · refine lv_aload_n hx hb dX8_copy_157 rfl (lv_at hl 0 rfl) ?_
                        refine lv_bipush (v := (-5)) hx hb dX8_copy_158 (by decide) ?_
                        refine f_iV (n := 1) X hP hS [.int (-5)] [] (c_X8_no l E M L (-5) (by decide)) m_5_84 wi_X8_no rfl rfl (by decide) (by decide +kernel) ⟨Nat.le_of_ble_eq_true rfl, Nat.le_of_ble_eq_true rfl⟩ rfl hl rfl (Nat.le_of_ble_eq_true rfl) ⟨Nat.zero_le _, Nat.zero_le _⟩ dX8_copy_160 (fun H locs hP hS => ?_)
                        refine f_ir X hlk hr (v := (-5)) rfl hP hS ?_ dX8_copy_163
                        unfold a_X8_copy
                        (first | rw [if_pos c_5] | rw [if_neg c_5] | rw [if_neg (Bool.eq_false_iff.mp c_5)] | skip)
                        (first | rw [if_pos c_13] | rw [if_neg c_13] | rw [if_neg (Bool.eq_false_iff.mp c_13)] | skip)
                        (first | rw [if_pos c_29] | rw [if_neg c_29] | rw [if_neg (Bool.eq_false_iff.mp c_29)] | skip)
                        (first | rw [if_pos c_39] | rw [if_neg c_39] | rw [if_neg (Bool.eq_false_iff.mp c_39)] | skip)
                        (first | rw [if_pos c_49] | rw [if_neg c_49] | rw [if_neg (Bool.eq_false_iff.mp c_49)] | skip)
                        (first | rw [if_pos c_59] | rw [if_neg c_59] | rw [if_neg (Bool.eq_false_iff.mp c_59)] | skip)
                        (first | rw [if_pos c_99] | rw [if_neg c_99] | rw [if_neg (Bool.eq_false_iff.mp c_99)] | skip)
                        (first | rw [if_pos c_111] | rw [if_neg c_111] | rw [if_neg (Bool.eq_false_iff.mp c_111)] | skip)
                        (first | rw [if_pos c_122] | rw [if_neg c_122] | rw [if_neg (Bool.eq_false_iff.mp c_122)] | skip)
                        (first | rw [if_pos c_127] | rw [if_neg c_127] | rw [if_neg (Bool.eq_false_iff.mp c_127)] | skip)
                        (first | rw [if_pos c_140] | rw [if_neg c_140] | rw [if_neg (Bool.eq_false_iff.mp c_140)] | skip)
                        (try dsimp only)
                        first
                          | done
                          | exact ⟨rfl, rfl⟩
                          | rfl
                          | (simp only [c_5, c_13, c_29, c_39, c_49, c_59, c_99, c_111, c_122, c_127, c_140, if_true, if_false, and_self, and_true, true_and, not_true_eq_false, not_false_eq_true, and_false, false_and, or_true, true_or, or_false, false_or, or_self, Bool.false_eq_true, reduceCtorEq, nl10, nl20, nl30, nl40, nl50, nl60, nl70, nl12, nl13, nl21, nl23, nl31, nl32]; first | done | exact ⟨rfl, rfl⟩ | rfl)
                          | contradiction
                          | (simp only [c_5, c_13, c_29, c_39, c_49, c_59, c_99, c_111, c_122, c_127, c_140, if_true, if_false, and_self, and_true, true_and, not_true_eq_false, not_false_eq_true, and_false, false_and, or_true, true_or, or_false, false_or, or_self, Bool.false_eq_true, reduceCtorEq, nl10, nl20, nl30, nl40, nl50, nl60, nl70, nl12, nl13, nl21, nl23, nl31, nl32]; contradiction)
                          | (exfalso; simp_all; done)
                          | simp_all
                      · refine lv_iload hx hb dX8_copy_143 (lv_at hl 4 rfl) ?_
                        refine lv_aload_n hx hb dX8_copy_145 rfl (lv_at hl 0 rfl) ?_
                        refine f_get X hP (T := TX8) (ci := 8) (k := 86) rfl inX8 rfl 23 (by decide) m_4_197 rfl (v := .ref (fad E 102)) rfl dX8_copy_146 ?_
                        refine lv_iload_n hx hb dX8_copy_149 rfl (lv_at hl 2 rfl) ?_
                        refine f_iald X hP (k := 102) (n := 8) (q := q1.toNatClampNeg) rfl rfl hix_2 dX8_copy_150 ?_
                        refine lv_iload hx hb dX8_copy_151 (lv_at hl 5 rfl) ?_
                        refine lv_isub hx hb dX8_copy_153 ?_
                        refine lv_icmp_le (tgt := 164) hx hb dX8_copy_154 (by decide) (fun c_154 => ?_) (fun c_154 => ?_)
                        · have en : n = nI n.toNatClampNeg := n_self c_111
                          have hpi := part_2 (Int32.not_lt.mp c_122) (Int32.not_lt.mp c_140) c_111 (hzz _ (by omega))
                          have hpj := part_2 (Int32.not_lt.mp c_127) c_154 c_111 (hzz _ (by omega))
                          have hl : lv_has ls 7 [(0, .ref (fad E 86)), (1, .int p1), (2, .int q1), (3, .int i), (4, .int j), (5, .int (nI n.toNatClampNeg))] := by rw [← en]; exact hl
                          have hP := fP_eqL (show L = (crL L p1.toNatClampNeg i.toNatClampNeg 0) from by
                              exact crL_0) hP
                          refine lv_iconst (v := 0) hx hb dX8_copy_164 (by decide) ?_
                          refine lv_istore (lv' := [(6, .int 0), (0, .ref (fad E 86)), (1, .int p1), (2, .int q1), (3, .int i), (4, .int j), (5, .int (nI n.toNatClampNeg))]) hx hb dX8_copy_165 hl (by decide) rfl (fun ls hl => ?_)
                          refine f_loop (α := Nat) (fun (k : Nat) H locs ls => fP E M (crL L p1.toNatClampNeg i.toNatClampNeg k) H ∧ va_S (fA E) s.heap H locs ∧ lv_has ls 7 [(6, .int (nI k)), (0, .ref (fad E 86)), (1, .int p1), (2, .int q1), (3, .int i), (4, .int j), (5, .int (nI n.toNatClampNeg))] ∧ (k ≤ n.toNatClampNeg)) (fun (k : Nat) => n.toNatClampNeg - k) (pc0 := 167) (st := fun _ => []) ?_ 0 _ _ _ ⟨hP, hS, lv_sub hl [0, 1, 2, 3, 4, 5, 6] rfl, (by omega)⟩
                          rintro k H locs ls ⟨hP, hS, hl, ht⟩ ih_167
                          refine lv_iload hx hb dX8_copy_167 (lv_at hl 0 rfl) ?_
                          refine lv_iload hx hb dX8_copy_169 (lv_at hl 6 rfl) ?_
                          refine lv_icmp_ge (tgt := 202) hx hb dX8_copy_171 (by decide) (fun c_171 => ?_) (fun c_171 => ?_)
                          · have c_171 := (nI_le_iff (a := n.toNatClampNeg) (b := k) (by omega) (by omega)).mp c_171
                            obtain hk9 : k = n.toNatClampNeg := by omega
                            have hP := fP_eqL (show (crL L p1.toNatClampNeg i.toNatClampNeg k) = (crL L p1.toNatClampNeg i.toNatClampNeg n.toNatClampNeg) from by
                                rw [hk9]) hP
                            have hP := fP_eqL (show (crL L p1.toNatClampNeg i.toNatClampNeg n.toNatClampNeg) = (cwL (crL L p1.toNatClampNeg i.toNatClampNeg n.toNatClampNeg) q1.toNatClampNeg j.toNatClampNeg 0) from by
                                exact cwL_0) hP
                            refine lv_iconst (v := 0) hx hb dX8_copy_202 (by decide) ?_
                            refine lv_istore (lv' := [(6, .int 0), (0, .ref (fad E 86)), (1, .int p1), (2, .int q1), (3, .int i), (4, .int j), (5, .int (nI n.toNatClampNeg))]) hx hb dX8_copy_203 hl (by decide) rfl (fun ls hl => ?_)
                            refine f_loop (α := Nat) (fun (k : Nat) H locs ls => fP E M (cwL (crL L p1.toNatClampNeg i.toNatClampNeg n.toNatClampNeg) q1.toNatClampNeg j.toNatClampNeg k) H ∧ va_S (fA E) s.heap H locs ∧ lv_has ls 7 [(6, .int (nI k)), (0, .ref (fad E 86)), (1, .int p1), (2, .int q1), (3, .int i), (4, .int j), (5, .int (nI n.toNatClampNeg))] ∧ (k ≤ n.toNatClampNeg)) (fun (k : Nat) => n.toNatClampNeg - k) (pc0 := 205) (st := fun _ => []) ?_ 0 _ _ _ ⟨hP, hS, lv_sub hl [0, 1, 2, 3, 4, 5, 6] rfl, (by omega)⟩
                            rintro k H locs ls ⟨hP, hS, hl, ht⟩ ih_205
                            refine lv_iload hx hb dX8_copy_205 (lv_at hl 0 rfl) ?_
                            refine lv_iload hx hb dX8_copy_207 (lv_at hl 6 rfl) ?_
                            refine lv_icmp_ge (tgt := 241) hx hb dX8_copy_209 (by decide) (fun c_209 => ?_) (fun c_209 => ?_)
                            · have c_209 := (nI_le_iff (a := n.toNatClampNeg) (b := k) (by omega) (by omega)).mp c_209
                              obtain hk9 : k = n.toNatClampNeg := by omega
                              have hP := fP_eqL (show (cwL (crL L p1.toNatClampNeg i.toNatClampNeg n.toNatClampNeg) q1.toNatClampNeg j.toNatClampNeg k) = (cwL (crL L p1.toNatClampNeg i.toNatClampNeg n.toNatClampNeg) q1.toNatClampNeg j.toNatClampNeg n.toNatClampNeg) from by
                                  rw [hk9]) hP
                              refine lv_iconst (v := 1) hx hb dX8_copy_241 (by decide) ?_
                              refine f_ir X hlk hr (v := 1) rfl hP hS ?_ dX8_copy_242
                              unfold a_X8_copy
                              (first | rw [if_pos c_5] | rw [if_neg c_5] | rw [if_neg (Bool.eq_false_iff.mp c_5)] | skip)
                              (first | rw [if_pos c_13] | rw [if_neg c_13] | rw [if_neg (Bool.eq_false_iff.mp c_13)] | skip)
                              (first | rw [if_pos c_29] | rw [if_neg c_29] | rw [if_neg (Bool.eq_false_iff.mp c_29)] | skip)
                              (first | rw [if_pos c_39] | rw [if_neg c_39] | rw [if_neg (Bool.eq_false_iff.mp c_39)] | skip)
                              (first | rw [if_pos c_49] | rw [if_neg c_49] | rw [if_neg (Bool.eq_false_iff.mp c_49)] | skip)
                              (first | rw [if_pos c_59] | rw [if_neg c_59] | rw [if_neg (Bool.eq_false_iff.mp c_59)] | skip)
                              (first | rw [if_pos c_99] | rw [if_neg c_99] | rw [if_neg (Bool.eq_false_iff.mp c_99)] | skip)
                              (first | rw [if_pos c_111] | rw [if_neg c_111] | rw [if_neg (Bool.eq_false_iff.mp c_111)] | skip)
                              (first | rw [if_pos c_122] | rw [if_neg c_122] | rw [if_neg (Bool.eq_false_iff.mp c_122)] | skip)
                              (first | rw [if_pos c_127] | rw [if_neg c_127] | rw [if_neg (Bool.eq_false_iff.mp c_127)] | skip)
                              (first | rw [if_pos c_140] | rw [if_neg c_140] | rw [if_neg (Bool.eq_false_iff.mp c_140)] | skip)
                              (first | rw [if_pos c_154] | rw [if_neg c_154] | rw [if_neg (Bool.eq_false_iff.mp c_154)] | skip)
                              (first | rw [if_pos c_171] | rw [if_neg c_171] | rw [if_neg (Bool.eq_false_iff.mp c_171)] | skip)
                              (first | rw [if_pos c_209] | rw [if_neg c_209] | rw [if_neg (Bool.eq_false_iff.mp c_209)] | skip)
                              (try dsimp only)
                              first
                                | done
                                | exact ⟨rfl, rfl⟩
                                | rfl
                                | (simp only [c_5, c_13, c_29, c_39, c_49, c_59, c_99, c_111, c_122, c_127, c_140, c_154, c_171, c_209, if_true, if_false, and_self, and_true, true_and, not_true_eq_false, not_false_eq_true, and_false, false_and, or_true, true_or, or_false, false_or, or_self, Bool.false_eq_true, reduceCtorEq, nl10, nl20, nl30, nl40, nl50, nl60, nl70, nl12, nl13, nl21, nl23, nl31, nl32]; first | done | exact ⟨rfl, rfl⟩ | rfl)
                                | contradiction
                                | (simp only [c_5, c_13, c_29, c_39, c_49, c_59, c_99, c_111, c_122, c_127, c_140, c_154, c_171, c_209, if_true, if_false, and_self, and_true, true_and, not_true_eq_false, not_false_eq_true, and_false, false_and, or_true, true_or, or_false, false_or, or_self, Bool.false_eq_true, reduceCtorEq, nl10, nl20, nl30, nl40, nl50, nl60, nl70, nl12, nl13, nl21, nl23, nl31, nl32]; contradiction)
                                | (exfalso; simp_all; done)
                                | simp_all
                            · have c_209 := (not_congr (nI_le_iff (a := n.toNatClampNeg) (b := k) (by omega) (by omega))).mp c_209
                              refine lv_aload_n hx hb dX8_copy_212 rfl (lv_at hl 1 rfl) ?_
                              refine f_get X hP (T := TX8) (ci := 8) (k := 86) rfl inX8 rfl 25 (by decide) m_4_199 rfl (v := .ref (fad E 104)) rfl dX8_copy_213 ?_
                              have hik := fIx_cell3 hix_2 c_127 (show j.toNatClampNeg + k < 160 by omega)
                              refine lv_sipush (v := 160) hx hb dX8_copy_216 (by decide) ?_
                              refine lv_iload_n hx hb dX8_copy_219 rfl (lv_at hl 3 rfl) ?_
                              refine lv_imul hx hb dX8_copy_220 ?_
                              refine lv_iload hx hb dX8_copy_221 (lv_at hl 5 rfl) ?_
                              refine lv_iadd hx hb dX8_copy_223 ?_
                              refine lv_iload hx hb dX8_copy_224 (lv_at hl 0 rfl) ?_
                              refine lv_iadd hx hb dX8_copy_226 ?_
                              refine lv_aload_n hx hb dX8_copy_227 rfl (lv_at hl 1 rfl) ?_
                              refine f_get X hP (T := TX8) (ci := 8) (k := 86) rfl inX8 rfl 26 (by decide) m_4_200 rfl (v := .ref (fad E 105)) rfl dX8_copy_228 ?_
                              refine lv_iload hx hb dX8_copy_231 (lv_at hl 0 rfl) ?_
                              refine f_lald X hP (k := 105) (n := 160) (q := k) rfl rfl (fIx_nI (by omega) (by decide)) dX8_copy_233 ?_
                              refine f_last X hP hS (k := 104) (n := 1280) (q := (160 * q1.toNatClampNeg + j.toNatClampNeg + k)) rfl rfl (v := ((cwL (crL L p1.toNatClampNeg i.toNatClampNeg n.toNatClampNeg) q1.toNatClampNeg j.toNatClampNeg k) 105 k)) hik dX8_copy_234 (fun H locs hP hS => ?_)
                              refine lv_iinc (v := (nI (k + 1))) (lv' := [(6, .int (nI (k + 1))), (0, .ref (fad E 86)), (1, .int p1), (2, .int q1), (3, .int i), (4, .int j), (5, .int (nI n.toNatClampNeg))]) hx hb dX8_copy_235 hl (k := 0) rfl (nI_1 _) (by decide) rfl (fun ls hl => ?_)
                              refine lv_goto (tgt := 205) hx hb dX8_copy_238 (by decide) ?_
                              have hP := fP_eqL (show (upL (cwL (crL L p1.toNatClampNeg i.toNatClampNeg n.toNatClampNeg) q1.toNatClampNeg j.toNatClampNeg k) 104 (160 * q1.toNatClampNeg + j.toNatClampNeg + k) ((cwL (crL L p1.toNatClampNeg i.toNatClampNeg n.toNatClampNeg) q1.toNatClampNeg j.toNatClampNeg k) 105 k)) = (cwL (crL L p1.toNatClampNeg i.toNatClampNeg n.toNatClampNeg) q1.toNatClampNeg j.toNatClampNeg (k + 1)) from by
                                  exact cwL_s) hP
                              exact ih_205 (k + 1) _ _ _ (by show n.toNatClampNeg - (k + 1) < n.toNatClampNeg - k; omega) ⟨hP, hS, lv_sub hl [0, 1, 2, 3, 4, 5, 6] rfl, (by omega)⟩
                          · have c_171 := (not_congr (nI_le_iff (a := n.toNatClampNeg) (b := k) (by omega) (by omega))).mp c_171
                            refine lv_aload_n hx hb dX8_copy_174 rfl (lv_at hl 1 rfl) ?_
                            refine f_get X hP (T := TX8) (ci := 8) (k := 86) rfl inX8 rfl 26 (by decide) m_4_200 rfl (v := .ref (fad E 105)) rfl dX8_copy_175 ?_
                            have hik := fIx_cell3 hix_1 c_122 (show i.toNatClampNeg + k < 160 by omega)
                            refine lv_iload hx hb dX8_copy_178 (lv_at hl 0 rfl) ?_
                            refine lv_aload_n hx hb dX8_copy_180 rfl (lv_at hl 1 rfl) ?_
                            refine f_get X hP (T := TX8) (ci := 8) (k := 86) rfl inX8 rfl 25 (by decide) m_4_199 rfl (v := .ref (fad E 104)) rfl dX8_copy_181 ?_
                            refine lv_sipush (v := 160) hx hb dX8_copy_184 (by decide) ?_
                            refine lv_iload_n hx hb dX8_copy_187 rfl (lv_at hl 2 rfl) ?_
                            refine lv_imul hx hb dX8_copy_188 ?_
                            refine lv_iload_n hx hb dX8_copy_189 rfl (lv_at hl 4 rfl) ?_
                            refine lv_iadd hx hb dX8_copy_190 ?_
                            refine lv_iload hx hb dX8_copy_191 (lv_at hl 0 rfl) ?_
                            refine lv_iadd hx hb dX8_copy_193 ?_
                            refine f_lald X hP (k := 104) (n := 1280) (q := (160 * p1.toNatClampNeg + i.toNatClampNeg + k)) rfl rfl hik dX8_copy_194 ?_
                            refine f_last X hP hS (k := 105) (n := 160) (q := k) rfl rfl (v := ((crL L p1.toNatClampNeg i.toNatClampNeg k) 104 (160 * p1.toNatClampNeg + i.toNatClampNeg + k))) (fIx_nI (by omega) (by decide)) dX8_copy_195 (fun H locs hP hS => ?_)
                            refine lv_iinc (v := (nI (k + 1))) (lv' := [(6, .int (nI (k + 1))), (0, .ref (fad E 86)), (1, .int p1), (2, .int q1), (3, .int i), (4, .int j), (5, .int (nI n.toNatClampNeg))]) hx hb dX8_copy_196 hl (k := 0) rfl (nI_1 _) (by decide) rfl (fun ls hl => ?_)
                            refine lv_goto (tgt := 167) hx hb dX8_copy_199 (by decide) ?_
                            have hP := fP_eqL (show (upL (crL L p1.toNatClampNeg i.toNatClampNeg k) 105 k ((crL L p1.toNatClampNeg i.toNatClampNeg k) 104 (160 * p1.toNatClampNeg + i.toNatClampNeg + k))) = (crL L p1.toNatClampNeg i.toNatClampNeg (k + 1)) from by
                                exact crL_s) hP
                            exact ih_167 (k + 1) _ _ _ (by show n.toNatClampNeg - (k + 1) < n.toNatClampNeg - k; omega) ⟨hP, hS, lv_sub hl [0, 1, 2, 3, 4, 5, 6] rfl, (by omega)⟩
                        · refine lv_aload_n hx hb dX8_copy_157 rfl (lv_at hl 0 rfl) ?_
                          refine lv_bipush (v := (-5)) hx hb dX8_copy_158 (by decide) ?_
                          refine f_iV (n := 1) X hP hS [.int (-5)] [] (c_X8_no l E M L (-5) (by decide)) m_5_84 wi_X8_no rfl rfl (by decide) (by decide +kernel) ⟨Nat.le_of_ble_eq_true rfl, Nat.le_of_ble_eq_true rfl⟩ rfl hl rfl (Nat.le_of_ble_eq_true rfl) ⟨Nat.zero_le _, Nat.zero_le _⟩ dX8_copy_160 (fun H locs hP hS => ?_)
                          refine f_ir X hlk hr (v := (-5)) rfl hP hS ?_ dX8_copy_163
                          unfold a_X8_copy
                          (first | rw [if_pos c_5] | rw [if_neg c_5] | rw [if_neg (Bool.eq_false_iff.mp c_5)] | skip)
                          (first | rw [if_pos c_13] | rw [if_neg c_13] | rw [if_neg (Bool.eq_false_iff.mp c_13)] | skip)
                          (first | rw [if_pos c_29] | rw [if_neg c_29] | rw [if_neg (Bool.eq_false_iff.mp c_29)] | skip)
                          (first | rw [if_pos c_39] | rw [if_neg c_39] | rw [if_neg (Bool.eq_false_iff.mp c_39)] | skip)
                          (first | rw [if_pos c_49] | rw [if_neg c_49] | rw [if_neg (Bool.eq_false_iff.mp c_49)] | skip)
                          (first | rw [if_pos c_59] | rw [if_neg c_59] | rw [if_neg (Bool.eq_false_iff.mp c_59)] | skip)
                          (first | rw [if_pos c_99] | rw [if_neg c_99] | rw [if_neg (Bool.eq_false_iff.mp c_99)] | skip)
                          (first | rw [if_pos c_111] | rw [if_neg c_111] | rw [if_neg (Bool.eq_false_iff.mp c_111)] | skip)
                          (first | rw [if_pos c_122] | rw [if_neg c_122] | rw [if_neg (Bool.eq_false_iff.mp c_122)] | skip)
                          (first | rw [if_pos c_127] | rw [if_neg c_127] | rw [if_neg (Bool.eq_false_iff.mp c_127)] | skip)
                          (first | rw [if_pos c_140] | rw [if_neg c_140] | rw [if_neg (Bool.eq_false_iff.mp c_140)] | skip)
                          (first | rw [if_pos c_154] | rw [if_neg c_154] | rw [if_neg (Bool.eq_false_iff.mp c_154)] | skip)
                          (try dsimp only)
                          first
                            | done
                            | exact ⟨rfl, rfl⟩
                            | rfl
                            | (simp only [c_5, c_13, c_29, c_39, c_49, c_59, c_99, c_111, c_122, c_127, c_140, c_154, if_true, if_false, and_self, and_true, true_and, not_true_eq_false, not_false_eq_true, and_false, false_and, or_true, true_or, or_false, false_or, or_self, Bool.false_eq_true, reduceCtorEq, nl10, nl20, nl30, nl40, nl50, nl60, nl70, nl12, nl13, nl21, nl23, nl31, nl32]; first | done | exact ⟨rfl, rfl⟩ | rfl)
                            | contradiction
                            | (simp only [c_5, c_13, c_29, c_39, c_49, c_59, c_99, c_111, c_122, c_127, c_140, c_154, if_true, if_false, and_self, and_true, true_and, not_true_eq_false, not_false_eq_true, and_false, false_and, or_true, true_or, or_false, false_or, or_self, Bool.false_eq_true, reduceCtorEq, nl10, nl20, nl30, nl40, nl50, nl60, nl70, nl12, nl13, nl21, nl23, nl31, nl32]; contradiction)
                            | (exfalso; simp_all; done)
                            | simp_all
                · refine lv_aload_n hx hb dX8_copy_114 rfl (lv_at hl 0 rfl) ?_
                  refine lv_bipush (v := (-4)) hx hb dX8_copy_115 (by decide) ?_
                  refine f_iV (n := 1) X hP hS [.int (-4)] [] (c_X8_no l E M L (-4) (by decide)) m_5_84 wi_X8_no rfl rfl (by decide) (by decide +kernel) ⟨Nat.le_of_ble_eq_true rfl, Nat.le_of_ble_eq_true rfl⟩ rfl hl rfl (Nat.le_of_ble_eq_true rfl) ⟨Nat.zero_le _, Nat.zero_le _⟩ dX8_copy_117 (fun H locs hP hS => ?_)
                  refine f_ir X hlk hr (v := (-4)) rfl hP hS ?_ dX8_copy_120
                  unfold a_X8_copy
                  (first | rw [if_pos c_5] | rw [if_neg c_5] | rw [if_neg (Bool.eq_false_iff.mp c_5)] | skip)
                  (first | rw [if_pos c_13] | rw [if_neg c_13] | rw [if_neg (Bool.eq_false_iff.mp c_13)] | skip)
                  (first | rw [if_pos c_29] | rw [if_neg c_29] | rw [if_neg (Bool.eq_false_iff.mp c_29)] | skip)
                  (first | rw [if_pos c_39] | rw [if_neg c_39] | rw [if_neg (Bool.eq_false_iff.mp c_39)] | skip)
                  (first | rw [if_pos c_49] | rw [if_neg c_49] | rw [if_neg (Bool.eq_false_iff.mp c_49)] | skip)
                  (first | rw [if_pos c_59] | rw [if_neg c_59] | rw [if_neg (Bool.eq_false_iff.mp c_59)] | skip)
                  (first | rw [if_pos c_99] | rw [if_neg c_99] | rw [if_neg (Bool.eq_false_iff.mp c_99)] | skip)
                  (first | rw [if_pos c_111] | rw [if_neg c_111] | rw [if_neg (Bool.eq_false_iff.mp c_111)] | skip)
                  (try dsimp only)
                  first
                    | done
                    | exact ⟨rfl, rfl⟩
                    | rfl
                    | (simp only [c_5, c_13, c_29, c_39, c_49, c_59, c_99, c_111, if_true, if_false, and_self, and_true, true_and, not_true_eq_false, not_false_eq_true, and_false, false_and, or_true, true_or, or_false, false_or, or_self, Bool.false_eq_true, reduceCtorEq, nl10, nl20, nl30, nl40, nl50, nl60, nl70, nl12, nl13, nl21, nl23, nl31, nl32]; first | done | exact ⟨rfl, rfl⟩ | rfl)
                    | contradiction
                    | (simp only [c_5, c_13, c_29, c_39, c_49, c_59, c_99, c_111, if_true, if_false, and_self, and_true, true_and, not_true_eq_false, not_false_eq_true, and_false, false_and, or_true, true_or, or_false, false_or, or_self, Bool.false_eq_true, reduceCtorEq, nl10, nl20, nl30, nl40, nl50, nl60, nl70, nl12, nl13, nl21, nl23, nl31, nl32]; contradiction)
                    | (exfalso; simp_all; done)
                    | simp_all
              · refine lv_aload_n hx hb dX8_copy_102 rfl (lv_at hl 0 rfl) ?_
                refine lv_bipush (v := (-3)) hx hb dX8_copy_103 (by decide) ?_
                refine f_iV (n := 1) X hP hS [.int (-3)] [] (c_X8_no l E M L (-3) (by decide)) m_5_84 wi_X8_no rfl rfl (by decide) (by decide +kernel) ⟨Nat.le_of_ble_eq_true rfl, Nat.le_of_ble_eq_true rfl⟩ rfl hl rfl (Nat.le_of_ble_eq_true rfl) ⟨Nat.zero_le _, Nat.zero_le _⟩ dX8_copy_105 (fun H locs hP hS => ?_)
                refine f_ir X hlk hr (v := (-3)) rfl hP hS ?_ dX8_copy_108
                unfold a_X8_copy
                (first | rw [if_pos c_5] | rw [if_neg c_5] | rw [if_neg (Bool.eq_false_iff.mp c_5)] | skip)
                (first | rw [if_pos c_13] | rw [if_neg c_13] | rw [if_neg (Bool.eq_false_iff.mp c_13)] | skip)
                (first | rw [if_pos c_29] | rw [if_neg c_29] | rw [if_neg (Bool.eq_false_iff.mp c_29)] | skip)
                (first | rw [if_pos c_39] | rw [if_neg c_39] | rw [if_neg (Bool.eq_false_iff.mp c_39)] | skip)
                (first | rw [if_pos c_49] | rw [if_neg c_49] | rw [if_neg (Bool.eq_false_iff.mp c_49)] | skip)
                (first | rw [if_pos c_59] | rw [if_neg c_59] | rw [if_neg (Bool.eq_false_iff.mp c_59)] | skip)
                (first | rw [if_pos c_99] | rw [if_neg c_99] | rw [if_neg (Bool.eq_false_iff.mp c_99)] | skip)
                (try dsimp only)
                first
                  | done
                  | exact ⟨rfl, rfl⟩
                  | rfl
                  | (simp only [c_5, c_13, c_29, c_39, c_49, c_59, c_99, if_true, if_false, and_self, and_true, true_and, not_true_eq_false, not_false_eq_true, and_false, false_and, or_true, true_or, or_false, false_or, or_self, Bool.false_eq_true, reduceCtorEq, nl10, nl20, nl30, nl40, nl50, nl60, nl70, nl12, nl13, nl21, nl23, nl31, nl32]; first | done | exact ⟨rfl, rfl⟩ | rfl)
                  | contradiction
                  | (simp only [c_5, c_13, c_29, c_39, c_49, c_59, c_99, if_true, if_false, and_self, and_true, true_and, not_true_eq_false, not_false_eq_true, and_false, false_and, or_true, true_or, or_false, false_or, or_self, Bool.false_eq_true, reduceCtorEq, nl10, nl20, nl30, nl40, nl50, nl60, nl70, nl12, nl13, nl21, nl23, nl31, nl32]; contradiction)
                  | (exfalso; simp_all; done)
                  | simp_all
            · refine lv_aload_n hx hb dX8_copy_62 rfl (lv_at hl 0 rfl) ?_
              refine f_get X hP (T := TX8) (ci := 8) (k := 86) rfl inX8 rfl 22 (by decide) m_4_196 rfl (v := .ref (fad E 101)) rfl dX8_copy_63 ?_
              refine lv_iload_n hx hb dX8_copy_66 rfl (lv_at hl 1 rfl) ?_
              refine f_iald X hP (k := 101) (n := 8) (q := p1.toNatClampNeg) rfl rfl hix_1 dX8_copy_67 ?_
              refine lv_aload_n hx hb dX8_copy_68 rfl (lv_at hl 0 rfl) ?_
              refine f_get X hP (T := TX8) (ci := 8) (k := 86) rfl inX8 rfl 22 (by decide) m_4_196 rfl (v := .ref (fad E 101)) rfl dX8_copy_69 ?_
              refine lv_iload_n hx hb dX8_copy_72 rfl (lv_at hl 2 rfl) ?_
              refine f_iald X hP (k := 101) (n := 8) (q := q1.toNatClampNeg) rfl rfl hix_2 dX8_copy_73 ?_
              refine lv_icmp_eq (tgt := 84) hx hb dX8_copy_74 (by decide) (fun c_74 => ?_) (fun c_74 => ?_)
              · refine lv_aload_n hx hb dX8_copy_84 rfl (lv_at hl 0 rfl) ?_
                refine f_get X hP (T := TX8) (ci := 8) (k := 86) rfl inX8 rfl 21 (by decide) m_4_195 rfl (v := .ref (fad E 100)) rfl dX8_copy_85 ?_
                refine lv_iload_n hx hb dX8_copy_88 rfl (lv_at hl 1 rfl) ?_
                refine f_iald X hP (k := 100) (n := 8) (q := p1.toNatClampNeg) rfl rfl hix_1 dX8_copy_89 ?_
                refine lv_if_eq (tgt := 102) hx hb dX8_copy_90 (by decide) (fun c_90 => by exact absurd (c_49.symm.trans c_90) (by decide)) (fun c_90 => ?_)
                refine lv_aload_n hx hb dX8_copy_93 rfl (lv_at hl 0 rfl) ?_
                refine f_get X hP (T := TX8) (ci := 8) (k := 86) rfl inX8 rfl 21 (by decide) m_4_195 rfl (v := .ref (fad E 100)) rfl dX8_copy_94 ?_
                refine lv_iload_n hx hb dX8_copy_97 rfl (lv_at hl 2 rfl) ?_
                refine f_iald X hP (k := 100) (n := 8) (q := q1.toNatClampNeg) rfl rfl hix_2 dX8_copy_98 ?_
                refine lv_if_ne (tgt := 109) hx hb dX8_copy_99 (by decide) (fun c_99 => ?_) (fun c_99 => by exact absurd (c_59.symm.trans c_99) (by decide))
                refine lv_iload hx hb dX8_copy_109 (lv_at hl 5 rfl) ?_
                refine lv_if_ge (tgt := 121) hx hb dX8_copy_111 (by decide) (fun c_111 => ?_) (fun c_111 => ?_)
                · refine lv_iload_n hx hb dX8_copy_121 rfl (lv_at hl 3 rfl) ?_
                  refine lv_if_lt (tgt := 157) hx hb dX8_copy_122 (by decide) (fun c_122 => ?_) (fun c_122 => ?_)
                  · refine lv_aload_n hx hb dX8_copy_157 rfl (lv_at hl 0 rfl) ?_
                    refine lv_bipush (v := (-5)) hx hb dX8_copy_158 (by decide) ?_
                    refine f_iV (n := 1) X hP hS [.int (-5)] [] (c_X8_no l E M L (-5) (by decide)) m_5_84 wi_X8_no rfl rfl (by decide) (by decide +kernel) ⟨Nat.le_of_ble_eq_true rfl, Nat.le_of_ble_eq_true rfl⟩ rfl hl rfl (Nat.le_of_ble_eq_true rfl) ⟨Nat.zero_le _, Nat.zero_le _⟩ dX8_copy_160 (fun H locs hP hS => ?_)
                    refine f_ir X hlk hr (v := (-5)) rfl hP hS ?_ dX8_copy_163
                    unfold a_X8_copy
                    (first | rw [if_pos c_5] | rw [if_neg c_5] | rw [if_neg (Bool.eq_false_iff.mp c_5)] | skip)
                    (first | rw [if_pos c_13] | rw [if_neg c_13] | rw [if_neg (Bool.eq_false_iff.mp c_13)] | skip)
                    (first | rw [if_pos c_29] | rw [if_neg c_29] | rw [if_neg (Bool.eq_false_iff.mp c_29)] | skip)
                    (first | rw [if_pos c_39] | rw [if_neg c_39] | rw [if_neg (Bool.eq_false_iff.mp c_39)] | skip)
                    (first | rw [if_pos c_49] | rw [if_neg c_49] | rw [if_neg (Bool.eq_false_iff.mp c_49)] | skip)
                    (first | rw [if_pos c_59] | rw [if_neg c_59] | rw [if_neg (Bool.eq_false_iff.mp c_59)] | skip)
                    (first | rw [if_pos c_74] | rw [if_neg c_74] | rw [if_neg (Bool.eq_false_iff.mp c_74)] | skip)
                    (first | rw [if_pos c_111] | rw [if_neg c_111] | rw [if_neg (Bool.eq_false_iff.mp c_111)] | skip)
                    (first | rw [if_pos c_122] | rw [if_neg c_122] | rw [if_neg (Bool.eq_false_iff.mp c_122)] | skip)
                    (try dsimp only)
                    first
                      | done
                      | exact ⟨rfl, rfl⟩
                      | rfl
                      | (simp only [c_5, c_13, c_29, c_39, c_49, c_59, c_74, c_111, c_122, if_true, if_false, and_self, and_true, true_and, not_true_eq_false, not_false_eq_true, and_false, false_and, or_true, true_or, or_false, false_or, or_self, Bool.false_eq_true, reduceCtorEq, nl10, nl20, nl30, nl40, nl50, nl60, nl70, nl12, nl13, nl21, nl23, nl31, nl32]; first | done | exact ⟨rfl, rfl⟩ | rfl)
                      | contradiction
                      | (simp only [c_5, c_13, c_29, c_39, c_49, c_59, c_74, c_111, c_122, if_true, if_false, and_self, and_true, true_and, not_true_eq_false, not_false_eq_true, and_false, false_and, or_true, true_or, or_false, false_or, or_self, Bool.false_eq_true, reduceCtorEq, nl10, nl20, nl30, nl40, nl50, nl60, nl70, nl12, nl13, nl21, nl23, nl31, nl32]; contradiction)
                      | (exfalso; simp_all; done)
                      | simp_all
                  · refine lv_iload hx hb dX8_copy_125 (lv_at hl 4 rfl) ?_
                    refine lv_if_lt (tgt := 157) hx hb dX8_copy_127 (by decide) (fun c_127 => ?_) (fun c_127 => ?_)
                    · refine lv_aload_n hx hb dX8_copy_157 rfl (lv_at hl 0 rfl) ?_
                      refine lv_bipush (v := (-5)) hx hb dX8_copy_158 (by decide) ?_
                      refine f_iV (n := 1) X hP hS [.int (-5)] [] (c_X8_no l E M L (-5) (by decide)) m_5_84 wi_X8_no rfl rfl (by decide) (by decide +kernel) ⟨Nat.le_of_ble_eq_true rfl, Nat.le_of_ble_eq_true rfl⟩ rfl hl rfl (Nat.le_of_ble_eq_true rfl) ⟨Nat.zero_le _, Nat.zero_le _⟩ dX8_copy_160 (fun H locs hP hS => ?_)
                      refine f_ir X hlk hr (v := (-5)) rfl hP hS ?_ dX8_copy_163
                      unfold a_X8_copy
                      (first | rw [if_pos c_5] | rw [if_neg c_5] | rw [if_neg (Bool.eq_false_iff.mp c_5)] | skip)
                      (first | rw [if_pos c_13] | rw [if_neg c_13] | rw [if_neg (Bool.eq_false_iff.mp c_13)] | skip)
                      (first | rw [if_pos c_29] | rw [if_neg c_29] | rw [if_neg (Bool.eq_false_iff.mp c_29)] | skip)
                      (first | rw [if_pos c_39] | rw [if_neg c_39] | rw [if_neg (Bool.eq_false_iff.mp c_39)] | skip)
                      (first | rw [if_pos c_49] | rw [if_neg c_49] | rw [if_neg (Bool.eq_false_iff.mp c_49)] | skip)
                      (first | rw [if_pos c_59] | rw [if_neg c_59] | rw [if_neg (Bool.eq_false_iff.mp c_59)] | skip)
                      (first | rw [if_pos c_74] | rw [if_neg c_74] | rw [if_neg (Bool.eq_false_iff.mp c_74)] | skip)
                      (first | rw [if_pos c_111] | rw [if_neg c_111] | rw [if_neg (Bool.eq_false_iff.mp c_111)] | skip)
                      (first | rw [if_pos c_122] | rw [if_neg c_122] | rw [if_neg (Bool.eq_false_iff.mp c_122)] | skip)
                      (first | rw [if_pos c_127] | rw [if_neg c_127] | rw [if_neg (Bool.eq_false_iff.mp c_127)] | skip)
                      (try dsimp only)
                      first
                        | done
                        | exact ⟨rfl, rfl⟩
                        | rfl
                        | (simp only [c_5, c_13, c_29, c_39, c_49, c_59, c_74, c_111, c_122, c_127, if_true, if_false, and_self, and_true, true_and, not_true_eq_false, not_false_eq_true, and_false, false_and, or_true, true_or, or_false, false_or, or_self, Bool.false_eq_true, reduceCtorEq, nl10, nl20, nl30, nl40, nl50, nl60, nl70, nl12, nl13, nl21, nl23, nl31, nl32]; first | done | exact ⟨rfl, rfl⟩ | rfl)
                        | contradiction
                        | (simp only [c_5, c_13, c_29, c_39, c_49, c_59, c_74, c_111, c_122, c_127, if_true, if_false, and_self, and_true, true_and, not_true_eq_false, not_false_eq_true, and_false, false_and, or_true, true_or, or_false, false_or, or_self, Bool.false_eq_true, reduceCtorEq, nl10, nl20, nl30, nl40, nl50, nl60, nl70, nl12, nl13, nl21, nl23, nl31, nl32]; contradiction)
                        | (exfalso; simp_all; done)
                        | simp_all
                    · refine lv_iload_n hx hb dX8_copy_130 rfl (lv_at hl 3 rfl) ?_
                      refine lv_aload_n hx hb dX8_copy_131 rfl (lv_at hl 0 rfl) ?_
                      refine f_get X hP (T := TX8) (ci := 8) (k := 86) rfl inX8 rfl 23 (by decide) m_4_197 rfl (v := .ref (fad E 102)) rfl dX8_copy_132 ?_
                      refine lv_iload_n hx hb dX8_copy_135 rfl (lv_at hl 1 rfl) ?_
                      refine f_iald X hP (k := 102) (n := 8) (q := p1.toNatClampNeg) rfl rfl hix_1 dX8_copy_136 ?_
                      refine lv_iload hx hb dX8_copy_137 (lv_at hl 5 rfl) ?_
                      refine lv_isub hx hb dX8_copy_139 ?_
                      refine lv_icmp_gt (tgt := 157) hx hb dX8_copy_140 (by decide) (fun c_140 => ?_) (fun c_140 => ?_)
                      · refine lv_aload_n hx hb dX8_copy_157 rfl (lv_at hl 0 rfl) ?_
                        refine lv_bipush (v := (-5)) hx hb dX8_copy_158 (by decide) ?_
                        refine f_iV (n := 1) X hP hS [.int (-5)] [] (c_X8_no l E M L (-5) (by decide)) m_5_84 wi_X8_no rfl rfl (by decide) (by decide +kernel) ⟨Nat.le_of_ble_eq_true rfl, Nat.le_of_ble_eq_true rfl⟩ rfl hl rfl (Nat.le_of_ble_eq_true rfl) ⟨Nat.zero_le _, Nat.zero_le _⟩ dX8_copy_160 (fun H locs hP hS => ?_)
                        refine f_ir X hlk hr (v := (-5)) rfl hP hS ?_ dX8_copy_163
                        unfold a_X8_copy
                        (first | rw [if_pos c_5] | rw [if_neg c_5] | rw [if_neg (Bool.eq_false_iff.mp c_5)] | skip)
                        (first | rw [if_pos c_13] | rw [if_neg c_13] | rw [if_neg (Bool.eq_false_iff.mp c_13)] | skip)
                        (first | rw [if_pos c_29] | rw [if_neg c_29] | rw [if_neg (Bool.eq_false_iff.mp c_29)] | skip)
                        (first | rw [if_pos c_39] | rw [if_neg c_39] | rw [if_neg (Bool.eq_false_iff.mp c_39)] | skip)
                        (first | rw [if_pos c_49] | rw [if_neg c_49] | rw [if_neg (Bool.eq_false_iff.mp c_49)] | skip)
                        (first | rw [if_pos c_59] | rw [if_neg c_59] | rw [if_neg (Bool.eq_false_iff.mp c_59)] | skip)
                        (first | rw [if_pos c_74] | rw [if_neg c_74] | rw [if_neg (Bool.eq_false_iff.mp c_74)] | skip)
                        (first | rw [if_pos c_111] | rw [if_neg c_111] | rw [if_neg (Bool.eq_false_iff.mp c_111)] | skip)
                        (first | rw [if_pos c_122] | rw [if_neg c_122] | rw [if_neg (Bool.eq_false_iff.mp c_122)] | skip)
                        (first | rw [if_pos c_127] | rw [if_neg c_127] | rw [if_neg (Bool.eq_false_iff.mp c_127)] | skip)
                        (first | rw [if_pos c_140] | rw [if_neg c_140] | rw [if_neg (Bool.eq_false_iff.mp c_140)] | skip)
                        (try dsimp only)
                        first
                          | done
                          | exact ⟨rfl, rfl⟩
                          | rfl
                          | (simp only [c_5, c_13, c_29, c_39, c_49, c_59, c_74, c_111, c_122, c_127, c_140, if_true, if_false, and_self, and_true, true_and, not_true_eq_false, not_false_eq_true, and_false, false_and, or_true, true_or, or_false, false_or, or_self, Bool.false_eq_true, reduceCtorEq, nl10, nl20, nl30, nl40, nl50, nl60, nl70, nl12, nl13, nl21, nl23, nl31, nl32]; first | done | exact ⟨rfl, rfl⟩ | rfl)
                          | contradiction
                          | (simp only [c_5, c_13, c_29, c_39, c_49, c_59, c_74, c_111, c_122, c_127, c_140, if_true, if_false, and_self, and_true, true_and, not_true_eq_false, not_false_eq_true, and_false, false_and, or_true, true_or, or_false, false_or, or_self, Bool.false_eq_true, reduceCtorEq, nl10, nl20, nl30, nl40, nl50, nl60, nl70, nl12, nl13, nl21, nl23, nl31, nl32]; contradiction)
                          | (exfalso; simp_all; done)
                          | simp_all
                      · refine lv_iload hx hb dX8_copy_143 (lv_at hl 4 rfl) ?_
                        refine lv_aload_n hx hb dX8_copy_145 rfl (lv_at hl 0 rfl) ?_
                        refine f_get X hP (T := TX8) (ci := 8) (k := 86) rfl inX8 rfl 23 (by decide) m_4_197 rfl (v := .ref (fad E 102)) rfl dX8_copy_146 ?_
                        refine lv_iload_n hx hb dX8_copy_149 rfl (lv_at hl 2 rfl) ?_
                        refine f_iald X hP (k := 102) (n := 8) (q := q1.toNatClampNeg) rfl rfl hix_2 dX8_copy_150 ?_
                        refine lv_iload hx hb dX8_copy_151 (lv_at hl 5 rfl) ?_
                        refine lv_isub hx hb dX8_copy_153 ?_
                        refine lv_icmp_le (tgt := 164) hx hb dX8_copy_154 (by decide) (fun c_154 => ?_) (fun c_154 => ?_)
                        · have en : n = nI n.toNatClampNeg := n_self c_111
                          have hpi := part_2 (Int32.not_lt.mp c_122) (Int32.not_lt.mp c_140) c_111 (hzz _ (by omega))
                          have hpj := part_2 (Int32.not_lt.mp c_127) c_154 c_111 (hzz _ (by omega))
                          have hl : lv_has ls 7 [(0, .ref (fad E 86)), (1, .int p1), (2, .int q1), (3, .int i), (4, .int j), (5, .int (nI n.toNatClampNeg))] := by rw [← en]; exact hl
                          have hP := fP_eqL (show L = (crL L p1.toNatClampNeg i.toNatClampNeg 0) from by
                              exact crL_0) hP
                          refine lv_iconst (v := 0) hx hb dX8_copy_164 (by decide) ?_
                          refine lv_istore (lv' := [(6, .int 0), (0, .ref (fad E 86)), (1, .int p1), (2, .int q1), (3, .int i), (4, .int j), (5, .int (nI n.toNatClampNeg))]) hx hb dX8_copy_165 hl (by decide) rfl (fun ls hl => ?_)
                          refine f_loop (α := Nat) (fun (k : Nat) H locs ls => fP E M (crL L p1.toNatClampNeg i.toNatClampNeg k) H ∧ va_S (fA E) s.heap H locs ∧ lv_has ls 7 [(6, .int (nI k)), (0, .ref (fad E 86)), (1, .int p1), (2, .int q1), (3, .int i), (4, .int j), (5, .int (nI n.toNatClampNeg))] ∧ (k ≤ n.toNatClampNeg)) (fun (k : Nat) => n.toNatClampNeg - k) (pc0 := 167) (st := fun _ => []) ?_ 0 _ _ _ ⟨hP, hS, lv_sub hl [0, 1, 2, 3, 4, 5, 6] rfl, (by omega)⟩
                          rintro k H locs ls ⟨hP, hS, hl, ht⟩ ih_167
                          refine lv_iload hx hb dX8_copy_167 (lv_at hl 0 rfl) ?_
                          refine lv_iload hx hb dX8_copy_169 (lv_at hl 6 rfl) ?_
                          refine lv_icmp_ge (tgt := 202) hx hb dX8_copy_171 (by decide) (fun c_171 => ?_) (fun c_171 => ?_)
                          · have c_171 := (nI_le_iff (a := n.toNatClampNeg) (b := k) (by omega) (by omega)).mp c_171
                            obtain hk9 : k = n.toNatClampNeg := by omega
                            have hP := fP_eqL (show (crL L p1.toNatClampNeg i.toNatClampNeg k) = (crL L p1.toNatClampNeg i.toNatClampNeg n.toNatClampNeg) from by
                                rw [hk9]) hP
                            have hP := fP_eqL (show (crL L p1.toNatClampNeg i.toNatClampNeg n.toNatClampNeg) = (cwL (crL L p1.toNatClampNeg i.toNatClampNeg n.toNatClampNeg) q1.toNatClampNeg j.toNatClampNeg 0) from by
                                exact cwL_0) hP
                            refine lv_iconst (v := 0) hx hb dX8_copy_202 (by decide) ?_
                            refine lv_istore (lv' := [(6, .int 0), (0, .ref (fad E 86)), (1, .int p1), (2, .int q1), (3, .int i), (4, .int j), (5, .int (nI n.toNatClampNeg))]) hx hb dX8_copy_203 hl (by decide) rfl (fun ls hl => ?_)
                            refine f_loop (α := Nat) (fun (k : Nat) H locs ls => fP E M (cwL (crL L p1.toNatClampNeg i.toNatClampNeg n.toNatClampNeg) q1.toNatClampNeg j.toNatClampNeg k) H ∧ va_S (fA E) s.heap H locs ∧ lv_has ls 7 [(6, .int (nI k)), (0, .ref (fad E 86)), (1, .int p1), (2, .int q1), (3, .int i), (4, .int j), (5, .int (nI n.toNatClampNeg))] ∧ (k ≤ n.toNatClampNeg)) (fun (k : Nat) => n.toNatClampNeg - k) (pc0 := 205) (st := fun _ => []) ?_ 0 _ _ _ ⟨hP, hS, lv_sub hl [0, 1, 2, 3, 4, 5, 6] rfl, (by omega)⟩
                            rintro k H locs ls ⟨hP, hS, hl, ht⟩ ih_205
                            refine lv_iload hx hb dX8_copy_205 (lv_at hl 0 rfl) ?_
                            refine lv_iload hx hb dX8_copy_207 (lv_at hl 6 rfl) ?_
                            refine lv_icmp_ge (tgt := 241) hx hb dX8_copy_209 (by decide) (fun c_209 => ?_) (fun c_209 => ?_)
                            · have c_209 := (nI_le_iff (a := n.toNatClampNeg) (b := k) (by omega) (by omega)).mp c_209
                              obtain hk9 : k = n.toNatClampNeg := by omega
                              have hP := fP_eqL (show (cwL (crL L p1.toNatClampNeg i.toNatClampNeg n.toNatClampNeg) q1.toNatClampNeg j.toNatClampNeg k) = (cwL (crL L p1.toNatClampNeg i.toNatClampNeg n.toNatClampNeg) q1.toNatClampNeg j.toNatClampNeg n.toNatClampNeg) from by
                                  rw [hk9]) hP
                              refine lv_iconst (v := 1) hx hb dX8_copy_241 (by decide) ?_
                              refine f_ir X hlk hr (v := 1) rfl hP hS ?_ dX8_copy_242
                              unfold a_X8_copy
                              (first | rw [if_pos c_5] | rw [if_neg c_5] | rw [if_neg (Bool.eq_false_iff.mp c_5)] | skip)
                              (first | rw [if_pos c_13] | rw [if_neg c_13] | rw [if_neg (Bool.eq_false_iff.mp c_13)] | skip)
                              (first | rw [if_pos c_29] | rw [if_neg c_29] | rw [if_neg (Bool.eq_false_iff.mp c_29)] | skip)
                              (first | rw [if_pos c_39] | rw [if_neg c_39] | rw [if_neg (Bool.eq_false_iff.mp c_39)] | skip)
                              (first | rw [if_pos c_49] | rw [if_neg c_49] | rw [if_neg (Bool.eq_false_iff.mp c_49)] | skip)
                              (first | rw [if_pos c_59] | rw [if_neg c_59] | rw [if_neg (Bool.eq_false_iff.mp c_59)] | skip)
                              (first | rw [if_pos c_74] | rw [if_neg c_74] | rw [if_neg (Bool.eq_false_iff.mp c_74)] | skip)
                              (first | rw [if_pos c_111] | rw [if_neg c_111] | rw [if_neg (Bool.eq_false_iff.mp c_111)] | skip)
                              (first | rw [if_pos c_122] | rw [if_neg c_122] | rw [if_neg (Bool.eq_false_iff.mp c_122)] | skip)
                              (first | rw [if_pos c_127] | rw [if_neg c_127] | rw [if_neg (Bool.eq_false_iff.mp c_127)] | skip)
                              (first | rw [if_pos c_140] | rw [if_neg c_140] | rw [if_neg (Bool.eq_false_iff.mp c_140)] | skip)
                              (first | rw [if_pos c_154] | rw [if_neg c_154] | rw [if_neg (Bool.eq_false_iff.mp c_154)] | skip)
                              (first | rw [if_pos c_171] | rw [if_neg c_171] | rw [if_neg (Bool.eq_false_iff.mp c_171)] | skip)
                              (first | rw [if_pos c_209] | rw [if_neg c_209] | rw [if_neg (Bool.eq_false_iff.mp c_209)] | skip)
                              (try dsimp only)
                              first
                                | done
                                | exact ⟨rfl, rfl⟩
                                | rfl
                                | (simp only [c_5, c_13, c_29, c_39, c_49, c_59, c_74, c_111, c_122, c_127, c_140, c_154, c_171, c_209, if_true, if_false, and_self, and_true, true_and, not_true_eq_false, not_false_eq_true, and_false, false_and, or_true, true_or, or_false, false_or, or_self, Bool.false_eq_true, reduceCtorEq, nl10, nl20, nl30, nl40, nl50, nl60, nl70, nl12, nl13, nl21, nl23, nl31, nl32]; first | done | exact ⟨rfl, rfl⟩ | rfl)
                                | contradiction
                                | (simp only [c_5, c_13, c_29, c_39, c_49, c_59, c_74, c_111, c_122, c_127, c_140, c_154, c_171, c_209, if_true, if_false, and_self, and_true, true_and, not_true_eq_false, not_false_eq_true, and_false, false_and, or_true, true_or, or_false, false_or, or_self, Bool.false_eq_true, reduceCtorEq, nl10, nl20, nl30, nl40, nl50, nl60, nl70, nl12, nl13, nl21, nl23, nl31, nl32]; contradiction)
                                | (exfalso; simp_all; done)
                                | simp_all
                            · have c_209 := (not_congr (nI_le_iff (a := n.toNatClampNeg) (b := k) (by omega) (by omega))).mp c_209
                              refine lv_aload_n hx hb dX8_copy_212 rfl (lv_at hl 1 rfl) ?_
                              refine f_get X hP (T := TX8) (ci := 8) (k := 86) rfl inX8 rfl 25 (by decide) m_4_199 rfl (v := .ref (fad E 104)) rfl dX8_copy_213 ?_
                              have hik := fIx_cell3 hix_2 c_127 (show j.toNatClampNeg + k < 160 by omega)
                              refine lv_sipush (v := 160) hx hb dX8_copy_216 (by decide) ?_
                              refine lv_iload_n hx hb dX8_copy_219 rfl (lv_at hl 3 rfl) ?_
                              refine lv_imul hx hb dX8_copy_220 ?_
                              refine lv_iload hx hb dX8_copy_221 (lv_at hl 5 rfl) ?_
                              refine lv_iadd hx hb dX8_copy_223 ?_
                              refine lv_iload hx hb dX8_copy_224 (lv_at hl 0 rfl) ?_
                              refine lv_iadd hx hb dX8_copy_226 ?_
                              refine lv_aload_n hx hb dX8_copy_227 rfl (lv_at hl 1 rfl) ?_
                              refine f_get X hP (T := TX8) (ci := 8) (k := 86) rfl inX8 rfl 26 (by decide) m_4_200 rfl (v := .ref (fad E 105)) rfl dX8_copy_228 ?_
                              refine lv_iload hx hb dX8_copy_231 (lv_at hl 0 rfl) ?_
                              refine f_lald X hP (k := 105) (n := 160) (q := k) rfl rfl (fIx_nI (by omega) (by decide)) dX8_copy_233 ?_
                              refine f_last X hP hS (k := 104) (n := 1280) (q := (160 * q1.toNatClampNeg + j.toNatClampNeg + k)) rfl rfl (v := ((cwL (crL L p1.toNatClampNeg i.toNatClampNeg n.toNatClampNeg) q1.toNatClampNeg j.toNatClampNeg k) 105 k)) hik dX8_copy_234 (fun H locs hP hS => ?_)
                              refine lv_iinc (v := (nI (k + 1))) (lv' := [(6, .int (nI (k + 1))), (0, .ref (fad E 86)), (1, .int p1), (2, .int q1), (3, .int i), (4, .int j), (5, .int (nI n.toNatClampNeg))]) hx hb dX8_copy_235 hl (k := 0) rfl (nI_1 _) (by decide) rfl (fun ls hl => ?_)
                              refine lv_goto (tgt := 205) hx hb dX8_copy_238 (by decide) ?_
                              have hP := fP_eqL (show (upL (cwL (crL L p1.toNatClampNeg i.toNatClampNeg n.toNatClampNeg) q1.toNatClampNeg j.toNatClampNeg k) 104 (160 * q1.toNatClampNeg + j.toNatClampNeg + k) ((cwL (crL L p1.toNatClampNeg i.toNatClampNeg n.toNatClampNeg) q1.toNatClampNeg j.toNatClampNeg k) 105 k)) = (cwL (crL L p1.toNatClampNeg i.toNatClampNeg n.toNatClampNeg) q1.toNatClampNeg j.toNatClampNeg (k + 1)) from by
                                  exact cwL_s) hP
                              exact ih_205 (k + 1) _ _ _ (by show n.toNatClampNeg - (k + 1) < n.toNatClampNeg - k; omega) ⟨hP, hS, lv_sub hl [0, 1, 2, 3, 4, 5, 6] rfl, (by omega)⟩
                          · have c_171 := (not_congr (nI_le_iff (a := n.toNatClampNeg) (b := k) (by omega) (by omega))).mp c_171
                            refine lv_aload_n hx hb dX8_copy_174 rfl (lv_at hl 1 rfl) ?_
                            refine f_get X hP (T := TX8) (ci := 8) (k := 86) rfl inX8 rfl 26 (by decide) m_4_200 rfl (v := .ref (fad E 105)) rfl dX8_copy_175 ?_
                            have hik := fIx_cell3 hix_1 c_122 (show i.toNatClampNeg + k < 160 by omega)
                            refine lv_iload hx hb dX8_copy_178 (lv_at hl 0 rfl) ?_
                            refine lv_aload_n hx hb dX8_copy_180 rfl (lv_at hl 1 rfl) ?_
                            refine f_get X hP (T := TX8) (ci := 8) (k := 86) rfl inX8 rfl 25 (by decide) m_4_199 rfl (v := .ref (fad E 104)) rfl dX8_copy_181 ?_
                            refine lv_sipush (v := 160) hx hb dX8_copy_184 (by decide) ?_
                            refine lv_iload_n hx hb dX8_copy_187 rfl (lv_at hl 2 rfl) ?_
                            refine lv_imul hx hb dX8_copy_188 ?_
                            refine lv_iload_n hx hb dX8_copy_189 rfl (lv_at hl 4 rfl) ?_
                            refine lv_iadd hx hb dX8_copy_190 ?_
                            refine lv_iload hx hb dX8_copy_191 (lv_at hl 0 rfl) ?_
                            refine lv_iadd hx hb dX8_copy_193 ?_
                            refine f_lald X hP (k := 104) (n := 1280) (q := (160 * p1.toNatClampNeg + i.toNatClampNeg + k)) rfl rfl hik dX8_copy_194 ?_
                            refine f_last X hP hS (k := 105) (n := 160) (q := k) rfl rfl (v := ((crL L p1.toNatClampNeg i.toNatClampNeg k) 104 (160 * p1.toNatClampNeg + i.toNatClampNeg + k))) (fIx_nI (by omega) (by decide)) dX8_copy_195 (fun H locs hP hS => ?_)
                            refine lv_iinc (v := (nI (k + 1))) (lv' := [(6, .int (nI (k + 1))), (0, .ref (fad E 86)), (1, .int p1), (2, .int q1), (3, .int i), (4, .int j), (5, .int (nI n.toNatClampNeg))]) hx hb dX8_copy_196 hl (k := 0) rfl (nI_1 _) (by decide) rfl (fun ls hl => ?_)
                            refine lv_goto (tgt := 167) hx hb dX8_copy_199 (by decide) ?_
                            have hP := fP_eqL (show (upL (crL L p1.toNatClampNeg i.toNatClampNeg k) 105 k ((crL L p1.toNatClampNeg i.toNatClampNeg k) 104 (160 * p1.toNatClampNeg + i.toNatClampNeg + k))) = (crL L p1.toNatClampNeg i.toNatClampNeg (k + 1)) from by
                                exact crL_s) hP
                            exact ih_167 (k + 1) _ _ _ (by show n.toNatClampNeg - (k + 1) < n.toNatClampNeg - k; omega) ⟨hP, hS, lv_sub hl [0, 1, 2, 3, 4, 5, 6] rfl, (by omega)⟩
                        · refine lv_aload_n hx hb dX8_copy_157 rfl (lv_at hl 0 rfl) ?_
                          refine lv_bipush (v := (-5)) hx hb dX8_copy_158 (by decide) ?_
                          refine f_iV (n := 1) X hP hS [.int (-5)] [] (c_X8_no l E M L (-5) (by decide)) m_5_84 wi_X8_no rfl rfl (by decide) (by decide +kernel) ⟨Nat.le_of_ble_eq_true rfl, Nat.le_of_ble_eq_true rfl⟩ rfl hl rfl (Nat.le_of_ble_eq_true rfl) ⟨Nat.zero_le _, Nat.zero_le _⟩ dX8_copy_160 (fun H locs hP hS => ?_)
                          refine f_ir X hlk hr (v := (-5)) rfl hP hS ?_ dX8_copy_163
                          unfold a_X8_copy
                          (first | rw [if_pos c_5] | rw [if_neg c_5] | rw [if_neg (Bool.eq_false_iff.mp c_5)] | skip)
                          (first | rw [if_pos c_13] | rw [if_neg c_13] | rw [if_neg (Bool.eq_false_iff.mp c_13)] | skip)
                          (first | rw [if_pos c_29] | rw [if_neg c_29] | rw [if_neg (Bool.eq_false_iff.mp c_29)] | skip)
                          (first | rw [if_pos c_39] | rw [if_neg c_39] | rw [if_neg (Bool.eq_false_iff.mp c_39)] | skip)
                          (first | rw [if_pos c_49] | rw [if_neg c_49] | rw [if_neg (Bool.eq_false_iff.mp c_49)] | skip)
                          (first | rw [if_pos c_59] | rw [if_neg c_59] | rw [if_neg (Bool.eq_false_iff.mp c_59)] | skip)
                          (first | rw [if_pos c_74] | rw [if_neg c_74] | rw [if_neg (Bool.eq_false_iff.mp c_74)] | skip)
                          (first | rw [if_pos c_111] | rw [if_neg c_111] | rw [if_neg (Bool.eq_false_iff.mp c_111)] | skip)
                          (first | rw [if_pos c_122] | rw [if_neg c_122] | rw [if_neg (Bool.eq_false_iff.mp c_122)] | skip)
                          (first | rw [if_pos c_127] | rw [if_neg c_127] | rw [if_neg (Bool.eq_false_iff.mp c_127)] | skip)
                          (first | rw [if_pos c_140] | rw [if_neg c_140] | rw [if_neg (Bool.eq_false_iff.mp c_140)] | skip)
                          (first | rw [if_pos c_154] | rw [if_neg c_154] | rw [if_neg (Bool.eq_false_iff.mp c_154)] | skip)
                          (try dsimp only)
                          first
                            | done
                            | exact ⟨rfl, rfl⟩
                            | rfl
                            | (simp only [c_5, c_13, c_29, c_39, c_49, c_59, c_74, c_111, c_122, c_127, c_140, c_154, if_true, if_false, and_self, and_true, true_and, not_true_eq_false, not_false_eq_true, and_false, false_and, or_true, true_or, or_false, false_or, or_self, Bool.false_eq_true, reduceCtorEq, nl10, nl20, nl30, nl40, nl50, nl60, nl70, nl12, nl13, nl21, nl23, nl31, nl32]; first | done | exact ⟨rfl, rfl⟩ | rfl)
                            | contradiction
                            | (simp only [c_5, c_13, c_29, c_39, c_49, c_59, c_74, c_111, c_122, c_127, c_140, c_154, if_true, if_false, and_self, and_true, true_and, not_true_eq_false, not_false_eq_true, and_false, false_and, or_true, true_or, or_false, false_or, or_self, Bool.false_eq_true, reduceCtorEq, nl10, nl20, nl30, nl40, nl50, nl60, nl70, nl12, nl13, nl21, nl23, nl31, nl32]; contradiction)
                            | (exfalso; simp_all; done)
                            | simp_all
                · refine lv_aload_n hx hb dX8_copy_114 rfl (lv_at hl 0 rfl) ?_
                  refine lv_bipush (v := (-4)) hx hb dX8_copy_115 (by decide) ?_
                  refine f_iV (n := 1) X hP hS [.int (-4)] [] (c_X8_no l E M L (-4) (by decide)) m_5_84 wi_X8_no rfl rfl (by decide) (by decide +kernel) ⟨Nat.le_of_ble_eq_true rfl, Nat.le_of_ble_eq_true rfl⟩ rfl hl rfl (Nat.le_of_ble_eq_true rfl) ⟨Nat.zero_le _, Nat.zero_le _⟩ dX8_copy_117 (fun H locs hP hS => ?_)
                  refine f_ir X hlk hr (v := (-4)) rfl hP hS ?_ dX8_copy_120
                  unfold a_X8_copy
                  (first | rw [if_pos c_5] | rw [if_neg c_5] | rw [if_neg (Bool.eq_false_iff.mp c_5)] | skip)
                  (first | rw [if_pos c_13] | rw [if_neg c_13] | rw [if_neg (Bool.eq_false_iff.mp c_13)] | skip)
                  (first | rw [if_pos c_29] | rw [if_neg c_29] | rw [if_neg (Bool.eq_false_iff.mp c_29)] | skip)
                  (first | rw [if_pos c_39] | rw [if_neg c_39] | rw [if_neg (Bool.eq_false_iff.mp c_39)] | skip)
                  (first | rw [if_pos c_49] | rw [if_neg c_49] | rw [if_neg (Bool.eq_false_iff.mp c_49)] | skip)
                  (first | rw [if_pos c_59] | rw [if_neg c_59] | rw [if_neg (Bool.eq_false_iff.mp c_59)] | skip)
                  (first | rw [if_pos c_74] | rw [if_neg c_74] | rw [if_neg (Bool.eq_false_iff.mp c_74)] | skip)
                  (first | rw [if_pos c_111] | rw [if_neg c_111] | rw [if_neg (Bool.eq_false_iff.mp c_111)] | skip)
                  (try dsimp only)
                  first
                    | done
                    | exact ⟨rfl, rfl⟩
                    | rfl
                    | (simp only [c_5, c_13, c_29, c_39, c_49, c_59, c_74, c_111, if_true, if_false, and_self, and_true, true_and, not_true_eq_false, not_false_eq_true, and_false, false_and, or_true, true_or, or_false, false_or, or_self, Bool.false_eq_true, reduceCtorEq, nl10, nl20, nl30, nl40, nl50, nl60, nl70, nl12, nl13, nl21, nl23, nl31, nl32]; first | done | exact ⟨rfl, rfl⟩ | rfl)
                    | contradiction
                    | (simp only [c_5, c_13, c_29, c_39, c_49, c_59, c_74, c_111, if_true, if_false, and_self, and_true, true_and, not_true_eq_false, not_false_eq_true, and_false, false_and, or_true, true_or, or_false, false_or, or_self, Bool.false_eq_true, reduceCtorEq, nl10, nl20, nl30, nl40, nl50, nl60, nl70, nl12, nl13, nl21, nl23, nl31, nl32]; contradiction)
                    | (exfalso; simp_all; done)
                    | simp_all
              · refine lv_aload_n hx hb dX8_copy_77 rfl (lv_at hl 0 rfl) ?_
                refine lv_bipush (v := (-2)) hx hb dX8_copy_78 (by decide) ?_
                refine f_iV (n := 1) X hP hS [.int (-2)] [] (c_X8_no l E M L (-2) (by decide)) m_5_84 wi_X8_no rfl rfl (by decide) (by decide +kernel) ⟨Nat.le_of_ble_eq_true rfl, Nat.le_of_ble_eq_true rfl⟩ rfl hl rfl (Nat.le_of_ble_eq_true rfl) ⟨Nat.zero_le _, Nat.zero_le _⟩ dX8_copy_80 (fun H locs hP hS => ?_)
                refine f_ir X hlk hr (v := (-2)) rfl hP hS ?_ dX8_copy_83
                unfold a_X8_copy
                (first | rw [if_pos c_5] | rw [if_neg c_5] | rw [if_neg (Bool.eq_false_iff.mp c_5)] | skip)
                (first | rw [if_pos c_13] | rw [if_neg c_13] | rw [if_neg (Bool.eq_false_iff.mp c_13)] | skip)
                (first | rw [if_pos c_29] | rw [if_neg c_29] | rw [if_neg (Bool.eq_false_iff.mp c_29)] | skip)
                (first | rw [if_pos c_39] | rw [if_neg c_39] | rw [if_neg (Bool.eq_false_iff.mp c_39)] | skip)
                (first | rw [if_pos c_49] | rw [if_neg c_49] | rw [if_neg (Bool.eq_false_iff.mp c_49)] | skip)
                (first | rw [if_pos c_59] | rw [if_neg c_59] | rw [if_neg (Bool.eq_false_iff.mp c_59)] | skip)
                (first | rw [if_pos c_74] | rw [if_neg c_74] | rw [if_neg (Bool.eq_false_iff.mp c_74)] | skip)
                (try dsimp only)
                first
                  | done
                  | exact ⟨rfl, rfl⟩
                  | rfl
                  | (simp only [c_5, c_13, c_29, c_39, c_49, c_59, c_74, if_true, if_false, and_self, and_true, true_and, not_true_eq_false, not_false_eq_true, and_false, false_and, or_true, true_or, or_false, false_or, or_self, Bool.false_eq_true, reduceCtorEq, nl10, nl20, nl30, nl40, nl50, nl60, nl70, nl12, nl13, nl21, nl23, nl31, nl32]; first | done | exact ⟨rfl, rfl⟩ | rfl)
                  | contradiction
                  | (simp only [c_5, c_13, c_29, c_39, c_49, c_59, c_74, if_true, if_false, and_self, and_true, true_and, not_true_eq_false, not_false_eq_true, and_false, false_and, or_true, true_or, or_false, false_or, or_self, Bool.false_eq_true, reduceCtorEq, nl10, nl20, nl30, nl40, nl50, nl60, nl70, nl12, nl13, nl21, nl23, nl31, nl32]; contradiction)
                  | (exfalso; simp_all; done)
                  | simp_all
    · have c_13 := bI0 c_13
      refine lv_aload_n hx hb dX8_copy_16 rfl (lv_at hl 0 rfl) ?_
      refine lv_iconst (v := (-1)) hx hb dX8_copy_17 (by decide) ?_
      refine f_iV (n := 1) X hP hS [.int (-1)] [] (c_X8_no l E M L (-1) (by decide)) m_5_84 wi_X8_no rfl rfl (by decide) (by decide +kernel) ⟨Nat.le_of_ble_eq_true rfl, Nat.le_of_ble_eq_true rfl⟩ rfl hl rfl (Nat.le_of_ble_eq_true rfl) ⟨Nat.zero_le _, Nat.zero_le _⟩ dX8_copy_18 (fun H locs hP hS => ?_)
      refine f_ir X hlk hr (v := (-1)) rfl hP hS ?_ dX8_copy_21
      unfold a_X8_copy
      (first | rw [if_pos c_5] | rw [if_neg c_5] | rw [if_neg (Bool.eq_false_iff.mp c_5)] | skip)
      (first | rw [if_pos c_13] | rw [if_neg c_13] | rw [if_neg (Bool.eq_false_iff.mp c_13)] | skip)
      (try dsimp only)
      first
        | done
        | exact ⟨rfl, rfl⟩
        | rfl
        | (simp only [c_5, c_13, if_true, if_false, and_self, and_true, true_and, not_true_eq_false, not_false_eq_true, and_false, false_and, or_true, true_or, or_false, false_or, or_self, Bool.false_eq_true, reduceCtorEq, nl10, nl20, nl30, nl40, nl50, nl60, nl70, nl12, nl13, nl21, nl23, nl31, nl32]; first | done | exact ⟨rfl, rfl⟩ | rfl)
        | contradiction
        | (simp only [c_5, c_13, if_true, if_false, and_self, and_true, true_and, not_true_eq_false, not_false_eq_true, and_false, false_and, or_true, true_or, or_false, false_or, or_self, Bool.false_eq_true, reduceCtorEq, nl10, nl20, nl30, nl40, nl50, nl60, nl70, nl12, nl13, nl21, nl23, nl31, nl32]; contradiction)
        | (exfalso; simp_all; done)
        | simp_all
