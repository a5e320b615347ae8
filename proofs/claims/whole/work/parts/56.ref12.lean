def a_X8_stop (M : Nat → Nat → Int32) (L : Nat → Nat → Int64) (t : Int32) (w : Int32) (what : Int32) (tc : Nat) (wc : Nat) : fR := (if (0 ≤ t ∧ t < (M 86 1)) then (if (0 ≤ w ∧ w < (M 86 0)) then (if what < 0 then (((-5) - 10), (noM M (-5)), L) else (if what ≤ 1 then (if what = 0 then (((a_X8_stops M L t w t.toNatClampNeg w.toNatClampNeg).1), (a_X8_stops M L t w t.toNatClampNeg w.toNatClampNeg).2.1, L) else (((a_X8_stops M L t w t.toNatClampNeg w.toNatClampNeg).2.1 86 39), (a_X8_stops M L t w t.toNatClampNeg w.toNatClampNeg).2.1, L)) else (((-5) - 10), (noM M (-5)), L))) else (((-1) - 10), (noM M (-1)), L)) else (((-1) - 10), (noM M (-1)), L))
set_option maxHeartbeats 1000000 in
set_option maxRecDepth 100000 in
theorem c_X8_stop (l : Launch) (E : fE) (M : Nat → Nat → Int32) (L : Nat → Nat → Int64) (t : Int32) (w : Int32) (what : Int32) (tc wc : Nat) (htc : M 86 1 = nI tc) (htc8 : tc ≤ 8) (hwc : M 86 0 = nI wc) (hwc6 : wc ≤ 6) : Met l yX8_stop (wl yX8_stop cX8_stop 5 (some .int)) (fRm 2 51) (va_Pc [.ref (fad E 86), .int t, .int w, .int what] (fPre E M L)) (fQi E (fun r u => u = ((a_X8_stop M L t w what tc wc).2.1, L) ∧ r = (a_X8_stop M L t w what tc wc).1)) 0 0 (fA E) := by
  refine f_head (by decide) (Nat.le_of_ble_eq_true rfl) ?_
  intro pg ev s mi below meth cd ls X hr hlk hP hS hl
  have hx := X.1.1
  have hb := X.1.2.1
  have hl : lv_has ls 5 [(0, .ref (fad E 86)), (1, .int t), (2, .int w), (3, .int what)] := hl
  refine lv_aload_n hx hb dX8_stop_0 rfl (lv_at hl 0 rfl) ?_
  refine lv_iload_n hx hb dX8_stop_1 rfl (lv_at hl 1 rfl) ?_
  refine f_iV (n := 1) X hP hS [.int t] [] (c_X8_isThing l E M L t) m_5_148 wi_X8_isThing rfl rfl (by decide) (by decide +kernel) ⟨Nat.le_of_ble_eq_true rfl, Nat.le_of_ble_eq_true rfl⟩ rfl hl rfl (Nat.le_of_ble_eq_true rfl) ⟨Nat.zero_le _, Nat.zero_le _⟩ dX8_stop_2 (fun H locs hP hS => ?_)
  refine lv_if_eq (tgt := 16) hx hb dX8_stop_5 (by decide) (fun c_5 => ?_) (fun c_5 => ?_)
  · have c_5 := bI0 c_5
    refine lv_aload_n hx hb dX8_stop_16 rfl (lv_at hl 0 rfl) ?_
    refine lv_iconst (v := (-1)) hx hb dX8_stop_17 (by decide) ?_
    refine f_iV (n := 1) X hP hS [.int (-1)] [] (c_X8_noTen l E M L (-1) (by decide)) m_5_236 wi_X8_noTen rfl rfl (by decide) (by decide +kernel) ⟨Nat.le_of_ble_eq_true rfl, Nat.le_of_ble_eq_true rfl⟩ rfl hl rfl (Nat.le_of_ble_eq_true rfl) ⟨Nat.zero_le _, Nat.zero_le _⟩ dX8_stop_18 (fun H locs hP hS => ?_)
    refine f_ir X hlk hr (v := ((-1) - 10)) rfl hP hS ?_ dX8_stop_21
    unfold a_X8_stop
    (first | rw [if_pos c_5] | rw [if_neg c_5] | rw [if_neg (Bool.eq_false_iff.mp c_5)] | skip)
    (try dsimp only)
    first
      | done
      | exact ⟨rfl, rfl⟩
      | rfl
      | (simp only [c_5, if_true, if_false, and_self, and_true, true_and, not_true_eq_false, not_false_eq_true, and_false, false_and, or_true, true_or, or_false, false_or, or_self, Bool.false_eq_true, reduceCtorEq, nl10, nl20, nl30, nl40, nl50, nl60, nl70, nl12, nl13, nl21, nl23, nl31, nl32]; first | done | exact ⟨rfl, rfl⟩ | rfl)
      | contradiction
      | (simp only [c_5, if_true, if_false, and_self, and_true, true_and, not_true_eq_false, not_false_eq_true, and_false, false_and, or_true, true_or, or_false, false_or, or_self, Bool.false_eq_true, reduceCtorEq, nl10, nl20, nl30, nl40, nl50, nl60, nl70, nl12, nl13, nl21, nl23, nl31, nl32]; contradiction)
      | (exfalso; simp_all; done)
      | simp_all
  · have c_5 := bI1 c_5
    refine lv_aload_n hx hb dX8_stop_8 rfl (lv_at hl 0 rfl) ?_
    refine lv_iload_n hx hb dX8_stop_9 rfl (lv_at hl 2 rfl) ?_
    refine f_iV (n := 1) X hP hS [.int w] [] (c_X8_isWaiter l E M L w) m_5_104 wi_X8_isWaiter rfl rfl (by decide) (by decide +kernel) ⟨Nat.le_of_ble_eq_true rfl, Nat.le_of_ble_eq_true rfl⟩ rfl hl rfl (Nat.le_of_ble_eq_true rfl) ⟨Nat.zero_le _, Nat.zero_le _⟩ dX8_stop_10 (fun H locs hP hS => ?_)
    refine lv_if_ne (tgt := 22) hx hb dX8_stop_13 (by decide) (fun c_13 => ?_) (fun c_13 => ?_)
    · have c_13 := bI1 c_13
      refine lv_iload_n hx hb dX8_stop_22 rfl (lv_at hl 3 rfl) ?_
      refine lv_if_lt (tgt := 31) hx hb dX8_stop_23 (by decide) (fun c_23 => ?_) (fun c_23 => ?_)
      · refine lv_aload_n hx hb dX8_stop_31 rfl (lv_at hl 0 rfl) ?_
        refine lv_bipush (v := (-5)) hx hb dX8_stop_32 (by decide) ?_
        refine f_iV (n := 1) X hP hS [.int (-5)] [] (c_X8_noTen l E M L (-5) (by decide)) m_5_236 wi_X8_noTen rfl rfl (by decide) (by decide +kernel) ⟨Nat.le_of_ble_eq_true rfl, Nat.le_of_ble_eq_true rfl⟩ rfl hl rfl (Nat.le_of_ble_eq_true rfl) ⟨Nat.zero_le _, Nat.zero_le _⟩ dX8_stop_34 (fun H locs hP hS => ?_)
        refine f_ir X hlk hr (v := ((-5) - 10)) rfl hP hS ?_ dX8_stop_37
        unfold a_X8_stop
        (first | rw [if_pos c_5] | rw [if_neg c_5] | rw [if_neg (Bool.eq_false_iff.mp c_5)] | skip)
        (first | rw [if_pos c_13] | rw [if_neg c_13] | rw [if_neg (Bool.eq_false_iff.mp c_13)] | skip)
        (first | rw [if_pos c_23] | rw [if_neg c_23] | rw [if_neg (Bool.eq_false_iff.mp c_23)] | skip)
        (try dsimp only)
        first
          | done
          | exact ⟨rfl, rfl⟩
          | rfl
          | (simp only [c_5, c_13, c_23, if_true, if_false, and_self, and_true, true_and, not_true_eq_false, not_false_eq_true, and_false, false_and, or_true, true_or, or_false, false_or, or_self, Bool.false_eq_true, reduceCtorEq, nl10, nl20, nl30, nl40, nl50, nl60, nl70, nl12, nl13, nl21, nl23, nl31, nl32]; first | done | exact ⟨rfl, rfl⟩ | rfl)
          | contradiction
          | (simp only [c_5, c_13, c_23, if_true, if_false, and_self, and_true, true_and, not_true_eq_false, not_false_eq_true, and_false, false_and, or_true, true_or, or_false, false_or, or_self, Bool.false_eq_true, reduceCtorEq, nl10, nl20, nl30, nl40, nl50, nl60, nl70, nl12, nl13, nl21, nl23, nl31, nl32]; contradiction)
          | (exfalso; simp_all; done)
          | simp_all
      · refine lv_iload_n hx hb dX8_stop_26 rfl (lv_at hl 3 rfl) ?_
        refine lv_iconst (v := 1) hx hb dX8_stop_27 (by decide) ?_
        refine lv_icmp_le (tgt := 38) hx hb dX8_stop_28 (by decide) (fun c_28 => ?_) (fun c_28 => ?_)
        · refine lv_aload_n hx hb dX8_stop_38 rfl (lv_at hl 0 rfl) ?_
          refine lv_iload_n hx hb dX8_stop_39 rfl (lv_at hl 1 rfl) ?_
          refine lv_iload_n hx hb dX8_stop_40 rfl (lv_at hl 2 rfl) ?_
          have hix_1 : fIx t 8 t.toNatClampNeg := by
            first
              | exact fIx_lt 8 c_5.1 c_5.2 (by decide)
              | exact fIx_lt 8 c_13.1 c_13.2 (by decide)
              | exact fIx_lt 8 c_23.1 c_23.2 (by decide)
              | exact fIx_lt 8 c_28.1 c_28.2 (by decide)
              | exact fIx_cnt 8 c_5.1 c_5.2 htc htc8 (by decide)
              | exact fIx_cnt 8 c_13.1 c_13.2 htc htc8 (by decide)
              | exact fIx_cnt 8 c_23.1 c_23.2 htc htc8 (by decide)
              | exact fIx_cnt 8 c_28.1 c_28.2 htc htc8 (by decide)
              | exact fIx_le 7 c_5.1 c_5.2 (by decide)
              | exact fIx_le 7 c_13.1 c_13.2 (by decide)
              | exact fIx_le 7 c_23.1 c_23.2 (by decide)
              | exact fIx_le 7 c_28.1 c_28.2 (by decide)
              | exact fIx_lt 8 c_5.1 c_5.2.2 (by decide)
              | exact fIx_lt 8 c_13.1 c_13.2.2 (by decide)
              | exact fIx_lt 8 c_23.1 c_23.2.2 (by decide)
              | exact fIx_lt 8 c_28.1 c_28.2.2 (by decide)
              | exact fIx_le 7 (rr0 c_5).1.1 (rr0 c_5).1.2 (by decide)
              | exact fIx_le 7 (rr0 c_13).1.1 (rr0 c_13).1.2 (by decide)
              | exact fIx_le 7 (rr0 c_23).1.1 (rr0 c_23).1.2 (by decide)
              | exact fIx_le 7 (rr0 c_28).1.1 (rr0 c_28).1.2 (by decide)
              | (refine fIx_lt 8 (show (0 : Int32) ≤ t from ?_) (show t < (8 : Int32) from ?_) (by decide) <;> (have e0_9 : (0 : Int32).toInt = 0 := rfl; have en_9 : (8 : Int32).toInt = 8 := rfl; simp only [Int32.lt_iff_toInt_lt, Int32.le_iff_toInt_le, Int32.not_lt, Int32.not_le, ← Int32.toInt_inj] at *; omega))
          have hlt_1 := hix_1.2.2
          have hix_2 : fIx w 6 w.toNatClampNeg := by
            first
              | exact fIx_lt 6 c_5.1 c_5.2 (by decide)
              | exact fIx_lt 6 c_13.1 c_13.2 (by decide)
              | exact fIx_lt 6 c_23.1 c_23.2 (by decide)
              | exact fIx_lt 6 c_28.1 c_28.2 (by decide)
              | exact fIx_cnt 6 c_5.1 c_5.2 hwc hwc6 (by decide)
              | exact fIx_cnt 6 c_13.1 c_13.2 hwc hwc6 (by decide)
              | exact fIx_cnt 6 c_23.1 c_23.2 hwc hwc6 (by decide)
              | exact fIx_cnt 6 c_28.1 c_28.2 hwc hwc6 (by decide)
              | exact fIx_le 5 c_5.1 c_5.2 (by decide)
              | exact fIx_le 5 c_13.1 c_13.2 (by decide)
              | exact fIx_le 5 c_23.1 c_23.2 (by decide)
              | exact fIx_le 5 c_28.1 c_28.2 (by decide)
              | exact fIx_lt 6 c_5.1 c_5.2.2 (by decide)
              | exact fIx_lt 6 c_13.1 c_13.2.2 (by decide)
              | exact fIx_lt 6 c_23.1 c_23.2.2 (by decide)
              | exact fIx_lt 6 c_28.1 c_28.2.2 (by decide)
              | exact fIx_le 5 (rr0 c_5).1.1 (rr0 c_5).1.2 (by decide)
              | exact fIx_le 5 (rr0 c_13).1.1 (rr0 c_13).1.2 (by decide)
              | exact fIx_le 5 (rr0 c_23).1.1 (rr0 c_23).1.2 (by decide)
              | exact fIx_le 5 (rr0 c_28).1.1 (rr0 c_28).1.2 (by decide)
              | (refine fIx_lt 6 (show (0 : Int32) ≤ w from ?_) (show w < (6 : Int32) from ?_) (by decide) <;> (have e0_9 : (0 : Int32).toInt = 0 := rfl; have en_9 : (6 : Int32).toInt = 6 := rfl; simp only [Int32.lt_iff_toInt_lt, Int32.le_iff_toInt_le, Int32.not_lt, Int32.not_le, ← Int32.toInt_inj] at *; omega))
          have hlt_2 := hix_2.2.2
          refine f_iV (n := 2) X hP hS [.int t, .int w] [] (c_X8_stops l E M L t w t.toNatClampNeg w.toNatClampNeg hix_1 hix_2) m_6_0 wi_X8_stops rfl rfl (by decide) (by decide +kernel) ⟨Nat.le_of_ble_eq_true rfl, Nat.le_of_ble_eq_true rfl⟩ rfl hl rfl (Nat.le_of_ble_eq_true rfl) ⟨Nat.zero_le _, Nat.zero_le _⟩ dX8_stop_41 (fun H locs hP hS => ?_)
          refine lv_istore (lv' := [(4, .int ((a_X8_stops M L t w t.toNatClampNeg w.toNatClampNeg).1)), (0, .ref (fad E 86)), (1, .int t), (2, .int w), (3, .int what)]) hx hb dX8_stop_44 hl (by decide) rfl (fun ls hl => ?_)
          refine lv_iload_n hx hb dX8_stop_46 rfl (lv_at hl 4 rfl) ?_
          refine lv_if_ne (tgt := 55) hx hb dX8_stop_47 (by decide) (fun c_47 => ?_) (fun c_47 => ?_)
          · refine lv_aload_n hx hb dX8_stop_55 rfl (lv_at hl 1 rfl) ?_
            refine f_get X hP (T := TX8) (ci := 8) (k := 86) rfl inX8 rfl 39 (by decide) m_4_213 rfl (v := .int ((a_X8_stops M L t w t.toNatClampNeg w.toNatClampNeg).2.1 86 39)) rfl dX8_stop_56 ?_
            refine f_ir X hlk hr (v := ((a_X8_stops M L t w t.toNatClampNeg w.toNatClampNeg).2.1 86 39)) rfl hP hS ?_ dX8_stop_59
            unfold a_X8_stop
            (first | rw [if_pos c_5] | rw [if_neg c_5] | rw [if_neg (Bool.eq_false_iff.mp c_5)] | skip)
            (first | rw [if_pos c_13] | rw [if_neg c_13] | rw [if_neg (Bool.eq_false_iff.mp c_13)] | skip)
            (first | rw [if_pos c_23] | rw [if_neg c_23] | rw [if_neg (Bool.eq_false_iff.mp c_23)] | skip)
            (first | rw [if_pos c_28] | rw [if_neg c_28] | rw [if_neg (Bool.eq_false_iff.mp c_28)] | skip)
            (first | rw [if_pos c_47] | rw [if_neg c_47] | rw [if_neg (Bool.eq_false_iff.mp c_47)] | skip)
            (try dsimp only)
            first
              | done
              | exact ⟨rfl, rfl⟩
              | rfl
              | (simp only [c_5, c_13, c_23, c_28, c_47, if_true, if_false, and_self, and_true, true_and, not_true_eq_false, not_false_eq_true, and_false, false_and, or_true, true_or, or_false, false_or, or_self, Bool.false_eq_true, reduceCtorEq, nl10, nl20, nl30, nl40, nl50, nl60, nl70, nl12, nl13, nl21, nl23, nl31, nl32]; first | done | exact ⟨rfl, rfl⟩ | rfl)
              | contradiction
              | (simp only [c_5, c_13, c_23, c_28, c_47, if_true, if_false, and_self, and_true, true_and, not_true_eq_false, not_false_eq_true, and_false, false_and, or_true, true_or, or_false, false_or, or_self, Bool.false_eq_true, reduceCtorEq, nl10, nl20, nl30, nl40, nl50, nl60, nl70, nl12, nl13, nl21, nl23, nl31, nl32]; contradiction)
              | (exfalso; simp_all; done)
              | simp_all
          · refine lv_iload hx hb dX8_stop_50 (lv_at hl 0 rfl) ?_
            refine lv_goto (tgt := 59) hx hb dX8_stop_52 (by decide) ?_
            refine f_ir X hlk hr (v := ((a_X8_stops M L t w t.toNatClampNeg w.toNatClampNeg).1)) rfl hP hS ?_ dX8_stop_59
            unfold a_X8_stop
            (first | rw [if_pos c_5] | rw [if_neg c_5] | rw [if_neg (Bool.eq_false_iff.mp c_5)] | skip)
            (first | rw [if_pos c_13] | rw [if_neg c_13] | rw [if_neg (Bool.eq_false_iff.mp c_13)] | skip)
            (first | rw [if_pos c_23] | rw [if_neg c_23] | rw [if_neg (Bool.eq_false_iff.mp c_23)] | skip)
            (first | rw [if_pos c_28] | rw [if_neg c_28] | rw [if_neg (Bool.eq_false_iff.mp c_28)] | skip)
            (first | rw [if_pos c_47] | rw [if_neg c_47] | rw [if_neg (Bool.eq_false_iff.mp c_47)] | skip)
            (try dsimp only)
            first
              | done
              | exact ⟨rfl, rfl⟩
              | rfl
              | (simp only [c_5, c_13, c_23, c_28, c_47, if_true, if_false, and_self, and_true, true_and, not_true_eq_false, not_false_eq_true, and_false, false_and, or_true, true_or, or_false, false_or, or_self, Bool.false_eq_true, reduceCtorEq, nl10, nl20, nl30, nl40, nl50, nl60, nl70, nl12, nl13, nl21, nl23, nl31, nl32]; first | done | exact ⟨rfl, rfl⟩ | rfl)
              | contradiction
              | (simp only [c_5, c_13, c_23, c_28, c_47, if_true, if_false, and_self, and_true, true_and, not_true_eq_false, not_false_eq_true, and_false, false_and, or_true, true_or, or_false, false_or, or_self, Bool.false_eq_true, reduceCtorEq, nl10, nl20, nl30, nl40, nl50, nl60, nl70, nl12, nl13, nl21, nl23, nl31, nl32]; contradiction)
              | (exfalso; simp_all; done)
              | simp_all
        · refine lv_aload_n hx hb dX8_stop_31 rfl (lv_at hl 0 rfl) ?_
          refine lv_bipush (v := (-5)) hx hb dX8_stop_32 (by decide) ?_
          refine f_iV (n := 1) X hP hS [.int (-5)] [] (c_X8_noTen l E M L (-5) (by decide)) m_5_236 wi_X8_noTen rfl rfl (by decide) (by decide +kernel) ⟨Nat.le_of_ble_eq_true rfl, Nat.le_of_ble_eq_true rfl⟩ rfl hl rfl (Nat.le_of_ble_eq_true rfl) ⟨Nat.zero_le _, Nat.zero_le _⟩ dX8_stop_34 (fun H locs hP hS => ?_)
          refine f_ir X hlk hr (v := ((-5) - 10)) rfl hP hS ?_ dX8_stop_37
          unfold a_X8_stop
          (first | rw [if_pos c_5] | rw [if_neg c_5] | rw [if_neg (Bool.eq_false_iff.mp c_5)] | skip)
          (first | rw [if_pos c_13] | rw [if_neg c_13] | rw [if_neg (Bool.eq_false_iff.mp c_13)] | skip)
          (first | rw [if_pos c_23] | rw [if_neg c_23] | rw [if_neg (Bool.eq_false_iff.mp c_23)] | skip)
          (first | rw [if_pos c_28] | rw [if_neg c_28] | rw [if_neg (Bool.eq_false_iff.mp c_28)] | skip)
          (try dsimp only)
          first
            | done
            | exact ⟨rfl, rfl⟩
            | rfl
            | (simp only [c_5, c_13, c_23, c_28, if_true, if_false, and_self, and_true, true_and, not_true_eq_false, not_false_eq_true, and_false, false_and, or_true, true_or, or_false, false_or, or_self, Bool.false_eq_true, reduceCtorEq, nl10, nl20, nl30, nl40, nl50, nl60, nl70, nl12, nl13, nl21, nl23, nl31, nl32]; first | done | exact ⟨rfl, rfl⟩ | rfl)
            | contradiction
            | (simp only [c_5, c_13, c_23, c_28, if_true, if_false, and_self, and_true, true_and, not_true_eq_false, not_false_eq_true, and_false, false_and, or_true, true_or, or_false, false_or, or_self, Bool.false_eq_true, reduceCtorEq, nl10, nl20, nl30, nl40, nl50, nl60, nl70, nl12, nl13, nl21, nl23, nl31, nl32]; contradiction)
            | (exfalso; simp_all; done)
            | simp_all
    · have c_13 := bI0 c_13
      refine lv_aload_n hx hb dX8_stop_16 rfl (lv_at hl 0 rfl) ?_
      refine lv_iconst (v := (-1)) hx hb dX8_stop_17 (by decide) ?_
      refine f_iV (n := 1) X hP hS [.int (-1)] [] (c_X8_noTen l E M L (-1) (by decide)) m_5_236 wi_X8_noTen rfl rfl (by decide) (by decide +kernel) ⟨Nat.le_of_ble_eq_true rfl, Nat.le_of_ble_eq_true rfl⟩ rfl hl rfl (Nat.le_of_ble_eq_true rfl) ⟨Nat.zero_le _, Nat.zero_le _⟩ dX8_stop_18 (fun H locs hP hS => ?_)
      refine f_ir X hlk hr (v := ((-1) - 10)) rfl hP hS ?_ dX8_stop_21
      unfold a_X8_stop
      (first | rw [if_pos c_5] | rw [if_neg c_5] | rw [if_neg (Bool.eq_false_iff.mp c_5)] | skip)
      (first | rw [if_pos c_13] | rw [if_neg c_13] | rw [if_neg (Bool.eq_false_iff.mp c_13)] | skip)
      (try dsimp only)
      first
        | done
        | exact ⟨rfl, rfl⟩
        | rfl
        | (simp only [c_5, c_13, if_true, if_false, and_self, and_true, true_and, not_true_eq_false, not_false_eq_true, and_false, false_and, or_true, true_or, or_false, false_or, or_self, Bool.false_eq_true, reduceCtorEq, nl10, nl20, nl30, nl40, nl50, nl60, nl70, nl12, nl13, nl21, nl23, nl31, nl32]; first | done | exact ⟨rfl, rfl⟩ | rfl)
        | contradiction
        | (simp only [c_5, c_13, if_true, if_false, and_self, and_true, true_and, not_true_eq_false, not_false_eq_true, and_false, false_and, or_true, true_or, or_false, false_or, or_self, Bool.false_eq_true, reduceCtorEq, nl10, nl20, nl30, nl40, nl50, nl60, nl70, nl12, nl13, nl21, nl23, nl31, nl32]; contradiction)
        | (exfalso; simp_all; done)
        | simp_all

def lp_X8_best_21 (M : Nat → Nat → Int32) (L : Nat → Nat → Int64) (t : Int32) (tc : Nat) (wc : Nat) : Nat → Int32 × Int32 × (Nat → Nat → Int32) := itF (fun i s9 => (if s9.2.1 < ((a_X8_stops s9.2.2 L t (nI i) t.toNatClampNeg i).2.1 86 39) then ((nI i), ((a_X8_stops s9.2.2 L t (nI i) t.toNatClampNeg i).2.1 86 39), (a_X8_stops s9.2.2 L t (nI i) t.toNatClampNeg i).2.1) else (s9.1, s9.2.1, (a_X8_stops s9.2.2 L t (nI i) t.toNatClampNeg i).2.1))) ((-1), 0, M)
theorem lp_X8_best_21_s (M : Nat → Nat → Int32) (L : Nat → Nat → Int64) (t : Int32) (tc : Nat) (wc : Nat) (i : Nat) : (lp_X8_best_21 M L t tc wc (i + 1)) = (if ((lp_X8_best_21 M L t tc wc i)).2.1 < ((a_X8_stops ((lp_X8_best_21 M L t tc wc i)).2.2 L t (nI i) t.toNatClampNeg i).2.1 86 39) then ((nI i), ((a_X8_stops ((lp_X8_best_21 M L t tc wc i)).2.2 L t (nI i) t.toNatClampNeg i).2.1 86 39), (a_X8_stops ((lp_X8_best_21 M L t tc wc i)).2.2 L t (nI i) t.toNatClampNeg i).2.1) else (((lp_X8_best_21 M L t tc wc i)).1, ((lp_X8_best_21 M L t tc wc i)).2.1, (a_X8_stops ((lp_X8_best_21 M L t tc wc i)).2.2 L t (nI i) t.toNatClampNeg i).2.1)) := rfl
def a_X8_best (M : Nat → Nat → Int32) (L : Nat → Nat → Int64) (t : Int32) (tc : Nat) (wc : Nat) : fR := (if (0 ≤ t ∧ t < (M 86 1)) then (((lp_X8_best_21 M L t tc wc wc).1), ((lp_X8_best_21 M L t tc wc wc).2.2), L) else (((-1) - 10), (noM M (-1)), L))
set_option maxHeartbeats 1000000 in
set_option maxRecDepth 100000 in
theorem c_X8_best (l : Launch) (E : fE) (M : Nat → Nat → Int32) (L : Nat → Nat → Int64) (t : Int32) (tc wc : Nat) (htc : M 86 1 = nI tc) (htc8 : tc ≤ 8) (hwc : M 86 0 = nI wc) (hwc6 : wc ≤ 6) : Met l yX8_best (wl yX8_best cX8_best 5 (some .int)) (fRm 2 51) (va_Pc [.ref (fad E 86), .int t] (fPre E M L)) (fQi E (fun r u => u = ((a_X8_best M L t tc wc).2.1, L) ∧ r = (a_X8_best M L t tc wc).1)) 0 0 (fA E) := by
  refine f_head (by decide) (Nat.le_of_ble_eq_true rfl) ?_
  intro pg ev s mi below meth cd ls X hr hlk hP hS hl
  have hx := X.1.1
  have hb := X.1.2.1
  have hl : lv_has ls 5 [(0, .ref (fad E 86)), (1, .int t)] := hl
  refine lv_aload_n hx hb dX8_best_0 rfl (lv_at hl 0 rfl) ?_
  refine lv_iload_n hx hb dX8_best_1 rfl (lv_at hl 1 rfl) ?_
  refine f_iV (n := 1) X hP hS [.int t] [] (c_X8_isThing l E M L t) m_5_148 wi_X8_isThing rfl rfl (by decide) (by decide +kernel) ⟨Nat.le_of_ble_eq_true rfl, Nat.le_of_ble_eq_true rfl⟩ rfl hl rfl (Nat.le_of_ble_eq_true rfl) ⟨Nat.zero_le _, Nat.zero_le _⟩ dX8_best_2 (fun H locs hP hS => ?_)
  refine lv_if_ne (tgt := 14) hx hb dX8_best_5 (by decide) (fun c_5 => ?_) (fun c_5 => ?_)
  · have c_5 := bI1 c_5
    refine lv_iconst (v := (-1)) hx hb dX8_best_14 (by decide) ?_
    refine lv_istore_n (lv' := [(2, .int (-1)), (0, .ref (fad E 86)), (1, .int t)]) hx hb dX8_best_15 rfl hl (by decide) rfl (fun ls hl => ?_)
    refine lv_iconst (v := 0) hx hb dX8_best_16 (by decide) ?_
    refine lv_istore_n (lv' := [(3, .int 0), (2, .int (-1)), (0, .ref (fad E 86)), (1, .int t)]) hx hb dX8_best_17 rfl hl (by decide) rfl (fun ls hl => ?_)
    refine lv_iconst (v := 0) hx hb dX8_best_18 (by decide) ?_
    refine lv_istore (lv' := [(4, .int 0), (3, .int 0), (2, .int (-1)), (0, .ref (fad E 86)), (1, .int t)]) hx hb dX8_best_19 hl (by decide) rfl (fun ls hl => ?_)
    refine f_loop (α := Nat × Int32 × Int32 × (Nat → Nat → Int32)) (fun (a : Nat × Int32 × Int32 × (Nat → Nat → Int32)) H locs ls => match a with | (i, iz, mo, D) => fP E D L H ∧ va_S (fA E) s.heap H locs ∧ lv_has ls 5 [(4, .int (nI i)), (3, .int mo), (2, .int iz), (0, .ref (fad E 86)), (1, .int t)] ∧ (i ≤ wc) ∧ ((iz, mo, D) = (lp_X8_best_21 M L t tc wc i)) ∧ (D 86 0 = nI wc)) (fun (a : Nat × Int32 × Int32 × (Nat → Nat → Int32)) => match a with | (i, iz, mo, D) => wc - i) (pc0 := 21) (st := fun _ => []) ?_ (0, (-1), 0, M) _ _ _ ⟨hP, hS, lv_sub hl [0, 1, 2, 3, 4] rfl, (Nat.zero_le _), rfl, hwc⟩
    rintro ⟨i, iz, mo, D⟩ H locs ls ⟨hP, hS, hl, ht_21, hbt_21, hD⟩ ih_21
    refine lv_iload hx hb dX8_best_21 (lv_at hl 0 rfl) ?_
    refine lv_aload_n hx hb dX8_best_23 rfl (lv_at hl 3 rfl) ?_
    refine f_get X hP (T := TX8) (ci := 8) (k := 86) rfl inX8 rfl 0 (by decide) m_4_174 rfl (v := .int (nI wc)) (congrArg Value.int hD) dX8_best_24 ?_
    refine lv_icmp_ge (tgt := 63) hx hb dX8_best_27 (by decide) (fun c_27 => ?_) (fun c_27 => ?_)
    · have c_27 := (nI_le_iff (a := wc) (b := i) (by omega) (by omega)).mp c_27
      have hN_21 : i = wc := by omega
      rw [hN_21] at hbt_21
      have e_iz : iz = (lp_X8_best_21 M L t tc wc wc).1 := by rw [← hbt_21]
      have e_mo : mo = (lp_X8_best_21 M L t tc wc wc).2.1 := by rw [← hbt_21]
      have e_D : D = (lp_X8_best_21 M L t tc wc wc).2.2 := by rw [← hbt_21]
      clear hbt_21
      subst e_iz
      subst e_mo
      subst e_D
      refine lv_iload_n hx hb dX8_best_63 rfl (lv_at hl 2 rfl) ?_
      refine f_ir X hlk hr (v := ((lp_X8_best_21 M L t tc wc wc).1)) rfl hP hS ?_ dX8_best_64
      unfold a_X8_best
      (first | rw [if_pos c_5] | rw [if_neg c_5] | rw [if_neg (Bool.eq_false_iff.mp c_5)] | skip)
      (try dsimp only)
      first
        | done
        | exact ⟨rfl, rfl⟩
        | rfl
        | (simp only [c_5, if_true, if_false, and_self, and_true, true_and, not_true_eq_false, not_false_eq_true, and_false, false_and, or_true, true_or, or_false, false_or, or_self, Bool.false_eq_true, reduceCtorEq, nl10, nl20, nl30, nl40, nl50, nl60, nl70, nl12, nl13, nl21, nl23, nl31, nl32]; first | done | exact ⟨rfl, rfl⟩ | rfl)
        | contradiction
        | (simp only [c_5, if_true, if_false, and_self, and_true, true_and, not_true_eq_false, not_false_eq_true, and_false, false_and, or_true, true_or, or_false, false_or, or_self, Bool.false_eq_true, reduceCtorEq, nl10, nl20, nl30, nl40, nl50, nl60, nl70, nl12, nl13, nl21, nl23, nl31, nl32]; contradiction)
        | (exfalso; simp_all; done)
        | simp_all
    · have c_27 := (not_congr (nI_le_iff (a := wc) (b := i) (by omega) (by omega))).mp c_27
      refine lv_aload_n hx hb dX8_best_30 rfl (lv_at hl 3 rfl) ?_
      refine lv_iload_n hx hb dX8_best_31 rfl (lv_at hl 4 rfl) ?_
      refine lv_iload hx hb dX8_best_32 (lv_at hl 0 rfl) ?_
      have hix_1 : fIx t 8 t.toNatClampNeg := by
        first
          | exact fIx_lt 8 c_5.1 c_5.2 (by decide)
          | exact fIx_cnt 8 c_5.1 c_5.2 htc htc8 (by decide)
          | exact fIx_le 7 c_5.1 c_5.2 (by decide)
          | exact fIx_lt 8 c_5.1 c_5.2.2 (by decide)
          | exact fIx_le 7 (rr0 c_5).1.1 (rr0 c_5).1.2 (by decide)
          | (refine fIx_lt 8 (show (0 : Int32) ≤ t from ?_) (show t < (8 : Int32) from ?_) (by decide) <;> (have e0_9 : (0 : Int32).toInt = 0 := rfl; have en_9 : (8 : Int32).toInt = 8 := rfl; simp only [Int32.lt_iff_toInt_lt, Int32.le_iff_toInt_le, Int32.not_lt, Int32.not_le, ← Int32.toInt_inj] at *; omega))
      have hlt_1 := hix_1.2.2
      refine f_iV (n := 2) X hP hS [.int t, .int (nI i)] [] (c_X8_stops l E D L t (nI i) t.toNatClampNeg i hix_1 (fIx_nI (by omega) (by decide))) m_6_0 wi_X8_stops rfl rfl (by decide) (by decide +kernel) ⟨Nat.le_of_ble_eq_true rfl, Nat.le_of_ble_eq_true rfl⟩ rfl hl rfl (Nat.le_of_ble_eq_true rfl) ⟨Nat.zero_le _, Nat.zero_le _⟩ dX8_best_34 (fun H locs hP hS => ?_)
      refine lv_pop hx hb dX8_best_37 rfl ?_
      refine lv_aload_n hx hb dX8_best_38 rfl (lv_at hl 3 rfl) ?_
      refine f_get X hP (T := TX8) (ci := 8) (k := 86) rfl inX8 rfl 39 (by decide) m_4_213 rfl (v := .int ((a_X8_stops D L t (nI i) t.toNatClampNeg i).2.1 86 39)) rfl dX8_best_39 ?_
      refine lv_iload_n hx hb dX8_best_42 rfl (lv_at hl 1 rfl) ?_
      refine lv_icmp_gt (tgt := 49) hx hb dX8_best_43 (by decide) (fun c_43 => ?_) (fun c_43 => ?_)
      · refine lv_iload hx hb dX8_best_49 (lv_at hl 0 rfl) ?_
        refine lv_istore_n (lv' := [(2, .int (nI i)), (4, .int (nI i)), (3, .int mo), (0, .ref (fad E 86)), (1, .int t)]) hx hb dX8_best_51 rfl hl (by decide) rfl (fun ls hl => ?_)
        refine lv_aload_n hx hb dX8_best_52 rfl (lv_at hl 3 rfl) ?_
        refine f_get X hP (T := TX8) (ci := 8) (k := 86) rfl inX8 rfl 39 (by decide) m_4_213 rfl (v := .int ((a_X8_stops D L t (nI i) t.toNatClampNeg i).2.1 86 39)) rfl dX8_best_53 ?_
        refine lv_istore_n (lv' := [(3, .int ((a_X8_stops D L t (nI i) t.toNatClampNeg i).2.1 86 39)), (2, .int (nI i)), (4, .int (nI i)), (0, .ref (fad E 86)), (1, .int t)]) hx hb dX8_best_56 rfl hl (by decide) rfl (fun ls hl => ?_)
        refine lv_iinc (v := (nI (i + 1))) (lv' := [(4, .int (nI (i + 1))), (3, .int ((a_X8_stops D L t (nI i) t.toNatClampNeg i).2.1 86 39)), (2, .int (nI i)), (0, .ref (fad E 86)), (1, .int t)]) hx hb dX8_best_57 hl (k := 2) rfl (nI_1 _) (by decide) rfl (fun ls hl => ?_)
        refine lv_goto (tgt := 21) hx hb dX8_best_60 (by decide) ?_
        exact ih_21 ((i + 1), (nI i), ((a_X8_stops D L t (nI i) t.toNatClampNeg i).2.1 86 39), (a_X8_stops D L t (nI i) t.toNatClampNeg i).2.1) _ _ _ (by show wc - (i + 1) < wc - i; omega) ⟨hP, hS, lv_sub hl [0, 1, 2, 3, 4] rfl, (by omega), (by
          rw [lp_X8_best_21_s, ← hbt_21]
          (try dsimp only)
          (first | rw [if_pos c_43] | rw [if_neg c_43] | rw [if_neg (Bool.eq_false_iff.mp c_43)] | skip)
          first | done | rfl), ((stops_o (Or.inr (by decide))).trans hD)⟩
      · refine lv_goto (tgt := 57) hx hb dX8_best_46 (by decide) ?_
        refine lv_iinc (v := (nI (i + 1))) (lv' := [(4, .int (nI (i + 1))), (3, .int mo), (2, .int iz), (0, .ref (fad E 86)), (1, .int t)]) hx hb dX8_best_57 hl (k := 0) rfl (nI_1 _) (by decide) rfl (fun ls hl => ?_)
        refine lv_goto (tgt := 21) hx hb dX8_best_60 (by decide) ?_
        exact ih_21 ((i + 1), iz, mo, (a_X8_stops D L t (nI i) t.toNatClampNeg i).2.1) _ _ _ (by show wc - (i + 1) < wc - i; omega) ⟨hP, hS, lv_sub hl [0, 1, 2, 3, 4] rfl, (by omega), (by
          rw [lp_X8_best_21_s, ← hbt_21]
          (try dsimp only)
          (first | rw [if_pos c_43] | rw [if_neg c_43] | rw [if_neg (Bool.eq_false_iff.mp c_43)] | skip)
          first | done | rfl), ((stops_o (Or.inr (by decide))).trans hD)⟩
  · have c_5 := bI0 c_5
    refine lv_aload_n hx hb dX8_best_8 rfl (lv_at hl 0 rfl) ?_
    refine lv_iconst (v := (-1)) hx hb dX8_best_9 (by decide) ?_
    refine f_iV (n := 1) X hP hS [.int (-1)] [] (c_X8_noTen l E M L (-1) (by decide)) m_5_236 wi_X8_noTen rfl rfl (by decide) (by decide +kernel) ⟨Nat.le_of_ble_eq_true rfl, Nat.le_of_ble_eq_true rfl⟩ rfl hl rfl (Nat.le_of_ble_eq_true rfl) ⟨Nat.zero_le _, Nat.zero_le _⟩ dX8_best_10 (fun H locs hP hS => ?_)
    refine f_ir X hlk hr (v := ((-1) - 10)) rfl hP hS ?_ dX8_best_13
    unfold a_X8_best
    (first | rw [if_pos c_5] | rw [if_neg c_5] | rw [if_neg (Bool.eq_false_iff.mp c_5)] | skip)
    (try dsimp only)
    first
      | done
      | exact ⟨rfl, rfl⟩
      | rfl
      | (simp only [c_5, if_true, if_false, and_self, and_true, true_and, not_true_eq_false, not_false_eq_true, and_false, false_and, or_true, true_or, or_false, false_or, or_self, Bool.false_eq_true, reduceCtorEq, nl10, nl20, nl30, nl40, nl50, nl60, nl70, nl12, nl13, nl21, nl23, nl31, nl32]; first | done | exact ⟨rfl, rfl⟩ | rfl)
      | contradiction
      | (simp only [c_5, if_true, if_false, and_self, and_true, true_and, not_true_eq_false, not_false_eq_true, and_false, false_and, or_true, true_or, or_false, false_or, or_self, Bool.false_eq_true, reduceCtorEq, nl10, nl20, nl30, nl40, nl50, nl60, nl70, nl12, nl13, nl21, nl23, nl31, nl32]; contradiction)
      | (exfalso; simp_all; done)
      | simp_all
