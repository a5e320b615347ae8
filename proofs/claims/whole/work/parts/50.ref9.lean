def a_X8_barsOfDay (M : Nat → Nat → Int32) (L : Nat → Nat → Int64) (s1 : Int32) (n : Int32) : Int32 := (if (a_X8_wanted M L s1) = 0 then (if 0 ≤ n then (if n ≤ (M 102 s1.toNatClampNeg) then (if n ≤ 8 then 0 else (-6)) else (-5)) else (-4)) else (a_X8_wanted M L s1))
set_option maxHeartbeats 1000000 in
set_option maxRecDepth 100000 in
theorem c_X8_barsOfDay (l : Launch) (E : fE) (M : Nat → Nat → Int32) (L : Nat → Nat → Int64) (s1 : Int32) (n : Int32) : Met l yX8_barsOfDay (wl yX8_barsOfDay cX8_barsOfDay 4 (some .int)) (fRm 2 42) (va_Pc [.ref (fad E 86), .int s1, .int n] (fPre E M L)) (fQi E (fun r u => u = (M, L) ∧ r = (a_X8_barsOfDay M L s1 n))) 0 0 (fA E) := by
  refine f_head (by decide) (Nat.le_of_ble_eq_true rfl) ?_
  intro pg ev s mi below meth cd ls X hr hlk hP hS hl
  have hx := X.1.1
  have hb := X.1.2.1
  have hl : lv_has ls 4 [(0, .ref (fad E 86)), (1, .int s1), (2, .int n)] := hl
  refine lv_aload_n hx hb dX8_barsOfDay_0 rfl (lv_at hl 0 rfl) ?_
  refine lv_iload_n hx hb dX8_barsOfDay_1 rfl (lv_at hl 1 rfl) ?_
  refine f_iV (n := 1) X hP hS [.int s1] [] (c_X8_wanted l E M L s1) m_5_172 wi_X8_wanted rfl rfl (by decide) (by decide +kernel) ⟨Nat.le_of_ble_eq_true rfl, Nat.le_of_ble_eq_true rfl⟩ rfl hl rfl (Nat.le_of_ble_eq_true rfl) ⟨Nat.zero_le _, Nat.zero_le _⟩ dX8_barsOfDay_2 (fun H locs hP hS => ?_)
  refine lv_istore_n (lv' := [(3, .int (a_X8_wanted M L s1)), (0, .ref (fad E 86)), (1, .int s1), (2, .int n)]) hx hb dX8_barsOfDay_5 rfl hl (by decide) rfl (fun ls hl => ?_)
  refine lv_iload_n hx hb dX8_barsOfDay_6 rfl (lv_at hl 0 rfl) ?_
  refine lv_if_eq (tgt := 14) hx hb dX8_barsOfDay_7 (by decide) (fun c_7 => ?_) (fun c_7 => ?_)
  · have w0 := wd0 c_7
    have hi9 : fIx s1 8 s1.toNatClampNeg := fIx_lt 8 w0.1 w0.2.1 (by decide)
    refine lv_iload_n hx hb dX8_barsOfDay_14 rfl (lv_at hl 3 rfl) ?_
    refine lv_if_ge (tgt := 23) hx hb dX8_barsOfDay_15 (by decide) (fun c_15 => ?_) (fun c_15 => ?_)
    · refine lv_iload_n hx hb dX8_barsOfDay_23 rfl (lv_at hl 3 rfl) ?_
      refine lv_aload_n hx hb dX8_barsOfDay_24 rfl (lv_at hl 1 rfl) ?_
      refine f_get X hP (T := TX8) (ci := 8) (k := 86) rfl inX8 rfl 23 (by decide) m_4_197 rfl (v := .ref (fad E 102)) rfl dX8_barsOfDay_25 ?_
      refine lv_iload_n hx hb dX8_barsOfDay_28 rfl (lv_at hl 2 rfl) ?_
      refine f_iald X hP (k := 102) (n := 8) (q := s1.toNatClampNeg) rfl rfl hi9 dX8_barsOfDay_29 ?_
      refine lv_icmp_le (tgt := 38) hx hb dX8_barsOfDay_30 (by decide) (fun c_30 => ?_) (fun c_30 => ?_)
      · refine lv_iload_n hx hb dX8_barsOfDay_38 rfl (lv_at hl 3 rfl) ?_
        refine lv_bipush (v := 8) hx hb dX8_barsOfDay_39 (by decide) ?_
        refine lv_icmp_le (tgt := 49) hx hb dX8_barsOfDay_41 (by decide) (fun c_41 => ?_) (fun c_41 => ?_)
        · refine lv_iconst (v := 0) hx hb dX8_barsOfDay_49 (by decide) ?_
          refine f_ir X hlk hr (v := 0) rfl hP hS ?_ dX8_barsOfDay_50
          unfold a_X8_barsOfDay
          (first | rw [if_pos c_7] | rw [if_neg c_7] | rw [if_neg (Bool.eq_false_iff.mp c_7)] | skip)
          (first | rw [if_pos c_15] | rw [if_neg c_15] | rw [if_neg (Bool.eq_false_iff.mp c_15)] | skip)
          (first | rw [if_pos c_30] | rw [if_neg c_30] | rw [if_neg (Bool.eq_false_iff.mp c_30)] | skip)
          (first | rw [if_pos c_41] | rw [if_neg c_41] | rw [if_neg (Bool.eq_false_iff.mp c_41)] | skip)
          (try dsimp only)
          first
            | done
            | exact ⟨rfl, rfl⟩
            | rfl
            | (simp only [c_7, c_15, c_30, c_41, if_true, if_false, and_self, and_true, true_and, not_true_eq_false, not_false_eq_true, and_false, false_and, or_true, true_or, or_false, false_or, or_self, Bool.false_eq_true, reduceCtorEq, nl10, nl20, nl30, nl40, nl50, nl60, nl70, nl12, nl13, nl21, nl23, nl31, nl32]; first | done | exact ⟨rfl, rfl⟩ | rfl)
            | contradiction
            | (simp only [c_7, c_15, c_30, c_41, if_true, if_false, and_self, and_true, true_and, not_true_eq_false, not_false_eq_true, and_false, false_and, or_true, true_or, or_false, false_or, or_self, Bool.false_eq_true, reduceCtorEq, nl10, nl20, nl30, nl40, nl50, nl60, nl70, nl12, nl13, nl21, nl23, nl31, nl32]; contradiction)
            | (exfalso; simp_all; done)
            | simp_all
        · refine lv_bipush (v := (-6)) hx hb dX8_barsOfDay_44 (by decide) ?_
          refine lv_goto (tgt := 50) hx hb dX8_barsOfDay_46 (by decide) ?_
          refine f_ir X hlk hr (v := (-6)) rfl hP hS ?_ dX8_barsOfDay_50
          unfold a_X8_barsOfDay
          (first | rw [if_pos c_7] | rw [if_neg c_7] | rw [if_neg (Bool.eq_false_iff.mp c_7)] | skip)
          (first | rw [if_pos c_15] | rw [if_neg c_15] | rw [if_neg (Bool.eq_false_iff.mp c_15)] | skip)
          (first | rw [if_pos c_30] | rw [if_neg c_30] | rw [if_neg (Bool.eq_false_iff.mp c_30)] | skip)
          (first | rw [if_pos c_41] | rw [if_neg c_41] | rw [if_neg (Bool.eq_false_iff.mp c_41)] | skip)
          (try dsimp only)
          first
            | done
            | exact ⟨rfl, rfl⟩
            | rfl
            | (simp only [c_7, c_15, c_30, c_41, if_true, if_false, and_self, and_true, true_and, not_true_eq_false, not_false_eq_true, and_false, false_and, or_true, true_or, or_false, false_or, or_self, Bool.false_eq_true, reduceCtorEq, nl10, nl20, nl30, nl40, nl50, nl60, nl70, nl12, nl13, nl21, nl23, nl31, nl32]; first | done | exact ⟨rfl, rfl⟩ | rfl)
            | contradiction
            | (simp only [c_7, c_15, c_30, c_41, if_true, if_false, and_self, and_true, true_and, not_true_eq_false, not_false_eq_true, and_false, false_and, or_true, true_or, or_false, false_or, or_self, Bool.false_eq_true, reduceCtorEq, nl10, nl20, nl30, nl40, nl50, nl60, nl70, nl12, nl13, nl21, nl23, nl31, nl32]; contradiction)
            | (exfalso; simp_all; done)
            | simp_all
      · refine lv_bipush (v := (-5)) hx hb dX8_barsOfDay_33 (by decide) ?_
        refine lv_goto (tgt := 50) hx hb dX8_barsOfDay_35 (by decide) ?_
        refine f_ir X hlk hr (v := (-5)) rfl hP hS ?_ dX8_barsOfDay_50
        unfold a_X8_barsOfDay
        (first | rw [if_pos c_7] | rw [if_neg c_7] | rw [if_neg (Bool.eq_false_iff.mp c_7)] | skip)
        (first | rw [if_pos c_15] | rw [if_neg c_15] | rw [if_neg (Bool.eq_false_iff.mp c_15)] | skip)
        (first | rw [if_pos c_30] | rw [if_neg c_30] | rw [if_neg (Bool.eq_false_iff.mp c_30)] | skip)
        (try dsimp only)
        first
          | done
          | exact ⟨rfl, rfl⟩
          | rfl
          | (simp only [c_7, c_15, c_30, if_true, if_false, and_self, and_true, true_and, not_true_eq_false, not_false_eq_true, and_false, false_and, or_true, true_or, or_false, false_or, or_self, Bool.false_eq_true, reduceCtorEq, nl10, nl20, nl30, nl40, nl50, nl60, nl70, nl12, nl13, nl21, nl23, nl31, nl32]; first | done | exact ⟨rfl, rfl⟩ | rfl)
          | contradiction
          | (simp only [c_7, c_15, c_30, if_true, if_false, and_self, and_true, true_and, not_true_eq_false, not_false_eq_true, and_false, false_and, or_true, true_or, or_false, false_or, or_self, Bool.false_eq_true, reduceCtorEq, nl10, nl20, nl30, nl40, nl50, nl60, nl70, nl12, nl13, nl21, nl23, nl31, nl32]; contradiction)
          | (exfalso; simp_all; done)
          | simp_all
    · refine lv_bipush (v := (-4)) hx hb dX8_barsOfDay_18 (by decide) ?_
      refine lv_goto (tgt := 50) hx hb dX8_barsOfDay_20 (by decide) ?_
      refine f_ir X hlk hr (v := (-4)) rfl hP hS ?_ dX8_barsOfDay_50
      unfold a_X8_barsOfDay
      (first | rw [if_pos c_7] | rw [if_neg c_7] | rw [if_neg (Bool.eq_false_iff.mp c_7)] | skip)
      (first | rw [if_pos c_15] | rw [if_neg c_15] | rw [if_neg (Bool.eq_false_iff.mp c_15)] | skip)
      (try dsimp only)
      first
        | done
        | exact ⟨rfl, rfl⟩
        | rfl
        | (simp only [c_7, c_15, if_true, if_false, and_self, and_true, true_and, not_true_eq_false, not_false_eq_true, and_false, false_and, or_true, true_or, or_false, false_or, or_self, Bool.false_eq_true, reduceCtorEq, nl10, nl20, nl30, nl40, nl50, nl60, nl70, nl12, nl13, nl21, nl23, nl31, nl32]; first | done | exact ⟨rfl, rfl⟩ | rfl)
        | contradiction
        | (simp only [c_7, c_15, if_true, if_false, and_self, and_true, true_and, not_true_eq_false, not_false_eq_true, and_false, false_and, or_true, true_or, or_false, false_or, or_self, Bool.false_eq_true, reduceCtorEq, nl10, nl20, nl30, nl40, nl50, nl60, nl70, nl12, nl13, nl21, nl23, nl31, nl32]; contradiction)
        | (exfalso; simp_all; done)
        | simp_all
  · refine lv_iload_n hx hb dX8_barsOfDay_10 rfl (lv_at hl 0 rfl) ?_
    refine lv_goto (tgt := 50) hx hb dX8_barsOfDay_11 (by decide) ?_
    refine f_ir X hlk hr (v := (a_X8_wanted M L s1)) rfl hP hS ?_ dX8_barsOfDay_50
    unfold a_X8_barsOfDay
    (first | rw [if_pos c_7] | rw [if_neg c_7] | rw [if_neg (Bool.eq_false_iff.mp c_7)] | skip)
    (try dsimp only)
    first
      | done
      | exact ⟨rfl, rfl⟩
      | rfl
      | (simp only [c_7, if_true, if_false, and_self, and_true, true_and, not_true_eq_false, not_false_eq_true, and_false, false_and, or_true, true_or, or_false, false_or, or_self, Bool.false_eq_true, reduceCtorEq, nl10, nl20, nl30, nl40, nl50, nl60, nl70, nl12, nl13, nl21, nl23, nl31, nl32]; first | done | exact ⟨rfl, rfl⟩ | rfl)
      | contradiction
      | (simp only [c_7, if_true, if_false, and_self, and_true, true_and, not_true_eq_false, not_false_eq_true, and_false, false_and, or_true, true_or, or_false, false_or, or_self, Bool.false_eq_true, reduceCtorEq, nl10, nl20, nl30, nl40, nl50, nl60, nl70, nl12, nl13, nl21, nl23, nl31, nl32]; contradiction)
      | (exfalso; simp_all; done)
      | simp_all

def lp_X8_wrongIn_20 (M : Nat → Nat → Int32) (L : Nat → Nat → Int64) (s1 : Int32) (n : Int32) (tc : Nat) (s0 : Nat) (n0 : Nat) : Nat → Nat → Int32 → (Nat → Nat → Int32) → fR
  | 0, i, sn, D => ((-1), D, L)
  | f9 + 1, i, sn, D => (if (a_X8_intAt D L s1 (nI i) s0 i) < 0 then ((nI i), D, L) else (if (nI tc) ≤ ((a_X8_intAt D L s1 (nI i) s0 i) / 100) then ((nI i), D, L) else (if ((sn >>> (((a_X8_intAt D L s1 (nI i) s0 i) / 100) &&& 31)) &&& 1) = 1 then ((nI i), D, L) else (if ((a_X8_intAt D L s1 (nI i) s0 i) - (a_X8_intAt D L s1 (nI i) s0 i) / 100 * 100) = 99 then (if (D 96 (((a_X8_intAt D L s1 (nI i) s0 i) / 100).toNatClampNeg)) ≤ 0 then (if ((D 94 (((a_X8_intAt D L s1 (nI i) s0 i) / 100).toNatClampNeg)) ≤ ((a_X8_intAt D L s1 (nI i) s0 i) - (a_X8_intAt D L s1 (nI i) s0 i) / 100 * 100) ∧ ((a_X8_intAt D L s1 (nI i) s0 i) - (a_X8_intAt D L s1 (nI i) s0 i) / 100 * 100) ≤ (D 95 (((a_X8_intAt D L s1 (nI i) s0 i) / 100).toNatClampNeg))) then (if ((if (0 : Int32) = 0 then (D 99 (((a_X8_intAt D L s1 (nI i) s0 i) / 100).toNatClampNeg)) else (D 99 (((a_X8_intAt D L s1 (nI i) s0 i) / 100).toNatClampNeg)) / 2) ≤ (D 98 (((a_X8_intAt D L s1 (nI i) s0 i) / 100).toNatClampNeg))) then (lp_X8_wrongIn_20 M L s1 n tc s0 n0 f9 (i + 1) (sn + (1 <<< (((a_X8_intAt D L s1 (nI i) s0 i) / 100) &&& 31))) (up2 (up2 D 86 41 ((D 86 41) + 1)) 86 42 ((D 86 42) + (D 97 (((a_X8_intAt D L s1 (nI i) s0 i) / 100).toNatClampNeg))))) else (lp_X8_wrongIn_20 M L s1 n tc s0 n0 f9 (i + 1) (sn + (1 <<< (((a_X8_intAt D L s1 (nI i) s0 i) / 100) &&& 31))) D)) else ((nI i), D, L)) else (lp_X8_wrongIn_20 M L s1 n tc s0 n0 f9 (i + 1) (sn + (1 <<< (((a_X8_intAt D L s1 (nI i) s0 i) / 100) &&& 31))) (up2 D 86 43 ((D 86 43) + 1)))) else (if ((D 94 (((a_X8_intAt D L s1 (nI i) s0 i) / 100).toNatClampNeg)) ≤ ((a_X8_intAt D L s1 (nI i) s0 i) - (a_X8_intAt D L s1 (nI i) s0 i) / 100 * 100) ∧ ((a_X8_intAt D L s1 (nI i) s0 i) - (a_X8_intAt D L s1 (nI i) s0 i) / 100 * 100) ≤ (D 95 (((a_X8_intAt D L s1 (nI i) s0 i) / 100).toNatClampNeg))) then (if ((if (0 : Int32) = 0 then (D 99 (((a_X8_intAt D L s1 (nI i) s0 i) / 100).toNatClampNeg)) else (D 99 (((a_X8_intAt D L s1 (nI i) s0 i) / 100).toNatClampNeg)) / 2) ≤ (D 98 (((a_X8_intAt D L s1 (nI i) s0 i) / 100).toNatClampNeg))) then (lp_X8_wrongIn_20 M L s1 n tc s0 n0 f9 (i + 1) (sn + (1 <<< (((a_X8_intAt D L s1 (nI i) s0 i) / 100) &&& 31))) (up2 (up2 D 86 41 ((D 86 41) + 1)) 86 42 ((D 86 42) + (D 97 (((a_X8_intAt D L s1 (nI i) s0 i) / 100).toNatClampNeg))))) else (lp_X8_wrongIn_20 M L s1 n tc s0 n0 f9 (i + 1) (sn + (1 <<< (((a_X8_intAt D L s1 (nI i) s0 i) / 100) &&& 31))) D)) else ((nI i), D, L))))))
theorem lp_X8_wrongIn_20_0 (M : Nat → Nat → Int32) (L : Nat → Nat → Int64) (s1 : Int32) (n : Int32) (tc : Nat) (s0 : Nat) (n0 : Nat) (i : Nat) (sn : Int32) (D : (Nat → Nat → Int32)) : (lp_X8_wrongIn_20 M L s1 n tc s0 n0 0 i sn D) = ((-1), D, L) := rfl
theorem lp_X8_wrongIn_20_s (M : Nat → Nat → Int32) (L : Nat → Nat → Int64) (s1 : Int32) (n : Int32) (tc : Nat) (s0 : Nat) (n0 : Nat) (f9 i : Nat) (sn : Int32) (D : (Nat → Nat → Int32)) : (lp_X8_wrongIn_20 M L s1 n tc s0 n0 (f9 + 1) i sn D) = (if (a_X8_intAt D L s1 (nI i) s0 i) < 0 then ((nI i), D, L) else (if (nI tc) ≤ ((a_X8_intAt D L s1 (nI i) s0 i) / 100) then ((nI i), D, L) else (if ((sn >>> (((a_X8_intAt D L s1 (nI i) s0 i) / 100) &&& 31)) &&& 1) = 1 then ((nI i), D, L) else (if ((a_X8_intAt D L s1 (nI i) s0 i) - (a_X8_intAt D L s1 (nI i) s0 i) / 100 * 100) = 99 then (if (D 96 (((a_X8_intAt D L s1 (nI i) s0 i) / 100).toNatClampNeg)) ≤ 0 then (if ((D 94 (((a_X8_intAt D L s1 (nI i) s0 i) / 100).toNatClampNeg)) ≤ ((a_X8_intAt D L s1 (nI i) s0 i) - (a_X8_intAt D L s1 (nI i) s0 i) / 100 * 100) ∧ ((a_X8_intAt D L s1 (nI i) s0 i) - (a_X8_intAt D L s1 (nI i) s0 i) / 100 * 100) ≤ (D 95 (((a_X8_intAt D L s1 (nI i) s0 i) / 100).toNatClampNeg))) then (if ((if (0 : Int32) = 0 then (D 99 (((a_X8_intAt D L s1 (nI i) s0 i) / 100).toNatClampNeg)) else (D 99 (((a_X8_intAt D L s1 (nI i) s0 i) / 100).toNatClampNeg)) / 2) ≤ (D 98 (((a_X8_intAt D L s1 (nI i) s0 i) / 100).toNatClampNeg))) then (lp_X8_wrongIn_20 M L s1 n tc s0 n0 f9 (i + 1) (sn + (1 <<< (((a_X8_intAt D L s1 (nI i) s0 i) / 100) &&& 31))) (up2 (up2 D 86 41 ((D 86 41) + 1)) 86 42 ((D 86 42) + (D 97 (((a_X8_intAt D L s1 (nI i) s0 i) / 100).toNatClampNeg))))) else (lp_X8_wrongIn_20 M L s1 n tc s0 n0 f9 (i + 1) (sn + (1 <<< (((a_X8_intAt D L s1 (nI i) s0 i) / 100) &&& 31))) D)) else ((nI i), D, L)) else (lp_X8_wrongIn_20 M L s1 n tc s0 n0 f9 (i + 1) (sn + (1 <<< (((a_X8_intAt D L s1 (nI i) s0 i) / 100) &&& 31))) (up2 D 86 43 ((D 86 43) + 1)))) else (if ((D 94 (((a_X8_intAt D L s1 (nI i) s0 i) / 100).toNatClampNeg)) ≤ ((a_X8_intAt D L s1 (nI i) s0 i) - (a_X8_intAt D L s1 (nI i) s0 i) / 100 * 100) ∧ ((a_X8_intAt D L s1 (nI i) s0 i) - (a_X8_intAt D L s1 (nI i) s0 i) / 100 * 100) ≤ (D 95 (((a_X8_intAt D L s1 (nI i) s0 i) / 100).toNatClampNeg))) then (if ((if (0 : Int32) = 0 then (D 99 (((a_X8_intAt D L s1 (nI i) s0 i) / 100).toNatClampNeg)) else (D 99 (((a_X8_intAt D L s1 (nI i) s0 i) / 100).toNatClampNeg)) / 2) ≤ (D 98 (((a_X8_intAt D L s1 (nI i) s0 i) / 100).toNatClampNeg))) then (lp_X8_wrongIn_20 M L s1 n tc s0 n0 f9 (i + 1) (sn + (1 <<< (((a_X8_intAt D L s1 (nI i) s0 i) / 100) &&& 31))) (up2 (up2 D 86 41 ((D 86 41) + 1)) 86 42 ((D 86 42) + (D 97 (((a_X8_intAt D L s1 (nI i) s0 i) / 100).toNatClampNeg))))) else (lp_X8_wrongIn_20 M L s1 n tc s0 n0 f9 (i + 1) (sn + (1 <<< (((a_X8_intAt D L s1 (nI i) s0 i) / 100) &&& 31))) D)) else ((nI i), D, L)))))) := rfl
def a_X8_wrongIn (M : Nat → Nat → Int32) (L : Nat → Nat → Int64) (s1 : Int32) (n : Int32) (tc : Nat) (s0 : Nat) (n0 : Nat) : fR := (lp_X8_wrongIn_20 M L s1 n tc s0 n0 n0 0 0 (up2 (up2 (up2 M 86 41 0) 86 42 0) 86 43 0))
set_option maxHeartbeats 1000000 in
set_option maxRecDepth 100000 in
theorem c_X8_wrongIn (l : Launch) (E : fE) (M : Nat → Nat → Int32) (L : Nat → Nat → Int64) (s1 : Int32) (n : Int32) (tc s0 n0 : Nat) (htc : M 86 1 = nI tc) (htc8 : tc ≤ 8) (hs1 : fIx s1 8 s0) (en : n = nI n0) (hn0 : n0 ≤ 8) : Met l yX8_wrongIn (wl yX8_wrongIn cX8_wrongIn 8 (some .int)) (fRm 1 22) (va_Pc [.ref (fad E 86), .int s1, .int n] (fPre E M L)) (fQi E (fun r u => u = ((a_X8_wrongIn M L s1 n tc s0 n0).2.1, L) ∧ r = (a_X8_wrongIn M L s1 n tc s0 n0).1)) 0 0 (fA E) := by
  refine f_head (by decide) (Nat.le_of_ble_eq_true rfl) ?_
  intro pg ev s mi below meth cd ls X hr hlk hP hS hl
  have hx := X.1.1
  have hb := X.1.2.1
  have hl : lv_has ls 8 [(0, .ref (fad E 86)), (1, .int s1), (2, .int n)] := hl
  have hl : lv_has ls 8 [(0, .ref (fad E 86)), (1, .int s1), (2, .int (nI n0))] := by rw [← en]; exact hl
  refine lv_iconst (v := 0) hx hb dX8_wrongIn_0 (by decide) ?_
  refine lv_istore_n (lv' := [(3, .int 0), (0, .ref (fad E 86)), (1, .int s1), (2, .int (nI n0))]) hx hb dX8_wrongIn_1 rfl hl (by decide) rfl (fun ls hl => ?_)
  refine lv_aload_n hx hb dX8_wrongIn_2 rfl (lv_at hl 1 rfl) ?_
  refine lv_iconst (v := 0) hx hb dX8_wrongIn_3 (by decide) ?_
  refine f_put X hP hS (T := TX8) (ci := 8) (k := 86) rfl inX8 rfl tyX8 tyX8_ok nmX8 41 (by decide) m_4_215 ⟨rfl, rfl⟩ rfl (v := 0) rfl rfl dX8_wrongIn_4 (fun H locs hP hS => ?_)
  refine lv_aload_n hx hb dX8_wrongIn_7 rfl (lv_at hl 1 rfl) ?_
  refine lv_iconst (v := 0) hx hb dX8_wrongIn_8 (by decide) ?_
  refine f_put X hP hS (T := TX8) (ci := 8) (k := 86) rfl inX8 rfl tyX8 tyX8_ok nmX8 42 (by decide) m_4_216 ⟨rfl, rfl⟩ rfl (v := 0) rfl rfl dX8_wrongIn_9 (fun H locs hP hS => ?_)
  refine lv_aload_n hx hb dX8_wrongIn_12 rfl (lv_at hl 1 rfl) ?_
  refine lv_iconst (v := 0) hx hb dX8_wrongIn_13 (by decide) ?_
  refine f_put X hP hS (T := TX8) (ci := 8) (k := 86) rfl inX8 rfl tyX8 tyX8_ok nmX8 43 (by decide) m_4_217 ⟨rfl, rfl⟩ rfl (v := 0) rfl rfl dX8_wrongIn_14 (fun H locs hP hS => ?_)
  refine lv_iconst (v := 0) hx hb dX8_wrongIn_17 (by decide) ?_
  refine lv_istore (lv' := [(4, .int 0), (3, .int 0), (0, .ref (fad E 86)), (1, .int s1), (2, .int (nI n0))]) hx hb dX8_wrongIn_18 hl (by decide) rfl (fun ls hl => ?_)
  refine f_loop (α := Nat × Int32 × (Nat → Nat → Int32)) (fun (a : Nat × Int32 × (Nat → Nat → Int32)) H locs ls => match a with | (i, sn, D) => fP E D L H ∧ va_S (fA E) s.heap H locs ∧ lv_has ls 8 [(4, .int (nI i)), (3, .int sn), (0, .ref (fad E 86)), (1, .int s1), (2, .int (nI n0))] ∧ (i ≤ n0) ∧ ((lp_X8_wrongIn_20 M L s1 n tc s0 n0 n0 0 0 (up2 (up2 (up2 M 86 41 0) 86 42 0) 86 43 0)) = (lp_X8_wrongIn_20 M L s1 n tc s0 n0 (n0 - i) i sn D)) ∧ (D 86 1 = nI tc)) (fun (a : Nat × Int32 × (Nat → Nat → Int32)) => match a with | (i, sn, D) => n0 - i) (pc0 := 20) (st := fun _ => []) ?_ (0, 0, (up2 (up2 (up2 M 86 41 0) 86 42 0) 86 43 0)) _ _ _ ⟨hP, hS, lv_sub hl [0, 1, 2, 3, 4] rfl, (Nat.zero_le _), rfl, ((up2_o _ _ (Or.inr (by decide))).trans ((up2_o _ _ (Or.inr (by decide))).trans ((up2_o _ _ (Or.inr (by decide))).trans htc)))⟩
  rintro ⟨i, sn, D⟩ H locs ls ⟨hP, hS, hl, ht_20, hbt_20, hD⟩ ih_20
  refine lv_iload hx hb dX8_wrongIn_20 (lv_at hl 0 rfl) ?_
  refine lv_iload_n hx hb dX8_wrongIn_22 rfl (lv_at hl 4 rfl) ?_
  refine lv_icmp_ge (tgt := 172) hx hb dX8_wrongIn_23 (by decide) (fun c_23 => ?_) (fun c_23 => ?_)
  · have c_23 := (nI_le_iff (a := n0) (b := i) (by omega) (by omega)).mp c_23
    have hz_20 : n0 - i = 0 := by omega
    have hbt_20 := hbt_20.trans ((congrArg (fun f9 => (lp_X8_wrongIn_20 M L s1 n tc s0 n0 f9 i sn D)) hz_20).trans (lp_X8_wrongIn_20_0 M L s1 n tc s0 n0 i sn D))
    refine lv_iconst (v := (-1)) hx hb dX8_wrongIn_172 (by decide) ?_
    refine f_ir X hlk hr (v := (-1)) rfl hP hS ?_ dX8_wrongIn_173
    unfold a_X8_wrongIn
    rw [hbt_20]
    (try dsimp only)
    first
      | done
      | exact ⟨rfl, rfl⟩
      | rfl
      | (simp only [if_true, if_false, and_self, and_true, true_and, not_true_eq_false, not_false_eq_true, and_false, false_and, or_true, true_or, or_false, false_or, or_self, Bool.false_eq_true, reduceCtorEq, nl10, nl20, nl30, nl40, nl50, nl60, nl70, nl12, nl13, nl21, nl23, nl31, nl32]; first | done | exact ⟨rfl, rfl⟩ | rfl)
      | contradiction
      | (simp only [if_true, if_false, and_self, and_true, true_and, not_true_eq_false, not_false_eq_true, and_false, false_and, or_true, true_or, or_false, false_or, or_self, Bool.false_eq_true, reduceCtorEq, nl10, nl20, nl30, nl40, nl50, nl60, nl70, nl12, nl13, nl21, nl23, nl31, nl32]; contradiction)
      | (exfalso; simp_all; done)
      | simp_all
  · have c_23 := (not_congr (nI_le_iff (a := n0) (b := i) (by omega) (by omega))).mp c_23
    have hs_20 : n0 - i = n0 - (i + 1) + 1 := by omega
    have hbt_20 := hbt_20.trans ((congrArg (fun f9 => (lp_X8_wrongIn_20 M L s1 n tc s0 n0 f9 i sn D)) hs_20).trans (lp_X8_wrongIn_20_s M L s1 n tc s0 n0 (n0 - (i + 1)) i sn D))
    refine lv_aload_n hx hb dX8_wrongIn_26 rfl (lv_at hl 2 rfl) ?_
    refine lv_iload_n hx hb dX8_wrongIn_27 rfl (lv_at hl 3 rfl) ?_
    refine lv_iload hx hb dX8_wrongIn_28 (lv_at hl 0 rfl) ?_
    refine f_iV (n := 2) X hP hS [.int s1, .int (nI i)] [] (c_X8_intAt l E D L s1 (nI i) s0 i hs1 (fIx_nI (by omega) (by decide))) m_6_56 wi_X8_intAt rfl rfl (by decide) (by decide +kernel) ⟨Nat.le_of_ble_eq_true rfl, Nat.le_of_ble_eq_true rfl⟩ rfl hl rfl (Nat.le_of_ble_eq_true rfl) ⟨Nat.zero_le _, Nat.zero_le _⟩ dX8_wrongIn_30 (fun H locs hP hS => ?_)
    refine lv_istore (lv' := [(5, .int (a_X8_intAt D L s1 (nI i) s0 i)), (4, .int (nI i)), (3, .int sn), (0, .ref (fad E 86)), (1, .int s1), (2, .int (nI n0))]) hx hb dX8_wrongIn_33 hl (by decide) rfl (fun ls hl => ?_)
    refine lv_iload hx hb dX8_wrongIn_35 (lv_at hl 0 rfl) ?_
    refine lv_bipush (v := 100) hx hb dX8_wrongIn_37 (by decide) ?_
    refine lv_idiv hx hb dX8_wrongIn_39 (by decide) ?_
    refine lv_istore (lv' := [(6, .int ((a_X8_intAt D L s1 (nI i) s0 i) / 100)), (5, .int (a_X8_intAt D L s1 (nI i) s0 i)), (4, .int (nI i)), (3, .int sn), (0, .ref (fad E 86)), (1, .int s1), (2, .int (nI n0))]) hx hb dX8_wrongIn_40 hl (by decide) rfl (fun ls hl => ?_)
    refine lv_iload hx hb dX8_wrongIn_42 (lv_at hl 1 rfl) ?_
    refine lv_bipush (v := 100) hx hb dX8_wrongIn_44 (by decide) ?_
    refine lv_irem hx hb dX8_wrongIn_46 (by decide) ?_
    refine lv_istore (lv' := [(7, .int ((a_X8_intAt D L s1 (nI i) s0 i) - (a_X8_intAt D L s1 (nI i) s0 i) / 100 * 100)), (6, .int ((a_X8_intAt D L s1 (nI i) s0 i) / 100)), (5, .int (a_X8_intAt D L s1 (nI i) s0 i)), (4, .int (nI i)), (3, .int sn), (0, .ref (fad E 86)), (1, .int s1), (2, .int (nI n0))]) hx hb dX8_wrongIn_47 hl (by decide) rfl (fun ls hl => ?_)
    refine lv_iload hx hb dX8_wrongIn_49 (lv_at hl 2 rfl) ?_
    refine lv_if_lt (tgt := 73) hx hb dX8_wrongIn_51 (by decide) (fun c_51 => ?_) (fun c_51 => ?_)
    · refine lv_iload hx hb dX8_wrongIn_73 (lv_at hl 3 rfl) ?_
      refine f_ir X hlk hr (v := (nI i)) rfl hP hS ?_ dX8_wrongIn_75
      unfold a_X8_wrongIn
      rw [hbt_20]
      (first | rw [if_pos c_51] | rw [if_neg c_51] | rw [if_neg (Bool.eq_false_iff.mp c_51)] | skip)
      (try dsimp only)
      first
        | done
        | exact ⟨rfl, rfl⟩
        | rfl
        | (simp only [c_51, if_true, if_false, and_self, and_true, true_and, not_true_eq_false, not_false_eq_true, and_false, false_and, or_true, true_or, or_false, false_or, or_self, Bool.false_eq_true, reduceCtorEq, nl10, nl20, nl30, nl40, nl50, nl60, nl70, nl12, nl13, nl21, nl23, nl31, nl32]; first | done | exact ⟨rfl, rfl⟩ | rfl)
        | contradiction
        | (simp only [c_51, if_true, if_false, and_self, and_true, true_and, not_true_eq_false, not_false_eq_true, and_false, false_and, or_true, true_or, or_false, false_or, or_self, Bool.false_eq_true, reduceCtorEq, nl10, nl20, nl30, nl40, nl50, nl60, nl70, nl12, nl13, nl21, nl23, nl31, nl32]; contradiction)
        | (exfalso; simp_all; done)
        | simp_all
    · refine lv_iload hx hb dX8_wrongIn_54 (lv_at hl 1 rfl) ?_
      refine lv_aload_n hx hb dX8_wrongIn_56 rfl (lv_at hl 5 rfl) ?_
      refine f_get X hP (T := TX8) (ci := 8) (k := 86) rfl inX8 rfl 1 (by decide) m_4_175 rfl (v := .int (nI tc)) (congrArg Value.int hD) dX8_wrongIn_57 ?_
      refine lv_icmp_ge (tgt := 73) hx hb dX8_wrongIn_60 (by decide) (fun c_60 => ?_) (fun c_60 => ?_)
      · refine lv_iload hx hb dX8_wrongIn_73 (lv_at hl 3 rfl) ?_
        refine f_ir X hlk hr (v := (nI i)) rfl hP hS ?_ dX8_wrongIn_75
        unfold a_X8_wrongIn
        rw [hbt_20]
        (first | rw [if_pos c_51] | rw [if_neg c_51] | rw [if_neg (Bool.eq_false_iff.mp c_51)] | skip)
        (first | rw [if_pos c_60] | rw [if_neg c_60] | rw [if_neg (Bool.eq_false_iff.mp c_60)] | skip)
        (try dsimp only)
        first
          | done
          | exact ⟨rfl, rfl⟩
          | rfl
          | (simp only [c_51, c_60, if_true, if_false, and_self, and_true, true_and, not_true_eq_false, not_false_eq_true, and_false, false_and, or_true, true_or, or_false, false_or, or_self, Bool.false_eq_true, reduceCtorEq, nl10, nl20, nl30, nl40, nl50, nl60, nl70, nl12, nl13, nl21, nl23, nl31, nl32]; first | done | exact ⟨rfl, rfl⟩ | rfl)
          | contradiction
          | (simp only [c_51, c_60, if_true, if_false, and_self, and_true, true_and, not_true_eq_false, not_false_eq_true, and_false, false_and, or_true, true_or, or_false, false_or, or_self, Bool.false_eq_true, reduceCtorEq, nl10, nl20, nl30, nl40, nl50, nl60, nl70, nl12, nl13, nl21, nl23, nl31, nl32]; contradiction)
          | (exfalso; simp_all; done)
          | simp_all
      · refine lv_iload_n hx hb dX8_wrongIn_63 rfl (lv_at hl 4 rfl) ?_
        refine lv_iload hx hb dX8_wrongIn_64 (lv_at hl 1 rfl) ?_
        refine lv_ishr hx hb dX8_wrongIn_66 ?_
        refine lv_iconst (v := 1) hx hb dX8_wrongIn_67 (by decide) ?_
        refine lv_iand hx hb dX8_wrongIn_68 ?_
        refine lv_iconst (v := 1) hx hb dX8_wrongIn_69 (by decide) ?_
        refine lv_icmp_ne (tgt := 76) hx hb dX8_wrongIn_70 (by decide) (fun c_70 => ?_) (fun c_70 => ?_)
        · have hi9 : fIx ((a_X8_intAt D L s1 (nI i) s0 i) / 100) 8 ((a_X8_intAt D L s1 (nI i) s0 i) / 100).toNatClampNeg := fIx_cnt (z := nI tc) 8 (div_nn c_51) (Int32.not_le.mp c_60) rfl htc8 (by decide)
          refine lv_iload_n hx hb dX8_wrongIn_76 rfl (lv_at hl 4 rfl) ?_
          refine lv_iconst (v := 1) hx hb dX8_wrongIn_77 (by decide) ?_
          refine lv_iload hx hb dX8_wrongIn_78 (lv_at hl 1 rfl) ?_
          refine lv_ishl hx hb dX8_wrongIn_80 ?_
          refine lv_iadd hx hb dX8_wrongIn_81 ?_
          refine lv_istore_n (lv' := [(3, .int (sn + (1 <<< (((a_X8_intAt D L s1 (nI i) s0 i) / 100) &&& 31)))), (7, .int ((a_X8_intAt D L s1 (nI i) s0 i) - (a_X8_intAt D L s1 (nI i) s0 i) / 100 * 100)), (6, .int ((a_X8_intAt D L s1 (nI i) s0 i) / 100)), (5, .int (a_X8_intAt D L s1 (nI i) s0 i)), (4, .int (nI i)), (0, .ref (fad E 86)), (1, .int s1), (2, .int (nI n0))]) hx hb dX8_wrongIn_82 rfl hl (by decide) rfl (fun ls hl => ?_)
          refine lv_iload hx hb dX8_wrongIn_83 (lv_at hl 1 rfl) ?_
          refine lv_bipush (v := 99) hx hb dX8_wrongIn_85 (by decide) ?_
          refine lv_icmp_ne (tgt := 113) hx hb dX8_wrongIn_87 (by decide) (fun c_87 => ?_) (fun c_87 => ?_)
          · refine lv_aload_n hx hb dX8_wrongIn_113 rfl (lv_at hl 5 rfl) ?_
            refine lv_iload hx hb dX8_wrongIn_114 (lv_at hl 2 rfl) ?_
            refine lv_iload hx hb dX8_wrongIn_116 (lv_at hl 1 rfl) ?_
            refine f_iV (n := 2) X hP hS [.int ((a_X8_intAt D L s1 (nI i) s0 i) / 100), .int ((a_X8_intAt D L s1 (nI i) s0 i) - (a_X8_intAt D L s1 (nI i) s0 i) / 100 * 100)] [] (c_X8_mayCome l E D L ((a_X8_intAt D L s1 (nI i) s0 i) / 100) ((a_X8_intAt D L s1 (nI i) s0 i) - (a_X8_intAt D L s1 (nI i) s0 i) / 100 * 100) (((a_X8_intAt D L s1 (nI i) s0 i) / 100).toNatClampNeg) hi9) m_6_60 wi_X8_mayCome rfl rfl (by decide) (by decide +kernel) ⟨Nat.le_of_ble_eq_true rfl, Nat.le_of_ble_eq_true rfl⟩ rfl hl rfl (Nat.le_of_ble_eq_true rfl) ⟨Nat.zero_le _, Nat.zero_le _⟩ dX8_wrongIn_118 (fun H locs hP hS => ?_)
            refine lv_if_ne (tgt := 127) hx hb dX8_wrongIn_121 (by decide) (fun c_121 => ?_) (fun c_121 => ?_)
            · have c_121 := bI1 c_121
              refine lv_aload_n hx hb dX8_wrongIn_127 rfl (lv_at hl 5 rfl) ?_
              refine lv_iload hx hb dX8_wrongIn_128 (lv_at hl 2 rfl) ?_
              refine lv_iconst (v := 0) hx hb dX8_wrongIn_130 (by decide) ?_
              refine f_iV (n := 2) X hP hS [.int ((a_X8_intAt D L s1 (nI i) s0 i) / 100), .int 0] [] (c_X8_isMet l E D L ((a_X8_intAt D L s1 (nI i) s0 i) / 100) 0 (((a_X8_intAt D L s1 (nI i) s0 i) / 100).toNatClampNeg) hi9) m_6_44 wi_X8_isMet rfl rfl (by decide) (by decide +kernel) ⟨Nat.le_of_ble_eq_true rfl, Nat.le_of_ble_eq_true rfl⟩ rfl hl rfl (Nat.le_of_ble_eq_true rfl) ⟨Nat.zero_le _, Nat.zero_le _⟩ dX8_wrongIn_131 (fun H locs hP hS => ?_)
              refine lv_if_ne (tgt := 140) hx hb dX8_wrongIn_134 (by decide) (fun c_134 => ?_) (fun c_134 => ?_)
              · have c_134 := bI1 c_134
                refine lv_aload_n hx hb dX8_wrongIn_140 rfl (lv_at hl 5 rfl) ?_
                refine lv_dup hx hb dX8_wrongIn_141 rfl ?_
                refine f_get X hP (T := TX8) (ci := 8) (k := 86) rfl inX8 rfl 41 (by decide) m_4_215 rfl (v := .int (D 86 41)) rfl dX8_wrongIn_142 ?_
                refine lv_iconst (v := 1) hx hb dX8_wrongIn_145 (by decide) ?_
                refine lv_iadd hx hb dX8_wrongIn_146 ?_
                refine f_put X hP hS (T := TX8) (ci := 8) (k := 86) rfl inX8 rfl tyX8 tyX8_ok nmX8 41 (by decide) m_4_215 ⟨rfl, rfl⟩ rfl (v := ((D 86 41) + 1)) rfl rfl dX8_wrongIn_147 (fun H locs hP hS => ?_)
                refine lv_aload_n hx hb dX8_wrongIn_150 rfl (lv_at hl 5 rfl) ?_
                refine lv_dup hx hb dX8_wrongIn_151 rfl ?_
                refine f_get X hP (T := TX8) (ci := 8) (k := 86) rfl inX8 rfl 42 (by decide) m_4_216 rfl (v := .int (D 86 42)) (congrArg Value.int (up2_o _ _ (Or.inr (by decide)))) dX8_wrongIn_152 ?_
                refine lv_aload_n hx hb dX8_wrongIn_155 rfl (lv_at hl 5 rfl) ?_
                refine f_get X hP (T := TX8) (ci := 8) (k := 86) rfl inX8 rfl 18 (by decide) m_4_192 rfl (v := .ref (fad E 97)) rfl dX8_wrongIn_156 ?_
                refine lv_iload hx hb dX8_wrongIn_159 (lv_at hl 2 rfl) ?_
                refine f_iald X hP (k := 97) (n := 8) (q := ((a_X8_intAt D L s1 (nI i) s0 i) / 100).toNatClampNeg) rfl rfl hi9 dX8_wrongIn_161 ?_
                refine f_topI (up2_o _ _ (Or.inl (by decide))) ?_
                refine lv_iadd hx hb dX8_wrongIn_162 ?_
                refine f_put X hP hS (T := TX8) (ci := 8) (k := 86) rfl inX8 rfl tyX8 tyX8_ok nmX8 42 (by decide) m_4_216 ⟨rfl, rfl⟩ rfl (v := ((D 86 42) + (D 97 (((a_X8_intAt D L s1 (nI i) s0 i) / 100).toNatClampNeg)))) rfl rfl dX8_wrongIn_163 (fun H locs hP hS => ?_)
                refine lv_iinc (v := (nI (i + 1))) (lv' := [(4, .int (nI (i + 1))), (3, .int (sn + (1 <<< (((a_X8_intAt D L s1 (nI i) s0 i) / 100) &&& 31)))), (7, .int ((a_X8_intAt D L s1 (nI i) s0 i) - (a_X8_intAt D L s1 (nI i) s0 i) / 100 * 100)), (6, .int ((a_X8_intAt D L s1 (nI i) s0 i) / 100)), (5, .int (a_X8_intAt D L s1 (nI i) s0 i)), (0, .ref (fad E 86)), (1, .int s1), (2, .int (nI n0))]) hx hb dX8_wrongIn_166 hl (k := 4) rfl (nI_1 _) (by decide) rfl (fun ls hl => ?_)
                refine lv_goto (tgt := 20) hx hb dX8_wrongIn_169 (by decide) ?_
                exact ih_20 ((i + 1), (sn + (1 <<< (((a_X8_intAt D L s1 (nI i) s0 i) / 100) &&& 31))), (up2 (up2 D 86 41 ((D 86 41) + 1)) 86 42 ((D 86 42) + (D 97 (((a_X8_intAt D L s1 (nI i) s0 i) / 100).toNatClampNeg))))) _ _ _ (by show n0 - (i + 1) < n0 - i; omega) ⟨hP, hS, lv_sub hl [0, 1, 5, 6, 7] rfl, (by omega), (by
                  refine hbt_20.trans ?_
                  (first | rw [if_pos c_51] | rw [if_neg c_51] | rw [if_neg (Bool.eq_false_iff.mp c_51)] | skip)
                  (first | rw [if_pos c_60] | rw [if_neg c_60] | rw [if_neg (Bool.eq_false_iff.mp c_60)] | skip)
                  (first | rw [if_pos c_70] | rw [if_neg c_70] | rw [if_neg (Bool.eq_false_iff.mp c_70)] | skip)
                  (first | rw [if_pos c_87] | rw [if_neg c_87] | rw [if_neg (Bool.eq_false_iff.mp c_87)] | skip)
                  (first | rw [if_pos c_121] | rw [if_neg c_121] | rw [if_neg (Bool.eq_false_iff.mp c_121)] | skip)
                  (first | rw [if_pos c_134] | rw [if_neg c_134] | rw [if_neg (Bool.eq_false_iff.mp c_134)] | skip)
                  first | done | rfl), (by first | exact hD | exact (up2_o _ _ (Or.inr (by decide))).trans hD | exact (up2_o _ _ (Or.inr (by decide))).trans ((up2_o _ _ (Or.inr (by decide))).trans hD))⟩
              · have c_134 := bI0 c_134
                refine lv_goto (tgt := 166) hx hb dX8_wrongIn_137 (by decide) ?_
                refine lv_iinc (v := (nI (i + 1))) (lv' := [(4, .int (nI (i + 1))), (3, .int (sn + (1 <<< (((a_X8_intAt D L s1 (nI i) s0 i) / 100) &&& 31)))), (7, .int ((a_X8_intAt D L s1 (nI i) s0 i) - (a_X8_intAt D L s1 (nI i) s0 i) / 100 * 100)), (6, .int ((a_X8_intAt D L s1 (nI i) s0 i) / 100)), (5, .int (a_X8_intAt D L s1 (nI i) s0 i)), (0, .ref (fad E 86)), (1, .int s1), (2, .int (nI n0))]) hx hb dX8_wrongIn_166 hl (k := 4) rfl (nI_1 _) (by decide) rfl (fun ls hl => ?_)
                refine lv_goto (tgt := 20) hx hb dX8_wrongIn_169 (by decide) ?_
                exact ih_20 ((i + 1), (sn + (1 <<< (((a_X8_intAt D L s1 (nI i) s0 i) / 100) &&& 31))), D) _ _ _ (by show n0 - (i + 1) < n0 - i; omega) ⟨hP, hS, lv_sub hl [0, 1, 5, 6, 7] rfl, (by omega), (by
                  refine hbt_20.trans ?_
                  (first | rw [if_pos c_51] | rw [if_neg c_51] | rw [if_neg (Bool.eq_false_iff.mp c_51)] | skip)
                  (first | rw [if_pos c_60] | rw [if_neg c_60] | rw [if_neg (Bool.eq_false_iff.mp c_60)] | skip)
                  (first | rw [if_pos c_70] | rw [if_neg c_70] | rw [if_neg (Bool.eq_false_iff.mp c_70)] | skip)
                  (first | rw [if_pos c_87] | rw [if_neg c_87] | rw [if_neg (Bool.eq_false_iff.mp c_87)] | skip)
                  (first | rw [if_pos c_121] | rw [if_neg c_121] | rw [if_neg (Bool.eq_false_iff.mp c_121)] | skip)
                  (first | rw [if_pos c_134] | rw [if_neg c_134] | rw [if_neg (Bool.eq_false_iff.mp c_134)] | skip)
                  first | done | rfl), (by first | exact hD | exact (up2_o _ _ (Or.inr (by decide))).trans hD | exact (up2_o _ _ (Or.inr (by decide))).trans ((up2_o _ _ (Or.inr (by decide))).trans hD))⟩
            · have c_121 := bI0 c_121
              refine lv_iload hx hb dX8_wrongIn_124 (lv_at hl 4 rfl) ?_
              refine f_ir X hlk hr (v := (nI i)) rfl hP hS ?_ dX8_wrongIn_126
              unfold a_X8_wrongIn
              rw [hbt_20]
              (first | rw [if_pos c_51] | rw [if_neg c_51] | rw [if_neg (Bool.eq_false_iff.mp c_51)] | skip)
              (first | rw [if_pos c_60] | rw [if_neg c_60] | rw [if_neg (Bool.eq_false_iff.mp c_60)] | skip)
              (first | rw [if_pos c_70] | rw [if_neg c_70] | rw [if_neg (Bool.eq_false_iff.mp c_70)] | skip)
              (first | rw [if_pos c_87] | rw [if_neg c_87] | rw [if_neg (Bool.eq_false_iff.mp c_87)] | skip)
              (first | rw [if_pos c_121] | rw [if_neg c_121] | rw [if_neg (Bool.eq_false_iff.mp c_121)] | skip)
              (try dsimp only)
              first
                | done
                | exact ⟨rfl, rfl⟩
                | rfl
                | (simp only [c_51, c_60, c_70, c_87, c_121, if_true, if_false, and_self, and_true, true_and, not_true_eq_false, not_false_eq_true, and_false, false_and, or_true, true_or, or_false, false_or, or_self, Bool.false_eq_true, reduceCtorEq, nl10, nl20, nl30, nl40, nl50, nl60, nl70, nl12, nl13, nl21, nl23, nl31, nl32]; first | done | exact ⟨rfl, rfl⟩ | rfl)
                | contradiction
                | (simp only [c_51, c_60, c_70, c_87, c_121, if_true, if_false, and_self, and_true, true_and, not_true_eq_false, not_false_eq_true, and_false, false_and, or_true, true_or, or_false, false_or, or_self, Bool.false_eq_true, reduceCtorEq, nl10, nl20, nl30, nl40, nl50, nl60, nl70, nl12, nl13, nl21, nl23, nl31, nl32]; contradiction)
                | (exfalso; simp_all; done)
                | simp_all
          · refine lv_aload_n hx hb dX8_wrongIn_90 rfl (lv_at hl 5 rfl) ?_
            refine f_get X hP (T := TX8) (ci := 8) (k := 86) rfl inX8 rfl 17 (by decide) m_4_191 rfl (v := .ref (fad E 96)) rfl dX8_wrongIn_91 ?_
            refine lv_iload hx hb dX8_wrongIn_94 (lv_at hl 2 rfl) ?_
            refine f_iald X hP (k := 96) (n := 8) (q := ((a_X8_intAt D L s1 (nI i) s0 i) / 100).toNatClampNeg) rfl rfl hi9 dX8_wrongIn_96 ?_
            refine lv_if_le (tgt := 113) hx hb dX8_wrongIn_97 (by decide) (fun c_97 => ?_) (fun c_97 => ?_)
            · refine lv_aload_n hx hb dX8_wrongIn_113 rfl (lv_at hl 5 rfl) ?_
              refine lv_iload hx hb dX8_wrongIn_114 (lv_at hl 2 rfl) ?_
              refine lv_iload hx hb dX8_wrongIn_116 (lv_at hl 1 rfl) ?_
              refine f_iV (n := 2) X hP hS [.int ((a_X8_intAt D L s1 (nI i) s0 i) / 100), .int ((a_X8_intAt D L s1 (nI i) s0 i) - (a_X8_intAt D L s1 (nI i) s0 i) / 100 * 100)] [] (c_X8_mayCome l E D L ((a_X8_intAt D L s1 (nI i) s0 i) / 100) ((a_X8_intAt D L s1 (nI i) s0 i) - (a_X8_intAt D L s1 (nI i) s0 i) / 100 * 100) (((a_X8_intAt D L s1 (nI i) s0 i) / 100).toNatClampNeg) hi9) m_6_60 wi_X8_mayCome rfl rfl (by decide) (by decide +kernel) ⟨Nat.le_of_ble_eq_true rfl, Nat.le_of_ble_eq_true rfl⟩ rfl hl rfl (Nat.le_of_ble_eq_true rfl) ⟨Nat.zero_le _, Nat.zero_le _⟩ dX8_wrongIn_118 (fun H locs hP hS => ?_)
              refine lv_if_ne (tgt := 127) hx hb dX8_wrongIn_121 (by decide) (fun c_121 => ?_) (fun c_121 => ?_)
              · have c_121 := bI1 c_121
                refine lv_aload_n hx hb dX8_wrongIn_127 rfl (lv_at hl 5 rfl) ?_
                refine lv_iload hx hb dX8_wrongIn_128 (lv_at hl 2 rfl) ?_
                refine lv_iconst (v := 0) hx hb dX8_wrongIn_130 (by decide) ?_
                refine f_iV (n := 2) X hP hS [.int ((a_X8_intAt D L s1 (nI i) s0 i) / 100), .int 0] [] (c_X8_isMet l E D L ((a_X8_intAt D L s1 (nI i) s0 i) / 100) 0 (((a_X8_intAt D L s1 (nI i) s0 i) / 100).toNatClampNeg) hi9) m_6_44 wi_X8_isMet rfl rfl (by decide) (by decide +kernel) ⟨Nat.le_of_ble_eq_true rfl, Nat.le_of_ble_eq_true rfl⟩ rfl hl rfl (Nat.le_of_ble_eq_true rfl) ⟨Nat.zero_le _, Nat.zero_le _⟩ dX8_wrongIn_131 (fun H locs hP hS => ?_)
                refine lv_if_ne (tgt := 140) hx hb dX8_wrongIn_134 (by decide) (fun c_134 => ?_) (fun c_134 => ?_)
                · have c_134 := bI1 c_134
                  refine lv_aload_n hx hb dX8_wrongIn_140 rfl (lv_at hl 5 rfl) ?_
                  refine lv_dup hx hb dX8_wrongIn_141 rfl ?_
                  refine f_get X hP (T := TX8) (ci := 8) (k := 86) rfl inX8 rfl 41 (by decide) m_4_215 rfl (v := .int (D 86 41)) rfl dX8_wrongIn_142 ?_
                  refine lv_iconst (v := 1) hx hb dX8_wrongIn_145 (by decide) ?_
                  refine lv_iadd hx hb dX8_wrongIn_146 ?_
                  refine f_put X hP hS (T := TX8) (ci := 8) (k := 86) rfl inX8 rfl tyX8 tyX8_ok nmX8 41 (by decide) m_4_215 ⟨rfl, rfl⟩ rfl (v := ((D 86 41) + 1)) rfl rfl dX8_wrongIn_147 (fun H locs hP hS => ?_)
                  refine lv_aload_n hx hb dX8_wrongIn_150 rfl (lv_at hl 5 rfl) ?_
                  refine lv_dup hx hb dX8_wrongIn_151 rfl ?_
                  refine f_get X hP (T := TX8) (ci := 8) (k := 86) rfl inX8 rfl 42 (by decide) m_4_216 rfl (v := .int (D 86 42)) (congrArg Value.int (up2_o _ _ (Or.inr (by decide)))) dX8_wrongIn_152 ?_
                  refine lv_aload_n hx hb dX8_wrongIn_155 rfl (lv_at hl 5 rfl) ?_
                  refine f_get X hP (T := TX8) (ci := 8) (k := 86) rfl inX8 rfl 18 (by decide) m_4_192 rfl (v := .ref (fad E 97)) rfl dX8_wrongIn_156 ?_
                  refine lv_iload hx hb dX8_wrongIn_159 (lv_at hl 2 rfl) ?_
                  refine f_iald X hP (k := 97) (n := 8) (q := ((a_X8_intAt D L s1 (nI i) s0 i) / 100).toNatClampNeg) rfl rfl hi9 dX8_wrongIn_161 ?_
                  refine f_topI (up2_o _ _ (Or.inl (by decide))) ?_
                  refine lv_iadd hx hb dX8_wrongIn_162 ?_
                  refine f_put X hP hS (T := TX8) (ci := 8) (k := 86) rfl inX8 rfl tyX8 tyX8_ok nmX8 42 (by decide) m_4_216 ⟨rfl, rfl⟩ rfl (v := ((D 86 42) + (D 97 (((a_X8_intAt D L s1 (nI i) s0 i) / 100).toNatClampNeg)))) rfl rfl dX8_wrongIn_163 (fun H locs hP hS => ?_)
                  refine lv_iinc (v := (nI (i + 1))) (lv' := [(4, .int (nI (i + 1))), (3, .int (sn + (1 <<< (((a_X8_intAt D L s1 (nI i) s0 i) / 100) &&& 31)))), (7, .int ((a_X8_intAt D L s1 (nI i) s0 i) - (a_X8_intAt D L s1 (nI i) s0 i) / 100 * 100)), (6, .int ((a_X8_intAt D L s1 (nI i) s0 i) / 100)), (5, .int (a_X8_intAt D L s1 (nI i) s0 i)), (0, .ref (fad E 86)), (1, .int s1), (2, .int (nI n0))]) hx hb dX8_wrongIn_166 hl (k := 4) rfl (nI_1 _) (by decide) rfl (fun ls hl => ?_)
                  refine lv_goto (tgt := 20) hx hb dX8_wrongIn_169 (by decide) ?_
                  exact ih_20 ((i + 1), (sn + (1 <<< (((a_X8_intAt D L s1 (nI i) s0 i) / 100) &&& 31))), (up2 (up2 D 86 41 ((D 86 41) + 1)) 86 42 ((D 86 42) + (D 97 (((a_X8_intAt D L s1 (nI i) s0 i) / 100).toNatClampNeg))))) _ _ _ (by show n0 - (i + 1) < n0 - i; omega) ⟨hP, hS, lv_sub hl [0, 1, 5, 6, 7] rfl, (by omega), (by
                    refine hbt_20.trans ?_
                    (first | rw [if_pos c_51] | rw [if_neg c_51] | rw [if_neg (Bool.eq_false_iff.mp c_51)] | skip)
                    (first | rw [if_pos c_60] | rw [if_neg c_60] | rw [if_neg (Bool.eq_false_iff.mp c_60)] | skip)
                    (first | rw [if_pos c_70] | rw [if_neg c_70] | rw [if_neg (Bool.eq_false_iff.mp c_70)] | skip)
                    (first | rw [if_pos c_87] | rw [if_neg c_87] | rw [if_neg (Bool.eq_false_iff.mp c_87)] | skip)
                    (first | rw [if_pos c_97] | rw [if_neg c_97] | rw [if_neg (Bool.eq_false_iff.mp c_97)] | skip)
                    (first | rw [if_pos c_121] | rw [if_neg c_121] | rw [if_neg (Bool.eq_false_iff.mp c_121)] | skip)
                    (first | rw [if_pos c_134] | rw [if_neg c_134] | rw [if_neg (Bool.eq_false_iff.mp c_134)] | skip)
                    first | done | rfl), (by first | exact hD | exact (up2_o _ _ (Or.inr (by decide))).trans hD | exact (up2_o _ _ (Or.inr (by decide))).trans ((up2_o _ _ (Or.inr (by decide))).trans hD))⟩
                · have c_134 := bI0 c_134
                  refine lv_goto (tgt := 166) hx hb dX8_wrongIn_137 (by decide) ?_
                  refine lv_iinc (v := (nI (i + 1))) (lv' := [(4, .int (nI (i + 1))), (3, .int (sn + (1 <<< (((a_X8_intAt D L s1 (nI i) s0 i) / 100) &&& 31)))), (7, .int ((a_X8_intAt D L s1 (nI i) s0 i) - (a_X8_intAt D L s1 (nI i) s0 i) / 100 * 100)), (6, .int ((a_X8_intAt D L s1 (nI i) s0 i) / 100)), (5, .int (a_X8_intAt D L s1 (nI i) s0 i)), (0, .ref (fad E 86)), (1, .int s1), (2, .int (nI n0))]) hx hb dX8_wrongIn_166 hl (k := 4) rfl (nI_1 _) (by decide) rfl (fun ls hl => ?_)
                  refine lv_goto (tgt := 20) hx hb dX8_wrongIn_169 (by decide) ?_
                  exact ih_20 ((i + 1), (sn + (1 <<< (((a_X8_intAt D L s1 (nI i) s0 i) / 100) &&& 31))), D) _ _ _ (by show n0 - (i + 1) < n0 - i; omega) ⟨hP, hS, lv_sub hl [0, 1, 5, 6, 7] rfl, (by omega), (by
                    refine hbt_20.trans ?_
                    (first | rw [if_pos c_51] | rw [if_neg c_51] | rw [if_neg (Bool.eq_false_iff.mp c_51)] | skip)
                    (first | rw [if_pos c_60] | rw [if_neg c_60] | rw [if_neg (Bool.eq_false_iff.mp c_60)] | skip)
                    (first | rw [if_pos c_70] | rw [if_neg c_70] | rw [if_neg (Bool.eq_false_iff.mp c_70)] | skip)
                    (first | rw [if_pos c_87] | rw [if_neg c_87] | rw [if_neg (Bool.eq_false_iff.mp c_87)] | skip)
                    (first | rw [if_pos c_97] | rw [if_neg c_97] | rw [if_neg (Bool.eq_false_iff.mp c_97)] | skip)
                    (first | rw [if_pos c_121] | rw [if_neg c_121] | rw [if_neg (Bool.eq_false_iff.mp c_121)] | skip)
                    (first | rw [if_pos c_134] | rw [if_neg c_134] | rw [if_neg (Bool.eq_false_iff.mp c_134)] | skip)
                    first | done | rfl), (by first | exact hD | exact (up2_o _ _ (Or.inr (by decide))).trans hD | exact (up2_o _ _ (Or.inr (by decide))).trans ((up2_o _ _ (Or.inr (by decide))).trans hD))⟩
              · have c_121 := bI0 c_121
                refine lv_iload hx hb dX8_wrongIn_124 (lv_at hl 4 rfl) ?_
                refine f_ir X hlk hr (v := (nI i)) rfl hP hS ?_ dX8_wrongIn_126
                unfold a_X8_wrongIn
                rw [hbt_20]
                (first | rw [if_pos c_51] | rw [if_neg c_51] | rw [if_neg (Bool.eq_false_iff.mp c_51)] | skip)
                (first | rw [if_pos c_60] | rw [if_neg c_60] | rw [if_neg (Bool.eq_false_iff.mp c_60)] | skip)
                (first | rw [if_pos c_70] | rw [if_neg c_70] | rw [if_neg (Bool.eq_false_iff.mp c_70)] | skip)
                (first | rw [if_pos c_87] | rw [if_neg c_87] | rw [if_neg (Bool.eq_false_iff.mp c_87)] | skip)
                (first | rw [if_pos c_97] | rw [if_neg c_97] | rw [if_neg (Bool.eq_false_iff.mp c_97)] | skip)
                (first | rw [if_pos c_121] | rw [if_neg c_121] | rw [if_neg (Bool.eq_false_iff.mp c_121)] | skip)
                (try dsimp only)
                first
                  | done
                  | exact ⟨rfl, rfl⟩
                  | rfl
                  | (simp only [c_51, c_60, c_70, c_87, c_97, c_121, if_true, if_false, and_self, and_true, true_and, not_true_eq_false, not_false_eq_true, and_false, false_and, or_true, true_or, or_false, false_or, or_self, Bool.false_eq_true, reduceCtorEq, nl10, nl20, nl30, nl40, nl50, nl60, nl70, nl12, nl13, nl21, nl23, nl31, nl32]; first | done | exact ⟨rfl, rfl⟩ | rfl)
                  | contradiction
                  | (simp only [c_51, c_60, c_70, c_87, c_97, c_121, if_true, if_false, and_self, and_true, true_and, not_true_eq_false, not_false_eq_true, and_false, false_and, or_true, true_or, or_false, false_or, or_self, Bool.false_eq_true, reduceCtorEq, nl10, nl20, nl30, nl40, nl50, nl60, nl70, nl12, nl13, nl21, nl23, nl31, nl32]; contradiction)
                  | (exfalso; simp_all; done)
                  | simp_all
            · refine lv_aload_n hx hb dX8_wrongIn_100 rfl (lv_at hl 5 rfl) ?_
              refine lv_dup hx hb dX8_wrongIn_101 rfl ?_
              refine f_get X hP (T := TX8) (ci := 8) (k := 86) rfl inX8 rfl 43 (by decide) m_4_217 rfl (v := .int (D 86 43)) rfl dX8_wrongIn_102 ?_
              refine lv_iconst (v := 1) hx hb dX8_wrongIn_105 (by decide) ?_
              refine lv_iadd hx hb dX8_wrongIn_106 ?_
              refine f_put X hP hS (T := TX8) (ci := 8) (k := 86) rfl inX8 rfl tyX8 tyX8_ok nmX8 43 (by decide) m_4_217 ⟨rfl, rfl⟩ rfl (v := ((D 86 43) + 1)) rfl rfl dX8_wrongIn_107 (fun H locs hP hS => ?_)
              refine lv_goto (tgt := 166) hx hb dX8_wrongIn_110 (by decide) ?_
              refine lv_iinc (v := (nI (i + 1))) (lv' := [(4, .int (nI (i + 1))), (3, .int (sn + (1 <<< (((a_X8_intAt D L s1 (nI i) s0 i) / 100) &&& 31)))), (7, .int ((a_X8_intAt D L s1 (nI i) s0 i) - (a_X8_intAt D L s1 (nI i) s0 i) / 100 * 100)), (6, .int ((a_X8_intAt D L s1 (nI i) s0 i) / 100)), (5, .int (a_X8_intAt D L s1 (nI i) s0 i)), (0, .ref (fad E 86)), (1, .int s1), (2, .int (nI n0))]) hx hb dX8_wrongIn_166 hl (k := 4) rfl (nI_1 _) (by decide) rfl (fun ls hl => ?_)
              refine lv_goto (tgt := 20) hx hb dX8_wrongIn_169 (by decide) ?_
              exact ih_20 ((i + 1), (sn + (1 <<< (((a_X8_intAt D L s1 (nI i) s0 i) / 100) &&& 31))), (up2 D 86 43 ((D 86 43) + 1))) _ _ _ (by show n0 - (i + 1) < n0 - i; omega) ⟨hP, hS, lv_sub hl [0, 1, 5, 6, 7] rfl, (by omega), (by
                refine hbt_20.trans ?_
                (first | rw [if_pos c_51] | rw [if_neg c_51] | rw [if_neg (Bool.eq_false_iff.mp c_51)] | skip)
                (first | rw [if_pos c_60] | rw [if_neg c_60] | rw [if_neg (Bool.eq_false_iff.mp c_60)] | skip)
                (first | rw [if_pos c_70] | rw [if_neg c_70] | rw [if_neg (Bool.eq_false_iff.mp c_70)] | skip)
                (first | rw [if_pos c_87] | rw [if_neg c_87] | rw [if_neg (Bool.eq_false_iff.mp c_87)] | skip)
                (first | rw [if_pos c_97] | rw [if_neg c_97] | rw [if_neg (Bool.eq_false_iff.mp c_97)] | skip)
                first | done | rfl), (by first | exact hD | exact (up2_o _ _ (Or.inr (by decide))).trans hD | exact (up2_o _ _ (Or.inr (by decide))).trans ((up2_o _ _ (Or.inr (by decide))).trans hD))⟩
        · refine lv_iload hx hb dX8_wrongIn_73 (lv_at hl 3 rfl) ?_
          refine f_ir X hlk hr (v := (nI i)) rfl hP hS ?_ dX8_wrongIn_75
          unfold a_X8_wrongIn
          rw [hbt_20]
          (first | rw [if_pos c_51] | rw [if_neg c_51] | rw [if_neg (Bool.eq_false_iff.mp c_51)] | skip)
          (first | rw [if_pos c_60] | rw [if_neg c_60] | rw [if_neg (Bool.eq_false_iff.mp c_60)] | skip)
          (first | rw [if_pos c_70] | rw [if_neg c_70] | rw [if_neg (Bool.eq_false_iff.mp c_70)] | skip)
          (try dsimp only)
          first
            | done
            | exact ⟨rfl, rfl⟩
            | rfl
            | (simp only [c_51, c_60, c_70, if_true, if_false, and_self, and_true, true_and, not_true_eq_false, not_false_eq_true, and_false, false_and, or_true, true_or, or_false, false_or, or_self, Bool.false_eq_true, reduceCtorEq, nl10, nl20, nl30, nl40, nl50, nl60, nl70, nl12, nl13, nl21, nl23, nl31, nl32]; first | done | exact ⟨rfl, rfl⟩ | rfl)
            | contradiction
            | (simp only [c_51, c_60, c_70, if_true, if_false, and_self, and_true, true_and, not_true_eq_false, not_false_eq_true, and_false, false_and, or_true, true_or, or_false, false_or, or_self, Bool.false_eq_true, reduceCtorEq, nl10, nl20, nl30, nl40, nl50, nl60, nl70, nl12, nl13, nl21, nl23, nl31, nl32]; contradiction)
            | (exfalso; simp_all; done)
            | simp_all
