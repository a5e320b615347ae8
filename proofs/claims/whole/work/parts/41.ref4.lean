def lp_X8_many_4 (M : Nat → Nat → Int32) (L : Nat → Nat → Int64) (bits : Int32) : Nat → Int32 := itF (fun i s9 => (s9 + ((bits >>> ((nI i) &&& 31)) &&& 1))) 0
theorem lp_X8_many_4_s (M : Nat → Nat → Int32) (L : Nat → Nat → Int64) (bits : Int32) (i : Nat) : (lp_X8_many_4 M L bits (i + 1)) = (((lp_X8_many_4 M L bits i)) + ((bits >>> ((nI i) &&& 31)) &&& 1)) := rfl
def a_X8_many (M : Nat → Nat → Int32) (L : Nat → Nat → Int64) (bits : Int32) : Int32 := (lp_X8_many_4 M L bits 8)
set_option maxHeartbeats 1000000 in
set_option maxRecDepth 100000 in
theorem c_X8_many (l : Launch) (E : fE) (M : Nat → Nat → Int32) (L : Nat → Nat → Int64) (bits : Int32) : Met l yX8_many (wl yX8_many cX8_many 4 (some .int)) (fRm 0 0) (va_Pc [.ref (fad E 86), .int bits] (fPre E M L)) (fQi E (fun r u => u = (M, L) ∧ r = (a_X8_many M L bits))) 0 0 (fA E) := by
  refine f_head (by decide) (Nat.le_of_ble_eq_true rfl) ?_
  intro pg ev s mi below meth cd ls X hr hlk hP hS hl
  have hx := X.1.1
  have hb := X.1.2.1
  have hl : lv_has ls 4 [(0, .ref (fad E 86)), (1, .int bits)] := hl
  refine lv_iconst (v := 0) hx hb dX8_many_0 (by decide) ?_
  refine lv_istore_n (lv' := [(2, .int 0), (0, .ref (fad E 86)), (1, .int bits)]) hx hb dX8_many_1 rfl hl (by decide) rfl (fun ls hl => ?_)
  refine lv_iconst (v := 0) hx hb dX8_many_2 (by decide) ?_
  refine lv_istore_n (lv' := [(3, .int 0), (2, .int 0), (0, .ref (fad E 86)), (1, .int bits)]) hx hb dX8_many_3 rfl hl (by decide) rfl (fun ls hl => ?_)
  refine f_loop (α := Nat × Int32) (fun (a : Nat × Int32) H locs ls => match a with | (i, b) => fP E M L H ∧ va_S (fA E) s.heap H locs ∧ lv_has ls 4 [(3, .int (nI i)), (2, .int b), (0, .ref (fad E 86)), (1, .int bits)] ∧ (i ≤ 8) ∧ (b = (lp_X8_many_4 M L bits i))) (fun (a : Nat × Int32) => match a with | (i, b) => 8 - i) (pc0 := 4) (st := fun _ => []) ?_ (0, 0) _ _ _ ⟨hP, hS, lv_sub hl [0, 1, 2, 3] rfl, (Nat.zero_le _), rfl⟩
  rintro ⟨i, b⟩ H locs ls ⟨hP, hS, hl, ht_4, hbt_4⟩ ih_4
  refine lv_iload_n hx hb dX8_many_4 rfl (lv_at hl 0 rfl) ?_
  refine lv_bipush (v := 8) hx hb dX8_many_5 (by decide) ?_
  refine lv_icmp_ge (tgt := 24) hx hb dX8_many_7 (by decide) (fun c_7 => ?_) (fun c_7 => ?_)
  · have c_7 := (nI_le_iff (a := 8) (b := i) (by omega) (by omega)).mp c_7
    have hN_4 : i = 8 := by omega
    rw [hN_4] at hbt_4
    subst hbt_4
    refine lv_iload_n hx hb dX8_many_24 rfl (lv_at hl 1 rfl) ?_
    refine f_ir X hlk hr (v := (lp_X8_many_4 M L bits 8)) rfl hP hS ?_ dX8_many_25
    unfold a_X8_many
    (try dsimp only)
    first
      | done
      | exact ⟨rfl, rfl⟩
      | rfl
      | (simp only [if_true, if_false, and_self, and_true, true_and, not_true_eq_false, not_false_eq_true, and_false, false_and, or_true, true_or, or_false, false_or, or_self, Bool.false_eq_true, reduceCtorEq, nl10, nl20, nl30, nl40, nl50, nl60, nl70, nl12, nl13, nl21, nl23, nl31, nl32]; first | done | exact ⟨rfl, rfl⟩ | rfl)
      | contradiction
      | (simp only [if_true, if_false, and_self, and_true, true_and, not_true_eq_false, not_false_eq_true, and_false, false_and, or_true, true_or, or_false, false_or, or_self, Bool.false_eq_true, reduceCtorEq, nl10, nl20, nl30, nl40, nl50, nl60, nl70, nl12, nl13, nl21, nl23, nl31, nl32]; contradiction)
      | (exfalso; simp_all; done)
      | simp_all
  · have c_7 := (not_congr (nI_le_iff (a := 8) (b := i) (by omega) (by omega))).mp c_7
    refine lv_iload_n hx hb dX8_many_10 rfl (lv_at hl 1 rfl) ?_
    refine lv_iload_n hx hb dX8_many_11 rfl (lv_at hl 3 rfl) ?_
    refine lv_iload_n hx hb dX8_many_12 rfl (lv_at hl 0 rfl) ?_
    refine lv_ishr hx hb dX8_many_13 ?_
    refine lv_iconst (v := 1) hx hb dX8_many_14 (by decide) ?_
    refine lv_iand hx hb dX8_many_15 ?_
    refine lv_iadd hx hb dX8_many_16 ?_
    refine lv_istore_n (lv' := [(2, .int (b + ((bits >>> ((nI i) &&& 31)) &&& 1))), (3, .int (nI i)), (0, .ref (fad E 86)), (1, .int bits)]) hx hb dX8_many_17 rfl hl (by decide) rfl (fun ls hl => ?_)
    refine lv_iinc (v := (nI (i + 1))) (lv' := [(3, .int (nI (i + 1))), (2, .int (b + ((bits >>> ((nI i) &&& 31)) &&& 1))), (0, .ref (fad E 86)), (1, .int bits)]) hx hb dX8_many_18 hl (k := 1) rfl (nI_1 _) (by decide) rfl (fun ls hl => ?_)
    refine lv_goto (tgt := 4) hx hb dX8_many_21 (by decide) ?_
    exact ih_4 ((i + 1), (b + ((bits >>> ((nI i) &&& 31)) &&& 1))) _ _ _ (by show 8 - (i + 1) < 8 - i; omega) ⟨hP, hS, lv_sub hl [0, 1, 2, 3] rfl, (by omega), (by
      rw [lp_X8_many_4_s, ← hbt_4]
      (try dsimp only)
      first | done | rfl)⟩

def lp_X8_worthOf_4 (M : Nat → Nat → Int32) (L : Nat → Nat → Int64) (bits : Int32) (tc : Nat) : Nat → Int32 := itF (fun i s9 => (if ((bits >>> ((nI i) &&& 31)) &&& 1) = 1 then (s9 + (M 97 i)) else s9)) 0
theorem lp_X8_worthOf_4_s (M : Nat → Nat → Int32) (L : Nat → Nat → Int64) (bits : Int32) (tc : Nat) (i : Nat) : (lp_X8_worthOf_4 M L bits tc (i + 1)) = (if ((bits >>> ((nI i) &&& 31)) &&& 1) = 1 then (((lp_X8_worthOf_4 M L bits tc i)) + (M 97 i)) else ((lp_X8_worthOf_4 M L bits tc i))) := rfl
def a_X8_worthOf (M : Nat → Nat → Int32) (L : Nat → Nat → Int64) (bits : Int32) (tc : Nat) : Int32 := (lp_X8_worthOf_4 M L bits tc tc)
set_option maxHeartbeats 1000000 in
set_option maxRecDepth 100000 in
theorem c_X8_worthOf (l : Launch) (E : fE) (M : Nat → Nat → Int32) (L : Nat → Nat → Int64) (bits : Int32) (tc : Nat) (htc : M 86 1 = nI tc) (htc8 : tc ≤ 8) : Met l yX8_worthOf (wl yX8_worthOf cX8_worthOf 4 (some .int)) (fRm 0 0) (va_Pc [.ref (fad E 86), .int bits] (fPre E M L)) (fQi E (fun r u => u = (M, L) ∧ r = (a_X8_worthOf M L bits tc))) 0 0 (fA E) := by
  refine f_head (by decide) (Nat.le_of_ble_eq_true rfl) ?_
  intro pg ev s mi below meth cd ls X hr hlk hP hS hl
  have hx := X.1.1
  have hb := X.1.2.1
  have hl : lv_has ls 4 [(0, .ref (fad E 86)), (1, .int bits)] := hl
  refine lv_iconst (v := 0) hx hb dX8_worthOf_0 (by decide) ?_
  refine lv_istore_n (lv' := [(2, .int 0), (0, .ref (fad E 86)), (1, .int bits)]) hx hb dX8_worthOf_1 rfl hl (by decide) rfl (fun ls hl => ?_)
  refine lv_iconst (v := 0) hx hb dX8_worthOf_2 (by decide) ?_
  refine lv_istore_n (lv' := [(3, .int 0), (2, .int 0), (0, .ref (fad E 86)), (1, .int bits)]) hx hb dX8_worthOf_3 rfl hl (by decide) rfl (fun ls hl => ?_)
  refine f_loop (α := Nat × Int32) (fun (a : Nat × Int32) H locs ls => match a with | (i, b) => fP E M L H ∧ va_S (fA E) s.heap H locs ∧ lv_has ls 4 [(3, .int (nI i)), (2, .int b), (0, .ref (fad E 86)), (1, .int bits)] ∧ (i ≤ tc) ∧ (b = (lp_X8_worthOf_4 M L bits tc i))) (fun (a : Nat × Int32) => match a with | (i, b) => tc - i) (pc0 := 4) (st := fun _ => []) ?_ (0, 0) _ _ _ ⟨hP, hS, lv_sub hl [0, 1, 2, 3] rfl, (Nat.zero_le _), rfl⟩
  rintro ⟨i, b⟩ H locs ls ⟨hP, hS, hl, ht_4, hbt_4⟩ ih_4
  refine lv_iload_n hx hb dX8_worthOf_4 rfl (lv_at hl 0 rfl) ?_
  refine lv_aload_n hx hb dX8_worthOf_5 rfl (lv_at hl 2 rfl) ?_
  refine f_get X hP (T := TX8) (ci := 8) (k := 86) rfl inX8 rfl 1 (by decide) m_4_175 rfl (v := .int (nI tc)) (congrArg Value.int htc) dX8_worthOf_6 ?_
  refine lv_icmp_ge (tgt := 36) hx hb dX8_worthOf_9 (by decide) (fun c_9 => ?_) (fun c_9 => ?_)
  · have c_9 := (nI_le_iff (a := tc) (b := i) (by omega) (by omega)).mp c_9
    have hN_4 : i = tc := by omega
    rw [hN_4] at hbt_4
    subst hbt_4
    refine lv_iload_n hx hb dX8_worthOf_36 rfl (lv_at hl 1 rfl) ?_
    refine f_ir X hlk hr (v := (lp_X8_worthOf_4 M L bits tc tc)) rfl hP hS ?_ dX8_worthOf_37
    unfold a_X8_worthOf
    (try dsimp only)
    first
      | done
      | exact ⟨rfl, rfl⟩
      | rfl
      | (simp only [if_true, if_false, and_self, and_true, true_and, not_true_eq_false, not_false_eq_true, and_false, false_and, or_true, true_or, or_false, false_or, or_self, Bool.false_eq_true, reduceCtorEq, nl10, nl20, nl30, nl40, nl50, nl60, nl70, nl12, nl13, nl21, nl23, nl31, nl32]; first | done | exact ⟨rfl, rfl⟩ | rfl)
      | contradiction
      | (simp only [if_true, if_false, and_self, and_true, true_and, not_true_eq_false, not_false_eq_true, and_false, false_and, or_true, true_or, or_false, false_or, or_self, Bool.false_eq_true, reduceCtorEq, nl10, nl20, nl30, nl40, nl50, nl60, nl70, nl12, nl13, nl21, nl23, nl31, nl32]; contradiction)
      | (exfalso; simp_all; done)
      | simp_all
  · have c_9 := (not_congr (nI_le_iff (a := tc) (b := i) (by omega) (by omega))).mp c_9
    refine lv_iload_n hx hb dX8_worthOf_12 rfl (lv_at hl 3 rfl) ?_
    refine lv_iload_n hx hb dX8_worthOf_13 rfl (lv_at hl 0 rfl) ?_
    refine lv_ishr hx hb dX8_worthOf_14 ?_
    refine lv_iconst (v := 1) hx hb dX8_worthOf_15 (by decide) ?_
    refine lv_iand hx hb dX8_worthOf_16 ?_
    refine lv_iconst (v := 1) hx hb dX8_worthOf_17 (by decide) ?_
    refine lv_icmp_ne (tgt := 30) hx hb dX8_worthOf_18 (by decide) (fun c_18 => ?_) (fun c_18 => ?_)
    · refine lv_iinc (v := (nI (i + 1))) (lv' := [(3, .int (nI (i + 1))), (2, .int b), (0, .ref (fad E 86)), (1, .int bits)]) hx hb dX8_worthOf_30 hl (k := 0) rfl (nI_1 _) (by decide) rfl (fun ls hl => ?_)
      refine lv_goto (tgt := 4) hx hb dX8_worthOf_33 (by decide) ?_
      exact ih_4 ((i + 1), b) _ _ _ (by show tc - (i + 1) < tc - i; omega) ⟨hP, hS, lv_sub hl [0, 1, 2, 3] rfl, (by omega), (by
        rw [lp_X8_worthOf_4_s, ← hbt_4]
        (try dsimp only)
        (first | rw [if_pos c_18] | rw [if_neg c_18] | rw [if_neg (Bool.eq_false_iff.mp c_18)] | skip)
        first | done | rfl)⟩
    · refine lv_iload_n hx hb dX8_worthOf_21 rfl (lv_at hl 1 rfl) ?_
      refine lv_aload_n hx hb dX8_worthOf_22 rfl (lv_at hl 2 rfl) ?_
      refine f_get X hP (T := TX8) (ci := 8) (k := 86) rfl inX8 rfl 18 (by decide) m_4_192 rfl (v := .ref (fad E 97)) rfl dX8_worthOf_23 ?_
      refine lv_iload_n hx hb dX8_worthOf_26 rfl (lv_at hl 0 rfl) ?_
      refine f_iald X hP (k := 97) (n := 8) (q := i) rfl rfl (fIx_nI (by omega) (by decide)) dX8_worthOf_27 ?_
      refine lv_iadd hx hb dX8_worthOf_28 ?_
      refine lv_istore_n (lv' := [(2, .int (b + (M 97 i))), (3, .int (nI i)), (0, .ref (fad E 86)), (1, .int bits)]) hx hb dX8_worthOf_29 rfl hl (by decide) rfl (fun ls hl => ?_)
      refine lv_iinc (v := (nI (i + 1))) (lv' := [(3, .int (nI (i + 1))), (2, .int (b + (M 97 i))), (0, .ref (fad E 86)), (1, .int bits)]) hx hb dX8_worthOf_30 hl (k := 1) rfl (nI_1 _) (by decide) rfl (fun ls hl => ?_)
      refine lv_goto (tgt := 4) hx hb dX8_worthOf_33 (by decide) ?_
      exact ih_4 ((i + 1), (b + (M 97 i))) _ _ _ (by show tc - (i + 1) < tc - i; omega) ⟨hP, hS, lv_sub hl [0, 1, 2, 3] rfl, (by omega), (by
        rw [lp_X8_worthOf_4_s, ← hbt_4]
        (try dsimp only)
        (first | rw [if_pos c_18] | rw [if_neg c_18] | rw [if_neg (Bool.eq_false_iff.mp c_18)] | skip)
        first | done | rfl)⟩

def lp_X8_seenFrom_5 (M : Nat → Nat → Int32) (L : Nat → Nat → Int64) (w : Int32) (c1 : Int32) (tc : Nat) (w0 : Nat) : Nat → Int32 := itF (fun i s9 => (if (M 93 i) ≤ c1 then (if (a_X8_sees M L w w0) < (c1 - (M 93 i)) then s9 else (s9 + (1 <<< ((nI i) &&& 31)))) else (if (a_X8_sees M L w w0) < ((M 93 i) - c1) then s9 else (s9 + (1 <<< ((nI i) &&& 31)))))) 0
theorem lp_X8_seenFrom_5_s (M : Nat → Nat → Int32) (L : Nat → Nat → Int64) (w : Int32) (c1 : Int32) (tc : Nat) (w0 : Nat) (i : Nat) : (lp_X8_seenFrom_5 M L w c1 tc w0 (i + 1)) = (if (M 93 i) ≤ c1 then (if (a_X8_sees M L w w0) < (c1 - (M 93 i)) then ((lp_X8_seenFrom_5 M L w c1 tc w0 i)) else (((lp_X8_seenFrom_5 M L w c1 tc w0 i)) + (1 <<< ((nI i) &&& 31)))) else (if (a_X8_sees M L w w0) < ((M 93 i) - c1) then ((lp_X8_seenFrom_5 M L w c1 tc w0 i)) else (((lp_X8_seenFrom_5 M L w c1 tc w0 i)) + (1 <<< ((nI i) &&& 31))))) := rfl
def a_X8_seenFrom (M : Nat → Nat → Int32) (L : Nat → Nat → Int64) (w : Int32) (c1 : Int32) (tc : Nat) (w0 : Nat) : Int32 := (lp_X8_seenFrom_5 M L w c1 tc w0 tc)
set_option maxHeartbeats 1000000 in
set_option maxRecDepth 100000 in
theorem c_X8_seenFrom (l : Launch) (E : fE) (M : Nat → Nat → Int32) (L : Nat → Nat → Int64) (w : Int32) (c1 : Int32) (tc w0 : Nat) (htc : M 86 1 = nI tc) (htc8 : tc ≤ 8) (hw : fIx w 6 w0) : Met l yX8_seenFrom (wl yX8_seenFrom cX8_seenFrom 6 (some .int)) (fRm 1 21) (va_Pc [.ref (fad E 86), .int w, .int c1] (fPre E M L)) (fQi E (fun r u => u = (M, L) ∧ r = (a_X8_seenFrom M L w c1 tc w0))) 0 0 (fA E) := by
  refine f_head (by decide) (Nat.le_of_ble_eq_true rfl) ?_
  intro pg ev s mi below meth cd ls X hr hlk hP hS hl
  have hx := X.1.1
  have hb := X.1.2.1
  have hl : lv_has ls 6 [(0, .ref (fad E 86)), (1, .int w), (2, .int c1)] := hl
  refine lv_iconst (v := 0) hx hb dX8_seenFrom_0 (by decide) ?_
  refine lv_istore_n (lv' := [(3, .int 0), (0, .ref (fad E 86)), (1, .int w), (2, .int c1)]) hx hb dX8_seenFrom_1 rfl hl (by decide) rfl (fun ls hl => ?_)
  refine lv_iconst (v := 0) hx hb dX8_seenFrom_2 (by decide) ?_
  refine lv_istore (lv' := [(4, .int 0), (3, .int 0), (0, .ref (fad E 86)), (1, .int w), (2, .int c1)]) hx hb dX8_seenFrom_3 hl (by decide) rfl (fun ls hl => ?_)
  refine f_loop (α := Nat × Int32) (fun (a : Nat × Int32) H locs ls => match a with | (i, b) => fP E M L H ∧ va_S (fA E) s.heap H locs ∧ lv_has ls 6 [(4, .int (nI i)), (3, .int b), (0, .ref (fad E 86)), (1, .int w), (2, .int c1)] ∧ (i ≤ tc) ∧ (b = (lp_X8_seenFrom_5 M L w c1 tc w0 i))) (fun (a : Nat × Int32) => match a with | (i, b) => tc - i) (pc0 := 5) (st := fun _ => []) ?_ (0, 0) _ _ _ ⟨hP, hS, lv_sub hl [0, 1, 2, 3, 4] rfl, (Nat.zero_le _), rfl⟩
  rintro ⟨i, b⟩ H locs ls ⟨hP, hS, hl, ht_5, hbt_5⟩ ih_5
  refine lv_iload hx hb dX8_seenFrom_5 (lv_at hl 0 rfl) ?_
  refine lv_aload_n hx hb dX8_seenFrom_7 rfl (lv_at hl 2 rfl) ?_
  refine f_get X hP (T := TX8) (ci := 8) (k := 86) rfl inX8 rfl 1 (by decide) m_4_175 rfl (v := .int (nI tc)) (congrArg Value.int htc) dX8_seenFrom_8 ?_
  refine lv_icmp_ge (tgt := 71) hx hb dX8_seenFrom_11 (by decide) (fun c_11 => ?_) (fun c_11 => ?_)
  · have c_11 := (nI_le_iff (a := tc) (b := i) (by omega) (by omega)).mp c_11
    have hN_5 : i = tc := by omega
    rw [hN_5] at hbt_5
    subst hbt_5
    refine lv_iload_n hx hb dX8_seenFrom_71 rfl (lv_at hl 1 rfl) ?_
    refine f_ir X hlk hr (v := (lp_X8_seenFrom_5 M L w c1 tc w0 tc)) rfl hP hS ?_ dX8_seenFrom_72
    unfold a_X8_seenFrom
    (try dsimp only)
    first
      | done
      | exact ⟨rfl, rfl⟩
      | rfl
      | (simp only [if_true, if_false, and_self, and_true, true_and, not_true_eq_false, not_false_eq_true, and_false, false_and, or_true, true_or, or_false, false_or, or_self, Bool.false_eq_true, reduceCtorEq, nl10, nl20, nl30, nl40, nl50, nl60, nl70, nl12, nl13, nl21, nl23, nl31, nl32]; first | done | exact ⟨rfl, rfl⟩ | rfl)
      | contradiction
      | (simp only [if_true, if_false, and_self, and_true, true_and, not_true_eq_false, not_false_eq_true, and_false, false_and, or_true, true_or, or_false, false_or, or_self, Bool.false_eq_true, reduceCtorEq, nl10, nl20, nl30, nl40, nl50, nl60, nl70, nl12, nl13, nl21, nl23, nl31, nl32]; contradiction)
      | (exfalso; simp_all; done)
      | simp_all
  · have c_11 := (not_congr (nI_le_iff (a := tc) (b := i) (by omega) (by omega))).mp c_11
    refine lv_aload_n hx hb dX8_seenFrom_14 rfl (lv_at hl 2 rfl) ?_
    refine f_get X hP (T := TX8) (ci := 8) (k := 86) rfl inX8 rfl 14 (by decide) m_4_188 rfl (v := .ref (fad E 93)) rfl dX8_seenFrom_15 ?_
    refine lv_iload hx hb dX8_seenFrom_18 (lv_at hl 0 rfl) ?_
    refine f_iald X hP (k := 93) (n := 8) (q := i) rfl rfl (fIx_nI (by omega) (by decide)) dX8_seenFrom_20 ?_
    refine lv_iload_n hx hb dX8_seenFrom_21 rfl (lv_at hl 4 rfl) ?_
    refine lv_icmp_le (tgt := 37) hx hb dX8_seenFrom_22 (by decide) (fun c_22 => ?_) (fun c_22 => ?_)
    · refine lv_iload_n hx hb dX8_seenFrom_37 rfl (lv_at hl 4 rfl) ?_
      refine lv_aload_n hx hb dX8_seenFrom_38 rfl (lv_at hl 2 rfl) ?_
      refine f_get X hP (T := TX8) (ci := 8) (k := 86) rfl inX8 rfl 14 (by decide) m_4_188 rfl (v := .ref (fad E 93)) rfl dX8_seenFrom_39 ?_
      refine lv_iload hx hb dX8_seenFrom_42 (lv_at hl 0 rfl) ?_
      refine f_iald X hP (k := 93) (n := 8) (q := i) rfl rfl (fIx_nI (by omega) (by decide)) dX8_seenFrom_44 ?_
      refine lv_isub hx hb dX8_seenFrom_45 ?_
      refine lv_istore (lv' := [(5, .int (c1 - (M 93 i))), (4, .int (nI i)), (3, .int b), (0, .ref (fad E 86)), (1, .int w), (2, .int c1)]) hx hb dX8_seenFrom_46 hl (by decide) rfl (fun ls hl => ?_)
      refine lv_iload hx hb dX8_seenFrom_48 (lv_at hl 0 rfl) ?_
      refine lv_aload_n hx hb dX8_seenFrom_50 rfl (lv_at hl 3 rfl) ?_
      refine lv_iload_n hx hb dX8_seenFrom_51 rfl (lv_at hl 4 rfl) ?_
      refine f_iV (n := 1) X hP hS [.int w] [.int (c1 - (M 93 i))] (c_X8_sees l E M L w w0 hw) m_5_164 wi_X8_sees rfl rfl (by decide) (by decide +kernel) ⟨Nat.le_of_ble_eq_true rfl, Nat.le_of_ble_eq_true rfl⟩ rfl hl rfl (Nat.le_of_ble_eq_true rfl) ⟨Nat.zero_le _, Nat.zero_le _⟩ dX8_seenFrom_52 (fun H locs hP hS => ?_)
      refine lv_icmp_gt (tgt := 65) hx hb dX8_seenFrom_55 (by decide) (fun c_55 => ?_) (fun c_55 => ?_)
      · refine lv_iinc (v := (nI (i + 1))) (lv' := [(4, .int (nI (i + 1))), (5, .int (c1 - (M 93 i))), (3, .int b), (0, .ref (fad E 86)), (1, .int w), (2, .int c1)]) hx hb dX8_seenFrom_65 hl (k := 1) rfl (nI_1 _) (by decide) rfl (fun ls hl => ?_)
        refine lv_goto (tgt := 5) hx hb dX8_seenFrom_68 (by decide) ?_
        exact ih_5 ((i + 1), b) _ _ _ (by show tc - (i + 1) < tc - i; omega) ⟨hP, hS, lv_sub hl [0, 2, 3, 4, 5] rfl, (by omega), (by
          rw [lp_X8_seenFrom_5_s, ← hbt_5]
          (try dsimp only)
          (first | rw [if_pos c_22] | rw [if_neg c_22] | rw [if_neg (Bool.eq_false_iff.mp c_22)] | skip)
          (first | rw [if_pos c_55] | rw [if_neg c_55] | rw [if_neg (Bool.eq_false_iff.mp c_55)] | skip)
          first | done | rfl)⟩
      · refine lv_iload_n hx hb dX8_seenFrom_58 rfl (lv_at hl 2 rfl) ?_
        refine lv_iconst (v := 1) hx hb dX8_seenFrom_59 (by decide) ?_
        refine lv_iload hx hb dX8_seenFrom_60 (lv_at hl 1 rfl) ?_
        refine lv_ishl hx hb dX8_seenFrom_62 ?_
        refine lv_iadd hx hb dX8_seenFrom_63 ?_
        refine lv_istore_n (lv' := [(3, .int (b + (1 <<< ((nI i) &&& 31)))), (5, .int (c1 - (M 93 i))), (4, .int (nI i)), (0, .ref (fad E 86)), (1, .int w), (2, .int c1)]) hx hb dX8_seenFrom_64 rfl hl (by decide) rfl (fun ls hl => ?_)
        refine lv_iinc (v := (nI (i + 1))) (lv' := [(4, .int (nI (i + 1))), (3, .int (b + (1 <<< ((nI i) &&& 31)))), (5, .int (c1 - (M 93 i))), (0, .ref (fad E 86)), (1, .int w), (2, .int c1)]) hx hb dX8_seenFrom_65 hl (k := 2) rfl (nI_1 _) (by decide) rfl (fun ls hl => ?_)
        refine lv_goto (tgt := 5) hx hb dX8_seenFrom_68 (by decide) ?_
        exact ih_5 ((i + 1), (b + (1 <<< ((nI i) &&& 31)))) _ _ _ (by show tc - (i + 1) < tc - i; omega) ⟨hP, hS, lv_sub hl [0, 1, 3, 4, 5] rfl, (by omega), (by
          rw [lp_X8_seenFrom_5_s, ← hbt_5]
          (try dsimp only)
          (first | rw [if_pos c_22] | rw [if_neg c_22] | rw [if_neg (Bool.eq_false_iff.mp c_22)] | skip)
          (first | rw [if_pos c_55] | rw [if_neg c_55] | rw [if_neg (Bool.eq_false_iff.mp c_55)] | skip)
          first | done | rfl)⟩
    · refine lv_aload_n hx hb dX8_seenFrom_25 rfl (lv_at hl 2 rfl) ?_
      refine f_get X hP (T := TX8) (ci := 8) (k := 86) rfl inX8 rfl 14 (by decide) m_4_188 rfl (v := .ref (fad E 93)) rfl dX8_seenFrom_26 ?_
      refine lv_iload hx hb dX8_seenFrom_29 (lv_at hl 0 rfl) ?_
      refine f_iald X hP (k := 93) (n := 8) (q := i) rfl rfl (fIx_nI (by omega) (by decide)) dX8_seenFrom_31 ?_
      refine lv_iload_n hx hb dX8_seenFrom_32 rfl (lv_at hl 4 rfl) ?_
      refine lv_isub hx hb dX8_seenFrom_33 ?_
      refine lv_goto (tgt := 46) hx hb dX8_seenFrom_34 (by decide) ?_
      refine lv_istore (lv' := [(5, .int ((M 93 i) - c1)), (4, .int (nI i)), (3, .int b), (0, .ref (fad E 86)), (1, .int w), (2, .int c1)]) hx hb dX8_seenFrom_46 hl (by decide) rfl (fun ls hl => ?_)
      refine lv_iload hx hb dX8_seenFrom_48 (lv_at hl 0 rfl) ?_
      refine lv_aload_n hx hb dX8_seenFrom_50 rfl (lv_at hl 3 rfl) ?_
      refine lv_iload_n hx hb dX8_seenFrom_51 rfl (lv_at hl 4 rfl) ?_
      refine f_iV (n := 1) X hP hS [.int w] [.int ((M 93 i) - c1)] (c_X8_sees l E M L w w0 hw) m_5_164 wi_X8_sees rfl rfl (by decide) (by decide +kernel) ⟨Nat.le_of_ble_eq_true rfl, Nat.le_of_ble_eq_true rfl⟩ rfl hl rfl (Nat.le_of_ble_eq_true rfl) ⟨Nat.zero_le _, Nat.zero_le _⟩ dX8_seenFrom_52 (fun H locs hP hS => ?_)
      refine lv_icmp_gt (tgt := 65) hx hb dX8_seenFrom_55 (by decide) (fun c_55 => ?_) (fun c_55 => ?_)
      · refine lv_iinc (v := (nI (i + 1))) (lv' := [(4, .int (nI (i + 1))), (5, .int ((M 93 i) - c1)), (3, .int b), (0, .ref (fad E 86)), (1, .int w), (2, .int c1)]) hx hb dX8_seenFrom_65 hl (k := 1) rfl (nI_1 _) (by decide) rfl (fun ls hl => ?_)
        refine lv_goto (tgt := 5) hx hb dX8_seenFrom_68 (by decide) ?_
        exact ih_5 ((i + 1), b) _ _ _ (by show tc - (i + 1) < tc - i; omega) ⟨hP, hS, lv_sub hl [0, 2, 3, 4, 5] rfl, (by omega), (by
          rw [lp_X8_seenFrom_5_s, ← hbt_5]
          (try dsimp only)
          (first | rw [if_pos c_22] | rw [if_neg c_22] | rw [if_neg (Bool.eq_false_iff.mp c_22)] | skip)
          (first | rw [if_pos c_55] | rw [if_neg c_55] | rw [if_neg (Bool.eq_false_iff.mp c_55)] | skip)
          first | done | rfl)⟩
      · refine lv_iload_n hx hb dX8_seenFrom_58 rfl (lv_at hl 2 rfl) ?_
        refine lv_iconst (v := 1) hx hb dX8_seenFrom_59 (by decide) ?_
        refine lv_iload hx hb dX8_seenFrom_60 (lv_at hl 1 rfl) ?_
        refine lv_ishl hx hb dX8_seenFrom_62 ?_
        refine lv_iadd hx hb dX8_seenFrom_63 ?_
        refine lv_istore_n (lv' := [(3, .int (b + (1 <<< ((nI i) &&& 31)))), (5, .int ((M 93 i) - c1)), (4, .int (nI i)), (0, .ref (fad E 86)), (1, .int w), (2, .int c1)]) hx hb dX8_seenFrom_64 rfl hl (by decide) rfl (fun ls hl => ?_)
        refine lv_iinc (v := (nI (i + 1))) (lv' := [(4, .int (nI (i + 1))), (3, .int (b + (1 <<< ((nI i) &&& 31)))), (5, .int ((M 93 i) - c1)), (0, .ref (fad E 86)), (1, .int w), (2, .int c1)]) hx hb dX8_seenFrom_65 hl (k := 2) rfl (nI_1 _) (by decide) rfl (fun ls hl => ?_)
        refine lv_goto (tgt := 5) hx hb dX8_seenFrom_68 (by decide) ?_
        exact ih_5 ((i + 1), (b + (1 <<< ((nI i) &&& 31)))) _ _ _ (by show tc - (i + 1) < tc - i; omega) ⟨hP, hS, lv_sub hl [0, 1, 3, 4, 5] rfl, (by omega), (by
          rw [lp_X8_seenFrom_5_s, ← hbt_5]
          (try dsimp only)
          (first | rw [if_pos c_22] | rw [if_neg c_22] | rw [if_neg (Bool.eq_false_iff.mp c_22)] | skip)
          (first | rw [if_pos c_55] | rw [if_neg c_55] | rw [if_neg (Bool.eq_false_iff.mp c_55)] | skip)
          first | done | rfl)⟩

def lp_X8_awaited_4 (M : Nat → Nat → Int32) (L : Nat → Nat → Int64) (q1 : Int32) (tc : Nat) : Nat → Int32 := itF (fun i s9 => (if ((M 94 i) ≤ q1 ∧ q1 ≤ (M 95 i)) then (s9 + 1) else s9)) 0
theorem lp_X8_awaited_4_s (M : Nat → Nat → Int32) (L : Nat → Nat → Int64) (q1 : Int32) (tc : Nat) (i : Nat) : (lp_X8_awaited_4 M L q1 tc (i + 1)) = (if ((M 94 i) ≤ q1 ∧ q1 ≤ (M 95 i)) then (((lp_X8_awaited_4 M L q1 tc i)) + 1) else ((lp_X8_awaited_4 M L q1 tc i))) := rfl
def a_X8_awaited (M : Nat → Nat → Int32) (L : Nat → Nat → Int64) (q1 : Int32) (tc : Nat) : Int32 := (lp_X8_awaited_4 M L q1 tc tc)
set_option maxHeartbeats 1000000 in
set_option maxRecDepth 100000 in
theorem c_X8_awaited (l : Launch) (E : fE) (M : Nat → Nat → Int32) (L : Nat → Nat → Int64) (q1 : Int32) (tc : Nat) (htc : M 86 1 = nI tc) (htc8 : tc ≤ 8) : Met l yX8_awaited (wl yX8_awaited cX8_awaited 4 (some .int)) (fRm 1 22) (va_Pc [.ref (fad E 86), .int q1] (fPre E M L)) (fQi E (fun r u => u = (M, L) ∧ r = (a_X8_awaited M L q1 tc))) 0 0 (fA E) := by
  refine f_head (by decide) (Nat.le_of_ble_eq_true rfl) ?_
  intro pg ev s mi below meth cd ls X hr hlk hP hS hl
  have hx := X.1.1
  have hb := X.1.2.1
  have hl : lv_has ls 4 [(0, .ref (fad E 86)), (1, .int q1)] := hl
  refine lv_iconst (v := 0) hx hb dX8_awaited_0 (by decide) ?_
  refine lv_istore_n (lv' := [(2, .int 0), (0, .ref (fad E 86)), (1, .int q1)]) hx hb dX8_awaited_1 rfl hl (by decide) rfl (fun ls hl => ?_)
  refine lv_iconst (v := 0) hx hb dX8_awaited_2 (by decide) ?_
  refine lv_istore_n (lv' := [(3, .int 0), (2, .int 0), (0, .ref (fad E 86)), (1, .int q1)]) hx hb dX8_awaited_3 rfl hl (by decide) rfl (fun ls hl => ?_)
  refine f_loop (α := Nat × Int32) (fun (a : Nat × Int32) H locs ls => match a with | (i, b) => fP E M L H ∧ va_S (fA E) s.heap H locs ∧ lv_has ls 4 [(3, .int (nI i)), (2, .int b), (0, .ref (fad E 86)), (1, .int q1)] ∧ (i ≤ tc) ∧ (b = (lp_X8_awaited_4 M L q1 tc i))) (fun (a : Nat × Int32) => match a with | (i, b) => tc - i) (pc0 := 4) (st := fun _ => []) ?_ (0, 0) _ _ _ ⟨hP, hS, lv_sub hl [0, 1, 2, 3] rfl, (Nat.zero_le _), rfl⟩
  rintro ⟨i, b⟩ H locs ls ⟨hP, hS, hl, ht_4, hbt_4⟩ ih_4
  refine lv_iload_n hx hb dX8_awaited_4 rfl (lv_at hl 0 rfl) ?_
  refine lv_aload_n hx hb dX8_awaited_5 rfl (lv_at hl 2 rfl) ?_
  refine f_get X hP (T := TX8) (ci := 8) (k := 86) rfl inX8 rfl 1 (by decide) m_4_175 rfl (v := .int (nI tc)) (congrArg Value.int htc) dX8_awaited_6 ?_
  refine lv_icmp_ge (tgt := 30) hx hb dX8_awaited_9 (by decide) (fun c_9 => ?_) (fun c_9 => ?_)
  · have c_9 := (nI_le_iff (a := tc) (b := i) (by omega) (by omega)).mp c_9
    have hN_4 : i = tc := by omega
    rw [hN_4] at hbt_4
    subst hbt_4
    refine lv_iload_n hx hb dX8_awaited_30 rfl (lv_at hl 1 rfl) ?_
    refine f_ir X hlk hr (v := (lp_X8_awaited_4 M L q1 tc tc)) rfl hP hS ?_ dX8_awaited_31
    unfold a_X8_awaited
    (try dsimp only)
    first
      | done
      | exact ⟨rfl, rfl⟩
      | rfl
      | (simp only [if_true, if_false, and_self, and_true, true_and, not_true_eq_false, not_false_eq_true, and_false, false_and, or_true, true_or, or_false, false_or, or_self, Bool.false_eq_true, reduceCtorEq, nl10, nl20, nl30, nl40, nl50, nl60, nl70, nl12, nl13, nl21, nl23, nl31, nl32]; first | done | exact ⟨rfl, rfl⟩ | rfl)
      | contradiction
      | (simp only [if_true, if_false, and_self, and_true, true_and, not_true_eq_false, not_false_eq_true, and_false, false_and, or_true, true_or, or_false, false_or, or_self, Bool.false_eq_true, reduceCtorEq, nl10, nl20, nl30, nl40, nl50, nl60, nl70, nl12, nl13, nl21, nl23, nl31, nl32]; contradiction)
      | (exfalso; simp_all; done)
      | simp_all
  · have c_9 := (not_congr (nI_le_iff (a := tc) (b := i) (by omega) (by omega))).mp c_9
    refine lv_aload_n hx hb dX8_awaited_12 rfl (lv_at hl 2 rfl) ?_
    refine lv_iload_n hx hb dX8_awaited_13 rfl (lv_at hl 0 rfl) ?_
    refine lv_iload_n hx hb dX8_awaited_14 rfl (lv_at hl 3 rfl) ?_
    refine f_iV (n := 2) X hP hS [.int (nI i), .int q1] [] (c_X8_mayCome l E M L (nI i) q1 i (fIx_nI (by omega) (by decide))) m_6_60 wi_X8_mayCome rfl rfl (by decide) (by decide +kernel) ⟨Nat.le_of_ble_eq_true rfl, Nat.le_of_ble_eq_true rfl⟩ rfl hl rfl (Nat.le_of_ble_eq_true rfl) ⟨Nat.zero_le _, Nat.zero_le _⟩ dX8_awaited_15 (fun H locs hP hS => ?_)
    refine lv_if_eq (tgt := 24) hx hb dX8_awaited_18 (by decide) (fun c_18 => ?_) (fun c_18 => ?_)
    · have c_18 := bI0 c_18
      refine lv_iinc (v := (nI (i + 1))) (lv' := [(3, .int (nI (i + 1))), (2, .int b), (0, .ref (fad E 86)), (1, .int q1)]) hx hb dX8_awaited_24 hl (k := 0) rfl (nI_1 _) (by decide) rfl (fun ls hl => ?_)
      refine lv_goto (tgt := 4) hx hb dX8_awaited_27 (by decide) ?_
      exact ih_4 ((i + 1), b) _ _ _ (by show tc - (i + 1) < tc - i; omega) ⟨hP, hS, lv_sub hl [0, 1, 2, 3] rfl, (by omega), (by
        rw [lp_X8_awaited_4_s, ← hbt_4]
        (try dsimp only)
        (first | rw [if_pos c_18] | rw [if_neg c_18] | rw [if_neg (Bool.eq_false_iff.mp c_18)] | skip)
        first | done | rfl)⟩
    · have c_18 := bI1 c_18
      refine lv_iinc (v := (b + 1)) (lv' := [(2, .int (b + 1)), (3, .int (nI i)), (0, .ref (fad E 86)), (1, .int q1)]) hx hb dX8_awaited_21 hl (k := 1) rfl rfl (by decide) rfl (fun ls hl => ?_)
      refine lv_iinc (v := (nI (i + 1))) (lv' := [(3, .int (nI (i + 1))), (2, .int (b + 1)), (0, .ref (fad E 86)), (1, .int q1)]) hx hb dX8_awaited_24 hl (k := 1) rfl (nI_1 _) (by decide) rfl (fun ls hl => ?_)
      refine lv_goto (tgt := 4) hx hb dX8_awaited_27 (by decide) ?_
      exact ih_4 ((i + 1), (b + 1)) _ _ _ (by show tc - (i + 1) < tc - i; omega) ⟨hP, hS, lv_sub hl [0, 1, 2, 3] rfl, (by omega), (by
        rw [lp_X8_awaited_4_s, ← hbt_4]
        (try dsimp only)
        (first | rw [if_pos c_18] | rw [if_neg c_18] | rw [if_neg (Bool.eq_false_iff.mp c_18)] | skip)
        first | done | rfl)⟩

def lp_X8_await_33 (M : Nat → Nat → Int32) (L : Nat → Nat → Int64) (q1 : Int32) (tc : Nat) : Nat → Int32 := itF (fun i s9 => (if (a_X8_awaited M L (nI (i + 1)) tc) ≤ (a_X8_awaited M L s9 tc) then s9 else (nI (i + 1)))) 0
theorem lp_X8_await_33_s (M : Nat → Nat → Int32) (L : Nat → Nat → Int64) (q1 : Int32) (tc : Nat) (i : Nat) : (lp_X8_await_33 M L q1 tc (i + 1)) = (if (a_X8_awaited M L (nI (i + 1)) tc) ≤ (a_X8_awaited M L ((lp_X8_await_33 M L q1 tc i)) tc) then ((lp_X8_await_33 M L q1 tc i)) else (nI (i + 1))) := rfl
def a_X8_await (M : Nat → Nat → Int32) (L : Nat → Nat → Int64) (q1 : Int32) (tc : Nat) : fR := (if ((-1) ≤ q1 ∧ q1 ≤ 23) then (if q1 = (-1) then ((lp_X8_await_33 M L q1 tc 23), M, L) else ((a_X8_awaited M L q1 tc), M, L)) else ((-6), (noM M (-6)), L))
set_option maxHeartbeats 1000000 in
set_option maxRecDepth 100000 in
theorem c_X8_await (l : Launch) (E : fE) (M : Nat → Nat → Int32) (L : Nat → Nat → Int64) (q1 : Int32) (tc : Nat) (htc : M 86 1 = nI tc) (htc8 : tc ≤ 8) : Met l yX8_await (wl yX8_await cX8_await 4 (some .int)) (fRm 2 45) (va_Pc [.ref (fad E 86), .int q1] (fPre E M L)) (fQi E (fun r u => u = ((a_X8_await M L q1 tc).2.1, L) ∧ r = (a_X8_await M L q1 tc).1)) 0 0 (fA E) := by
  refine f_head (by decide) (Nat.le_of_ble_eq_true rfl) ?_
  intro pg ev s mi below meth cd ls X hr hlk hP hS hl
  have hx := X.1.1
  have hb := X.1.2.1
  have hl : lv_has ls 4 [(0, .ref (fad E 86)), (1, .int q1)] := hl
  refine lv_aload_n hx hb dX8_await_0 rfl (lv_at hl 0 rfl) ?_
  refine lv_iload_n hx hb dX8_await_1 rfl (lv_at hl 1 rfl) ?_
  refine lv_iconst (v := (-1)) hx hb dX8_await_2 (by decide) ?_
  refine lv_bipush (v := 23) hx hb dX8_await_3 (by decide) ?_
  refine f_iV (n := 3) X hP hS [.int q1, .int (-1), .int 23] [] (c_X8_isFrom l E M L q1 (-1) 23) m_5_120 wi_X8_isFrom rfl rfl (by decide) (by decide +kernel) ⟨Nat.le_of_ble_eq_true rfl, Nat.le_of_ble_eq_true rfl⟩ rfl hl rfl (Nat.le_of_ble_eq_true rfl) ⟨Nat.zero_le _, Nat.zero_le _⟩ dX8_await_5 (fun H locs hP hS => ?_)
  refine lv_if_ne (tgt := 18) hx hb dX8_await_8 (by decide) (fun c_8 => ?_) (fun c_8 => ?_)
  · have c_8 := bI1 c_8
    refine lv_iload_n hx hb dX8_await_18 rfl (lv_at hl 1 rfl) ?_
    refine lv_iconst (v := (-1)) hx hb dX8_await_19 (by decide) ?_
    refine lv_icmp_eq (tgt := 29) hx hb dX8_await_20 (by decide) (fun c_20 => ?_) (fun c_20 => ?_)
    · refine lv_iconst (v := 0) hx hb dX8_await_29 (by decide) ?_
      refine lv_istore_n (lv' := [(2, .int 0), (0, .ref (fad E 86)), (1, .int q1)]) hx hb dX8_await_30 rfl hl (by decide) rfl (fun ls hl => ?_)
      refine lv_iconst (v := 1) hx hb dX8_await_31 (by decide) ?_
      refine lv_istore_n (lv' := [(3, .int 1), (2, .int 0), (0, .ref (fad E 86)), (1, .int q1)]) hx hb dX8_await_32 rfl hl (by decide) rfl (fun ls hl => ?_)
      refine f_loop (α := Nat × Int32) (fun (a : Nat × Int32) H locs ls => match a with | (i, b) => fP E M L H ∧ va_S (fA E) s.heap H locs ∧ lv_has ls 4 [(3, .int (nI (i + 1))), (2, .int b), (0, .ref (fad E 86)), (1, .int q1)] ∧ (i ≤ 23) ∧ (b = (lp_X8_await_33 M L q1 tc i))) (fun (a : Nat × Int32) => match a with | (i, b) => 23 - i) (pc0 := 33) (st := fun _ => []) ?_ (0, 0) _ _ _ ⟨hP, hS, lv_sub hl [0, 1, 2, 3] rfl, (Nat.zero_le _), rfl⟩
      rintro ⟨i, b⟩ H locs ls ⟨hP, hS, hl, ht_33, hbt_33⟩ ih_33
      refine lv_iload_n hx hb dX8_await_33 rfl (lv_at hl 0 rfl) ?_
      refine lv_bipush (v := 23) hx hb dX8_await_34 (by decide) ?_
      refine lv_icmp_gt (tgt := 60) hx hb dX8_await_36 (by decide) (fun c_36 => ?_) (fun c_36 => ?_)
      · have c_36 := (nI_lt_iff (a := 23) (b := (i + 1)) (by omega) (by omega)).mp c_36
        have hN_33 : i = 23 := by omega
        rw [hN_33] at hbt_33
        subst hbt_33
        refine lv_iload_n hx hb dX8_await_60 rfl (lv_at hl 1 rfl) ?_
        refine f_ir X hlk hr (v := (lp_X8_await_33 M L q1 tc 23)) rfl hP hS ?_ dX8_await_61
        unfold a_X8_await
        (first | rw [if_pos c_8] | rw [if_neg c_8] | rw [if_neg (Bool.eq_false_iff.mp c_8)] | skip)
        (first | rw [if_pos c_20] | rw [if_neg c_20] | rw [if_neg (Bool.eq_false_iff.mp c_20)] | skip)
        (try dsimp only)
        first
          | done
          | exact ⟨rfl, rfl⟩
          | rfl
          | (simp only [c_8, c_20, if_true, if_false, and_self, and_true, true_and, not_true_eq_false, not_false_eq_true, and_false, false_and, or_true, true_or, or_false, false_or, or_self, Bool.false_eq_true, reduceCtorEq, nl10, nl20, nl30, nl40, nl50, nl60, nl70, nl12, nl13, nl21, nl23, nl31, nl32]; first | done | exact ⟨rfl, rfl⟩ | rfl)
          | contradiction
          | (simp only [c_8, c_20, if_true, if_false, and_self, and_true, true_and, not_true_eq_false, not_false_eq_true, and_false, false_and, or_true, true_or, or_false, false_or, or_self, Bool.false_eq_true, reduceCtorEq, nl10, nl20, nl30, nl40, nl50, nl60, nl70, nl12, nl13, nl21, nl23, nl31, nl32]; contradiction)
          | (exfalso; simp_all; done)
          | simp_all
      · have c_36 := (not_congr (nI_lt_iff (a := 23) (b := (i + 1)) (by omega) (by omega))).mp c_36
        refine lv_aload_n hx hb dX8_await_39 rfl (lv_at hl 2 rfl) ?_
        refine lv_iload_n hx hb dX8_await_40 rfl (lv_at hl 0 rfl) ?_
        refine f_iV (n := 1) X hP hS [.int (nI (i + 1))] [] (c_X8_awaited l E M L (nI (i + 1)) tc htc htc8) m_6_68 wi_X8_awaited rfl rfl (by decide) (by decide +kernel) ⟨Nat.le_of_ble_eq_true rfl, Nat.le_of_ble_eq_true rfl⟩ rfl hl rfl (Nat.le_of_ble_eq_true rfl) ⟨Nat.zero_le _, Nat.zero_le _⟩ dX8_await_41 (fun H locs hP hS => ?_)
        refine lv_aload_n hx hb dX8_await_44 rfl (lv_at hl 2 rfl) ?_
        refine lv_iload_n hx hb dX8_await_45 rfl (lv_at hl 1 rfl) ?_
        refine f_iV (n := 1) X hP hS [.int b] [.int (a_X8_awaited M L (nI (i + 1)) tc)] (c_X8_awaited l E M L b tc htc htc8) m_6_68 wi_X8_awaited rfl rfl (by decide) (by decide +kernel) ⟨Nat.le_of_ble_eq_true rfl, Nat.le_of_ble_eq_true rfl⟩ rfl hl rfl (Nat.le_of_ble_eq_true rfl) ⟨Nat.zero_le _, Nat.zero_le _⟩ dX8_await_46 (fun H locs hP hS => ?_)
        refine lv_icmp_le (tgt := 54) hx hb dX8_await_49 (by decide) (fun c_49 => ?_) (fun c_49 => ?_)
        · refine lv_iinc (v := (nI (i + 1 + 1))) (lv' := [(3, .int (nI (i + 1 + 1))), (2, .int b), (0, .ref (fad E 86)), (1, .int q1)]) hx hb dX8_await_54 hl (k := 0) rfl (nI_1 _) (by decide) rfl (fun ls hl => ?_)
          refine lv_goto (tgt := 33) hx hb dX8_await_57 (by decide) ?_
          exact ih_33 ((i + 1), b) _ _ _ (by show 23 - (i + 1) < 23 - i; omega) ⟨hP, hS, lv_sub hl [0, 1, 2, 3] rfl, (by omega), (by
            rw [lp_X8_await_33_s, ← hbt_33]
            (try dsimp only)
            (first | rw [if_pos c_49] | rw [if_neg c_49] | rw [if_neg (Bool.eq_false_iff.mp c_49)] | skip)
            first | done | rfl)⟩
        · refine lv_iload_n hx hb dX8_await_52 rfl (lv_at hl 0 rfl) ?_
          refine lv_istore_n (lv' := [(2, .int (nI (i + 1))), (3, .int (nI (i + 1))), (0, .ref (fad E 86)), (1, .int q1)]) hx hb dX8_await_53 rfl hl (by decide) rfl (fun ls hl => ?_)
          refine lv_iinc (v := (nI (i + 1 + 1))) (lv' := [(3, .int (nI (i + 1 + 1))), (2, .int (nI (i + 1))), (0, .ref (fad E 86)), (1, .int q1)]) hx hb dX8_await_54 hl (k := 1) rfl (nI_1 _) (by decide) rfl (fun ls hl => ?_)
          refine lv_goto (tgt := 33) hx hb dX8_await_57 (by decide) ?_
          exact ih_33 ((i + 1), (nI (i + 1))) _ _ _ (by show 23 - (i + 1) < 23 - i; omega) ⟨hP, hS, lv_sub hl [0, 1, 2, 3] rfl, (by omega), (by
            rw [lp_X8_await_33_s, ← hbt_33]
            (try dsimp only)
            (first | rw [if_pos c_49] | rw [if_neg c_49] | rw [if_neg (Bool.eq_false_iff.mp c_49)] | skip)
            first | done | rfl)⟩
    · refine lv_aload_n hx hb dX8_await_23 rfl (lv_at hl 0 rfl) ?_
      refine lv_iload_n hx hb dX8_await_24 rfl (lv_at hl 1 rfl) ?_
      refine f_iV (n := 1) X hP hS [.int q1] [] (c_X8_awaited l E M L q1 tc htc htc8) m_6_68 wi_X8_awaited rfl rfl (by decide) (by decide +kernel) ⟨Nat.le_of_ble_eq_true rfl, Nat.le_of_ble_eq_true rfl⟩ rfl hl rfl (Nat.le_of_ble_eq_true rfl) ⟨Nat.zero_le _, Nat.zero_le _⟩ dX8_await_25 (fun H locs hP hS => ?_)
      refine f_ir X hlk hr (v := (a_X8_awaited M L q1 tc)) rfl hP hS ?_ dX8_await_28
      unfold a_X8_await
      (first | rw [if_pos c_8] | rw [if_neg c_8] | rw [if_neg (Bool.eq_false_iff.mp c_8)] | skip)
      (first | rw [if_pos c_20] | rw [if_neg c_20] | rw [if_neg (Bool.eq_false_iff.mp c_20)] | skip)
      (try dsimp only)
      first
        | done
        | exact ⟨rfl, rfl⟩
        | rfl
        | (simp only [c_8, c_20, if_true, if_false, and_self, and_true, true_and, not_true_eq_false, not_false_eq_true, and_false, false_and, or_true, true_or, or_false, false_or, or_self, Bool.false_eq_true, reduceCtorEq, nl10, nl20, nl30, nl40, nl50, nl60, nl70, nl12, nl13, nl21, nl23, nl31, nl32]; first | done | exact ⟨rfl, rfl⟩ | rfl)
        | contradiction
        | (simp only [c_8, c_20, if_true, if_false, and_self, and_true, true_and, not_true_eq_false, not_false_eq_true, and_false, false_and, or_true, true_or, or_false, false_or, or_self, Bool.false_eq_true, reduceCtorEq, nl10, nl20, nl30, nl40, nl50, nl60, nl70, nl12, nl13, nl21, nl23, nl31, nl32]; contradiction)
        | (exfalso; simp_all; done)
        | simp_all
  · have c_8 := bI0 c_8
    refine lv_aload_n hx hb dX8_await_11 rfl (lv_at hl 0 rfl) ?_
    refine lv_bipush (v := (-6)) hx hb dX8_await_12 (by decide) ?_
    refine f_iV (n := 1) X hP hS [.int (-6)] [] (c_X8_no l E M L (-6) (by decide)) m_5_84 wi_X8_no rfl rfl (by decide) (by decide +kernel) ⟨Nat.le_of_ble_eq_true rfl, Nat.le_of_ble_eq_true rfl⟩ rfl hl rfl (Nat.le_of_ble_eq_true rfl) ⟨Nat.zero_le _, Nat.zero_le _⟩ dX8_await_14 (fun H locs hP hS => ?_)
    refine f_ir X hlk hr (v := (-6)) rfl hP hS ?_ dX8_await_17
    unfold a_X8_await
    (first | rw [if_pos c_8] | rw [if_neg c_8] | rw [if_neg (Bool.eq_false_iff.mp c_8)] | skip)
    (try dsimp only)
    first
      | done
      | exact ⟨rfl, rfl⟩
      | rfl
      | (simp only [c_8, if_true, if_false, and_self, and_true, true_and, not_true_eq_false, not_false_eq_true, and_false, false_and, or_true, true_or, or_false, false_or, or_self, Bool.false_eq_true, reduceCtorEq, nl10, nl20, nl30, nl40, nl50, nl60, nl70, nl12, nl13, nl21, nl23, nl31, nl32]; first | done | exact ⟨rfl, rfl⟩ | rfl)
      | contradiction
      | (simp only [c_8, if_true, if_false, and_self, and_true, true_and, not_true_eq_false, not_false_eq_true, and_false, false_and, or_true, true_or, or_false, false_or, or_self, Bool.false_eq_true, reduceCtorEq, nl10, nl20, nl30, nl40, nl50, nl60, nl70, nl12, nl13, nl21, nl23, nl31, nl32]; contradiction)
      | (exfalso; simp_all; done)
      | simp_all

def lp_X8_seen_51 (M : Nat → Nat → Int32) (L : Nat → Nat → Int64) (w : Int32) (what : Int32) (tc : Nat) (wc : Nat) : Nat → Int32 := itF (fun i s9 => (if (a_X8_worthOf M L (a_X8_seenFrom M L w (nI (i + 1)) tc w.toNatClampNeg) tc) ≤ (a_X8_worthOf M L (a_X8_seenFrom M L w s9 tc w.toNatClampNeg) tc) then s9 else (nI (i + 1)))) 0
theorem lp_X8_seen_51_s (M : Nat → Nat → Int32) (L : Nat → Nat → Int64) (w : Int32) (what : Int32) (tc : Nat) (wc : Nat) (i : Nat) : (lp_X8_seen_51 M L w what tc wc (i + 1)) = (if (a_X8_worthOf M L (a_X8_seenFrom M L w (nI (i + 1)) tc w.toNatClampNeg) tc) ≤ (a_X8_worthOf M L (a_X8_seenFrom M L w ((lp_X8_seen_51 M L w what tc wc i)) tc w.toNatClampNeg) tc) then ((lp_X8_seen_51 M L w what tc wc i)) else (nI (i + 1))) := rfl
def a_X8_seen (M : Nat → Nat → Int32) (L : Nat → Nat → Int64) (w : Int32) (what : Int32) (tc : Nat) (wc : Nat) : fR := (if (0 ≤ w ∧ w < (M 86 0)) then (if what < 0 then ((-5), (noM M (-5)), L) else (if what ≤ 1 then (if what = 0 then ((a_X8_seenFrom M L w (M 92 w.toNatClampNeg) tc w.toNatClampNeg), M, L) else ((lp_X8_seen_51 M L w what tc wc 9), M, L)) else ((-5), (noM M (-5)), L))) else ((-1), (noM M (-1)), L))
set_option maxHeartbeats 1000000 in
set_option maxRecDepth 100000 in
theorem c_X8_seen (l : Launch) (E : fE) (M : Nat → Nat → Int32) (L : Nat → Nat → Int64) (w : Int32) (what : Int32) (tc wc : Nat) (htc : M 86 1 = nI tc) (htc8 : tc ≤ 8) (hwc : M 86 0 = nI wc) (hwc6 : wc ≤ 6) : Met l yX8_seen (wl yX8_seen cX8_seen 5 (some .int)) (fRm 2 46) (va_Pc [.ref (fad E 86), .int w, .int what] (fPre E M L)) (fQi E (fun r u => u = ((a_X8_seen M L w what tc wc).2.1, L) ∧ r = (a_X8_seen M L w what tc wc).1)) 0 0 (fA E) := by
  refine f_head (by decide) (Nat.le_of_ble_eq_true rfl) ?_
  intro pg ev s mi below meth cd ls X hr hlk hP hS hl
  have hx := X.1.1
  have hb := X.1.2.1
  have hl : lv_has ls 5 [(0, .ref (fad E 86)), (1, .int w), (2, .int what)] := hl
  refine lv_aload_n hx hb dX8_seen_0 rfl (lv_at hl 0 rfl) ?_
  refine lv_iload_n hx hb dX8_seen_1 rfl (lv_at hl 1 rfl) ?_
  refine f_iV (n := 1) X hP hS [.int w] [] (c_X8_isWaiter l E M L w) m_5_104 wi_X8_isWaiter rfl rfl (by decide) (by decide +kernel) ⟨Nat.le_of_ble_eq_true rfl, Nat.le_of_ble_eq_true rfl⟩ rfl hl rfl (Nat.le_of_ble_eq_true rfl) ⟨Nat.zero_le _, Nat.zero_le _⟩ dX8_seen_2 (fun H locs hP hS => ?_)
  refine lv_if_ne (tgt := 14) hx hb dX8_seen_5 (by decide) (fun c_5 => ?_) (fun c_5 => ?_)
  · have c_5 := bI1 c_5
    refine lv_iload_n hx hb dX8_seen_14 rfl (lv_at hl 2 rfl) ?_
    refine lv_if_lt (tgt := 23) hx hb dX8_seen_15 (by decide) (fun c_15 => ?_) (fun c_15 => ?_)
    · refine lv_aload_n hx hb dX8_seen_23 rfl (lv_at hl 0 rfl) ?_
      refine lv_bipush (v := (-5)) hx hb dX8_seen_24 (by decide) ?_
      refine f_iV (n := 1) X hP hS [.int (-5)] [] (c_X8_no l E M L (-5) (by decide)) m_5_84 wi_X8_no rfl rfl (by decide) (by decide +kernel) ⟨Nat.le_of_ble_eq_true rfl, Nat.le_of_ble_eq_true rfl⟩ rfl hl rfl (Nat.le_of_ble_eq_true rfl) ⟨Nat.zero_le _, Nat.zero_le _⟩ dX8_seen_26 (fun H locs hP hS => ?_)
      refine f_ir X hlk hr (v := (-5)) rfl hP hS ?_ dX8_seen_29
      unfold a_X8_seen
      (first | rw [if_pos c_5] | rw [if_neg c_5] | rw [if_neg (Bool.eq_false_iff.mp c_5)] | skip)
      (first | rw [if_pos c_15] | rw [if_neg c_15] | rw [if_neg (Bool.eq_false_iff.mp c_15)] | skip)
      (try dsimp only)
      first
        | done
        | exact ⟨rfl, rfl⟩
        | rfl
        | (simp only [c_5, c_15, if_true, if_false, and_self, and_true, true_and, not_true_eq_false, not_false_eq_true, and_false, false_and, or_true, true_or, or_false, false_or, or_self, Bool.false_eq_true, reduceCtorEq, nl10, nl20, nl30, nl40, nl50, nl60, nl70, nl12, nl13, nl21, nl23, nl31, nl32]; first | done | exact ⟨rfl, rfl⟩ | rfl)
        | contradiction
        | (simp only [c_5, c_15, if_true, if_false, and_self, and_true, true_and, not_true_eq_false, not_false_eq_true, and_false, false_and, or_true, true_or, or_false, false_or, or_self, Bool.false_eq_true, reduceCtorEq, nl10, nl20, nl30, nl40, nl50, nl60, nl70, nl12, nl13, nl21, nl23, nl31, nl32]; contradiction)
        | (exfalso; simp_all; done)
        | simp_all
    · refine lv_iload_n hx hb dX8_seen_18 rfl (lv_at hl 2 rfl) ?_
      refine lv_iconst (v := 1) hx hb dX8_seen_19 (by decide) ?_
      refine lv_icmp_le (tgt := 30) hx hb dX8_seen_20 (by decide) (fun c_20 => ?_) (fun c_20 => ?_)
      · refine lv_iload_n hx hb dX8_seen_30 rfl (lv_at hl 2 rfl) ?_
        refine lv_if_ne (tgt := 46) hx hb dX8_seen_31 (by decide) (fun c_31 => ?_) (fun c_31 => ?_)
        · refine lv_iconst (v := 0) hx hb dX8_seen_46 (by decide) ?_
          refine lv_istore_n (lv' := [(3, .int 0), (0, .ref (fad E 86)), (1, .int w), (2, .int what)]) hx hb dX8_seen_47 rfl hl (by decide) rfl (fun ls hl => ?_)
          refine lv_iconst (v := 1) hx hb dX8_seen_48 (by decide) ?_
          refine lv_istore (lv' := [(4, .int 1), (3, .int 0), (0, .ref (fad E 86)), (1, .int w), (2, .int what)]) hx hb dX8_seen_49 hl (by decide) rfl (fun ls hl => ?_)
          refine f_loop (α := Nat × Int32) (fun (a : Nat × Int32) H locs ls => match a with | (i, b) => fP E M L H ∧ va_S (fA E) s.heap H locs ∧ lv_has ls 5 [(4, .int (nI (i + 1))), (3, .int b), (0, .ref (fad E 86)), (1, .int w), (2, .int what)] ∧ (i ≤ 9) ∧ (b = (lp_X8_seen_51 M L w what tc wc i))) (fun (a : Nat × Int32) => match a with | (i, b) => 9 - i) (pc0 := 51) (st := fun _ => []) ?_ (0, 0) _ _ _ ⟨hP, hS, lv_sub hl [0, 1, 2, 3, 4] rfl, (Nat.zero_le _), rfl⟩
          rintro ⟨i, b⟩ H locs ls ⟨hP, hS, hl, ht_51, hbt_51⟩ ih_51
          refine lv_iload hx hb dX8_seen_51 (lv_at hl 0 rfl) ?_
          refine lv_bipush (v := 9) hx hb dX8_seen_53 (by decide) ?_
          refine lv_icmp_gt (tgt := 91) hx hb dX8_seen_55 (by decide) (fun c_55 => ?_) (fun c_55 => ?_)
          · have c_55 := (nI_lt_iff (a := 9) (b := (i + 1)) (by omega) (by omega)).mp c_55
            have hN_51 : i = 9 := by omega
            rw [hN_51] at hbt_51
            subst hbt_51
            refine lv_iload_n hx hb dX8_seen_91 rfl (lv_at hl 1 rfl) ?_
            refine f_ir X hlk hr (v := (lp_X8_seen_51 M L w what tc wc 9)) rfl hP hS ?_ dX8_seen_92
            unfold a_X8_seen
            (first | rw [if_pos c_5] | rw [if_neg c_5] | rw [if_neg (Bool.eq_false_iff.mp c_5)] | skip)
            (first | rw [if_pos c_15] | rw [if_neg c_15] | rw [if_neg (Bool.eq_false_iff.mp c_15)] | skip)
            (first | rw [if_pos c_20] | rw [if_neg c_20] | rw [if_neg (Bool.eq_false_iff.mp c_20)] | skip)
            (first | rw [if_pos c_31] | rw [if_neg c_31] | rw [if_neg (Bool.eq_false_iff.mp c_31)] | skip)
            (try dsimp only)
            first
              | done
              | exact ⟨rfl, rfl⟩
              | rfl
              | (simp only [c_5, c_15, c_20, c_31, if_true, if_false, and_self, and_true, true_and, not_true_eq_false, not_false_eq_true, and_false, false_and, or_true, true_or, or_false, false_or, or_self, Bool.false_eq_true, reduceCtorEq, nl10, nl20, nl30, nl40, nl50, nl60, nl70, nl12, nl13, nl21, nl23, nl31, nl32]; first | done | exact ⟨rfl, rfl⟩ | rfl)
              | contradiction
              | (simp only [c_5, c_15, c_20, c_31, if_true, if_false, and_self, and_true, true_and, not_true_eq_false, not_false_eq_true, and_false, false_and, or_true, true_or, or_false, false_or, or_self, Bool.false_eq_true, reduceCtorEq, nl10, nl20, nl30, nl40, nl50, nl60, nl70, nl12, nl13, nl21, nl23, nl31, nl32]; contradiction)
              | (exfalso; simp_all; done)
              | simp_all
          · have c_55 := (not_congr (nI_lt_iff (a := 9) (b := (i + 1)) (by omega) (by omega))).mp c_55
            refine lv_aload_n hx hb dX8_seen_58 rfl (lv_at hl 2 rfl) ?_
            refine lv_aload_n hx hb dX8_seen_59 rfl (lv_at hl 2 rfl) ?_
            refine lv_iload_n hx hb dX8_seen_60 rfl (lv_at hl 3 rfl) ?_
            refine lv_iload hx hb dX8_seen_61 (lv_at hl 0 rfl) ?_
            have hix_1 : fIx w 6 w.toNatClampNeg := by
              first
                | exact fIx_lt 6 c_5.1 c_5.2 (by decide)
                | exact fIx_lt 6 c_15.1 c_15.2 (by decide)
                | exact fIx_lt 6 c_20.1 c_20.2 (by decide)
                | exact fIx_lt 6 c_31.1 c_31.2 (by decide)
                | exact fIx_cnt 6 c_5.1 c_5.2 hwc hwc6 (by decide)
                | exact fIx_cnt 6 c_15.1 c_15.2 hwc hwc6 (by decide)
                | exact fIx_cnt 6 c_20.1 c_20.2 hwc hwc6 (by decide)
                | exact fIx_cnt 6 c_31.1 c_31.2 hwc hwc6 (by decide)
                | exact fIx_le 5 c_5.1 c_5.2 (by decide)
                | exact fIx_le 5 c_15.1 c_15.2 (by decide)
                | exact fIx_le 5 c_20.1 c_20.2 (by decide)
                | exact fIx_le 5 c_31.1 c_31.2 (by decide)
                | exact fIx_lt 6 c_5.1 c_5.2.2 (by decide)
                | exact fIx_lt 6 c_15.1 c_15.2.2 (by decide)
                | exact fIx_lt 6 c_20.1 c_20.2.2 (by decide)
                | exact fIx_lt 6 c_31.1 c_31.2.2 (by decide)
                | exact fIx_le 5 (rr0 c_5).1.1 (rr0 c_5).1.2 (by decide)
                | exact fIx_le 5 (rr0 c_15).1.1 (rr0 c_15).1.2 (by decide)
                | exact fIx_le 5 (rr0 c_20).1.1 (rr0 c_20).1.2 (by decide)
                | exact fIx_le 5 (rr0 c_31).1.1 (rr0 c_31).1.2 (by decide)
                | (refine fIx_lt 6 (show (0 : Int32) ≤ w from ?_) (show w < (6 : Int32) from ?_) (by decide) <;> (have e0_9 : (0 : Int32).toInt = 0 := rfl; have en_9 : (6 : Int32).toInt = 6 := rfl; simp only [Int32.lt_iff_toInt_lt, Int32.le_iff_toInt_le, Int32.not_lt, Int32.not_le, ← Int32.toInt_inj] at *; omega))
            have hlt_1 := hix_1.2.2
            refine f_iV (n := 2) X hP hS [.int w, .int (nI (i + 1))] [.ref (fad E 86)] (c_X8_seenFrom l E M L w (nI (i + 1)) tc w.toNatClampNeg htc htc8 hix_1) m_6_20 wi_X8_seenFrom rfl rfl (by decide) (by decide +kernel) ⟨Nat.le_of_ble_eq_true rfl, Nat.le_of_ble_eq_true rfl⟩ rfl hl rfl (Nat.le_of_ble_eq_true rfl) ⟨Nat.zero_le _, Nat.zero_le _⟩ dX8_seen_63 (fun H locs hP hS => ?_)
            refine f_iV (n := 1) X hP hS [.int (a_X8_seenFrom M L w (nI (i + 1)) tc w.toNatClampNeg)] [] (c_X8_worthOf l E M L (a_X8_seenFrom M L w (nI (i + 1)) tc w.toNatClampNeg) tc htc htc8) m_6_32 wi_X8_worthOf rfl rfl (by decide) (by decide +kernel) ⟨Nat.le_of_ble_eq_true rfl, Nat.le_of_ble_eq_true rfl⟩ rfl hl rfl (Nat.le_of_ble_eq_true rfl) ⟨Nat.zero_le _, Nat.zero_le _⟩ dX8_seen_66 (fun H locs hP hS => ?_)
            refine lv_aload_n hx hb dX8_seen_69 rfl (lv_at hl 2 rfl) ?_
            refine lv_aload_n hx hb dX8_seen_70 rfl (lv_at hl 2 rfl) ?_
            refine lv_iload_n hx hb dX8_seen_71 rfl (lv_at hl 3 rfl) ?_
            refine lv_iload_n hx hb dX8_seen_72 rfl (lv_at hl 1 rfl) ?_
            refine f_iV (n := 2) X hP hS [.int w, .int b] [.ref (fad E 86), .int (a_X8_worthOf M L (a_X8_seenFrom M L w (nI (i + 1)) tc w.toNatClampNeg) tc)] (c_X8_seenFrom l E M L w b tc w.toNatClampNeg htc htc8 hix_1) m_6_20 wi_X8_seenFrom rfl rfl (by decide) (by decide +kernel) ⟨Nat.le_of_ble_eq_true rfl, Nat.le_of_ble_eq_true rfl⟩ rfl hl rfl (Nat.le_of_ble_eq_true rfl) ⟨Nat.zero_le _, Nat.zero_le _⟩ dX8_seen_73 (fun H locs hP hS => ?_)
            refine f_iV (n := 1) X hP hS [.int (a_X8_seenFrom M L w b tc w.toNatClampNeg)] [.int (a_X8_worthOf M L (a_X8_seenFrom M L w (nI (i + 1)) tc w.toNatClampNeg) tc)] (c_X8_worthOf l E M L (a_X8_seenFrom M L w b tc w.toNatClampNeg) tc htc htc8) m_6_32 wi_X8_worthOf rfl rfl (by decide) (by decide +kernel) ⟨Nat.le_of_ble_eq_true rfl, Nat.le_of_ble_eq_true rfl⟩ rfl hl rfl (Nat.le_of_ble_eq_true rfl) ⟨Nat.zero_le _, Nat.zero_le _⟩ dX8_seen_76 (fun H locs hP hS => ?_)
            refine lv_icmp_le (tgt := 85) hx hb dX8_seen_79 (by decide) (fun c_79 => ?_) (fun c_79 => ?_)
            · refine lv_iinc (v := (nI (i + 1 + 1))) (lv' := [(4, .int (nI (i + 1 + 1))), (3, .int b), (0, .ref (fad E 86)), (1, .int w), (2, .int what)]) hx hb dX8_seen_85 hl (k := 0) rfl (nI_1 _) (by decide) rfl (fun ls hl => ?_)
              refine lv_goto (tgt := 51) hx hb dX8_seen_88 (by decide) ?_
              exact ih_51 ((i + 1), b) _ _ _ (by show 9 - (i + 1) < 9 - i; omega) ⟨hP, hS, lv_sub hl [0, 1, 2, 3, 4] rfl, (by omega), (by
                rw [lp_X8_seen_51_s, ← hbt_51]
                (try dsimp only)
                (first | rw [if_pos c_79] | rw [if_neg c_79] | rw [if_neg (Bool.eq_false_iff.mp c_79)] | skip)
                first | done | rfl)⟩
            · refine lv_iload hx hb dX8_seen_82 (lv_at hl 0 rfl) ?_
              refine lv_istore_n (lv' := [(3, .int (nI (i + 1))), (4, .int (nI (i + 1))), (0, .ref (fad E 86)), (1, .int w), (2, .int what)]) hx hb dX8_seen_84 rfl hl (by decide) rfl (fun ls hl => ?_)
              refine lv_iinc (v := (nI (i + 1 + 1))) (lv' := [(4, .int (nI (i + 1 + 1))), (3, .int (nI (i + 1))), (0, .ref (fad E 86)), (1, .int w), (2, .int what)]) hx hb dX8_seen_85 hl (k := 1) rfl (nI_1 _) (by decide) rfl (fun ls hl => ?_)
              refine lv_goto (tgt := 51) hx hb dX8_seen_88 (by decide) ?_
              exact ih_51 ((i + 1), (nI (i + 1))) _ _ _ (by show 9 - (i + 1) < 9 - i; omega) ⟨hP, hS, lv_sub hl [0, 1, 2, 3, 4] rfl, (by omega), (by
                rw [lp_X8_seen_51_s, ← hbt_51]
                (try dsimp only)
                (first | rw [if_pos c_79] | rw [if_neg c_79] | rw [if_neg (Bool.eq_false_iff.mp c_79)] | skip)
                first | done | rfl)⟩
        · refine lv_aload_n hx hb dX8_seen_34 rfl (lv_at hl 0 rfl) ?_
          refine lv_iload_n hx hb dX8_seen_35 rfl (lv_at hl 1 rfl) ?_
          refine lv_aload_n hx hb dX8_seen_36 rfl (lv_at hl 0 rfl) ?_
          refine f_get X hP (T := TX8) (ci := 8) (k := 86) rfl inX8 rfl 13 (by decide) m_4_187 rfl (v := .ref (fad E 92)) rfl dX8_seen_37 ?_
          refine lv_iload_n hx hb dX8_seen_40 rfl (lv_at hl 1 rfl) ?_
          have hix_2 : fIx w 6 w.toNatClampNeg := by
            first
              | exact fIx_lt 6 c_5.1 c_5.2 (by decide)
              | exact fIx_lt 6 c_15.1 c_15.2 (by decide)
              | exact fIx_lt 6 c_20.1 c_20.2 (by decide)
              | exact fIx_lt 6 c_31.1 c_31.2 (by decide)
              | exact fIx_cnt 6 c_5.1 c_5.2 hwc hwc6 (by decide)
              | exact fIx_cnt 6 c_15.1 c_15.2 hwc hwc6 (by decide)
              | exact fIx_cnt 6 c_20.1 c_20.2 hwc hwc6 (by decide)
              | exact fIx_cnt 6 c_31.1 c_31.2 hwc hwc6 (by decide)
              | exact fIx_le 5 c_5.1 c_5.2 (by decide)
              | exact fIx_le 5 c_15.1 c_15.2 (by decide)
              | exact fIx_le 5 c_20.1 c_20.2 (by decide)
              | exact fIx_le 5 c_31.1 c_31.2 (by decide)
              | exact fIx_lt 6 c_5.1 c_5.2.2 (by decide)
              | exact fIx_lt 6 c_15.1 c_15.2.2 (by decide)
              | exact fIx_lt 6 c_20.1 c_20.2.2 (by decide)
              | exact fIx_lt 6 c_31.1 c_31.2.2 (by decide)
              | exact fIx_le 5 (rr0 c_5).1.1 (rr0 c_5).1.2 (by decide)
              | exact fIx_le 5 (rr0 c_15).1.1 (rr0 c_15).1.2 (by decide)
              | exact fIx_le 5 (rr0 c_20).1.1 (rr0 c_20).1.2 (by decide)
              | exact fIx_le 5 (rr0 c_31).1.1 (rr0 c_31).1.2 (by decide)
              | (refine fIx_lt 6 (show (0 : Int32) ≤ w from ?_) (show w < (6 : Int32) from ?_) (by decide) <;> (have e0_9 : (0 : Int32).toInt = 0 := rfl; have en_9 : (6 : Int32).toInt = 6 := rfl; simp only [Int32.lt_iff_toInt_lt, Int32.le_iff_toInt_le, Int32.not_lt, Int32.not_le, ← Int32.toInt_inj] at *; omega))
          have hlt_2 := hix_2.2.2
          refine f_iald X hP (k := 92) (n := 6) (q := w.toNatClampNeg) rfl rfl hix_2 dX8_seen_41 ?_
          refine f_iV (n := 2) X hP hS [.int w, .int (M 92 w.toNatClampNeg)] [] (c_X8_seenFrom l E M L w (M 92 w.toNatClampNeg) tc w.toNatClampNeg htc htc8 hix_2) m_6_20 wi_X8_seenFrom rfl rfl (by decide) (by decide +kernel) ⟨Nat.le_of_ble_eq_true rfl, Nat.le_of_ble_eq_true rfl⟩ rfl hl rfl (Nat.le_of_ble_eq_true rfl) ⟨Nat.zero_le _, Nat.zero_le _⟩ dX8_seen_42 (fun H locs hP hS => ?_)
          refine f_ir X hlk hr (v := (a_X8_seenFrom M L w (M 92 w.toNatClampNeg) tc w.toNatClampNeg)) rfl hP hS ?_ dX8_seen_45
          unfold a_X8_seen
          (first | rw [if_pos c_5] | rw [if_neg c_5] | rw [if_neg (Bool.eq_false_iff.mp c_5)] | skip)
          (first | rw [if_pos c_15] | rw [if_neg c_15] | rw [if_neg (Bool.eq_false_iff.mp c_15)] | skip)
          (first | rw [if_pos c_20] | rw [if_neg c_20] | rw [if_neg (Bool.eq_false_iff.mp c_20)] | skip)
          (first | rw [if_pos c_31] | rw [if_neg c_31] | rw [if_neg (Bool.eq_false_iff.mp c_31)] | skip)
          (try dsimp only)
          first
            | done
            | exact ⟨rfl, rfl⟩
            | rfl
            | (simp only [c_5, c_15, c_20, c_31, if_true, if_false, and_self, and_true, true_and, not_true_eq_false, not_false_eq_true, and_false, false_and, or_true, true_or, or_false, false_or, or_self, Bool.false_eq_true, reduceCtorEq, nl10, nl20, nl30, nl40, nl50, nl60, nl70, nl12, nl13, nl21, nl23, nl31, nl32]; first | done | exact ⟨rfl, rfl⟩ | rfl)
            | contradiction
            | (simp only [c_5, c_15, c_20, c_31, if_true, if_false, and_self, and_true, true_and, not_true_eq_false, not_false_eq_true, and_false, false_and, or_true, true_or, or_false, false_or, or_self, Bool.false_eq_true, reduceCtorEq, nl10, nl20, nl30, nl40, nl50, nl60, nl70, nl12, nl13, nl21, nl23, nl31, nl32]; contradiction)
            | (exfalso; simp_all; done)
            | simp_all
      · refine lv_aload_n hx hb dX8_seen_23 rfl (lv_at hl 0 rfl) ?_
        refine lv_bipush (v := (-5)) hx hb dX8_seen_24 (by decide) ?_
        refine f_iV (n := 1) X hP hS [.int (-5)] [] (c_X8_no l E M L (-5) (by decide)) m_5_84 wi_X8_no rfl rfl (by decide) (by decide +kernel) ⟨Nat.le_of_ble_eq_true rfl, Nat.le_of_ble_eq_true rfl⟩ rfl hl rfl (Nat.le_of_ble_eq_true rfl) ⟨Nat.zero_le _, Nat.zero_le _⟩ dX8_seen_26 (fun H locs hP hS => ?_)
        refine f_ir X hlk hr (v := (-5)) rfl hP hS ?_ dX8_seen_29
        unfold a_X8_seen
        (first | rw [if_pos c_5] | rw [if_neg c_5] | rw [if_neg (Bool.eq_false_iff.mp c_5)] | skip)
        (first | rw [if_pos c_15] | rw [if_neg c_15] | rw [if_neg (Bool.eq_false_iff.mp c_15)] | skip)
        (first | rw [if_pos c_20] | rw [if_neg c_20] | rw [if_neg (Bool.eq_false_iff.mp c_20)] | skip)
        (try dsimp only)
        first
          | done
          | exact ⟨rfl, rfl⟩
          | rfl
          | (simp only [c_5, c_15, c_20, if_true, if_false, and_self, and_true, true_and, not_true_eq_false, not_false_eq_true, and_false, false_and, or_true, true_or, or_false, false_or, or_self, Bool.false_eq_true, reduceCtorEq, nl10, nl20, nl30, nl40, nl50, nl60, nl70, nl12, nl13, nl21, nl23, nl31, nl32]; first | done | exact ⟨rfl, rfl⟩ | rfl)
          | contradiction
          | (simp only [c_5, c_15, c_20, if_true, if_false, and_self, and_true, true_and, not_true_eq_false, not_false_eq_true, and_false, false_and, or_true, true_or, or_false, false_or, or_self, Bool.false_eq_true, reduceCtorEq, nl10, nl20, nl30, nl40, nl50, nl60, nl70, nl12, nl13, nl21, nl23, nl31, nl32]; contradiction)
          | (exfalso; simp_all; done)
          | simp_all
  · have c_5 := bI0 c_5
    refine lv_aload_n hx hb dX8_seen_8 rfl (lv_at hl 0 rfl) ?_
    refine lv_iconst (v := (-1)) hx hb dX8_seen_9 (by decide) ?_
    refine f_iV (n := 1) X hP hS [.int (-1)] [] (c_X8_no l E M L (-1) (by decide)) m_5_84 wi_X8_no rfl rfl (by decide) (by decide +kernel) ⟨Nat.le_of_ble_eq_true rfl, Nat.le_of_ble_eq_true rfl⟩ rfl hl rfl (Nat.le_of_ble_eq_true rfl) ⟨Nat.zero_le _, Nat.zero_le _⟩ dX8_seen_10 (fun H locs hP hS => ?_)
    refine f_ir X hlk hr (v := (-1)) rfl hP hS ?_ dX8_seen_13
    unfold a_X8_seen
    (first | rw [if_pos c_5] | rw [if_neg c_5] | rw [if_neg (Bool.eq_false_iff.mp c_5)] | skip)
    (try dsimp only)
    first
      | done
      | exact ⟨rfl, rfl⟩
      | rfl
      | (simp only [c_5, if_true, if_false, and_self, and_true, true_and, not_true_eq_false, not_false_eq_true, and_false, false_and, or_true, true_or, or_false, false_or, or_self, Bool.false_eq_true, reduceCtorEq, nl10, nl20, nl30, nl40, nl50, nl60, nl70, nl12, nl13, nl21, nl23, nl31, nl32]; first | done | exact ⟨rfl, rfl⟩ | rfl)
      | contradiction
      | (simp only [c_5, if_true, if_false, and_self, and_true, true_and, not_true_eq_false, not_false_eq_true, and_false, false_and, or_true, true_or, or_false, false_or, or_self, Bool.false_eq_true, reduceCtorEq, nl10, nl20, nl30, nl40, nl50, nl60, nl70, nl12, nl13, nl21, nl23, nl31, nl32]; contradiction)
      | (exfalso; simp_all; done)
      | simp_all

def lp_X8_lookouts_18 (M : Nat → Nat → Int32) (L : Nat → Nat → Int64) (w : Int32) (tc : Nat) (wc : Nat) : Nat → Int32 := itF (fun i s9 => (if (a_X8_seenFrom M L w (nI i) tc w.toNatClampNeg) = 0 then s9 else (s9 + (1 <<< ((nI i) &&& 31))))) 0
theorem lp_X8_lookouts_18_s (M : Nat → Nat → Int32) (L : Nat → Nat → Int64) (w : Int32) (tc : Nat) (wc : Nat) (i : Nat) : (lp_X8_lookouts_18 M L w tc wc (i + 1)) = (if (a_X8_seenFrom M L w (nI i) tc w.toNatClampNeg) = 0 then ((lp_X8_lookouts_18 M L w tc wc i)) else (((lp_X8_lookouts_18 M L w tc wc i)) + (1 <<< ((nI i) &&& 31)))) := rfl
def a_X8_lookouts (M : Nat → Nat → Int32) (L : Nat → Nat → Int64) (w : Int32) (tc : Nat) (wc : Nat) : fR := (if (0 ≤ w ∧ w < (M 86 0)) then ((lp_X8_lookouts_18 M L w tc wc 10), M, L) else ((-1), (noM M (-1)), L))
set_option maxHeartbeats 1000000 in
set_option maxRecDepth 100000 in
theorem c_X8_lookouts (l : Launch) (E : fE) (M : Nat → Nat → Int32) (L : Nat → Nat → Int64) (w : Int32) (tc wc : Nat) (htc : M 86 1 = nI tc) (htc8 : tc ≤ 8) (hwc : M 86 0 = nI wc) (hwc6 : wc ≤ 6) : Met l yX8_lookouts (wl yX8_lookouts cX8_lookouts 4 (some .int)) (fRm 2 46) (va_Pc [.ref (fad E 86), .int w] (fPre E M L)) (fQi E (fun r u => u = ((a_X8_lookouts M L w tc wc).2.1, L) ∧ r = (a_X8_lookouts M L w tc wc).1)) 0 0 (fA E) := by
  refine f_head (by decide) (Nat.le_of_ble_eq_true rfl) ?_
  intro pg ev s mi below meth cd ls X hr hlk hP hS hl
  have hx := X.1.1
  have hb := X.1.2.1
  have hl : lv_has ls 4 [(0, .ref (fad E 86)), (1, .int w)] := hl
  refine lv_aload_n hx hb dX8_lookouts_0 rfl (lv_at hl 0 rfl) ?_
  refine lv_iload_n hx hb dX8_lookouts_1 rfl (lv_at hl 1 rfl) ?_
  refine f_iV (n := 1) X hP hS [.int w] [] (c_X8_isWaiter l E M L w) m_5_104 wi_X8_isWaiter rfl rfl (by decide) (by decide +kernel) ⟨Nat.le_of_ble_eq_true rfl, Nat.le_of_ble_eq_true rfl⟩ rfl hl rfl (Nat.le_of_ble_eq_true rfl) ⟨Nat.zero_le _, Nat.zero_le _⟩ dX8_lookouts_2 (fun H locs hP hS => ?_)
  refine lv_if_ne (tgt := 14) hx hb dX8_lookouts_5 (by decide) (fun c_5 => ?_) (fun c_5 => ?_)
  · have c_5 := bI1 c_5
    refine lv_iconst (v := 0) hx hb dX8_lookouts_14 (by decide) ?_
    refine lv_istore_n (lv' := [(2, .int 0), (0, .ref (fad E 86)), (1, .int w)]) hx hb dX8_lookouts_15 rfl hl (by decide) rfl (fun ls hl => ?_)
    refine lv_iconst (v := 0) hx hb dX8_lookouts_16 (by decide) ?_
    refine lv_istore_n (lv' := [(3, .int 0), (2, .int 0), (0, .ref (fad E 86)), (1, .int w)]) hx hb dX8_lookouts_17 rfl hl (by decide) rfl (fun ls hl => ?_)
    refine f_loop (α := Nat × Int32) (fun (a : Nat × Int32) H locs ls => match a with | (i, b) => fP E M L H ∧ va_S (fA E) s.heap H locs ∧ lv_has ls 4 [(3, .int (nI i)), (2, .int b), (0, .ref (fad E 86)), (1, .int w)] ∧ (i ≤ 10) ∧ (b = (lp_X8_lookouts_18 M L w tc wc i))) (fun (a : Nat × Int32) => match a with | (i, b) => 10 - i) (pc0 := 18) (st := fun _ => []) ?_ (0, 0) _ _ _ ⟨hP, hS, lv_sub hl [0, 1, 2, 3] rfl, (Nat.zero_le _), rfl⟩
    rintro ⟨i, b⟩ H locs ls ⟨hP, hS, hl, ht_18, hbt_18⟩ ih_18
    refine lv_iload_n hx hb dX8_lookouts_18 rfl (lv_at hl 0 rfl) ?_
    refine lv_bipush (v := 9) hx hb dX8_lookouts_19 (by decide) ?_
    refine lv_icmp_gt (tgt := 45) hx hb dX8_lookouts_21 (by decide) (fun c_21 => ?_) (fun c_21 => ?_)
    · have c_21 := (nI_lt_iff (a := 9) (b := i) (by omega) (by omega)).mp c_21
      have hN_18 : i = 10 := by omega
      rw [hN_18] at hbt_18
      subst hbt_18
      refine lv_iload_n hx hb dX8_lookouts_45 rfl (lv_at hl 1 rfl) ?_
      refine f_ir X hlk hr (v := (lp_X8_lookouts_18 M L w tc wc 10)) rfl hP hS ?_ dX8_lookouts_46
      unfold a_X8_lookouts
      (first | rw [if_pos c_5] | rw [if_neg c_5] | rw [if_neg (Bool.eq_false_iff.mp c_5)] | skip)
      (try dsimp only)
      first
        | done
        | exact ⟨rfl, rfl⟩
        | rfl
        | (simp only [c_5, if_true, if_false, and_self, and_true, true_and, not_true_eq_false, not_false_eq_true, and_false, false_and, or_true, true_or, or_false, false_or, or_self, Bool.false_eq_true, reduceCtorEq, nl10, nl20, nl30, nl40, nl50, nl60, nl70, nl12, nl13, nl21, nl23, nl31, nl32]; first | done | exact ⟨rfl, rfl⟩ | rfl)
        | contradiction
        | (simp only [c_5, if_true, if_false, and_self, and_true, true_and, not_true_eq_false, not_false_eq_true, and_false, false_and, or_true, true_or, or_false, false_or, or_self, Bool.false_eq_true, reduceCtorEq, nl10, nl20, nl30, nl40, nl50, nl60, nl70, nl12, nl13, nl21, nl23, nl31, nl32]; contradiction)
        | (exfalso; simp_all; done)
        | simp_all
    · have c_21 := (not_congr (nI_lt_iff (a := 9) (b := i) (by omega) (by omega))).mp c_21
      refine lv_aload_n hx hb dX8_lookouts_24 rfl (lv_at hl 2 rfl) ?_
      refine lv_iload_n hx hb dX8_lookouts_25 rfl (lv_at hl 3 rfl) ?_
      refine lv_iload_n hx hb dX8_lookouts_26 rfl (lv_at hl 0 rfl) ?_
      have hix_1 : fIx w 6 w.toNatClampNeg := by
        first
          | exact fIx_lt 6 c_5.1 c_5.2 (by decide)
          | exact fIx_cnt 6 c_5.1 c_5.2 hwc hwc6 (by decide)
          | exact fIx_le 5 c_5.1 c_5.2 (by decide)
          | exact fIx_lt 6 c_5.1 c_5.2.2 (by decide)
          | exact fIx_le 5 (rr0 c_5).1.1 (rr0 c_5).1.2 (by decide)
          | (refine fIx_lt 6 (show (0 : Int32) ≤ w from ?_) (show w < (6 : Int32) from ?_) (by decide) <;> (have e0_9 : (0 : Int32).toInt = 0 := rfl; have en_9 : (6 : Int32).toInt = 6 := rfl; simp only [Int32.lt_iff_toInt_lt, Int32.le_iff_toInt_le, Int32.not_lt, Int32.not_le, ← Int32.toInt_inj] at *; omega))
      have hlt_1 := hix_1.2.2
      refine f_iV (n := 2) X hP hS [.int w, .int (nI i)] [] (c_X8_seenFrom l E M L w (nI i) tc w.toNatClampNeg htc htc8 hix_1) m_6_20 wi_X8_seenFrom rfl rfl (by decide) (by decide +kernel) ⟨Nat.le_of_ble_eq_true rfl, Nat.le_of_ble_eq_true rfl⟩ rfl hl rfl (Nat.le_of_ble_eq_true rfl) ⟨Nat.zero_le _, Nat.zero_le _⟩ dX8_lookouts_27 (fun H locs hP hS => ?_)
      refine lv_if_eq (tgt := 39) hx hb dX8_lookouts_30 (by decide) (fun c_30 => ?_) (fun c_30 => ?_)
      · refine lv_iinc (v := (nI (i + 1))) (lv' := [(3, .int (nI (i + 1))), (2, .int b), (0, .ref (fad E 86)), (1, .int w)]) hx hb dX8_lookouts_39 hl (k := 0) rfl (nI_1 _) (by decide) rfl (fun ls hl => ?_)
        refine lv_goto (tgt := 18) hx hb dX8_lookouts_42 (by decide) ?_
        exact ih_18 ((i + 1), b) _ _ _ (by show 10 - (i + 1) < 10 - i; omega) ⟨hP, hS, lv_sub hl [0, 1, 2, 3] rfl, (by omega), (by
          rw [lp_X8_lookouts_18_s, ← hbt_18]
          (try dsimp only)
          (first | rw [if_pos c_30] | rw [if_neg c_30] | rw [if_neg (Bool.eq_false_iff.mp c_30)] | skip)
          first | done | rfl)⟩
      · refine lv_iload_n hx hb dX8_lookouts_33 rfl (lv_at hl 1 rfl) ?_
        refine lv_iconst (v := 1) hx hb dX8_lookouts_34 (by decide) ?_
        refine lv_iload_n hx hb dX8_lookouts_35 rfl (lv_at hl 0 rfl) ?_
        refine lv_ishl hx hb dX8_lookouts_36 ?_
        refine lv_iadd hx hb dX8_lookouts_37 ?_
        refine lv_istore_n (lv' := [(2, .int (b + (1 <<< ((nI i) &&& 31)))), (3, .int (nI i)), (0, .ref (fad E 86)), (1, .int w)]) hx hb dX8_lookouts_38 rfl hl (by decide) rfl (fun ls hl => ?_)
        refine lv_iinc (v := (nI (i + 1))) (lv' := [(3, .int (nI (i + 1))), (2, .int (b + (1 <<< ((nI i) &&& 31)))), (0, .ref (fad E 86)), (1, .int w)]) hx hb dX8_lookouts_39 hl (k := 1) rfl (nI_1 _) (by decide) rfl (fun ls hl => ?_)
        refine lv_goto (tgt := 18) hx hb dX8_lookouts_42 (by decide) ?_
        exact ih_18 ((i + 1), (b + (1 <<< ((nI i) &&& 31)))) _ _ _ (by show 10 - (i + 1) < 10 - i; omega) ⟨hP, hS, lv_sub hl [0, 1, 2, 3] rfl, (by omega), (by
          rw [lp_X8_lookouts_18_s, ← hbt_18]
          (try dsimp only)
          (first | rw [if_pos c_30] | rw [if_neg c_30] | rw [if_neg (Bool.eq_false_iff.mp c_30)] | skip)
          first | done | rfl)⟩
  · have c_5 := bI0 c_5
    refine lv_aload_n hx hb dX8_lookouts_8 rfl (lv_at hl 0 rfl) ?_
    refine lv_iconst (v := (-1)) hx hb dX8_lookouts_9 (by decide) ?_
    refine f_iV (n := 1) X hP hS [.int (-1)] [] (c_X8_no l E M L (-1) (by decide)) m_5_84 wi_X8_no rfl rfl (by decide) (by decide +kernel) ⟨Nat.le_of_ble_eq_true rfl, Nat.le_of_ble_eq_true rfl⟩ rfl hl rfl (Nat.le_of_ble_eq_true rfl) ⟨Nat.zero_le _, Nat.zero_le _⟩ dX8_lookouts_10 (fun H locs hP hS => ?_)
    refine f_ir X hlk hr (v := (-1)) rfl hP hS ?_ dX8_lookouts_13
    unfold a_X8_lookouts
    (first | rw [if_pos c_5] | rw [if_neg c_5] | rw [if_neg (Bool.eq_false_iff.mp c_5)] | skip)
    (try dsimp only)
    first
      | done
      | exact ⟨rfl, rfl⟩
      | rfl
      | (simp only [c_5, if_true, if_false, and_self, and_true, true_and, not_true_eq_false, not_false_eq_true, and_false, false_and, or_true, true_or, or_false, false_or, or_self, Bool.false_eq_true, reduceCtorEq, nl10, nl20, nl30, nl40, nl50, nl60, nl70, nl12, nl13, nl21, nl23, nl31, nl32]; first | done | exact ⟨rfl, rfl⟩ | rfl)
      | contradiction
      | (simp only [c_5, if_true, if_false, and_self, and_true, true_and, not_true_eq_false, not_false_eq_true, and_false, false_and, or_true, true_or, or_false, false_or, or_self, Bool.false_eq_true, reduceCtorEq, nl10, nl20, nl30, nl40, nl50, nl60, nl70, nl12, nl13, nl21, nl23, nl31, nl32]; contradiction)
      | (exfalso; simp_all; done)
      | simp_all
