def a_X8_sending (M : Nat → Nat → Int32) (L : Nat → Nat → Int64) (w : Int32) (x : Int32) (w0 : Nat) (n0 : Nat) : fR := (if (M 88 w0) = 4 then ((-(((a_X8_looking (bodyM (bodyM M 50) 12) L w x w0 (n0 + 2)).1) ^^^ ((a_X8_waiting (a_X8_looking (bodyM (bodyM M 50) 12) L w x w0 (n0 + 2)).2.1 L w (x - ((a_X8_looking (bodyM (bodyM M 50) 12) L w x w0 (n0 + 2)).2.1 89 w0)) w0 (n0 + 20)).1))), (a_X8_waiting (a_X8_looking (bodyM (bodyM M 50) 12) L w x w0 (n0 + 2)).2.1 L w (x - ((a_X8_looking (bodyM (bodyM M 50) 12) L w x w0 (n0 + 2)).2.1 89 w0)) w0 (n0 + 20)).2.1, L) else (if (M 88 w0) = 6 then ((-(((a_X8_looking (bodyM (bodyM M 50) 12) L w x w0 (n0 + 2)).1) ^^^ ((a_X8_waiting (a_X8_looking (bodyM (bodyM M 50) 12) L w x w0 (n0 + 2)).2.1 L w (x - ((a_X8_looking (bodyM (bodyM M 50) 12) L w x w0 (n0 + 2)).2.1 89 w0)) w0 (n0 + 20)).1))), (a_X8_waiting (a_X8_looking (bodyM (bodyM M 50) 12) L w x w0 (n0 + 2)).2.1 L w (x - ((a_X8_looking (bodyM (bodyM M 50) 12) L w x w0 (n0 + 2)).2.1 89 w0)) w0 (n0 + 20)).2.1, L) else (if (M 88 w0) = 5 then (((((a_X8_looking (bodyM (bodyM M 60) 12) L w x w0 (n0 + 2)).1) ^^^ ((a_X8_waiting (a_X8_looking (bodyM (bodyM M 60) 12) L w x w0 (n0 + 2)).2.1 L w (x - ((a_X8_looking (bodyM (bodyM M 60) 12) L w x w0 (n0 + 2)).2.1 89 w0)) w0 (n0 + 20)).1)) ^^^ 5), (a_X8_waiting (a_X8_looking (bodyM (bodyM M 60) 12) L w x w0 (n0 + 2)).2.1 L w (x - ((a_X8_looking (bodyM (bodyM M 60) 12) L w x w0 (n0 + 2)).2.1 89 w0)) w0 (n0 + 20)).2.1, L) else ((((a_X8_looking (bodyM M 12) L w x w0 (n0 + 1)).1) ^^^ ((a_X8_waiting (a_X8_looking (bodyM M 12) L w x w0 (n0 + 1)).2.1 L w (x - ((a_X8_looking (bodyM M 12) L w x w0 (n0 + 1)).2.1 89 w0)) w0 (n0 + 20)).1)), (a_X8_waiting (a_X8_looking (bodyM M 12) L w x w0 (n0 + 1)).2.1 L w (x - ((a_X8_looking (bodyM M 12) L w x w0 (n0 + 1)).2.1 89 w0)) w0 (n0 + 20)).2.1, L))))
set_option maxHeartbeats 1000000 in
set_option maxRecDepth 100000 in
theorem c_X8_sending (l : Launch) (E : fE) (M : Nat → Nat → Int32) (L : Nat → Nat → Int64) (w : Int32) (x : Int32) (w0 n0 : Nat) (hw : fIx w 6 w0) (hrB : rB M n0) (hn0 : n0 < 700) : Met l yX8_sending (wl yX8_sending cX8_sending 6 (some .int)) (fRm 3 74) (va_Pc [.ref (fad E 86), .int w, .int x] (fPre E M L)) (fQi E (fun r u => u = ((a_X8_sending M L w x w0 n0).2.1, L) ∧ r = (a_X8_sending M L w x w0 n0).1)) 0 0 (fA E) := by
  refine f_head (by decide) (Nat.le_of_ble_eq_true rfl) ?_
  intro pg ev s mi below meth cd ls X hr hlk hP hS hl
  have hx := X.1.1
  have hb := X.1.2.1
  have hl : lv_has ls 6 [(0, .ref (fad E 86)), (1, .int w), (2, .int x)] := hl
  refine lv_aload_n hx hb dX8_sending_0 rfl (lv_at hl 0 rfl) ?_
  refine f_get X hP (T := TX8) (ci := 8) (k := 86) rfl inX8 rfl 9 (by decide) m_4_183 rfl (v := .ref (fad E 88)) rfl dX8_sending_1 ?_
  refine lv_iload_n hx hb dX8_sending_4 rfl (lv_at hl 1 rfl) ?_
  refine f_iald X hP (k := 88) (n := 6) (q := w0) rfl rfl hw dX8_sending_5 ?_
  refine lv_istore_n (lv' := [(3, .int (M 88 w0)), (0, .ref (fad E 86)), (1, .int w), (2, .int x)]) hx hb dX8_sending_6 rfl hl (by decide) rfl (fun ls hl => ?_)
  refine lv_iload_n hx hb dX8_sending_7 rfl (lv_at hl 0 rfl) ?_
  refine lv_iconst (v := 4) hx hb dX8_sending_8 (by decide) ?_
  refine lv_icmp_eq (tgt := 18) hx hb dX8_sending_9 (by decide) (fun c_9 => ?_) (fun c_9 => ?_)
  · refine lv_iconst (v := 1) hx hb dX8_sending_18 (by decide) ?_
    refine lv_goto (tgt := 23) hx hb dX8_sending_19 (by decide) ?_
    refine lv_istore (lv' := [(4, .int 1), (3, .int (M 88 w0)), (0, .ref (fad E 86)), (1, .int w), (2, .int x)]) hx hb dX8_sending_23 hl (by decide) rfl (fun ls hl => ?_)
    refine lv_iload_n hx hb dX8_sending_25 rfl (lv_at hl 1 rfl) ?_
    refine lv_iconst (v := 5) hx hb dX8_sending_26 (by decide) ?_
    refine lv_icmp_ne (tgt := 36) hx hb dX8_sending_27 (by decide) (fun c_27 => ?_) (fun c_27 => by exact absurd (c_9.symm.trans c_27) (by decide))
    refine lv_iload hx hb dX8_sending_36 (lv_at hl 0 rfl) ?_
    refine lv_if_eq (tgt := 47) hx hb dX8_sending_38 (by decide) (fun c_38 => absurd c_38 (by decide)) (fun _ => ?_)
    refine lv_aload_n hx hb dX8_sending_41 rfl (lv_at hl 2 rfl) ?_
    refine lv_bipush (v := 50) hx hb dX8_sending_42 (by decide) ?_
    refine f_vV (n := 1) X hP hS [.int 50] [] (c_X8_body l E M L 50 n0 hrB (by omega)) m_6_113 wi_X8_body rfl rfl (by decide) (by decide +kernel) ⟨Nat.le_of_ble_eq_true rfl, Nat.le_of_ble_eq_true rfl⟩ rfl hl rfl (Nat.le_of_ble_eq_true rfl) ⟨Nat.zero_le _, Nat.zero_le _⟩ dX8_sending_44 (fun H locs hP hS => ?_)
    refine lv_aload_n hx hb dX8_sending_47 rfl (lv_at hl 2 rfl) ?_
    refine lv_bipush (v := 12) hx hb dX8_sending_48 (by decide) ?_
    refine f_vV (n := 1) X hP hS [.int 12] [] (c_X8_body l E (bodyM M 50) L 12 (n0 + 1) (rB_b hrB) (by omega)) m_6_113 wi_X8_body rfl rfl (by decide) (by decide +kernel) ⟨Nat.le_of_ble_eq_true rfl, Nat.le_of_ble_eq_true rfl⟩ rfl hl rfl (Nat.le_of_ble_eq_true rfl) ⟨Nat.zero_le _, Nat.zero_le _⟩ dX8_sending_50 (fun H locs hP hS => ?_)
    refine lv_aload_n hx hb dX8_sending_53 rfl (lv_at hl 2 rfl) ?_
    refine lv_iload_n hx hb dX8_sending_54 rfl (lv_at hl 3 rfl) ?_
    refine lv_iload_n hx hb dX8_sending_55 rfl (lv_at hl 4 rfl) ?_
    refine f_iV (n := 2) X hP hS [.int w, .int x] [] (c_X8_looking l E (bodyM (bodyM M 50) 12) L w x w0 (n0 + 2) hw (rB_b (rB_b hrB)) (by omega)) m_6_117 wi_X8_looking rfl rfl (by decide) (by decide +kernel) ⟨Nat.le_of_ble_eq_true rfl, Nat.le_of_ble_eq_true rfl⟩ rfl hl rfl (Nat.le_of_ble_eq_true rfl) ⟨Nat.zero_le _, Nat.zero_le _⟩ dX8_sending_56 (fun H locs hP hS => ?_)
    refine lv_istore (lv' := [(5, .int ((a_X8_looking (bodyM (bodyM M 50) 12) L w x w0 (n0 + 2)).1)), (4, .int 1), (3, .int (M 88 w0)), (0, .ref (fad E 86)), (1, .int w), (2, .int x)]) hx hb dX8_sending_59 hl (by decide) rfl (fun ls hl => ?_)
    refine lv_iload hx hb dX8_sending_61 (lv_at hl 0 rfl) ?_
    refine lv_aload_n hx hb dX8_sending_63 rfl (lv_at hl 3 rfl) ?_
    refine lv_iload_n hx hb dX8_sending_64 rfl (lv_at hl 4 rfl) ?_
    refine lv_iload_n hx hb dX8_sending_65 rfl (lv_at hl 5 rfl) ?_
    refine lv_aload_n hx hb dX8_sending_66 rfl (lv_at hl 3 rfl) ?_
    refine f_get X hP (T := TX8) (ci := 8) (k := 86) rfl inX8 rfl 10 (by decide) m_4_184 rfl (v := .ref (fad E 89)) rfl dX8_sending_67 ?_
    refine lv_iload_n hx hb dX8_sending_70 rfl (lv_at hl 4 rfl) ?_
    refine f_iald X hP (k := 89) (n := 6) (q := w0) rfl rfl hw dX8_sending_71 ?_
    refine lv_isub hx hb dX8_sending_72 ?_
    refine f_iV (n := 2) X hP hS [.int w, .int (x - ((a_X8_looking (bodyM (bodyM M 50) 12) L w x w0 (n0 + 2)).2.1 89 w0))] [.int ((a_X8_looking (bodyM (bodyM M 50) 12) L w x w0 (n0 + 2)).1)] (c_X8_waiting l E (a_X8_looking (bodyM (bodyM M 50) 12) L w x w0 (n0 + 2)).2.1 L w (x - ((a_X8_looking (bodyM (bodyM M 50) 12) L w x w0 (n0 + 2)).2.1 89 w0)) w0 (n0 + 20) hw (by first | exact rB_mono (look_rB (rB_b hrB)) (by omega) | exact rB_mono (look_rB (rB_b (rB_b hrB))) (by omega)) (by omega)) m_6_109 wi_X8_waiting rfl rfl (by decide) (by decide +kernel) ⟨Nat.le_of_ble_eq_true rfl, Nat.le_of_ble_eq_true rfl⟩ rfl hl rfl (Nat.le_of_ble_eq_true rfl) ⟨Nat.zero_le _, Nat.zero_le _⟩ dX8_sending_73 (fun H locs hP hS => ?_)
    refine lv_ixor hx hb dX8_sending_76 ?_
    refine lv_istore (lv' := [(5, .int (((a_X8_looking (bodyM (bodyM M 50) 12) L w x w0 (n0 + 2)).1) ^^^ ((a_X8_waiting (a_X8_looking (bodyM (bodyM M 50) 12) L w x w0 (n0 + 2)).2.1 L w (x - ((a_X8_looking (bodyM (bodyM M 50) 12) L w x w0 (n0 + 2)).2.1 89 w0)) w0 (n0 + 20)).1))), (4, .int 1), (3, .int (M 88 w0)), (0, .ref (fad E 86)), (1, .int w), (2, .int x)]) hx hb dX8_sending_77 hl (by decide) rfl (fun ls hl => ?_)
    refine lv_iload hx hb dX8_sending_79 (lv_at hl 1 rfl) ?_
    refine lv_if_eq (tgt := 90) hx hb dX8_sending_81 (by decide) (fun c_81 => absurd c_81 (by decide)) (fun _ => ?_)
    refine lv_iload hx hb dX8_sending_84 (lv_at hl 0 rfl) ?_
    refine lv_ineg hx hb dX8_sending_86 ?_
    refine lv_goto (tgt := 104) hx hb dX8_sending_87 (by decide) ?_
    refine f_ir X hlk hr (v := (-(((a_X8_looking (bodyM (bodyM M 50) 12) L w x w0 (n0 + 2)).1) ^^^ ((a_X8_waiting (a_X8_looking (bodyM (bodyM M 50) 12) L w x w0 (n0 + 2)).2.1 L w (x - ((a_X8_looking (bodyM (bodyM M 50) 12) L w x w0 (n0 + 2)).2.1 89 w0)) w0 (n0 + 20)).1)))) rfl hP hS ?_ dX8_sending_104
    unfold a_X8_sending
    (first | rw [if_pos c_9] | rw [if_neg c_9] | rw [if_neg (Bool.eq_false_iff.mp c_9)] | skip)
    (try dsimp only)
    first
      | done
      | exact ⟨rfl, rfl⟩
      | rfl
      | (simp only [c_9, if_true, if_false, and_self, and_true, true_and, not_true_eq_false, not_false_eq_true, and_false, false_and, or_true, true_or, or_false, false_or, or_self, Bool.false_eq_true, reduceCtorEq, nl10, nl20, nl30, nl40, nl50, nl60, nl70, nl12, nl13, nl21, nl23, nl31, nl32]; first | done | exact ⟨rfl, rfl⟩ | rfl)
      | contradiction
      | (simp only [c_9, if_true, if_false, and_self, and_true, true_and, not_true_eq_false, not_false_eq_true, and_false, false_and, or_true, true_or, or_false, false_or, or_self, Bool.false_eq_true, reduceCtorEq, nl10, nl20, nl30, nl40, nl50, nl60, nl70, nl12, nl13, nl21, nl23, nl31, nl32]; contradiction)
      | (exfalso; simp_all; done)
      | simp_all
  · refine lv_iload_n hx hb dX8_sending_12 rfl (lv_at hl 0 rfl) ?_
    refine lv_bipush (v := 6) hx hb dX8_sending_13 (by decide) ?_
    refine lv_icmp_ne (tgt := 22) hx hb dX8_sending_15 (by decide) (fun c_15 => ?_) (fun c_15 => ?_)
    · refine lv_iconst (v := 0) hx hb dX8_sending_22 (by decide) ?_
      refine lv_istore (lv' := [(4, .int 0), (3, .int (M 88 w0)), (0, .ref (fad E 86)), (1, .int w), (2, .int x)]) hx hb dX8_sending_23 hl (by decide) rfl (fun ls hl => ?_)
      refine lv_iload_n hx hb dX8_sending_25 rfl (lv_at hl 1 rfl) ?_
      refine lv_iconst (v := 5) hx hb dX8_sending_26 (by decide) ?_
      refine lv_icmp_ne (tgt := 36) hx hb dX8_sending_27 (by decide) (fun c_27 => ?_) (fun c_27 => ?_)
      · refine lv_iload hx hb dX8_sending_36 (lv_at hl 0 rfl) ?_
        refine lv_if_eq (tgt := 47) hx hb dX8_sending_38 (by decide) (fun _ => ?_) (fun c_38 => absurd c_38 (by decide))
        refine lv_aload_n hx hb dX8_sending_47 rfl (lv_at hl 2 rfl) ?_
        refine lv_bipush (v := 12) hx hb dX8_sending_48 (by decide) ?_
        refine f_vV (n := 1) X hP hS [.int 12] [] (c_X8_body l E M L 12 n0 hrB (by omega)) m_6_113 wi_X8_body rfl rfl (by decide) (by decide +kernel) ⟨Nat.le_of_ble_eq_true rfl, Nat.le_of_ble_eq_true rfl⟩ rfl hl rfl (Nat.le_of_ble_eq_true rfl) ⟨Nat.zero_le _, Nat.zero_le _⟩ dX8_sending_50 (fun H locs hP hS => ?_)
        refine lv_aload_n hx hb dX8_sending_53 rfl (lv_at hl 2 rfl) ?_
        refine lv_iload_n hx hb dX8_sending_54 rfl (lv_at hl 3 rfl) ?_
        refine lv_iload_n hx hb dX8_sending_55 rfl (lv_at hl 4 rfl) ?_
        refine f_iV (n := 2) X hP hS [.int w, .int x] [] (c_X8_looking l E (bodyM M 12) L w x w0 (n0 + 1) hw (rB_b hrB) (by omega)) m_6_117 wi_X8_looking rfl rfl (by decide) (by decide +kernel) ⟨Nat.le_of_ble_eq_true rfl, Nat.le_of_ble_eq_true rfl⟩ rfl hl rfl (Nat.le_of_ble_eq_true rfl) ⟨Nat.zero_le _, Nat.zero_le _⟩ dX8_sending_56 (fun H locs hP hS => ?_)
        refine lv_istore (lv' := [(5, .int ((a_X8_looking (bodyM M 12) L w x w0 (n0 + 1)).1)), (4, .int 0), (3, .int (M 88 w0)), (0, .ref (fad E 86)), (1, .int w), (2, .int x)]) hx hb dX8_sending_59 hl (by decide) rfl (fun ls hl => ?_)
        refine lv_iload hx hb dX8_sending_61 (lv_at hl 0 rfl) ?_
        refine lv_aload_n hx hb dX8_sending_63 rfl (lv_at hl 3 rfl) ?_
        refine lv_iload_n hx hb dX8_sending_64 rfl (lv_at hl 4 rfl) ?_
        refine lv_iload_n hx hb dX8_sending_65 rfl (lv_at hl 5 rfl) ?_
        refine lv_aload_n hx hb dX8_sending_66 rfl (lv_at hl 3 rfl) ?_
        refine f_get X hP (T := TX8) (ci := 8) (k := 86) rfl inX8 rfl 10 (by decide) m_4_184 rfl (v := .ref (fad E 89)) rfl dX8_sending_67 ?_
        refine lv_iload_n hx hb dX8_sending_70 rfl (lv_at hl 4 rfl) ?_
        refine f_iald X hP (k := 89) (n := 6) (q := w0) rfl rfl hw dX8_sending_71 ?_
        refine lv_isub hx hb dX8_sending_72 ?_
        refine f_iV (n := 2) X hP hS [.int w, .int (x - ((a_X8_looking (bodyM M 12) L w x w0 (n0 + 1)).2.1 89 w0))] [.int ((a_X8_looking (bodyM M 12) L w x w0 (n0 + 1)).1)] (c_X8_waiting l E (a_X8_looking (bodyM M 12) L w x w0 (n0 + 1)).2.1 L w (x - ((a_X8_looking (bodyM M 12) L w x w0 (n0 + 1)).2.1 89 w0)) w0 (n0 + 20) hw (by first | exact rB_mono (look_rB (rB_b hrB)) (by omega) | exact rB_mono (look_rB (rB_b (rB_b hrB))) (by omega)) (by omega)) m_6_109 wi_X8_waiting rfl rfl (by decide) (by decide +kernel) ⟨Nat.le_of_ble_eq_true rfl, Nat.le_of_ble_eq_true rfl⟩ rfl hl rfl (Nat.le_of_ble_eq_true rfl) ⟨Nat.zero_le _, Nat.zero_le _⟩ dX8_sending_73 (fun H locs hP hS => ?_)
        refine lv_ixor hx hb dX8_sending_76 ?_
        refine lv_istore (lv' := [(5, .int (((a_X8_looking (bodyM M 12) L w x w0 (n0 + 1)).1) ^^^ ((a_X8_waiting (a_X8_looking (bodyM M 12) L w x w0 (n0 + 1)).2.1 L w (x - ((a_X8_looking (bodyM M 12) L w x w0 (n0 + 1)).2.1 89 w0)) w0 (n0 + 20)).1))), (4, .int 0), (3, .int (M 88 w0)), (0, .ref (fad E 86)), (1, .int w), (2, .int x)]) hx hb dX8_sending_77 hl (by decide) rfl (fun ls hl => ?_)
        refine lv_iload hx hb dX8_sending_79 (lv_at hl 1 rfl) ?_
        refine lv_if_eq (tgt := 90) hx hb dX8_sending_81 (by decide) (fun _ => ?_) (fun c_81 => absurd c_81 (by decide))
        refine lv_iload_n hx hb dX8_sending_90 rfl (lv_at hl 2 rfl) ?_
        refine lv_iconst (v := 5) hx hb dX8_sending_91 (by decide) ?_
        refine lv_icmp_ne (tgt := 102) hx hb dX8_sending_92 (by decide) (fun c_92 => ?_) (fun c_92 => by exact absurd c_92 c_27)
        refine lv_iload hx hb dX8_sending_102 (lv_at hl 0 rfl) ?_
        refine f_ir X hlk hr (v := (((a_X8_looking (bodyM M 12) L w x w0 (n0 + 1)).1) ^^^ ((a_X8_waiting (a_X8_looking (bodyM M 12) L w x w0 (n0 + 1)).2.1 L w (x - ((a_X8_looking (bodyM M 12) L w x w0 (n0 + 1)).2.1 89 w0)) w0 (n0 + 20)).1))) rfl hP hS ?_ dX8_sending_104
        unfold a_X8_sending
        (first | rw [if_pos c_9] | rw [if_neg c_9] | rw [if_neg (Bool.eq_false_iff.mp c_9)] | skip)
        (first | rw [if_pos c_15] | rw [if_neg c_15] | rw [if_neg (Bool.eq_false_iff.mp c_15)] | skip)
        (first | rw [if_pos c_27] | rw [if_neg c_27] | rw [if_neg (Bool.eq_false_iff.mp c_27)] | skip)
        (try dsimp only)
        first
          | done
          | exact ⟨rfl, rfl⟩
          | rfl
          | (simp only [c_9, c_15, c_27, if_true, if_false, and_self, and_true, true_and, not_true_eq_false, not_false_eq_true, and_false, false_and, or_true, true_or, or_false, false_or, or_self, Bool.false_eq_true, reduceCtorEq, nl10, nl20, nl30, nl40, nl50, nl60, nl70, nl12, nl13, nl21, nl23, nl31, nl32]; first | done | exact ⟨rfl, rfl⟩ | rfl)
          | contradiction
          | (simp only [c_9, c_15, c_27, if_true, if_false, and_self, and_true, true_and, not_true_eq_false, not_false_eq_true, and_false, false_and, or_true, true_or, or_false, false_or, or_self, Bool.false_eq_true, reduceCtorEq, nl10, nl20, nl30, nl40, nl50, nl60, nl70, nl12, nl13, nl21, nl23, nl31, nl32]; contradiction)
          | (exfalso; simp_all; done)
          | simp_all
      · refine lv_aload_n hx hb dX8_sending_30 rfl (lv_at hl 2 rfl) ?_
        refine lv_bipush (v := 60) hx hb dX8_sending_31 (by decide) ?_
        refine f_vV (n := 1) X hP hS [.int 60] [] (c_X8_body l E M L 60 n0 hrB (by omega)) m_6_113 wi_X8_body rfl rfl (by decide) (by decide +kernel) ⟨Nat.le_of_ble_eq_true rfl, Nat.le_of_ble_eq_true rfl⟩ rfl hl rfl (Nat.le_of_ble_eq_true rfl) ⟨Nat.zero_le _, Nat.zero_le _⟩ dX8_sending_33 (fun H locs hP hS => ?_)
        refine lv_iload hx hb dX8_sending_36 (lv_at hl 0 rfl) ?_
        refine lv_if_eq (tgt := 47) hx hb dX8_sending_38 (by decide) (fun _ => ?_) (fun c_38 => absurd c_38 (by decide))
        refine lv_aload_n hx hb dX8_sending_47 rfl (lv_at hl 2 rfl) ?_
        refine lv_bipush (v := 12) hx hb dX8_sending_48 (by decide) ?_
        refine f_vV (n := 1) X hP hS [.int 12] [] (c_X8_body l E (bodyM M 60) L 12 (n0 + 1) (rB_b hrB) (by omega)) m_6_113 wi_X8_body rfl rfl (by decide) (by decide +kernel) ⟨Nat.le_of_ble_eq_true rfl, Nat.le_of_ble_eq_true rfl⟩ rfl hl rfl (Nat.le_of_ble_eq_true rfl) ⟨Nat.zero_le _, Nat.zero_le _⟩ dX8_sending_50 (fun H locs hP hS => ?_)
        refine lv_aload_n hx hb dX8_sending_53 rfl (lv_at hl 2 rfl) ?_
        refine lv_iload_n hx hb dX8_sending_54 rfl (lv_at hl 3 rfl) ?_
        refine lv_iload_n hx hb dX8_sending_55 rfl (lv_at hl 4 rfl) ?_
        refine f_iV (n := 2) X hP hS [.int w, .int x] [] (c_X8_looking l E (bodyM (bodyM M 60) 12) L w x w0 (n0 + 2) hw (rB_b (rB_b hrB)) (by omega)) m_6_117 wi_X8_looking rfl rfl (by decide) (by decide +kernel) ⟨Nat.le_of_ble_eq_true rfl, Nat.le_of_ble_eq_true rfl⟩ rfl hl rfl (Nat.le_of_ble_eq_true rfl) ⟨Nat.zero_le _, Nat.zero_le _⟩ dX8_sending_56 (fun H locs hP hS => ?_)
        refine lv_istore (lv' := [(5, .int ((a_X8_looking (bodyM (bodyM M 60) 12) L w x w0 (n0 + 2)).1)), (4, .int 0), (3, .int (M 88 w0)), (0, .ref (fad E 86)), (1, .int w), (2, .int x)]) hx hb dX8_sending_59 hl (by decide) rfl (fun ls hl => ?_)
        refine lv_iload hx hb dX8_sending_61 (lv_at hl 0 rfl) ?_
        refine lv_aload_n hx hb dX8_sending_63 rfl (lv_at hl 3 rfl) ?_
        refine lv_iload_n hx hb dX8_sending_64 rfl (lv_at hl 4 rfl) ?_
        refine lv_iload_n hx hb dX8_sending_65 rfl (lv_at hl 5 rfl) ?_
        refine lv_aload_n hx hb dX8_sending_66 rfl (lv_at hl 3 rfl) ?_
        refine f_get X hP (T := TX8) (ci := 8) (k := 86) rfl inX8 rfl 10 (by decide) m_4_184 rfl (v := .ref (fad E 89)) rfl dX8_sending_67 ?_
        refine lv_iload_n hx hb dX8_sending_70 rfl (lv_at hl 4 rfl) ?_
        refine f_iald X hP (k := 89) (n := 6) (q := w0) rfl rfl hw dX8_sending_71 ?_
        refine lv_isub hx hb dX8_sending_72 ?_
        refine f_iV (n := 2) X hP hS [.int w, .int (x - ((a_X8_looking (bodyM (bodyM M 60) 12) L w x w0 (n0 + 2)).2.1 89 w0))] [.int ((a_X8_looking (bodyM (bodyM M 60) 12) L w x w0 (n0 + 2)).1)] (c_X8_waiting l E (a_X8_looking (bodyM (bodyM M 60) 12) L w x w0 (n0 + 2)).2.1 L w (x - ((a_X8_looking (bodyM (bodyM M 60) 12) L w x w0 (n0 + 2)).2.1 89 w0)) w0 (n0 + 20) hw (by first | exact rB_mono (look_rB (rB_b hrB)) (by omega) | exact rB_mono (look_rB (rB_b (rB_b hrB))) (by omega)) (by omega)) m_6_109 wi_X8_waiting rfl rfl (by decide) (by decide +kernel) ⟨Nat.le_of_ble_eq_true rfl, Nat.le_of_ble_eq_true rfl⟩ rfl hl rfl (Nat.le_of_ble_eq_true rfl) ⟨Nat.zero_le _, Nat.zero_le _⟩ dX8_sending_73 (fun H locs hP hS => ?_)
        refine lv_ixor hx hb dX8_sending_76 ?_
        refine lv_istore (lv' := [(5, .int (((a_X8_looking (bodyM (bodyM M 60) 12) L w x w0 (n0 + 2)).1) ^^^ ((a_X8_waiting (a_X8_looking (bodyM (bodyM M 60) 12) L w x w0 (n0 + 2)).2.1 L w (x - ((a_X8_looking (bodyM (bodyM M 60) 12) L w x w0 (n0 + 2)).2.1 89 w0)) w0 (n0 + 20)).1))), (4, .int 0), (3, .int (M 88 w0)), (0, .ref (fad E 86)), (1, .int w), (2, .int x)]) hx hb dX8_sending_77 hl (by decide) rfl (fun ls hl => ?_)
        refine lv_iload hx hb dX8_sending_79 (lv_at hl 1 rfl) ?_
        refine lv_if_eq (tgt := 90) hx hb dX8_sending_81 (by decide) (fun _ => ?_) (fun c_81 => absurd c_81 (by decide))
        refine lv_iload_n hx hb dX8_sending_90 rfl (lv_at hl 2 rfl) ?_
        refine lv_iconst (v := 5) hx hb dX8_sending_91 (by decide) ?_
        refine lv_icmp_ne (tgt := 102) hx hb dX8_sending_92 (by decide) (fun c_92 => by exact absurd c_27 c_92) (fun c_92 => ?_)
        refine lv_iload hx hb dX8_sending_95 (lv_at hl 0 rfl) ?_
        refine lv_iconst (v := 5) hx hb dX8_sending_97 (by decide) ?_
        refine lv_ixor hx hb dX8_sending_98 ?_
        refine lv_goto (tgt := 104) hx hb dX8_sending_99 (by decide) ?_
        refine f_ir X hlk hr (v := ((((a_X8_looking (bodyM (bodyM M 60) 12) L w x w0 (n0 + 2)).1) ^^^ ((a_X8_waiting (a_X8_looking (bodyM (bodyM M 60) 12) L w x w0 (n0 + 2)).2.1 L w (x - ((a_X8_looking (bodyM (bodyM M 60) 12) L w x w0 (n0 + 2)).2.1 89 w0)) w0 (n0 + 20)).1)) ^^^ 5)) rfl hP hS ?_ dX8_sending_104
        unfold a_X8_sending
        (first | rw [if_pos c_9] | rw [if_neg c_9] | rw [if_neg (Bool.eq_false_iff.mp c_9)] | skip)
        (first | rw [if_pos c_15] | rw [if_neg c_15] | rw [if_neg (Bool.eq_false_iff.mp c_15)] | skip)
        (first | rw [if_pos c_27] | rw [if_neg c_27] | rw [if_neg (Bool.eq_false_iff.mp c_27)] | skip)
        (try dsimp only)
        first
          | done
          | exact ⟨rfl, rfl⟩
          | rfl
          | (simp only [c_9, c_15, c_27, if_true, if_false, and_self, and_true, true_and, not_true_eq_false, not_false_eq_true, and_false, false_and, or_true, true_or, or_false, false_or, or_self, Bool.false_eq_true, reduceCtorEq, nl10, nl20, nl30, nl40, nl50, nl60, nl70, nl12, nl13, nl21, nl23, nl31, nl32]; first | done | exact ⟨rfl, rfl⟩ | rfl)
          | contradiction
          | (simp only [c_9, c_15, c_27, if_true, if_false, and_self, and_true, true_and, not_true_eq_false, not_false_eq_true, and_false, false_and, or_true, true_or, or_false, false_or, or_self, Bool.false_eq_true, reduceCtorEq, nl10, nl20, nl30, nl40, nl50, nl60, nl70, nl12, nl13, nl21, nl23, nl31, nl32]; contradiction)
          | (exfalso; simp_all; done)
          | simp_all
    · refine lv_iconst (v := 1) hx hb dX8_sending_18 (by decide) ?_
      refine lv_goto (tgt := 23) hx hb dX8_sending_19 (by decide) ?_
      refine lv_istore (lv' := [(4, .int 1), (3, .int (M 88 w0)), (0, .ref (fad E 86)), (1, .int w), (2, .int x)]) hx hb dX8_sending_23 hl (by decide) rfl (fun ls hl => ?_)
      refine lv_iload_n hx hb dX8_sending_25 rfl (lv_at hl 1 rfl) ?_
      refine lv_iconst (v := 5) hx hb dX8_sending_26 (by decide) ?_
      refine lv_icmp_ne (tgt := 36) hx hb dX8_sending_27 (by decide) (fun c_27 => ?_) (fun c_27 => by exact absurd (c_15.symm.trans c_27) (by decide))
      refine lv_iload hx hb dX8_sending_36 (lv_at hl 0 rfl) ?_
      refine lv_if_eq (tgt := 47) hx hb dX8_sending_38 (by decide) (fun c_38 => absurd c_38 (by decide)) (fun _ => ?_)
      refine lv_aload_n hx hb dX8_sending_41 rfl (lv_at hl 2 rfl) ?_
      refine lv_bipush (v := 50) hx hb dX8_sending_42 (by decide) ?_
      refine f_vV (n := 1) X hP hS [.int 50] [] (c_X8_body l E M L 50 n0 hrB (by omega)) m_6_113 wi_X8_body rfl rfl (by decide) (by decide +kernel) ⟨Nat.le_of_ble_eq_true rfl, Nat.le_of_ble_eq_true rfl⟩ rfl hl rfl (Nat.le_of_ble_eq_true rfl) ⟨Nat.zero_le _, Nat.zero_le _⟩ dX8_sending_44 (fun H locs hP hS => ?_)
      refine lv_aload_n hx hb dX8_sending_47 rfl (lv_at hl 2 rfl) ?_
      refine lv_bipush (v := 12) hx hb dX8_sending_48 (by decide) ?_
      refine f_vV (n := 1) X hP hS [.int 12] [] (c_X8_body l E (bodyM M 50) L 12 (n0 + 1) (rB_b hrB) (by omega)) m_6_113 wi_X8_body rfl rfl (by decide) (by decide +kernel) ⟨Nat.le_of_ble_eq_true rfl, Nat.le_of_ble_eq_true rfl⟩ rfl hl rfl (Nat.le_of_ble_eq_true rfl) ⟨Nat.zero_le _, Nat.zero_le _⟩ dX8_sending_50 (fun H locs hP hS => ?_)
      refine lv_aload_n hx hb dX8_sending_53 rfl (lv_at hl 2 rfl) ?_
      refine lv_iload_n hx hb dX8_sending_54 rfl (lv_at hl 3 rfl) ?_
      refine lv_iload_n hx hb dX8_sending_55 rfl (lv_at hl 4 rfl) ?_
      refine f_iV (n := 2) X hP hS [.int w, .int x] [] (c_X8_looking l E (bodyM (bodyM M 50) 12) L w x w0 (n0 + 2) hw (rB_b (rB_b hrB)) (by omega)) m_6_117 wi_X8_looking rfl rfl (by decide) (by decide +kernel) ⟨Nat.le_of_ble_eq_true rfl, Nat.le_of_ble_eq_true rfl⟩ rfl hl rfl (Nat.le_of_ble_eq_true rfl) ⟨Nat.zero_le _, Nat.zero_le _⟩ dX8_sending_56 (fun H locs hP hS => ?_)
      refine lv_istore (lv' := [(5, .int ((a_X8_looking (bodyM (bodyM M 50) 12) L w x w0 (n0 + 2)).1)), (4, .int 1), (3, .int (M 88 w0)), (0, .ref (fad E 86)), (1, .int w), (2, .int x)]) hx hb dX8_sending_59 hl (by decide) rfl (fun ls hl => ?_)
      refine lv_iload hx hb dX8_sending_61 (lv_at hl 0 rfl) ?_
      refine lv_aload_n hx hb dX8_sending_63 rfl (lv_at hl 3 rfl) ?_
      refine lv_iload_n hx hb dX8_sending_64 rfl (lv_at hl 4 rfl) ?_
      refine lv_iload_n hx hb dX8_sending_65 rfl (lv_at hl 5 rfl) ?_
      refine lv_aload_n hx hb dX8_sending_66 rfl (lv_at hl 3 rfl) ?_
      refine f_get X hP (T := TX8) (ci := 8) (k := 86) rfl inX8 rfl 10 (by decide) m_4_184 rfl (v := .ref (fad E 89)) rfl dX8_sending_67 ?_
      refine lv_iload_n hx hb dX8_sending_70 rfl (lv_at hl 4 rfl) ?_
      refine f_iald X hP (k := 89) (n := 6) (q := w0) rfl rfl hw dX8_sending_71 ?_
      refine lv_isub hx hb dX8_sending_72 ?_
      refine f_iV (n := 2) X hP hS [.int w, .int (x - ((a_X8_looking (bodyM (bodyM M 50) 12) L w x w0 (n0 + 2)).2.1 89 w0))] [.int ((a_X8_looking (bodyM (bodyM M 50) 12) L w x w0 (n0 + 2)).1)] (c_X8_waiting l E (a_X8_looking (bodyM (bodyM M 50) 12) L w x w0 (n0 + 2)).2.1 L w (x - ((a_X8_looking (bodyM (bodyM M 50) 12) L w x w0 (n0 + 2)).2.1 89 w0)) w0 (n0 + 20) hw (by first | exact rB_mono (look_rB (rB_b hrB)) (by omega) | exact rB_mono (look_rB (rB_b (rB_b hrB))) (by omega)) (by omega)) m_6_109 wi_X8_waiting rfl rfl (by decide) (by decide +kernel) ⟨Nat.le_of_ble_eq_true rfl, Nat.le_of_ble_eq_true rfl⟩ rfl hl rfl (Nat.le_of_ble_eq_true rfl) ⟨Nat.zero_le _, Nat.zero_le _⟩ dX8_sending_73 (fun H locs hP hS => ?_)
      refine lv_ixor hx hb dX8_sending_76 ?_
      refine lv_istore (lv' := [(5, .int (((a_X8_looking (bodyM (bodyM M 50) 12) L w x w0 (n0 + 2)).1) ^^^ ((a_X8_waiting (a_X8_looking (bodyM (bodyM M 50) 12) L w x w0 (n0 + 2)).2.1 L w (x - ((a_X8_looking (bodyM (bodyM M 50) 12) L w x w0 (n0 + 2)).2.1 89 w0)) w0 (n0 + 20)).1))), (4, .int 1), (3, .int (M 88 w0)), (0, .ref (fad E 86)), (1, .int w), (2, .int x)]) hx hb dX8_sending_77 hl (by decide) rfl (fun ls hl => ?_)
      refine lv_iload hx hb dX8_sending_79 (lv_at hl 1 rfl) ?_
      refine lv_if_eq (tgt := 90) hx hb dX8_sending_81 (by decide) (fun c_81 => absurd c_81 (by decide)) (fun _ => ?_)
      refine lv_iload hx hb dX8_sending_84 (lv_at hl 0 rfl) ?_
      refine lv_ineg hx hb dX8_sending_86 ?_
      refine lv_goto (tgt := 104) hx hb dX8_sending_87 (by decide) ?_
      refine f_ir X hlk hr (v := (-(((a_X8_looking (bodyM (bodyM M 50) 12) L w x w0 (n0 + 2)).1) ^^^ ((a_X8_waiting (a_X8_looking (bodyM (bodyM M 50) 12) L w x w0 (n0 + 2)).2.1 L w (x - ((a_X8_looking (bodyM (bodyM M 50) 12) L w x w0 (n0 + 2)).2.1 89 w0)) w0 (n0 + 20)).1)))) rfl hP hS ?_ dX8_sending_104
      unfold a_X8_sending
      (first | rw [if_pos c_9] | rw [if_neg c_9] | rw [if_neg (Bool.eq_false_iff.mp c_9)] | skip)
      (first | rw [if_pos c_15] | rw [if_neg c_15] | rw [if_neg (Bool.eq_false_iff.mp c_15)] | skip)
      (try dsimp only)
      first
        | done
        | exact ⟨rfl, rfl⟩
        | rfl
        | (simp only [c_9, c_15, if_true, if_false, and_self, and_true, true_and, not_true_eq_false, not_false_eq_true, and_false, false_and, or_true, true_or, or_false, false_or, or_self, Bool.false_eq_true, reduceCtorEq, nl10, nl20, nl30, nl40, nl50, nl60, nl70, nl12, nl13, nl21, nl23, nl31, nl32]; first | done | exact ⟨rfl, rfl⟩ | rfl)
        | contradiction
        | (simp only [c_9, c_15, if_true, if_false, and_self, and_true, true_and, not_true_eq_false, not_false_eq_true, and_false, false_and, or_true, true_or, or_false, false_or, or_self, Bool.false_eq_true, reduceCtorEq, nl10, nl20, nl30, nl40, nl50, nl60, nl70, nl12, nl13, nl21, nl23, nl31, nl32]; contradiction)
        | (exfalso; simp_all; done)
        | simp_all

def a_X8_act (M : Nat → Nat → Int32) (L : Nat → Nat → Int64) (w : Int32) (mv : Int32) (x : Int32) (wc : Nat) : fR := (if (0 ≤ w ∧ w < (M 86 0)) then (if mv < 0 then (0, (up2 M 86 45 0), L) else (if mv ≤ 2 then (if mv = 0 then (((a_X8_waiting (up2 M 86 45 0) L w x w.toNatClampNeg 0).1), (a_X8_waiting (up2 M 86 45 0) L w x w.toNatClampNeg 0).2.1, L) else (if mv = 1 then (((a_X8_looking (up2 M 86 45 0) L w x w.toNatClampNeg 0).1), (a_X8_looking (up2 M 86 45 0) L w x w.toNatClampNeg 0).2.1, L) else (((a_X8_sending (up2 M 86 45 0) L w x w.toNatClampNeg 0).1), (a_X8_sending (up2 M 86 45 0) L w x w.toNatClampNeg 0).2.1, L))) else (0, (up2 M 86 45 0), L))) else (0, (up2 M 86 45 0), L))
set_option maxHeartbeats 1000000 in
set_option maxRecDepth 100000 in
theorem c_X8_act (l : Launch) (E : fE) (M : Nat → Nat → Int32) (L : Nat → Nat → Int64) (w : Int32) (mv : Int32) (x : Int32) (wc : Nat) (hwc : M 86 0 = nI wc) (hwc6 : wc ≤ 6) : Met l yX8_act (wl yX8_act cX8_act 4 (some .int)) (fRm 4 99) (va_Pc [.ref (fad E 86), .int w, .int mv, .int x] (fPre E M L)) (fQi E (fun r u => u = ((a_X8_act M L w mv x wc).2.1, L) ∧ r = (a_X8_act M L w mv x wc).1)) 0 0 (fA E) := by
  refine f_head (by decide) (Nat.le_of_ble_eq_true rfl) ?_
  intro pg ev s mi below meth cd ls X hr hlk hP hS hl
  have hx := X.1.1
  have hb := X.1.2.1
  have hl : lv_has ls 4 [(0, .ref (fad E 86)), (1, .int w), (2, .int mv), (3, .int x)] := hl
  refine lv_aload_n hx hb dX8_act_0 rfl (lv_at hl 0 rfl) ?_
  refine lv_iconst (v := 0) hx hb dX8_act_1 (by decide) ?_
  refine f_put X hP hS (T := TX8) (ci := 8) (k := 86) rfl inX8 rfl tyX8 tyX8_ok nmX8 45 (by decide) m_4_219 ⟨rfl, rfl⟩ rfl (v := 0) rfl rfl dX8_act_2 (fun H locs hP hS => ?_)
  refine lv_aload_n hx hb dX8_act_5 rfl (lv_at hl 0 rfl) ?_
  refine lv_iload_n hx hb dX8_act_6 rfl (lv_at hl 1 rfl) ?_
  refine f_iV (n := 1) X hP hS [.int w] [] (c_X8_isWaiter l E (up2 M 86 45 0) L w) m_5_104 wi_X8_isWaiter rfl rfl (by decide) (by decide +kernel) ⟨Nat.le_of_ble_eq_true rfl, Nat.le_of_ble_eq_true rfl⟩ rfl hl rfl (Nat.le_of_ble_eq_true rfl) ⟨Nat.zero_le _, Nat.zero_le _⟩ dX8_act_7 (fun H locs hP hS => ?_)
  refine f_topI (v := (bI (decide (0 ≤ w ∧ w < (M 86 0))))) (by rw [show ((up2 M 86 45 0) 86 0) = (M 86 0) from (up2_o _ _ (Or.inr (by decide)))] <;> rfl) ?_
  refine lv_if_eq (tgt := 22) hx hb dX8_act_10 (by decide) (fun c_10 => ?_) (fun c_10 => ?_)
  · have c_10 := bI0 c_10
    refine lv_iconst (v := 0) hx hb dX8_act_22 (by decide) ?_
    refine f_ir X hlk hr (v := 0) rfl hP hS ?_ dX8_act_23
    unfold a_X8_act
    (first | rw [if_pos c_10] | rw [if_neg c_10] | rw [if_neg (Bool.eq_false_iff.mp c_10)] | skip)
    (try dsimp only)
    first
      | done
      | exact ⟨rfl, rfl⟩
      | rfl
      | (simp only [c_10, if_true, if_false, and_self, and_true, true_and, not_true_eq_false, not_false_eq_true, and_false, false_and, or_true, true_or, or_false, false_or, or_self, Bool.false_eq_true, reduceCtorEq, nl10, nl20, nl30, nl40, nl50, nl60, nl70, nl12, nl13, nl21, nl23, nl31, nl32]; first | done | exact ⟨rfl, rfl⟩ | rfl)
      | contradiction
      | (simp only [c_10, if_true, if_false, and_self, and_true, true_and, not_true_eq_false, not_false_eq_true, and_false, false_and, or_true, true_or, or_false, false_or, or_self, Bool.false_eq_true, reduceCtorEq, nl10, nl20, nl30, nl40, nl50, nl60, nl70, nl12, nl13, nl21, nl23, nl31, nl32]; contradiction)
      | (exfalso; simp_all; done)
      | simp_all
  · have c_10 := bI1 c_10
    refine lv_iload_n hx hb dX8_act_13 rfl (lv_at hl 2 rfl) ?_
    refine lv_if_lt (tgt := 22) hx hb dX8_act_14 (by decide) (fun c_14 => ?_) (fun c_14 => ?_)
    · refine lv_iconst (v := 0) hx hb dX8_act_22 (by decide) ?_
      refine f_ir X hlk hr (v := 0) rfl hP hS ?_ dX8_act_23
      unfold a_X8_act
      (first | rw [if_pos c_10] | rw [if_neg c_10] | rw [if_neg (Bool.eq_false_iff.mp c_10)] | skip)
      (first | rw [if_pos c_14] | rw [if_neg c_14] | rw [if_neg (Bool.eq_false_iff.mp c_14)] | skip)
      (try dsimp only)
      first
        | done
        | exact ⟨rfl, rfl⟩
        | rfl
        | (simp only [c_10, c_14, if_true, if_false, and_self, and_true, true_and, not_true_eq_false, not_false_eq_true, and_false, false_and, or_true, true_or, or_false, false_or, or_self, Bool.false_eq_true, reduceCtorEq, nl10, nl20, nl30, nl40, nl50, nl60, nl70, nl12, nl13, nl21, nl23, nl31, nl32]; first | done | exact ⟨rfl, rfl⟩ | rfl)
        | contradiction
        | (simp only [c_10, c_14, if_true, if_false, and_self, and_true, true_and, not_true_eq_false, not_false_eq_true, and_false, false_and, or_true, true_or, or_false, false_or, or_self, Bool.false_eq_true, reduceCtorEq, nl10, nl20, nl30, nl40, nl50, nl60, nl70, nl12, nl13, nl21, nl23, nl31, nl32]; contradiction)
        | (exfalso; simp_all; done)
        | simp_all
    · refine lv_iload_n hx hb dX8_act_17 rfl (lv_at hl 2 rfl) ?_
      refine lv_iconst (v := 2) hx hb dX8_act_18 (by decide) ?_
      refine lv_icmp_le (tgt := 24) hx hb dX8_act_19 (by decide) (fun c_19 => ?_) (fun c_19 => ?_)
      · refine lv_iload_n hx hb dX8_act_24 rfl (lv_at hl 2 rfl) ?_
        refine lv_if_ne (tgt := 37) hx hb dX8_act_25 (by decide) (fun c_25 => ?_) (fun c_25 => ?_)
        · refine lv_iload_n hx hb dX8_act_37 rfl (lv_at hl 2 rfl) ?_
          refine lv_iconst (v := 1) hx hb dX8_act_38 (by decide) ?_
          refine lv_icmp_ne (tgt := 51) hx hb dX8_act_39 (by decide) (fun c_39 => ?_) (fun c_39 => ?_)
          · refine lv_aload_n hx hb dX8_act_51 rfl (lv_at hl 0 rfl) ?_
            refine lv_iload_n hx hb dX8_act_52 rfl (lv_at hl 1 rfl) ?_
            refine lv_iload_n hx hb dX8_act_53 rfl (lv_at hl 3 rfl) ?_
            have hix_1 : fIx w 6 w.toNatClampNeg := by
              first
                | exact fIx_lt 6 c_10.1 c_10.2 (by decide)
                | exact fIx_lt 6 c_14.1 c_14.2 (by decide)
                | exact fIx_lt 6 c_19.1 c_19.2 (by decide)
                | exact fIx_lt 6 c_25.1 c_25.2 (by decide)
                | exact fIx_lt 6 c_39.1 c_39.2 (by decide)
                | exact fIx_cnt 6 c_10.1 c_10.2 hwc hwc6 (by decide)
                | exact fIx_cnt 6 c_14.1 c_14.2 hwc hwc6 (by decide)
                | exact fIx_cnt 6 c_19.1 c_19.2 hwc hwc6 (by decide)
                | exact fIx_cnt 6 c_25.1 c_25.2 hwc hwc6 (by decide)
                | exact fIx_cnt 6 c_39.1 c_39.2 hwc hwc6 (by decide)
                | exact fIx_le 5 c_10.1 c_10.2 (by decide)
                | exact fIx_le 5 c_14.1 c_14.2 (by decide)
                | exact fIx_le 5 c_19.1 c_19.2 (by decide)
                | exact fIx_le 5 c_25.1 c_25.2 (by decide)
                | exact fIx_le 5 c_39.1 c_39.2 (by decide)
                | exact fIx_lt 6 c_10.1 c_10.2.2 (by decide)
                | exact fIx_lt 6 c_14.1 c_14.2.2 (by decide)
                | exact fIx_lt 6 c_19.1 c_19.2.2 (by decide)
                | exact fIx_lt 6 c_25.1 c_25.2.2 (by decide)
                | exact fIx_lt 6 c_39.1 c_39.2.2 (by decide)
                | exact fIx_le 5 (rr0 c_10).1.1 (rr0 c_10).1.2 (by decide)
                | exact fIx_le 5 (rr0 c_14).1.1 (rr0 c_14).1.2 (by decide)
                | exact fIx_le 5 (rr0 c_19).1.1 (rr0 c_19).1.2 (by decide)
                | exact fIx_le 5 (rr0 c_25).1.1 (rr0 c_25).1.2 (by decide)
                | exact fIx_le 5 (rr0 c_39).1.1 (rr0 c_39).1.2 (by decide)
                | (refine fIx_lt 6 (show (0 : Int32) ≤ w from ?_) (show w < (6 : Int32) from ?_) (by decide) <;> (have e0_9 : (0 : Int32).toInt = 0 := rfl; have en_9 : (6 : Int32).toInt = 6 := rfl; simp only [Int32.lt_iff_toInt_lt, Int32.le_iff_toInt_le, Int32.not_lt, Int32.not_le, ← Int32.toInt_inj] at *; omega))
            have hlt_1 := hix_1.2.2
            refine f_iV (n := 2) X hP hS [.int w, .int x] [] (c_X8_sending l E (up2 M 86 45 0) L w x w.toNatClampNeg 0 hix_1 rB_0 (by omega)) m_6_121 wi_X8_sending rfl rfl (by decide) (by decide +kernel) ⟨Nat.le_of_ble_eq_true rfl, Nat.le_of_ble_eq_true rfl⟩ rfl hl rfl (Nat.le_of_ble_eq_true rfl) ⟨Nat.zero_le _, Nat.zero_le _⟩ dX8_act_54 (fun H locs hP hS => ?_)
            refine f_ir X hlk hr (v := ((a_X8_sending (up2 M 86 45 0) L w x w.toNatClampNeg 0).1)) rfl hP hS ?_ dX8_act_57
            unfold a_X8_act
            (first | rw [if_pos c_10] | rw [if_neg c_10] | rw [if_neg (Bool.eq_false_iff.mp c_10)] | skip)
            (first | rw [if_pos c_14] | rw [if_neg c_14] | rw [if_neg (Bool.eq_false_iff.mp c_14)] | skip)
            (first | rw [if_pos c_19] | rw [if_neg c_19] | rw [if_neg (Bool.eq_false_iff.mp c_19)] | skip)
            (first | rw [if_pos c_25] | rw [if_neg c_25] | rw [if_neg (Bool.eq_false_iff.mp c_25)] | skip)
            (first | rw [if_pos c_39] | rw [if_neg c_39] | rw [if_neg (Bool.eq_false_iff.mp c_39)] | skip)
            (try dsimp only)
            first
              | done
              | exact ⟨rfl, rfl⟩
              | rfl
              | (simp only [c_10, c_14, c_19, c_25, c_39, if_true, if_false, and_self, and_true, true_and, not_true_eq_false, not_false_eq_true, and_false, false_and, or_true, true_or, or_false, false_or, or_self, Bool.false_eq_true, reduceCtorEq, nl10, nl20, nl30, nl40, nl50, nl60, nl70, nl12, nl13, nl21, nl23, nl31, nl32]; first | done | exact ⟨rfl, rfl⟩ | rfl)
              | contradiction
              | (simp only [c_10, c_14, c_19, c_25, c_39, if_true, if_false, and_self, and_true, true_and, not_true_eq_false, not_false_eq_true, and_false, false_and, or_true, true_or, or_false, false_or, or_self, Bool.false_eq_true, reduceCtorEq, nl10, nl20, nl30, nl40, nl50, nl60, nl70, nl12, nl13, nl21, nl23, nl31, nl32]; contradiction)
              | (exfalso; simp_all; done)
              | simp_all
          · refine lv_aload_n hx hb dX8_act_42 rfl (lv_at hl 0 rfl) ?_
            refine lv_iload_n hx hb dX8_act_43 rfl (lv_at hl 1 rfl) ?_
            refine lv_iload_n hx hb dX8_act_44 rfl (lv_at hl 3 rfl) ?_
            have hix_2 : fIx w 6 w.toNatClampNeg := by
              first
                | exact fIx_lt 6 c_10.1 c_10.2 (by decide)
                | exact fIx_lt 6 c_14.1 c_14.2 (by decide)
                | exact fIx_lt 6 c_19.1 c_19.2 (by decide)
                | exact fIx_lt 6 c_25.1 c_25.2 (by decide)
                | exact fIx_lt 6 c_39.1 c_39.2 (by decide)
                | exact fIx_cnt 6 c_10.1 c_10.2 hwc hwc6 (by decide)
                | exact fIx_cnt 6 c_14.1 c_14.2 hwc hwc6 (by decide)
                | exact fIx_cnt 6 c_19.1 c_19.2 hwc hwc6 (by decide)
                | exact fIx_cnt 6 c_25.1 c_25.2 hwc hwc6 (by decide)
                | exact fIx_cnt 6 c_39.1 c_39.2 hwc hwc6 (by decide)
                | exact fIx_le 5 c_10.1 c_10.2 (by decide)
                | exact fIx_le 5 c_14.1 c_14.2 (by decide)
                | exact fIx_le 5 c_19.1 c_19.2 (by decide)
                | exact fIx_le 5 c_25.1 c_25.2 (by decide)
                | exact fIx_le 5 c_39.1 c_39.2 (by decide)
                | exact fIx_lt 6 c_10.1 c_10.2.2 (by decide)
                | exact fIx_lt 6 c_14.1 c_14.2.2 (by decide)
                | exact fIx_lt 6 c_19.1 c_19.2.2 (by decide)
                | exact fIx_lt 6 c_25.1 c_25.2.2 (by decide)
                | exact fIx_lt 6 c_39.1 c_39.2.2 (by decide)
                | exact fIx_le 5 (rr0 c_10).1.1 (rr0 c_10).1.2 (by decide)
                | exact fIx_le 5 (rr0 c_14).1.1 (rr0 c_14).1.2 (by decide)
                | exact fIx_le 5 (rr0 c_19).1.1 (rr0 c_19).1.2 (by decide)
                | exact fIx_le 5 (rr0 c_25).1.1 (rr0 c_25).1.2 (by decide)
                | exact fIx_le 5 (rr0 c_39).1.1 (rr0 c_39).1.2 (by decide)
                | (refine fIx_lt 6 (show (0 : Int32) ≤ w from ?_) (show w < (6 : Int32) from ?_) (by decide) <;> (have e0_9 : (0 : Int32).toInt = 0 := rfl; have en_9 : (6 : Int32).toInt = 6 := rfl; simp only [Int32.lt_iff_toInt_lt, Int32.le_iff_toInt_le, Int32.not_lt, Int32.not_le, ← Int32.toInt_inj] at *; omega))
            have hlt_2 := hix_2.2.2
            refine f_iV (n := 2) X hP hS [.int w, .int x] [] (c_X8_looking l E (up2 M 86 45 0) L w x w.toNatClampNeg 0 hix_2 rB_0 (by omega)) m_6_117 wi_X8_looking rfl rfl (by decide) (by decide +kernel) ⟨Nat.le_of_ble_eq_true rfl, Nat.le_of_ble_eq_true rfl⟩ rfl hl rfl (Nat.le_of_ble_eq_true rfl) ⟨Nat.zero_le _, Nat.zero_le _⟩ dX8_act_45 (fun H locs hP hS => ?_)
            refine lv_goto (tgt := 57) hx hb dX8_act_48 (by decide) ?_
            refine f_ir X hlk hr (v := ((a_X8_looking (up2 M 86 45 0) L w x w.toNatClampNeg 0).1)) rfl hP hS ?_ dX8_act_57
            unfold a_X8_act
            (first | rw [if_pos c_10] | rw [if_neg c_10] | rw [if_neg (Bool.eq_false_iff.mp c_10)] | skip)
            (first | rw [if_pos c_14] | rw [if_neg c_14] | rw [if_neg (Bool.eq_false_iff.mp c_14)] | skip)
            (first | rw [if_pos c_19] | rw [if_neg c_19] | rw [if_neg (Bool.eq_false_iff.mp c_19)] | skip)
            (first | rw [if_pos c_25] | rw [if_neg c_25] | rw [if_neg (Bool.eq_false_iff.mp c_25)] | skip)
            (first | rw [if_pos c_39] | rw [if_neg c_39] | rw [if_neg (Bool.eq_false_iff.mp c_39)] | skip)
            (try dsimp only)
            first
              | done
              | exact ⟨rfl, rfl⟩
              | rfl
              | (simp only [c_10, c_14, c_19, c_25, c_39, if_true, if_false, and_self, and_true, true_and, not_true_eq_false, not_false_eq_true, and_false, false_and, or_true, true_or, or_false, false_or, or_self, Bool.false_eq_true, reduceCtorEq, nl10, nl20, nl30, nl40, nl50, nl60, nl70, nl12, nl13, nl21, nl23, nl31, nl32]; first | done | exact ⟨rfl, rfl⟩ | rfl)
              | contradiction
              | (simp only [c_10, c_14, c_19, c_25, c_39, if_true, if_false, and_self, and_true, true_and, not_true_eq_false, not_false_eq_true, and_false, false_and, or_true, true_or, or_false, false_or, or_self, Bool.false_eq_true, reduceCtorEq, nl10, nl20, nl30, nl40, nl50, nl60, nl70, nl12, nl13, nl21, nl23, nl31, nl32]; contradiction)
              | (exfalso; simp_all; done)
              | simp_all
        · refine lv_aload_n hx hb dX8_act_28 rfl (lv_at hl 0 rfl) ?_
          refine lv_iload_n hx hb dX8_act_29 rfl (lv_at hl 1 rfl) ?_
          refine lv_iload_n hx hb dX8_act_30 rfl (lv_at hl 3 rfl) ?_
          have hix_3 : fIx w 6 w.toNatClampNeg := by
            first
              | exact fIx_lt 6 c_10.1 c_10.2 (by decide)
              | exact fIx_lt 6 c_14.1 c_14.2 (by decide)
              | exact fIx_lt 6 c_19.1 c_19.2 (by decide)
              | exact fIx_lt 6 c_25.1 c_25.2 (by decide)
              | exact fIx_cnt 6 c_10.1 c_10.2 hwc hwc6 (by decide)
              | exact fIx_cnt 6 c_14.1 c_14.2 hwc hwc6 (by decide)
              | exact fIx_cnt 6 c_19.1 c_19.2 hwc hwc6 (by decide)
              | exact fIx_cnt 6 c_25.1 c_25.2 hwc hwc6 (by decide)
              | exact fIx_le 5 c_10.1 c_10.2 (by decide)
              | exact fIx_le 5 c_14.1 c_14.2 (by decide)
              | exact fIx_le 5 c_19.1 c_19.2 (by decide)
              | exact fIx_le 5 c_25.1 c_25.2 (by decide)
              | exact fIx_lt 6 c_10.1 c_10.2.2 (by decide)
              | exact fIx_lt 6 c_14.1 c_14.2.2 (by decide)
              | exact fIx_lt 6 c_19.1 c_19.2.2 (by decide)
              | exact fIx_lt 6 c_25.1 c_25.2.2 (by decide)
              | exact fIx_le 5 (rr0 c_10).1.1 (rr0 c_10).1.2 (by decide)
              | exact fIx_le 5 (rr0 c_14).1.1 (rr0 c_14).1.2 (by decide)
              | exact fIx_le 5 (rr0 c_19).1.1 (rr0 c_19).1.2 (by decide)
              | exact fIx_le 5 (rr0 c_25).1.1 (rr0 c_25).1.2 (by decide)
              | (refine fIx_lt 6 (show (0 : Int32) ≤ w from ?_) (show w < (6 : Int32) from ?_) (by decide) <;> (have e0_9 : (0 : Int32).toInt = 0 := rfl; have en_9 : (6 : Int32).toInt = 6 := rfl; simp only [Int32.lt_iff_toInt_lt, Int32.le_iff_toInt_le, Int32.not_lt, Int32.not_le, ← Int32.toInt_inj] at *; omega))
          have hlt_3 := hix_3.2.2
          refine f_iV (n := 2) X hP hS [.int w, .int x] [] (c_X8_waiting l E (up2 M 86 45 0) L w x w.toNatClampNeg 0 hix_3 rB_0 (by omega)) m_6_109 wi_X8_waiting rfl rfl (by decide) (by decide +kernel) ⟨Nat.le_of_ble_eq_true rfl, Nat.le_of_ble_eq_true rfl⟩ rfl hl rfl (Nat.le_of_ble_eq_true rfl) ⟨Nat.zero_le _, Nat.zero_le _⟩ dX8_act_31 (fun H locs hP hS => ?_)
          refine lv_goto (tgt := 57) hx hb dX8_act_34 (by decide) ?_
          refine f_ir X hlk hr (v := ((a_X8_waiting (up2 M 86 45 0) L w x w.toNatClampNeg 0).1)) rfl hP hS ?_ dX8_act_57
          unfold a_X8_act
          (first | rw [if_pos c_10] | rw [if_neg c_10] | rw [if_neg (Bool.eq_false_iff.mp c_10)] | skip)
          (first | rw [if_pos c_14] | rw [if_neg c_14] | rw [if_neg (Bool.eq_false_iff.mp c_14)] | skip)
          (first | rw [if_pos c_19] | rw [if_neg c_19] | rw [if_neg (Bool.eq_false_iff.mp c_19)] | skip)
          (first | rw [if_pos c_25] | rw [if_neg c_25] | rw [if_neg (Bool.eq_false_iff.mp c_25)] | skip)
          (try dsimp only)
          first
            | done
            | exact ⟨rfl, rfl⟩
            | rfl
            | (simp only [c_10, c_14, c_19, c_25, if_true, if_false, and_self, and_true, true_and, not_true_eq_false, not_false_eq_true, and_false, false_and, or_true, true_or, or_false, false_or, or_self, Bool.false_eq_true, reduceCtorEq, nl10, nl20, nl30, nl40, nl50, nl60, nl70, nl12, nl13, nl21, nl23, nl31, nl32]; first | done | exact ⟨rfl, rfl⟩ | rfl)
            | contradiction
            | (simp only [c_10, c_14, c_19, c_25, if_true, if_false, and_self, and_true, true_and, not_true_eq_false, not_false_eq_true, and_false, false_and, or_true, true_or, or_false, false_or, or_self, Bool.false_eq_true, reduceCtorEq, nl10, nl20, nl30, nl40, nl50, nl60, nl70, nl12, nl13, nl21, nl23, nl31, nl32]; contradiction)
            | (exfalso; simp_all; done)
            | simp_all
      · refine lv_iconst (v := 0) hx hb dX8_act_22 (by decide) ?_
        refine f_ir X hlk hr (v := 0) rfl hP hS ?_ dX8_act_23
        unfold a_X8_act
        (first | rw [if_pos c_10] | rw [if_neg c_10] | rw [if_neg (Bool.eq_false_iff.mp c_10)] | skip)
        (first | rw [if_pos c_14] | rw [if_neg c_14] | rw [if_neg (Bool.eq_false_iff.mp c_14)] | skip)
        (first | rw [if_pos c_19] | rw [if_neg c_19] | rw [if_neg (Bool.eq_false_iff.mp c_19)] | skip)
        (try dsimp only)
        first
          | done
          | exact ⟨rfl, rfl⟩
          | rfl
          | (simp only [c_10, c_14, c_19, if_true, if_false, and_self, and_true, true_and, not_true_eq_false, not_false_eq_true, and_false, false_and, or_true, true_or, or_false, false_or, or_self, Bool.false_eq_true, reduceCtorEq, nl10, nl20, nl30, nl40, nl50, nl60, nl70, nl12, nl13, nl21, nl23, nl31, nl32]; first | done | exact ⟨rfl, rfl⟩ | rfl)
          | contradiction
          | (simp only [c_10, c_14, c_19, if_true, if_false, and_self, and_true, true_and, not_true_eq_false, not_false_eq_true, and_false, false_and, or_true, true_or, or_false, false_or, or_self, Bool.false_eq_true, reduceCtorEq, nl10, nl20, nl30, nl40, nl50, nl60, nl70, nl12, nl13, nl21, nl23, nl31, nl32]; contradiction)
          | (exfalso; simp_all; done)
          | simp_all
