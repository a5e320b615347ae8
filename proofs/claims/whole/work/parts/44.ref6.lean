set_option maxHeartbeats 4000000 in
set_option maxRecDepth 100000 in
theorem c_X8_body (l : Launch) (E : fE) (M : Nat → Nat → Int32) (L : Nat → Nat → Int64) (b : Int32) (n0 : Nat) (hrB : rB M n0) (hn0 : n0 < 1000) : Met l yX8_body (wl yX8_body cX8_body 2 none) (fRm 0 0) (va_Pc [.ref (fad E 86), .int b] (fPre E M L)) (fQv E (fun u => u = ((bodyM M b), L))) 0 0 (fA E) := by
  refine f_head (by decide) (Nat.le_of_ble_eq_true rfl) ?_
  intro pg ev s mi below meth cd ls X hr hlk hP hS hl
  have hx := X.1.1
  have hb := X.1.2.1
  have hl : lv_has ls 2 [(0, .ref (fad E 86)), (1, .int b)] := hl
  obtain ⟨r0, hr0, er0⟩ := hrB
  refine lv_aload_n hx hb dX8_body_0 rfl (lv_at hl 0 rfl) ?_
  refine f_get X hP (T := TX8) (ci := 8) (k := 86) rfl inX8 rfl 45 (by decide) m_4_219 rfl (v := .int (M 86 45)) rfl dX8_body_1 ?_
  refine lv_bipush (v := 20) hx hb dX8_body_4 (by decide) ?_
  refine lv_icmp_ge (tgt := 19) hx hb dX8_body_6 (by decide) (fun c_6 => ?_) (fun c_6 => ?_)
  · refine lv_aload_n hx hb dX8_body_19 rfl (lv_at hl 0 rfl) ?_
    refine lv_dup hx hb dX8_body_20 rfl ?_
    refine f_get X hP (T := TX8) (ci := 8) (k := 86) rfl inX8 rfl 45 (by decide) m_4_219 rfl (v := .int (M 86 45)) rfl dX8_body_21 ?_
    refine lv_iconst (v := 1) hx hb dX8_body_24 (by decide) ?_
    refine lv_iadd hx hb dX8_body_25 ?_
    refine f_put X hP hS (T := TX8) (ci := 8) (k := 86) rfl inX8 rfl tyX8 tyX8_ok nmX8 45 (by decide) m_4_219 ⟨rfl, rfl⟩ rfl (v := ((M 86 45) + 1)) rfl rfl dX8_body_26 (fun H locs hP hS => ?_)
    refine f_vr X hlk hr hP hS ?_ dX8_body_29
    show _ = _
    unfold bodyM; first | (rw [if_pos (Int32.not_le.mp c_6)]; done) | (rw [if_neg (fun h => absurd c_6 (Int32.not_le.mpr h))]; done)
  · have hi9 : fIx (M 86 45) 20 (M 86 45).toNatClampNeg := fIx_lt 20 (er0 ▸ nI_pos' (by omega)) (Int32.not_le.mp c_6) (by decide)
    refine lv_aload_n hx hb dX8_body_9 rfl (lv_at hl 0 rfl) ?_
    refine f_get X hP (T := TX8) (ci := 8) (k := 86) rfl inX8 rfl 44 (by decide) m_4_218 rfl (v := .ref (fad E 114)) rfl dX8_body_10 ?_
    refine lv_aload_n hx hb dX8_body_13 rfl (lv_at hl 0 rfl) ?_
    refine f_get X hP (T := TX8) (ci := 8) (k := 86) rfl inX8 rfl 45 (by decide) m_4_219 rfl (v := .int (M 86 45)) rfl dX8_body_14 ?_
    refine lv_iload_n hx hb dX8_body_17 rfl (lv_at hl 1 rfl) ?_
    refine f_iast X hP hS (k := 114) (n := 20) (q := (M 86 45).toNatClampNeg) rfl rfl (v := b) hi9 dX8_body_18 (fun H locs hP hS => ?_)
    refine lv_aload_n hx hb dX8_body_19 rfl (lv_at hl 0 rfl) ?_
    refine lv_dup hx hb dX8_body_20 rfl ?_
    refine f_get X hP (T := TX8) (ci := 8) (k := 86) rfl inX8 rfl 45 (by decide) m_4_219 rfl (v := .int (M 86 45)) (congrArg Value.int (up2_o _ _ (Or.inl (by decide)))) dX8_body_21 ?_
    refine lv_iconst (v := 1) hx hb dX8_body_24 (by decide) ?_
    refine lv_iadd hx hb dX8_body_25 ?_
    refine f_put X hP hS (T := TX8) (ci := 8) (k := 86) rfl inX8 rfl tyX8 tyX8_ok nmX8 45 (by decide) m_4_219 ⟨rfl, rfl⟩ rfl (v := ((M 86 45) + 1)) rfl rfl dX8_body_26 (fun H locs hP hS => ?_)
    refine f_vr X hlk hr hP hS ?_ dX8_body_29
    show _ = _
    unfold bodyM; first | (rw [if_pos (Int32.not_le.mp c_6)]; done) | (rw [if_neg (fun h => absurd c_6 (Int32.not_le.mpr h))]; done)

def a_X8_waiting (M : Nat → Nat → Int32) (L : Nat → Nat → Int64) (w : Int32) (x : Int32) (w0 : Nat) (n0 : Nat) : fR := (if (M 88 w0) = 1 then (((x + w) + (M 89 w0)), (bodyM (bodyM M 20) 10), L) else (if (M 88 w0) = 3 then ((((x + 1) + w) + (M 89 w0)), (bodyM (bodyM (bodyM M 40) 20) 10), L) else (if (M 88 w0) = 4 then (((x + w) - w), (bodyM (bodyM M 51) 10), L) else (if (M 88 w0) = 6 then ((((x + w) - w) * 2), (bodyM (bodyM (bodyM M 70) 51) 10), L) else ((x + w), (bodyM M 10), L)))))
set_option maxHeartbeats 1000000 in
set_option maxRecDepth 100000 in
theorem c_X8_waiting (l : Launch) (E : fE) (M : Nat → Nat → Int32) (L : Nat → Nat → Int64) (w : Int32) (x : Int32) (w0 n0 : Nat) (hw : fIx w 6 w0) (hrB : rB M n0) (hn0 : n0 < 900) : Met l yX8_waiting (wl yX8_waiting cX8_waiting 8 (some .int)) (fRm 1 21) (va_Pc [.ref (fad E 86), .int w, .int x] (fPre E M L)) (fQi E (fun r u => u = ((a_X8_waiting M L w x w0 n0).2.1, L) ∧ r = (a_X8_waiting M L w x w0 n0).1)) 0 0 (fA E) := by
  refine f_head (by decide) (Nat.le_of_ble_eq_true rfl) ?_
  intro pg ev s mi below meth cd ls X hr hlk hP hS hl
  have hx := X.1.1
  have hb := X.1.2.1
  have hl : lv_has ls 8 [(0, .ref (fad E 86)), (1, .int w), (2, .int x)] := hl
  refine lv_aload_n hx hb dX8_waiting_0 rfl (lv_at hl 0 rfl) ?_
  refine f_get X hP (T := TX8) (ci := 8) (k := 86) rfl inX8 rfl 9 (by decide) m_4_183 rfl (v := .ref (fad E 88)) rfl dX8_waiting_1 ?_
  refine lv_iload_n hx hb dX8_waiting_4 rfl (lv_at hl 1 rfl) ?_
  refine f_iald X hP (k := 88) (n := 6) (q := w0) rfl rfl hw dX8_waiting_5 ?_
  refine lv_istore_n (lv' := [(3, .int (M 88 w0)), (0, .ref (fad E 86)), (1, .int w), (2, .int x)]) hx hb dX8_waiting_6 rfl hl (by decide) rfl (fun ls hl => ?_)
  refine lv_iload_n hx hb dX8_waiting_7 rfl (lv_at hl 3 rfl) ?_
  refine lv_istore (lv' := [(4, .int x), (3, .int (M 88 w0)), (0, .ref (fad E 86)), (1, .int w), (2, .int x)]) hx hb dX8_waiting_8 hl (by decide) rfl (fun ls hl => ?_)
  refine lv_iload_n hx hb dX8_waiting_10 rfl (lv_at hl 1 rfl) ?_
  refine lv_iconst (v := 1) hx hb dX8_waiting_11 (by decide) ?_
  refine lv_icmp_eq (tgt := 20) hx hb dX8_waiting_12 (by decide) (fun c_12 => ?_) (fun c_12 => ?_)
  · refine lv_iconst (v := 1) hx hb dX8_waiting_20 (by decide) ?_
    refine lv_goto (tgt := 25) hx hb dX8_waiting_21 (by decide) ?_
    refine lv_istore (lv' := [(5, .int 1), (4, .int x), (3, .int (M 88 w0)), (0, .ref (fad E 86)), (1, .int w), (2, .int x)]) hx hb dX8_waiting_25 hl (by decide) rfl (fun ls hl => ?_)
    refine lv_iload_n hx hb dX8_waiting_27 rfl (lv_at hl 2 rfl) ?_
    refine lv_iconst (v := 4) hx hb dX8_waiting_28 (by decide) ?_
    refine lv_icmp_eq (tgt := 38) hx hb dX8_waiting_29 (by decide) (fun c_29 => by exact absurd (c_12.symm.trans c_29) (by decide)) (fun c_29 => ?_)
    refine lv_iload_n hx hb dX8_waiting_32 rfl (lv_at hl 2 rfl) ?_
    refine lv_bipush (v := 6) hx hb dX8_waiting_33 (by decide) ?_
    refine lv_icmp_ne (tgt := 42) hx hb dX8_waiting_35 (by decide) (fun c_35 => ?_) (fun c_35 => by exact absurd (c_12.symm.trans c_35) (by decide))
    refine lv_iconst (v := 0) hx hb dX8_waiting_42 (by decide) ?_
    refine lv_istore (lv' := [(6, .int 0), (5, .int 1), (4, .int x), (3, .int (M 88 w0)), (0, .ref (fad E 86)), (1, .int w), (2, .int x)]) hx hb dX8_waiting_43 hl (by decide) rfl (fun ls hl => ?_)
    refine lv_iload_n hx hb dX8_waiting_45 rfl (lv_at hl 3 rfl) ?_
    refine lv_bipush (v := 6) hx hb dX8_waiting_46 (by decide) ?_
    refine lv_icmp_ne (tgt := 57) hx hb dX8_waiting_48 (by decide) (fun c_48 => ?_) (fun c_48 => by exact absurd (c_12.symm.trans c_48) (by decide))
    refine lv_iload_n hx hb dX8_waiting_57 rfl (lv_at hl 3 rfl) ?_
    refine lv_iconst (v := 3) hx hb dX8_waiting_58 (by decide) ?_
    refine lv_icmp_ne (tgt := 73) hx hb dX8_waiting_59 (by decide) (fun c_59 => ?_) (fun c_59 => by exact absurd (c_12.symm.trans c_59) (by decide))
    refine lv_iload hx hb dX8_waiting_73 (lv_at hl 1 rfl) ?_
    refine lv_if_eq (tgt := 84) hx hb dX8_waiting_75 (by decide) (fun c_75 => absurd c_75 (by decide)) (fun _ => ?_)
    refine lv_aload_n hx hb dX8_waiting_78 rfl (lv_at hl 4 rfl) ?_
    refine lv_bipush (v := 20) hx hb dX8_waiting_79 (by decide) ?_
    refine f_vV (n := 1) X hP hS [.int 20] [] (c_X8_body l E M L 20 n0 hrB (by omega)) m_6_113 wi_X8_body rfl rfl (by decide) (by decide +kernel) ⟨Nat.le_of_ble_eq_true rfl, Nat.le_of_ble_eq_true rfl⟩ rfl hl rfl (Nat.le_of_ble_eq_true rfl) ⟨Nat.zero_le _, Nat.zero_le _⟩ dX8_waiting_81 (fun H locs hP hS => ?_)
    refine lv_iload hx hb dX8_waiting_84 (lv_at hl 0 rfl) ?_
    refine lv_if_eq (tgt := 95) hx hb dX8_waiting_86 (by decide) (fun _ => ?_) (fun c_86 => absurd c_86 (by decide))
    refine lv_aload_n hx hb dX8_waiting_95 rfl (lv_at hl 4 rfl) ?_
    refine lv_bipush (v := 10) hx hb dX8_waiting_96 (by decide) ?_
    refine f_vV (n := 1) X hP hS [.int 10] [] (c_X8_body l E (bodyM M 20) L 10 (n0 + 1) (rB_b hrB) (by omega)) m_6_113 wi_X8_body rfl rfl (by decide) (by decide +kernel) ⟨Nat.le_of_ble_eq_true rfl, Nat.le_of_ble_eq_true rfl⟩ rfl hl rfl (Nat.le_of_ble_eq_true rfl) ⟨Nat.zero_le _, Nat.zero_le _⟩ dX8_waiting_98 (fun H locs hP hS => ?_)
    refine lv_iload hx hb dX8_waiting_101 (lv_at hl 2 rfl) ?_
    refine lv_iload_n hx hb dX8_waiting_103 rfl (lv_at hl 5 rfl) ?_
    refine lv_iadd hx hb dX8_waiting_104 ?_
    refine lv_istore (lv' := [(7, .int (x + w)), (6, .int 0), (5, .int 1), (4, .int x), (3, .int (M 88 w0)), (0, .ref (fad E 86)), (1, .int w), (2, .int x)]) hx hb dX8_waiting_105 hl (by decide) rfl (fun ls hl => ?_)
    refine lv_iload hx hb dX8_waiting_107 (lv_at hl 2 rfl) ?_
    refine lv_if_eq (tgt := 123) hx hb dX8_waiting_109 (by decide) (fun c_109 => absurd c_109 (by decide)) (fun _ => ?_)
    refine lv_iload hx hb dX8_waiting_112 (lv_at hl 0 rfl) ?_
    refine lv_aload_n hx hb dX8_waiting_114 rfl (lv_at hl 5 rfl) ?_
    refine f_get X hP (T := TX8) (ci := 8) (k := 86) rfl inX8 rfl 10 (by decide) m_4_184 rfl (v := .ref (fad E 89)) rfl dX8_waiting_115 ?_
    refine lv_iload_n hx hb dX8_waiting_118 rfl (lv_at hl 6 rfl) ?_
    refine f_iald X hP (k := 89) (n := 6) (q := w0) rfl rfl hw dX8_waiting_119 ?_
    refine f_topI ((bodyM_o (Or.inl ⟨by decide, by decide⟩)).trans (bodyM_o (Or.inl ⟨by decide, by decide⟩))) ?_
    refine lv_iadd hx hb dX8_waiting_120 ?_
    refine lv_istore (lv' := [(7, .int ((x + w) + (M 89 w0))), (6, .int 0), (5, .int 1), (4, .int x), (3, .int (M 88 w0)), (0, .ref (fad E 86)), (1, .int w), (2, .int x)]) hx hb dX8_waiting_121 hl (by decide) rfl (fun ls hl => ?_)
    refine lv_iload hx hb dX8_waiting_123 (lv_at hl 1 rfl) ?_
    refine lv_if_eq (tgt := 134) hx hb dX8_waiting_125 (by decide) (fun _ => ?_) (fun c_125 => absurd c_125 (by decide))
    refine lv_iload_n hx hb dX8_waiting_134 rfl (lv_at hl 4 rfl) ?_
    refine lv_bipush (v := 6) hx hb dX8_waiting_135 (by decide) ?_
    refine lv_icmp_ne (tgt := 147) hx hb dX8_waiting_137 (by decide) (fun c_137 => ?_) (fun c_137 => by exact absurd (c_12.symm.trans c_137) (by decide))
    refine lv_iload hx hb dX8_waiting_147 (lv_at hl 0 rfl) ?_
    refine f_ir X hlk hr (v := ((x + w) + (M 89 w0))) rfl hP hS ?_ dX8_waiting_149
    unfold a_X8_waiting
    (first | rw [if_pos c_12] | rw [if_neg c_12] | rw [if_neg (Bool.eq_false_iff.mp c_12)] | skip)
    (try dsimp only)
    first
      | done
      | exact ⟨rfl, rfl⟩
      | rfl
      | (simp only [c_12, if_true, if_false, and_self, and_true, true_and, not_true_eq_false, not_false_eq_true, and_false, false_and, or_true, true_or, or_false, false_or, or_self, Bool.false_eq_true, reduceCtorEq, nl10, nl20, nl30, nl40, nl50, nl60, nl70, nl12, nl13, nl21, nl23, nl31, nl32]; first | done | exact ⟨rfl, rfl⟩ | rfl)
      | contradiction
      | (simp only [c_12, if_true, if_false, and_self, and_true, true_and, not_true_eq_false, not_false_eq_true, and_false, false_and, or_true, true_or, or_false, false_or, or_self, Bool.false_eq_true, reduceCtorEq, nl10, nl20, nl30, nl40, nl50, nl60, nl70, nl12, nl13, nl21, nl23, nl31, nl32]; contradiction)
      | (exfalso; simp_all; done)
      | simp_all
  · refine lv_iload_n hx hb dX8_waiting_15 rfl (lv_at hl 1 rfl) ?_
    refine lv_iconst (v := 3) hx hb dX8_waiting_16 (by decide) ?_
    refine lv_icmp_ne (tgt := 24) hx hb dX8_waiting_17 (by decide) (fun c_17 => ?_) (fun c_17 => ?_)
    · refine lv_iconst (v := 0) hx hb dX8_waiting_24 (by decide) ?_
      refine lv_istore (lv' := [(5, .int 0), (4, .int x), (3, .int (M 88 w0)), (0, .ref (fad E 86)), (1, .int w), (2, .int x)]) hx hb dX8_waiting_25 hl (by decide) rfl (fun ls hl => ?_)
      refine lv_iload_n hx hb dX8_waiting_27 rfl (lv_at hl 2 rfl) ?_
      refine lv_iconst (v := 4) hx hb dX8_waiting_28 (by decide) ?_
      refine lv_icmp_eq (tgt := 38) hx hb dX8_waiting_29 (by decide) (fun c_29 => ?_) (fun c_29 => ?_)
      · refine lv_iconst (v := 1) hx hb dX8_waiting_38 (by decide) ?_
        refine lv_goto (tgt := 43) hx hb dX8_waiting_39 (by decide) ?_
        refine lv_istore (lv' := [(6, .int 1), (5, .int 0), (4, .int x), (3, .int (M 88 w0)), (0, .ref (fad E 86)), (1, .int w), (2, .int x)]) hx hb dX8_waiting_43 hl (by decide) rfl (fun ls hl => ?_)
        refine lv_iload_n hx hb dX8_waiting_45 rfl (lv_at hl 3 rfl) ?_
        refine lv_bipush (v := 6) hx hb dX8_waiting_46 (by decide) ?_
        refine lv_icmp_ne (tgt := 57) hx hb dX8_waiting_48 (by decide) (fun c_48 => ?_) (fun c_48 => by exact absurd (c_29.symm.trans c_48) (by decide))
        refine lv_iload_n hx hb dX8_waiting_57 rfl (lv_at hl 3 rfl) ?_
        refine lv_iconst (v := 3) hx hb dX8_waiting_58 (by decide) ?_
        refine lv_icmp_ne (tgt := 73) hx hb dX8_waiting_59 (by decide) (fun c_59 => ?_) (fun c_59 => by exact absurd (c_29.symm.trans c_59) (by decide))
        refine lv_iload hx hb dX8_waiting_73 (lv_at hl 1 rfl) ?_
        refine lv_if_eq (tgt := 84) hx hb dX8_waiting_75 (by decide) (fun _ => ?_) (fun c_75 => absurd c_75 (by decide))
        refine lv_iload hx hb dX8_waiting_84 (lv_at hl 0 rfl) ?_
        refine lv_if_eq (tgt := 95) hx hb dX8_waiting_86 (by decide) (fun c_86 => absurd c_86 (by decide)) (fun _ => ?_)
        refine lv_aload_n hx hb dX8_waiting_89 rfl (lv_at hl 4 rfl) ?_
        refine lv_bipush (v := 51) hx hb dX8_waiting_90 (by decide) ?_
        refine f_vV (n := 1) X hP hS [.int 51] [] (c_X8_body l E M L 51 n0 hrB (by omega)) m_6_113 wi_X8_body rfl rfl (by decide) (by decide +kernel) ⟨Nat.le_of_ble_eq_true rfl, Nat.le_of_ble_eq_true rfl⟩ rfl hl rfl (Nat.le_of_ble_eq_true rfl) ⟨Nat.zero_le _, Nat.zero_le _⟩ dX8_waiting_92 (fun H locs hP hS => ?_)
        refine lv_aload_n hx hb dX8_waiting_95 rfl (lv_at hl 4 rfl) ?_
        refine lv_bipush (v := 10) hx hb dX8_waiting_96 (by decide) ?_
        refine f_vV (n := 1) X hP hS [.int 10] [] (c_X8_body l E (bodyM M 51) L 10 (n0 + 1) (rB_b hrB) (by omega)) m_6_113 wi_X8_body rfl rfl (by decide) (by decide +kernel) ⟨Nat.le_of_ble_eq_true rfl, Nat.le_of_ble_eq_true rfl⟩ rfl hl rfl (Nat.le_of_ble_eq_true rfl) ⟨Nat.zero_le _, Nat.zero_le _⟩ dX8_waiting_98 (fun H locs hP hS => ?_)
        refine lv_iload hx hb dX8_waiting_101 (lv_at hl 2 rfl) ?_
        refine lv_iload_n hx hb dX8_waiting_103 rfl (lv_at hl 5 rfl) ?_
        refine lv_iadd hx hb dX8_waiting_104 ?_
        refine lv_istore (lv' := [(7, .int (x + w)), (6, .int 1), (5, .int 0), (4, .int x), (3, .int (M 88 w0)), (0, .ref (fad E 86)), (1, .int w), (2, .int x)]) hx hb dX8_waiting_105 hl (by decide) rfl (fun ls hl => ?_)
        refine lv_iload hx hb dX8_waiting_107 (lv_at hl 2 rfl) ?_
        refine lv_if_eq (tgt := 123) hx hb dX8_waiting_109 (by decide) (fun _ => ?_) (fun c_109 => absurd c_109 (by decide))
        refine lv_iload hx hb dX8_waiting_123 (lv_at hl 1 rfl) ?_
        refine lv_if_eq (tgt := 134) hx hb dX8_waiting_125 (by decide) (fun c_125 => absurd c_125 (by decide)) (fun _ => ?_)
        refine lv_iload hx hb dX8_waiting_128 (lv_at hl 0 rfl) ?_
        refine lv_iload_n hx hb dX8_waiting_130 rfl (lv_at hl 6 rfl) ?_
        refine lv_isub hx hb dX8_waiting_131 ?_
        refine lv_istore (lv' := [(7, .int ((x + w) - w)), (6, .int 1), (5, .int 0), (4, .int x), (3, .int (M 88 w0)), (0, .ref (fad E 86)), (1, .int w), (2, .int x)]) hx hb dX8_waiting_132 hl (by decide) rfl (fun ls hl => ?_)
        refine lv_iload_n hx hb dX8_waiting_134 rfl (lv_at hl 4 rfl) ?_
        refine lv_bipush (v := 6) hx hb dX8_waiting_135 (by decide) ?_
        refine lv_icmp_ne (tgt := 147) hx hb dX8_waiting_137 (by decide) (fun c_137 => ?_) (fun c_137 => by exact absurd (c_29.symm.trans c_137) (by decide))
        refine lv_iload hx hb dX8_waiting_147 (lv_at hl 0 rfl) ?_
        refine f_ir X hlk hr (v := ((x + w) - w)) rfl hP hS ?_ dX8_waiting_149
        unfold a_X8_waiting
        (first | rw [if_pos c_12] | rw [if_neg c_12] | rw [if_neg (Bool.eq_false_iff.mp c_12)] | skip)
        (first | rw [if_pos c_17] | rw [if_neg c_17] | rw [if_neg (Bool.eq_false_iff.mp c_17)] | skip)
        (first | rw [if_pos c_29] | rw [if_neg c_29] | rw [if_neg (Bool.eq_false_iff.mp c_29)] | skip)
        (try dsimp only)
        first
          | done
          | exact ⟨rfl, rfl⟩
          | rfl
          | (simp only [c_12, c_17, c_29, if_true, if_false, and_self, and_true, true_and, not_true_eq_false, not_false_eq_true, and_false, false_and, or_true, true_or, or_false, false_or, or_self, Bool.false_eq_true, reduceCtorEq, nl10, nl20, nl30, nl40, nl50, nl60, nl70, nl12, nl13, nl21, nl23, nl31, nl32]; first | done | exact ⟨rfl, rfl⟩ | rfl)
          | contradiction
          | (simp only [c_12, c_17, c_29, if_true, if_false, and_self, and_true, true_and, not_true_eq_false, not_false_eq_true, and_false, false_and, or_true, true_or, or_false, false_or, or_self, Bool.false_eq_true, reduceCtorEq, nl10, nl20, nl30, nl40, nl50, nl60, nl70, nl12, nl13, nl21, nl23, nl31, nl32]; contradiction)
          | (exfalso; simp_all; done)
          | simp_all
      · refine lv_iload_n hx hb dX8_waiting_32 rfl (lv_at hl 2 rfl) ?_
        refine lv_bipush (v := 6) hx hb dX8_waiting_33 (by decide) ?_
        refine lv_icmp_ne (tgt := 42) hx hb dX8_waiting_35 (by decide) (fun c_35 => ?_) (fun c_35 => ?_)
        · refine lv_iconst (v := 0) hx hb dX8_waiting_42 (by decide) ?_
          refine lv_istore (lv' := [(6, .int 0), (5, .int 0), (4, .int x), (3, .int (M 88 w0)), (0, .ref (fad E 86)), (1, .int w), (2, .int x)]) hx hb dX8_waiting_43 hl (by decide) rfl (fun ls hl => ?_)
          refine lv_iload_n hx hb dX8_waiting_45 rfl (lv_at hl 3 rfl) ?_
          refine lv_bipush (v := 6) hx hb dX8_waiting_46 (by decide) ?_
          refine lv_icmp_ne (tgt := 57) hx hb dX8_waiting_48 (by decide) (fun c_48 => ?_) (fun c_48 => by exact absurd c_48 c_35)
          refine lv_iload_n hx hb dX8_waiting_57 rfl (lv_at hl 3 rfl) ?_
          refine lv_iconst (v := 3) hx hb dX8_waiting_58 (by decide) ?_
          refine lv_icmp_ne (tgt := 73) hx hb dX8_waiting_59 (by decide) (fun c_59 => ?_) (fun c_59 => by exact absurd c_59 c_17)
          refine lv_iload hx hb dX8_waiting_73 (lv_at hl 1 rfl) ?_
          refine lv_if_eq (tgt := 84) hx hb dX8_waiting_75 (by decide) (fun _ => ?_) (fun c_75 => absurd c_75 (by decide))
          refine lv_iload hx hb dX8_waiting_84 (lv_at hl 0 rfl) ?_
          refine lv_if_eq (tgt := 95) hx hb dX8_waiting_86 (by decide) (fun _ => ?_) (fun c_86 => absurd c_86 (by decide))
          refine lv_aload_n hx hb dX8_waiting_95 rfl (lv_at hl 4 rfl) ?_
          refine lv_bipush (v := 10) hx hb dX8_waiting_96 (by decide) ?_
          refine f_vV (n := 1) X hP hS [.int 10] [] (c_X8_body l E M L 10 n0 hrB (by omega)) m_6_113 wi_X8_body rfl rfl (by decide) (by decide +kernel) ⟨Nat.le_of_ble_eq_true rfl, Nat.le_of_ble_eq_true rfl⟩ rfl hl rfl (Nat.le_of_ble_eq_true rfl) ⟨Nat.zero_le _, Nat.zero_le _⟩ dX8_waiting_98 (fun H locs hP hS => ?_)
          refine lv_iload hx hb dX8_waiting_101 (lv_at hl 2 rfl) ?_
          refine lv_iload_n hx hb dX8_waiting_103 rfl (lv_at hl 5 rfl) ?_
          refine lv_iadd hx hb dX8_waiting_104 ?_
          refine lv_istore (lv' := [(7, .int (x + w)), (6, .int 0), (5, .int 0), (4, .int x), (3, .int (M 88 w0)), (0, .ref (fad E 86)), (1, .int w), (2, .int x)]) hx hb dX8_waiting_105 hl (by decide) rfl (fun ls hl => ?_)
          refine lv_iload hx hb dX8_waiting_107 (lv_at hl 2 rfl) ?_
          refine lv_if_eq (tgt := 123) hx hb dX8_waiting_109 (by decide) (fun _ => ?_) (fun c_109 => absurd c_109 (by decide))
          refine lv_iload hx hb dX8_waiting_123 (lv_at hl 1 rfl) ?_
          refine lv_if_eq (tgt := 134) hx hb dX8_waiting_125 (by decide) (fun _ => ?_) (fun c_125 => absurd c_125 (by decide))
          refine lv_iload_n hx hb dX8_waiting_134 rfl (lv_at hl 4 rfl) ?_
          refine lv_bipush (v := 6) hx hb dX8_waiting_135 (by decide) ?_
          refine lv_icmp_ne (tgt := 147) hx hb dX8_waiting_137 (by decide) (fun c_137 => ?_) (fun c_137 => by exact absurd c_137 c_35)
          refine lv_iload hx hb dX8_waiting_147 (lv_at hl 0 rfl) ?_
          refine f_ir X hlk hr (v := (x + w)) rfl hP hS ?_ dX8_waiting_149
          unfold a_X8_waiting
          (first | rw [if_pos c_12] | rw [if_neg c_12] | rw [if_neg (Bool.eq_false_iff.mp c_12)] | skip)
          (first | rw [if_pos c_17] | rw [if_neg c_17] | rw [if_neg (Bool.eq_false_iff.mp c_17)] | skip)
          (first | rw [if_pos c_29] | rw [if_neg c_29] | rw [if_neg (Bool.eq_false_iff.mp c_29)] | skip)
          (first | rw [if_pos c_35] | rw [if_neg c_35] | rw [if_neg (Bool.eq_false_iff.mp c_35)] | skip)
          (try dsimp only)
          first
            | done
            | exact ⟨rfl, rfl⟩
            | rfl
            | (simp only [c_12, c_17, c_29, c_35, if_true, if_false, and_self, and_true, true_and, not_true_eq_false, not_false_eq_true, and_false, false_and, or_true, true_or, or_false, false_or, or_self, Bool.false_eq_true, reduceCtorEq, nl10, nl20, nl30, nl40, nl50, nl60, nl70, nl12, nl13, nl21, nl23, nl31, nl32]; first | done | exact ⟨rfl, rfl⟩ | rfl)
            | contradiction
            | (simp only [c_12, c_17, c_29, c_35, if_true, if_false, and_self, and_true, true_and, not_true_eq_false, not_false_eq_true, and_false, false_and, or_true, true_or, or_false, false_or, or_self, Bool.false_eq_true, reduceCtorEq, nl10, nl20, nl30, nl40, nl50, nl60, nl70, nl12, nl13, nl21, nl23, nl31, nl32]; contradiction)
            | (exfalso; simp_all; done)
            | simp_all
        · refine lv_iconst (v := 1) hx hb dX8_waiting_38 (by decide) ?_
          refine lv_goto (tgt := 43) hx hb dX8_waiting_39 (by decide) ?_
          refine lv_istore (lv' := [(6, .int 1), (5, .int 0), (4, .int x), (3, .int (M 88 w0)), (0, .ref (fad E 86)), (1, .int w), (2, .int x)]) hx hb dX8_waiting_43 hl (by decide) rfl (fun ls hl => ?_)
          refine lv_iload_n hx hb dX8_waiting_45 rfl (lv_at hl 3 rfl) ?_
          refine lv_bipush (v := 6) hx hb dX8_waiting_46 (by decide) ?_
          refine lv_icmp_ne (tgt := 57) hx hb dX8_waiting_48 (by decide) (fun c_48 => by exact absurd c_35 c_48) (fun c_48 => ?_)
          refine lv_aload_n hx hb dX8_waiting_51 rfl (lv_at hl 4 rfl) ?_
          refine lv_bipush (v := 70) hx hb dX8_waiting_52 (by decide) ?_
          refine f_vV (n := 1) X hP hS [.int 70] [] (c_X8_body l E M L 70 n0 hrB (by omega)) m_6_113 wi_X8_body rfl rfl (by decide) (by decide +kernel) ⟨Nat.le_of_ble_eq_true rfl, Nat.le_of_ble_eq_true rfl⟩ rfl hl rfl (Nat.le_of_ble_eq_true rfl) ⟨Nat.zero_le _, Nat.zero_le _⟩ dX8_waiting_54 (fun H locs hP hS => ?_)
          refine lv_iload_n hx hb dX8_waiting_57 rfl (lv_at hl 3 rfl) ?_
          refine lv_iconst (v := 3) hx hb dX8_waiting_58 (by decide) ?_
          refine lv_icmp_ne (tgt := 73) hx hb dX8_waiting_59 (by decide) (fun c_59 => ?_) (fun c_59 => by exact absurd (c_35.symm.trans c_59) (by decide))
          refine lv_iload hx hb dX8_waiting_73 (lv_at hl 1 rfl) ?_
          refine lv_if_eq (tgt := 84) hx hb dX8_waiting_75 (by decide) (fun _ => ?_) (fun c_75 => absurd c_75 (by decide))
          refine lv_iload hx hb dX8_waiting_84 (lv_at hl 0 rfl) ?_
          refine lv_if_eq (tgt := 95) hx hb dX8_waiting_86 (by decide) (fun c_86 => absurd c_86 (by decide)) (fun _ => ?_)
          refine lv_aload_n hx hb dX8_waiting_89 rfl (lv_at hl 4 rfl) ?_
          refine lv_bipush (v := 51) hx hb dX8_waiting_90 (by decide) ?_
          refine f_vV (n := 1) X hP hS [.int 51] [] (c_X8_body l E (bodyM M 70) L 51 (n0 + 1) (rB_b hrB) (by omega)) m_6_113 wi_X8_body rfl rfl (by decide) (by decide +kernel) ⟨Nat.le_of_ble_eq_true rfl, Nat.le_of_ble_eq_true rfl⟩ rfl hl rfl (Nat.le_of_ble_eq_true rfl) ⟨Nat.zero_le _, Nat.zero_le _⟩ dX8_waiting_92 (fun H locs hP hS => ?_)
          refine lv_aload_n hx hb dX8_waiting_95 rfl (lv_at hl 4 rfl) ?_
          refine lv_bipush (v := 10) hx hb dX8_waiting_96 (by decide) ?_
          refine f_vV (n := 1) X hP hS [.int 10] [] (c_X8_body l E (bodyM (bodyM M 70) 51) L 10 (n0 + 2) (rB_b (rB_b hrB)) (by omega)) m_6_113 wi_X8_body rfl rfl (by decide) (by decide +kernel) ⟨Nat.le_of_ble_eq_true rfl, Nat.le_of_ble_eq_true rfl⟩ rfl hl rfl (Nat.le_of_ble_eq_true rfl) ⟨Nat.zero_le _, Nat.zero_le _⟩ dX8_waiting_98 (fun H locs hP hS => ?_)
          refine lv_iload hx hb dX8_waiting_101 (lv_at hl 2 rfl) ?_
          refine lv_iload_n hx hb dX8_waiting_103 rfl (lv_at hl 5 rfl) ?_
          refine lv_iadd hx hb dX8_waiting_104 ?_
          refine lv_istore (lv' := [(7, .int (x + w)), (6, .int 1), (5, .int 0), (4, .int x), (3, .int (M 88 w0)), (0, .ref (fad E 86)), (1, .int w), (2, .int x)]) hx hb dX8_waiting_105 hl (by decide) rfl (fun ls hl => ?_)
          refine lv_iload hx hb dX8_waiting_107 (lv_at hl 2 rfl) ?_
          refine lv_if_eq (tgt := 123) hx hb dX8_waiting_109 (by decide) (fun _ => ?_) (fun c_109 => absurd c_109 (by decide))
          refine lv_iload hx hb dX8_waiting_123 (lv_at hl 1 rfl) ?_
          refine lv_if_eq (tgt := 134) hx hb dX8_waiting_125 (by decide) (fun c_125 => absurd c_125 (by decide)) (fun _ => ?_)
          refine lv_iload hx hb dX8_waiting_128 (lv_at hl 0 rfl) ?_
          refine lv_iload_n hx hb dX8_waiting_130 rfl (lv_at hl 6 rfl) ?_
          refine lv_isub hx hb dX8_waiting_131 ?_
          refine lv_istore (lv' := [(7, .int ((x + w) - w)), (6, .int 1), (5, .int 0), (4, .int x), (3, .int (M 88 w0)), (0, .ref (fad E 86)), (1, .int w), (2, .int x)]) hx hb dX8_waiting_132 hl (by decide) rfl (fun ls hl => ?_)
          refine lv_iload_n hx hb dX8_waiting_134 rfl (lv_at hl 4 rfl) ?_
          refine lv_bipush (v := 6) hx hb dX8_waiting_135 (by decide) ?_
          refine lv_icmp_ne (tgt := 147) hx hb dX8_waiting_137 (by decide) (fun c_137 => by exact absurd c_35 c_137) (fun c_137 => ?_)
          refine lv_iload hx hb dX8_waiting_140 (lv_at hl 0 rfl) ?_
          refine lv_iconst (v := 2) hx hb dX8_waiting_142 (by decide) ?_
          refine lv_imul hx hb dX8_waiting_143 ?_
          refine lv_goto (tgt := 149) hx hb dX8_waiting_144 (by decide) ?_
          refine f_ir X hlk hr (v := (((x + w) - w) * 2)) rfl hP hS ?_ dX8_waiting_149
          unfold a_X8_waiting
          (first | rw [if_pos c_12] | rw [if_neg c_12] | rw [if_neg (Bool.eq_false_iff.mp c_12)] | skip)
          (first | rw [if_pos c_17] | rw [if_neg c_17] | rw [if_neg (Bool.eq_false_iff.mp c_17)] | skip)
          (first | rw [if_pos c_29] | rw [if_neg c_29] | rw [if_neg (Bool.eq_false_iff.mp c_29)] | skip)
          (first | rw [if_pos c_35] | rw [if_neg c_35] | rw [if_neg (Bool.eq_false_iff.mp c_35)] | skip)
          (try dsimp only)
          first
            | done
            | exact ⟨rfl, rfl⟩
            | rfl
            | (simp only [c_12, c_17, c_29, c_35, if_true, if_false, and_self, and_true, true_and, not_true_eq_false, not_false_eq_true, and_false, false_and, or_true, true_or, or_false, false_or, or_self, Bool.false_eq_true, reduceCtorEq, nl10, nl20, nl30, nl40, nl50, nl60, nl70, nl12, nl13, nl21, nl23, nl31, nl32]; first | done | exact ⟨rfl, rfl⟩ | rfl)
            | contradiction
            | (simp only [c_12, c_17, c_29, c_35, if_true, if_false, and_self, and_true, true_and, not_true_eq_false, not_false_eq_true, and_false, false_and, or_true, true_or, or_false, false_or, or_self, Bool.false_eq_true, reduceCtorEq, nl10, nl20, nl30, nl40, nl50, nl60, nl70, nl12, nl13, nl21, nl23, nl31, nl32]; contradiction)
            | (exfalso; simp_all; done)
            | simp_all
    · refine lv_iconst (v := 1) hx hb dX8_waiting_20 (by decide) ?_
      refine lv_goto (tgt := 25) hx hb dX8_waiting_21 (by decide) ?_
      refine lv_istore (lv' := [(5, .int 1), (4, .int x), (3, .int (M 88 w0)), (0, .ref (fad E 86)), (1, .int w), (2, .int x)]) hx hb dX8_waiting_25 hl (by decide) rfl (fun ls hl => ?_)
      refine lv_iload_n hx hb dX8_waiting_27 rfl (lv_at hl 2 rfl) ?_
      refine lv_iconst (v := 4) hx hb dX8_waiting_28 (by decide) ?_
      refine lv_icmp_eq (tgt := 38) hx hb dX8_waiting_29 (by decide) (fun c_29 => by exact absurd (c_17.symm.trans c_29) (by decide)) (fun c_29 => ?_)
      refine lv_iload_n hx hb dX8_waiting_32 rfl (lv_at hl 2 rfl) ?_
      refine lv_bipush (v := 6) hx hb dX8_waiting_33 (by decide) ?_
      refine lv_icmp_ne (tgt := 42) hx hb dX8_waiting_35 (by decide) (fun c_35 => ?_) (fun c_35 => by exact absurd (c_17.symm.trans c_35) (by decide))
      refine lv_iconst (v := 0) hx hb dX8_waiting_42 (by decide) ?_
      refine lv_istore (lv' := [(6, .int 0), (5, .int 1), (4, .int x), (3, .int (M 88 w0)), (0, .ref (fad E 86)), (1, .int w), (2, .int x)]) hx hb dX8_waiting_43 hl (by decide) rfl (fun ls hl => ?_)
      refine lv_iload_n hx hb dX8_waiting_45 rfl (lv_at hl 3 rfl) ?_
      refine lv_bipush (v := 6) hx hb dX8_waiting_46 (by decide) ?_
      refine lv_icmp_ne (tgt := 57) hx hb dX8_waiting_48 (by decide) (fun c_48 => ?_) (fun c_48 => by exact absurd (c_17.symm.trans c_48) (by decide))
      refine lv_iload_n hx hb dX8_waiting_57 rfl (lv_at hl 3 rfl) ?_
      refine lv_iconst (v := 3) hx hb dX8_waiting_58 (by decide) ?_
      refine lv_icmp_ne (tgt := 73) hx hb dX8_waiting_59 (by decide) (fun c_59 => by exact absurd c_17 c_59) (fun c_59 => ?_)
      refine lv_aload_n hx hb dX8_waiting_62 rfl (lv_at hl 4 rfl) ?_
      refine lv_bipush (v := 40) hx hb dX8_waiting_63 (by decide) ?_
      refine f_vV (n := 1) X hP hS [.int 40] [] (c_X8_body l E M L 40 n0 hrB (by omega)) m_6_113 wi_X8_body rfl rfl (by decide) (by decide +kernel) ⟨Nat.le_of_ble_eq_true rfl, Nat.le_of_ble_eq_true rfl⟩ rfl hl rfl (Nat.le_of_ble_eq_true rfl) ⟨Nat.zero_le _, Nat.zero_le _⟩ dX8_waiting_65 (fun H locs hP hS => ?_)
      refine lv_iload_n hx hb dX8_waiting_68 rfl (lv_at hl 6 rfl) ?_
      refine lv_iconst (v := 1) hx hb dX8_waiting_69 (by decide) ?_
      refine lv_iadd hx hb dX8_waiting_70 ?_
      refine lv_istore (lv' := [(4, .int (x + 1)), (6, .int 0), (5, .int 1), (3, .int (M 88 w0)), (0, .ref (fad E 86)), (1, .int w), (2, .int x)]) hx hb dX8_waiting_71 hl (by decide) rfl (fun ls hl => ?_)
      refine lv_iload hx hb dX8_waiting_73 (lv_at hl 2 rfl) ?_
      refine lv_if_eq (tgt := 84) hx hb dX8_waiting_75 (by decide) (fun c_75 => absurd c_75 (by decide)) (fun _ => ?_)
      refine lv_aload_n hx hb dX8_waiting_78 rfl (lv_at hl 4 rfl) ?_
      refine lv_bipush (v := 20) hx hb dX8_waiting_79 (by decide) ?_
      refine f_vV (n := 1) X hP hS [.int 20] [] (c_X8_body l E (bodyM M 40) L 20 (n0 + 1) (rB_b hrB) (by omega)) m_6_113 wi_X8_body rfl rfl (by decide) (by decide +kernel) ⟨Nat.le_of_ble_eq_true rfl, Nat.le_of_ble_eq_true rfl⟩ rfl hl rfl (Nat.le_of_ble_eq_true rfl) ⟨Nat.zero_le _, Nat.zero_le _⟩ dX8_waiting_81 (fun H locs hP hS => ?_)
      refine lv_iload hx hb dX8_waiting_84 (lv_at hl 1 rfl) ?_
      refine lv_if_eq (tgt := 95) hx hb dX8_waiting_86 (by decide) (fun _ => ?_) (fun c_86 => absurd c_86 (by decide))
      refine lv_aload_n hx hb dX8_waiting_95 rfl (lv_at hl 4 rfl) ?_
      refine lv_bipush (v := 10) hx hb dX8_waiting_96 (by decide) ?_
      refine f_vV (n := 1) X hP hS [.int 10] [] (c_X8_body l E (bodyM (bodyM M 40) 20) L 10 (n0 + 2) (rB_b (rB_b hrB)) (by omega)) m_6_113 wi_X8_body rfl rfl (by decide) (by decide +kernel) ⟨Nat.le_of_ble_eq_true rfl, Nat.le_of_ble_eq_true rfl⟩ rfl hl rfl (Nat.le_of_ble_eq_true rfl) ⟨Nat.zero_le _, Nat.zero_le _⟩ dX8_waiting_98 (fun H locs hP hS => ?_)
      refine lv_iload hx hb dX8_waiting_101 (lv_at hl 0 rfl) ?_
      refine lv_iload_n hx hb dX8_waiting_103 rfl (lv_at hl 5 rfl) ?_
      refine lv_iadd hx hb dX8_waiting_104 ?_
      refine lv_istore (lv' := [(7, .int ((x + 1) + w)), (4, .int (x + 1)), (6, .int 0), (5, .int 1), (3, .int (M 88 w0)), (0, .ref (fad E 86)), (1, .int w), (2, .int x)]) hx hb dX8_waiting_105 hl (by decide) rfl (fun ls hl => ?_)
      refine lv_iload hx hb dX8_waiting_107 (lv_at hl 3 rfl) ?_
      refine lv_if_eq (tgt := 123) hx hb dX8_waiting_109 (by decide) (fun c_109 => absurd c_109 (by decide)) (fun _ => ?_)
      refine lv_iload hx hb dX8_waiting_112 (lv_at hl 0 rfl) ?_
      refine lv_aload_n hx hb dX8_waiting_114 rfl (lv_at hl 5 rfl) ?_
      refine f_get X hP (T := TX8) (ci := 8) (k := 86) rfl inX8 rfl 10 (by decide) m_4_184 rfl (v := .ref (fad E 89)) rfl dX8_waiting_115 ?_
      refine lv_iload_n hx hb dX8_waiting_118 rfl (lv_at hl 6 rfl) ?_
      refine f_iald X hP (k := 89) (n := 6) (q := w0) rfl rfl hw dX8_waiting_119 ?_
      refine f_topI ((bodyM_o (Or.inl ⟨by decide, by decide⟩)).trans ((bodyM_o (Or.inl ⟨by decide, by decide⟩)).trans (bodyM_o (Or.inl ⟨by decide, by decide⟩)))) ?_
      refine lv_iadd hx hb dX8_waiting_120 ?_
      refine lv_istore (lv' := [(7, .int (((x + 1) + w) + (M 89 w0))), (4, .int (x + 1)), (6, .int 0), (5, .int 1), (3, .int (M 88 w0)), (0, .ref (fad E 86)), (1, .int w), (2, .int x)]) hx hb dX8_waiting_121 hl (by decide) rfl (fun ls hl => ?_)
      refine lv_iload hx hb dX8_waiting_123 (lv_at hl 2 rfl) ?_
      refine lv_if_eq (tgt := 134) hx hb dX8_waiting_125 (by decide) (fun _ => ?_) (fun c_125 => absurd c_125 (by decide))
      refine lv_iload_n hx hb dX8_waiting_134 rfl (lv_at hl 4 rfl) ?_
      refine lv_bipush (v := 6) hx hb dX8_waiting_135 (by decide) ?_
      refine lv_icmp_ne (tgt := 147) hx hb dX8_waiting_137 (by decide) (fun c_137 => ?_) (fun c_137 => by exact absurd (c_17.symm.trans c_137) (by decide))
      refine lv_iload hx hb dX8_waiting_147 (lv_at hl 0 rfl) ?_
      refine f_ir X hlk hr (v := (((x + 1) + w) + (M 89 w0))) rfl hP hS ?_ dX8_waiting_149
      unfold a_X8_waiting
      (first | rw [if_pos c_12] | rw [if_neg c_12] | rw [if_neg (Bool.eq_false_iff.mp c_12)] | skip)
      (first | rw [if_pos c_17] | rw [if_neg c_17] | rw [if_neg (Bool.eq_false_iff.mp c_17)] | skip)
      (try dsimp only)
      first
        | done
        | exact ⟨rfl, rfl⟩
        | rfl
        | (simp only [c_12, c_17, if_true, if_false, and_self, and_true, true_and, not_true_eq_false, not_false_eq_true, and_false, false_and, or_true, true_or, or_false, false_or, or_self, Bool.false_eq_true, reduceCtorEq, nl10, nl20, nl30, nl40, nl50, nl60, nl70, nl12, nl13, nl21, nl23, nl31, nl32]; first | done | exact ⟨rfl, rfl⟩ | rfl)
        | contradiction
        | (simp only [c_12, c_17, if_true, if_false, and_self, and_true, true_and, not_true_eq_false, not_false_eq_true, and_false, false_and, or_true, true_or, or_false, false_or, or_self, Bool.false_eq_true, reduceCtorEq, nl10, nl20, nl30, nl40, nl50, nl60, nl70, nl12, nl13, nl21, nl23, nl31, nl32]; contradiction)
        | (exfalso; simp_all; done)
        | simp_all

def a_X8_looking (M : Nat → Nat → Int32) (L : Nat → Nat → Int64) (w : Int32) (x : Int32) (w0 : Nat) (n0 : Nat) : fR := (if (M 88 w0) = 6 then ((((a_X8_waiting (bodyM (bodyM M 71) 11) L w (x - (M 89 w0)) w0 (n0 + 2)).1) * 2), (a_X8_waiting (bodyM (bodyM M 71) 11) L w (x - (M 89 w0)) w0 (n0 + 2)).2.1, L) else (if (M 88 w0) = 2 then (((((a_X8_waiting (bodyM (bodyM M 30) 11) L w x w0 (n0 + 2)).1) * 2) * 3), (a_X8_waiting (bodyM (bodyM M 30) 11) L w x w0 (n0 + 2)).2.1, L) else (if (M 88 w0) = 5 then (((((a_X8_waiting (bodyM (bodyM M 30) 11) L w x w0 (n0 + 2)).1) * 2) * 3), (a_X8_waiting (bodyM (bodyM M 30) 11) L w x w0 (n0 + 2)).2.1, L) else ((((a_X8_waiting (bodyM M 11) L w x w0 (n0 + 1)).1) * 2), (a_X8_waiting (bodyM M 11) L w x w0 (n0 + 1)).2.1, L))))
set_option maxHeartbeats 1000000 in
set_option maxRecDepth 100000 in
theorem c_X8_looking (l : Launch) (E : fE) (M : Nat → Nat → Int32) (L : Nat → Nat → Int64) (w : Int32) (x : Int32) (w0 n0 : Nat) (hw : fIx w 6 w0) (hrB : rB M n0) (hn0 : n0 < 800) : Met l yX8_looking (wl yX8_looking cX8_looking 7 (some .int)) (fRm 2 48) (va_Pc [.ref (fad E 86), .int w, .int x] (fPre E M L)) (fQi E (fun r u => u = ((a_X8_looking M L w x w0 n0).2.1, L) ∧ r = (a_X8_looking M L w x w0 n0).1)) 0 0 (fA E) := by
  refine f_head (by decide) (Nat.le_of_ble_eq_true rfl) ?_
  intro pg ev s mi below meth cd ls X hr hlk hP hS hl
  have hx := X.1.1
  have hb := X.1.2.1
  have hl : lv_has ls 7 [(0, .ref (fad E 86)), (1, .int w), (2, .int x)] := hl
  refine lv_aload_n hx hb dX8_looking_0 rfl (lv_at hl 0 rfl) ?_
  refine f_get X hP (T := TX8) (ci := 8) (k := 86) rfl inX8 rfl 9 (by decide) m_4_183 rfl (v := .ref (fad E 88)) rfl dX8_looking_1 ?_
  refine lv_iload_n hx hb dX8_looking_4 rfl (lv_at hl 1 rfl) ?_
  refine f_iald X hP (k := 88) (n := 6) (q := w0) rfl rfl hw dX8_looking_5 ?_
  refine lv_istore_n (lv' := [(3, .int (M 88 w0)), (0, .ref (fad E 86)), (1, .int w), (2, .int x)]) hx hb dX8_looking_6 rfl hl (by decide) rfl (fun ls hl => ?_)
  refine lv_iload_n hx hb dX8_looking_7 rfl (lv_at hl 3 rfl) ?_
  refine lv_istore (lv' := [(4, .int x), (3, .int (M 88 w0)), (0, .ref (fad E 86)), (1, .int w), (2, .int x)]) hx hb dX8_looking_8 hl (by decide) rfl (fun ls hl => ?_)
  refine lv_iload_n hx hb dX8_looking_10 rfl (lv_at hl 1 rfl) ?_
  refine lv_bipush (v := 6) hx hb dX8_looking_11 (by decide) ?_
  refine lv_icmp_ne (tgt := 32) hx hb dX8_looking_13 (by decide) (fun c_13 => ?_) (fun c_13 => ?_)
  · refine lv_iload_n hx hb dX8_looking_32 rfl (lv_at hl 1 rfl) ?_
    refine lv_iconst (v := 2) hx hb dX8_looking_33 (by decide) ?_
    refine lv_icmp_eq (tgt := 42) hx hb dX8_looking_34 (by decide) (fun c_34 => ?_) (fun c_34 => ?_)
    · refine lv_iconst (v := 1) hx hb dX8_looking_42 (by decide) ?_
      refine lv_goto (tgt := 47) hx hb dX8_looking_43 (by decide) ?_
      refine lv_istore (lv' := [(5, .int 1), (4, .int x), (3, .int (M 88 w0)), (0, .ref (fad E 86)), (1, .int w), (2, .int x)]) hx hb dX8_looking_47 hl (by decide) rfl (fun ls hl => ?_)
      refine lv_iload hx hb dX8_looking_49 (lv_at hl 0 rfl) ?_
      refine lv_if_eq (tgt := 60) hx hb dX8_looking_51 (by decide) (fun c_51 => absurd c_51 (by decide)) (fun _ => ?_)
      refine lv_aload_n hx hb dX8_looking_54 rfl (lv_at hl 3 rfl) ?_
      refine lv_bipush (v := 30) hx hb dX8_looking_55 (by decide) ?_
      refine f_vV (n := 1) X hP hS [.int 30] [] (c_X8_body l E M L 30 n0 hrB (by omega)) m_6_113 wi_X8_body rfl rfl (by decide) (by decide +kernel) ⟨Nat.le_of_ble_eq_true rfl, Nat.le_of_ble_eq_true rfl⟩ rfl hl rfl (Nat.le_of_ble_eq_true rfl) ⟨Nat.zero_le _, Nat.zero_le _⟩ dX8_looking_57 (fun H locs hP hS => ?_)
      refine lv_aload_n hx hb dX8_looking_60 rfl (lv_at hl 3 rfl) ?_
      refine lv_bipush (v := 11) hx hb dX8_looking_61 (by decide) ?_
      refine f_vV (n := 1) X hP hS [.int 11] [] (c_X8_body l E (bodyM M 30) L 11 (n0 + 1) (rB_b hrB) (by omega)) m_6_113 wi_X8_body rfl rfl (by decide) (by decide +kernel) ⟨Nat.le_of_ble_eq_true rfl, Nat.le_of_ble_eq_true rfl⟩ rfl hl rfl (Nat.le_of_ble_eq_true rfl) ⟨Nat.zero_le _, Nat.zero_le _⟩ dX8_looking_63 (fun H locs hP hS => ?_)
      refine lv_aload_n hx hb dX8_looking_66 rfl (lv_at hl 3 rfl) ?_
      refine lv_iload_n hx hb dX8_looking_67 rfl (lv_at hl 4 rfl) ?_
      refine lv_iload hx hb dX8_looking_68 (lv_at hl 1 rfl) ?_
      refine f_iV (n := 2) X hP hS [.int w, .int x] [] (c_X8_waiting l E (bodyM (bodyM M 30) 11) L w x w0 (n0 + 2) hw (rB_b (rB_b hrB)) (by omega)) m_6_109 wi_X8_waiting rfl rfl (by decide) (by decide +kernel) ⟨Nat.le_of_ble_eq_true rfl, Nat.le_of_ble_eq_true rfl⟩ rfl hl rfl (Nat.le_of_ble_eq_true rfl) ⟨Nat.zero_le _, Nat.zero_le _⟩ dX8_looking_70 (fun H locs hP hS => ?_)
      refine lv_iconst (v := 2) hx hb dX8_looking_73 (by decide) ?_
      refine lv_imul hx hb dX8_looking_74 ?_
      refine lv_istore (lv' := [(6, .int (((a_X8_waiting (bodyM (bodyM M 30) 11) L w x w0 (n0 + 2)).1) * 2)), (5, .int 1), (4, .int x), (3, .int (M 88 w0)), (0, .ref (fad E 86)), (1, .int w), (2, .int x)]) hx hb dX8_looking_75 hl (by decide) rfl (fun ls hl => ?_)
      refine lv_iload hx hb dX8_looking_77 (lv_at hl 1 rfl) ?_
      refine lv_if_eq (tgt := 89) hx hb dX8_looking_79 (by decide) (fun c_79 => absurd c_79 (by decide)) (fun _ => ?_)
      refine lv_iload hx hb dX8_looking_82 (lv_at hl 0 rfl) ?_
      refine lv_iconst (v := 3) hx hb dX8_looking_84 (by decide) ?_
      refine lv_imul hx hb dX8_looking_85 ?_
      refine lv_goto (tgt := 91) hx hb dX8_looking_86 (by decide) ?_
      refine f_ir X hlk hr (v := ((((a_X8_waiting (bodyM (bodyM M 30) 11) L w x w0 (n0 + 2)).1) * 2) * 3)) rfl hP hS ?_ dX8_looking_91
      unfold a_X8_looking
      (first | rw [if_pos c_13] | rw [if_neg c_13] | rw [if_neg (Bool.eq_false_iff.mp c_13)] | skip)
      (first | rw [if_pos c_34] | rw [if_neg c_34] | rw [if_neg (Bool.eq_false_iff.mp c_34)] | skip)
      (try dsimp only)
      first
        | done
        | exact ⟨rfl, rfl⟩
        | rfl
        | (simp only [c_13, c_34, if_true, if_false, and_self, and_true, true_and, not_true_eq_false, not_false_eq_true, and_false, false_and, or_true, true_or, or_false, false_or, or_self, Bool.false_eq_true, reduceCtorEq, nl10, nl20, nl30, nl40, nl50, nl60, nl70, nl12, nl13, nl21, nl23, nl31, nl32]; first | done | exact ⟨rfl, rfl⟩ | rfl)
        | contradiction
        | (simp only [c_13, c_34, if_true, if_false, and_self, and_true, true_and, not_true_eq_false, not_false_eq_true, and_false, false_and, or_true, true_or, or_false, false_or, or_self, Bool.false_eq_true, reduceCtorEq, nl10, nl20, nl30, nl40, nl50, nl60, nl70, nl12, nl13, nl21, nl23, nl31, nl32]; contradiction)
        | (exfalso; simp_all; done)
        | simp_all
    · refine lv_iload_n hx hb dX8_looking_37 rfl (lv_at hl 1 rfl) ?_
      refine lv_iconst (v := 5) hx hb dX8_looking_38 (by decide) ?_
      refine lv_icmp_ne (tgt := 46) hx hb dX8_looking_39 (by decide) (fun c_39 => ?_) (fun c_39 => ?_)
      · refine lv_iconst (v := 0) hx hb dX8_looking_46 (by decide) ?_
        refine lv_istore (lv' := [(5, .int 0), (4, .int x), (3, .int (M 88 w0)), (0, .ref (fad E 86)), (1, .int w), (2, .int x)]) hx hb dX8_looking_47 hl (by decide) rfl (fun ls hl => ?_)
        refine lv_iload hx hb dX8_looking_49 (lv_at hl 0 rfl) ?_
        refine lv_if_eq (tgt := 60) hx hb dX8_looking_51 (by decide) (fun _ => ?_) (fun c_51 => absurd c_51 (by decide))
        refine lv_aload_n hx hb dX8_looking_60 rfl (lv_at hl 3 rfl) ?_
        refine lv_bipush (v := 11) hx hb dX8_looking_61 (by decide) ?_
        refine f_vV (n := 1) X hP hS [.int 11] [] (c_X8_body l E M L 11 n0 hrB (by omega)) m_6_113 wi_X8_body rfl rfl (by decide) (by decide +kernel) ⟨Nat.le_of_ble_eq_true rfl, Nat.le_of_ble_eq_true rfl⟩ rfl hl rfl (Nat.le_of_ble_eq_true rfl) ⟨Nat.zero_le _, Nat.zero_le _⟩ dX8_looking_63 (fun H locs hP hS => ?_)
        refine lv_aload_n hx hb dX8_looking_66 rfl (lv_at hl 3 rfl) ?_
        refine lv_iload_n hx hb dX8_looking_67 rfl (lv_at hl 4 rfl) ?_
        refine lv_iload hx hb dX8_looking_68 (lv_at hl 1 rfl) ?_
        refine f_iV (n := 2) X hP hS [.int w, .int x] [] (c_X8_waiting l E (bodyM M 11) L w x w0 (n0 + 1) hw (rB_b hrB) (by omega)) m_6_109 wi_X8_waiting rfl rfl (by decide) (by decide +kernel) ⟨Nat.le_of_ble_eq_true rfl, Nat.le_of_ble_eq_true rfl⟩ rfl hl rfl (Nat.le_of_ble_eq_true rfl) ⟨Nat.zero_le _, Nat.zero_le _⟩ dX8_looking_70 (fun H locs hP hS => ?_)
        refine lv_iconst (v := 2) hx hb dX8_looking_73 (by decide) ?_
        refine lv_imul hx hb dX8_looking_74 ?_
        refine lv_istore (lv' := [(6, .int (((a_X8_waiting (bodyM M 11) L w x w0 (n0 + 1)).1) * 2)), (5, .int 0), (4, .int x), (3, .int (M 88 w0)), (0, .ref (fad E 86)), (1, .int w), (2, .int x)]) hx hb dX8_looking_75 hl (by decide) rfl (fun ls hl => ?_)
        refine lv_iload hx hb dX8_looking_77 (lv_at hl 1 rfl) ?_
        refine lv_if_eq (tgt := 89) hx hb dX8_looking_79 (by decide) (fun _ => ?_) (fun c_79 => absurd c_79 (by decide))
        refine lv_iload hx hb dX8_looking_89 (lv_at hl 0 rfl) ?_
        refine f_ir X hlk hr (v := (((a_X8_waiting (bodyM M 11) L w x w0 (n0 + 1)).1) * 2)) rfl hP hS ?_ dX8_looking_91
        unfold a_X8_looking
        (first | rw [if_pos c_13] | rw [if_neg c_13] | rw [if_neg (Bool.eq_false_iff.mp c_13)] | skip)
        (first | rw [if_pos c_34] | rw [if_neg c_34] | rw [if_neg (Bool.eq_false_iff.mp c_34)] | skip)
        (first | rw [if_pos c_39] | rw [if_neg c_39] | rw [if_neg (Bool.eq_false_iff.mp c_39)] | skip)
        (try dsimp only)
        first
          | done
          | exact ⟨rfl, rfl⟩
          | rfl
          | (simp only [c_13, c_34, c_39, if_true, if_false, and_self, and_true, true_and, not_true_eq_false, not_false_eq_true, and_false, false_and, or_true, true_or, or_false, false_or, or_self, Bool.false_eq_true, reduceCtorEq, nl10, nl20, nl30, nl40, nl50, nl60, nl70, nl12, nl13, nl21, nl23, nl31, nl32]; first | done | exact ⟨rfl, rfl⟩ | rfl)
          | contradiction
          | (simp only [c_13, c_34, c_39, if_true, if_false, and_self, and_true, true_and, not_true_eq_false, not_false_eq_true, and_false, false_and, or_true, true_or, or_false, false_or, or_self, Bool.false_eq_true, reduceCtorEq, nl10, nl20, nl30, nl40, nl50, nl60, nl70, nl12, nl13, nl21, nl23, nl31, nl32]; contradiction)
          | (exfalso; simp_all; done)
          | simp_all
      · refine lv_iconst (v := 1) hx hb dX8_looking_42 (by decide) ?_
        refine lv_goto (tgt := 47) hx hb dX8_looking_43 (by decide) ?_
        refine lv_istore (lv' := [(5, .int 1), (4, .int x), (3, .int (M 88 w0)), (0, .ref (fad E 86)), (1, .int w), (2, .int x)]) hx hb dX8_looking_47 hl (by decide) rfl (fun ls hl => ?_)
        refine lv_iload hx hb dX8_looking_49 (lv_at hl 0 rfl) ?_
        refine lv_if_eq (tgt := 60) hx hb dX8_looking_51 (by decide) (fun c_51 => absurd c_51 (by decide)) (fun _ => ?_)
        refine lv_aload_n hx hb dX8_looking_54 rfl (lv_at hl 3 rfl) ?_
        refine lv_bipush (v := 30) hx hb dX8_looking_55 (by decide) ?_
        refine f_vV (n := 1) X hP hS [.int 30] [] (c_X8_body l E M L 30 n0 hrB (by omega)) m_6_113 wi_X8_body rfl rfl (by decide) (by decide +kernel) ⟨Nat.le_of_ble_eq_true rfl, Nat.le_of_ble_eq_true rfl⟩ rfl hl rfl (Nat.le_of_ble_eq_true rfl) ⟨Nat.zero_le _, Nat.zero_le _⟩ dX8_looking_57 (fun H locs hP hS => ?_)
        refine lv_aload_n hx hb dX8_looking_60 rfl (lv_at hl 3 rfl) ?_
        refine lv_bipush (v := 11) hx hb dX8_looking_61 (by decide) ?_
        refine f_vV (n := 1) X hP hS [.int 11] [] (c_X8_body l E (bodyM M 30) L 11 (n0 + 1) (rB_b hrB) (by omega)) m_6_113 wi_X8_body rfl rfl (by decide) (by decide +kernel) ⟨Nat.le_of_ble_eq_true rfl, Nat.le_of_ble_eq_true rfl⟩ rfl hl rfl (Nat.le_of_ble_eq_true rfl) ⟨Nat.zero_le _, Nat.zero_le _⟩ dX8_looking_63 (fun H locs hP hS => ?_)
        refine lv_aload_n hx hb dX8_looking_66 rfl (lv_at hl 3 rfl) ?_
        refine lv_iload_n hx hb dX8_looking_67 rfl (lv_at hl 4 rfl) ?_
        refine lv_iload hx hb dX8_looking_68 (lv_at hl 1 rfl) ?_
        refine f_iV (n := 2) X hP hS [.int w, .int x] [] (c_X8_waiting l E (bodyM (bodyM M 30) 11) L w x w0 (n0 + 2) hw (rB_b (rB_b hrB)) (by omega)) m_6_109 wi_X8_waiting rfl rfl (by decide) (by decide +kernel) ⟨Nat.le_of_ble_eq_true rfl, Nat.le_of_ble_eq_true rfl⟩ rfl hl rfl (Nat.le_of_ble_eq_true rfl) ⟨Nat.zero_le _, Nat.zero_le _⟩ dX8_looking_70 (fun H locs hP hS => ?_)
        refine lv_iconst (v := 2) hx hb dX8_looking_73 (by decide) ?_
        refine lv_imul hx hb dX8_looking_74 ?_
        refine lv_istore (lv' := [(6, .int (((a_X8_waiting (bodyM (bodyM M 30) 11) L w x w0 (n0 + 2)).1) * 2)), (5, .int 1), (4, .int x), (3, .int (M 88 w0)), (0, .ref (fad E 86)), (1, .int w), (2, .int x)]) hx hb dX8_looking_75 hl (by decide) rfl (fun ls hl => ?_)
        refine lv_iload hx hb dX8_looking_77 (lv_at hl 1 rfl) ?_
        refine lv_if_eq (tgt := 89) hx hb dX8_looking_79 (by decide) (fun c_79 => absurd c_79 (by decide)) (fun _ => ?_)
        refine lv_iload hx hb dX8_looking_82 (lv_at hl 0 rfl) ?_
        refine lv_iconst (v := 3) hx hb dX8_looking_84 (by decide) ?_
        refine lv_imul hx hb dX8_looking_85 ?_
        refine lv_goto (tgt := 91) hx hb dX8_looking_86 (by decide) ?_
        refine f_ir X hlk hr (v := ((((a_X8_waiting (bodyM (bodyM M 30) 11) L w x w0 (n0 + 2)).1) * 2) * 3)) rfl hP hS ?_ dX8_looking_91
        unfold a_X8_looking
        (first | rw [if_pos c_13] | rw [if_neg c_13] | rw [if_neg (Bool.eq_false_iff.mp c_13)] | skip)
        (first | rw [if_pos c_34] | rw [if_neg c_34] | rw [if_neg (Bool.eq_false_iff.mp c_34)] | skip)
        (first | rw [if_pos c_39] | rw [if_neg c_39] | rw [if_neg (Bool.eq_false_iff.mp c_39)] | skip)
        (try dsimp only)
        first
          | done
          | exact ⟨rfl, rfl⟩
          | rfl
          | (simp only [c_13, c_34, c_39, if_true, if_false, and_self, and_true, true_and, not_true_eq_false, not_false_eq_true, and_false, false_and, or_true, true_or, or_false, false_or, or_self, Bool.false_eq_true, reduceCtorEq, nl10, nl20, nl30, nl40, nl50, nl60, nl70, nl12, nl13, nl21, nl23, nl31, nl32]; first | done | exact ⟨rfl, rfl⟩ | rfl)
          | contradiction
          | (simp only [c_13, c_34, c_39, if_true, if_false, and_self, and_true, true_and, not_true_eq_false, not_false_eq_true, and_false, false_and, or_true, true_or, or_false, false_or, or_self, Bool.false_eq_true, reduceCtorEq, nl10, nl20, nl30, nl40, nl50, nl60, nl70, nl12, nl13, nl21, nl23, nl31, nl32]; contradiction)
          | (exfalso; simp_all; done)
          | simp_all
  · refine lv_aload_n hx hb dX8_looking_16 rfl (lv_at hl 2 rfl) ?_
    refine lv_bipush (v := 71) hx hb dX8_looking_17 (by decide) ?_
    refine f_vV (n := 1) X hP hS [.int 71] [] (c_X8_body l E M L 71 n0 hrB (by omega)) m_6_113 wi_X8_body rfl rfl (by decide) (by decide +kernel) ⟨Nat.le_of_ble_eq_true rfl, Nat.le_of_ble_eq_true rfl⟩ rfl hl rfl (Nat.le_of_ble_eq_true rfl) ⟨Nat.zero_le _, Nat.zero_le _⟩ dX8_looking_19 (fun H locs hP hS => ?_)
    refine lv_iload_n hx hb dX8_looking_22 rfl (lv_at hl 4 rfl) ?_
    refine lv_aload_n hx hb dX8_looking_23 rfl (lv_at hl 2 rfl) ?_
    refine f_get X hP (T := TX8) (ci := 8) (k := 86) rfl inX8 rfl 10 (by decide) m_4_184 rfl (v := .ref (fad E 89)) rfl dX8_looking_24 ?_
    refine lv_iload_n hx hb dX8_looking_27 rfl (lv_at hl 3 rfl) ?_
    refine f_iald X hP (k := 89) (n := 6) (q := w0) rfl rfl hw dX8_looking_28 ?_
    refine f_topI (bodyM_o (Or.inl ⟨by decide, by decide⟩)) ?_
    refine lv_isub hx hb dX8_looking_29 ?_
    refine lv_istore (lv' := [(4, .int (x - (M 89 w0))), (3, .int (M 88 w0)), (0, .ref (fad E 86)), (1, .int w), (2, .int x)]) hx hb dX8_looking_30 hl (by decide) rfl (fun ls hl => ?_)
    refine lv_iload_n hx hb dX8_looking_32 rfl (lv_at hl 1 rfl) ?_
    refine lv_iconst (v := 2) hx hb dX8_looking_33 (by decide) ?_
    refine lv_icmp_eq (tgt := 42) hx hb dX8_looking_34 (by decide) (fun c_34 => by exact absurd (c_13.symm.trans c_34) (by decide)) (fun c_34 => ?_)
    refine lv_iload_n hx hb dX8_looking_37 rfl (lv_at hl 1 rfl) ?_
    refine lv_iconst (v := 5) hx hb dX8_looking_38 (by decide) ?_
    refine lv_icmp_ne (tgt := 46) hx hb dX8_looking_39 (by decide) (fun c_39 => ?_) (fun c_39 => by exact absurd (c_13.symm.trans c_39) (by decide))
    refine lv_iconst (v := 0) hx hb dX8_looking_46 (by decide) ?_
    refine lv_istore (lv' := [(5, .int 0), (4, .int (x - (M 89 w0))), (3, .int (M 88 w0)), (0, .ref (fad E 86)), (1, .int w), (2, .int x)]) hx hb dX8_looking_47 hl (by decide) rfl (fun ls hl => ?_)
    refine lv_iload hx hb dX8_looking_49 (lv_at hl 0 rfl) ?_
    refine lv_if_eq (tgt := 60) hx hb dX8_looking_51 (by decide) (fun _ => ?_) (fun c_51 => absurd c_51 (by decide))
    refine lv_aload_n hx hb dX8_looking_60 rfl (lv_at hl 3 rfl) ?_
    refine lv_bipush (v := 11) hx hb dX8_looking_61 (by decide) ?_
    refine f_vV (n := 1) X hP hS [.int 11] [] (c_X8_body l E (bodyM M 71) L 11 (n0 + 1) (rB_b hrB) (by omega)) m_6_113 wi_X8_body rfl rfl (by decide) (by decide +kernel) ⟨Nat.le_of_ble_eq_true rfl, Nat.le_of_ble_eq_true rfl⟩ rfl hl rfl (Nat.le_of_ble_eq_true rfl) ⟨Nat.zero_le _, Nat.zero_le _⟩ dX8_looking_63 (fun H locs hP hS => ?_)
    refine lv_aload_n hx hb dX8_looking_66 rfl (lv_at hl 3 rfl) ?_
    refine lv_iload_n hx hb dX8_looking_67 rfl (lv_at hl 4 rfl) ?_
    refine lv_iload hx hb dX8_looking_68 (lv_at hl 1 rfl) ?_
    refine f_iV (n := 2) X hP hS [.int w, .int (x - (M 89 w0))] [] (c_X8_waiting l E (bodyM (bodyM M 71) 11) L w (x - (M 89 w0)) w0 (n0 + 2) hw (rB_b (rB_b hrB)) (by omega)) m_6_109 wi_X8_waiting rfl rfl (by decide) (by decide +kernel) ⟨Nat.le_of_ble_eq_true rfl, Nat.le_of_ble_eq_true rfl⟩ rfl hl rfl (Nat.le_of_ble_eq_true rfl) ⟨Nat.zero_le _, Nat.zero_le _⟩ dX8_looking_70 (fun H locs hP hS => ?_)
    refine lv_iconst (v := 2) hx hb dX8_looking_73 (by decide) ?_
    refine lv_imul hx hb dX8_looking_74 ?_
    refine lv_istore (lv' := [(6, .int (((a_X8_waiting (bodyM (bodyM M 71) 11) L w (x - (M 89 w0)) w0 (n0 + 2)).1) * 2)), (5, .int 0), (4, .int (x - (M 89 w0))), (3, .int (M 88 w0)), (0, .ref (fad E 86)), (1, .int w), (2, .int x)]) hx hb dX8_looking_75 hl (by decide) rfl (fun ls hl => ?_)
    refine lv_iload hx hb dX8_looking_77 (lv_at hl 1 rfl) ?_
    refine lv_if_eq (tgt := 89) hx hb dX8_looking_79 (by decide) (fun _ => ?_) (fun c_79 => absurd c_79 (by decide))
    refine lv_iload hx hb dX8_looking_89 (lv_at hl 0 rfl) ?_
    refine f_ir X hlk hr (v := (((a_X8_waiting (bodyM (bodyM M 71) 11) L w (x - (M 89 w0)) w0 (n0 + 2)).1) * 2)) rfl hP hS ?_ dX8_looking_91
    unfold a_X8_looking
    (first | rw [if_pos c_13] | rw [if_neg c_13] | rw [if_neg (Bool.eq_false_iff.mp c_13)] | skip)
    (try dsimp only)
    first
      | done
      | exact ⟨rfl, rfl⟩
      | rfl
      | (simp only [c_13, if_true, if_false, and_self, and_true, true_and, not_true_eq_false, not_false_eq_true, and_false, false_and, or_true, true_or, or_false, false_or, or_self, Bool.false_eq_true, reduceCtorEq, nl10, nl20, nl30, nl40, nl50, nl60, nl70, nl12, nl13, nl21, nl23, nl31, nl32]; first | done | exact ⟨rfl, rfl⟩ | rfl)
      | contradiction
      | (simp only [c_13, if_true, if_false, and_self, and_true, true_and, not_true_eq_false, not_false_eq_true, and_false, false_and, or_true, true_or, or_false, false_or, or_self, Bool.false_eq_true, reduceCtorEq, nl10, nl20, nl30, nl40, nl50, nl60, nl70, nl12, nl13, nl21, nl23, nl31, nl32]; contradiction)
      | (exfalso; simp_all; done)
      | simp_all
