set_option maxHeartbeats 4000000 in
set_option maxRecDepth 100000 in
theorem c_X8_word (l : Launch) (E : fE) (M : Nat → Nat → Int32) (L : Nat → Nat → Int64) (s0 pl en : Nat) (hba : M 86 32 = nI (160 * s0)) (hs08 : s0 < 8) (hpl : M 86 33 = nI pl) (hen : M 86 34 = nI en) (hen1 : en ≤ 160) (hpe : pl ≤ en) (hwd : ∀ k, k < 28 → M 106 k = wdA k) : Met l yX8_word (wl yX8_word cX8_word 6 (some .int)) (fRm 0 0) (va_Pc [.ref (fad E 86)] (fPre E M L)) (fQi E (fun r u => u = ((wordV M L s0 pl en).2, L) ∧ r = (wordV M L s0 pl en).1)) 0 0 (fA E) := by
  refine f_head (by decide) (Nat.le_of_ble_eq_true rfl) ?_
  intro pg ev s mi below meth cd ls X hr hlk hP hS hl
  have hx := X.1.1
  have hb := X.1.2.1
  have hl : lv_has ls 6 [(0, .ref (fad E 86))] := hl
  refine lv_iconst (v := 0) hx hb dX8_word_0 (by decide) ?_
  refine lv_istore_n (lv' := [(1, .int 0), (0, .ref (fad E 86))]) hx hb dX8_word_1 rfl hl (by decide) rfl (fun ls hl => ?_)
  refine lv_aload_n hx hb dX8_word_2 rfl (lv_at hl 1 rfl) ?_
  refine f_get X hP (T := TX8) (ci := 8) (k := 86) rfl inX8 rfl 33 (by decide) m_4_207 rfl (v := .int (nI pl)) (congrArg Value.int hpl) dX8_word_3 ?_
  refine lv_istore_n (lv' := [(2, .int (nI pl)), (1, .int 0), (0, .ref (fad E 86))]) hx hb dX8_word_6 rfl hl (by decide) rfl (fun ls hl => ?_)
  refine lv_iconst (v := 0) hx hb dX8_word_7 (by decide) ?_
  refine lv_istore_n (lv' := [(3, .int 0), (2, .int (nI pl)), (1, .int 0), (0, .ref (fad E 86))]) hx hb dX8_word_8 rfl hl (by decide) rfl (fun ls hl => ?_)
  refine f_loop (α := Nat) (fun (w : Nat) H locs ls => fP E M L H ∧ va_S (fA E) s.heap H locs ∧ lv_has ls 6 [(3, .int (nI w)), (2, .int (nI (farN M L s0 en pl w))), (1, .int (nI (wdS w))), (0, .ref (fad E 86))] ∧ (w ≤ 4) ∧ (∀ v, v < w → ¬ mtF M L s0 en (wdS v) pl 8 = wdL v)) (fun (w : Nat) => 4 - w) (pc0 := 9) (st := fun _ => []) ?_ 0 _ _ _ ⟨hP, hS, lv_sub hl [0, 1, 2, 3] rfl, (by omega), (fun v hv => absurd hv (by omega))⟩
  rintro w H locs ls ⟨hP, hS, hl, hw4, hno⟩ ih_9
  refine lv_iload_n hx hb dX8_word_9 rfl (lv_at hl 0 rfl) ?_
  refine lv_iconst (v := 4) hx hb dX8_word_10 (by decide) ?_
  refine lv_icmp_ge (tgt := 129) hx hb dX8_word_11 (by decide) (fun c_11 => ?_) (fun c_11 => ?_)
  · have c_11 := (nI_le_iff (a := 4) (b := w) (by omega) (by omega)).mp c_11
    obtain rfl : w = 4 := by omega
    refine lv_aload_n hx hb dX8_word_129 rfl (lv_at hl 3 rfl) ?_
    refine lv_iload_n hx hb dX8_word_130 rfl (lv_at hl 1 rfl) ?_
    refine f_put X hP hS (T := TX8) (ci := 8) (k := 86) rfl inX8 rfl tyX8 tyX8_ok nmX8 36 (by decide) m_4_210 ⟨rfl, rfl⟩ rfl (v := (nI (farN M L s0 en pl 4))) rfl rfl dX8_word_131 (fun H locs hP hS => ?_)
    refine lv_iconst (v := (-1)) hx hb dX8_word_134 (by decide) ?_
    refine f_ir X hlk hr (v := (-1)) rfl hP hS ?_ dX8_word_135
    have e9 := wordV_no (M := M) (L := L) (s0 := s0) (pl := pl) (en := en) hno
    exact ⟨by rw [e9], by rw [e9]⟩
  · have c_11 := (not_congr (nI_le_iff (a := 4) (b := w) (by omega) (by omega))).mp c_11
    have hwl := wd_len (w := w) (by omega)
    have hfl := far_le (M := M) (L := L) (s0 := s0) (en := en) (p := pl) w
    refine f_join (α := Nat) (fun (i : Nat) H locs ls => fP E M L H ∧ va_S (fA E) s.heap H locs ∧ lv_has ls 6 [(3, .int (nI w)), (2, .int (nI (farN M L s0 en pl w))), (1, .int (nI (wdS w))), (0, .ref (fad E 86)), (4, .int (nI (pl + i))), (5, .int (nI (wdS w + i)))] ∧ (mtF M L s0 en (wdS w) pl 8 = i) ∧ (i ≤ wdL w)) (pc0 := 74) (st := fun (i : Nat) => []) ?_ ?_
    · rintro i H locs ls ⟨hP, hS, hl, hK, hi⟩
      refine lv_aload_n hx hb dX8_word_74 rfl (lv_at hl 3 rfl) ?_
      refine f_get X hP (T := TX8) (ci := 8) (k := 86) rfl inX8 rfl 27 (by decide) m_4_201 rfl (v := .ref (fad E 106)) rfl dX8_word_75 ?_
      refine lv_iload hx hb dX8_word_78 (lv_at hl 5 rfl) ?_
      refine f_iald X hP (k := 106) (n := 28) (q := (wdS w + i)) rfl rfl (fIx_nI (by omega) (by decide)) dX8_word_80 ?_
      refine lv_if_ne (tgt := 92) hx hb dX8_word_81 (by decide) (fun c_81 => ?_) (fun c_81 => ?_)
      · have hk9 : ¬ mtF M L s0 en (wdS w) pl 8 = wdL w := fun h9 => c_81 ((wd_z4 hwd (by omega) hi).mpr (hK.symm.trans h9))
        refine lv_iload hx hb dX8_word_92 (lv_at hl 4 rfl) ?_
        refine lv_iload_n hx hb dX8_word_94 rfl (lv_at hl 1 rfl) ?_
        refine lv_icmp_le (tgt := 103) hx hb dX8_word_95 (by decide) (fun c_95 => ?_) (fun c_95 => ?_)
        · have c_95 := (nI_le_iff (a := (pl + i)) (b := (farN M L s0 en pl w)) (by omega) (by omega)).mp c_95
          refine lv_iload_n hx hb dX8_word_103 rfl (lv_at hl 1 rfl) ?_
          refine f_topI (v := (nI (farN M L s0 en pl (w + 1)))) (by rw [far_s, hK]; first | rw [if_pos c_95] | rw [if_neg c_95]) ?_
          refine lv_istore_n (lv' := [(2, .int (nI (farN M L s0 en pl (w + 1)))), (3, .int (nI w)), (1, .int (nI (wdS w))), (0, .ref (fad E 86)), (4, .int (nI (pl + i))), (5, .int (nI (wdS w + i)))]) hx hb dX8_word_104 rfl hl (by decide) rfl (fun ls hl => ?_)
          refine f_loop (α := Nat) (fun (j : Nat) H locs ls => fP E M L H ∧ va_S (fA E) s.heap H locs ∧ lv_has ls 6 [(2, .int (nI (farN M L s0 en pl (w + 1)))), (3, .int (nI w)), (1, .int (nI (wdS w + j))), (0, .ref (fad E 86)), (4, .int (nI (pl + i))), (5, .int (nI (wdS w + i)))] ∧ (j ≤ wdL w)) (fun (j : Nat) => 8 - j) (pc0 := 105) (st := fun _ => []) ?_ 0 _ _ _ ⟨hP, hS, lv_sub hl [0, 1, 2, 3, 4, 5] rfl, (by omega)⟩
          rintro j H locs ls ⟨hP, hS, hl, hj⟩ ih_105
          refine lv_aload_n hx hb dX8_word_105 rfl (lv_at hl 3 rfl) ?_
          refine f_get X hP (T := TX8) (ci := 8) (k := 86) rfl inX8 rfl 27 (by decide) m_4_201 rfl (v := .ref (fad E 106)) rfl dX8_word_106 ?_
          refine lv_iload_n hx hb dX8_word_109 rfl (lv_at hl 2 rfl) ?_
          refine f_iald X hP (k := 106) (n := 28) (q := (wdS w + j)) rfl rfl (fIx_nI (by omega) (by decide)) dX8_word_110 ?_
          refine lv_if_eq (tgt := 120) hx hb dX8_word_111 (by decide) (fun c_111 => ?_) (fun c_111 => ?_)
          · obtain rfl : j = wdL w := (wd_z4 hwd (by omega) hj).mp c_111
            refine lv_iinc (v := (nI (wdS w + (wdL w) + 1))) (lv' := [(1, .int (nI (wdS w + (wdL w) + 1))), (2, .int (nI (farN M L s0 en pl (w + 1)))), (3, .int (nI w)), (0, .ref (fad E 86)), (4, .int (nI (pl + i))), (5, .int (nI (wdS w + i)))]) hx hb dX8_word_120 hl (k := 2) rfl (nI_1 _) (by decide) rfl (fun ls hl => ?_)
            refine lv_iinc (v := (nI (w + 1))) (lv' := [(3, .int (nI (w + 1))), (1, .int (nI (wdS w + (wdL w) + 1))), (2, .int (nI (farN M L s0 en pl (w + 1)))), (0, .ref (fad E 86)), (4, .int (nI (pl + i))), (5, .int (nI (wdS w + i)))]) hx hb dX8_word_123 hl (k := 2) rfl (nI_1 _) (by decide) rfl (fun ls hl => ?_)
            have hl : lv_has ls 6 [(3, .int (nI (w + 1))), (1, .int (nI (wdS (w + 1)))), (2, .int (nI (farN M L s0 en pl (w + 1)))), (0, .ref (fad E 86)), (4, .int (nI (pl + i))), (5, .int (nI (wdS w + i)))] := by rw [hwl.2.2]; exact hl
            refine lv_goto (tgt := 9) hx hb dX8_word_126 (by decide) ?_
            exact ih_9 (w + 1) _ _ _ (by show 4 - (w + 1) < 4 - w; omega) ⟨hP, hS, lv_sub hl [0, 2, 1, 3] rfl, (by omega), (no_s hno hk9)⟩
          · have hne8 : ¬ j = wdL w := fun h9 => c_111 ((wd_z4 hwd (by omega) hj).mpr h9)
            refine lv_iinc (v := (nI (wdS w + j + 1))) (lv' := [(1, .int (nI (wdS w + j + 1))), (2, .int (nI (farN M L s0 en pl (w + 1)))), (3, .int (nI w)), (0, .ref (fad E 86)), (4, .int (nI (pl + i))), (5, .int (nI (wdS w + i)))]) hx hb dX8_word_114 hl (k := 2) rfl (nI_1 _) (by decide) rfl (fun ls hl => ?_)
            refine lv_goto (tgt := 105) hx hb dX8_word_117 (by decide) ?_
            exact ih_105 (j + 1) _ _ _ (by show 8 - (j + 1) < 8 - j; omega) ⟨hP, hS, lv_sub hl [1, 2, 0, 3, 4, 5] rfl, (by omega)⟩
        · have c_95 := (not_congr (nI_le_iff (a := (pl + i)) (b := (farN M L s0 en pl w)) (by omega) (by omega))).mp c_95
          refine lv_iload hx hb dX8_word_98 (lv_at hl 4 rfl) ?_
          refine lv_goto (tgt := 104) hx hb dX8_word_100 (by decide) ?_
          refine f_topI (v := (nI (farN M L s0 en pl (w + 1)))) (by rw [far_s, hK]; first | rw [if_pos c_95] | rw [if_neg c_95]) ?_
          refine lv_istore_n (lv' := [(2, .int (nI (farN M L s0 en pl (w + 1)))), (3, .int (nI w)), (1, .int (nI (wdS w))), (0, .ref (fad E 86)), (4, .int (nI (pl + i))), (5, .int (nI (wdS w + i)))]) hx hb dX8_word_104 rfl hl (by decide) rfl (fun ls hl => ?_)
          refine f_loop (α := Nat) (fun (j : Nat) H locs ls => fP E M L H ∧ va_S (fA E) s.heap H locs ∧ lv_has ls 6 [(2, .int (nI (farN M L s0 en pl (w + 1)))), (3, .int (nI w)), (1, .int (nI (wdS w + j))), (0, .ref (fad E 86)), (4, .int (nI (pl + i))), (5, .int (nI (wdS w + i)))] ∧ (j ≤ wdL w)) (fun (j : Nat) => 8 - j) (pc0 := 105) (st := fun _ => []) ?_ 0 _ _ _ ⟨hP, hS, lv_sub hl [0, 1, 2, 3, 4, 5] rfl, (by omega)⟩
          rintro j H locs ls ⟨hP, hS, hl, hj⟩ ih_105
          refine lv_aload_n hx hb dX8_word_105 rfl (lv_at hl 3 rfl) ?_
          refine f_get X hP (T := TX8) (ci := 8) (k := 86) rfl inX8 rfl 27 (by decide) m_4_201 rfl (v := .ref (fad E 106)) rfl dX8_word_106 ?_
          refine lv_iload_n hx hb dX8_word_109 rfl (lv_at hl 2 rfl) ?_
          refine f_iald X hP (k := 106) (n := 28) (q := (wdS w + j)) rfl rfl (fIx_nI (by omega) (by decide)) dX8_word_110 ?_
          refine lv_if_eq (tgt := 120) hx hb dX8_word_111 (by decide) (fun c_111 => ?_) (fun c_111 => ?_)
          · obtain rfl : j = wdL w := (wd_z4 hwd (by omega) hj).mp c_111
            refine lv_iinc (v := (nI (wdS w + (wdL w) + 1))) (lv' := [(1, .int (nI (wdS w + (wdL w) + 1))), (2, .int (nI (farN M L s0 en pl (w + 1)))), (3, .int (nI w)), (0, .ref (fad E 86)), (4, .int (nI (pl + i))), (5, .int (nI (wdS w + i)))]) hx hb dX8_word_120 hl (k := 2) rfl (nI_1 _) (by decide) rfl (fun ls hl => ?_)
            refine lv_iinc (v := (nI (w + 1))) (lv' := [(3, .int (nI (w + 1))), (1, .int (nI (wdS w + (wdL w) + 1))), (2, .int (nI (farN M L s0 en pl (w + 1)))), (0, .ref (fad E 86)), (4, .int (nI (pl + i))), (5, .int (nI (wdS w + i)))]) hx hb dX8_word_123 hl (k := 2) rfl (nI_1 _) (by decide) rfl (fun ls hl => ?_)
            have hl : lv_has ls 6 [(3, .int (nI (w + 1))), (1, .int (nI (wdS (w + 1)))), (2, .int (nI (farN M L s0 en pl (w + 1)))), (0, .ref (fad E 86)), (4, .int (nI (pl + i))), (5, .int (nI (wdS w + i)))] := by rw [hwl.2.2]; exact hl
            refine lv_goto (tgt := 9) hx hb dX8_word_126 (by decide) ?_
            exact ih_9 (w + 1) _ _ _ (by show 4 - (w + 1) < 4 - w; omega) ⟨hP, hS, lv_sub hl [0, 2, 1, 3] rfl, (by omega), (no_s hno hk9)⟩
          · have hne8 : ¬ j = wdL w := fun h9 => c_111 ((wd_z4 hwd (by omega) hj).mpr h9)
            refine lv_iinc (v := (nI (wdS w + j + 1))) (lv' := [(1, .int (nI (wdS w + j + 1))), (2, .int (nI (farN M L s0 en pl (w + 1)))), (3, .int (nI w)), (0, .ref (fad E 86)), (4, .int (nI (pl + i))), (5, .int (nI (wdS w + i)))]) hx hb dX8_word_114 hl (k := 2) rfl (nI_1 _) (by decide) rfl (fun ls hl => ?_)
            refine lv_goto (tgt := 105) hx hb dX8_word_117 (by decide) ?_
            exact ih_105 (j + 1) _ _ _ (by show 8 - (j + 1) < 8 - j; omega) ⟨hP, hS, lv_sub hl [1, 2, 0, 3, 4, 5] rfl, (by omega)⟩
      · have hk9 : i = wdL w := (wd_z4 hwd (by omega) hi).mp c_81
        refine lv_aload_n hx hb dX8_word_84 rfl (lv_at hl 3 rfl) ?_
        refine lv_iload hx hb dX8_word_85 (lv_at hl 4 rfl) ?_
        refine f_put X hP hS (T := TX8) (ci := 8) (k := 86) rfl inX8 rfl tyX8 tyX8_ok nmX8 33 (by decide) m_4_207 ⟨rfl, rfl⟩ rfl (v := (nI (pl + i))) rfl rfl dX8_word_87 (fun H locs hP hS => ?_)
        refine lv_iload_n hx hb dX8_word_90 rfl (lv_at hl 0 rfl) ?_
        refine f_ir X hlk hr (v := (nI w)) rfl hP hS ?_ dX8_word_91
        have e9 := wordV_ok (pl := pl) (w := w) (by omega) hno (hK.trans hk9)
        subst hk9
        exact ⟨by rw [e9], by rw [e9]⟩
    intro jn_74
    refine lv_aload_n hx hb dX8_word_14 rfl (lv_at hl 3 rfl) ?_
    refine f_get X hP (T := TX8) (ci := 8) (k := 86) rfl inX8 rfl 33 (by decide) m_4_207 rfl (v := .int (nI pl)) (congrArg Value.int hpl) dX8_word_15 ?_
    refine lv_istore (lv' := [(4, .int (nI pl)), (3, .int (nI w)), (2, .int (nI (farN M L s0 en pl w))), (1, .int (nI (wdS w))), (0, .ref (fad E 86))]) hx hb dX8_word_18 hl (by decide) rfl (fun ls hl => ?_)
    refine lv_iload_n hx hb dX8_word_20 rfl (lv_at hl 3 rfl) ?_
    refine lv_istore (lv' := [(5, .int (nI (wdS w))), (4, .int (nI pl)), (3, .int (nI w)), (2, .int (nI (farN M L s0 en pl w))), (1, .int (nI (wdS w))), (0, .ref (fad E 86))]) hx hb dX8_word_21 hl (by decide) rfl (fun ls hl => ?_)
    refine f_loop (α := Nat) (fun (i : Nat) H locs ls => fP E M L H ∧ va_S (fA E) s.heap H locs ∧ lv_has ls 6 [(5, .int (nI (wdS w + i))), (4, .int (nI (pl + i))), (3, .int (nI w)), (2, .int (nI (farN M L s0 en pl w))), (1, .int (nI (wdS w))), (0, .ref (fad E 86))] ∧ (mtF M L s0 en (wdS w) pl i = i) ∧ (i ≤ wdL w) ∧ (pl + i ≤ en)) (fun (i : Nat) => 8 - i) (pc0 := 23) (st := fun _ => []) ?_ 0 _ _ _ ⟨hP, hS, lv_sub hl [0, 1, 2, 3, 4, 5] rfl, rfl, (by omega), (by omega)⟩
    rintro i H locs ls ⟨hP, hS, hl, hmt, hi, hpe1⟩ ih_23
    refine lv_aload_n hx hb dX8_word_23 rfl (lv_at hl 5 rfl) ?_
    refine f_get X hP (T := TX8) (ci := 8) (k := 86) rfl inX8 rfl 27 (by decide) m_4_201 rfl (v := .ref (fad E 106)) rfl dX8_word_24 ?_
    refine lv_iload hx hb dX8_word_27 (lv_at hl 0 rfl) ?_
    refine f_iald X hP (k := 106) (n := 28) (q := (wdS w + i)) rfl rfl (fIx_nI (by omega) (by decide)) dX8_word_29 ?_
    refine lv_if_eq (tgt := 74) hx hb dX8_word_30 (by decide) (fun c_30 => ?_) (fun c_30 => ?_)
    · exact jn_74 i _ _ _ ⟨hP, hS, lv_sub hl [2, 3, 4, 5, 1, 0] rfl, (mt_K hmt (fun h9 => by first | exact h9.2.1 c_30 | exact c_62 h9.2.2 | (have := h9.1; omega)) (by omega)), (by omega)⟩
    · have hne9 : ¬ i = wdL w := fun h9 => c_30 ((wd_z4 hwd (by omega) hi).mpr h9)
      refine lv_iload hx hb dX8_word_33 (lv_at hl 1 rfl) ?_
      refine lv_aload_n hx hb dX8_word_35 rfl (lv_at hl 5 rfl) ?_
      refine f_get X hP (T := TX8) (ci := 8) (k := 86) rfl inX8 rfl 34 (by decide) m_4_208 rfl (v := .int (nI en)) (congrArg Value.int hen) dX8_word_36 ?_
      refine lv_icmp_ge (tgt := 74) hx hb dX8_word_39 (by decide) (fun c_39 => ?_) (fun c_39 => ?_)
      · have c_39 := (nI_le_iff (a := en) (b := (pl + i)) (by omega) (by omega)).mp c_39
        exact jn_74 i _ _ _ ⟨hP, hS, lv_sub hl [2, 3, 4, 5, 1, 0] rfl, (mt_K hmt (fun h9 => by first | exact h9.2.1 c_30 | exact c_62 h9.2.2 | (have := h9.1; omega)) (by omega)), (by omega)⟩
      · have c_39 := (not_congr (nI_le_iff (a := en) (b := (pl + i)) (by omega) (by omega))).mp c_39
        refine lv_aload_n hx hb dX8_word_42 rfl (lv_at hl 5 rfl) ?_
        refine f_get X hP (T := TX8) (ci := 8) (k := 86) rfl inX8 rfl 25 (by decide) m_4_199 rfl (v := .ref (fad E 104)) rfl dX8_word_43 ?_
        refine lv_aload_n hx hb dX8_word_46 rfl (lv_at hl 5 rfl) ?_
        refine f_get X hP (T := TX8) (ci := 8) (k := 86) rfl inX8 rfl 32 (by decide) m_4_206 rfl (v := .int (nI (160 * s0))) (congrArg Value.int hba) dX8_word_47 ?_
        refine lv_iload hx hb dX8_word_50 (lv_at hl 1 rfl) ?_
        refine lv_iadd hx hb dX8_word_52 ?_
        refine f_topI (nI_add (160 * s0) (pl + i)) ?_
        refine f_lald X hP (k := 104) (n := 1280) (q := ((160 * s0) + (pl + i))) rfl rfl (fIx_nI (by omega) (by decide)) dX8_word_53 ?_
        refine lv_l2i (v := ((L 104 ((160 * s0) + (pl + i))).toInt32)) hx hb dX8_word_54 rfl ?_
        refine lv_aload_n hx hb dX8_word_55 rfl (lv_at hl 5 rfl) ?_
        refine f_get X hP (T := TX8) (ci := 8) (k := 86) rfl inX8 rfl 27 (by decide) m_4_201 rfl (v := .ref (fad E 106)) rfl dX8_word_56 ?_
        refine lv_iload hx hb dX8_word_59 (lv_at hl 0 rfl) ?_
        refine f_iald X hP (k := 106) (n := 28) (q := (wdS w + i)) rfl rfl (fIx_nI (by omega) (by decide)) dX8_word_61 ?_
        refine lv_icmp_ne (tgt := 74) hx hb dX8_word_62 (by decide) (fun c_62 => ?_) (fun c_62 => ?_)
        · exact jn_74 i _ _ _ ⟨hP, hS, lv_sub hl [2, 3, 4, 5, 1, 0] rfl, (mt_K hmt (fun h9 => by first | exact h9.2.1 c_30 | exact c_62 h9.2.2 | (have := h9.1; omega)) (by omega)), (by omega)⟩
        · refine lv_iinc (v := (nI (pl + i + 1))) (lv' := [(4, .int (nI (pl + i + 1))), (5, .int (nI (wdS w + i))), (3, .int (nI w)), (2, .int (nI (farN M L s0 en pl w))), (1, .int (nI (wdS w))), (0, .ref (fad E 86))]) hx hb dX8_word_65 hl (k := 1) rfl (nI_1 _) (by decide) rfl (fun ls hl => ?_)
          refine lv_iinc (v := (nI (wdS w + i + 1))) (lv' := [(5, .int (nI (wdS w + i + 1))), (4, .int (nI (pl + i + 1))), (3, .int (nI w)), (2, .int (nI (farN M L s0 en pl w))), (1, .int (nI (wdS w))), (0, .ref (fad E 86))]) hx hb dX8_word_68 hl (k := 1) rfl (nI_1 _) (by decide) rfl (fun ls hl => ?_)
          refine lv_goto (tgt := 23) hx hb dX8_word_71 (by decide) ?_
          exact ih_23 (i + 1) _ _ _ (by show 8 - (i + 1) < 8 - i; omega) ⟨hP, hS, lv_sub hl [0, 1, 2, 3, 4, 5] rfl, (mt_go hmt ⟨by omega, c_30, c_62⟩), (by omega), (by omega)⟩
