set_option maxHeartbeats 4000000 in
set_option maxRecDepth 100000 in
theorem c_X8_left (l : Launch) (E : fE) (M : Nat → Nat → Int32) (L : Nat → Nat → Int64) (s1 : Int32) (n : Int32) (tc : Nat) (htc : M 86 1 = nI tc) (htc8 : tc ≤ 8) : Met l yX8_left (wl yX8_left cX8_left 8 (some .int)) (fRm 2 42) (va_Pc [.ref (fad E 86), .int s1, .int n] (fPre E M L)) (fQi E (fun r u => u = ((leftR M L s1 n tc).2.1, L) ∧ r = (leftR M L s1 n tc).1)) 0 0 (fA E) := by
  refine f_head (by decide) (Nat.le_of_ble_eq_true rfl) ?_
  intro pg ev s mi below meth cd ls X hr hlk hP hS hl
  have hx := X.1.1
  have hb := X.1.2.1
  have hl : lv_has ls 8 [(0, .ref (fad E 86)), (1, .int s1), (2, .int n)] := hl
  refine lv_aload_n hx hb dX8_left_0 rfl (lv_at hl 0 rfl) ?_
  refine lv_iload_n hx hb dX8_left_1 rfl (lv_at hl 1 rfl) ?_
  refine f_iV (n := 1) X hP hS [.int s1] [] (c_X8_wanted l E M L s1) m_5_172 wi_X8_wanted rfl rfl (by decide) (by decide +kernel) ⟨Nat.le_of_ble_eq_true rfl, Nat.le_of_ble_eq_true rfl⟩ rfl hl rfl (Nat.le_of_ble_eq_true rfl) ⟨Nat.zero_le _, Nat.zero_le _⟩ dX8_left_2 (fun H locs hP hS => ?_)
  refine lv_istore_n (lv' := [(3, .int (a_X8_wanted M L s1)), (0, .ref (fad E 86)), (1, .int s1), (2, .int n)]) hx hb dX8_left_5 rfl hl (by decide) rfl (fun ls hl => ?_)
  refine f_join (α := Int32) (fun (b : Int32) H locs ls => fP E M L H ∧ va_S (fA E) s.heap H locs ∧ lv_has ls 8 [(3, .int b), (0, .ref (fad E 86)), (1, .int s1), (2, .int n)] ∧ (b = leftB M L s1 n)) (pc0 := 86) (st := fun (b : Int32) => []) ?_ ?_
  · rintro b H locs ls ⟨hP, hS, hl, hB⟩
    refine lv_iload_n hx hb dX8_left_86 rfl (lv_at hl 0 rfl) ?_
    refine lv_if_eq (tgt := 96) hx hb dX8_left_87 (by decide) (fun c_87 => ?_) (fun c_87 => ?_)
    · have hB0 : leftB M L s1 n = 0 := hB.symm.trans c_87
      have hx9 := leftB_0 hB0
      have w0 := wd0 hx9.1
      have hi9 : fIx s1 8 s1.toNatClampNeg := fIx_lt 8 w0.1 w0.2.1 (by decide)
      obtain ⟨m, hm, em⟩ := i_le 40 hx9.2.1 hx9.2.2 (by decide)
      subst em
      have hmc : (nI m).toNatClampNeg = m := nI_clamp (by omega)
      refine lv_iconst (v := 0) hx hb dX8_left_96 (by decide) ?_
      refine lv_istore (lv' := [(4, .int 0), (3, .int b), (0, .ref (fad E 86)), (1, .int s1), (2, .int (nI m))]) hx hb dX8_left_97 hl (by decide) rfl (fun ls hl => ?_)
      refine lv_iconst (v := 0) hx hb dX8_left_99 (by decide) ?_
      refine lv_istore (lv' := [(5, .int 0), (4, .int 0), (3, .int b), (0, .ref (fad E 86)), (1, .int s1), (2, .int (nI m))]) hx hb dX8_left_100 hl (by decide) rfl (fun ls hl => ?_)
      refine f_loop (α := Nat × Int32) (fun (a : Nat × Int32) H locs ls => match a with | (t, sz) => fP E M L H ∧ va_S (fA E) s.heap H locs ∧ lv_has ls 8 [(5, .int (nI t)), (4, .int sz), (3, .int b), (0, .ref (fad E 86)), (1, .int s1), (2, .int (nI m))] ∧ (t ≤ tc) ∧ (sz = stF M L s1.toNatClampNeg m t)) (fun (a : Nat × Int32) => match a with | (t, sz) => tc - t) (pc0 := 102) (st := fun _ => []) ?_ (0, 0) _ _ _ ⟨hP, hS, lv_sub hl [0, 1, 2, 3, 4, 5] rfl, (by omega), rfl⟩
      rintro ⟨t, sz⟩ H locs ls ⟨hP, hS, hl, htt, hst⟩ ih_102
      refine lv_iload hx hb dX8_left_102 (lv_at hl 0 rfl) ?_
      refine lv_aload_n hx hb dX8_left_104 rfl (lv_at hl 3 rfl) ?_
      refine f_get X hP (T := TX8) (ci := 8) (k := 86) rfl inX8 rfl 1 (by decide) m_4_175 rfl (v := .int (nI tc)) (congrArg Value.int htc) dX8_left_105 ?_
      refine lv_icmp_ge (tgt := 169) hx hb dX8_left_108 (by decide) (fun c_108 => ?_) (fun c_108 => ?_)
      · have c_108 := (nI_le_iff (a := tc) (b := t) (by omega) (by omega)).mp c_108
        obtain rfl : t = tc := by omega
        refine lv_iload hx hb dX8_left_169 (lv_at hl 1 rfl) ?_
        refine f_ir X hlk hr (v := sz) rfl hP hS ?_ dX8_left_171
        unfold leftR; rw [if_pos hB0, hmc]; exact ⟨rfl, hst⟩
      · have c_108 := (not_congr (nI_le_iff (a := tc) (b := t) (by omega) (by omega))).mp c_108
        refine f_join (α := Int32) (fun (iz : Int32) H locs ls => fP E M L H ∧ va_S (fA E) s.heap H locs ∧ lv_has ls 8 [(5, .int (nI t)), (4, .int sz), (3, .int b), (0, .ref (fad E 86)), (1, .int s1), (2, .int (nI m)), (6, .int iz)] ∧ (iz = isF M L s1.toNatClampNeg t m)) (pc0 := 149) (st := fun (iz : Int32) => []) ?_ ?_
        · rintro iz H locs ls ⟨hP, hS, hl, hiz⟩
          refine lv_iload hx hb dX8_left_149 (lv_at hl 6 rfl) ?_
          refine lv_if_eq (tgt := 163) hx hb dX8_left_151 (by decide) (fun c_151 => ?_) (fun c_151 => ?_)
          · refine lv_iinc (v := (nI (t + 1))) (lv' := [(5, .int (nI (t + 1))), (4, .int sz), (3, .int b), (0, .ref (fad E 86)), (1, .int s1), (2, .int (nI m)), (6, .int iz)]) hx hb dX8_left_163 hl (k := 0) rfl (nI_1 _) (by decide) rfl (fun ls hl => ?_)
            refine lv_goto (tgt := 102) hx hb dX8_left_166 (by decide) ?_
            exact ih_102 ((t + 1), sz) _ _ _ (by show tc - (t + 1) < tc - t; omega) ⟨hP, hS, lv_sub hl [0, 1, 2, 3, 4, 5] rfl, (by omega), (by rw [st_s, ← hst, ← hiz]; first | exact (if_pos c_151).symm | exact (if_neg c_151).symm)⟩
          · refine lv_iload hx hb dX8_left_154 (lv_at hl 1 rfl) ?_
            refine lv_iconst (v := 1) hx hb dX8_left_156 (by decide) ?_
            refine lv_iload hx hb dX8_left_157 (lv_at hl 0 rfl) ?_
            refine lv_ishl hx hb dX8_left_159 ?_
            refine lv_iadd hx hb dX8_left_160 ?_
            refine lv_istore (lv' := [(4, .int (sz + (1 <<< ((nI t) &&& 31)))), (5, .int (nI t)), (3, .int b), (0, .ref (fad E 86)), (1, .int s1), (2, .int (nI m)), (6, .int iz)]) hx hb dX8_left_161 hl (by decide) rfl (fun ls hl => ?_)
            refine lv_iinc (v := (nI (t + 1))) (lv' := [(5, .int (nI (t + 1))), (4, .int (sz + (1 <<< ((nI t) &&& 31)))), (3, .int b), (0, .ref (fad E 86)), (1, .int s1), (2, .int (nI m)), (6, .int iz)]) hx hb dX8_left_163 hl (k := 1) rfl (nI_1 _) (by decide) rfl (fun ls hl => ?_)
            refine lv_goto (tgt := 102) hx hb dX8_left_166 (by decide) ?_
            exact ih_102 ((t + 1), (sz + (1 <<< ((nI t) &&& 31)))) _ _ _ (by show tc - (t + 1) < tc - t; omega) ⟨hP, hS, lv_sub hl [0, 1, 2, 3, 4, 5] rfl, (by omega), (by rw [st_s, ← hst, ← hiz]; first | exact (if_pos c_151).symm | exact (if_neg c_151).symm)⟩
        intro jn_149
        refine lv_iconst (v := 1) hx hb dX8_left_111 (by decide) ?_
        refine lv_istore (lv' := [(6, .int 1), (5, .int (nI t)), (4, .int sz), (3, .int b), (0, .ref (fad E 86)), (1, .int s1), (2, .int (nI m))]) hx hb dX8_left_112 hl (by decide) rfl (fun ls hl => ?_)
        refine lv_iconst (v := 0) hx hb dX8_left_114 (by decide) ?_
        refine lv_istore (lv' := [(7, .int 0), (6, .int 1), (5, .int (nI t)), (4, .int sz), (3, .int b), (0, .ref (fad E 86)), (1, .int s1), (2, .int (nI m))]) hx hb dX8_left_115 hl (by decide) rfl (fun ls hl => ?_)
        refine f_loop (α := Nat × Int32) (fun (a : Nat × Int32) H locs ls => match a with | (i, iz) => fP E M L H ∧ va_S (fA E) s.heap H locs ∧ lv_has ls 8 [(7, .int (nI i)), (6, .int iz), (5, .int (nI t)), (4, .int sz), (3, .int b), (0, .ref (fad E 86)), (1, .int s1), (2, .int (nI m))] ∧ (i ≤ m) ∧ (iz = isF M L s1.toNatClampNeg t i)) (fun (a : Nat × Int32) => match a with | (i, iz) => m - i) (pc0 := 117) (st := fun _ => []) ?_ (0, 1) _ _ _ ⟨hP, hS, lv_sub hl [0, 1, 2, 3, 4, 5, 6, 7] rfl, (by omega), rfl⟩
        rintro ⟨i, iz⟩ H locs ls ⟨hP, hS, hl, hti, hz9⟩ ih_117
        refine lv_iload hx hb dX8_left_117 (lv_at hl 0 rfl) ?_
        refine lv_iload_n hx hb dX8_left_119 rfl (lv_at hl 7 rfl) ?_
        refine lv_icmp_ge (tgt := 149) hx hb dX8_left_120 (by decide) (fun c_120 => ?_) (fun c_120 => ?_)
        · have c_120 := (nI_le_iff (a := m) (b := i) (by omega) (by omega)).mp c_120
          exact jn_149 iz _ _ _ ⟨hP, hS, lv_sub hl [2, 3, 4, 5, 6, 7, 1] rfl, (by first | (have h9 := Nat.le_antisymm hti c_120; subst h9; exact hz9) | exact hz9.trans (is_stay (hz9.symm.trans c_125) hti).symm)⟩
        · have c_120 := (not_congr (nI_le_iff (a := m) (b := i) (by omega) (by omega))).mp c_120
          refine lv_iload hx hb dX8_left_123 (lv_at hl 1 rfl) ?_
          refine lv_if_eq (tgt := 149) hx hb dX8_left_125 (by decide) (fun c_125 => ?_) (fun c_125 => ?_)
          · exact jn_149 iz _ _ _ ⟨hP, hS, lv_sub hl [2, 3, 4, 5, 6, 7, 1] rfl, (by first | (have h9 := Nat.le_antisymm hti c_120; subst h9; exact hz9) | exact hz9.trans (is_stay (hz9.symm.trans c_125) hti).symm)⟩
          · refine lv_aload_n hx hb dX8_left_128 rfl (lv_at hl 5 rfl) ?_
            refine lv_iload hx hb dX8_left_129 (lv_at hl 2 rfl) ?_
            refine lv_aload_n hx hb dX8_left_131 rfl (lv_at hl 5 rfl) ?_
            refine lv_iload_n hx hb dX8_left_132 rfl (lv_at hl 6 rfl) ?_
            refine lv_iload hx hb dX8_left_133 (lv_at hl 0 rfl) ?_
            refine f_iV (n := 2) X hP hS [.int s1, .int (nI i)] [.int (nI t), .ref (fad E 86)] (c_X8_intAt l E M L s1 (nI i) s1.toNatClampNeg i hi9 (fIx_nI (by omega) (by decide))) m_6_56 wi_X8_intAt rfl rfl (by decide) (by decide +kernel) ⟨Nat.le_of_ble_eq_true rfl, Nat.le_of_ble_eq_true rfl⟩ rfl hl rfl (Nat.le_of_ble_eq_true rfl) ⟨Nat.zero_le _, Nat.zero_le _⟩ dX8_left_135 (fun H locs hP hS => ?_)
            refine f_iV (n := 2) X hP hS [.int (nI t), .int (a_X8_intAt M L s1 (nI i) s1.toNatClampNeg i)] [] (c_X8_mayCome l E M L (nI t) (a_X8_intAt M L s1 (nI i) s1.toNatClampNeg i) t (fIx_nI (by omega) (by decide))) m_6_60 wi_X8_mayCome rfl rfl (by decide) (by decide +kernel) ⟨Nat.le_of_ble_eq_true rfl, Nat.le_of_ble_eq_true rfl⟩ rfl hl rfl (Nat.le_of_ble_eq_true rfl) ⟨Nat.zero_le _, Nat.zero_le _⟩ dX8_left_138 (fun H locs hP hS => ?_)
            refine lv_istore (lv' := [(6, .int (bI (decide ((M 94 t) ≤ (a_X8_intAt M L s1 (nI i) s1.toNatClampNeg i) ∧ (a_X8_intAt M L s1 (nI i) s1.toNatClampNeg i) ≤ (M 95 t))))), (7, .int (nI i)), (5, .int (nI t)), (4, .int sz), (3, .int b), (0, .ref (fad E 86)), (1, .int s1), (2, .int (nI m))]) hx hb dX8_left_141 hl (by decide) rfl (fun ls hl => ?_)
            refine lv_iinc (v := (nI (i + 1))) (lv' := [(7, .int (nI (i + 1))), (6, .int (bI (decide ((M 94 t) ≤ (a_X8_intAt M L s1 (nI i) s1.toNatClampNeg i) ∧ (a_X8_intAt M L s1 (nI i) s1.toNatClampNeg i) ≤ (M 95 t))))), (5, .int (nI t)), (4, .int sz), (3, .int b), (0, .ref (fad E 86)), (1, .int s1), (2, .int (nI m))]) hx hb dX8_left_143 hl (k := 1) rfl (nI_1 _) (by decide) rfl (fun ls hl => ?_)
            refine lv_goto (tgt := 117) hx hb dX8_left_146 (by decide) ?_
            exact ih_117 ((i + 1), (bI (decide ((M 94 t) ≤ (a_X8_intAt M L s1 (nI i) s1.toNatClampNeg i) ∧ (a_X8_intAt M L s1 (nI i) s1.toNatClampNeg i) ≤ (M 95 t))))) _ _ _ (by show m - (i + 1) < m - i; omega) ⟨hP, hS, lv_sub hl [0, 1, 2, 3, 4, 5, 6, 7] rfl, (by omega), (by rw [is_s, ← hz9, if_neg c_125]; rfl)⟩
    · refine lv_aload_n hx hb dX8_left_90 rfl (lv_at hl 1 rfl) ?_
      refine lv_iload_n hx hb dX8_left_91 rfl (lv_at hl 0 rfl) ?_
      refine f_iV (n := 1) X hP hS [.int b] [] (c_X8_no l E M L b (by rw [hB]; exact leftB_rg)) m_5_84 wi_X8_no rfl rfl (by decide) (by decide +kernel) ⟨Nat.le_of_ble_eq_true rfl, Nat.le_of_ble_eq_true rfl⟩ rfl hl rfl (Nat.le_of_ble_eq_true rfl) ⟨Nat.zero_le _, Nat.zero_le _⟩ dX8_left_92 (fun H locs hP hS => ?_)
      refine f_ir X hlk hr (v := b) rfl hP hS ?_ dX8_left_95
      unfold leftR; rw [← hB, if_neg c_87]; exact ⟨rfl, rfl⟩
  intro jn_86
  refine lv_iload_n hx hb dX8_left_6 rfl (lv_at hl 0 rfl) ?_
  refine lv_if_ne (tgt := 47) hx hb dX8_left_7 (by decide) (fun c_7 => ?_) (fun c_7 => ?_)
  · refine lv_iconst (v := 0) hx hb dX8_left_47 (by decide) ?_
    refine lv_istore (lv' := [(4, .int 0), (3, .int (a_X8_wanted M L s1)), (0, .ref (fad E 86)), (1, .int s1), (2, .int n)]) hx hb dX8_left_48 hl (by decide) rfl (fun ls hl => ?_)
    refine lv_iload hx hb dX8_left_50 (lv_at hl 0 rfl) ?_
    refine lv_iload_n hx hb dX8_left_52 rfl (lv_at hl 4 rfl) ?_
    refine lv_icmp_ge (tgt := 86) hx hb dX8_left_53 (by decide) (fun c_53 => ?_) (fun c_53 => ?_)
    · exact jn_86 (a_X8_wanted M L s1) _ _ _ ⟨hP, hS, lv_sub hl [1, 2, 3, 4] rfl, (by first | exact (lB_1 c_7).symm | exact (lB_2 c_7 c_11).symm | exact (lB_3 c_7 c_11 c_26).symm | exact (lB_4 c_7 c_11 c_26 c_37).symm | (rw [hB9, hb9]; first | exact (lq_stay (by rw [← hb9]; exact c_57) ht50).symm | (have h9 := Nat.le_antisymm ht50 c_53; subst h9; rfl)))⟩
    · refine lv_iload_n hx hb dX8_left_56 rfl (lv_at hl 1 rfl) ?_
      refine lv_if_ne (tgt := 86) hx hb dX8_left_57 (by decide) (fun c_57 => ?_) (fun c_57 => by exact absurd c_57 c_7)
      exact jn_86 (a_X8_wanted M L s1) _ _ _ ⟨hP, hS, lv_sub hl [1, 2, 3, 4] rfl, (by first | exact (lB_1 c_7).symm | exact (lB_2 c_7 c_11).symm | exact (lB_3 c_7 c_11 c_26).symm | exact (lB_4 c_7 c_11 c_26 c_37).symm | (rw [hB9, hb9]; first | exact (lq_stay (by rw [← hb9]; exact c_57) ht50).symm | (have h9 := Nat.le_antisymm ht50 c_53; subst h9; rfl)))⟩
  · have w0 := wd0 c_7
    have hi9 : fIx s1 8 s1.toNatClampNeg := fIx_lt 8 w0.1 w0.2.1 (by decide)
    refine lv_iload_n hx hb dX8_left_10 rfl (lv_at hl 3 rfl) ?_
    refine lv_if_ge (tgt := 19) hx hb dX8_left_11 (by decide) (fun c_11 => ?_) (fun c_11 => ?_)
    · refine lv_iload_n hx hb dX8_left_19 rfl (lv_at hl 3 rfl) ?_
      refine lv_aload_n hx hb dX8_left_20 rfl (lv_at hl 1 rfl) ?_
      refine f_get X hP (T := TX8) (ci := 8) (k := 86) rfl inX8 rfl 23 (by decide) m_4_197 rfl (v := .ref (fad E 102)) rfl dX8_left_21 ?_
      refine lv_iload_n hx hb dX8_left_24 rfl (lv_at hl 2 rfl) ?_
      refine f_iald X hP (k := 102) (n := 8) (q := s1.toNatClampNeg) rfl rfl hi9 dX8_left_25 ?_
      refine lv_icmp_le (tgt := 34) hx hb dX8_left_26 (by decide) (fun c_26 => ?_) (fun c_26 => ?_)
      · refine lv_iload_n hx hb dX8_left_34 rfl (lv_at hl 3 rfl) ?_
        refine lv_bipush (v := 40) hx hb dX8_left_35 (by decide) ?_
        refine lv_icmp_le (tgt := 45) hx hb dX8_left_37 (by decide) (fun c_37 => ?_) (fun c_37 => ?_)
        · have hB9 := leftB_ok c_7 c_11 c_26 c_37
          obtain ⟨m, hm, em⟩ := i_le 40 c_11 c_37 (by decide)
          subst em
          rw [nI_clamp (show m < 2 ^ 31 by omega)] at hB9
          refine lv_iconst (v := 0) hx hb dX8_left_45 (by decide) ?_
          refine lv_istore_n (lv' := [(3, .int 0), (0, .ref (fad E 86)), (1, .int s1), (2, .int (nI m))]) hx hb dX8_left_46 rfl hl (by decide) rfl (fun ls hl => ?_)
          refine lv_iconst (v := 0) hx hb dX8_left_47 (by decide) ?_
          refine lv_istore (lv' := [(4, .int 0), (3, .int 0), (0, .ref (fad E 86)), (1, .int s1), (2, .int (nI m))]) hx hb dX8_left_48 hl (by decide) rfl (fun ls hl => ?_)
          refine f_loop (α := Nat × Int32) (fun (a : Nat × Int32) H locs ls => match a with | (i, b) => fP E M L H ∧ va_S (fA E) s.heap H locs ∧ lv_has ls 8 [(4, .int (nI i)), (3, .int b), (0, .ref (fad E 86)), (1, .int s1), (2, .int (nI m))] ∧ (i ≤ m) ∧ (b = lqF L s1.toNatClampNeg i)) (fun (a : Nat × Int32) => match a with | (i, b) => m - i) (pc0 := 50) (st := fun _ => []) ?_ (0, 0) _ _ _ ⟨hP, hS, lv_sub hl [0, 1, 2, 3, 4] rfl, (by omega), rfl⟩
          rintro ⟨i, b⟩ H locs ls ⟨hP, hS, hl, ht50, hb9⟩ ih_50
          refine lv_iload hx hb dX8_left_50 (lv_at hl 0 rfl) ?_
          refine lv_iload_n hx hb dX8_left_52 rfl (lv_at hl 4 rfl) ?_
          refine lv_icmp_ge (tgt := 86) hx hb dX8_left_53 (by decide) (fun c_53 => ?_) (fun c_53 => ?_)
          · have c_53 := (nI_le_iff (a := m) (b := i) (by omega) (by omega)).mp c_53
            exact jn_86 b _ _ _ ⟨hP, hS, lv_sub hl [1, 2, 3, 4] rfl, (by first | exact (lB_1 c_7).symm | exact (lB_2 c_7 c_11).symm | exact (lB_3 c_7 c_11 c_26).symm | exact (lB_4 c_7 c_11 c_26 c_37).symm | (rw [hB9, hb9]; first | exact (lq_stay (by rw [← hb9]; exact c_57) ht50).symm | (have h9 := Nat.le_antisymm ht50 c_53; subst h9; rfl)))⟩
          · have c_53 := (not_congr (nI_le_iff (a := m) (b := i) (by omega) (by omega))).mp c_53
            refine lv_iload_n hx hb dX8_left_56 rfl (lv_at hl 1 rfl) ?_
            refine lv_if_ne (tgt := 86) hx hb dX8_left_57 (by decide) (fun c_57 => ?_) (fun c_57 => ?_)
            · exact jn_86 b _ _ _ ⟨hP, hS, lv_sub hl [1, 2, 3, 4] rfl, (by first | exact (lB_1 c_7).symm | exact (lB_2 c_7 c_11).symm | exact (lB_3 c_7 c_11 c_26).symm | exact (lB_4 c_7 c_11 c_26 c_37).symm | (rw [hB9, hb9]; first | exact (lq_stay (by rw [← hb9]; exact c_57) ht50).symm | (have h9 := Nat.le_antisymm ht50 c_53; subst h9; rfl)))⟩
            · refine lv_aload_n hx hb dX8_left_60 rfl (lv_at hl 2 rfl) ?_
              refine lv_aload_n hx hb dX8_left_61 rfl (lv_at hl 2 rfl) ?_
              refine lv_iload_n hx hb dX8_left_62 rfl (lv_at hl 3 rfl) ?_
              refine lv_iload hx hb dX8_left_63 (lv_at hl 0 rfl) ?_
              refine f_iV (n := 2) X hP hS [.int s1, .int (nI i)] [.ref (fad E 86)] (c_X8_intAt l E M L s1 (nI i) s1.toNatClampNeg i hi9 (fIx_nI (by omega) (by decide))) m_6_56 wi_X8_intAt rfl rfl (by decide) (by decide +kernel) ⟨Nat.le_of_ble_eq_true rfl, Nat.le_of_ble_eq_true rfl⟩ rfl hl rfl (Nat.le_of_ble_eq_true rfl) ⟨Nat.zero_le _, Nat.zero_le _⟩ dX8_left_65 (fun H locs hP hS => ?_)
              refine lv_iconst (v := 0) hx hb dX8_left_68 (by decide) ?_
              refine lv_bipush (v := 23) hx hb dX8_left_69 (by decide) ?_
              refine f_iV (n := 3) X hP hS [.int (a_X8_intAt M L s1 (nI i) s1.toNatClampNeg i), .int 0, .int 23] [] (c_X8_isFrom l E M L (a_X8_intAt M L s1 (nI i) s1.toNatClampNeg i) 0 23) m_5_120 wi_X8_isFrom rfl rfl (by decide) (by decide +kernel) ⟨Nat.le_of_ble_eq_true rfl, Nat.le_of_ble_eq_true rfl⟩ rfl hl rfl (Nat.le_of_ble_eq_true rfl) ⟨Nat.zero_le _, Nat.zero_le _⟩ dX8_left_71 (fun H locs hP hS => ?_)
              refine lv_if_ne (tgt := 80) hx hb dX8_left_74 (by decide) (fun c_74 => ?_) (fun c_74 => ?_)
              · have c_74 := bI1 c_74
                refine lv_iinc (v := (nI (i + 1))) (lv' := [(4, .int (nI (i + 1))), (3, .int b), (0, .ref (fad E 86)), (1, .int s1), (2, .int (nI m))]) hx hb dX8_left_80 hl (k := 0) rfl (nI_1 _) (by decide) rfl (fun ls hl => ?_)
                refine lv_goto (tgt := 50) hx hb dX8_left_83 (by decide) ?_
                exact ih_50 ((i + 1), b) _ _ _ (by show m - (i + 1) < m - i; omega) ⟨hP, hS, lv_sub hl [0, 1, 2, 3, 4] rfl, (by omega), (by rw [lq_s, ← hb9, if_pos c_57]; first | exact c_57.trans (if_pos c_74).symm | exact (if_neg c_74).symm)⟩
              · have c_74 := bI0 c_74
                refine lv_bipush (v := (-6)) hx hb dX8_left_77 (by decide) ?_
                refine lv_istore_n (lv' := [(3, .int (-6)), (4, .int (nI i)), (0, .ref (fad E 86)), (1, .int s1), (2, .int (nI m))]) hx hb dX8_left_79 rfl hl (by decide) rfl (fun ls hl => ?_)
                refine lv_iinc (v := (nI (i + 1))) (lv' := [(4, .int (nI (i + 1))), (3, .int (-6)), (0, .ref (fad E 86)), (1, .int s1), (2, .int (nI m))]) hx hb dX8_left_80 hl (k := 1) rfl (nI_1 _) (by decide) rfl (fun ls hl => ?_)
                refine lv_goto (tgt := 50) hx hb dX8_left_83 (by decide) ?_
                exact ih_50 ((i + 1), (-6)) _ _ _ (by show m - (i + 1) < m - i; omega) ⟨hP, hS, lv_sub hl [0, 1, 2, 3, 4] rfl, (by omega), (by rw [lq_s, ← hb9, if_pos c_57]; first | exact c_57.trans (if_pos c_74).symm | exact (if_neg c_74).symm)⟩
        · refine lv_bipush (v := (-6)) hx hb dX8_left_40 (by decide) ?_
          refine lv_goto (tgt := 46) hx hb dX8_left_42 (by decide) ?_
          refine lv_istore_n (lv' := [(3, .int (-6)), (0, .ref (fad E 86)), (1, .int s1), (2, .int n)]) hx hb dX8_left_46 rfl hl (by decide) rfl (fun ls hl => ?_)
          refine lv_iconst (v := 0) hx hb dX8_left_47 (by decide) ?_
          refine lv_istore (lv' := [(4, .int 0), (3, .int (-6)), (0, .ref (fad E 86)), (1, .int s1), (2, .int n)]) hx hb dX8_left_48 hl (by decide) rfl (fun ls hl => ?_)
          refine lv_iload hx hb dX8_left_50 (lv_at hl 0 rfl) ?_
          refine lv_iload_n hx hb dX8_left_52 rfl (lv_at hl 4 rfl) ?_
          refine lv_icmp_ge (tgt := 86) hx hb dX8_left_53 (by decide) (fun c_53 => ?_) (fun c_53 => ?_)
          · exact jn_86 (-6) _ _ _ ⟨hP, hS, lv_sub hl [1, 2, 3, 4] rfl, (by first | exact (lB_1 c_7).symm | exact (lB_2 c_7 c_11).symm | exact (lB_3 c_7 c_11 c_26).symm | exact (lB_4 c_7 c_11 c_26 c_37).symm | (rw [hB9, hb9]; first | exact (lq_stay (by rw [← hb9]; exact c_57) ht50).symm | (have h9 := Nat.le_antisymm ht50 c_53; subst h9; rfl)))⟩
          · refine lv_iload_n hx hb dX8_left_56 rfl (lv_at hl 1 rfl) ?_
            refine lv_if_ne (tgt := 86) hx hb dX8_left_57 (by decide) (fun _ => ?_) (fun c_57 => absurd c_57 (by decide))
            exact jn_86 (-6) _ _ _ ⟨hP, hS, lv_sub hl [1, 2, 3, 4] rfl, (by first | exact (lB_1 c_7).symm | exact (lB_2 c_7 c_11).symm | exact (lB_3 c_7 c_11 c_26).symm | exact (lB_4 c_7 c_11 c_26 c_37).symm | (rw [hB9, hb9]; first | exact (lq_stay (by rw [← hb9]; exact c_57) ht50).symm | (have h9 := Nat.le_antisymm ht50 c_53; subst h9; rfl)))⟩
      · refine lv_bipush (v := (-5)) hx hb dX8_left_29 (by decide) ?_
        refine lv_goto (tgt := 46) hx hb dX8_left_31 (by decide) ?_
        refine lv_istore_n (lv' := [(3, .int (-5)), (0, .ref (fad E 86)), (1, .int s1), (2, .int n)]) hx hb dX8_left_46 rfl hl (by decide) rfl (fun ls hl => ?_)
        refine lv_iconst (v := 0) hx hb dX8_left_47 (by decide) ?_
        refine lv_istore (lv' := [(4, .int 0), (3, .int (-5)), (0, .ref (fad E 86)), (1, .int s1), (2, .int n)]) hx hb dX8_left_48 hl (by decide) rfl (fun ls hl => ?_)
        refine lv_iload hx hb dX8_left_50 (lv_at hl 0 rfl) ?_
        refine lv_iload_n hx hb dX8_left_52 rfl (lv_at hl 4 rfl) ?_
        refine lv_icmp_ge (tgt := 86) hx hb dX8_left_53 (by decide) (fun c_53 => ?_) (fun c_53 => ?_)
        · exact jn_86 (-5) _ _ _ ⟨hP, hS, lv_sub hl [1, 2, 3, 4] rfl, (by first | exact (lB_1 c_7).symm | exact (lB_2 c_7 c_11).symm | exact (lB_3 c_7 c_11 c_26).symm | exact (lB_4 c_7 c_11 c_26 c_37).symm | (rw [hB9, hb9]; first | exact (lq_stay (by rw [← hb9]; exact c_57) ht50).symm | (have h9 := Nat.le_antisymm ht50 c_53; subst h9; rfl)))⟩
        · refine lv_iload_n hx hb dX8_left_56 rfl (lv_at hl 1 rfl) ?_
          refine lv_if_ne (tgt := 86) hx hb dX8_left_57 (by decide) (fun _ => ?_) (fun c_57 => absurd c_57 (by decide))
          exact jn_86 (-5) _ _ _ ⟨hP, hS, lv_sub hl [1, 2, 3, 4] rfl, (by first | exact (lB_1 c_7).symm | exact (lB_2 c_7 c_11).symm | exact (lB_3 c_7 c_11 c_26).symm | exact (lB_4 c_7 c_11 c_26 c_37).symm | (rw [hB9, hb9]; first | exact (lq_stay (by rw [← hb9]; exact c_57) ht50).symm | (have h9 := Nat.le_antisymm ht50 c_53; subst h9; rfl)))⟩
    · refine lv_bipush (v := (-4)) hx hb dX8_left_14 (by decide) ?_
      refine lv_goto (tgt := 46) hx hb dX8_left_16 (by decide) ?_
      refine lv_istore_n (lv' := [(3, .int (-4)), (0, .ref (fad E 86)), (1, .int s1), (2, .int n)]) hx hb dX8_left_46 rfl hl (by decide) rfl (fun ls hl => ?_)
      refine lv_iconst (v := 0) hx hb dX8_left_47 (by decide) ?_
      refine lv_istore (lv' := [(4, .int 0), (3, .int (-4)), (0, .ref (fad E 86)), (1, .int s1), (2, .int n)]) hx hb dX8_left_48 hl (by decide) rfl (fun ls hl => ?_)
      refine lv_iload hx hb dX8_left_50 (lv_at hl 0 rfl) ?_
      refine lv_iload_n hx hb dX8_left_52 rfl (lv_at hl 4 rfl) ?_
      refine lv_icmp_ge (tgt := 86) hx hb dX8_left_53 (by decide) (fun c_53 => ?_) (fun c_53 => ?_)
      · exact jn_86 (-4) _ _ _ ⟨hP, hS, lv_sub hl [1, 2, 3, 4] rfl, (by first | exact (lB_1 c_7).symm | exact (lB_2 c_7 c_11).symm | exact (lB_3 c_7 c_11 c_26).symm | exact (lB_4 c_7 c_11 c_26 c_37).symm | (rw [hB9, hb9]; first | exact (lq_stay (by rw [← hb9]; exact c_57) ht50).symm | (have h9 := Nat.le_antisymm ht50 c_53; subst h9; rfl)))⟩
      · refine lv_iload_n hx hb dX8_left_56 rfl (lv_at hl 1 rfl) ?_
        refine lv_if_ne (tgt := 86) hx hb dX8_left_57 (by decide) (fun _ => ?_) (fun c_57 => absurd c_57 (by decide))
        exact jn_86 (-4) _ _ _ ⟨hP, hS, lv_sub hl [1, 2, 3, 4] rfl, (by first | exact (lB_1 c_7).symm | exact (lB_2 c_7 c_11).symm | exact (lB_3 c_7 c_11 c_26).symm | exact (lB_4 c_7 c_11 c_26 c_37).symm | (rw [hB9, hb9]; first | exact (lq_stay (by rw [← hb9]; exact c_57) ht50).symm | (have h9 := Nat.le_antisymm ht50 c_53; subst h9; rfl)))⟩
