set_option maxHeartbeats 4000000 in
set_option maxRecDepth 100000 in
theorem c_X8_rota (l : Launch) (E : fE) (M : Nat → Nat → Int32) (L : Nat → Nat → Int64) (t : Int32) (i : Int32) (tc wc : Nat) (htc : M 86 1 = nI tc) (htc8 : tc ≤ 8) (hwc : M 86 0 = nI wc) (hwc6 : wc ≤ 6) (hHd : ∀ w, w < wc → 0 ≤ a_X8_holding M L (nI w) w) (hqt : ∀ t, t < 8 → 0 ≤ M 94 t ∧ M 94 t ≤ M 95 t ∧ M 95 t ≤ 23) : Met l yX8_rota (wl yX8_rota cX8_rota 7 (some .int)) (fRm 2 51) (va_Pc [.ref (fad E 86), .int t, .int i] (fPre E M L)) (fQi E (fun r u => rotaX M L t i tc wc r u)) 0 0 (fA E) := by
  refine f_head (by decide) (Nat.le_of_ble_eq_true rfl) ?_
  intro pg ev s mi below meth cd ls X hr hlk hP hS hl
  have hx := X.1.1
  have hb := X.1.2.1
  have hl : lv_has ls 7 [(0, .ref (fad E 86)), (1, .int t), (2, .int i)] := hl
  refine lv_aload_n hx hb dX8_rota_0 rfl (lv_at hl 0 rfl) ?_
  refine lv_iload_n hx hb dX8_rota_1 rfl (lv_at hl 1 rfl) ?_
  refine f_iV (n := 1) X hP hS [.int t] [] (c_X8_isThing l E M L t) m_5_148 wi_X8_isThing rfl rfl (by decide) (by decide +kernel) ⟨Nat.le_of_ble_eq_true rfl, Nat.le_of_ble_eq_true rfl⟩ rfl hl rfl (Nat.le_of_ble_eq_true rfl) ⟨Nat.zero_le _, Nat.zero_le _⟩ dX8_rota_2 (fun H locs hP hS => ?_)
  refine lv_if_ne (tgt := 14) hx hb dX8_rota_5 (by decide) (fun c_5 => ?_) (fun c_5 => ?_)
  · have c_5 := bI1 c_5
    have hi9 : fIx t 8 t.toNatClampNeg := fIx_cnt 8 c_5.1 c_5.2 htc htc8 (by decide)
    have hq9 := qX_at (hqt _ hi9.2.2)
    refine lv_iload_n hx hb dX8_rota_14 rfl (lv_at hl 2 rfl) ?_
    refine lv_iconst (v := (-1)) hx hb dX8_rota_15 (by decide) ?_
    refine lv_icmp_lt (tgt := 27) hx hb dX8_rota_16 (by decide) (fun c_16 => ?_) (fun c_16 => ?_)
    · refine lv_aload_n hx hb dX8_rota_27 rfl (lv_at hl 0 rfl) ?_
      refine lv_bipush (v := (-5)) hx hb dX8_rota_28 (by decide) ?_
      refine f_iV (n := 1) X hP hS [.int (-5)] [] (c_X8_noTen l E M L (-5) (by decide)) m_5_236 wi_X8_noTen rfl rfl (by decide) (by decide +kernel) ⟨Nat.le_of_ble_eq_true rfl, Nat.le_of_ble_eq_true rfl⟩ rfl hl rfl (Nat.le_of_ble_eq_true rfl) ⟨Nat.zero_le _, Nat.zero_le _⟩ dX8_rota_30 (fun H locs hP hS => ?_)
      refine f_ir X hlk hr (v := ((-5) - 10)) rfl hP hS ?_ dX8_rota_33
      unfold rotaX; rw [if_pos c_5, if_pos (by first | exact Or.inl c_16 | exact Or.inr c_24)]; exact ⟨rfl, rfl⟩
    · refine lv_iload_n hx hb dX8_rota_19 rfl (lv_at hl 2 rfl) ?_
      refine lv_aload_n hx hb dX8_rota_20 rfl (lv_at hl 0 rfl) ?_
      refine f_get X hP (T := TX8) (ci := 8) (k := 86) rfl inX8 rfl 0 (by decide) m_4_174 rfl (v := .int (M 86 0)) rfl dX8_rota_21 ?_
      refine lv_icmp_lt (tgt := 34) hx hb dX8_rota_24 (by decide) (fun c_24 => ?_) (fun c_24 => ?_)
      · refine lv_aload_n hx hb dX8_rota_34 rfl (lv_at hl 0 rfl) ?_
        refine f_get X hP (T := TX8) (ci := 8) (k := 86) rfl inX8 rfl 16 (by decide) m_4_190 rfl (v := .ref (fad E 95)) rfl dX8_rota_35 ?_
        refine lv_iload_n hx hb dX8_rota_38 rfl (lv_at hl 1 rfl) ?_
        refine f_iald X hP (k := 95) (n := 8) (q := t.toNatClampNeg) rfl rfl hi9 dX8_rota_39 ?_
        refine lv_aload_n hx hb dX8_rota_40 rfl (lv_at hl 0 rfl) ?_
        refine f_get X hP (T := TX8) (ci := 8) (k := 86) rfl inX8 rfl 15 (by decide) m_4_189 rfl (v := .ref (fad E 94)) rfl dX8_rota_41 ?_
        refine lv_iload_n hx hb dX8_rota_44 rfl (lv_at hl 1 rfl) ?_
        refine f_iald X hP (k := 94) (n := 8) (q := t.toNatClampNeg) rfl rfl hi9 dX8_rota_45 ?_
        refine lv_isub hx hb dX8_rota_46 ?_
        refine lv_iconst (v := 1) hx hb dX8_rota_47 (by decide) ?_
        refine lv_iadd hx hb dX8_rota_48 ?_
        refine f_topI (v := (nI (qX M t.toNatClampNeg))) hq9.1 ?_
        refine lv_istore_n (lv' := [(3, .int (nI (qX M t.toNatClampNeg))), (0, .ref (fad E 86)), (1, .int t), (2, .int i)]) hx hb dX8_rota_49 rfl hl (by decide) rfl (fun ls hl => ?_)
        refine lv_aload_n hx hb dX8_rota_50 rfl (lv_at hl 1 rfl) ?_
        refine lv_iload_n hx hb dX8_rota_51 rfl (lv_at hl 0 rfl) ?_
        refine f_vG (n := 1) X hP hS [.int (nI (qX M t.toNatClampNeg))] [] (c_X8_lays l E M L (nI (qX M t.toNatClampNeg)) wc (qX M t.toNatClampNeg) hwc hwc6 rfl hq9.2.2 hHd) m_6_12 wi_X8_lays rfl rfl (by decide) (by decide +kernel) ⟨Nat.le_of_ble_eq_true rfl, Nat.le_of_ble_eq_true rfl⟩ rfl hl rfl (Nat.le_of_ble_eq_true rfl) ⟨Nat.zero_le _, Nat.zero_le _⟩ dX8_rota_52 (fun M_52 L_52 H locs h_52 hP hS => ?_)
        obtain ⟨h9, hfr, htab⟩ := h_52
        have h1 : L_52 = L := h9
        rw [h1] at hP
        refine lv_aload_n hx hb dX8_rota_55 rfl (lv_at hl 1 rfl) ?_
        refine f_get X hP (T := TX8) (ci := 8) (k := 86) rfl inX8 rfl 40 (by decide) m_4_214 rfl (v := .ref (fad E 113)) rfl dX8_rota_56 ?_
        refine lv_iload_n hx hb dX8_rota_59 rfl (lv_at hl 0 rfl) ?_
        refine f_iald X hP (k := 113) (n := 175) (q := (qX M t.toNatClampNeg)) rfl rfl (fIx_nI (by omega) (by decide)) dX8_rota_60 ?_
        refine f_topI (rt_at0 htab) ?_
        refine lv_istore (lv' := [(4, .int (rtF M L wc wc (qX M t.toNatClampNeg))), (3, .int (nI (qX M t.toNatClampNeg))), (0, .ref (fad E 86)), (1, .int t), (2, .int i)]) hx hb dX8_rota_61 hl (by decide) rfl (fun ls hl => ?_)
        refine lv_iload_n hx hb dX8_rota_63 rfl (lv_at hl 4 rfl) ?_
        refine lv_iconst (v := (-1)) hx hb dX8_rota_64 (by decide) ?_
        refine lv_icmp_eq (tgt := 74) hx hb dX8_rota_65 (by decide) (fun c_65 => ?_) (fun c_65 => ?_)
        · refine lv_iload hx hb dX8_rota_74 (lv_at hl 0 rfl) ?_
          refine f_ir X hlk hr (v := (rtF M L wc wc (qX M t.toNatClampNeg))) rfl hP hS ?_ dX8_rota_76
          unfold rotaX; rw [if_pos c_5, if_neg (fun h => h.elim c_16 (fun h => h c_24))]; exact ⟨rfl, hfr, by rw [if_pos (by first | exact Or.inl c_65 | exact Or.inr c_71)]⟩
        · refine lv_iload hx hb dX8_rota_68 (lv_at hl 0 rfl) ?_
          refine lv_iconst (v := (-1)) hx hb dX8_rota_70 (by decide) ?_
          refine lv_icmp_ne (tgt := 77) hx hb dX8_rota_71 (by decide) (fun c_71 => ?_) (fun c_71 => ?_)
          · obtain ⟨i0, hi0, rfl⟩ := i_rt c_16 c_65 c_24 hwc hwc6
            refine lv_iconst (v := 0) hx hb dX8_rota_77 (by decide) ?_
            refine lv_istore (lv' := [(5, .int 0), (4, .int (rtF M L wc wc (qX M t.toNatClampNeg))), (3, .int (nI (qX M t.toNatClampNeg))), (0, .ref (fad E 86)), (1, .int t), (2, .int (nI i0))]) hx hb dX8_rota_78 hl (by decide) rfl (fun ls hl => ?_)
            refine f_loop (α := Nat) (fun (w : Nat) H locs ls => fP E M_52 L H ∧ va_S (fA E) s.heap H locs ∧ lv_has ls 7 [(5, .int (nI w)), (4, .int (rtF M L wc wc (qX M t.toNatClampNeg))), (3, .int (nI (lfN M L wc (qX M t.toNatClampNeg) w))), (0, .ref (fad E 86)), (1, .int t), (2, .int (nI i0))] ∧ (w ≤ i0) ∧ ((lfN M L wc (qX M t.toNatClampNeg) w) ≤ (qX M t.toNatClampNeg)) ∧ (¬ rtF M L wc (wc - w) (lfN M L wc (qX M t.toNatClampNeg) w) = -1)) (fun (w : Nat) => i0 - w) (pc0 := 80) (st := fun _ => []) ?_ 0 _ _ _ ⟨hP, hS, lv_sub hl [0, 1, 2, 3, 4, 5] rfl, (by omega), (Nat.le_refl _), c_71⟩
            rintro w H locs ls ⟨hP, hS, hl, hwi, hle, hrt⟩ ih_80
            refine lv_iconst (v := 0) hx hb dX8_rota_80 (by decide) ?_
            refine lv_istore (lv' := [(6, .int 0), (5, .int (nI w)), (4, .int (rtF M L wc wc (qX M t.toNatClampNeg))), (3, .int (nI (lfN M L wc (qX M t.toNatClampNeg) w))), (0, .ref (fad E 86)), (1, .int t), (2, .int (nI i0))]) hx hb dX8_rota_81 hl (by decide) rfl (fun ls hl => ?_)
            refine f_loop (α := Nat) (fun (n : Nat) H locs ls => fP E M_52 L H ∧ va_S (fA E) s.heap H locs ∧ lv_has ls 7 [(6, .int (nI n)), (5, .int (nI w)), (4, .int (rtF M L wc wc (qX M t.toNatClampNeg))), (3, .int (nI (lfN M L wc (qX M t.toNatClampNeg) w))), (0, .ref (fad E 86)), (1, .int t), (2, .int (nI i0))] ∧ (cntF (badF M L wc w (lfN M L wc (qX M t.toNatClampNeg) w)) n = n) ∧ (n ≤ (lfN M L wc (qX M t.toNatClampNeg) w))) (fun (n : Nat) => (lfN M L wc (qX M t.toNatClampNeg) w) - n) (pc0 := 83) (st := fun _ => []) ?_ 0 _ _ _ ⟨hP, hS, lv_sub hl [0, 1, 2, 3, 4, 5, 6] rfl, rfl, (Nat.zero_le _)⟩
            rintro n H locs ls ⟨hP, hS, hl, hcnt, hnl⟩ ih_83
            refine lv_aload_n hx hb dX8_rota_83 rfl (lv_at hl 4 rfl) ?_
            refine f_get X hP (T := TX8) (ci := 8) (k := 86) rfl inX8 rfl 40 (by decide) m_4_214 rfl (v := .ref (fad E 113)) rfl dX8_rota_84 ?_
            refine lv_bipush (v := 25) hx hb dX8_rota_87 (by decide) ?_
            refine lv_iload hx hb dX8_rota_89 (lv_at hl 1 rfl) ?_
            refine lv_iconst (v := 1) hx hb dX8_rota_91 (by decide) ?_
            refine lv_iadd hx hb dX8_rota_92 ?_
            refine f_topI (nI_add w 1) ?_
            refine lv_imul hx hb dX8_rota_93 ?_
            refine lv_iload_n hx hb dX8_rota_94 rfl (lv_at hl 3 rfl) ?_
            refine lv_iadd hx hb dX8_rota_95 ?_
            refine lv_iload hx hb dX8_rota_96 (lv_at hl 0 rfl) ?_
            refine lv_isub hx hb dX8_rota_98 ?_
            refine f_iald X hP (k := 113) (n := 175) (q := (25 * (w + 1) + ((lfN M L wc (qX M t.toNatClampNeg) w) - n))) rfl rfl (fIx_25s (by omega) (by omega)) dX8_rota_99 ?_
            refine f_topI (htab (w + 1) (by omega) _ (by omega)) ?_
            refine lv_iconst (v := (-1)) hx hb dX8_rota_100 (by decide) ?_
            refine lv_icmp_eq (tgt := 145) hx hb dX8_rota_101 (by decide) (fun c_101 => ?_) (fun c_101 => ?_)
            · have hbad : badF M L wc w (lfN M L wc (qX M t.toNatClampNeg) w) n = true := bad_1 c_101
              refine lv_iinc (v := (nI (n + 1))) (lv' := [(6, .int (nI (n + 1))), (5, .int (nI w)), (4, .int (rtF M L wc wc (qX M t.toNatClampNeg))), (3, .int (nI (lfN M L wc (qX M t.toNatClampNeg) w))), (0, .ref (fad E 86)), (1, .int t), (2, .int (nI i0))]) hx hb dX8_rota_145 hl (k := 0) rfl (nI_1 _) (by decide) rfl (fun ls hl => ?_)
              refine lv_goto (tgt := 83) hx hb dX8_rota_148 (by decide) ?_
              exact ih_83 (n + 1) _ _ _ (by have h9 := fs_lt (by omega) hrt hcnt hbad; show (lfN M L wc (qX M t.toNatClampNeg) w) - (n + 1) < (lfN M L wc (qX M t.toNatClampNeg) w) - n; omega) ⟨hP, hS, lv_sub hl [0, 1, 2, 3, 4, 5, 6] rfl, (cnt_go hcnt hbad), (fs_lt (by omega) hrt hcnt hbad)⟩
            · refine lv_aload_n hx hb dX8_rota_104 rfl (lv_at hl 4 rfl) ?_
              refine lv_iload hx hb dX8_rota_105 (lv_at hl 1 rfl) ?_
              refine lv_iload hx hb dX8_rota_107 (lv_at hl 0 rfl) ?_
              refine f_iV (n := 2) X hP hS [.int (nI w), .int (nI n)] [] (c_X8_costs l E M_52 L (nI w) (nI n) w (fIx_nI (by omega) (by decide))) m_5_220 wi_X8_costs rfl rfl (by decide) (by decide +kernel) ⟨Nat.le_of_ble_eq_true rfl, Nat.le_of_ble_eq_true rfl⟩ rfl hl rfl (Nat.le_of_ble_eq_true rfl) ⟨Nat.zero_le _, Nat.zero_le _⟩ dX8_rota_109 (fun H locs hP hS => ?_)
              refine f_topI (v := (rcF M L w n)) (cost_fr hfr) ?_
              refine lv_aload_n hx hb dX8_rota_112 rfl (lv_at hl 4 rfl) ?_
              refine f_get X hP (T := TX8) (ci := 8) (k := 86) rfl inX8 rfl 40 (by decide) m_4_214 rfl (v := .ref (fad E 113)) rfl dX8_rota_113 ?_
              refine lv_bipush (v := 25) hx hb dX8_rota_116 (by decide) ?_
              refine lv_iload hx hb dX8_rota_118 (lv_at hl 1 rfl) ?_
              refine lv_iconst (v := 1) hx hb dX8_rota_120 (by decide) ?_
              refine lv_iadd hx hb dX8_rota_121 ?_
              refine f_topI (nI_add w 1) ?_
              refine lv_imul hx hb dX8_rota_122 ?_
              refine lv_iload_n hx hb dX8_rota_123 rfl (lv_at hl 3 rfl) ?_
              refine lv_iadd hx hb dX8_rota_124 ?_
              refine lv_iload hx hb dX8_rota_125 (lv_at hl 0 rfl) ?_
              refine lv_isub hx hb dX8_rota_127 ?_
              refine f_iald X hP (k := 113) (n := 175) (q := (25 * (w + 1) + ((lfN M L wc (qX M t.toNatClampNeg) w) - n))) rfl rfl (fIx_25s (by omega) (by omega)) dX8_rota_128 ?_
              refine f_topI (htab (w + 1) (by omega) _ (by omega)) ?_
              refine lv_iadd hx hb dX8_rota_129 ?_
              refine lv_aload_n hx hb dX8_rota_130 rfl (lv_at hl 4 rfl) ?_
              refine f_get X hP (T := TX8) (ci := 8) (k := 86) rfl inX8 rfl 40 (by decide) m_4_214 rfl (v := .ref (fad E 113)) rfl dX8_rota_131 ?_
              refine lv_bipush (v := 25) hx hb dX8_rota_134 (by decide) ?_
              refine lv_iload hx hb dX8_rota_136 (lv_at hl 1 rfl) ?_
              refine lv_imul hx hb dX8_rota_138 ?_
              refine lv_iload_n hx hb dX8_rota_139 rfl (lv_at hl 3 rfl) ?_
              refine lv_iadd hx hb dX8_rota_140 ?_
              refine f_iald X hP (k := 113) (n := 175) (q := (25 * w + (lfN M L wc (qX M t.toNatClampNeg) w))) rfl rfl (fIx_25 (by omega)) dX8_rota_141 ?_
              refine f_topI (htab w (by omega) _ (by omega)) ?_
              refine lv_icmp_eq (tgt := 151) hx hb dX8_rota_142 (by decide) (fun c_142 => ?_) (fun c_142 => ?_)
              · have hfs := fs_at hcnt (bad_3 c_101 c_142) hnl
                refine lv_iload hx hb dX8_rota_151 (lv_at hl 1 rfl) ?_
                refine lv_iload_n hx hb dX8_rota_153 rfl (lv_at hl 6 rfl) ?_
                refine lv_icmp_ne (tgt := 160) hx hb dX8_rota_154 (by decide) (fun c_154 => ?_) (fun c_154 => ?_)
                · have c_154 := (not_congr (nI_eq (a := w) (b := i0) (by omega) (by omega))).mp c_154
                  refine lv_iload_n hx hb dX8_rota_160 rfl (lv_at hl 3 rfl) ?_
                  refine lv_iload hx hb dX8_rota_161 (lv_at hl 0 rfl) ?_
                  refine lv_isub hx hb dX8_rota_163 ?_
                  refine f_topI (v := (nI (lfN M L wc (qX M t.toNatClampNeg) (w + 1)))) (by rw [pk_sub (by omega), lfN_s, hfs]) ?_
                  refine lv_istore_n (lv' := [(3, .int (nI (lfN M L wc (qX M t.toNatClampNeg) (w + 1)))), (6, .int (nI n)), (5, .int (nI w)), (4, .int (rtF M L wc wc (qX M t.toNatClampNeg))), (0, .ref (fad E 86)), (1, .int t), (2, .int (nI i0))]) hx hb dX8_rota_164 rfl hl (by decide) rfl (fun ls hl => ?_)
                  refine lv_iinc (v := (nI (w + 1))) (lv' := [(5, .int (nI (w + 1))), (3, .int (nI (lfN M L wc (qX M t.toNatClampNeg) (w + 1)))), (6, .int (nI n)), (4, .int (rtF M L wc wc (qX M t.toNatClampNeg))), (0, .ref (fad E 86)), (1, .int t), (2, .int (nI i0))]) hx hb dX8_rota_165 hl (k := 2) rfl (nI_1 _) (by decide) rfl (fun ls hl => ?_)
                  refine lv_goto (tgt := 80) hx hb dX8_rota_168 (by decide) ?_
                  exact ih_80 (w + 1) _ _ _ (by show i0 - (w + 1) < i0 - w; omega) ⟨hP, hS, lv_sub hl [0, 3, 1, 4, 5, 6] rfl, (by omega), (by rw [lfN_s]; omega), (by rw [lfN_s, hfs]; exact c_101)⟩
                · have c_154 := (nI_eq (a := w) (b := i0) (by omega) (by omega)).mp c_154
                  refine lv_iload hx hb dX8_rota_157 (lv_at hl 0 rfl) ?_
                  refine f_ir X hlk hr (v := (nI n)) rfl hP hS ?_ dX8_rota_159
                  unfold rotaX; rw [if_pos c_5, if_neg (fun h => h.elim c_16 (fun h => h c_24))]; exact ⟨rfl, hfr, by rw [if_neg (fun h => h.elim c_65 c_71), nI_clamp (by omega), ← c_154, hfs]⟩
              · have hbad : badF M L wc w (lfN M L wc (qX M t.toNatClampNeg) w) n = true := bad_2 c_142
                refine lv_iinc (v := (nI (n + 1))) (lv' := [(6, .int (nI (n + 1))), (5, .int (nI w)), (4, .int (rtF M L wc wc (qX M t.toNatClampNeg))), (3, .int (nI (lfN M L wc (qX M t.toNatClampNeg) w))), (0, .ref (fad E 86)), (1, .int t), (2, .int (nI i0))]) hx hb dX8_rota_145 hl (k := 0) rfl (nI_1 _) (by decide) rfl (fun ls hl => ?_)
                refine lv_goto (tgt := 83) hx hb dX8_rota_148 (by decide) ?_
                exact ih_83 (n + 1) _ _ _ (by have h9 := fs_lt (by omega) hrt hcnt hbad; show (lfN M L wc (qX M t.toNatClampNeg) w) - (n + 1) < (lfN M L wc (qX M t.toNatClampNeg) w) - n; omega) ⟨hP, hS, lv_sub hl [0, 1, 2, 3, 4, 5, 6] rfl, (cnt_go hcnt hbad), (fs_lt (by omega) hrt hcnt hbad)⟩
          · refine lv_iload hx hb dX8_rota_74 (lv_at hl 0 rfl) ?_
            refine f_ir X hlk hr (v := (rtF M L wc wc (qX M t.toNatClampNeg))) rfl hP hS ?_ dX8_rota_76
            unfold rotaX; rw [if_pos c_5, if_neg (fun h => h.elim c_16 (fun h => h c_24))]; exact ⟨rfl, hfr, by rw [if_pos (by first | exact Or.inl c_65 | exact Or.inr c_71)]⟩
      · refine lv_aload_n hx hb dX8_rota_27 rfl (lv_at hl 0 rfl) ?_
        refine lv_bipush (v := (-5)) hx hb dX8_rota_28 (by decide) ?_
        refine f_iV (n := 1) X hP hS [.int (-5)] [] (c_X8_noTen l E M L (-5) (by decide)) m_5_236 wi_X8_noTen rfl rfl (by decide) (by decide +kernel) ⟨Nat.le_of_ble_eq_true rfl, Nat.le_of_ble_eq_true rfl⟩ rfl hl rfl (Nat.le_of_ble_eq_true rfl) ⟨Nat.zero_le _, Nat.zero_le _⟩ dX8_rota_30 (fun H locs hP hS => ?_)
        refine f_ir X hlk hr (v := ((-5) - 10)) rfl hP hS ?_ dX8_rota_33
        unfold rotaX; rw [if_pos c_5, if_pos (by first | exact Or.inl c_16 | exact Or.inr c_24)]; exact ⟨rfl, rfl⟩
  · have c_5 := bI0 c_5
    refine lv_aload_n hx hb dX8_rota_8 rfl (lv_at hl 0 rfl) ?_
    refine lv_iconst (v := (-1)) hx hb dX8_rota_9 (by decide) ?_
    refine f_iV (n := 1) X hP hS [.int (-1)] [] (c_X8_noTen l E M L (-1) (by decide)) m_5_236 wi_X8_noTen rfl rfl (by decide) (by decide +kernel) ⟨Nat.le_of_ble_eq_true rfl, Nat.le_of_ble_eq_true rfl⟩ rfl hl rfl (Nat.le_of_ble_eq_true rfl) ⟨Nat.zero_le _, Nat.zero_le _⟩ dX8_rota_10 (fun H locs hP hS => ?_)
    refine f_ir X hlk hr (v := ((-1) - 10)) rfl hP hS ?_ dX8_rota_13
    unfold rotaX; rw [if_neg c_5]; exact ⟨rfl, rfl⟩
