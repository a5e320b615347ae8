set_option maxHeartbeats 4000000 in
set_option maxRecDepth 100000 in
theorem c_X8_guild (l : Launch) (E : fE) (M : Nat → Nat → Int32) (L : Nat → Nat → Int64) (s1 : Int32) (tc wc : Nat) (htc : M 86 1 = nI tc) (htc8 : tc ≤ 8) (hwc : M 86 0 = nI wc) (hwc6 : wc ≤ 6) (hwd : ∀ k, k < 28 → M 106 k = wdA k) (hnm : ∀ w, w < 4 → M 107 w = nI (nmN w)) (hzz : ∀ s, s < 8 → 0 ≤ M 102 s ∧ M 102 s ≤ 160) : Met l yX8_guild (wl yX8_guild cX8_guild 5 (some .int)) (fRm 3 65) (va_Pc [.ref (fad E 86), .int s1] (fPre E M L)) (fQi E (fun r u => u = ((guildR M L s1 tc wc).2.1, L) ∧ r = (guildR M L s1 tc wc).1)) 0 0 (fA E) := by
  refine f_head (by decide) (Nat.le_of_ble_eq_true rfl) ?_
  intro pg ev s mi below meth cd ls X hr hlk hP hS hl
  have hx := X.1.1
  have hb := X.1.2.1
  have hl : lv_has ls 5 [(0, .ref (fad E 86)), (1, .int s1)] := hl
  refine lv_aload_n hx hb dX8_guild_0 rfl (lv_at hl 0 rfl) ?_
  refine lv_iload_n hx hb dX8_guild_1 rfl (lv_at hl 1 rfl) ?_
  refine f_iV (n := 1) X hP hS [.int s1] [] (c_X8_wanted l E M L s1) m_5_172 wi_X8_wanted rfl rfl (by decide) (by decide +kernel) ⟨Nat.le_of_ble_eq_true rfl, Nat.le_of_ble_eq_true rfl⟩ rfl hl rfl (Nat.le_of_ble_eq_true rfl) ⟨Nat.zero_le _, Nat.zero_le _⟩ dX8_guild_2 (fun H locs hP hS => ?_)
  refine lv_istore_n (lv' := [(2, .int (a_X8_wanted M L s1)), (0, .ref (fad E 86)), (1, .int s1)]) hx hb dX8_guild_5 rfl hl (by decide) rfl (fun ls hl => ?_)
  refine lv_iload_n hx hb dX8_guild_6 rfl (lv_at hl 0 rfl) ?_
  refine lv_if_eq (tgt := 16) hx hb dX8_guild_7 (by decide) (fun c_7 => ?_) (fun c_7 => ?_)
  · have w0 := wd0 c_7
    have hi9 : fIx s1 8 s1.toNatClampNeg := fIx_lt 8 w0.1 w0.2.1 (by decide)
    have hs8 := hi9.2.2
    have hz9 := hzz s1.toNatClampNeg hs8
    have en9 : M 102 s1.toNatClampNeg = nI ((M 102 s1.toNatClampNeg).toNatClampNeg) := n_self hz9.1
    have hen1 : ((M 102 s1.toNatClampNeg).toNatClampNeg) ≤ 160 := (nI_self 160 hz9 (by decide)).2
    have hgj := gd0_J (L := L) htc htc8 hwc hwc6 hwd hnm hs8 hen1
    refine lv_aload_n hx hb dX8_guild_16 rfl (lv_at hl 1 rfl) ?_
    refine lv_aload_n hx hb dX8_guild_17 rfl (lv_at hl 1 rfl) ?_
    refine f_get X hP (T := TX8) (ci := 8) (k := 86) rfl inX8 rfl 37 (by decide) m_4_211 rfl (v := .ref (fad E 111)) rfl dX8_guild_18 ?_
    refine lv_iconst (v := 0) hx hb dX8_guild_21 (by decide) ?_
    refine f_vV (n := 2) X hP hS [.ref (fad E 111), .int 0] [] (c_X8_all l E M L 111 0 rfl rfl (by decide)) m_5_176 wi_X8_all rfl rfl (by decide) (by decide +kernel) ⟨Nat.le_of_ble_eq_true rfl, Nat.le_of_ble_eq_true rfl⟩ rfl hl rfl (Nat.le_of_ble_eq_true rfl) ⟨Nat.zero_le _, Nat.zero_le _⟩ dX8_guild_22 (fun H locs hP hS => ?_)
    refine lv_aload_n hx hb dX8_guild_25 rfl (lv_at hl 1 rfl) ?_
    refine lv_sipush (v := 160) hx hb dX8_guild_26 (by decide) ?_
    refine lv_iload_n hx hb dX8_guild_29 rfl (lv_at hl 2 rfl) ?_
    refine lv_imul hx hb dX8_guild_30 ?_
    refine f_topI (v := (nI (160 * s1.toNatClampNeg))) (mul160 hi9) ?_
    refine f_put X hP hS (T := TX8) (ci := 8) (k := 86) rfl inX8 rfl tyX8 tyX8_ok nmX8 32 (by decide) m_4_206 ⟨rfl, rfl⟩ rfl (v := (nI (160 * s1.toNatClampNeg))) rfl rfl dX8_guild_31 (fun H locs hP hS => ?_)
    refine lv_aload_n hx hb dX8_guild_34 rfl (lv_at hl 1 rfl) ?_
    refine lv_iconst (v := 0) hx hb dX8_guild_35 (by decide) ?_
    refine f_topI (v := (nI 0)) rfl ?_
    refine f_put X hP hS (T := TX8) (ci := 8) (k := 86) rfl inX8 rfl tyX8 tyX8_ok nmX8 33 (by decide) m_4_207 ⟨rfl, rfl⟩ rfl (v := (nI 0)) rfl rfl dX8_guild_36 (fun H locs hP hS => ?_)
    refine lv_aload_n hx hb dX8_guild_39 rfl (lv_at hl 1 rfl) ?_
    refine lv_aload_n hx hb dX8_guild_40 rfl (lv_at hl 1 rfl) ?_
    refine f_get X hP (T := TX8) (ci := 8) (k := 86) rfl inX8 rfl 23 (by decide) m_4_197 rfl (v := .ref (fad E 102)) rfl dX8_guild_41 ?_
    refine lv_iload_n hx hb dX8_guild_44 rfl (lv_at hl 2 rfl) ?_
    refine f_iald X hP (k := 102) (n := 8) (q := s1.toNatClampNeg) rfl rfl hi9 dX8_guild_45 ?_
    refine f_topI (((up2_o _ _ (Or.inl (by decide))).trans (up2_o _ _ (Or.inl (by decide)))).trans ((all_o (by decide)).trans en9)) ?_
    refine f_put X hP hS (T := TX8) (ci := 8) (k := 86) rfl inX8 rfl tyX8 tyX8_ok nmX8 34 (by decide) m_4_208 ⟨rfl, rfl⟩ rfl (v := (nI ((M 102 s1.toNatClampNeg).toNatClampNeg))) rfl rfl dX8_guild_46 (fun H locs hP hS => ?_)
    refine lv_aload_n hx hb dX8_guild_49 rfl (lv_at hl 1 rfl) ?_
    refine lv_iconst (v := (-1)) hx hb dX8_guild_50 (by decide) ?_
    refine f_put X hP hS (T := TX8) (ci := 8) (k := 86) rfl inX8 rfl tyX8 tyX8_ok nmX8 7 (by decide) m_4_181 ⟨rfl, rfl⟩ rfl (v := (-1)) rfl rfl dX8_guild_51 (fun H locs hP hS => ?_)
    have hP := fP_eq (show (gd0 M L s1.toNatClampNeg ((M 102 s1.toNatClampNeg).toNatClampNeg)) = (up2 (up2 (up2 (up2 (a_X8_all M L 111 0).1 86 32 (nI (160 * s1.toNatClampNeg))) 86 33 (nI 0)) 86 34 (nI ((M 102 s1.toNatClampNeg).toNatClampNeg))) 86 7 (-1)) from by
        rfl) hP
    refine lv_iconst (v := 1) hx hb dX8_guild_54 (by decide) ?_
    refine lv_istore_n (lv' := [(3, .int 1), (2, .int (a_X8_wanted M L s1)), (0, .ref (fad E 86)), (1, .int s1)]) hx hb dX8_guild_55 rfl hl (by decide) rfl (fun ls hl => ?_)
    refine lv_aload_n hx hb dX8_guild_56 rfl (lv_at hl 2 rfl) ?_
    refine f_iV (n := 0) X hP hS [] [] (c_X8_item l E (gd0 M L s1.toNatClampNeg ((M 102 s1.toNatClampNeg).toNatClampNeg)) L tc wc s1.toNatClampNeg 0 ((M 102 s1.toNatClampNeg).toNatClampNeg) hgj.2.2.2.1 htc8 hgj.2.2.2.2.1 hwc6 hgj.1 (by omega) hgj.2.2.1 hgj.2.1 (by omega) (by omega) hgj.2.2.2.2.2.1 hgj.2.2.2.2.2.2) m_5_184 wi_X8_item rfl rfl (by decide) (by decide +kernel) ⟨Nat.le_of_ble_eq_true rfl, Nat.le_of_ble_eq_true rfl⟩ rfl hl rfl (Nat.le_of_ble_eq_true rfl) ⟨Nat.zero_le _, Nat.zero_le _⟩ dX8_guild_57 (fun H locs hP hS => ?_)
    refine lv_istore (lv' := [(4, .int ((itemR (gd0 M L s1.toNatClampNeg ((M 102 s1.toNatClampNeg).toNatClampNeg)) L tc wc s1.toNatClampNeg 0 ((M 102 s1.toNatClampNeg).toNatClampNeg)).1)), (3, .int 1), (2, .int (a_X8_wanted M L s1)), (0, .ref (fad E 86)), (1, .int s1)]) hx hb dX8_guild_60 hl (by decide) rfl (fun ls hl => ?_)
    refine f_loop (α := Nat × Int32 × (Nat → Nat → Int32) × Nat) (fun (a : Nat × Int32 × (Nat → Nat → Int32) × Nat) H locs ls => match a with | (n, g, D, f) => fP E D L H ∧ va_S (fA E) s.heap H locs ∧ lv_has ls 5 [(4, .int g), (3, .int (nI n)), (2, .int (a_X8_wanted M L s1)), (0, .ref (fad E 86)), (1, .int s1)] ∧ (gdR L s1.toNatClampNeg ((M 102 s1.toNatClampNeg).toNatClampNeg) 161 1 (itemR (gd0 M L s1.toNatClampNeg ((M 102 s1.toNatClampNeg).toNatClampNeg)) L tc wc s1.toNatClampNeg 0 ((M 102 s1.toNatClampNeg).toNatClampNeg)).1 (itemR (gd0 M L s1.toNatClampNeg ((M 102 s1.toNatClampNeg).toNatClampNeg)) L tc wc s1.toNatClampNeg 0 ((M 102 s1.toNatClampNeg).toNatClampNeg)).2.1 = gdR L s1.toNatClampNeg ((M 102 s1.toNatClampNeg).toNatClampNeg) f n g D) ∧ (g = 0 ∨ ((M 102 s1.toNatClampNeg).toNatClampNeg) - pN D < f) ∧ (¬ g = 0 → gdJ s1.toNatClampNeg ((M 102 s1.toNatClampNeg).toNatClampNeg) D)) (fun (a : Nat × Int32 × (Nat → Nat → Int32) × Nat) => match a with | (n, g, D, f) => f) (pc0 := 62) (st := fun _ => []) ?_ (1, (itemR (gd0 M L s1.toNatClampNeg ((M 102 s1.toNatClampNeg).toNatClampNeg)) L tc wc s1.toNatClampNeg 0 ((M 102 s1.toNatClampNeg).toNatClampNeg)).1, (itemR (gd0 M L s1.toNatClampNeg ((M 102 s1.toNatClampNeg).toNatClampNeg)) L tc wc s1.toNatClampNeg 0 ((M 102 s1.toNatClampNeg).toNatClampNeg)).2.1, 161) _ _ _ ⟨hP, hS, lv_sub hl [0, 1, 2, 3, 4] rfl, rfl, (Or.inr (by omega)), (fun h9 => (item_J hgj.1 hs8 hgj.2.2.1 hgj.2.1 hen1 (Nat.zero_le _) hgj.2.2.2.1 htc8 hgj.2.2.2.2.1 hwc6 hgj.2.2.2.2.2.1 hgj.2.2.2.2.2.2 h9).1)⟩
    rintro ⟨n, g, D, f⟩ H locs ls ⟨hP, hS, hl, hbt, hfu, hJ⟩ ih_62
    refine lv_iload hx hb dX8_guild_62 (lv_at hl 0 rfl) ?_
    refine lv_if_eq (tgt := 133) hx hb dX8_guild_64 (by decide) (fun c_64 => ?_) (fun c_64 => ?_)
    · refine lv_iload hx hb dX8_guild_133 (lv_at hl 0 rfl) ?_
      refine lv_if_eq (tgt := 140) hx hb dX8_guild_135 (by decide) (fun c_135 => ?_) (fun c_135 => by exact absurd c_64 c_135)
      refine lv_aload_n hx hb dX8_guild_140 rfl (lv_at hl 3 rfl) ?_
      refine lv_aload_n hx hb dX8_guild_141 rfl (lv_at hl 3 rfl) ?_
      refine f_get X hP (T := TX8) (ci := 8) (k := 86) rfl inX8 rfl 37 (by decide) m_4_211 rfl (v := .ref (fad E 111)) rfl dX8_guild_142 ?_
      refine lv_iconst (v := 1) hx hb dX8_guild_145 (by decide) ?_
      refine f_vV (n := 2) X hP hS [.ref (fad E 111), .int 1] [] (c_X8_all l E D L 111 1 rfl rfl (by decide)) m_5_176 wi_X8_all rfl rfl (by decide) (by decide +kernel) ⟨Nat.le_of_ble_eq_true rfl, Nat.le_of_ble_eq_true rfl⟩ rfl hl rfl (Nat.le_of_ble_eq_true rfl) ⟨Nat.zero_le _, Nat.zero_le _⟩ dX8_guild_146 (fun H locs hP hS => ?_)
      refine lv_aload_n hx hb dX8_guild_149 rfl (lv_at hl 3 rfl) ?_
      refine lv_aload_n hx hb dX8_guild_150 rfl (lv_at hl 3 rfl) ?_
      refine f_get X hP (T := TX8) (ci := 8) (k := 86) rfl inX8 rfl 36 (by decide) m_4_210 rfl (v := .int ((a_X8_all D L 111 1).1 86 36)) rfl dX8_guild_151 ?_
      refine f_put X hP hS (T := TX8) (ci := 8) (k := 86) rfl inX8 rfl tyX8 tyX8_ok nmX8 7 (by decide) m_4_181 ⟨rfl, rfl⟩ rfl (v := ((a_X8_all D L 111 1).1 86 36)) rfl rfl dX8_guild_154 (fun H locs hP hS => ?_)
      refine lv_aload_n hx hb dX8_guild_157 rfl (lv_at hl 3 rfl) ?_
      refine lv_bipush (v := (-6)) hx hb dX8_guild_158 (by decide) ?_
      refine f_iV (n := 1) X hP hS [.int (-6)] [] (c_X8_no l E (up2 (a_X8_all D L 111 1).1 86 7 ((a_X8_all D L 111 1).1 86 36)) L (-6) (by decide)) m_5_84 wi_X8_no rfl rfl (by decide) (by decide +kernel) ⟨Nat.le_of_ble_eq_true rfl, Nat.le_of_ble_eq_true rfl⟩ rfl hl rfl (Nat.le_of_ble_eq_true rfl) ⟨Nat.zero_le _, Nat.zero_le _⟩ dX8_guild_160 (fun H locs hP hS => ?_)
      refine f_ir X hlk hr (v := (-6)) rfl hP hS ?_ dX8_guild_163
      unfold guildR; rw [if_pos c_7, hbt.trans (gd_stop (Or.inl c_64)), if_pos c_64]; exact ⟨rfl, rfl⟩
    · obtain ⟨hDb, hDe, hDp, hDl, hD1, hD18, hD0, hD06, hDw, hDn⟩ := hJ c_64
      have hf1 : 1 ≤ f := by rcases hfu with h9 | h9; exact absurd h9 c_64; omega
      refine lv_aload_n hx hb dX8_guild_67 rfl (lv_at hl 3 rfl) ?_
      refine f_get X hP (T := TX8) (ci := 8) (k := 86) rfl inX8 rfl 33 (by decide) m_4_207 rfl (v := .int (nI (pN D))) (congrArg Value.int hDp) dX8_guild_68 ?_
      refine lv_aload_n hx hb dX8_guild_71 rfl (lv_at hl 3 rfl) ?_
      refine f_get X hP (T := TX8) (ci := 8) (k := 86) rfl inX8 rfl 34 (by decide) m_4_208 rfl (v := .int (nI ((M 102 s1.toNatClampNeg).toNatClampNeg))) (congrArg Value.int hDe) dX8_guild_72 ?_
      refine lv_icmp_ge (tgt := 133) hx hb dX8_guild_75 (by decide) (fun c_75 => ?_) (fun c_75 => ?_)
      · have c_75 := (nI_le_iff (a := ((M 102 s1.toNatClampNeg).toNatClampNeg)) (b := (pN D)) (by omega) (by omega)).mp c_75
        refine lv_iload hx hb dX8_guild_133 (lv_at hl 0 rfl) ?_
        refine lv_if_eq (tgt := 140) hx hb dX8_guild_135 (by decide) (fun c_135 => by exact absurd c_135 c_64) (fun c_135 => ?_)
        refine lv_iload_n hx hb dX8_guild_138 rfl (lv_at hl 1 rfl) ?_
        refine f_ir X hlk hr (v := (nI n)) rfl hP hS ?_ dX8_guild_139
        unfold guildR; rw [if_pos c_7, hbt.trans (gd_stop (Or.inr c_75)), if_neg c_64]; exact ⟨rfl, rfl⟩
      · have c_75 := (not_congr (nI_le_iff (a := ((M 102 s1.toNatClampNeg).toNatClampNeg)) (b := (pN D)) (by omega) (by omega))).mp c_75
        refine lv_aload_n hx hb dX8_guild_78 rfl (lv_at hl 3 rfl) ?_
        refine f_get X hP (T := TX8) (ci := 8) (k := 86) rfl inX8 rfl 25 (by decide) m_4_199 rfl (v := .ref (fad E 104)) rfl dX8_guild_79 ?_
        refine lv_aload_n hx hb dX8_guild_82 rfl (lv_at hl 3 rfl) ?_
        refine f_get X hP (T := TX8) (ci := 8) (k := 86) rfl inX8 rfl 32 (by decide) m_4_206 rfl (v := .int (nI (160 * s1.toNatClampNeg))) (congrArg Value.int hDb) dX8_guild_83 ?_
        refine lv_aload_n hx hb dX8_guild_86 rfl (lv_at hl 3 rfl) ?_
        refine f_get X hP (T := TX8) (ci := 8) (k := 86) rfl inX8 rfl 33 (by decide) m_4_207 rfl (v := .int (nI (pN D))) (congrArg Value.int hDp) dX8_guild_87 ?_
        refine lv_iadd hx hb dX8_guild_90 ?_
        refine f_topI (nI_add (160 * s1.toNatClampNeg) (pN D)) ?_
        refine f_lald X hP (k := 104) (n := 1280) (q := ((160 * s1.toNatClampNeg) + (pN D))) rfl rfl (fIx_nI (by omega) (by decide)) dX8_guild_91 ?_
        refine lv_l2i (v := ((L 104 ((160 * s1.toNatClampNeg) + (pN D))).toInt32)) hx hb dX8_guild_92 rfl ?_
        refine lv_bipush (v := 59) hx hb dX8_guild_93 (by decide) ?_
        refine lv_icmp_eq (tgt := 111) hx hb dX8_guild_95 (by decide) (fun c_95 => ?_) (fun c_95 => ?_)
        · refine lv_aload_n hx hb dX8_guild_111 rfl (lv_at hl 3 rfl) ?_
          refine lv_dup hx hb dX8_guild_112 rfl ?_
          refine f_get X hP (T := TX8) (ci := 8) (k := 86) rfl inX8 rfl 33 (by decide) m_4_207 rfl (v := .int (nI (pN D))) (congrArg Value.int hDp) dX8_guild_113 ?_
          refine lv_iconst (v := 1) hx hb dX8_guild_116 (by decide) ?_
          refine lv_iadd hx hb dX8_guild_117 ?_
          refine f_topI (nI_add (pN D) 1) ?_
          refine f_put X hP hS (T := TX8) (ci := 8) (k := 86) rfl inX8 rfl tyX8 tyX8_ok nmX8 33 (by decide) m_4_207 ⟨rfl, rfl⟩ rfl (v := (nI ((pN D) + 1))) rfl rfl dX8_guild_118 (fun H locs hP hS => ?_)
          refine lv_iinc (v := (nI (n + 1))) (lv' := [(3, .int (nI (n + 1))), (4, .int g), (2, .int (a_X8_wanted M L s1)), (0, .ref (fad E 86)), (1, .int s1)]) hx hb dX8_guild_121 hl (k := 1) rfl (nI_1 _) (by decide) rfl (fun ls hl => ?_)
          refine lv_aload_n hx hb dX8_guild_124 rfl (lv_at hl 3 rfl) ?_
          refine f_iV (n := 0) X hP hS [] [] (c_X8_item l E (up2 D 86 33 (nI ((pN D) + 1))) L (tX D) (wX D) s1.toNatClampNeg (pN D + 1) ((M 102 s1.toNatClampNeg).toNatClampNeg) ((up2_o _ _ (Or.inr (by decide))).trans hD1) hD18 ((up2_o _ _ (Or.inr (by decide))).trans hD0) hD06 ((up2_o _ _ (Or.inr (by decide))).trans hDb) (by omega) (up2_s _ _ _ _) ((up2_o _ _ (Or.inr (by decide))).trans hDe) (by omega) (by omega) (fun k hk => (up2_o _ _ (Or.inl (by decide))).trans (hDw k hk)) (fun w hw => (up2_o _ _ (Or.inl (by decide))).trans (hDn w hw))) m_5_184 wi_X8_item rfl rfl (by decide) (by decide +kernel) ⟨Nat.le_of_ble_eq_true rfl, Nat.le_of_ble_eq_true rfl⟩ rfl hl rfl (Nat.le_of_ble_eq_true rfl) ⟨Nat.zero_le _, Nat.zero_le _⟩ dX8_guild_125 (fun H locs hP hS => ?_)
          refine lv_istore (lv' := [(4, .int ((itemR (up2 D 86 33 (nI ((pN D) + 1))) L (tX D) (wX D) s1.toNatClampNeg (pN D + 1) ((M 102 s1.toNatClampNeg).toNatClampNeg)).1)), (3, .int (nI (n + 1))), (2, .int (a_X8_wanted M L s1)), (0, .ref (fad E 86)), (1, .int s1)]) hx hb dX8_guild_128 hl (by decide) rfl (fun ls hl => ?_)
          refine lv_goto (tgt := 62) hx hb dX8_guild_130 (by decide) ?_
          exact ih_62 ((n + 1), ((itemR (up2 D 86 33 (nI ((pN D) + 1))) L (tX D) (wX D) s1.toNatClampNeg (pN D + 1) ((M 102 s1.toNatClampNeg).toNatClampNeg)).1), (itemR (up2 D 86 33 (nI ((pN D) + 1))) L (tX D) (wX D) s1.toNatClampNeg (pN D + 1) ((M 102 s1.toNatClampNeg).toNatClampNeg)).2.1, (f - 1)) _ _ _ (by show (f - 1) < f; omega) ⟨hP, hS, lv_sub hl [0, 1, 2, 3, 4] rfl, (by first | exact hbt.trans (gd_no hf1 c_64 c_75 c_95) | exact hbt.trans (gd_go hf1 c_64 c_75 c_95)), (by first | exact Or.inl rfl | exact gd_fu hDb hs8 hDe hen1 (by omega) hD1 hD18 hD0 hD06 hDw hDn hfu c_64), (by first | exact fun h9 => absurd rfl h9 | exact fun h9 => (gd_it hDb hs8 hDe hen1 (by omega) hD1 hD18 hD0 hD06 hDw hDn h9).1)⟩
        · refine lv_aload_n hx hb dX8_guild_98 rfl (lv_at hl 3 rfl) ?_
          refine lv_aload_n hx hb dX8_guild_99 rfl (lv_at hl 3 rfl) ?_
          refine f_get X hP (T := TX8) (ci := 8) (k := 86) rfl inX8 rfl 33 (by decide) m_4_207 rfl (v := .int (nI (pN D))) (congrArg Value.int hDp) dX8_guild_100 ?_
          refine f_iV (n := 1) X hP hS [.int (nI (pN D))] [] (c_X8_wrong l E D L (nI (pN D))) m_5_192 wi_X8_wrong rfl rfl (by decide) (by decide +kernel) ⟨Nat.le_of_ble_eq_true rfl, Nat.le_of_ble_eq_true rfl⟩ rfl hl rfl (Nat.le_of_ble_eq_true rfl) ⟨Nat.zero_le _, Nat.zero_le _⟩ dX8_guild_103 (fun H locs hP hS => ?_)
          refine lv_istore (lv' := [(4, .int 0), (3, .int (nI n)), (2, .int (a_X8_wanted M L s1)), (0, .ref (fad E 86)), (1, .int s1)]) hx hb dX8_guild_106 hl (by decide) rfl (fun ls hl => ?_)
          refine lv_goto (tgt := 62) hx hb dX8_guild_108 (by decide) ?_
          exact ih_62 (n, 0, (up2 D 86 36 (nI (pN D))), (f - 1)) _ _ _ (by show (f - 1) < f; omega) ⟨hP, hS, lv_sub hl [0, 1, 2, 3, 4] rfl, (by first | exact hbt.trans (gd_no hf1 c_64 c_75 c_95) | exact hbt.trans (gd_go hf1 c_64 c_75 c_95)), (by first | exact Or.inl rfl | exact gd_fu hDb hs8 hDe hen1 (by omega) hD1 hD18 hD0 hD06 hDw hDn hfu c_64), (by first | exact fun h9 => absurd rfl h9 | exact fun h9 => (gd_it hDb hs8 hDe hen1 (by omega) hD1 hD18 hD0 hD06 hDw hDn h9).1)⟩
  · refine lv_aload_n hx hb dX8_guild_10 rfl (lv_at hl 1 rfl) ?_
    refine lv_iload_n hx hb dX8_guild_11 rfl (lv_at hl 0 rfl) ?_
    refine f_iV (n := 1) X hP hS [.int (a_X8_wanted M L s1)] [] (c_X8_no l E M L (a_X8_wanted M L s1) wd_rg) m_5_84 wi_X8_no rfl rfl (by decide) (by decide +kernel) ⟨Nat.le_of_ble_eq_true rfl, Nat.le_of_ble_eq_true rfl⟩ rfl hl rfl (Nat.le_of_ble_eq_true rfl) ⟨Nat.zero_le _, Nat.zero_le _⟩ dX8_guild_12 (fun H locs hP hS => ?_)
    refine f_ir X hlk hr (v := (a_X8_wanted M L s1)) rfl hP hS ?_ dX8_guild_15
    unfold guildR; rw [if_neg c_7]; exact ⟨rfl, rfl⟩
