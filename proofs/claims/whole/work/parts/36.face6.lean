set_option maxHeartbeats 4000000 in
set_option maxRecDepth 100000 in
theorem c_X7_rota (l : Launch) (E : fE) (M : Nat → Nat → Int32) (L : Nat → Nat → Int64) (t : Int32) (i : Int32) (tc wc : Nat) (htc : M 18 3 = nI tc) (htc8 : tc ≤ 8) (hwc : M 18 4 = nI wc) (hwc6 : wc ≤ 6) (hTs : ∀ t, t < 8 → okT M (22 + t)) (hWs : ∀ w, w < 6 → okW M (30 + w)) (hH : 0 ≤ M 18 5 ∧ M 18 5 ≤ 9) : Met l yX7_rota (wl yX7_rota cX7_rota 3 (some .int)) (fRm 5 118) (va_Pc [.ref (fad E 0), .int t, .int i] (fPre E M L)) (fQi E (fun r u => rotaR M L wc t i r u)) 0 0 (fA E) := by
  refine f_head (by decide) (Nat.le_of_ble_eq_true rfl) ?_
  intro pg ev s mi below meth cd ls X hr hlk hP hS hl
  have hx := X.1.1
  have hb := X.1.2.1
  have hl : lv_has ls 3 [(0, .ref (fad E 0)), (1, .int t), (2, .int i)] := hl
  refine lv_aload_n hx hb dX7_rota_0 rfl (lv_at hl 0 rfl) ?_
  refine f_get X hP (T := TX7) (ci := 7) (k := 0) rfl inX7 rfl 1 (by decide) m_1_232 rfl (v := .ref (fad E 18)) rfl dX7_rota_1 ?_
  refine lv_iload_n hx hb dX7_rota_4 rfl (lv_at hl 1 rfl) ?_
  refine f_iV (n := 1) X hP hS [.int t] [] (c_X1_hasThing l E M L 18 t rfl) m_2_158 wi_X1_hasThing rfl rfl (by decide) (by decide +kernel) ⟨Nat.le_of_ble_eq_true rfl, Nat.le_of_ble_eq_true rfl⟩ rfl hl rfl (Nat.le_of_ble_eq_true rfl) ⟨Nat.zero_le _, Nat.zero_le _⟩ dX7_rota_5 (fun H locs hP hS => ?_)
  refine lv_if_ne (tgt := 17) hx hb dX7_rota_8 (by decide) (fun c_8 => ?_) (fun c_8 => ?_)
  · have c_8 := bI1 c_8
    have hlt_t : t.toNatClampNeg < 8 := (fIx_lt 8 c_8.1 c_8.2.2 (by decide)).2.2
    refine lv_iload_n hx hb dX7_rota_17 rfl (lv_at hl 2 rfl) ?_
    refine lv_iconst (v := (-1)) hx hb dX7_rota_18 (by decide) ?_
    refine lv_icmp_eq (tgt := 40) hx hb dX7_rota_19 (by decide) (fun c_19 => ?_) (fun c_19 => ?_)
    · refine lv_aload_n hx hb dX7_rota_40 rfl (lv_at hl 0 rfl) ?_
      refine f_get X hP (T := TX7) (ci := 7) (k := 0) rfl inX7 rfl 4 (by decide) m_1_235 rfl (v := .ref (fad E 74)) rfl dX7_rota_41 ?_
      refine lv_aload_n hx hb dX7_rota_44 rfl (lv_at hl 0 rfl) ?_
      refine f_get X hP (T := TX7) (ci := 7) (k := 0) rfl inX7 rfl 1 (by decide) m_1_232 rfl (v := .ref (fad E 18)) rfl dX7_rota_45 ?_
      refine lv_aload_n hx hb dX7_rota_48 rfl (lv_at hl 0 rfl) ?_
      refine f_get X hP (T := TX7) (ci := 7) (k := 0) rfl inX7 rfl 1 (by decide) m_1_232 rfl (v := .ref (fad E 18)) rfl dX7_rota_49 ?_
      refine f_get X hP (T := TX1) (ci := 1) (k := 18) rfl inX1 rfl 0 (by decide) m_1_108 rfl (v := .ref (fad E 19)) rfl dX7_rota_52 ?_
      refine lv_iload_n hx hb dX7_rota_55 rfl (lv_at hl 1 rfl) ?_
      refine f_aald X hP (t := 12) (d := 3) (n := 8) (r := t.toNatClampNeg) rfl rfl (.inr (.inl ⟨rfl, rfl⟩)) (fIx_lt 8 c_8.1 c_8.2.2 (by decide)) (22 + t.toNatClampNeg) (by omega) dX7_rota_56 ?_
      refine f_iV (n := 0) X hP hS [] [.ref (fad E 18), .ref (fad E 74)] (c_X5_quarters l E M L (22 + t.toNatClampNeg) (sh_gt (g := 18) rfl (by omega))) m_3_181 wi_X5_quarters (sh_gt (g := 18) rfl (by omega)) rfl (by decide) (by decide +kernel) ⟨Nat.le_of_ble_eq_true rfl, Nat.le_of_ble_eq_true rfl⟩ rfl hl rfl (Nat.le_of_ble_eq_true rfl) ⟨Nat.zero_le _, Nat.zero_le _⟩ dX7_rota_57 (fun H locs hP hS => ?_)
      refine f_vG (n := 2) X hP hS [.ref (fad E 18), .int ((M (22 + t.toNatClampNeg) 2) - (M (22 + t.toNatClampNeg) 1) + 1)] [] (c_X3_layOut l E M L 18 ((M (22 + t.toNatClampNeg) 2) - (M (22 + t.toNatClampNeg) 1) + 1) (qnN M t) wc rfl (qnN_eq (hTs _ hlt_t)).1 (qnN_eq (hTs _ hlt_t)).2 hwc hwc6 hWs hH) m_3_182 wi_X3_layOut rfl rfl (by decide) (by decide +kernel) ⟨Nat.le_of_ble_eq_true rfl, Nat.le_of_ble_eq_true rfl⟩ rfl hl rfl (Nat.le_of_ble_eq_true rfl) ⟨Nat.zero_le _, Nat.zero_le _⟩ dX7_rota_60 (fun M_60 L_60 H locs h_60 hP hS => ?_)
      obtain ⟨h1, hfr, hqn, htab⟩ := h_60
      have h1 : L_60 = L := h1
      rw [h1] at hP
      refine lv_iload_n hx hb dX7_rota_63 rfl (lv_at hl 2 rfl) ?_
      refine lv_iconst (v := (-1)) hx hb dX7_rota_64 (by decide) ?_
      refine lv_icmp_ne (tgt := 78) hx hb dX7_rota_65 (by decide) (fun c_65 => ?_) (fun c_65 => ?_)
      · exact absurd c_19 c_65
      · refine lv_aload_n hx hb dX7_rota_68 rfl (lv_at hl 0 rfl) ?_
        refine f_get X hP (T := TX7) (ci := 7) (k := 0) rfl inX7 rfl 4 (by decide) m_1_235 rfl (v := .ref (fad E 74)) rfl dX7_rota_69 ?_
        refine f_iV (n := 0) X hP hS [] [] (c_X3_leastCost l E M_60 L (qnN M t) hqn (qnN_eq (hTs _ hlt_t)).2) m_3_199 wi_X3_leastCost rfl rfl (by decide) (by decide +kernel) ⟨Nat.le_of_ble_eq_true rfl, Nat.le_of_ble_eq_true rfl⟩ rfl hl rfl (Nat.le_of_ble_eq_true rfl) ⟨Nat.zero_le _, Nat.zero_le _⟩ dX7_rota_72 (fun H locs hP hS => ?_)
        refine lv_goto (tgt := 90) hx hb dX7_rota_75 (by decide) ?_
        refine f_ir X hlk hr (v := (if (1000000 : Int32) ≤ (M_60 76 (qnN M t)) then -1 else (M_60 76 (qnN M t)))) rfl hP hS ?_ dX7_rota_90
        unfold rotaR; rw [if_pos c_8, if_pos (by first | exact Or.inl c_19 | exact Or.inr c_30)]; exact ⟨M_60, rfl, hfr, hqn, htab, by first | (rw [if_pos c_65]; done) | (rw [if_neg c_65, ei9, nI_clamp hi9]; done)⟩
    · refine lv_aload_n hx hb dX7_rota_22 rfl (lv_at hl 0 rfl) ?_
      refine f_get X hP (T := TX7) (ci := 7) (k := 0) rfl inX7 rfl 1 (by decide) m_1_232 rfl (v := .ref (fad E 18)) rfl dX7_rota_23 ?_
      refine lv_iload_n hx hb dX7_rota_26 rfl (lv_at hl 2 rfl) ?_
      refine f_iV (n := 1) X hP hS [.int i] [] (c_X1_hasWaiter l E M L 18 i rfl) m_2_89 wi_X1_hasWaiter rfl rfl (by decide) (by decide +kernel) ⟨Nat.le_of_ble_eq_true rfl, Nat.le_of_ble_eq_true rfl⟩ rfl hl rfl (Nat.le_of_ble_eq_true rfl) ⟨Nat.zero_le _, Nat.zero_le _⟩ dX7_rota_27 (fun H locs hP hS => ?_)
      refine lv_if_ne (tgt := 40) hx hb dX7_rota_30 (by decide) (fun c_30 => ?_) (fun c_30 => ?_)
      · have c_30 := bI1 c_30
        refine lv_aload_n hx hb dX7_rota_40 rfl (lv_at hl 0 rfl) ?_
        refine f_get X hP (T := TX7) (ci := 7) (k := 0) rfl inX7 rfl 4 (by decide) m_1_235 rfl (v := .ref (fad E 74)) rfl dX7_rota_41 ?_
        refine lv_aload_n hx hb dX7_rota_44 rfl (lv_at hl 0 rfl) ?_
        refine f_get X hP (T := TX7) (ci := 7) (k := 0) rfl inX7 rfl 1 (by decide) m_1_232 rfl (v := .ref (fad E 18)) rfl dX7_rota_45 ?_
        refine lv_aload_n hx hb dX7_rota_48 rfl (lv_at hl 0 rfl) ?_
        refine f_get X hP (T := TX7) (ci := 7) (k := 0) rfl inX7 rfl 1 (by decide) m_1_232 rfl (v := .ref (fad E 18)) rfl dX7_rota_49 ?_
        refine f_get X hP (T := TX1) (ci := 1) (k := 18) rfl inX1 rfl 0 (by decide) m_1_108 rfl (v := .ref (fad E 19)) rfl dX7_rota_52 ?_
        refine lv_iload_n hx hb dX7_rota_55 rfl (lv_at hl 1 rfl) ?_
        refine f_aald X hP (t := 12) (d := 3) (n := 8) (r := t.toNatClampNeg) rfl rfl (.inr (.inl ⟨rfl, rfl⟩)) (fIx_lt 8 c_8.1 c_8.2.2 (by decide)) (22 + t.toNatClampNeg) (by omega) dX7_rota_56 ?_
        refine f_iV (n := 0) X hP hS [] [.ref (fad E 18), .ref (fad E 74)] (c_X5_quarters l E M L (22 + t.toNatClampNeg) (sh_gt (g := 18) rfl (by omega))) m_3_181 wi_X5_quarters (sh_gt (g := 18) rfl (by omega)) rfl (by decide) (by decide +kernel) ⟨Nat.le_of_ble_eq_true rfl, Nat.le_of_ble_eq_true rfl⟩ rfl hl rfl (Nat.le_of_ble_eq_true rfl) ⟨Nat.zero_le _, Nat.zero_le _⟩ dX7_rota_57 (fun H locs hP hS => ?_)
        refine f_vG (n := 2) X hP hS [.ref (fad E 18), .int ((M (22 + t.toNatClampNeg) 2) - (M (22 + t.toNatClampNeg) 1) + 1)] [] (c_X3_layOut l E M L 18 ((M (22 + t.toNatClampNeg) 2) - (M (22 + t.toNatClampNeg) 1) + 1) (qnN M t) wc rfl (qnN_eq (hTs _ hlt_t)).1 (qnN_eq (hTs _ hlt_t)).2 hwc hwc6 hWs hH) m_3_182 wi_X3_layOut rfl rfl (by decide) (by decide +kernel) ⟨Nat.le_of_ble_eq_true rfl, Nat.le_of_ble_eq_true rfl⟩ rfl hl rfl (Nat.le_of_ble_eq_true rfl) ⟨Nat.zero_le _, Nat.zero_le _⟩ dX7_rota_60 (fun M_60 L_60 H locs h_60 hP hS => ?_)
        obtain ⟨h1, hfr, hqn, htab⟩ := h_60
        have h1 : L_60 = L := h1
        rw [h1] at hP
        refine lv_iload_n hx hb dX7_rota_63 rfl (lv_at hl 2 rfl) ?_
        refine lv_iconst (v := (-1)) hx hb dX7_rota_64 (by decide) ?_
        refine lv_icmp_ne (tgt := 78) hx hb dX7_rota_65 (by decide) (fun c_65 => ?_) (fun c_65 => ?_)
        · obtain ⟨i0, hi0, ei9⟩ := i_lt wc c_30.1 (hwc ▸ c_30.2.1) (by omega)
          have hi9 : i0 < 2 ^ 31 := by omega
          refine lv_aload_n hx hb dX7_rota_78 rfl (lv_at hl 0 rfl) ?_
          refine f_get X hP (T := TX7) (ci := 7) (k := 0) rfl inX7 rfl 4 (by decide) m_1_235 rfl (v := .ref (fad E 74)) rfl dX7_rota_79 ?_
          refine lv_aload_n hx hb dX7_rota_82 rfl (lv_at hl 0 rfl) ?_
          refine f_get X hP (T := TX7) (ci := 7) (k := 0) rfl inX7 rfl 1 (by decide) m_1_232 rfl (v := .ref (fad E 18)) rfl dX7_rota_83 ?_
          refine lv_iload_n hx hb dX7_rota_86 rfl (lv_at hl 2 rfl) ?_
          refine f_iV (n := 2) X hP hS [.ref (fad E 18), .int i] [] (c_X3_shareOf l E M_60 L 18 i (qnN M t) i0 wc rfl hqn (qnN_eq (hTs _ hlt_t)).2 ei9 hi0 ((hfr 18 4 (by omega) (by omega)).trans hwc) hwc6 (fun w hw => okW_fr hfr (Or.inl rfl) hw (hWs w hw)) (hH_fr hfr (Or.inl rfl) hH)) m_3_203 wi_X3_shareOf rfl rfl (by decide) (by decide +kernel) ⟨Nat.le_of_ble_eq_true rfl, Nat.le_of_ble_eq_true rfl⟩ rfl hl rfl (Nat.le_of_ble_eq_true rfl) ⟨Nat.zero_le _, Nat.zero_le _⟩ dX7_rota_87 (fun H locs hP hS => ?_)
          refine f_ir X hlk hr (v := (if (if (1000000 : Int32) ≤ (M_60 76 (qnN M t)) then -1 else (M_60 76 (qnN M t))) = -1 then -1 else nI (shI (fbM M_60 18) (qnN M t) (i0 + 1)).2)) rfl hP hS ?_ dX7_rota_90
          unfold rotaR; rw [if_pos c_8, if_pos (by first | exact Or.inl c_19 | exact Or.inr c_30)]; exact ⟨M_60, rfl, hfr, hqn, htab, by first | (rw [if_pos c_65]; done) | (rw [if_neg c_65, ei9, nI_clamp hi9]; done)⟩
        · exact absurd c_65 c_19
      · have c_30 := bI0 c_30
        refine lv_aload_n hx hb dX7_rota_33 rfl (lv_at hl 0 rfl) ?_
        refine lv_bipush (v := (-5)) hx hb dX7_rota_34 (by decide) ?_
        refine f_iV (n := 1) X hP hS [.int (-5)] [] (c_X7_refuseApart l E M L (-5)) m_3_130 wi_X7_refuseApart rfl rfl (by decide) (by decide +kernel) ⟨Nat.le_of_ble_eq_true rfl, Nat.le_of_ble_eq_true rfl⟩ rfl hl rfl (Nat.le_of_ble_eq_true rfl) ⟨Nat.zero_le _, Nat.zero_le _⟩ dX7_rota_36 (fun H locs hP hS => ?_)
        refine f_ir X hlk hr (v := ((-5) - 10)) rfl hP hS ?_ dX7_rota_39
        unfold rotaR; rw [if_pos c_8, if_neg (fun h => h.elim c_19 c_30)]; exact ⟨rfl, rfl⟩
  · have c_8 := bI0 c_8
    refine lv_aload_n hx hb dX7_rota_11 rfl (lv_at hl 0 rfl) ?_
    refine lv_iconst (v := (-1)) hx hb dX7_rota_12 (by decide) ?_
    refine f_iV (n := 1) X hP hS [.int (-1)] [] (c_X7_refuseApart l E M L (-1)) m_3_130 wi_X7_refuseApart rfl rfl (by decide) (by decide +kernel) ⟨Nat.le_of_ble_eq_true rfl, Nat.le_of_ble_eq_true rfl⟩ rfl hl rfl (Nat.le_of_ble_eq_true rfl) ⟨Nat.zero_le _, Nat.zero_le _⟩ dX7_rota_13 (fun H locs hP hS => ?_)
    refine f_ir X hlk hr (v := ((-1) - 10)) rfl hP hS ?_ dX7_rota_16
    unfold rotaR; rw [if_neg c_8]; exact ⟨rfl, rfl⟩
