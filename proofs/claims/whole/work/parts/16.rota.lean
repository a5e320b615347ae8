set_option maxHeartbeats 4000000 in
set_option maxRecDepth 100000 in
theorem c_X3_payWith (l : Launch) (E : fE) (M : Nat → Nat → Int32) (L : Nat → Nat → Int64) (g : Nat) (w : Int32) (op : Int32) (sh : Int32) (w0 o0 s0 : Nat) (hk_g : fsh g = 1) (ew : w = nI w0) (eo : op = nI o0) (hw0 : w0 < 6) (ho0 : o0 ≤ 24) (es : sh = nI s0) (hs0 : s0 ≤ o0) : Met l yX3_payWith (wl yX3_payWith cX3_payWith 5 (some .int)) (fRm 2 43) (va_Pc [.ref (fad E 74), .ref (fad E g), .int w, .int op, .int sh] (fPre E M L)) (fQi E (fun r u => u = (M, L) ∧ r = (wgM M g w0 s0 + (M (76 + (w0 + 1)) (o0 - s0))))) 0 0 (fA E) := by
  refine f_head (by decide) (Nat.le_of_ble_eq_true rfl) ?_
  intro pg ev s mi below meth cd ls X hr hlk hP hS hl
  have hx := X.1.1
  have hb := X.1.2.1
  have hl : lv_has ls 5 [(0, .ref (fad E 74)), (1, .ref (fad E g)), (2, .int w), (3, .int op), (4, .int sh)] := hl
  subst ew eo es
  have hl : lv_has ls 5 [(0, .ref (fad E 74)), (1, .ref (fad E g)), (2, .int (nI w0)), (3, .int (nI o0)), (4, .int (nI s0))] := hl
  refine lv_aload_n hx hb dX3_payWith_0 rfl (lv_at hl 1 rfl) ?_
  refine f_get X hP (T := TX1) (ci := 1) (k := g) hk_g inX1 rfl 1 (by decide) m_1_110 rfl (v := .ref (fad E (g + 2))) rfl dX3_payWith_1 ?_
  refine lv_iload_n hx hb dX3_payWith_4 rfl (lv_at hl 2 rfl) ?_
  refine f_aald X hP (t := 13) (d := 10) (n := 6) (r := w0) (sh_g2 hk_g) (ln_g2 hk_g) (.inr (.inr (.inl ⟨rfl, rfl⟩))) (fIx_nI (by omega) (by decide)) (g + 12 + w0) (by omega) dX3_payWith_5 ?_
  refine lv_iload hx hb dX3_payWith_6 (lv_at hl 4 rfl) ?_
  refine lv_aload_n hx hb dX3_payWith_8 rfl (lv_at hl 1 rfl) ?_
  refine f_get X hP (T := TX1) (ci := 1) (k := g) hk_g inX1 rfl 5 (by decide) m_1_121 rfl (v := .int (M g 5)) rfl dX3_payWith_9 ?_
  refine f_iV (n := 2) X hP hS [.int (nI s0), .int (M g 5)] [] (c_X6_wageFor l E M L (g + 12 + w0) (nI s0) (M g 5) (sh_gw hk_g (by omega))) m_3_198 wi_X6_wageFor (sh_gw hk_g (by omega)) rfl (by decide) (by decide +kernel) ⟨Nat.le_of_ble_eq_true rfl, Nat.le_of_ble_eq_true rfl⟩ rfl hl rfl (Nat.le_of_ble_eq_true rfl) ⟨Nat.zero_le _, Nat.zero_le _⟩ dX3_payWith_12 (fun H locs hP hS => ?_)
  refine lv_aload_n hx hb dX3_payWith_15 rfl (lv_at hl 0 rfl) ?_
  refine f_get X hP (T := TX3) (ci := 3) (k := 74) rfl inX3 rfl 0 (by decide) m_1_190 rfl (v := .ref (fad E 75)) rfl dX3_payWith_16 ?_
  refine lv_iload_n hx hb dX3_payWith_19 rfl (lv_at hl 2 rfl) ?_
  refine lv_iconst (v := 1) hx hb dX3_payWith_20 (by decide) ?_
  refine lv_iadd hx hb dX3_payWith_21 ?_
  refine f_topI (nI_add w0 1) ?_
  refine f_aald X hP (t := 14) (d := 1) (n := 7) (r := (w0 + 1)) rfl rfl (.inr (.inr (.inr ⟨rfl, rfl⟩))) (fIx_nI (by omega) (by decide)) (76 + (w0 + 1)) (by omega) dX3_payWith_22 ?_
  refine lv_iload_n hx hb dX3_payWith_23 rfl (lv_at hl 3 rfl) ?_
  refine lv_iload hx hb dX3_payWith_24 (lv_at hl 4 rfl) ?_
  refine lv_isub hx hb dX3_payWith_26 ?_
  refine f_topI (v := (nI (o0 - s0))) (nI_sub hs0) ?_
  refine f_iald X hP (k := (76 + (w0 + 1))) (n := 25) (q := (o0 - s0)) (sh_row (by omega)) (ln_row (by omega)) (fIx_nI (by omega) (by decide)) dX3_payWith_27 ?_
  refine lv_iadd hx hb dX3_payWith_28 ?_
  exact f_ir X hlk hr (v := ((wageF (M (g + 12 + w0) 1) (M (g + 12 + w0) 2) (M (g + 12 + w0) 3) (M (g + 12 + w0) 4) (M g 5) (nI s0)) + (M (76 + (w0 + 1)) (o0 - s0)))) rfl hP hS ⟨rfl, rfl⟩ dX3_payWith_29

set_option maxHeartbeats 4000000 in
set_option maxRecDepth 100000 in
theorem c_X3_firstBest (l : Launch) (E : fE) (M : Nat → Nat → Int32) (L : Nat → Nat → Int64) (g : Nat) (w : Int32) (op : Int32) (w0 o0 : Nat) (hk_g : fsh g = 1) (ew : w = nI w0) (eo : op = nI o0) (hw0 : w0 < 6) (ho0 : o0 ≤ 24) (hW : okW M (g + 12 + w0)) (hH : 0 ≤ M g 5 ∧ M g 5 ≤ 9) : Met l yX3_firstBest (wl yX3_firstBest cX3_firstBest 7 (some .int)) (fRm 3 67) (va_Pc [.ref (fad E 74), .ref (fad E g), .int w, .int op] (fPre E M L)) (fQi E (fun r u => u = (M, L) ∧ r = (nI (fbM M g w0 o0)))) 0 0 (fA E) := by
  refine f_head (by decide) (Nat.le_of_ble_eq_true rfl) ?_
  intro pg ev s mi below meth cd ls X hr hlk hP hS hl
  have hx := X.1.1
  have hb := X.1.2.1
  have hl : lv_has ls 7 [(0, .ref (fad E 74)), (1, .ref (fad E g)), (2, .int w), (3, .int op)] := hl
  subst ew eo
  have hl : lv_has ls 7 [(0, .ref (fad E 74)), (1, .ref (fad E g)), (2, .int (nI w0)), (3, .int (nI o0))] := hl
  obtain ⟨h0, hh0, eh⟩ := i_le 24 (holdF_rg (kd := M (g + 12 + w0) 1) hW.2.1 hW.2.2.2.1 hH).1 (holdF_rg hW.2.1 hW.2.2.2.1 hH).2 (by decide)
  have hhn : hdM M g w0 = h0 := by unfold hdM; rw [eh, nI_clamp (by omega)]
  have emn := nI_min (a := o0) (b := h0) (by omega) (by omega)
  refine lv_iload_n hx hb dX3_firstBest_0 rfl (lv_at hl 3 rfl) ?_
  refine lv_aload_n hx hb dX3_firstBest_1 rfl (lv_at hl 1 rfl) ?_
  refine f_get X hP (T := TX1) (ci := 1) (k := g) hk_g inX1 rfl 1 (by decide) m_1_110 rfl (v := .ref (fad E (g + 2))) rfl dX3_firstBest_2 ?_
  refine lv_iload_n hx hb dX3_firstBest_5 rfl (lv_at hl 2 rfl) ?_
  refine f_aald X hP (t := 13) (d := 10) (n := 6) (r := w0) (sh_g2 hk_g) (ln_g2 hk_g) (.inr (.inr (.inl ⟨rfl, rfl⟩))) (fIx_nI (by omega) (by decide)) (g + 12 + w0) (by omega) dX3_firstBest_6 ?_
  refine lv_aload_n hx hb dX3_firstBest_7 rfl (lv_at hl 1 rfl) ?_
  refine f_get X hP (T := TX1) (ci := 1) (k := g) hk_g inX1 rfl 5 (by decide) m_1_121 rfl (v := .int (M g 5)) rfl dX3_firstBest_8 ?_
  refine f_iV (n := 1) X hP hS [.int (M g 5)] [.int (nI o0)] (c_X6_quartersHeld l E M L (g + 12 + w0) (M g 5) (sh_gw hk_g (by omega))) m_3_193 wi_X6_quartersHeld (sh_gw hk_g (by omega)) rfl (by decide) (by decide +kernel) ⟨Nat.le_of_ble_eq_true rfl, Nat.le_of_ble_eq_true rfl⟩ rfl hl rfl (Nat.le_of_ble_eq_true rfl) ⟨Nat.zero_le _, Nat.zero_le _⟩ dX3_firstBest_11 (fun H locs hP hS => ?_)
  refine f_topI (v := (nI h0)) eh ?_
  refine va_mmin hx hb (X.1.2.2.1.trans hl.1.symm) X.1.2.2.2.1 (X.ht m_3_186) (X.ht m_2_194) (X.ht m_1_11) (X.ht m_2_195) (Nat.le_of_ble_eq_true rfl) (Nat.le_of_ble_eq_true rfl) (Nat.zero_le _) (Nat.zero_le _) dX3_firstBest_14 ?_
  refine f_topI (v := (nI (min o0 h0))) emn ?_
  refine lv_istore (lv' := [(4, .int (nI (min o0 h0))), (0, .ref (fad E 74)), (1, .ref (fad E g)), (2, .int (nI w0)), (3, .int (nI o0))]) hx hb dX3_firstBest_17 hl (by decide) rfl (fun ls hl => ?_)
  refine lv_iconst (v := 0) hx hb dX3_firstBest_19 (by decide) ?_
  refine lv_istore (lv' := [(5, .int 0), (4, .int (nI (min o0 h0))), (0, .ref (fad E 74)), (1, .ref (fad E g)), (2, .int (nI w0)), (3, .int (nI o0))]) hx hb dX3_firstBest_20 hl (by decide) rfl (fun ls hl => ?_)
  refine lv_iconst (v := 1) hx hb dX3_firstBest_22 (by decide) ?_
  refine lv_istore (lv' := [(6, .int 1), (5, .int 0), (4, .int (nI (min o0 h0))), (0, .ref (fad E 74)), (1, .ref (fad E g)), (2, .int (nI w0)), (3, .int (nI o0))]) hx hb dX3_firstBest_23 hl (by decide) rfl (fun ls hl => ?_)
  refine f_loop (α := Nat × Nat) (fun (a : Nat × Nat) H locs ls => match a with | (i, cc1) => fP E M L H ∧ va_S (fA E) s.heap H locs ∧ lv_has ls 7 [(6, .int (nI (i + 1))), (5, .int (nI cc1)), (4, .int (nI (min o0 h0))), (0, .ref (fad E 74)), (1, .ref (fad E g)), (2, .int (nI w0)), (3, .int (nI o0))] ∧ (i ≤ min o0 h0) ∧ (cc1 ≤ i) ∧ (cc1 = itF (fun i c => if wgM M g w0 (i + 1) + rowM M (w0 + 1) (o0 - (i + 1)) < wgM M g w0 c + rowM M (w0 + 1) (o0 - c) then i + 1 else c) 0 i)) (fun (a : Nat × Nat) => match a with | (i, cc1) => min o0 h0 - i) (pc0 := 25) (st := fun _ => []) ?_ (0, 0) _ _ _ ⟨hP, hS, lv_sub hl [0, 1, 2, 3, 4, 5, 6] rfl, (by omega), (by omega), rfl⟩
  rintro ⟨i, cc1⟩ H locs ls ⟨hP, hS, hl, ht, hcc, hbt⟩ ih_25
  refine lv_iload hx hb dX3_firstBest_25 (lv_at hl 0 rfl) ?_
  refine lv_iload hx hb dX3_firstBest_27 (lv_at hl 2 rfl) ?_
  refine lv_icmp_gt (tgt := 63) hx hb dX3_firstBest_29 (by decide) (fun c_29 => ?_) (fun c_29 => ?_)
  · have c_29 := (nI_lt_iff (a := (min o0 h0)) (b := (i + 1)) (by omega) (by omega)).mp c_29
    refine lv_iload hx hb dX3_firstBest_63 (lv_at hl 1 rfl) ?_
    refine f_ir X hlk hr (v := (nI cc1)) rfl hP hS ?_ dX3_firstBest_65
    refine ⟨rfl, ?_⟩; rw [hbt]; unfold fbM fbI; rw [hhn, show min o0 h0 = i from by omega]
  · have c_29 := (not_congr (nI_lt_iff (a := (min o0 h0)) (b := (i + 1)) (by omega) (by omega))).mp c_29
    refine lv_aload_n hx hb dX3_firstBest_32 rfl (lv_at hl 3 rfl) ?_
    refine lv_aload_n hx hb dX3_firstBest_33 rfl (lv_at hl 4 rfl) ?_
    refine lv_iload_n hx hb dX3_firstBest_34 rfl (lv_at hl 5 rfl) ?_
    refine lv_iload_n hx hb dX3_firstBest_35 rfl (lv_at hl 6 rfl) ?_
    refine lv_iload hx hb dX3_firstBest_36 (lv_at hl 0 rfl) ?_
    refine f_iV (n := 4) X hP hS [.ref (fad E g), .int (nI w0), .int (nI o0), .int (nI (i + 1))] [] (c_X3_payWith l E M L g (nI w0) (nI o0) (nI (i + 1)) w0 o0 (i + 1) hk_g rfl rfl hw0 ho0 rfl (by omega)) m_3_194 wi_X3_payWith rfl rfl (by decide) (by decide +kernel) ⟨Nat.le_of_ble_eq_true rfl, Nat.le_of_ble_eq_true rfl⟩ rfl hl rfl (Nat.le_of_ble_eq_true rfl) ⟨Nat.zero_le _, Nat.zero_le _⟩ dX3_firstBest_38 (fun H locs hP hS => ?_)
    refine lv_aload_n hx hb dX3_firstBest_41 rfl (lv_at hl 3 rfl) ?_
    refine lv_aload_n hx hb dX3_firstBest_42 rfl (lv_at hl 4 rfl) ?_
    refine lv_iload_n hx hb dX3_firstBest_43 rfl (lv_at hl 5 rfl) ?_
    refine lv_iload_n hx hb dX3_firstBest_44 rfl (lv_at hl 6 rfl) ?_
    refine lv_iload hx hb dX3_firstBest_45 (lv_at hl 1 rfl) ?_
    refine f_iV (n := 4) X hP hS [.ref (fad E g), .int (nI w0), .int (nI o0), .int (nI cc1)] [.int (wgM M g w0 (i + 1) + (M (76 + (w0 + 1)) (o0 - (i + 1))))] (c_X3_payWith l E M L g (nI w0) (nI o0) (nI cc1) w0 o0 cc1 hk_g rfl rfl hw0 ho0 rfl (by omega)) m_3_194 wi_X3_payWith rfl rfl (by decide) (by decide +kernel) ⟨Nat.le_of_ble_eq_true rfl, Nat.le_of_ble_eq_true rfl⟩ rfl hl rfl (Nat.le_of_ble_eq_true rfl) ⟨Nat.zero_le _, Nat.zero_le _⟩ dX3_firstBest_47 (fun H locs hP hS => ?_)
    refine lv_icmp_ge (tgt := 57) hx hb dX3_firstBest_50 (by decide) (fun c_50 => ?_) (fun c_50 => ?_)
    · refine lv_iinc (v := (nI (i + 1 + 1))) (lv' := [(6, .int (nI (i + 1 + 1))), (5, .int (nI cc1)), (4, .int (nI (min o0 h0))), (0, .ref (fad E 74)), (1, .ref (fad E g)), (2, .int (nI w0)), (3, .int (nI o0))]) hx hb dX3_firstBest_57 hl (k := 0) rfl (nI_1 _) (by decide) rfl (fun ls hl => ?_)
      refine lv_goto (tgt := 25) hx hb dX3_firstBest_60 (by decide) ?_
      exact ih_25 ((i + 1), cc1) _ _ _ (by show min o0 h0 - (i + 1) < min o0 h0 - i; omega) ⟨hP, hS, lv_sub hl [0, 1, 2, 3, 4, 5, 6] rfl, (by omega), (by omega), (by rw [itF_s, ← hbt]; first | exact (if_pos (Int32.not_le.mp c_50)).symm | exact (if_neg (Int32.not_lt.mpr c_50)).symm)⟩
    · refine lv_iload hx hb dX3_firstBest_53 (lv_at hl 0 rfl) ?_
      refine lv_istore (lv' := [(5, .int (nI (i + 1))), (6, .int (nI (i + 1))), (4, .int (nI (min o0 h0))), (0, .ref (fad E 74)), (1, .ref (fad E g)), (2, .int (nI w0)), (3, .int (nI o0))]) hx hb dX3_firstBest_55 hl (by decide) rfl (fun ls hl => ?_)
      refine lv_iinc (v := (nI (i + 1 + 1))) (lv' := [(6, .int (nI (i + 1 + 1))), (5, .int (nI (i + 1))), (4, .int (nI (min o0 h0))), (0, .ref (fad E 74)), (1, .ref (fad E g)), (2, .int (nI w0)), (3, .int (nI o0))]) hx hb dX3_firstBest_57 hl (k := 1) rfl (nI_1 _) (by decide) rfl (fun ls hl => ?_)
      refine lv_goto (tgt := 25) hx hb dX3_firstBest_60 (by decide) ?_
      exact ih_25 ((i + 1), (i + 1)) _ _ _ (by show min o0 h0 - (i + 1) < min o0 h0 - i; omega) ⟨hP, hS, lv_sub hl [0, 1, 2, 3, 4, 5, 6] rfl, (by omega), (by omega), (by rw [itF_s, ← hbt]; first | exact (if_pos (Int32.not_le.mp c_50)).symm | exact (if_neg (Int32.not_lt.mpr c_50)).symm)⟩

set_option maxHeartbeats 4000000 in
set_option maxRecDepth 100000 in
theorem c_X3_leastCost (l : Launch) (E : fE) (M : Nat → Nat → Int32) (L : Nat → Nat → Int64) (n : Nat) (hq : M 74 1 = nI n) (hn : n ≤ 24) : Met l yX3_leastCost (wl yX3_leastCost cX3_leastCost 2 (some .int)) (fRm 0 0) (va_Pc [.ref (fad E 74)] (fPre E M L)) (fQi E (fun r u => u = (M, L) ∧ r = (if (1000000 : Int32) ≤ (M 76 n) then -1 else (M 76 n)))) 0 0 (fA E) := by
  refine f_head (by decide) (Nat.le_of_ble_eq_true rfl) ?_
  intro pg ev s mi below meth cd ls X hr hlk hP hS hl
  have hx := X.1.1
  have hb := X.1.2.1
  have hl : lv_has ls 2 [(0, .ref (fad E 74))] := hl
  refine lv_aload_n hx hb dX3_leastCost_0 rfl (lv_at hl 0 rfl) ?_
  refine f_get X hP (T := TX3) (ci := 3) (k := 74) rfl inX3 rfl 0 (by decide) m_1_190 rfl (v := .ref (fad E 75)) rfl dX3_leastCost_1 ?_
  refine lv_iconst (v := 0) hx hb dX3_leastCost_4 (by decide) ?_
  refine f_aald X hP (t := 14) (d := 1) (n := 7) (r := 0) rfl rfl (.inr (.inr (.inr ⟨rfl, rfl⟩))) ⟨by decide, rfl, by decide⟩ 76 (by omega) dX3_leastCost_5 ?_
  refine lv_aload_n hx hb dX3_leastCost_6 rfl (lv_at hl 0 rfl) ?_
  refine f_get X hP (T := TX3) (ci := 3) (k := 74) rfl inX3 rfl 1 (by decide) m_1_191 rfl (v := .int (nI n)) (congrArg Value.int hq) dX3_leastCost_7 ?_
  refine f_iald X hP (k := 76) (n := 25) (q := n) rfl rfl (fIx_nI (by omega) (by decide)) dX3_leastCost_10 ?_
  refine lv_istore_n (lv' := [(1, .int (M 76 n)), (0, .ref (fad E 74))]) hx hb dX3_leastCost_11 rfl hl (by decide) rfl (fun ls hl => ?_)
  refine lv_iload_n hx hb dX3_leastCost_12 rfl (lv_at hl 0 rfl) ?_
  refine lv_ldc (v := 1000000) hx hb X.1.2.2.2.1 (X.ht m_3_188) dX3_leastCost_13 ?_
  refine lv_icmp_ge (tgt := 22) hx hb dX3_leastCost_15 (by decide) (fun c_15 => ?_) (fun c_15 => ?_)
  · refine lv_iconst (v := (-1)) hx hb dX3_leastCost_22 (by decide) ?_
    refine f_ir X hlk hr (v := (-1)) rfl hP hS ?_ dX3_leastCost_23
    refine ⟨rfl, ?_⟩; first | exact (if_pos c_15).symm | exact (if_neg c_15).symm
  · refine lv_iload_n hx hb dX3_leastCost_18 rfl (lv_at hl 0 rfl) ?_
    refine lv_goto (tgt := 23) hx hb dX3_leastCost_19 (by decide) ?_
    refine f_ir X hlk hr (v := (M 76 n)) rfl hP hS ?_ dX3_leastCost_23
    refine ⟨rfl, ?_⟩; first | exact (if_pos c_15).symm | exact (if_neg c_15).symm

set_option maxHeartbeats 4000000 in
set_option maxRecDepth 100000 in
theorem c_X3_shareOf (l : Launch) (E : fE) (M : Nat → Nat → Int32) (L : Nat → Nat → Int64) (g : Nat) (who : Int32) (n i0 wc : Nat) (hk_g : fsh g = 1) (hq : M 74 1 = nI n) (hn : n ≤ 24) (ei : who = nI i0) (hi : i0 < wc) (hwc : M g 4 = nI wc) (hwc6 : wc ≤ 6) (hWs : ∀ w, w < 6 → okW M (g + 12 + w)) (hH : 0 ≤ M g 5 ∧ M g 5 ≤ 9) : Met l yX3_shareOf (wl yX3_shareOf cX3_shareOf 6 (some .int)) (fRm 4 93) (va_Pc [.ref (fad E 74), .ref (fad E g), .int who] (fPre E M L)) (fQi E (fun r u => u = (M, L) ∧ r = (if (if (1000000 : Int32) ≤ (M 76 n) then -1 else (M 76 n)) = -1 then -1 else nI (shI (fbM M g) n (i0 + 1)).2))) 0 0 (fA E) := by
  refine f_head (by decide) (Nat.le_of_ble_eq_true rfl) ?_
  intro pg ev s mi below meth cd ls X hr hlk hP hS hl
  have hx := X.1.1
  have hb := X.1.2.1
  have hl : lv_has ls 6 [(0, .ref (fad E 74)), (1, .ref (fad E g)), (2, .int who)] := hl
  subst ei
  have hl : lv_has ls 6 [(0, .ref (fad E 74)), (1, .ref (fad E g)), (2, .int (nI i0))] := hl
  refine lv_aload_n hx hb dX3_shareOf_0 rfl (lv_at hl 0 rfl) ?_
  refine f_iV (n := 0) X hP hS [] [] (c_X3_leastCost l E M L n hq hn) m_3_207 wi_X3_leastCost rfl rfl (by decide) (by decide +kernel) ⟨Nat.le_of_ble_eq_true rfl, Nat.le_of_ble_eq_true rfl⟩ rfl hl rfl (Nat.le_of_ble_eq_true rfl) ⟨Nat.zero_le _, Nat.zero_le _⟩ dX3_shareOf_1 (fun H locs hP hS => ?_)
  refine lv_iconst (v := (-1)) hx hb dX3_shareOf_4 (by decide) ?_
  refine lv_icmp_ne (tgt := 10) hx hb dX3_shareOf_5 (by decide) (fun c_5 => ?_) (fun c_5 => ?_)
  · refine lv_aload_n hx hb dX3_shareOf_10 rfl (lv_at hl 0 rfl) ?_
    refine f_get X hP (T := TX3) (ci := 3) (k := 74) rfl inX3 rfl 1 (by decide) m_1_191 rfl (v := .int (nI n)) (congrArg Value.int hq) dX3_shareOf_11 ?_
    refine lv_istore_n (lv' := [(3, .int (nI n)), (0, .ref (fad E 74)), (1, .ref (fad E g)), (2, .int (nI i0))]) hx hb dX3_shareOf_14 rfl hl (by decide) rfl (fun ls hl => ?_)
    refine lv_iconst (v := 0) hx hb dX3_shareOf_15 (by decide) ?_
    refine lv_istore (lv' := [(4, .int 0), (3, .int (nI n)), (0, .ref (fad E 74)), (1, .ref (fad E g)), (2, .int (nI i0))]) hx hb dX3_shareOf_16 hl (by decide) rfl (fun ls hl => ?_)
    refine lv_iconst (v := 0) hx hb dX3_shareOf_18 (by decide) ?_
    refine lv_istore (lv' := [(5, .int 0), (4, .int 0), (3, .int (nI n)), (0, .ref (fad E 74)), (1, .ref (fad E g)), (2, .int (nI i0))]) hx hb dX3_shareOf_19 hl (by decide) rfl (fun ls hl => ?_)
    refine f_loop (α := Nat × Nat × Nat) (fun (a : Nat × Nat × Nat) H locs ls => match a with | (w, o1, s1) => fP E M L H ∧ va_S (fA E) s.heap H locs ∧ lv_has ls 6 [(5, .int (nI w)), (4, .int (nI s1)), (3, .int (nI o1)), (0, .ref (fad E 74)), (1, .ref (fad E g)), (2, .int (nI i0))] ∧ (w ≤ i0 + 1) ∧ (o1 ≤ n) ∧ ((o1, s1) = shI (fbM M g) n w)) (fun (a : Nat × Nat × Nat) => match a with | (w, o1, s1) => i0 + 1 - w) (pc0 := 21) (st := fun _ => []) ?_ (0, n, 0) _ _ _ ⟨hP, hS, lv_sub hl [0, 1, 2, 3, 4, 5] rfl, (by omega), (by omega), rfl⟩
    rintro ⟨w, o1, s1⟩ H locs ls ⟨hP, hS, hl, ht, ho1, hbt⟩ ih_21
    refine lv_iload hx hb dX3_shareOf_21 (lv_at hl 0 rfl) ?_
    refine lv_iload_n hx hb dX3_shareOf_23 rfl (lv_at hl 5 rfl) ?_
    refine lv_icmp_gt (tgt := 57) hx hb dX3_shareOf_24 (by decide) (fun c_24 => ?_) (fun c_24 => ?_)
    · have c_24 := (nI_lt_iff (a := i0) (b := w) (by omega) (by omega)).mp c_24
      refine lv_iload hx hb dX3_shareOf_57 (lv_at hl 1 rfl) ?_
      refine f_ir X hlk hr (v := (nI s1)) rfl hP hS ?_ dX3_shareOf_59
      refine ⟨rfl, ?_⟩; rw [if_neg c_5]; rw [show w = i0 + 1 from by omega] at hbt; rw [← hbt]
    · have c_24 := (not_congr (nI_lt_iff (a := i0) (b := w) (by omega) (by omega))).mp c_24
      refine lv_iload hx hb dX3_shareOf_27 (lv_at hl 0 rfl) ?_
      refine lv_aload_n hx hb dX3_shareOf_29 rfl (lv_at hl 4 rfl) ?_
      refine f_get X hP (T := TX1) (ci := 1) (k := g) hk_g inX1 rfl 4 (by decide) m_1_117 rfl (v := .int (nI wc)) (congrArg Value.int hwc) dX3_shareOf_30 ?_
      refine lv_icmp_ge (tgt := 57) hx hb dX3_shareOf_33 (by decide) (fun c_33 => ?_) (fun c_33 => ?_)
      · have c_33 := (nI_le_iff (a := wc) (b := w) (by omega) (by omega)).mp c_33
        exfalso; omega
        skip
      · have c_33 := (not_congr (nI_le_iff (a := wc) (b := w) (by omega) (by omega))).mp c_33
        refine lv_aload_n hx hb dX3_shareOf_36 rfl (lv_at hl 3 rfl) ?_
        refine lv_aload_n hx hb dX3_shareOf_37 rfl (lv_at hl 4 rfl) ?_
        refine lv_iload hx hb dX3_shareOf_38 (lv_at hl 0 rfl) ?_
        refine lv_iload_n hx hb dX3_shareOf_40 rfl (lv_at hl 2 rfl) ?_
        refine f_iV (n := 3) X hP hS [.ref (fad E g), .int (nI w), .int (nI o1)] [] (c_X3_firstBest l E M L g (nI w) (nI o1) w o1 hk_g rfl rfl (by omega) (by omega) (hWs w (by omega)) hH) m_3_189 wi_X3_firstBest rfl rfl (by decide) (by decide +kernel) ⟨Nat.le_of_ble_eq_true rfl, Nat.le_of_ble_eq_true rfl⟩ rfl hl rfl (Nat.le_of_ble_eq_true rfl) ⟨Nat.zero_le _, Nat.zero_le _⟩ dX3_shareOf_41 (fun H locs hP hS => ?_)
        refine lv_istore (lv' := [(4, .int (nI (fbM M g w o1))), (5, .int (nI w)), (3, .int (nI o1)), (0, .ref (fad E 74)), (1, .ref (fad E g)), (2, .int (nI i0))]) hx hb dX3_shareOf_44 hl (by decide) rfl (fun ls hl => ?_)
        refine lv_iload_n hx hb dX3_shareOf_46 rfl (lv_at hl 2 rfl) ?_
        refine lv_iload hx hb dX3_shareOf_47 (lv_at hl 0 rfl) ?_
        refine lv_isub hx hb dX3_shareOf_49 ?_
        refine f_topI (v := (nI (o1 - fbM M g w o1))) (nI_sub (fbM_le _ _ _ _)) ?_
        refine lv_istore_n (lv' := [(3, .int (nI (o1 - fbM M g w o1))), (4, .int (nI (fbM M g w o1))), (5, .int (nI w)), (0, .ref (fad E 74)), (1, .ref (fad E g)), (2, .int (nI i0))]) hx hb dX3_shareOf_50 rfl hl (by decide) rfl (fun ls hl => ?_)
        refine lv_iinc (v := (nI (w + 1))) (lv' := [(5, .int (nI (w + 1))), (3, .int (nI (o1 - fbM M g w o1))), (4, .int (nI (fbM M g w o1))), (0, .ref (fad E 74)), (1, .ref (fad E g)), (2, .int (nI i0))]) hx hb dX3_shareOf_51 hl (k := 2) rfl (nI_1 _) (by decide) rfl (fun ls hl => ?_)
        refine lv_goto (tgt := 21) hx hb dX3_shareOf_54 (by decide) ?_
        exact ih_21 ((w + 1), (o1 - fbM M g w o1), (fbM M g w o1)) _ _ _ (by show i0 + 1 - (w + 1) < i0 + 1 - w; omega) ⟨hP, hS, lv_sub hl [0, 2, 1, 3, 4, 5] rfl, (by omega), (by omega), (by show (_, _) = shI _ _ (_ + 1); unfold shI; rw [itF_s]; unfold shI at hbt; rw [← hbt])⟩
  · refine lv_iconst (v := (-1)) hx hb dX3_shareOf_8 (by decide) ?_
    refine f_ir X hlk hr (v := (-1)) rfl hP hS ?_ dX3_shareOf_9
    refine ⟨rfl, ?_⟩; rw [if_pos c_5]

set_option maxHeartbeats 4000000 in
set_option maxRecDepth 100000 in
theorem c_X3_layOut (l : Launch) (E : fE) (M : Nat → Nat → Int32) (L : Nat → Nat → Int64) (g : Nat) (q : Int32) (n wc : Nat) (hk_g : fsh g = 1) (eq1 : q = nI n) (hn : n ≤ 24) (hwc : M g 4 = nI wc) (hwc6 : wc ≤ 6) (hWs : ∀ w, w < 6 → okW M (g + 12 + w)) (hH : 0 ≤ M g 5 ∧ M g 5 ≤ 9) : Met l yX3_layOut (wl yX3_layOut cX3_layOut 5 none) (fRm 4 93) (va_Pc [.ref (fad E 74), .ref (fad E g), .int q] (fPre E M L)) (fQv E (fun u => u.2 = L ∧ frR M u.1 ∧ u.1 74 1 = nI n ∧ ∀ j, j ≤ wc → ∀ q, q ≤ n → u.1 (76 + (wc - j)) q = tabI (wgM M g) (hdM M g) wc j q)) 0 0 (fA E) := by
  refine f_head (by decide) (Nat.le_of_ble_eq_true rfl) ?_
  intro pg ev s mi below meth cd ls X hr hlk hP hS hl
  have hx := X.1.1
  have hb := X.1.2.1
  have hl : lv_has ls 5 [(0, .ref (fad E 74)), (1, .ref (fad E g)), (2, .int q)] := hl
  subst eq1
  have hl : lv_has ls 5 [(0, .ref (fad E 74)), (1, .ref (fad E g)), (2, .int (nI n))] := hl
  have hgd := fGd_of hk_g
  have emn := nI_mm (n := n) hn
  refine lv_aload_n hx hb dX3_layOut_0 rfl (lv_at hl 0 rfl) ?_
  refine lv_iconst (v := 0) hx hb dX3_layOut_1 (by decide) ?_
  refine lv_iload_n hx hb dX3_layOut_2 rfl (lv_at hl 2 rfl) ?_
  refine lv_bipush (v := 24) hx hb dX3_layOut_3 (by decide) ?_
  refine va_mmin hx hb (X.1.2.2.1.trans hl.1.symm) X.1.2.2.2.1 (X.ht m_3_186) (X.ht m_2_194) (X.ht m_1_11) (X.ht m_2_195) (Nat.le_of_ble_eq_true rfl) (Nat.le_of_ble_eq_true rfl) (Nat.zero_le _) (Nat.zero_le _) dX3_layOut_5 ?_
  refine va_mmax hx hb (X.1.2.2.1.trans hl.1.symm) X.1.2.2.2.1 (X.ht m_3_187) (X.ht m_2_191) (X.ht m_1_11) (X.ht m_2_192) (Nat.le_of_ble_eq_true rfl) (Nat.le_of_ble_eq_true rfl) (Nat.zero_le _) (Nat.zero_le _) dX3_layOut_8 ?_
  refine f_topI (v := (nI n)) emn ?_
  refine f_put X hP hS (T := TX3) (ci := 3) (k := 74) rfl inX3 rfl tyX3 tyX3_ok nmX3 1 (by decide) m_1_191 ⟨rfl, rfl⟩ rfl (v := (nI n)) rfl rfl dX3_layOut_11 (fun H locs hP hS => ?_)
  refine lv_iconst (v := 0) hx hb dX3_layOut_14 (by decide) ?_
  refine lv_istore_n (lv' := [(3, .int 0), (0, .ref (fad E 74)), (1, .ref (fad E g)), (2, .int (nI n))]) hx hb dX3_layOut_15 rfl hl (by decide) rfl (fun ls hl => ?_)
  refine f_loop (α := Nat × (Nat → Nat → Int32)) (fun (a : Nat × (Nat → Nat → Int32)) H locs ls => match a with | (o1, M1) => fP E M1 L H ∧ va_S (fA E) s.heap H locs ∧ lv_has ls 5 [(3, .int (nI o1)), (0, .ref (fad E 74)), (1, .ref (fad E g)), (2, .int (nI n))] ∧ (o1 ≤ 25) ∧ (frR M M1) ∧ (M1 74 1 = nI n) ∧ (∀ q, q < o1 → M1 (76 + wc) q = if q = 0 then 0 else 1000000)) (fun (a : Nat × (Nat → Nat → Int32)) => match a with | (o1, M1) => 25 - o1) (pc0 := 16) (st := fun _ => []) ?_ (0, (up2 M 74 1 (nI n))) _ _ _ ⟨hP, hS, lv_sub hl [0, 1, 2, 3] rfl, (by omega), (fun a j h1 h2 => up2_o _ _ (Or.inl h2)), (up2_s _ _ _ _), (fun q hq => absurd hq (by omega))⟩
  rintro ⟨o1, M1⟩ H locs ls ⟨hP, hS, hl, ht, hfr, hqq, hrow⟩ ih_16
  refine lv_iload_n hx hb dX3_layOut_16 rfl (lv_at hl 0 rfl) ?_
  refine lv_bipush (v := 24) hx hb dX3_layOut_17 (by decide) ?_
  refine lv_icmp_gt (tgt := 49) hx hb dX3_layOut_19 (by decide) (fun c_19 => ?_) (fun c_19 => ?_)
  · have c_19 := (nI_lt_iff (a := 24) (b := o1) (by omega) (by omega)).mp c_19
    refine lv_aload_n hx hb dX3_layOut_49 rfl (lv_at hl 2 rfl) ?_
    refine f_get X hP (T := TX1) (ci := 1) (k := g) hk_g inX1 rfl 4 (by decide) m_1_117 rfl (v := .int (nI wc)) (congrArg Value.int ((hfr _ _ (by unfold fGd at hgd; omega) (by unfold fGd at hgd; omega)).trans hwc)) dX3_layOut_50 ?_
    refine lv_iconst (v := 1) hx hb dX3_layOut_53 (by decide) ?_
    refine lv_isub hx hb dX3_layOut_54 ?_
    refine lv_istore_n (lv' := [(3, .int ((nI wc) - 1)), (0, .ref (fad E 74)), (1, .ref (fad E g)), (2, .int (nI n))]) hx hb dX3_layOut_55 rfl hl (by decide) rfl (fun ls hl => ?_)
    refine f_loop (α := Nat × (Nat → Nat → Int32)) (fun (a : Nat × (Nat → Nat → Int32)) H locs ls => match a with | (j, M1) => fP E M1 L H ∧ va_S (fA E) s.heap H locs ∧ lv_has ls 5 [(3, .int (nI (wc - j) - 1)), (0, .ref (fad E 74)), (1, .ref (fad E g)), (2, .int (nI n))] ∧ (j ≤ wc) ∧ (frR M M1) ∧ (M1 74 1 = nI n) ∧ (∀ i, i ≤ j → ∀ q, q ≤ n → M1 (76 + (wc - i)) q = tabI (wgM M g) (hdM M g) wc i q)) (fun (a : Nat × (Nat → Nat → Int32)) => match a with | (j, M1) => wc - j) (pc0 := 56) (st := fun _ => []) ?_ (0, M1) _ _ _ ⟨hP, hS, lv_sub hl [0, 1, 2, 3] rfl, (by omega), hfr, hqq, (tab_0 hrow (by omega))⟩
    rintro ⟨j, M1⟩ H locs ls ⟨hP, hS, hl, hj, hfr, hqq, htab⟩ ih_56
    refine lv_iload_n hx hb dX3_layOut_56 rfl (lv_at hl 0 rfl) ?_
    refine lv_if_lt (tgt := 109) hx hb dX3_layOut_57 (by decide) (fun c_57 => ?_) (fun c_57 => ?_)
    · refine f_vr X hlk hr hP hS ?_ dX3_layOut_109
      skip
      exact ⟨rfl, hfr, hqq, by rw [show wc = j from jeq c_57] at htab ⊢; exact htab⟩
    · have hjw := jlt hj hwc6 c_57
      have hl : lv_has ls 5 [(3, .int (nI (wc - (j + 1)))), (0, .ref (fad E 74)), (1, .ref (fad E g)), (2, .int (nI n))] := by rw [← jsub hjw]; exact hl
      refine lv_iconst (v := 0) hx hb dX3_layOut_60 (by decide) ?_
      refine lv_istore (lv' := [(4, .int 0), (3, .int (nI (wc - (j + 1)))), (0, .ref (fad E 74)), (1, .ref (fad E g)), (2, .int (nI n))]) hx hb dX3_layOut_61 hl (by decide) rfl (fun ls hl => ?_)
      refine f_loop (α := Nat × (Nat → Nat → Int32)) (fun (a : Nat × (Nat → Nat → Int32)) H locs ls => match a with | (o2, M2) => fP E M2 L H ∧ va_S (fA E) s.heap H locs ∧ lv_has ls 5 [(4, .int (nI o2)), (3, .int (nI (wc - (j + 1)))), (0, .ref (fad E 74)), (1, .ref (fad E g)), (2, .int (nI n))] ∧ (o2 ≤ n + 1) ∧ (frR M M2) ∧ (M2 74 1 = nI n) ∧ (∀ i, i ≤ j → ∀ q, q ≤ n → M2 (76 + (wc - i)) q = tabI (wgM M g) (hdM M g) wc i q) ∧ (∀ q, q < o2 → M2 (76 + (wc - (j + 1))) q = tabI (wgM M g) (hdM M g) wc (j + 1) q)) (fun (a : Nat × (Nat → Nat → Int32)) => match a with | (o2, M2) => n + 1 - o2) (pc0 := 63) (st := fun _ => []) ?_ (0, M1) _ _ _ ⟨hP, hS, lv_sub hl [0, 1, 2, 3, 4] rfl, (by omega), hfr, hqq, htab, (fun q hq => absurd hq (by omega))⟩
      rintro ⟨o2, M2⟩ H locs ls ⟨hP, hS, hl, ho2, hfr, hqq, hold, hnew⟩ ih_63
      refine lv_iload hx hb dX3_layOut_63 (lv_at hl 0 rfl) ?_
      refine lv_aload_n hx hb dX3_layOut_65 rfl (lv_at hl 2 rfl) ?_
      refine f_get X hP (T := TX3) (ci := 3) (k := 74) rfl inX3 rfl 1 (by decide) m_1_191 rfl (v := .int (nI n)) (congrArg Value.int hqq) dX3_layOut_66 ?_
      refine lv_icmp_gt (tgt := 103) hx hb dX3_layOut_69 (by decide) (fun c_69 => ?_) (fun c_69 => ?_)
      · have c_69 := (nI_lt_iff (a := n) (b := o2) (by omega) (by omega)).mp c_69
        refine lv_iinc (v := ((nI (wc - (j + 1))) + (-1))) (lv' := [(3, .int ((nI (wc - (j + 1))) + (-1))), (4, .int (nI o2)), (0, .ref (fad E 74)), (1, .ref (fad E g)), (2, .int (nI n))]) hx hb dX3_layOut_103 hl (k := 1) rfl rfl (by decide) rfl (fun ls hl => ?_)
        refine lv_goto (tgt := 56) hx hb dX3_layOut_106 (by decide) ?_
        have hl : lv_has ls 5 [(3, .int (nI (wc - (j + 1)) - 1)), (4, .int (nI o2)), (0, .ref (fad E 74)), (1, .ref (fad E g)), (2, .int (nI n))] := by rw [Int32.sub_eq_add_neg]; exact hl
        exact ih_56 ((j + 1), M2) _ _ _ (by show wc - (j + 1) < wc - j; omega) ⟨hP, hS, lv_sub hl [0, 2, 3, 4] rfl, (by omega), hfr, hqq, (tab_s hold hnew (by omega))⟩
      · have c_69 := (not_congr (nI_lt_iff (a := n) (b := o2) (by omega) (by omega))).mp c_69
        refine lv_aload_n hx hb dX3_layOut_72 rfl (lv_at hl 2 rfl) ?_
        refine f_get X hP (T := TX3) (ci := 3) (k := 74) rfl inX3 rfl 0 (by decide) m_1_190 rfl (v := .ref (fad E 75)) rfl dX3_layOut_73 ?_
        refine lv_iload_n hx hb dX3_layOut_76 rfl (lv_at hl 1 rfl) ?_
        refine f_aald X hP (t := 14) (d := 1) (n := 7) (r := (wc - (j + 1))) rfl rfl (.inr (.inr (.inr ⟨rfl, rfl⟩))) (fIx_nI (by omega) (by decide)) (76 + (wc - (j + 1))) (by omega) dX3_layOut_77 ?_
        refine lv_iload hx hb dX3_layOut_78 (lv_at hl 0 rfl) ?_
        refine lv_aload_n hx hb dX3_layOut_80 rfl (lv_at hl 2 rfl) ?_
        refine lv_aload_n hx hb dX3_layOut_81 rfl (lv_at hl 3 rfl) ?_
        refine lv_iload_n hx hb dX3_layOut_82 rfl (lv_at hl 1 rfl) ?_
        refine lv_iload hx hb dX3_layOut_83 (lv_at hl 0 rfl) ?_
        refine lv_aload_n hx hb dX3_layOut_85 rfl (lv_at hl 2 rfl) ?_
        refine lv_aload_n hx hb dX3_layOut_86 rfl (lv_at hl 3 rfl) ?_
        refine lv_iload_n hx hb dX3_layOut_87 rfl (lv_at hl 1 rfl) ?_
        refine lv_iload hx hb dX3_layOut_88 (lv_at hl 0 rfl) ?_
        refine f_iV (n := 3) X hP hS [.ref (fad E g), .int (nI (wc - (j + 1))), .int (nI o2)] [.int (nI o2), .int (nI (wc - (j + 1))), .ref (fad E g), .ref (fad E 74), .int (nI o2), .ref (fad E (76 + (wc - (j + 1))))] (c_X3_firstBest l E M2 L g (nI (wc - (j + 1))) (nI o2) (wc - (j + 1)) o2 hk_g rfl rfl (by omega) (by omega) (okW_fr hfr hgd (by omega) (hWs _ (by omega))) (hH_fr hfr hgd hH)) m_3_189 wi_X3_firstBest rfl rfl (by decide) (by decide +kernel) ⟨Nat.le_of_ble_eq_true rfl, Nat.le_of_ble_eq_true rfl⟩ rfl hl rfl (Nat.le_of_ble_eq_true rfl) ⟨Nat.zero_le _, Nat.zero_le _⟩ dX3_layOut_90 (fun H locs hP hS => ?_)
        refine f_iV (n := 4) X hP hS [.ref (fad E g), .int (nI (wc - (j + 1))), .int (nI o2), .int (nI (fbM M2 g (wc - (j + 1)) o2))] [.int (nI o2), .ref (fad E (76 + (wc - (j + 1))))] (c_X3_payWith l E M2 L g (nI (wc - (j + 1))) (nI o2) (nI (fbM M2 g (wc - (j + 1)) o2)) (wc - (j + 1)) o2 (fbM M2 g (wc - (j + 1)) o2) hk_g rfl rfl (by omega) (by omega) rfl (fbM_le _ _ _ _)) m_3_194 wi_X3_payWith rfl rfl (by decide) (by decide +kernel) ⟨Nat.le_of_ble_eq_true rfl, Nat.le_of_ble_eq_true rfl⟩ rfl hl rfl (Nat.le_of_ble_eq_true rfl) ⟨Nat.zero_le _, Nat.zero_le _⟩ dX3_layOut_93 (fun H locs hP hS => ?_)
        have hv9 : wgM M2 g (wc - (j + 1)) (fbM M2 g (wc - (j + 1)) o2) + M2 (76 + (wc - (j + 1) + 1)) (o2 - fbM M2 g (wc - (j + 1)) o2) = tabI (wgM M g) (hdM M g) wc (j + 1) o2 := lay_v hfr hgd (by omega) (by omega) (hold j (Nat.le_refl _))
        refine f_iast X hP hS (k := (76 + (wc - (j + 1)))) (n := 25) (q := o2) (sh_row (by omega)) (ln_row (by omega)) (v := (wgM M2 g (wc - (j + 1)) (fbM M2 g (wc - (j + 1)) o2) + (M2 (76 + ((wc - (j + 1)) + 1)) (o2 - (fbM M2 g (wc - (j + 1)) o2))))) (fIx_nI (by omega) (by decide)) dX3_layOut_96 (fun H locs hP hS => ?_)
        refine lv_iinc (v := (nI (o2 + 1))) (lv' := [(4, .int (nI (o2 + 1))), (3, .int (nI (wc - (j + 1)))), (0, .ref (fad E 74)), (1, .ref (fad E g)), (2, .int (nI n))]) hx hb dX3_layOut_97 hl (k := 0) rfl (nI_1 _) (by decide) rfl (fun ls hl => ?_)
        refine lv_goto (tgt := 63) hx hb dX3_layOut_100 (by decide) ?_
        exact ih_63 ((o2 + 1), (up2 M2 (76 + (wc - (j + 1))) o2 (wgM M2 g (wc - (j + 1)) (fbM M2 g (wc - (j + 1)) o2) + (M2 (76 + ((wc - (j + 1)) + 1)) (o2 - (fbM M2 g (wc - (j + 1)) o2)))))) _ _ _ (by show n + 1 - (o2 + 1) < n + 1 - o2; omega) ⟨hP, hS, lv_sub hl [0, 1, 2, 3, 4] rfl, (by omega), (hfr.up (by omega)), ((up2_o _ _ (Or.inl (by omega))).trans hqq), (fun i hi q hq => (up2_o _ _ (Or.inl (by omega))).trans (hold i hi q hq)), (row_s2 hnew hv9)⟩
  · have c_19 := (not_congr (nI_lt_iff (a := 24) (b := o1) (by omega) (by omega))).mp c_19
    refine lv_aload_n hx hb dX3_layOut_22 rfl (lv_at hl 1 rfl) ?_
    refine f_get X hP (T := TX3) (ci := 3) (k := 74) rfl inX3 rfl 0 (by decide) m_1_190 rfl (v := .ref (fad E 75)) rfl dX3_layOut_23 ?_
    refine lv_aload_n hx hb dX3_layOut_26 rfl (lv_at hl 2 rfl) ?_
    refine f_get X hP (T := TX1) (ci := 1) (k := g) hk_g inX1 rfl 4 (by decide) m_1_117 rfl (v := .int (nI wc)) (congrArg Value.int ((hfr _ _ (by unfold fGd at hgd; omega) (by unfold fGd at hgd; omega)).trans hwc)) dX3_layOut_27 ?_
    refine f_aald X hP (t := 14) (d := 1) (n := 7) (r := wc) rfl rfl (.inr (.inr (.inr ⟨rfl, rfl⟩))) (fIx_nI (by omega) (by decide)) (76 + wc) (by omega) dX3_layOut_30 ?_
    refine lv_iload_n hx hb dX3_layOut_31 rfl (lv_at hl 0 rfl) ?_
    refine lv_iload_n hx hb dX3_layOut_32 rfl (lv_at hl 0 rfl) ?_
    refine lv_if_ne (tgt := 40) hx hb dX3_layOut_33 (by decide) (fun c_33 => ?_) (fun c_33 => ?_)
    · have c_33 := (not_congr (nI_eq (a := o1) (b := 0) (by omega) (by omega))).mp c_33
      refine lv_ldc (v := 1000000) hx hb X.1.2.2.2.1 (X.ht m_3_188) dX3_layOut_40 ?_
      refine f_iast X hP hS (k := (76 + wc)) (n := 25) (q := o1) (sh_row (by omega)) (ln_row (by omega)) (v := 1000000) (fIx_nI (by omega) (by decide)) dX3_layOut_42 (fun H locs hP hS => ?_)
      refine lv_iinc (v := (nI (o1 + 1))) (lv' := [(3, .int (nI (o1 + 1))), (0, .ref (fad E 74)), (1, .ref (fad E g)), (2, .int (nI n))]) hx hb dX3_layOut_43 hl (k := 0) rfl (nI_1 _) (by decide) rfl (fun ls hl => ?_)
      refine lv_goto (tgt := 16) hx hb dX3_layOut_46 (by decide) ?_
      exact ih_16 ((o1 + 1), (up2 M1 (76 + wc) o1 1000000)) _ _ _ (by show 25 - (o1 + 1) < 25 - o1; omega) ⟨hP, hS, lv_sub hl [0, 1, 2, 3] rfl, (by omega), (hfr.up (by omega)), ((up2_o _ _ (Or.inl (by omega))).trans hqq), (row_s hrow (by first | exact (if_pos c_33).symm | exact (if_neg c_33).symm))⟩
    · have c_33 := (nI_eq (a := o1) (b := 0) (by omega) (by omega)).mp c_33
      refine lv_iconst (v := 0) hx hb dX3_layOut_36 (by decide) ?_
      refine lv_goto (tgt := 42) hx hb dX3_layOut_37 (by decide) ?_
      refine f_iast X hP hS (k := (76 + wc)) (n := 25) (q := o1) (sh_row (by omega)) (ln_row (by omega)) (v := 0) (fIx_nI (by omega) (by decide)) dX3_layOut_42 (fun H locs hP hS => ?_)
      refine lv_iinc (v := (nI (o1 + 1))) (lv' := [(3, .int (nI (o1 + 1))), (0, .ref (fad E 74)), (1, .ref (fad E g)), (2, .int (nI n))]) hx hb dX3_layOut_43 hl (k := 0) rfl (nI_1 _) (by decide) rfl (fun ls hl => ?_)
      refine lv_goto (tgt := 16) hx hb dX3_layOut_46 (by decide) ?_
      exact ih_16 ((o1 + 1), (up2 M1 (76 + wc) o1 0)) _ _ _ (by show 25 - (o1 + 1) < 25 - o1; omega) ⟨hP, hS, lv_sub hl [0, 1, 2, 3] rfl, (by omega), (hfr.up (by omega)), ((up2_o _ _ (Or.inl (by omega))).trans hqq), (row_s hrow (by first | exact (if_pos c_33).symm | exact (if_neg c_33).symm))⟩
