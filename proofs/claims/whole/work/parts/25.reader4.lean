set_option maxHeartbeats 4000000 in
set_option maxRecDepth 100000 in
theorem c_X2_readItem (l : Launch) (E : fE) (M : Nat → Nat → Int32) (L : Nat → Nat → Int64) (p sz : Nat) (f : Int32) (hsz : M 72 3 = nI sz) (hs1 : sz ≤ 160) (hp : p ≤ sz) (hcn : cntN M) : Met l yX2_readItem (wl yX2_readItem cX2_readItem 1 none) (fRm 7 157) (va_Pc [.ref (fad E 72)] (fPre E (pM M p f) L)) (fQv E (fun u => u = ((pM (itemF M sz (p, f)).1 (itemF M sz (p, f)).2.1 (itemF M sz (p, f)).2.2), L))) 0 0 (fA E) := by
  refine f_head (by decide) (Nat.le_of_ble_eq_true rfl) ?_
  intro pg ev s mi below meth cd ls X hr hlk hP hS hl
  have hx := X.1.1
  have hb := X.1.2.1
  have hl : lv_has ls 1 [(0, .ref (fad E 72))] := hl
  refine lv_aload_n hx hb dX2_readItem_0 rfl (lv_at hl 0 rfl) ?_
  refine f_get X hP (T := TX2) (ci := 2) (k := 72) rfl inX2 rfl 5 (by decide) m_1_168 rfl (v := .int f) (congrArg Value.int (pM_5 _ _ _)) dX2_readItem_1 ?_
  refine lv_iconst (v := (-1)) hx hb dX2_readItem_4 (by decide) ?_
  refine lv_icmp_eq (tgt := 9) hx hb dX2_readItem_5 (by decide) (fun c_5 => ?_) (fun c_5 => ?_)
  · subst c_5
    refine lv_aload_n hx hb dX2_readItem_9 rfl (lv_at hl 0 rfl) ?_
    refine lv_dup hx hb dX2_readItem_10 rfl ?_
    refine f_get X hP (T := TX2) (ci := 2) (k := 72) rfl inX2 rfl 1 (by decide) m_1_163 rfl (v := .int (M 72 1)) (congrArg Value.int (pM_o _ _ _ (Or.inr (by decide)))) dX2_readItem_11 ?_
    refine lv_iconst (v := 1) hx hb dX2_readItem_14 (by decide) ?_
    refine lv_iadd hx hb dX2_readItem_15 ?_
    refine f_put X hP hS (T := TX2) (ci := 2) (k := 72) rfl inX2 rfl tyX2 tyX2_ok nmX2 1 (by decide) m_1_163 ⟨rfl, rfl⟩ rfl (v := ((M 72 1) + 1)) rfl rfl dX2_readItem_16 (fun H locs hP hS => ?_)
    have hP := fP_eq (pM_wo _ _ _ _ (Or.inr (by decide))) hP
    refine lv_aload_n hx hb dX2_readItem_19 rfl (lv_at hl 0 rfl) ?_
    refine f_iV (n := 0) X hP hS [] [] (c_X2_letter l E (up2 M 72 1 ((M 72 1) + 1)) L p sz (-1) ((up2_o _ _ (Or.inr (by decide))).trans hsz) hs1 hp) m_3_5 wi_X2_letter rfl rfl (by decide) (by decide +kernel) ⟨Nat.le_of_ble_eq_true rfl, Nat.le_of_ble_eq_true rfl⟩ rfl hl rfl (Nat.le_of_ble_eq_true rfl) ⟨Nat.zero_le _, Nat.zero_le _⟩ dX2_readItem_20 (fun H locs hP hS => ?_)
    refine f_topI (v := (letF (M 73) sz p)) rfl ?_
    by_cases s_23_104 : (letF (M 73) sz p) = 104
    · refine lv_lookup (off := 62) (tgt := 85) hx hb dX2_readItem_23 (by decide) (by rw [s_23_104] <;> rfl) (by decide) ?_
      refine lv_aload_n hx hb dX2_readItem_85 rfl (lv_at hl 0 rfl) ?_
      refine f_vV (n := 0) X hP hS [] [] (c_X2_readHope l E (up2 M 72 1 ((M 72 1) + 1)) L p sz (-1) ((up2_o _ _ (Or.inr (by decide))).trans hsz) hs1 hp (cntN_up hcn (by omega))) m_3_102 wi_X2_readHope rfl rfl (by decide) (by decide +kernel) ⟨Nat.le_of_ble_eq_true rfl, Nat.le_of_ble_eq_true rfl⟩ rfl hl rfl (Nat.le_of_ble_eq_true rfl) ⟨Nat.zero_le _, Nat.zero_le _⟩ dX2_readItem_86 (fun H locs hP hS => ?_)
      refine lv_goto (tgt := 101) hx hb dX2_readItem_89 (by decide) ?_
      refine f_vr X hlk hr hP hS ?_ dX2_readItem_101
      show _ = _
      rw [itemF_h s_23_104]
    by_cases s_23_109 : (letF (M 73) sz p) = 109
    · refine lv_lookup (off := 55) (tgt := 78) hx hb dX2_readItem_23 (by decide) (by rw [s_23_109] <;> rfl) (by decide) ?_
      refine lv_aload_n hx hb dX2_readItem_78 rfl (lv_at hl 0 rfl) ?_
      refine f_vV (n := 0) X hP hS [] [] (c_X2_readMoves l E (up2 M 72 1 ((M 72 1) + 1)) L p sz (-1) ((up2_o _ _ (Or.inr (by decide))).trans hsz) hs1 hp (cntN_up hcn (by omega))) m_3_96 wi_X2_readMoves rfl rfl (by decide) (by decide +kernel) ⟨Nat.le_of_ble_eq_true rfl, Nat.le_of_ble_eq_true rfl⟩ rfl hl rfl (Nat.le_of_ble_eq_true rfl) ⟨Nat.zero_le _, Nat.zero_le _⟩ dX2_readItem_79 (fun H locs hP hS => ?_)
      refine lv_goto (tgt := 101) hx hb dX2_readItem_82 (by decide) ?_
      refine f_vr X hlk hr hP hS ?_ dX2_readItem_101
      show _ = _
      rw [itemF_m s_23_104 s_23_109]
    by_cases s_23_116 : (letF (M 73) sz p) = 116
    · refine lv_lookup (off := 41) (tgt := 64) hx hb dX2_readItem_23 (by decide) (by rw [s_23_116] <;> rfl) (by decide) ?_
      refine lv_aload_n hx hb dX2_readItem_64 rfl (lv_at hl 0 rfl) ?_
      refine f_vV (n := 0) X hP hS [] [] (c_X2_readThing l E (up2 M 72 1 ((M 72 1) + 1)) L p sz (-1) ((up2_o _ _ (Or.inr (by decide))).trans hsz) hs1 hp (cntN_up hcn (by omega))) m_3_9 wi_X2_readThing rfl rfl (by decide) (by decide +kernel) ⟨Nat.le_of_ble_eq_true rfl, Nat.le_of_ble_eq_true rfl⟩ rfl hl rfl (Nat.le_of_ble_eq_true rfl) ⟨Nat.zero_le _, Nat.zero_le _⟩ dX2_readItem_65 (fun H locs hP hS => ?_)
      refine lv_goto (tgt := 101) hx hb dX2_readItem_68 (by decide) ?_
      refine f_vr X hlk hr hP hS ?_ dX2_readItem_101
      show _ = _
      rw [itemF_t s_23_104 s_23_109 s_23_116]
    by_cases s_23_119 : (letF (M 73) sz p) = 119
    · refine lv_lookup (off := 48) (tgt := 71) hx hb dX2_readItem_23 (by decide) (by rw [s_23_119] <;> rfl) (by decide) ?_
      refine lv_aload_n hx hb dX2_readItem_71 rfl (lv_at hl 0 rfl) ?_
      refine f_vV (n := 0) X hP hS [] [] (c_X2_readWaiter l E (up2 M 72 1 ((M 72 1) + 1)) L p sz (-1) ((up2_o _ _ (Or.inr (by decide))).trans hsz) hs1 hp (cntN_up hcn (by omega))) m_3_89 wi_X2_readWaiter rfl rfl (by decide) (by decide +kernel) ⟨Nat.le_of_ble_eq_true rfl, Nat.le_of_ble_eq_true rfl⟩ rfl hl rfl (Nat.le_of_ble_eq_true rfl) ⟨Nat.zero_le _, Nat.zero_le _⟩ dX2_readItem_72 (fun H locs hP hS => ?_)
      refine lv_goto (tgt := 101) hx hb dX2_readItem_75 (by decide) ?_
      refine f_vr X hlk hr hP hS ?_ dX2_readItem_101
      show _ = _
      rw [itemF_w s_23_104 s_23_109 s_23_116 s_23_119]
    refine lv_lookup (off := 69) (tgt := 92) hx hb dX2_readItem_23 (by decide) ((lv_osw (a := 104) s_23_104 rfl).trans ((lv_osw (a := 109) s_23_109 rfl).trans ((lv_osw (a := 116) s_23_116 rfl).trans ((lv_osw (a := 119) s_23_119 rfl).trans rfl)))) (by decide) ?_
    refine lv_aload_n hx hb dX2_readItem_92 rfl (lv_at hl 0 rfl) ?_
    refine lv_aload_n hx hb dX2_readItem_93 rfl (lv_at hl 0 rfl) ?_
    refine f_get X hP (T := TX2) (ci := 2) (k := 72) rfl inX2 rfl 4 (by decide) m_1_167 rfl (v := .int (nI p)) (congrArg Value.int (pM_4 _ _ _)) dX2_readItem_94 ?_
    refine f_iV (n := 1) X hP hS [.int (nI p)] [] (c_X2_failAt l E (up2 M 72 1 ((M 72 1) + 1)) L (nI p) p (-1)) m_3_71 wi_X2_failAt rfl rfl (by decide) (by decide +kernel) ⟨Nat.le_of_ble_eq_true rfl, Nat.le_of_ble_eq_true rfl⟩ rfl hl rfl (Nat.le_of_ble_eq_true rfl) ⟨Nat.zero_le _, Nat.zero_le _⟩ dX2_readItem_97 (fun H locs hP hS => ?_)
    refine lv_pop hx hb dX2_readItem_100 rfl ?_
    refine f_vr X hlk hr hP hS ?_ dX2_readItem_101
    show _ = _
    rw [itemF_d s_23_104 s_23_109 s_23_116 s_23_119]
  · refine f_vr X hlk hr hP hS ?_ dX2_readItem_8
    show _ = _
    rw [itemF_no c_5]

set_option maxHeartbeats 4000000 in
set_option maxRecDepth 100000 in
theorem c_X2_readFault (l : Launch) (E : fE) (M : Nat → Nat → Int32) (L : Nat → Nat → Int64) (k : Nat) (g : Nat) (sz tc wc : Nat) (hk_k : fsh k = 4) (hk_g : fsh g = 1) (hks : M k 2 = nI sz) (hs1 : sz ≤ 160) (hg5 : g ≠ 54) (htc : M g 3 = nI tc) (htc8 : tc ≤ 8) (hwc : M g 4 = nI wc) (hwc6 : wc ≤ 6) : Met l yX2_readFault (wl yX2_readFault cX2_readFault 4 (some .int)) (fRm 8 177) (va_Pc [.ref (fad E 72), .ref (fad E k), .ref (fad E g)] (fPre E M L)) (fQi E (fun r u => u = ((pM (restF sz 160 (itemF (ldM M L g k sz sz) sz (0, -1))).1 (restF sz 160 (itemF (ldM M L g k sz sz) sz (0, -1))).2.1 (restF sz 160 (itemF (ldM M L g k sz sz) sz (0, -1))).2.2), L) ∧ r = (restF sz 160 (itemF (ldM M L g k sz sz) sz (0, -1))).2.2)) 0 0 (fA E) := by
  refine f_head (by decide) (Nat.le_of_ble_eq_true rfl) ?_
  intro pg ev s mi below meth cd ls X hr hlk hP hS hl
  have hx := X.1.1
  have hb := X.1.2.1
  have hl : lv_has ls 4 [(0, .ref (fad E 72)), (1, .ref (fad E k)), (2, .ref (fad E g))] := hl
  have hk9 := sh_4 hk_k
  refine lv_aload_n hx hb dX2_readFault_0 rfl (lv_at hl 0 rfl) ?_
  refine f_get X hP (T := TX2) (ci := 2) (k := 72) rfl inX2 rfl 0 (by decide) m_1_161 rfl (v := .ref (fad E 54)) rfl dX2_readFault_1 ?_
  refine lv_aload_n hx hb dX2_readFault_4 rfl (lv_at hl 2 rfl) ?_
  refine f_vV (n := 1) X hP hS [.ref (fad E g)] [] (c_X1_become l E M L 54 g rfl hk_g (Ne.symm hg5)) m_2_224 wi_X1_become rfl rfl (by decide) (by decide +kernel) ⟨Nat.le_of_ble_eq_true rfl, Nat.le_of_ble_eq_true rfl⟩ rfl hl rfl (Nat.le_of_ble_eq_true rfl) ⟨Nat.zero_le _, Nat.zero_le _⟩ dX2_readFault_5 (fun H locs hP hS => ?_)
  refine lv_aload_n hx hb dX2_readFault_8 rfl (lv_at hl 0 rfl) ?_
  refine lv_iconst (v := 0) hx hb dX2_readFault_9 (by decide) ?_
  refine f_put X hP hS (T := TX2) (ci := 2) (k := 72) rfl inX2 rfl tyX2 tyX2_ok nmX2 1 (by decide) m_1_163 ⟨rfl, rfl⟩ rfl (v := 0) rfl rfl dX2_readFault_10 (fun H locs hP hS => ?_)
  refine lv_aload_n hx hb dX2_readFault_13 rfl (lv_at hl 0 rfl) ?_
  refine lv_iconst (v := 0) hx hb dX2_readFault_14 (by decide) ?_
  refine f_put X hP hS (T := TX2) (ci := 2) (k := 72) rfl inX2 rfl tyX2 tyX2_ok nmX2 4 (by decide) m_1_167 ⟨rfl, rfl⟩ rfl (v := 0) rfl rfl dX2_readFault_15 (fun H locs hP hS => ?_)
  refine lv_aload_n hx hb dX2_readFault_18 rfl (lv_at hl 0 rfl) ?_
  refine lv_iconst (v := (-1)) hx hb dX2_readFault_19 (by decide) ?_
  refine f_put X hP hS (T := TX2) (ci := 2) (k := 72) rfl inX2 rfl tyX2 tyX2_ok nmX2 5 (by decide) m_1_168 ⟨rfl, rfl⟩ rfl (v := (-1)) rfl rfl dX2_readFault_20 (fun H locs hP hS => ?_)
  refine lv_aload_n hx hb dX2_readFault_23 rfl (lv_at hl 0 rfl) ?_
  refine lv_aload_n hx hb dX2_readFault_24 rfl (lv_at hl 1 rfl) ?_
  refine f_get X hP (T := TX4) (ci := 4) (k := k) hk_k inX4 rfl 2 (by decide) m_1_221 rfl (v := .int (nI sz)) (congrArg Value.int (((up2_o _ _ (Or.inr (by decide))).trans ((up2_o _ _ (Or.inr (by decide))).trans (up2_o _ _ (Or.inr (by decide))))).trans ((cpG_o (by omega)).trans hks))) dX2_readFault_25 ?_
  refine f_put X hP hS (T := TX2) (ci := 2) (k := 72) rfl inX2 rfl tyX2 tyX2_ok nmX2 3 (by decide) m_1_166 ⟨rfl, rfl⟩ rfl (v := (nI sz)) rfl rfl dX2_readFault_28 (fun H locs hP hS => ?_)
  have hP := fP_eq (show (pM (ldM M L g k sz 0) 0 (-1)) = (up2 (up2 (up2 (up2 (cpG M 54 g) 72 1 0) 72 4 0) 72 5 (-1)) 72 3 (nI sz)) from by
      exact ldM_0 _ _ _ _ _) hP
  refine lv_iconst (v := 0) hx hb dX2_readFault_31 (by decide) ?_
  refine lv_istore_n (lv' := [(3, .int 0), (0, .ref (fad E 72)), (1, .ref (fad E k)), (2, .ref (fad E g))]) hx hb dX2_readFault_32 rfl hl (by decide) rfl (fun ls hl => ?_)
  refine f_loop (α := Nat) (fun (i : Nat) H locs ls => fP E (pM (ldM M L g k sz i) 0 (-1)) L H ∧ va_S (fA E) s.heap H locs ∧ lv_has ls 4 [(3, .int (nI i)), (0, .ref (fad E 72)), (1, .ref (fad E k)), (2, .ref (fad E g))] ∧ (i ≤ sz)) (fun (i : Nat) => sz - i) (pc0 := 33) (st := fun _ => []) ?_ 0 _ _ _ ⟨hP, hS, lv_sub hl [0, 1, 2, 3] rfl, (by omega)⟩
  rintro i H locs ls ⟨hP, hS, hl, ht⟩ ih_33
  refine lv_iload_n hx hb dX2_readFault_33 rfl (lv_at hl 0 rfl) ?_
  refine lv_aload_n hx hb dX2_readFault_34 rfl (lv_at hl 1 rfl) ?_
  refine f_get X hP (T := TX2) (ci := 2) (k := 72) rfl inX2 rfl 3 (by decide) m_1_166 rfl (v := .int (nI sz)) (congrArg Value.int ((pM_o _ _ _ (Or.inr (by decide))).trans ldM_sz)) dX2_readFault_35 ?_
  refine lv_icmp_ge (tgt := 65) hx hb dX2_readFault_38 (by decide) (fun c_38 => ?_) (fun c_38 => ?_)
  · have c_38 := (nI_le_iff (a := sz) (b := i) (by omega) (by omega)).mp c_38
    obtain rfl : sz = i := by omega
    refine lv_aload_n hx hb dX2_readFault_65 rfl (lv_at hl 1 rfl) ?_
    refine f_vV (n := 0) X hP hS [] [] (c_X2_readItem l E (ldM M L g k sz sz) L 0 sz (-1) ldM_sz hs1 (Nat.zero_le _) (ldM_cnt htc hwc htc8 hwc6)) m_3_1 wi_X2_readItem rfl rfl (by decide) (by decide +kernel) ⟨Nat.le_of_ble_eq_true rfl, Nat.le_of_ble_eq_true rfl⟩ rfl hl rfl (Nat.le_of_ble_eq_true rfl) ⟨Nat.zero_le _, Nat.zero_le _⟩ dX2_readFault_66 (fun H locs hP hS => ?_)
    obtain ⟨B0, p0, f0, e0⟩ := ex3 (itemF (ldM M L g k sz sz) sz (0, -1))
    rw [e0] at hP
    have ok0 : okI (ldM M L g k sz sz) sz (B0, (p0, f0)) := by rw [← e0]; exact itemF_ok (Nat.zero_le _) (ldM_cnt htc hwc htc8 hwc6)
    refine lv_iconst (v := 0) hx hb dX2_readFault_69 (by decide) ?_
    refine lv_istore_n (lv' := [(3, .int 0), (0, .ref (fad E 72)), (1, .ref (fad E k)), (2, .ref (fad E g))]) hx hb dX2_readFault_70 rfl hl (by decide) rfl (fun ls hl => ?_)
    refine f_loop (α := Nat × (Nat → Nat → Int32) × Nat × Int32) (fun (a : Nat × (Nat → Nat → Int32) × Nat × Int32) H locs ls => match a with | (n, B, p1, f1) => fP E (pM B p1 f1) L H ∧ va_S (fA E) s.heap H locs ∧ lv_has ls 4 [(3, .int (nI n)), (0, .ref (fad E 72)), (1, .ref (fad E k)), (2, .ref (fad E g))] ∧ (n ≤ 160) ∧ (p1 ≤ sz) ∧ (B 72 3 = nI sz) ∧ (cntN B) ∧ ((restF sz 160 (itemF (ldM M L g k sz sz) sz (0, -1))) = restF sz (160 - n) (B, (p1, f1)))) (fun (a : Nat × (Nat → Nat → Int32) × Nat × Int32) => match a with | (n, B, p1, f1) => 160 - n) (pc0 := 71) (st := fun _ => []) ?_ (0, B0, p0, f0) _ _ _ ⟨hP, hS, lv_sub hl [0, 1, 2, 3] rfl, (by omega), ok0.1, ((ok0.2.2 72 3 (by omega) (by omega)).trans ldM_sz), ok0.2.1, (by rw [e0])⟩
    rintro ⟨n, B, p1, f1⟩ H locs ls ⟨hP, hS, hl, ht, hpB, hB, hcB, hbt⟩ ih_71
    refine lv_iload_n hx hb dX2_readFault_71 rfl (lv_at hl 0 rfl) ?_
    refine lv_sipush (v := 160) hx hb dX2_readFault_72 (by decide) ?_
    refine lv_icmp_ge (tgt := 113) hx hb dX2_readFault_75 (by decide) (fun c_75 => ?_) (fun c_75 => ?_)
    · have c_75 := (nI_le_iff (a := 160) (b := n) (by omega) (by omega)).mp c_75
      refine lv_aload_n hx hb dX2_readFault_113 rfl (lv_at hl 1 rfl) ?_
      refine f_get X hP (T := TX2) (ci := 2) (k := 72) rfl inX2 rfl 5 (by decide) m_1_168 rfl (v := .int f1) (congrArg Value.int (pM_5 _ _ _)) dX2_readFault_114 ?_
      refine f_ir X hlk hr (v := f1) rfl hP hS ?_ dX2_readFault_117
      rw [hbt, show 160 - n = 0 from by omega]; exact ⟨rfl, rfl⟩
    · have c_75 := (not_congr (nI_le_iff (a := 160) (b := n) (by omega) (by omega))).mp c_75
      refine lv_aload_n hx hb dX2_readFault_78 rfl (lv_at hl 1 rfl) ?_
      refine f_get X hP (T := TX2) (ci := 2) (k := 72) rfl inX2 rfl 5 (by decide) m_1_168 rfl (v := .int f1) (congrArg Value.int (pM_5 _ _ _)) dX2_readFault_79 ?_
      refine lv_iconst (v := (-1)) hx hb dX2_readFault_82 (by decide) ?_
      refine lv_icmp_ne (tgt := 113) hx hb dX2_readFault_83 (by decide) (fun c_83 => ?_) (fun c_83 => ?_)
      · refine lv_aload_n hx hb dX2_readFault_113 rfl (lv_at hl 1 rfl) ?_
        refine f_get X hP (T := TX2) (ci := 2) (k := 72) rfl inX2 rfl 5 (by decide) m_1_168 rfl (v := .int f1) (congrArg Value.int (pM_5 _ _ _)) dX2_readFault_114 ?_
        refine f_ir X hlk hr (v := f1) rfl hP hS ?_ dX2_readFault_117
        rw [hbt, restF_stop (fun h => c_83 h.1)]; exact ⟨rfl, rfl⟩
      · refine lv_aload_n hx hb dX2_readFault_86 rfl (lv_at hl 1 rfl) ?_
        refine f_get X hP (T := TX2) (ci := 2) (k := 72) rfl inX2 rfl 4 (by decide) m_1_167 rfl (v := .int (nI p1)) (congrArg Value.int (pM_4 _ _ _)) dX2_readFault_87 ?_
        refine lv_aload_n hx hb dX2_readFault_90 rfl (lv_at hl 1 rfl) ?_
        refine f_get X hP (T := TX2) (ci := 2) (k := 72) rfl inX2 rfl 3 (by decide) m_1_166 rfl (v := .int (nI sz)) (congrArg Value.int ((pM_o _ _ _ (Or.inr (by decide))).trans hB)) dX2_readFault_91 ?_
        refine lv_icmp_ge (tgt := 113) hx hb dX2_readFault_94 (by decide) (fun c_94 => ?_) (fun c_94 => ?_)
        · have c_94 := (nI_le_iff (a := sz) (b := p1) (by omega) (by omega)).mp c_94
          refine lv_aload_n hx hb dX2_readFault_113 rfl (lv_at hl 1 rfl) ?_
          refine f_get X hP (T := TX2) (ci := 2) (k := 72) rfl inX2 rfl 5 (by decide) m_1_168 rfl (v := .int f1) (congrArg Value.int (pM_5 _ _ _)) dX2_readFault_114 ?_
          refine f_ir X hlk hr (v := f1) rfl hP hS ?_ dX2_readFault_117
          rw [hbt, restF_stop (fun h => absurd h.2 (Nat.not_lt.mpr c_94))]; exact ⟨rfl, rfl⟩
        · have c_94 := (not_congr (nI_le_iff (a := sz) (b := p1) (by omega) (by omega))).mp c_94
          have c_94 : p1 < sz := by omega
          refine lv_aload_n hx hb dX2_readFault_97 rfl (lv_at hl 1 rfl) ?_
          refine lv_bipush (v := 59) hx hb dX2_readFault_98 (by decide) ?_
          refine f_vV (n := 1) X hP hS [.int 59] [] (c_X2_readSign l E B L 59 p1 sz f1 hB hs1 hpB) m_3_67 wi_X2_readSign rfl rfl (by decide) (by decide +kernel) ⟨Nat.le_of_ble_eq_true rfl, Nat.le_of_ble_eq_true rfl⟩ rfl hl rfl (Nat.le_of_ble_eq_true rfl) ⟨Nat.zero_le _, Nat.zero_le _⟩ dX2_readFault_100 (fun H locs hP hS => ?_)
          obtain ⟨p2, f2, es⟩ := ex2 (signF (B 73) sz 59 (p1, f1))
          rw [es] at hP
          have hp2 : p2 ≤ sz := by have := signF_le (lt := B 73) (c := 59) (s := (p1, f1)) (by decide) hpB; rw [es] at this; exact this
          refine lv_aload_n hx hb dX2_readFault_103 rfl (lv_at hl 1 rfl) ?_
          refine f_vV (n := 0) X hP hS [] [] (c_X2_readItem l E B L p2 sz f2 hB hs1 hp2 hcB) m_3_1 wi_X2_readItem rfl rfl (by decide) (by decide +kernel) ⟨Nat.le_of_ble_eq_true rfl, Nat.le_of_ble_eq_true rfl⟩ rfl hl rfl (Nat.le_of_ble_eq_true rfl) ⟨Nat.zero_le _, Nat.zero_le _⟩ dX2_readFault_104 (fun H locs hP hS => ?_)
          obtain ⟨B3, p3, f3, e3⟩ := ex3 (itemF B sz (p2, f2))
          rw [e3] at hP
          have ok3 : okI B sz (B3, (p3, f3)) := by rw [← e3]; exact itemF_ok hp2 hcB
          refine lv_iinc (v := (nI (n + 1))) (lv' := [(3, .int (nI (n + 1))), (0, .ref (fad E 72)), (1, .ref (fad E k)), (2, .ref (fad E g))]) hx hb dX2_readFault_107 hl (k := 0) rfl (nI_1 _) (by decide) rfl (fun ls hl => ?_)
          refine lv_goto (tgt := 71) hx hb dX2_readFault_110 (by decide) ?_
          exact ih_71 ((n + 1), B3, p3, f3) _ _ _ (by show 160 - (n + 1) < 160 - n; omega) ⟨hP, hS, lv_sub hl [0, 1, 2, 3] rfl, (by omega), ok3.1, ((ok3.2.2 72 3 (by omega) (by omega)).trans hB), ok3.2.1, (by rw [hbt, show 160 - n = 160 - (n + 1) + 1 from by omega, restF_s, if_pos ⟨c_83, c_94⟩]; show restF _ _ (itemF B sz (signF (B 73) sz 59 (p1, f1))) = _; rw [es, e3])⟩
  · have c_38 := (not_congr (nI_le_iff (a := sz) (b := i) (by omega) (by omega))).mp c_38
    refine lv_iload_n hx hb dX2_readFault_41 rfl (lv_at hl 0 rfl) ?_
    refine lv_sipush (v := 160) hx hb dX2_readFault_42 (by decide) ?_
    refine lv_icmp_ge (tgt := 65) hx hb dX2_readFault_45 (by decide) (fun c_45 => ?_) (fun c_45 => ?_)
    · have c_45 := (nI_le_iff (a := 160) (b := i) (by omega) (by omega)).mp c_45
      exact absurd c_45 (by omega)
    · have c_45 := (not_congr (nI_le_iff (a := 160) (b := i) (by omega) (by omega))).mp c_45
      refine lv_aload_n hx hb dX2_readFault_48 rfl (lv_at hl 1 rfl) ?_
      refine f_get X hP (T := TX2) (ci := 2) (k := 72) rfl inX2 rfl 2 (by decide) m_1_165 rfl (v := .ref (fad E 73)) rfl dX2_readFault_49 ?_
      refine lv_iload_n hx hb dX2_readFault_52 rfl (lv_at hl 0 rfl) ?_
      refine lv_aload_n hx hb dX2_readFault_53 rfl (lv_at hl 2 rfl) ?_
      refine lv_iload_n hx hb dX2_readFault_54 rfl (lv_at hl 0 rfl) ?_
      refine f_iV (n := 1) X hP hS [.int (nI i)] [.int (nI i), .ref (fad E 73)] (c_X4_number l E (pM (ldM M L g k sz i) 0 (-1)) L k (nI i) hk_k) m_2_236 wi_X4_number hk_k rfl (by decide) (by decide +kernel) ⟨Nat.le_of_ble_eq_true rfl, Nat.le_of_ble_eq_true rfl⟩ rfl hl rfl (Nat.le_of_ble_eq_true rfl) ⟨Nat.zero_le _, Nat.zero_le _⟩ dX2_readFault_55 (fun H locs hP hS => ?_)
      refine f_topI (v := ((L (k + 8) i).toInt32)) (num_eq (((pM_o _ _ _ (Or.inl (by omega))).trans (ldM_o (by omega))).trans hks) (by omega) hs1) ?_
      refine f_iast X hP hS (k := 73) (n := 160) (q := i) rfl rfl (v := ((L (k + 8) i).toInt32)) (fIx_nI (by omega) (by decide)) dX2_readFault_58 (fun H locs hP hS => ?_)
      have hP := fP_eq (pM_wo _ _ _ _ (Or.inl (by decide))) hP
      refine lv_iinc (v := (nI (i + 1))) (lv' := [(3, .int (nI (i + 1))), (0, .ref (fad E 72)), (1, .ref (fad E k)), (2, .ref (fad E g))]) hx hb dX2_readFault_59 hl (k := 0) rfl (nI_1 _) (by decide) rfl (fun ls hl => ?_)
      refine lv_goto (tgt := 33) hx hb dX2_readFault_62 (by decide) ?_
      have hP := fP_eq (show (pM (ldM M L g k sz (i + 1)) 0 (-1)) = (pM (up2 (ldM M L g k sz i) 73 i ((L (k + 8) i).toInt32)) 0 (-1)) from by
          rw [ldM_s]) hP
      exact ih_33 (i + 1) _ _ _ (by show sz - (i + 1) < sz - i; omega) ⟨hP, hS, lv_sub hl [0, 1, 2, 3] rfl, (by omega)⟩
