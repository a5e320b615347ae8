set_option maxHeartbeats 4000000 in
set_option maxRecDepth 100000 in
theorem c_X2_failAt (l : Launch) (E : fE) (M : Nat → Nat → Int32) (L : Nat → Nat → Int64) (w : Int32) (p : Nat) (f : Int32) : Met l yX2_failAt (wl yX2_failAt cX2_failAt 2 (some .int)) (fRm 0 0) (va_Pc [.ref (fad E 72), .int w] (fPre E (pM M p f) L)) (fQi E (fun r u => u = ((pM M p w), L) ∧ r = (-1))) 0 0 (fA E) := by
  refine f_head (by decide) (Nat.le_of_ble_eq_true rfl) ?_
  intro pg ev s mi below meth cd ls X hr hlk hP hS hl
  have hx := X.1.1
  have hb := X.1.2.1
  have hl : lv_has ls 2 [(0, .ref (fad E 72)), (1, .int w)] := hl
  refine lv_aload_n hx hb dX2_failAt_0 rfl (lv_at hl 0 rfl) ?_
  refine lv_iload_n hx hb dX2_failAt_1 rfl (lv_at hl 1 rfl) ?_
  refine f_put X hP hS (T := TX2) (ci := 2) (k := 72) rfl inX2 rfl tyX2 tyX2_ok nmX2 5 (by decide) m_1_168 ⟨rfl, rfl⟩ rfl (v := w) rfl rfl dX2_failAt_2 (fun H locs hP hS => ?_)
  have hP := fP_eq (pM_w5 _ _ _ _) hP
  refine lv_iconst (v := (-1)) hx hb dX2_failAt_5 (by decide) ?_
  exact f_ir X hlk hr (v := (-1)) rfl hP hS ⟨rfl, rfl⟩ dX2_failAt_6

set_option maxHeartbeats 4000000 in
set_option maxRecDepth 100000 in
theorem c_X2_letter (l : Launch) (E : fE) (M : Nat → Nat → Int32) (L : Nat → Nat → Int64) (p sz : Nat) (f : Int32) (hsz : M 72 3 = nI sz) (hs1 : sz ≤ 160) (hp : p ≤ sz) : Met l yX2_letter (wl yX2_letter cX2_letter 1 (some .int)) (fRm 0 0) (va_Pc [.ref (fad E 72)] (fPre E (pM M p f) L)) (fQi E (fun r u => u = ((pM M p f), L) ∧ r = (letF (M 73) sz p))) 0 0 (fA E) := by
  refine f_head (by decide) (Nat.le_of_ble_eq_true rfl) ?_
  intro pg ev s mi below meth cd ls X hr hlk hP hS hl
  have hx := X.1.1
  have hb := X.1.2.1
  have hl : lv_has ls 1 [(0, .ref (fad E 72))] := hl
  refine lv_aload_n hx hb dX2_letter_0 rfl (lv_at hl 0 rfl) ?_
  refine f_get X hP (T := TX2) (ci := 2) (k := 72) rfl inX2 rfl 4 (by decide) m_1_167 rfl (v := .int (nI p)) (congrArg Value.int (pM_4 _ _ _)) dX2_letter_1 ?_
  refine lv_if_lt (tgt := 40) hx hb dX2_letter_4 (by decide) (fun c_4 => ?_) (fun c_4 => ?_)
  · have c_4 := (nI_lt_iff (a := p) (b := 0) (by omega) (by omega)).mp c_4
    exact absurd c_4 (by omega)
  · have c_4 := (not_congr (nI_lt_iff (a := p) (b := 0) (by omega) (by omega))).mp c_4
    refine lv_aload_n hx hb dX2_letter_7 rfl (lv_at hl 0 rfl) ?_
    refine f_get X hP (T := TX2) (ci := 2) (k := 72) rfl inX2 rfl 4 (by decide) m_1_167 rfl (v := .int (nI p)) (congrArg Value.int (pM_4 _ _ _)) dX2_letter_8 ?_
    refine lv_aload_n hx hb dX2_letter_11 rfl (lv_at hl 0 rfl) ?_
    refine f_get X hP (T := TX2) (ci := 2) (k := 72) rfl inX2 rfl 3 (by decide) m_1_166 rfl (v := .int (nI sz)) (congrArg Value.int ((pM_o _ _ _ (Or.inr (by decide))).trans hsz)) dX2_letter_12 ?_
    refine lv_icmp_ge (tgt := 40) hx hb dX2_letter_15 (by decide) (fun c_15 => ?_) (fun c_15 => ?_)
    · have c_15 := (nI_le_iff (a := sz) (b := p) (by omega) (by omega)).mp c_15
      refine lv_iconst (v := 0) hx hb dX2_letter_40 (by decide) ?_
      refine f_ir X hlk hr (v := 0) rfl hP hS ?_ dX2_letter_41
      exact ⟨rfl, (if_neg (by omega)).symm⟩
    · have c_15 := (not_congr (nI_le_iff (a := sz) (b := p) (by omega) (by omega))).mp c_15
      refine lv_aload_n hx hb dX2_letter_18 rfl (lv_at hl 0 rfl) ?_
      refine f_get X hP (T := TX2) (ci := 2) (k := 72) rfl inX2 rfl 4 (by decide) m_1_167 rfl (v := .int (nI p)) (congrArg Value.int (pM_4 _ _ _)) dX2_letter_19 ?_
      refine lv_sipush (v := 160) hx hb dX2_letter_22 (by decide) ?_
      refine lv_icmp_ge (tgt := 40) hx hb dX2_letter_25 (by decide) (fun c_25 => ?_) (fun c_25 => ?_)
      · have c_25 := (nI_le_iff (a := 160) (b := p) (by omega) (by omega)).mp c_25
        refine lv_iconst (v := 0) hx hb dX2_letter_40 (by decide) ?_
        refine f_ir X hlk hr (v := 0) rfl hP hS ?_ dX2_letter_41
        exact ⟨rfl, absurd c_25 (by omega)⟩
      · have c_25 := (not_congr (nI_le_iff (a := 160) (b := p) (by omega) (by omega))).mp c_25
        refine lv_aload_n hx hb dX2_letter_28 rfl (lv_at hl 0 rfl) ?_
        refine f_get X hP (T := TX2) (ci := 2) (k := 72) rfl inX2 rfl 2 (by decide) m_1_165 rfl (v := .ref (fad E 73)) rfl dX2_letter_29 ?_
        refine lv_aload_n hx hb dX2_letter_32 rfl (lv_at hl 0 rfl) ?_
        refine f_get X hP (T := TX2) (ci := 2) (k := 72) rfl inX2 rfl 4 (by decide) m_1_167 rfl (v := .int (nI p)) (congrArg Value.int (pM_4 _ _ _)) dX2_letter_33 ?_
        refine f_iald X hP (k := 73) (n := 160) (q := p) rfl rfl (fIx_nI (by omega) (by decide)) dX2_letter_36 ?_
        refine f_topI (pM_o _ _ _ (Or.inl (by decide))) ?_
        refine lv_goto (tgt := 41) hx hb dX2_letter_37 (by decide) ?_
        refine f_ir X hlk hr (v := (M 73 p)) rfl hP hS ?_ dX2_letter_41
        exact ⟨rfl, (if_pos (by omega)).symm⟩

set_option maxHeartbeats 4000000 in
set_option maxRecDepth 100000 in
theorem c_X2_isAtDigit (l : Launch) (E : fE) (M : Nat → Nat → Int32) (L : Nat → Nat → Int64) (p sz : Nat) (f : Int32) (hsz : M 72 3 = nI sz) (hs1 : sz ≤ 160) (hp : p ≤ sz) : Met l yX2_isAtDigit (wl yX2_isAtDigit cX2_isAtDigit 1 (some .boolean)) (fRm 1 22) (va_Pc [.ref (fad E 72)] (fPre E (pM M p f) L)) (fQi E (fun r u => u = ((pM M p f), L) ∧ r = bI (decide (48 ≤ (letF (M 73) sz p) ∧ (letF (M 73) sz p) ≤ 57)))) 0 0 (fA E) := by
  refine f_head (by decide) (Nat.le_of_ble_eq_true rfl) ?_
  intro pg ev s mi below meth cd ls X hr hlk hP hS hl
  have hx := X.1.1
  have hb := X.1.2.1
  have hl : lv_has ls 1 [(0, .ref (fad E 72))] := hl
  refine lv_aload_n hx hb dX2_isAtDigit_0 rfl (lv_at hl 0 rfl) ?_
  refine f_iV (n := 0) X hP hS [] [] (c_X2_letter l E M L p sz f hsz hs1 hp) m_3_5 wi_X2_letter rfl rfl (by decide) (by decide +kernel) ⟨Nat.le_of_ble_eq_true rfl, Nat.le_of_ble_eq_true rfl⟩ rfl hl rfl (Nat.le_of_ble_eq_true rfl) ⟨Nat.zero_le _, Nat.zero_le _⟩ dX2_isAtDigit_1 (fun H locs hP hS => ?_)
  refine lv_bipush (v := 48) hx hb dX2_isAtDigit_4 (by decide) ?_
  refine lv_bipush (v := 57) hx hb dX2_isAtDigit_6 (by decide) ?_
  refine f_iN (n := 3) X hP hS [.int (letF (M 73) sz p), .int 48, .int 57] [] (c_X7_within l E (pM M p f) L (letF (M 73) sz p) 48 57) (fX.n3 X) wi_X7_within (by decide +kernel) ⟨Nat.le_of_ble_eq_true rfl, Nat.le_of_ble_eq_true rfl⟩ rfl hl rfl (Nat.le_of_ble_eq_true rfl) ⟨Nat.zero_le _, Nat.zero_le _⟩ dX2_isAtDigit_8 (fun H locs hP hS => ?_)
  exact f_ir X hlk hr (v := (bI (decide (48 ≤ (letF (M 73) sz p) ∧ (letF (M 73) sz p) ≤ 57)))) (narrow_bI _) hP hS ⟨rfl, rfl⟩ dX2_isAtDigit_11

set_option maxHeartbeats 4000000 in
set_option maxRecDepth 100000 in
theorem c_X2_readDigit (l : Launch) (E : fE) (M : Nat → Nat → Int32) (L : Nat → Nat → Int64) (p sz : Nat) (f : Int32) (hsz : M 72 3 = nI sz) (hs1 : sz ≤ 160) (hp : p ≤ sz) : Met l yX2_readDigit (wl yX2_readDigit cX2_readDigit 2 (some .int)) (fRm 1 20) (va_Pc [.ref (fad E 72)] (fPre E (pM M p f) L)) (fQi E (fun r u => u = ((pM M (p + 1) f), L) ∧ r = ((letF (M 73) sz p) - 48))) 0 0 (fA E) := by
  refine f_head (by decide) (Nat.le_of_ble_eq_true rfl) ?_
  intro pg ev s mi below meth cd ls X hr hlk hP hS hl
  have hx := X.1.1
  have hb := X.1.2.1
  have hl : lv_has ls 2 [(0, .ref (fad E 72))] := hl
  refine lv_aload_n hx hb dX2_readDigit_0 rfl (lv_at hl 0 rfl) ?_
  refine f_iV (n := 0) X hP hS [] [] (c_X2_letter l E M L p sz f hsz hs1 hp) m_3_5 wi_X2_letter rfl rfl (by decide) (by decide +kernel) ⟨Nat.le_of_ble_eq_true rfl, Nat.le_of_ble_eq_true rfl⟩ rfl hl rfl (Nat.le_of_ble_eq_true rfl) ⟨Nat.zero_le _, Nat.zero_le _⟩ dX2_readDigit_1 (fun H locs hP hS => ?_)
  refine lv_bipush (v := 48) hx hb dX2_readDigit_4 (by decide) ?_
  refine lv_isub hx hb dX2_readDigit_6 ?_
  refine lv_istore_n (lv' := [(1, .int ((letF (M 73) sz p) - 48)), (0, .ref (fad E 72))]) hx hb dX2_readDigit_7 rfl hl (by decide) rfl (fun ls hl => ?_)
  refine lv_aload_n hx hb dX2_readDigit_8 rfl (lv_at hl 1 rfl) ?_
  refine lv_dup hx hb dX2_readDigit_9 rfl ?_
  refine f_get X hP (T := TX2) (ci := 2) (k := 72) rfl inX2 rfl 4 (by decide) m_1_167 rfl (v := .int (nI p)) (congrArg Value.int (pM_4 _ _ _)) dX2_readDigit_10 ?_
  refine lv_iconst (v := 1) hx hb dX2_readDigit_13 (by decide) ?_
  refine lv_iadd hx hb dX2_readDigit_14 ?_
  refine f_topI (nI_add p 1) ?_
  refine f_put X hP hS (T := TX2) (ci := 2) (k := 72) rfl inX2 rfl tyX2 tyX2_ok nmX2 4 (by decide) m_1_167 ⟨rfl, rfl⟩ rfl (v := (nI (p + 1))) rfl rfl dX2_readDigit_15 (fun H locs hP hS => ?_)
  have hP := fP_eq (pM_w4 _ _ _ _) hP
  refine lv_iload_n hx hb dX2_readDigit_18 rfl (lv_at hl 0 rfl) ?_
  exact f_ir X hlk hr (v := ((letF (M 73) sz p) - 48)) rfl hP hS ⟨rfl, rfl⟩ dX2_readDigit_19

set_option maxHeartbeats 4000000 in
set_option maxRecDepth 100000 in
theorem c_X2_readSign (l : Launch) (E : fE) (M : Nat → Nat → Int32) (L : Nat → Nat → Int64) (sg : Int32) (p sz : Nat) (f : Int32) (hsz : M 72 3 = nI sz) (hs1 : sz ≤ 160) (hp : p ≤ sz) : Met l yX2_readSign (wl yX2_readSign cX2_readSign 2 none) (fRm 1 21) (va_Pc [.ref (fad E 72), .int sg] (fPre E (pM M p f) L)) (fQv E (fun u => u = ((pM M (signF (M 73) sz sg (p, f)).1 (signF (M 73) sz sg (p, f)).2), L))) 0 0 (fA E) := by
  refine f_head (by decide) (Nat.le_of_ble_eq_true rfl) ?_
  intro pg ev s mi below meth cd ls X hr hlk hP hS hl
  have hx := X.1.1
  have hb := X.1.2.1
  have hl : lv_has ls 2 [(0, .ref (fad E 72)), (1, .int sg)] := hl
  refine lv_aload_n hx hb dX2_readSign_0 rfl (lv_at hl 0 rfl) ?_
  refine f_get X hP (T := TX2) (ci := 2) (k := 72) rfl inX2 rfl 5 (by decide) m_1_168 rfl (v := .int f) (congrArg Value.int (pM_5 _ _ _)) dX2_readSign_1 ?_
  refine lv_iconst (v := (-1)) hx hb dX2_readSign_4 (by decide) ?_
  refine lv_icmp_eq (tgt := 9) hx hb dX2_readSign_5 (by decide) (fun c_5 => ?_) (fun c_5 => ?_)
  · refine lv_aload_n hx hb dX2_readSign_9 rfl (lv_at hl 0 rfl) ?_
    refine f_iV (n := 0) X hP hS [] [] (c_X2_letter l E M L p sz f hsz hs1 hp) m_3_5 wi_X2_letter rfl rfl (by decide) (by decide +kernel) ⟨Nat.le_of_ble_eq_true rfl, Nat.le_of_ble_eq_true rfl⟩ rfl hl rfl (Nat.le_of_ble_eq_true rfl) ⟨Nat.zero_le _, Nat.zero_le _⟩ dX2_readSign_10 (fun H locs hP hS => ?_)
    refine lv_iload_n hx hb dX2_readSign_13 rfl (lv_at hl 1 rfl) ?_
    refine lv_icmp_ne (tgt := 30) hx hb dX2_readSign_14 (by decide) (fun c_14 => ?_) (fun c_14 => ?_)
    · refine lv_aload_n hx hb dX2_readSign_30 rfl (lv_at hl 0 rfl) ?_
      refine lv_aload_n hx hb dX2_readSign_31 rfl (lv_at hl 0 rfl) ?_
      refine f_get X hP (T := TX2) (ci := 2) (k := 72) rfl inX2 rfl 4 (by decide) m_1_167 rfl (v := .int (nI p)) (congrArg Value.int (pM_4 _ _ _)) dX2_readSign_32 ?_
      refine f_iV (n := 1) X hP hS [.int (nI p)] [] (c_X2_failAt l E M L (nI p) p f) m_3_71 wi_X2_failAt rfl rfl (by decide) (by decide +kernel) ⟨Nat.le_of_ble_eq_true rfl, Nat.le_of_ble_eq_true rfl⟩ rfl hl rfl (Nat.le_of_ble_eq_true rfl) ⟨Nat.zero_le _, Nat.zero_le _⟩ dX2_readSign_35 (fun H locs hP hS => ?_)
      refine lv_pop hx hb dX2_readSign_38 rfl ?_
      refine f_vr X hlk hr hP hS ?_ dX2_readSign_39
      show _ = _
      subst c_5; rw [signF_bad c_14]
    · refine lv_aload_n hx hb dX2_readSign_17 rfl (lv_at hl 0 rfl) ?_
      refine lv_dup hx hb dX2_readSign_18 rfl ?_
      refine f_get X hP (T := TX2) (ci := 2) (k := 72) rfl inX2 rfl 4 (by decide) m_1_167 rfl (v := .int (nI p)) (congrArg Value.int (pM_4 _ _ _)) dX2_readSign_19 ?_
      refine lv_iconst (v := 1) hx hb dX2_readSign_22 (by decide) ?_
      refine lv_iadd hx hb dX2_readSign_23 ?_
      refine f_topI (nI_add p 1) ?_
      refine f_put X hP hS (T := TX2) (ci := 2) (k := 72) rfl inX2 rfl tyX2 tyX2_ok nmX2 4 (by decide) m_1_167 ⟨rfl, rfl⟩ rfl (v := (nI (p + 1))) rfl rfl dX2_readSign_24 (fun H locs hP hS => ?_)
      have hP := fP_eq (pM_w4 _ _ _ _) hP
      refine lv_goto (tgt := 39) hx hb dX2_readSign_27 (by decide) ?_
      refine f_vr X hlk hr hP hS ?_ dX2_readSign_39
      show _ = _
      subst c_5; rw [signF_yes c_14]
  · refine f_vr X hlk hr hP hS ?_ dX2_readSign_8
    show _ = _
    rw [signF_no c_5]
