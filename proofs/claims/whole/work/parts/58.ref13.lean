def lp_X8_reads_23 (M : Nat → Nat → Int32) (L : Nat → Nat → Int64) (s0 : Nat) (pl : Nat) (en : Nat) : Nat → Nat → (Nat → Nat → Int32) → fR
  | 0, i, D => (1, D, L)
  | f9 + 1, i, D => (if (a_X8_isDigit D L s0 (pl + i) en) = 0 then (1, D, L) else (lp_X8_reads_23 M L s0 pl en f9 (i + 1) (up2 (up2 D 86 35 (((10 * (D 86 35)) + ((L 104 ((160 * s0) + (pl + i))).toInt32)) - 48)) 86 33 (nI ((pl + i) + 1)))))
theorem lp_X8_reads_23_0 (M : Nat → Nat → Int32) (L : Nat → Nat → Int64) (s0 : Nat) (pl : Nat) (en : Nat) (i : Nat) (D : (Nat → Nat → Int32)) : (lp_X8_reads_23 M L s0 pl en 0 i D) = (1, D, L) := rfl
theorem lp_X8_reads_23_s (M : Nat → Nat → Int32) (L : Nat → Nat → Int64) (s0 : Nat) (pl : Nat) (en : Nat) (f9 i : Nat) (D : (Nat → Nat → Int32)) : (lp_X8_reads_23 M L s0 pl en (f9 + 1) i D) = (if (a_X8_isDigit D L s0 (pl + i) en) = 0 then (1, D, L) else (lp_X8_reads_23 M L s0 pl en f9 (i + 1) (up2 (up2 D 86 35 (((10 * (D 86 35)) + ((L 104 ((160 * s0) + (pl + i))).toInt32)) - 48)) 86 33 (nI ((pl + i) + 1))))) := rfl
def a_X8_reads (M : Nat → Nat → Int32) (L : Nat → Nat → Int64) (s0 : Nat) (pl : Nat) (en : Nat) : fR := (if (a_X8_isDigit (up2 M 86 35 0) L s0 pl en) = 0 then (0, (up2 (up2 M 86 35 0) 86 36 (nI pl)), L) else (lp_X8_reads_23 M L s0 pl en 2 0 (up2 M 86 35 0)))
set_option maxHeartbeats 1000000 in
set_option maxRecDepth 100000 in
theorem c_X8_reads (l : Launch) (E : fE) (M : Nat → Nat → Int32) (L : Nat → Nat → Int64) (s0 pl en : Nat) (hba : M 86 32 = nI (160 * s0)) (hs08 : s0 < 8) (hpl : M 86 33 = nI pl) (hen : M 86 34 = nI en) (hen1 : en ≤ 160) (hpe : pl ≤ en) : Met l yX8_reads (wl yX8_reads cX8_reads 2 (some .boolean)) (fRm 1 21) (va_Pc [.ref (fad E 86)] (fPre E M L)) (fQi E (fun r u => u = ((a_X8_reads M L s0 pl en).2.1, L) ∧ r = (a_X8_reads M L s0 pl en).1)) 0 0 (fA E) := by
  refine f_head (by decide) (Nat.le_of_ble_eq_true rfl) ?_
  intro pg ev s mi below meth cd ls X hr hlk hP hS hl
  have hx := X.1.1
  have hb := X.1.2.1
  have hl : lv_has ls 2 [(0, .ref (fad E 86))] := hl
  refine lv_aload_n hx hb dX8_reads_0 rfl (lv_at hl 0 rfl) ?_
  refine lv_iconst (v := 0) hx hb dX8_reads_1 (by decide) ?_
  refine f_put X hP hS (T := TX8) (ci := 8) (k := 86) rfl inX8 rfl tyX8 tyX8_ok nmX8 35 (by decide) m_4_209 ⟨rfl, rfl⟩ rfl (v := 0) rfl rfl dX8_reads_2 (fun H locs hP hS => ?_)
  refine lv_aload_n hx hb dX8_reads_5 rfl (lv_at hl 0 rfl) ?_
  refine f_iV (n := 0) X hP hS [] [] (c_X8_isDigit l E (up2 M 86 35 0) L s0 pl en ((up2_o _ _ (Or.inr (by decide))).trans hba) hs08 ((up2_o _ _ (Or.inr (by decide))).trans hpl) ((up2_o _ _ (Or.inr (by decide))).trans hen) hen1 hpe) m_5_204 wi_X8_isDigit rfl rfl (by decide) (by decide +kernel) ⟨Nat.le_of_ble_eq_true rfl, Nat.le_of_ble_eq_true rfl⟩ rfl hl rfl (Nat.le_of_ble_eq_true rfl) ⟨Nat.zero_le _, Nat.zero_le _⟩ dX8_reads_6 (fun H locs hP hS => ?_)
  refine lv_if_ne (tgt := 21) hx hb dX8_reads_9 (by decide) (fun c_9 => ?_) (fun c_9 => ?_)
  · refine lv_iconst (v := 0) hx hb dX8_reads_21 (by decide) ?_
    refine lv_istore_n (lv' := [(1, .int 0), (0, .ref (fad E 86))]) hx hb dX8_reads_22 rfl hl (by decide) rfl (fun ls hl => ?_)
    refine f_loop (α := Nat × (Nat → Nat → Int32)) (fun (a : Nat × (Nat → Nat → Int32)) H locs ls => match a with | (i, D) => fP E D L H ∧ va_S (fA E) s.heap H locs ∧ lv_has ls 2 [(1, .int (nI i)), (0, .ref (fad E 86))] ∧ (i ≤ 2) ∧ ((lp_X8_reads_23 M L s0 pl en 2 0 (up2 M 86 35 0)) = (lp_X8_reads_23 M L s0 pl en (2 - i) i D)) ∧ (D 86 32 = nI (160 * s0)) ∧ (D 86 33 = nI (pl + i)) ∧ (D 86 34 = nI en) ∧ (pl + i ≤ en)) (fun (a : Nat × (Nat → Nat → Int32)) => match a with | (i, D) => 2 - i) (pc0 := 23) (st := fun _ => []) ?_ (0, (up2 M 86 35 0)) _ _ _ ⟨hP, hS, lv_sub hl [0, 1] rfl, (Nat.zero_le _), rfl, ((up2_o _ _ (Or.inr (by decide))).trans hba), ((up2_o _ _ (Or.inr (by decide))).trans hpl), ((up2_o _ _ (Or.inr (by decide))).trans hen), hpe⟩
    rintro ⟨i, D⟩ H locs ls ⟨hP, hS, hl, ht_23, hbt_23, hDb, hDp, hDe, hle⟩ ih_23
    refine lv_iload_n hx hb dX8_reads_23 rfl (lv_at hl 0 rfl) ?_
    refine lv_iconst (v := 2) hx hb dX8_reads_24 (by decide) ?_
    refine lv_icmp_ge (tgt := 81) hx hb dX8_reads_25 (by decide) (fun c_25 => ?_) (fun c_25 => ?_)
    · have c_25 := (nI_le_iff (a := 2) (b := i) (by omega) (by omega)).mp c_25
      have hz_23 : 2 - i = 0 := by omega
      have hbt_23 := hbt_23.trans ((congrArg (fun f9 => (lp_X8_reads_23 M L s0 pl en f9 i D)) hz_23).trans (lp_X8_reads_23_0 M L s0 pl en i D))
      refine lv_iconst (v := 1) hx hb dX8_reads_81 (by decide) ?_
      refine f_ir X hlk hr (v := 1) rfl hP hS ?_ dX8_reads_82
      unfold a_X8_reads
      (first | rw [if_pos c_9] | rw [if_neg c_9] | rw [if_neg (Bool.eq_false_iff.mp c_9)] | skip)
      rw [hbt_23]
      (try dsimp only)
      first
        | done
        | exact ⟨rfl, rfl⟩
        | rfl
        | (simp only [if_true, if_false, and_self, and_true, true_and, not_true_eq_false, not_false_eq_true, and_false, false_and, or_true, true_or, or_false, false_or, or_self, Bool.false_eq_true, reduceCtorEq, nl10, nl20, nl30, nl40, nl50, nl60, nl70, nl12, nl13, nl21, nl23, nl31, nl32]; first | done | exact ⟨rfl, rfl⟩ | rfl)
        | contradiction
        | (simp only [if_true, if_false, and_self, and_true, true_and, not_true_eq_false, not_false_eq_true, and_false, false_and, or_true, true_or, or_false, false_or, or_self, Bool.false_eq_true, reduceCtorEq, nl10, nl20, nl30, nl40, nl50, nl60, nl70, nl12, nl13, nl21, nl23, nl31, nl32]; contradiction)
        | (exfalso; simp_all; done)
        | simp_all
    · have c_25 := (not_congr (nI_le_iff (a := 2) (b := i) (by omega) (by omega))).mp c_25
      have hs_23 : 2 - i = 2 - (i + 1) + 1 := by omega
      have hbt_23 := hbt_23.trans ((congrArg (fun f9 => (lp_X8_reads_23 M L s0 pl en f9 i D)) hs_23).trans (lp_X8_reads_23_s M L s0 pl en (2 - (i + 1)) i D))
      refine lv_aload_n hx hb dX8_reads_28 rfl (lv_at hl 1 rfl) ?_
      refine f_iV (n := 0) X hP hS [] [] (c_X8_isDigit l E D L s0 (pl + i) en hDb hs08 hDp hDe hen1 (by omega)) m_5_204 wi_X8_isDigit rfl rfl (by decide) (by decide +kernel) ⟨Nat.le_of_ble_eq_true rfl, Nat.le_of_ble_eq_true rfl⟩ rfl hl rfl (Nat.le_of_ble_eq_true rfl) ⟨Nat.zero_le _, Nat.zero_le _⟩ dX8_reads_29 (fun H locs hP hS => ?_)
      refine lv_if_eq (tgt := 81) hx hb dX8_reads_32 (by decide) (fun c_32 => ?_) (fun c_32 => ?_)
      · refine lv_iconst (v := 1) hx hb dX8_reads_81 (by decide) ?_
        refine f_ir X hlk hr (v := 1) rfl hP hS ?_ dX8_reads_82
        unfold a_X8_reads
        (first | rw [if_pos c_9] | rw [if_neg c_9] | rw [if_neg (Bool.eq_false_iff.mp c_9)] | skip)
        rw [hbt_23]
        (first | rw [if_pos c_32] | rw [if_neg c_32] | rw [if_neg (Bool.eq_false_iff.mp c_32)] | skip)
        (try dsimp only)
        first
          | done
          | exact ⟨rfl, rfl⟩
          | rfl
          | (simp only [c_32, if_true, if_false, and_self, and_true, true_and, not_true_eq_false, not_false_eq_true, and_false, false_and, or_true, true_or, or_false, false_or, or_self, Bool.false_eq_true, reduceCtorEq, nl10, nl20, nl30, nl40, nl50, nl60, nl70, nl12, nl13, nl21, nl23, nl31, nl32]; first | done | exact ⟨rfl, rfl⟩ | rfl)
          | contradiction
          | (simp only [c_32, if_true, if_false, and_self, and_true, true_and, not_true_eq_false, not_false_eq_true, and_false, false_and, or_true, true_or, or_false, false_or, or_self, Bool.false_eq_true, reduceCtorEq, nl10, nl20, nl30, nl40, nl50, nl60, nl70, nl12, nl13, nl21, nl23, nl31, nl32]; contradiction)
          | (exfalso; simp_all; done)
          | simp_all
      · have hlt9 : pl + i < en := isD_lt c_32
        refine lv_aload_n hx hb dX8_reads_35 rfl (lv_at hl 1 rfl) ?_
        refine lv_bipush (v := 10) hx hb dX8_reads_36 (by decide) ?_
        refine lv_aload_n hx hb dX8_reads_38 rfl (lv_at hl 1 rfl) ?_
        refine f_get X hP (T := TX8) (ci := 8) (k := 86) rfl inX8 rfl 35 (by decide) m_4_209 rfl (v := .int (D 86 35)) rfl dX8_reads_39 ?_
        refine lv_imul hx hb dX8_reads_42 ?_
        refine lv_aload_n hx hb dX8_reads_43 rfl (lv_at hl 1 rfl) ?_
        refine f_get X hP (T := TX8) (ci := 8) (k := 86) rfl inX8 rfl 25 (by decide) m_4_199 rfl (v := .ref (fad E 104)) rfl dX8_reads_44 ?_
        refine lv_aload_n hx hb dX8_reads_47 rfl (lv_at hl 1 rfl) ?_
        refine f_get X hP (T := TX8) (ci := 8) (k := 86) rfl inX8 rfl 32 (by decide) m_4_206 rfl (v := .int (nI (160 * s0))) (congrArg Value.int hDb) dX8_reads_48 ?_
        refine lv_aload_n hx hb dX8_reads_51 rfl (lv_at hl 1 rfl) ?_
        refine f_get X hP (T := TX8) (ci := 8) (k := 86) rfl inX8 rfl 33 (by decide) m_4_207 rfl (v := .int (nI (pl + i))) (congrArg Value.int hDp) dX8_reads_52 ?_
        refine lv_iadd hx hb dX8_reads_55 ?_
        refine f_topI (nI_add (160 * s0) (pl + i)) ?_
        refine f_lald X hP (k := 104) (n := 1280) (q := ((160 * s0) + (pl + i))) rfl rfl (fIx_nI (by omega) (by decide)) dX8_reads_56 ?_
        refine lv_l2i (v := ((L 104 ((160 * s0) + (pl + i))).toInt32)) hx hb dX8_reads_57 rfl ?_
        refine lv_iadd hx hb dX8_reads_58 ?_
        refine lv_bipush (v := 48) hx hb dX8_reads_59 (by decide) ?_
        refine lv_isub hx hb dX8_reads_61 ?_
        refine f_put X hP hS (T := TX8) (ci := 8) (k := 86) rfl inX8 rfl tyX8 tyX8_ok nmX8 35 (by decide) m_4_209 ⟨rfl, rfl⟩ rfl (v := (((10 * (D 86 35)) + ((L 104 ((160 * s0) + (pl + i))).toInt32)) - 48)) rfl rfl dX8_reads_62 (fun H locs hP hS => ?_)
        refine lv_aload_n hx hb dX8_reads_65 rfl (lv_at hl 1 rfl) ?_
        refine lv_dup hx hb dX8_reads_66 rfl ?_
        refine f_get X hP (T := TX8) (ci := 8) (k := 86) rfl inX8 rfl 33 (by decide) m_4_207 rfl (v := .int (nI (pl + i))) (congrArg Value.int ((up2_o _ _ (Or.inr (by decide))).trans hDp)) dX8_reads_67 ?_
        refine lv_iconst (v := 1) hx hb dX8_reads_70 (by decide) ?_
        refine lv_iadd hx hb dX8_reads_71 ?_
        refine f_topI (nI_add (pl + i) 1) ?_
        refine f_put X hP hS (T := TX8) (ci := 8) (k := 86) rfl inX8 rfl tyX8 tyX8_ok nmX8 33 (by decide) m_4_207 ⟨rfl, rfl⟩ rfl (v := (nI ((pl + i) + 1))) rfl rfl dX8_reads_72 (fun H locs hP hS => ?_)
        refine lv_iinc (v := (nI (i + 1))) (lv' := [(1, .int (nI (i + 1))), (0, .ref (fad E 86))]) hx hb dX8_reads_75 hl (k := 0) rfl (nI_1 _) (by decide) rfl (fun ls hl => ?_)
        refine lv_goto (tgt := 23) hx hb dX8_reads_78 (by decide) ?_
        exact ih_23 ((i + 1), (up2 (up2 D 86 35 (((10 * (D 86 35)) + ((L 104 ((160 * s0) + (pl + i))).toInt32)) - 48)) 86 33 (nI ((pl + i) + 1)))) _ _ _ (by show 2 - (i + 1) < 2 - i; omega) ⟨hP, hS, lv_sub hl [0, 1] rfl, (by omega), (by
          refine hbt_23.trans ?_
          (first | rw [if_pos c_32] | rw [if_neg c_32] | rw [if_neg (Bool.eq_false_iff.mp c_32)] | skip)
          first | done | rfl), ((up2_o _ _ (Or.inr (by decide))).trans ((up2_o _ _ (Or.inr (by decide))).trans hDb)), (up2_s _ _ _ _), ((up2_o _ _ (Or.inr (by decide))).trans ((up2_o _ _ (Or.inr (by decide))).trans hDe)), hlt9⟩
  · refine lv_aload_n hx hb dX8_reads_12 rfl (lv_at hl 0 rfl) ?_
    refine lv_aload_n hx hb dX8_reads_13 rfl (lv_at hl 0 rfl) ?_
    refine f_get X hP (T := TX8) (ci := 8) (k := 86) rfl inX8 rfl 33 (by decide) m_4_207 rfl (v := .int (nI pl)) (congrArg Value.int ((up2_o _ _ (Or.inr (by decide))).trans hpl)) dX8_reads_14 ?_
    refine f_iV (n := 1) X hP hS [.int (nI pl)] [] (c_X8_wrong l E (up2 M 86 35 0) L (nI pl)) m_5_192 wi_X8_wrong rfl rfl (by decide) (by decide +kernel) ⟨Nat.le_of_ble_eq_true rfl, Nat.le_of_ble_eq_true rfl⟩ rfl hl rfl (Nat.le_of_ble_eq_true rfl) ⟨Nat.zero_le _, Nat.zero_le _⟩ dX8_reads_17 (fun H locs hP hS => ?_)
    refine f_ir X hlk hr (v := 0) rfl hP hS ?_ dX8_reads_20
    unfold a_X8_reads
    (first | rw [if_pos c_9] | rw [if_neg c_9] | rw [if_neg (Bool.eq_false_iff.mp c_9)] | skip)
    (try dsimp only)
    first
      | done
      | exact ⟨rfl, rfl⟩
      | rfl
      | (simp only [c_9, if_true, if_false, and_self, and_true, true_and, not_true_eq_false, not_false_eq_true, and_false, false_and, or_true, true_or, or_false, false_or, or_self, Bool.false_eq_true, reduceCtorEq, nl10, nl20, nl30, nl40, nl50, nl60, nl70, nl12, nl13, nl21, nl23, nl31, nl32]; first | done | exact ⟨rfl, rfl⟩ | rfl)
      | contradiction
      | (simp only [c_9, if_true, if_false, and_self, and_true, true_and, not_true_eq_false, not_false_eq_true, and_false, false_and, or_true, true_or, or_false, false_or, or_self, Bool.false_eq_true, reduceCtorEq, nl10, nl20, nl30, nl40, nl50, nl60, nl70, nl12, nl13, nl21, nl23, nl31, nl32]; contradiction)
      | (exfalso; simp_all; done)
      | simp_all
