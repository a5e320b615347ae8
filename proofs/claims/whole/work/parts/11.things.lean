set_option maxHeartbeats 4000000 in
set_option maxRecDepth 100000 in
theorem c_X6_become (l : Launch) (E : fE) (M : Nat → Nat → Int32) (L : Nat → Nat → Int64) (w : Nat) (o : Nat) (hk_w : fsh w = 6) (hk_o : fsh o = 6) (hne : w ≠ o) : Met l yX6_become (wl yX6_become cX6_become 2 none) (fRm 0 0) (va_Pc [.ref (fad E w), .ref (fad E o)] (fPre E M L)) (fQv E (fun u => u = ((up2 (up2 (up2 (up2 (up2 M w 1 (M o 1)) w 2 (M o 2)) w 3 (M o 3)) w 4 (M o 4)) w 5 (M o 5)), L))) 0 0 (fA E) := by
  refine f_head (by decide) (Nat.le_of_ble_eq_true rfl) ?_
  intro pg ev s mi below meth cd ls X hr hlk hP hS hl
  have hx := X.1.1
  have hb := X.1.2.1
  have hl : lv_has ls 2 [(0, .ref (fad E w)), (1, .ref (fad E o))] := hl
  refine lv_aload_n hx hb dX6_become_0 rfl (lv_at hl 0 rfl) ?_
  refine lv_aload_n hx hb dX6_become_1 rfl (lv_at hl 1 rfl) ?_
  refine f_get X hP (T := TX6) (ci := 6) (k := o) hk_o inX6 rfl 1 (by decide) m_1_79 rfl (v := .int (M o 1)) rfl dX6_become_2 ?_
  refine f_put X hP hS (T := TX6) (ci := 6) (k := w) hk_w inX6 rfl tyX6 tyX6_ok nmX6 1 (by decide) m_1_79 ⟨rfl, rfl⟩ rfl (v := (M o 1)) rfl rfl dX6_become_5 (fun H locs hP hS => ?_)
  refine lv_aload_n hx hb dX6_become_8 rfl (lv_at hl 0 rfl) ?_
  refine lv_aload_n hx hb dX6_become_9 rfl (lv_at hl 1 rfl) ?_
  refine f_get X hP (T := TX6) (ci := 6) (k := o) hk_o inX6 rfl 2 (by decide) m_1_83 rfl (v := .int (M o 2)) (congrArg Value.int (up2_o _ _ (Or.inr (by decide)))) dX6_become_10 ?_
  refine f_put X hP hS (T := TX6) (ci := 6) (k := w) hk_w inX6 rfl tyX6 tyX6_ok nmX6 2 (by decide) m_1_83 ⟨rfl, rfl⟩ rfl (v := (M o 2)) rfl rfl dX6_become_13 (fun H locs hP hS => ?_)
  refine lv_aload_n hx hb dX6_become_16 rfl (lv_at hl 0 rfl) ?_
  refine lv_aload_n hx hb dX6_become_17 rfl (lv_at hl 1 rfl) ?_
  refine f_get X hP (T := TX6) (ci := 6) (k := o) hk_o inX6 rfl 3 (by decide) m_1_86 rfl (v := .int (M o 3)) (congrArg Value.int ((up2_o _ _ (Or.inr (by decide))).trans (up2_o _ _ (Or.inr (by decide))))) dX6_become_18 ?_
  refine f_put X hP hS (T := TX6) (ci := 6) (k := w) hk_w inX6 rfl tyX6 tyX6_ok nmX6 3 (by decide) m_1_86 ⟨rfl, rfl⟩ rfl (v := (M o 3)) rfl rfl dX6_become_21 (fun H locs hP hS => ?_)
  refine lv_aload_n hx hb dX6_become_24 rfl (lv_at hl 0 rfl) ?_
  refine lv_aload_n hx hb dX6_become_25 rfl (lv_at hl 1 rfl) ?_
  refine f_get X hP (T := TX6) (ci := 6) (k := o) hk_o inX6 rfl 4 (by decide) m_1_88 rfl (v := .int (M o 4)) (congrArg Value.int ((up2_o _ _ (Or.inr (by decide))).trans ((up2_o _ _ (Or.inr (by decide))).trans (up2_o _ _ (Or.inr (by decide)))))) dX6_become_26 ?_
  refine f_put X hP hS (T := TX6) (ci := 6) (k := w) hk_w inX6 rfl tyX6 tyX6_ok nmX6 4 (by decide) m_1_88 ⟨rfl, rfl⟩ rfl (v := (M o 4)) rfl rfl dX6_become_29 (fun H locs hP hS => ?_)
  refine lv_aload_n hx hb dX6_become_32 rfl (lv_at hl 0 rfl) ?_
  refine lv_aload_n hx hb dX6_become_33 rfl (lv_at hl 1 rfl) ?_
  refine f_get X hP (T := TX6) (ci := 6) (k := o) hk_o inX6 rfl 5 (by decide) m_1_90 rfl (v := .int (M o 5)) (congrArg Value.int ((up2_o _ _ (Or.inr (by decide))).trans ((up2_o _ _ (Or.inr (by decide))).trans ((up2_o _ _ (Or.inr (by decide))).trans (up2_o _ _ (Or.inr (by decide))))))) dX6_become_34 ?_
  refine f_put X hP hS (T := TX6) (ci := 6) (k := w) hk_w inX6 rfl tyX6 tyX6_ok nmX6 5 (by decide) m_1_90 ⟨rfl, rfl⟩ rfl (v := (M o 5)) rfl rfl dX6_become_37 (fun H locs hP hS => ?_)
  refine f_vr X hlk hr hP hS ?_ dX6_become_40
  show _ = _
  simp [up2_ne _ (Ne.symm hne)]

set_option maxHeartbeats 4000000 in
set_option maxRecDepth 100000 in
theorem c_X6_wouldHold (l : Launch) (E : fE) (M : Nat → Nat → Int32) (L : Nat → Nat → Int64) (w : Nat) (hope : Int32) (hk_w : fsh w = 6) : Met l yX6_wouldHold (wl yX6_wouldHold cX6_wouldHold 2 (some .int)) (fRm 1 21) (va_Pc [.ref (fad E w), .int hope] (fPre E M L)) (fQi E (fun r u => u = (M, L) ∧ r = wouldF (M w 1) (M w 2) (M w 4) hope)) 0 0 (fA E) := by
  refine f_head (by decide) (Nat.le_of_ble_eq_true rfl) ?_
  intro pg ev s mi below meth cd ls X hr hlk hP hS hl
  have hx := X.1.1
  have hb := X.1.2.1
  have hl : lv_has ls 2 [(0, .ref (fad E w)), (1, .int hope)] := hl
  refine lv_aload_n hx hb dX6_wouldHold_0 rfl (lv_at hl 0 rfl) ?_
  refine f_get X hP (T := TX6) (ci := 6) (k := w) hk_w inX6 rfl 1 (by decide) m_1_79 rfl (v := .int (M w 1)) rfl dX6_wouldHold_1 ?_
  by_cases s_4_1 : (M w 1) = 1
  · refine lv_tableIn (tgt := 44) hx hb dX6_wouldHold_4 (by rw [s_4_1]; decide) (by rw [s_4_1]; decide) (by rw [s_4_1]; rfl) (by decide) ?_
    refine lv_iconst (v := 2) hx hb dX6_wouldHold_44 (by decide) ?_
    refine lv_aload_n hx hb dX6_wouldHold_45 rfl (lv_at hl 0 rfl) ?_
    refine f_get X hP (T := TX6) (ci := 6) (k := w) hk_w inX6 rfl 4 (by decide) m_1_88 rfl (v := .int (M w 4)) rfl dX6_wouldHold_46 ?_
    refine lv_imul hx hb dX6_wouldHold_49 ?_
    refine f_ir X hlk hr (v := (2 * (M w 4))) rfl hP hS ?_ dX6_wouldHold_50
    refine ⟨rfl, ?_⟩; simp_all [wouldF]
  by_cases s_4_2 : (M w 1) = 2
  · refine lv_tableIn (tgt := 54) hx hb dX6_wouldHold_4 (by rw [s_4_2]; decide) (by rw [s_4_2]; decide) (by rw [s_4_2]; rfl) (by decide) ?_
    refine lv_aload_n hx hb dX6_wouldHold_54 rfl (lv_at hl 0 rfl) ?_
    refine f_get X hP (T := TX6) (ci := 6) (k := w) hk_w inX6 rfl 4 (by decide) m_1_88 rfl (v := .int (M w 4)) rfl dX6_wouldHold_55 ?_
    refine lv_aload_n hx hb dX6_wouldHold_58 rfl (lv_at hl 0 rfl) ?_
    refine f_get X hP (T := TX6) (ci := 6) (k := w) hk_w inX6 rfl 2 (by decide) m_1_83 rfl (v := .int (M w 2)) rfl dX6_wouldHold_59 ?_
    refine lv_iadd hx hb dX6_wouldHold_62 ?_
    refine f_ir X hlk hr (v := ((M w 4) + (M w 2))) rfl hP hS ?_ dX6_wouldHold_63
    refine ⟨rfl, ?_⟩; simp_all [wouldF]
  by_cases s_4_3 : (M w 1) = 3
  · refine lv_tableIn (tgt := 51) hx hb dX6_wouldHold_4 (by rw [s_4_3]; decide) (by rw [s_4_3]; decide) (by rw [s_4_3]; rfl) (by decide) ?_
    refine lv_bipush (v := 24) hx hb dX6_wouldHold_51 (by decide) ?_
    refine f_ir X hlk hr (v := 24) rfl hP hS ?_ dX6_wouldHold_53
    refine ⟨rfl, ?_⟩; simp_all [wouldF]
  by_cases s_4_4 : (M w 1) = 4
  · refine lv_tableIn (tgt := 80) hx hb dX6_wouldHold_4 (by rw [s_4_4]; decide) (by rw [s_4_4]; decide) (by rw [s_4_4]; rfl) (by decide) ?_
    refine lv_aload_n hx hb dX6_wouldHold_80 rfl (lv_at hl 0 rfl) ?_
    refine f_get X hP (T := TX6) (ci := 6) (k := w) hk_w inX6 rfl 4 (by decide) m_1_88 rfl (v := .int (M w 4)) rfl dX6_wouldHold_81 ?_
    refine lv_iconst (v := 1) hx hb dX6_wouldHold_84 (by decide) ?_
    refine lv_iadd hx hb dX6_wouldHold_85 ?_
    refine lv_iconst (v := 2) hx hb dX6_wouldHold_86 (by decide) ?_
    refine lv_idiv hx hb dX6_wouldHold_87 (by decide) ?_
    refine f_ir X hlk hr (v := (((M w 4) + 1) / 2)) rfl hP hS ?_ dX6_wouldHold_88
    refine ⟨rfl, ?_⟩; simp_all [wouldF]
  by_cases s_4_5 : (M w 1) = 5
  · refine lv_tableIn (tgt := 64) hx hb dX6_wouldHold_4 (by rw [s_4_5]; decide) (by rw [s_4_5]; decide) (by rw [s_4_5]; rfl) (by decide) ?_
    refine lv_iconst (v := 1) hx hb dX6_wouldHold_64 (by decide) ?_
    refine lv_aload_n hx hb dX6_wouldHold_65 rfl (lv_at hl 0 rfl) ?_
    refine f_get X hP (T := TX6) (ci := 6) (k := w) hk_w inX6 rfl 4 (by decide) m_1_88 rfl (v := .int (M w 4)) rfl dX6_wouldHold_66 ?_
    refine lv_aload_n hx hb dX6_wouldHold_69 rfl (lv_at hl 0 rfl) ?_
    refine f_get X hP (T := TX6) (ci := 6) (k := w) hk_w inX6 rfl 2 (by decide) m_1_83 rfl (v := .int (M w 2)) rfl dX6_wouldHold_70 ?_
    refine lv_iadd hx hb dX6_wouldHold_73 ?_
    refine lv_iconst (v := 1) hx hb dX6_wouldHold_74 (by decide) ?_
    refine lv_isub hx hb dX6_wouldHold_75 ?_
    refine va_mmax hx hb (X.1.2.2.1.trans hl.1.symm) X.1.2.2.2.1 (X.ht m_2_190) (X.ht m_2_191) (X.ht m_1_11) (X.ht m_2_192) (Nat.le_of_ble_eq_true rfl) (Nat.le_of_ble_eq_true rfl) (Nat.zero_le _) (Nat.zero_le _) dX6_wouldHold_76 ?_
    refine f_ir X hlk hr (v := (if 1 < (((M w 4) + (M w 2)) - 1) then (((M w 4) + (M w 2)) - 1) else 1)) rfl hP hS ?_ dX6_wouldHold_79
    refine ⟨rfl, ?_⟩; simp_all [wouldF]
  by_cases s_4_6 : (M w 1) = 6
  · refine lv_tableIn (tgt := 89) hx hb dX6_wouldHold_4 (by rw [s_4_6]; decide) (by rw [s_4_6]; decide) (by rw [s_4_6]; rfl) (by decide) ?_
    refine lv_aload_n hx hb dX6_wouldHold_89 rfl (lv_at hl 0 rfl) ?_
    refine f_get X hP (T := TX6) (ci := 6) (k := w) hk_w inX6 rfl 4 (by decide) m_1_88 rfl (v := .int (M w 4)) rfl dX6_wouldHold_90 ?_
    refine lv_iconst (v := 1) hx hb dX6_wouldHold_93 (by decide) ?_
    refine lv_iadd hx hb dX6_wouldHold_94 ?_
    refine lv_iconst (v := 2) hx hb dX6_wouldHold_95 (by decide) ?_
    refine lv_idiv hx hb dX6_wouldHold_96 (by decide) ?_
    refine lv_iload_n hx hb dX6_wouldHold_97 rfl (lv_at hl 1 rfl) ?_
    refine lv_iadd hx hb dX6_wouldHold_98 ?_
    refine f_ir X hlk hr (v := ((((M w 4) + 1) / 2) + hope)) rfl hP hS ?_ dX6_wouldHold_99
    refine ⟨rfl, ?_⟩; simp_all [wouldF]
  refine lv_tableOut (tgt := 100) hx hb dX6_wouldHold_4 (by have q0 := lv_neT s_4_1 (a := 1) rfl; have q1 := lv_neT s_4_2 (a := 2) rfl; have q2 := lv_neT s_4_3 (a := 3) rfl; have q3 := lv_neT s_4_4 (a := 4) rfl; have q4 := lv_neT s_4_5 (a := 5) rfl; have q5 := lv_neT s_4_6 (a := 6) rfl; omega) (by decide) ?_
  refine lv_aload_n hx hb dX6_wouldHold_100 rfl (lv_at hl 0 rfl) ?_
  refine f_get X hP (T := TX6) (ci := 6) (k := w) hk_w inX6 rfl 4 (by decide) m_1_88 rfl (v := .int (M w 4)) rfl dX6_wouldHold_101 ?_
  refine f_ir X hlk hr (v := (M w 4)) rfl hP hS ?_ dX6_wouldHold_104
  refine ⟨rfl, ?_⟩; simp_all [wouldF]

set_option maxHeartbeats 4000000 in
set_option maxRecDepth 100000 in
theorem c_X6_quartersHeld (l : Launch) (E : fE) (M : Nat → Nat → Int32) (L : Nat → Nat → Int64) (w : Nat) (hope : Int32) (hk_w : fsh w = 6) : Met l yX6_quartersHeld (wl yX6_quartersHeld cX6_quartersHeld 2 (some .int)) (fRm 2 42) (va_Pc [.ref (fad E w), .int hope] (fPre E M L)) (fQi E (fun r u => u = (M, L) ∧ r = holdF (M w 1) (M w 2) (M w 4) hope)) 0 0 (fA E) := by
  refine f_head (by decide) (Nat.le_of_ble_eq_true rfl) ?_
  intro pg ev s mi below meth cd ls X hr hlk hP hS hl
  have hx := X.1.1
  have hb := X.1.2.1
  have hl : lv_has ls 2 [(0, .ref (fad E w)), (1, .int hope)] := hl
  refine lv_bipush (v := 24) hx hb dX6_quartersHeld_0 (by decide) ?_
  refine lv_aload_n hx hb dX6_quartersHeld_2 rfl (lv_at hl 0 rfl) ?_
  refine lv_iload_n hx hb dX6_quartersHeld_3 rfl (lv_at hl 1 rfl) ?_
  refine f_iV (n := 1) X hP hS [.int hope] [.int 24] (c_X6_wouldHold l E M L w hope hk_w) m_2_186 wi_X6_wouldHold hk_w rfl (by decide) (by decide +kernel) ⟨Nat.le_of_ble_eq_true rfl, Nat.le_of_ble_eq_true rfl⟩ rfl hl rfl (Nat.le_of_ble_eq_true rfl) ⟨Nat.zero_le _, Nat.zero_le _⟩ dX6_quartersHeld_4 (fun H locs hP hS => ?_)
  refine va_mmin hx hb (X.1.2.2.1.trans hl.1.symm) X.1.2.2.2.1 (X.ht m_2_193) (X.ht m_2_194) (X.ht m_1_11) (X.ht m_2_195) (Nat.le_of_ble_eq_true rfl) (Nat.le_of_ble_eq_true rfl) (Nat.zero_le _) (Nat.zero_le _) dX6_quartersHeld_7 ?_
  exact f_ir X hlk hr (v := (if (wouldF (M w 1) (M w 2) (M w 4) hope) < 24 then (wouldF (M w 1) (M w 2) (M w 4) hope) else 24)) rfl hP hS ⟨rfl, rfl⟩ dX6_quartersHeld_10

set_option maxHeartbeats 4000000 in
set_option maxRecDepth 100000 in
theorem c_X6_masterWage (l : Launch) (E : fE) (M : Nat → Nat → Int32) (L : Nat → Nat → Int64) (w : Nat) (n : Int32) (hk_w : fsh w = 6) : Met l yX6_masterWage (wl yX6_masterWage cX6_masterWage 2 (some .int)) (fRm 0 0) (va_Pc [.ref (fad E w), .int n] (fPre E M L)) (fQi E (fun r u => u = (M, L) ∧ r = masterF (M w 2) (M w 3) n)) 0 0 (fA E) := by
  refine f_head (by decide) (Nat.le_of_ble_eq_true rfl) ?_
  intro pg ev s mi below meth cd ls X hr hlk hP hS hl
  have hx := X.1.1
  have hb := X.1.2.1
  have hl : lv_has ls 2 [(0, .ref (fad E w)), (1, .int n)] := hl
  refine lv_iload_n hx hb dX6_masterWage_0 rfl (lv_at hl 1 rfl) ?_
  refine lv_if_ne (tgt := 8) hx hb dX6_masterWage_1 (by decide) (fun c_1 => ?_) (fun c_1 => ?_)
  · refine lv_aload_n hx hb dX6_masterWage_8 rfl (lv_at hl 0 rfl) ?_
    refine f_get X hP (T := TX6) (ci := 6) (k := w) hk_w inX6 rfl 3 (by decide) m_1_86 rfl (v := .int (M w 3)) rfl dX6_masterWage_9 ?_
    refine lv_iload_n hx hb dX6_masterWage_12 rfl (lv_at hl 1 rfl) ?_
    refine lv_imul hx hb dX6_masterWage_13 ?_
    refine lv_aload_n hx hb dX6_masterWage_14 rfl (lv_at hl 0 rfl) ?_
    refine f_get X hP (T := TX6) (ci := 6) (k := w) hk_w inX6 rfl 2 (by decide) m_1_83 rfl (v := .int (M w 2)) rfl dX6_masterWage_15 ?_
    refine lv_iadd hx hb dX6_masterWage_18 ?_
    refine f_ir X hlk hr (v := (((M w 3) * n) + (M w 2))) rfl hP hS ?_ dX6_masterWage_19
    refine ⟨rfl, ?_⟩; simp_all [masterF]
  · refine lv_iconst (v := 0) hx hb dX6_masterWage_4 (by decide) ?_
    refine lv_goto (tgt := 19) hx hb dX6_masterWage_5 (by decide) ?_
    refine f_ir X hlk hr (v := 0) rfl hP hS ?_ dX6_masterWage_19
    refine ⟨rfl, ?_⟩; simp_all [masterF]

set_option maxHeartbeats 4000000 in
set_option maxRecDepth 100000 in
theorem c_X6_loverWage (l : Launch) (E : fE) (M : Nat → Nat → Int32) (L : Nat → Nat → Int64) (w : Nat) (n : Int32) (hk_w : fsh w = 6) : Met l yX6_loverWage (wl yX6_loverWage cX6_loverWage 2 (some .int)) (fRm 0 0) (va_Pc [.ref (fad E w), .int n] (fPre E M L)) (fQi E (fun r u => u = (M, L) ∧ r = (((M w 3) * n + 1) / 2))) 0 0 (fA E) := by
  refine f_head (by decide) (Nat.le_of_ble_eq_true rfl) ?_
  intro pg ev s mi below meth cd ls X hr hlk hP hS hl
  have hx := X.1.1
  have hb := X.1.2.1
  have hl : lv_has ls 2 [(0, .ref (fad E w)), (1, .int n)] := hl
  refine lv_aload_n hx hb dX6_loverWage_0 rfl (lv_at hl 0 rfl) ?_
  refine f_get X hP (T := TX6) (ci := 6) (k := w) hk_w inX6 rfl 3 (by decide) m_1_86 rfl (v := .int (M w 3)) rfl dX6_loverWage_1 ?_
  refine lv_iload_n hx hb dX6_loverWage_4 rfl (lv_at hl 1 rfl) ?_
  refine lv_imul hx hb dX6_loverWage_5 ?_
  refine lv_iconst (v := 1) hx hb dX6_loverWage_6 (by decide) ?_
  refine lv_iadd hx hb dX6_loverWage_7 ?_
  refine lv_iconst (v := 2) hx hb dX6_loverWage_8 (by decide) ?_
  refine lv_idiv hx hb dX6_loverWage_9 (by decide) ?_
  exact f_ir X hlk hr (v := ((((M w 3) * n) + 1) / 2)) rfl hP hS ⟨rfl, rfl⟩ dX6_loverWage_10

set_option maxHeartbeats 4000000 in
set_option maxRecDepth 100000 in
theorem c_X6_wageFor (l : Launch) (E : fE) (M : Nat → Nat → Int32) (L : Nat → Nat → Int64) (w : Nat) (n : Int32) (hope : Int32) (hk_w : fsh w = 6) : Met l yX6_wageFor (wl yX6_wageFor cX6_wageFor 3 (some .int)) (fRm 1 21) (va_Pc [.ref (fad E w), .int n, .int hope] (fPre E M L)) (fQi E (fun r u => u = (M, L) ∧ r = wageF (M w 1) (M w 2) (M w 3) (M w 4) hope n)) 0 0 (fA E) := by
  refine f_head (by decide) (Nat.le_of_ble_eq_true rfl) ?_
  intro pg ev s mi below meth cd ls X hr hlk hP hS hl
  have hx := X.1.1
  have hb := X.1.2.1
  have hl : lv_has ls 3 [(0, .ref (fad E w)), (1, .int n), (2, .int hope)] := hl
  refine lv_aload_n hx hb dX6_wageFor_0 rfl (lv_at hl 0 rfl) ?_
  refine f_get X hP (T := TX6) (ci := 6) (k := w) hk_w inX6 rfl 1 (by decide) m_1_79 rfl (v := .int (M w 1)) rfl dX6_wageFor_1 ?_
  by_cases s_4_1 : (M w 1) = 1
  · refine lv_tableIn (tgt := 44) hx hb dX6_wageFor_4 (by rw [s_4_1]; decide) (by rw [s_4_1]; decide) (by rw [s_4_1]; rfl) (by decide) ?_
    refine lv_aload_n hx hb dX6_wageFor_44 rfl (lv_at hl 0 rfl) ?_
    refine lv_iload_n hx hb dX6_wageFor_45 rfl (lv_at hl 1 rfl) ?_
    refine f_iV (n := 1) X hP hS [.int n] [] (c_X6_masterWage l E M L w n hk_w) m_2_208 wi_X6_masterWage hk_w rfl (by decide) (by decide +kernel) ⟨Nat.le_of_ble_eq_true rfl, Nat.le_of_ble_eq_true rfl⟩ rfl hl rfl (Nat.le_of_ble_eq_true rfl) ⟨Nat.zero_le _, Nat.zero_le _⟩ dX6_wageFor_46 (fun H locs hP hS => ?_)
    refine f_ir X hlk hr (v := (masterF (M w 2) (M w 3) n)) rfl hP hS ?_ dX6_wageFor_49
    refine ⟨rfl, ?_⟩; simp_all [wageF]
  by_cases s_4_2 : (M w 1) = 2
  · refine lv_tableIn (tgt := 63) hx hb dX6_wageFor_4 (by rw [s_4_2]; decide) (by rw [s_4_2]; decide) (by rw [s_4_2]; rfl) (by decide) ?_
    refine lv_aload_n hx hb dX6_wageFor_63 rfl (lv_at hl 0 rfl) ?_
    refine lv_iload_n hx hb dX6_wageFor_64 rfl (lv_at hl 1 rfl) ?_
    refine f_iV (n := 1) X hP hS [.int n] [] (c_X6_loverWage l E M L w n hk_w) m_2_212 wi_X6_loverWage hk_w rfl (by decide) (by decide +kernel) ⟨Nat.le_of_ble_eq_true rfl, Nat.le_of_ble_eq_true rfl⟩ rfl hl rfl (Nat.le_of_ble_eq_true rfl) ⟨Nat.zero_le _, Nat.zero_le _⟩ dX6_wageFor_65 (fun H locs hP hS => ?_)
    refine f_ir X hlk hr (v := (((M w 3) * n + 1) / 2)) rfl hP hS ?_ dX6_wageFor_68
    refine ⟨rfl, ?_⟩; simp_all [wageF]
  by_cases s_4_3 : (M w 1) = 3
  · refine lv_tableIn (tgt := 50) hx hb dX6_wageFor_4 (by rw [s_4_3]; decide) (by rw [s_4_3]; decide) (by rw [s_4_3]; rfl) (by decide) ?_
    refine lv_aload_n hx hb dX6_wageFor_50 rfl (lv_at hl 0 rfl) ?_
    refine lv_iload_n hx hb dX6_wageFor_51 rfl (lv_at hl 1 rfl) ?_
    refine lv_aload_n hx hb dX6_wageFor_52 rfl (lv_at hl 0 rfl) ?_
    refine f_get X hP (T := TX6) (ci := 6) (k := w) hk_w inX6 rfl 4 (by decide) m_1_88 rfl (v := .int (M w 4)) rfl dX6_wageFor_53 ?_
    refine va_mmin hx hb (X.1.2.2.1.trans hl.1.symm) X.1.2.2.2.1 (X.ht m_2_193) (X.ht m_2_194) (X.ht m_1_11) (X.ht m_2_195) (Nat.le_of_ble_eq_true rfl) (Nat.le_of_ble_eq_true rfl) (Nat.zero_le _) (Nat.zero_le _) dX6_wageFor_56 ?_
    refine f_iV (n := 1) X hP hS [.int (if (M w 4) < n then (M w 4) else n)] [] (c_X6_masterWage l E M L w (if (M w 4) < n then (M w 4) else n) hk_w) m_2_208 wi_X6_masterWage hk_w rfl (by decide) (by decide +kernel) ⟨Nat.le_of_ble_eq_true rfl, Nat.le_of_ble_eq_true rfl⟩ rfl hl rfl (Nat.le_of_ble_eq_true rfl) ⟨Nat.zero_le _, Nat.zero_le _⟩ dX6_wageFor_59 (fun H locs hP hS => ?_)
    refine f_ir X hlk hr (v := (masterF (M w 2) (M w 3) (if (M w 4) < n then (M w 4) else n))) rfl hP hS ?_ dX6_wageFor_62
    refine ⟨rfl, ?_⟩; simp_all [wageF]
  by_cases s_4_4 : (M w 1) = 4
  · refine lv_tableIn (tgt := 85) hx hb dX6_wageFor_4 (by rw [s_4_4]; decide) (by rw [s_4_4]; decide) (by rw [s_4_4]; rfl) (by decide) ?_
    refine lv_aload_n hx hb dX6_wageFor_85 rfl (lv_at hl 0 rfl) ?_
    refine f_get X hP (T := TX6) (ci := 6) (k := w) hk_w inX6 rfl 3 (by decide) m_1_86 rfl (v := .int (M w 3)) rfl dX6_wageFor_86 ?_
    refine lv_iconst (v := 0) hx hb dX6_wageFor_89 (by decide) ?_
    refine lv_iload_n hx hb dX6_wageFor_90 rfl (lv_at hl 1 rfl) ?_
    refine lv_aload_n hx hb dX6_wageFor_91 rfl (lv_at hl 0 rfl) ?_
    refine f_get X hP (T := TX6) (ci := 6) (k := w) hk_w inX6 rfl 2 (by decide) m_1_83 rfl (v := .int (M w 2)) rfl dX6_wageFor_92 ?_
    refine lv_isub hx hb dX6_wageFor_95 ?_
    refine va_mmax hx hb (X.1.2.2.1.trans hl.1.symm) X.1.2.2.2.1 (X.ht m_2_190) (X.ht m_2_191) (X.ht m_1_11) (X.ht m_2_192) (Nat.le_of_ble_eq_true rfl) (Nat.le_of_ble_eq_true rfl) (Nat.zero_le _) (Nat.zero_le _) dX6_wageFor_96 ?_
    refine lv_imul hx hb dX6_wageFor_99 ?_
    refine f_ir X hlk hr (v := ((M w 3) * (if 0 < (n - (M w 2)) then (n - (M w 2)) else 0))) rfl hP hS ?_ dX6_wageFor_100
    refine ⟨rfl, ?_⟩; simp_all [wageF]
  by_cases s_4_5 : (M w 1) = 5
  · refine lv_tableIn (tgt := 69) hx hb dX6_wageFor_4 (by rw [s_4_5]; decide) (by rw [s_4_5]; decide) (by rw [s_4_5]; rfl) (by decide) ?_
    refine lv_iload_n hx hb dX6_wageFor_69 rfl (lv_at hl 1 rfl) ?_
    refine lv_if_ne (tgt := 77) hx hb dX6_wageFor_70 (by decide) (fun c_70 => ?_) (fun c_70 => ?_)
    · refine lv_aload_n hx hb dX6_wageFor_77 rfl (lv_at hl 0 rfl) ?_
      refine lv_iload_n hx hb dX6_wageFor_78 rfl (lv_at hl 1 rfl) ?_
      refine f_iV (n := 1) X hP hS [.int n] [] (c_X6_loverWage l E M L w n hk_w) m_2_212 wi_X6_loverWage hk_w rfl (by decide) (by decide +kernel) ⟨Nat.le_of_ble_eq_true rfl, Nat.le_of_ble_eq_true rfl⟩ rfl hl rfl (Nat.le_of_ble_eq_true rfl) ⟨Nat.zero_le _, Nat.zero_le _⟩ dX6_wageFor_79 (fun H locs hP hS => ?_)
      refine lv_iconst (v := 1) hx hb dX6_wageFor_82 (by decide) ?_
      refine lv_iadd hx hb dX6_wageFor_83 ?_
      refine f_ir X hlk hr (v := ((((M w 3) * n + 1) / 2) + 1)) rfl hP hS ?_ dX6_wageFor_84
      refine ⟨rfl, ?_⟩; simp_all [wageF]
    · refine lv_iconst (v := 0) hx hb dX6_wageFor_73 (by decide) ?_
      refine lv_goto (tgt := 84) hx hb dX6_wageFor_74 (by decide) ?_
      refine f_ir X hlk hr (v := 0) rfl hP hS ?_ dX6_wageFor_84
      refine ⟨rfl, ?_⟩; simp_all [wageF]
  by_cases s_4_6 : (M w 1) = 6
  · refine lv_tableIn (tgt := 101) hx hb dX6_wageFor_4 (by rw [s_4_6]; decide) (by rw [s_4_6]; decide) (by rw [s_4_6]; rfl) (by decide) ?_
    refine lv_aload_n hx hb dX6_wageFor_101 rfl (lv_at hl 0 rfl) ?_
    refine f_get X hP (T := TX6) (ci := 6) (k := w) hk_w inX6 rfl 3 (by decide) m_1_86 rfl (v := .int (M w 3)) rfl dX6_wageFor_102 ?_
    refine lv_iconst (v := 0) hx hb dX6_wageFor_105 (by decide) ?_
    refine lv_iload_n hx hb dX6_wageFor_106 rfl (lv_at hl 1 rfl) ?_
    refine lv_aload_n hx hb dX6_wageFor_107 rfl (lv_at hl 0 rfl) ?_
    refine f_get X hP (T := TX6) (ci := 6) (k := w) hk_w inX6 rfl 2 (by decide) m_1_83 rfl (v := .int (M w 2)) rfl dX6_wageFor_108 ?_
    refine lv_isub hx hb dX6_wageFor_111 ?_
    refine va_mmax hx hb (X.1.2.2.1.trans hl.1.symm) X.1.2.2.2.1 (X.ht m_2_190) (X.ht m_2_191) (X.ht m_1_11) (X.ht m_2_192) (Nat.le_of_ble_eq_true rfl) (Nat.le_of_ble_eq_true rfl) (Nat.zero_le _) (Nat.zero_le _) dX6_wageFor_112 ?_
    refine lv_imul hx hb dX6_wageFor_115 ?_
    refine lv_iload_n hx hb dX6_wageFor_116 rfl (lv_at hl 2 rfl) ?_
    refine lv_iload_n hx hb dX6_wageFor_117 rfl (lv_at hl 1 rfl) ?_
    refine lv_imul hx hb dX6_wageFor_118 ?_
    refine lv_iadd hx hb dX6_wageFor_119 ?_
    refine f_ir X hlk hr (v := (((M w 3) * (if 0 < (n - (M w 2)) then (n - (M w 2)) else 0)) + (hope * n))) rfl hP hS ?_ dX6_wageFor_120
    refine ⟨rfl, ?_⟩; simp_all [wageF]
  refine lv_tableOut (tgt := 121) hx hb dX6_wageFor_4 (by have q0 := lv_neT s_4_1 (a := 1) rfl; have q1 := lv_neT s_4_2 (a := 2) rfl; have q2 := lv_neT s_4_3 (a := 3) rfl; have q3 := lv_neT s_4_4 (a := 4) rfl; have q4 := lv_neT s_4_5 (a := 5) rfl; have q5 := lv_neT s_4_6 (a := 6) rfl; omega) (by decide) ?_
  refine lv_aload_n hx hb dX6_wageFor_121 rfl (lv_at hl 0 rfl) ?_
  refine f_get X hP (T := TX6) (ci := 6) (k := w) hk_w inX6 rfl 3 (by decide) m_1_86 rfl (v := .int (M w 3)) rfl dX6_wageFor_122 ?_
  refine lv_iload_n hx hb dX6_wageFor_125 rfl (lv_at hl 1 rfl) ?_
  refine lv_imul hx hb dX6_wageFor_126 ?_
  refine f_ir X hlk hr (v := ((M w 3) * n)) rfl hP hS ?_ dX6_wageFor_127
  refine ⟨rfl, ?_⟩; simp_all [wageF]

set_option maxHeartbeats 4000000 in
set_option maxRecDepth 100000 in
theorem c_X6_sight (l : Launch) (E : fE) (M : Nat → Nat → Int32) (L : Nat → Nat → Int64) (w : Nat) (hk_w : fsh w = 6) : Met l yX6_sight (wl yX6_sight cX6_sight 1 (some .int)) (fRm 0 0) (va_Pc [.ref (fad E w)] (fPre E M L)) (fQi E (fun r u => u = (M, L) ∧ r = sightF (M w 1))) 0 0 (fA E) := by
  refine f_head (by decide) (Nat.le_of_ble_eq_true rfl) ?_
  intro pg ev s mi below meth cd ls X hr hlk hP hS hl
  have hx := X.1.1
  have hb := X.1.2.1
  have hl : lv_has ls 1 [(0, .ref (fad E w))] := hl
  refine lv_aload_n hx hb dX6_sight_0 rfl (lv_at hl 0 rfl) ?_
  refine f_get X hP (T := TX6) (ci := 6) (k := w) hk_w inX6 rfl 1 (by decide) m_1_79 rfl (v := .int (M w 1)) rfl dX6_sight_1 ?_
  by_cases s_4_1 : (M w 1) = 1
  · refine lv_lookup (off := 36) (tgt := 40) hx hb dX6_sight_4 (by decide) (by rw [s_4_1] <;> rfl) (by decide) ?_
    refine lv_iconst (v := 1) hx hb dX6_sight_40 (by decide) ?_
    refine f_ir X hlk hr (v := 1) rfl hP hS ?_ dX6_sight_41
    refine ⟨rfl, ?_⟩; simp_all [sightF]
  by_cases s_4_3 : (M w 1) = 3
  · refine lv_lookup (off := 40) (tgt := 44) hx hb dX6_sight_4 (by decide) (by rw [s_4_3] <;> rfl) (by decide) ?_
    refine lv_iconst (v := 2) hx hb dX6_sight_44 (by decide) ?_
    refine f_ir X hlk hr (v := 2) rfl hP hS ?_ dX6_sight_45
    refine ⟨rfl, ?_⟩; simp_all [sightF]
  by_cases s_4_6 : (M w 1) = 6
  · refine lv_lookup (off := 38) (tgt := 42) hx hb dX6_sight_4 (by decide) (by rw [s_4_6] <;> rfl) (by decide) ?_
    refine lv_iconst (v := 1) hx hb dX6_sight_42 (by decide) ?_
    refine f_ir X hlk hr (v := 1) rfl hP hS ?_ dX6_sight_43
    refine ⟨rfl, ?_⟩; simp_all [sightF]
  refine lv_lookup (off := 42) (tgt := 46) hx hb dX6_sight_4 (by decide) ((lv_osw (a := 1) s_4_1 rfl).trans ((lv_osw (a := 3) s_4_3 rfl).trans ((lv_osw (a := 6) s_4_6 rfl).trans rfl))) (by decide) ?_
  refine lv_iconst (v := 0) hx hb dX6_sight_46 (by decide) ?_
  refine f_ir X hlk hr (v := 0) rfl hP hS ?_ dX6_sight_47
  refine ⟨rfl, ?_⟩; simp_all [sightF]

set_option maxHeartbeats 4000000 in
set_option maxRecDepth 100000 in
theorem c_X6_wordAs (l : Launch) (E : fE) (M : Nat → Nat → Int32) (L : Nat → Nat → Int64) (w : Nat) (t : Int32) (hk_w : fsh w = 6) : Met l yX6_wordAs (wl yX6_wordAs cX6_wordAs 2 (some .int)) (fRm 0 0) (va_Pc [.ref (fad E w), .int t] (fPre E M L)) (fQi E (fun r u => u = (M, L) ∧ r = wordF t (M w 2) (M w 3) (M w 4) (M w 5))) 0 0 (fA E) := by
  refine f_head (by decide) (Nat.le_of_ble_eq_true rfl) ?_
  intro pg ev s mi below meth cd ls X hr hlk hP hS hl
  have hx := X.1.1
  have hb := X.1.2.1
  have hl : lv_has ls 2 [(0, .ref (fad E w)), (1, .int t)] := hl
  refine lv_iload_n hx hb dX6_wordAs_0 rfl (lv_at hl 1 rfl) ?_
  by_cases s_1_1 : t = 1
  · refine lv_tableIn (tgt := 40) hx hb dX6_wordAs_1 (by rw [s_1_1]; decide) (by rw [s_1_1]; decide) (by rw [s_1_1]; rfl) (by decide) ?_
    refine lv_aload_n hx hb dX6_wordAs_40 rfl (lv_at hl 0 rfl) ?_
    refine f_get X hP (T := TX6) (ci := 6) (k := w) hk_w inX6 rfl 4 (by decide) m_1_88 rfl (v := .int (M w 4)) rfl dX6_wordAs_41 ?_
    refine f_ir X hlk hr (v := (M w 4)) rfl hP hS ?_ dX6_wordAs_44
    refine ⟨rfl, ?_⟩; simp_all [wordF]
  by_cases s_1_2 : t = 2
  · refine lv_tableIn (tgt := 50) hx hb dX6_wordAs_1 (by rw [s_1_2]; decide) (by rw [s_1_2]; decide) (by rw [s_1_2]; rfl) (by decide) ?_
    refine lv_aload_n hx hb dX6_wordAs_50 rfl (lv_at hl 0 rfl) ?_
    refine f_get X hP (T := TX6) (ci := 6) (k := w) hk_w inX6 rfl 2 (by decide) m_1_83 rfl (v := .int (M w 2)) rfl dX6_wordAs_51 ?_
    refine f_ir X hlk hr (v := (M w 2)) rfl hP hS ?_ dX6_wordAs_54
    refine ⟨rfl, ?_⟩; simp_all [wordF]
  by_cases s_1_3 : t = 3
  · refine lv_tableIn (tgt := 45) hx hb dX6_wordAs_1 (by rw [s_1_3]; decide) (by rw [s_1_3]; decide) (by rw [s_1_3]; rfl) (by decide) ?_
    refine lv_aload_n hx hb dX6_wordAs_45 rfl (lv_at hl 0 rfl) ?_
    refine f_get X hP (T := TX6) (ci := 6) (k := w) hk_w inX6 rfl 4 (by decide) m_1_88 rfl (v := .int (M w 4)) rfl dX6_wordAs_46 ?_
    refine f_ir X hlk hr (v := (M w 4)) rfl hP hS ?_ dX6_wordAs_49
    refine ⟨rfl, ?_⟩; simp_all [wordF]
  by_cases s_1_4 : t = 4
  · refine lv_tableIn (tgt := 60) hx hb dX6_wordAs_1 (by rw [s_1_4]; decide) (by rw [s_1_4]; decide) (by rw [s_1_4]; rfl) (by decide) ?_
    refine lv_aload_n hx hb dX6_wordAs_60 rfl (lv_at hl 0 rfl) ?_
    refine f_get X hP (T := TX6) (ci := 6) (k := w) hk_w inX6 rfl 3 (by decide) m_1_86 rfl (v := .int (M w 3)) rfl dX6_wordAs_61 ?_
    refine f_ir X hlk hr (v := (M w 3)) rfl hP hS ?_ dX6_wordAs_64
    refine ⟨rfl, ?_⟩; simp_all [wordF]
  by_cases s_1_5 : t = 5
  · refine lv_tableIn (tgt := 55) hx hb dX6_wordAs_1 (by rw [s_1_5]; decide) (by rw [s_1_5]; decide) (by rw [s_1_5]; rfl) (by decide) ?_
    refine lv_aload_n hx hb dX6_wordAs_55 rfl (lv_at hl 0 rfl) ?_
    refine f_get X hP (T := TX6) (ci := 6) (k := w) hk_w inX6 rfl 2 (by decide) m_1_83 rfl (v := .int (M w 2)) rfl dX6_wordAs_56 ?_
    refine f_ir X hlk hr (v := (M w 2)) rfl hP hS ?_ dX6_wordAs_59
    refine ⟨rfl, ?_⟩; simp_all [wordF]
  by_cases s_1_6 : t = 6
  · refine lv_tableIn (tgt := 65) hx hb dX6_wordAs_1 (by rw [s_1_6]; decide) (by rw [s_1_6]; decide) (by rw [s_1_6]; rfl) (by decide) ?_
    refine lv_aload_n hx hb dX6_wordAs_65 rfl (lv_at hl 0 rfl) ?_
    refine f_get X hP (T := TX6) (ci := 6) (k := w) hk_w inX6 rfl 3 (by decide) m_1_86 rfl (v := .int (M w 3)) rfl dX6_wordAs_66 ?_
    refine f_ir X hlk hr (v := (M w 3)) rfl hP hS ?_ dX6_wordAs_69
    refine ⟨rfl, ?_⟩; simp_all [wordF]
  refine lv_tableOut (tgt := 70) hx hb dX6_wordAs_1 (by have q0 := lv_neT s_1_1 (a := 1) rfl; have q1 := lv_neT s_1_2 (a := 2) rfl; have q2 := lv_neT s_1_3 (a := 3) rfl; have q3 := lv_neT s_1_4 (a := 4) rfl; have q4 := lv_neT s_1_5 (a := 5) rfl; have q5 := lv_neT s_1_6 (a := 6) rfl; omega) (by decide) ?_
  refine lv_aload_n hx hb dX6_wordAs_70 rfl (lv_at hl 0 rfl) ?_
  refine f_get X hP (T := TX6) (ci := 6) (k := w) hk_w inX6 rfl 5 (by decide) m_1_90 rfl (v := .int (M w 5)) rfl dX6_wordAs_71 ?_
  refine f_ir X hlk hr (v := (M w 5)) rfl hP hS ?_ dX6_wordAs_74
  refine ⟨rfl, ?_⟩; simp_all [wordF]

set_option maxHeartbeats 4000000 in
set_option maxRecDepth 100000 in
theorem c_X6_tell (l : Launch) (E : fE) (M : Nat → Nat → Int32) (L : Nat → Nat → Int64) (w : Nat) (what : Int32) (hope : Int32) (hk_w : fsh w = 6) : Met l yX6_tell (wl yX6_tell cX6_tell 3 (some .int)) (fRm 3 63) (va_Pc [.ref (fad E w), .int what, .int hope] (fPre E M L)) (fQi E (fun r u => u = (M, L) ∧ r = (if what = 0 then (M w 1) else if what = 1 then (M w 2) else if what = 2 then (M w 3) else if what = 3 then (M w 4) else if what = 4 then (M w 5) else if what = 5 then holdF (M w 1) (M w 2) (M w 4) hope else sightF (M w 1)))) 0 0 (fA E) := by
  refine f_head (by decide) (Nat.le_of_ble_eq_true rfl) ?_
  intro pg ev s mi below meth cd ls X hr hlk hP hS hl
  have hx := X.1.1
  have hb := X.1.2.1
  have hl : lv_has ls 3 [(0, .ref (fad E w)), (1, .int what), (2, .int hope)] := hl
  refine lv_iload_n hx hb dX6_tell_0 rfl (lv_at hl 1 rfl) ?_
  by_cases s_1_0 : what = 0
  · refine lv_tableIn (tgt := 40) hx hb dX6_tell_1 (by rw [s_1_0]; decide) (by rw [s_1_0]; decide) (by rw [s_1_0]; rfl) (by decide) ?_
    refine lv_aload_n hx hb dX6_tell_40 rfl (lv_at hl 0 rfl) ?_
    refine f_get X hP (T := TX6) (ci := 6) (k := w) hk_w inX6 rfl 1 (by decide) m_1_79 rfl (v := .int (M w 1)) rfl dX6_tell_41 ?_
    refine f_ir X hlk hr (v := (M w 1)) rfl hP hS ?_ dX6_tell_44
    refine ⟨rfl, ?_⟩; simp_all
  by_cases s_1_1 : what = 1
  · refine lv_tableIn (tgt := 45) hx hb dX6_tell_1 (by rw [s_1_1]; decide) (by rw [s_1_1]; decide) (by rw [s_1_1]; rfl) (by decide) ?_
    refine lv_aload_n hx hb dX6_tell_45 rfl (lv_at hl 0 rfl) ?_
    refine f_get X hP (T := TX6) (ci := 6) (k := w) hk_w inX6 rfl 2 (by decide) m_1_83 rfl (v := .int (M w 2)) rfl dX6_tell_46 ?_
    refine f_ir X hlk hr (v := (M w 2)) rfl hP hS ?_ dX6_tell_49
    refine ⟨rfl, ?_⟩; simp_all
  by_cases s_1_2 : what = 2
  · refine lv_tableIn (tgt := 50) hx hb dX6_tell_1 (by rw [s_1_2]; decide) (by rw [s_1_2]; decide) (by rw [s_1_2]; rfl) (by decide) ?_
    refine lv_aload_n hx hb dX6_tell_50 rfl (lv_at hl 0 rfl) ?_
    refine f_get X hP (T := TX6) (ci := 6) (k := w) hk_w inX6 rfl 3 (by decide) m_1_86 rfl (v := .int (M w 3)) rfl dX6_tell_51 ?_
    refine f_ir X hlk hr (v := (M w 3)) rfl hP hS ?_ dX6_tell_54
    refine ⟨rfl, ?_⟩; simp_all
  by_cases s_1_3 : what = 3
  · refine lv_tableIn (tgt := 55) hx hb dX6_tell_1 (by rw [s_1_3]; decide) (by rw [s_1_3]; decide) (by rw [s_1_3]; rfl) (by decide) ?_
    refine lv_aload_n hx hb dX6_tell_55 rfl (lv_at hl 0 rfl) ?_
    refine f_get X hP (T := TX6) (ci := 6) (k := w) hk_w inX6 rfl 4 (by decide) m_1_88 rfl (v := .int (M w 4)) rfl dX6_tell_56 ?_
    refine f_ir X hlk hr (v := (M w 4)) rfl hP hS ?_ dX6_tell_59
    refine ⟨rfl, ?_⟩; simp_all
  by_cases s_1_4 : what = 4
  · refine lv_tableIn (tgt := 60) hx hb dX6_tell_1 (by rw [s_1_4]; decide) (by rw [s_1_4]; decide) (by rw [s_1_4]; rfl) (by decide) ?_
    refine lv_aload_n hx hb dX6_tell_60 rfl (lv_at hl 0 rfl) ?_
    refine f_get X hP (T := TX6) (ci := 6) (k := w) hk_w inX6 rfl 5 (by decide) m_1_90 rfl (v := .int (M w 5)) rfl dX6_tell_61 ?_
    refine f_ir X hlk hr (v := (M w 5)) rfl hP hS ?_ dX6_tell_64
    refine ⟨rfl, ?_⟩; simp_all
  by_cases s_1_5 : what = 5
  · refine lv_tableIn (tgt := 65) hx hb dX6_tell_1 (by rw [s_1_5]; decide) (by rw [s_1_5]; decide) (by rw [s_1_5]; rfl) (by decide) ?_
    refine lv_aload_n hx hb dX6_tell_65 rfl (lv_at hl 0 rfl) ?_
    refine lv_iload_n hx hb dX6_tell_66 rfl (lv_at hl 2 rfl) ?_
    refine f_iV (n := 1) X hP hS [.int hope] [] (c_X6_quartersHeld l E M L w hope hk_w) m_2_182 wi_X6_quartersHeld hk_w rfl (by decide) (by decide +kernel) ⟨Nat.le_of_ble_eq_true rfl, Nat.le_of_ble_eq_true rfl⟩ rfl hl rfl (Nat.le_of_ble_eq_true rfl) ⟨Nat.zero_le _, Nat.zero_le _⟩ dX6_tell_67 (fun H locs hP hS => ?_)
    refine f_ir X hlk hr (v := (holdF (M w 1) (M w 2) (M w 4) hope)) rfl hP hS ?_ dX6_tell_70
    refine ⟨rfl, ?_⟩; simp_all
  refine lv_tableOut (tgt := 71) hx hb dX6_tell_1 (by have q0 := lv_neT s_1_0 (a := 0) rfl; have q1 := lv_neT s_1_1 (a := 1) rfl; have q2 := lv_neT s_1_2 (a := 2) rfl; have q3 := lv_neT s_1_3 (a := 3) rfl; have q4 := lv_neT s_1_4 (a := 4) rfl; have q5 := lv_neT s_1_5 (a := 5) rfl; omega) (by decide) ?_
  refine lv_aload_n hx hb dX6_tell_71 rfl (lv_at hl 0 rfl) ?_
  refine f_iV (n := 0) X hP hS [] [] (c_X6_sight l E M L w hk_w) m_2_196 wi_X6_sight hk_w rfl (by decide) (by decide +kernel) ⟨Nat.le_of_ble_eq_true rfl, Nat.le_of_ble_eq_true rfl⟩ rfl hl rfl (Nat.le_of_ble_eq_true rfl) ⟨Nat.zero_le _, Nat.zero_le _⟩ dX6_tell_72 (fun H locs hP hS => ?_)
  refine f_ir X hlk hr (v := (sightF (M w 1))) rfl hP hS ?_ dX6_tell_75
  refine ⟨rfl, ?_⟩; simp_all

set_option maxHeartbeats 4000000 in
set_option maxRecDepth 100000 in
theorem c_X5_become (l : Launch) (E : fE) (M : Nat → Nat → Int32) (L : Nat → Nat → Int64) (t : Nat) (o : Nat) (hk_t : fsh t = 5) (hk_o : fsh o = 5) (hne : t ≠ o) : Met l yX5_become (wl yX5_become cX5_become 2 none) (fRm 0 0) (va_Pc [.ref (fad E t), .ref (fad E o)] (fPre E M L)) (fQv E (fun u => u = ((up2 (up2 (up2 (up2 (up2 (up2 (up2 M t 0 (M o 0)) t 1 (M o 1)) t 2 (M o 2)) t 3 (M o 3)) t 4 (M o 4)) t 5 (M o 5)) t 6 (M o 6)), L))) 0 0 (fA E) := by
  refine f_head (by decide) (Nat.le_of_ble_eq_true rfl) ?_
  intro pg ev s mi below meth cd ls X hr hlk hP hS hl
  have hx := X.1.1
  have hb := X.1.2.1
  have hl : lv_has ls 2 [(0, .ref (fad E t)), (1, .ref (fad E o))] := hl
  refine lv_aload_n hx hb dX5_become_0 rfl (lv_at hl 0 rfl) ?_
  refine lv_aload_n hx hb dX5_become_1 rfl (lv_at hl 1 rfl) ?_
  refine f_get X hP (T := TX5) (ci := 5) (k := o) hk_o inX5 rfl 0 (by decide) m_1_42 rfl (v := .int (M o 0)) rfl dX5_become_2 ?_
  refine f_put X hP hS (T := TX5) (ci := 5) (k := t) hk_t inX5 rfl tyX5 tyX5_ok nmX5 0 (by decide) m_1_42 ⟨rfl, rfl⟩ rfl (v := (M o 0)) rfl rfl dX5_become_5 (fun H locs hP hS => ?_)
  refine lv_aload_n hx hb dX5_become_8 rfl (lv_at hl 0 rfl) ?_
  refine lv_aload_n hx hb dX5_become_9 rfl (lv_at hl 1 rfl) ?_
  refine f_get X hP (T := TX5) (ci := 5) (k := o) hk_o inX5 rfl 1 (by decide) m_1_44 rfl (v := .int (M o 1)) (congrArg Value.int (up2_o _ _ (Or.inr (by decide)))) dX5_become_10 ?_
  refine f_put X hP hS (T := TX5) (ci := 5) (k := t) hk_t inX5 rfl tyX5 tyX5_ok nmX5 1 (by decide) m_1_44 ⟨rfl, rfl⟩ rfl (v := (M o 1)) rfl rfl dX5_become_13 (fun H locs hP hS => ?_)
  refine lv_aload_n hx hb dX5_become_16 rfl (lv_at hl 0 rfl) ?_
  refine lv_aload_n hx hb dX5_become_17 rfl (lv_at hl 1 rfl) ?_
  refine f_get X hP (T := TX5) (ci := 5) (k := o) hk_o inX5 rfl 2 (by decide) m_1_46 rfl (v := .int (M o 2)) (congrArg Value.int ((up2_o _ _ (Or.inr (by decide))).trans (up2_o _ _ (Or.inr (by decide))))) dX5_become_18 ?_
  refine f_put X hP hS (T := TX5) (ci := 5) (k := t) hk_t inX5 rfl tyX5 tyX5_ok nmX5 2 (by decide) m_1_46 ⟨rfl, rfl⟩ rfl (v := (M o 2)) rfl rfl dX5_become_21 (fun H locs hP hS => ?_)
  refine lv_aload_n hx hb dX5_become_24 rfl (lv_at hl 0 rfl) ?_
  refine lv_aload_n hx hb dX5_become_25 rfl (lv_at hl 1 rfl) ?_
  refine f_get X hP (T := TX5) (ci := 5) (k := o) hk_o inX5 rfl 3 (by decide) m_1_48 rfl (v := .int (M o 3)) (congrArg Value.int ((up2_o _ _ (Or.inr (by decide))).trans ((up2_o _ _ (Or.inr (by decide))).trans (up2_o _ _ (Or.inr (by decide)))))) dX5_become_26 ?_
  refine f_put X hP hS (T := TX5) (ci := 5) (k := t) hk_t inX5 rfl tyX5 tyX5_ok nmX5 3 (by decide) m_1_48 ⟨rfl, rfl⟩ rfl (v := (M o 3)) rfl rfl dX5_become_29 (fun H locs hP hS => ?_)
  refine lv_aload_n hx hb dX5_become_32 rfl (lv_at hl 0 rfl) ?_
  refine lv_aload_n hx hb dX5_become_33 rfl (lv_at hl 1 rfl) ?_
  refine f_get X hP (T := TX5) (ci := 5) (k := o) hk_o inX5 rfl 4 (by decide) m_1_50 rfl (v := .int (M o 4)) (congrArg Value.int ((up2_o _ _ (Or.inr (by decide))).trans ((up2_o _ _ (Or.inr (by decide))).trans ((up2_o _ _ (Or.inr (by decide))).trans (up2_o _ _ (Or.inr (by decide))))))) dX5_become_34 ?_
  refine f_put X hP hS (T := TX5) (ci := 5) (k := t) hk_t inX5 rfl tyX5 tyX5_ok nmX5 4 (by decide) m_1_50 ⟨rfl, rfl⟩ rfl (v := (M o 4)) rfl rfl dX5_become_37 (fun H locs hP hS => ?_)
  refine lv_aload_n hx hb dX5_become_40 rfl (lv_at hl 0 rfl) ?_
  refine lv_aload_n hx hb dX5_become_41 rfl (lv_at hl 1 rfl) ?_
  refine f_get X hP (T := TX5) (ci := 5) (k := o) hk_o inX5 rfl 5 (by decide) m_1_52 rfl (v := .int (M o 5)) (congrArg Value.int ((up2_o _ _ (Or.inr (by decide))).trans ((up2_o _ _ (Or.inr (by decide))).trans ((up2_o _ _ (Or.inr (by decide))).trans ((up2_o _ _ (Or.inr (by decide))).trans (up2_o _ _ (Or.inr (by decide)))))))) dX5_become_42 ?_
  refine f_put X hP hS (T := TX5) (ci := 5) (k := t) hk_t inX5 rfl tyX5 tyX5_ok nmX5 5 (by decide) m_1_52 ⟨rfl, rfl⟩ rfl (v := (M o 5)) rfl rfl dX5_become_45 (fun H locs hP hS => ?_)
  refine lv_aload_n hx hb dX5_become_48 rfl (lv_at hl 0 rfl) ?_
  refine lv_aload_n hx hb dX5_become_49 rfl (lv_at hl 1 rfl) ?_
  refine f_get X hP (T := TX5) (ci := 5) (k := o) hk_o inX5 rfl 6 (by decide) m_1_54 rfl (v := .int (M o 6)) (congrArg Value.int ((up2_o _ _ (Or.inr (by decide))).trans ((up2_o _ _ (Or.inr (by decide))).trans ((up2_o _ _ (Or.inr (by decide))).trans ((up2_o _ _ (Or.inr (by decide))).trans ((up2_o _ _ (Or.inr (by decide))).trans (up2_o _ _ (Or.inr (by decide))))))))) dX5_become_50 ?_
  refine f_put X hP hS (T := TX5) (ci := 5) (k := t) hk_t inX5 rfl tyX5 tyX5_ok nmX5 6 (by decide) m_1_54 ⟨rfl, rfl⟩ rfl (v := (M o 6)) rfl rfl dX5_become_53 (fun H locs hP hS => ?_)
  refine f_vr X hlk hr hP hS ?_ dX5_become_56
  show _ = _
  simp [up2_ne _ (Ne.symm hne)]

set_option maxHeartbeats 4000000 in
set_option maxRecDepth 100000 in
theorem c_X5_quarters (l : Launch) (E : fE) (M : Nat → Nat → Int32) (L : Nat → Nat → Int64) (t : Nat) (hk_t : fsh t = 5) : Met l yX5_quarters (wl yX5_quarters cX5_quarters 1 (some .int)) (fRm 0 0) (va_Pc [.ref (fad E t)] (fPre E M L)) (fQi E (fun r u => u = (M, L) ∧ r = ((M t 2) - (M t 1) + 1))) 0 0 (fA E) := by
  refine f_head (by decide) (Nat.le_of_ble_eq_true rfl) ?_
  intro pg ev s mi below meth cd ls X hr hlk hP hS hl
  have hx := X.1.1
  have hb := X.1.2.1
  have hl : lv_has ls 1 [(0, .ref (fad E t))] := hl
  refine lv_aload_n hx hb dX5_quarters_0 rfl (lv_at hl 0 rfl) ?_
  refine f_get X hP (T := TX5) (ci := 5) (k := t) hk_t inX5 rfl 2 (by decide) m_1_46 rfl (v := .int (M t 2)) rfl dX5_quarters_1 ?_
  refine lv_aload_n hx hb dX5_quarters_4 rfl (lv_at hl 0 rfl) ?_
  refine f_get X hP (T := TX5) (ci := 5) (k := t) hk_t inX5 rfl 1 (by decide) m_1_44 rfl (v := .int (M t 1)) rfl dX5_quarters_5 ?_
  refine lv_isub hx hb dX5_quarters_8 ?_
  refine lv_iconst (v := 1) hx hb dX5_quarters_9 (by decide) ?_
  refine lv_iadd hx hb dX5_quarters_10 ?_
  exact f_ir X hlk hr (v := (((M t 2) - (M t 1)) + 1)) rfl hP hS ⟨rfl, rfl⟩ dX5_quarters_11

set_option maxHeartbeats 4000000 in
set_option maxRecDepth 100000 in
theorem c_X5_cases (l : Launch) (E : fE) (M : Nat → Nat → Int32) (L : Nat → Nat → Int64) (t : Nat) (hk_t : fsh t = 5) : Met l yX5_cases (wl yX5_cases cX5_cases 1 (some .int)) (fRm 1 20) (va_Pc [.ref (fad E t)] (fPre E M L)) (fQi E (fun r u => u = (M, L) ∧ r = ((M t 2) - (M t 1) + 1 + (M t 3)))) 0 0 (fA E) := by
  refine f_head (by decide) (Nat.le_of_ble_eq_true rfl) ?_
  intro pg ev s mi below meth cd ls X hr hlk hP hS hl
  have hx := X.1.1
  have hb := X.1.2.1
  have hl : lv_has ls 1 [(0, .ref (fad E t))] := hl
  refine lv_aload_n hx hb dX5_cases_0 rfl (lv_at hl 0 rfl) ?_
  refine f_iV (n := 0) X hP hS [] [] (c_X5_quarters l E M L t hk_t) m_2_170 wi_X5_quarters hk_t rfl (by decide) (by decide +kernel) ⟨Nat.le_of_ble_eq_true rfl, Nat.le_of_ble_eq_true rfl⟩ rfl hl rfl (Nat.le_of_ble_eq_true rfl) ⟨Nat.zero_le _, Nat.zero_le _⟩ dX5_cases_1 (fun H locs hP hS => ?_)
  refine lv_aload_n hx hb dX5_cases_4 rfl (lv_at hl 0 rfl) ?_
  refine f_get X hP (T := TX5) (ci := 5) (k := t) hk_t inX5 rfl 3 (by decide) m_1_48 rfl (v := .int (M t 3)) rfl dX5_cases_5 ?_
  refine lv_iadd hx hb dX5_cases_8 ?_
  exact f_ir X hlk hr (v := (((M t 2) - (M t 1) + 1) + (M t 3))) rfl hP hS ⟨rfl, rfl⟩ dX5_cases_9

set_option maxHeartbeats 4000000 in
set_option maxRecDepth 100000 in
theorem c_X5_casesBy (l : Launch) (E : fE) (M : Nat → Nat → Int32) (L : Nat → Nat → Int64) (t : Nat) (q : Int32) (hk_t : fsh t = 5) : Met l yX5_casesBy (wl yX5_casesBy cX5_casesBy 2 (some .int)) (fRm 1 21) (va_Pc [.ref (fad E t), .int q] (fPre E M L)) (fQi E (fun r u => u = (M, L) ∧ r = byF (M t 1) (M t 2) q)) 0 0 (fA E) := by
  refine f_head (by decide) (Nat.le_of_ble_eq_true rfl) ?_
  intro pg ev s mi below meth cd ls X hr hlk hP hS hl
  have hx := X.1.1
  have hb := X.1.2.1
  have hl : lv_has ls 2 [(0, .ref (fad E t)), (1, .int q)] := hl
  refine lv_iconst (v := 0) hx hb dX5_casesBy_0 (by decide) ?_
  refine lv_iload_n hx hb dX5_casesBy_1 rfl (lv_at hl 1 rfl) ?_
  refine lv_aload_n hx hb dX5_casesBy_2 rfl (lv_at hl 0 rfl) ?_
  refine f_get X hP (T := TX5) (ci := 5) (k := t) hk_t inX5 rfl 2 (by decide) m_1_46 rfl (v := .int (M t 2)) rfl dX5_casesBy_3 ?_
  refine va_mmin hx hb (X.1.2.2.1.trans hl.1.symm) X.1.2.2.2.1 (X.ht m_3_124) (X.ht m_2_194) (X.ht m_1_11) (X.ht m_2_195) (Nat.le_of_ble_eq_true rfl) (Nat.le_of_ble_eq_true rfl) (Nat.zero_le _) (Nat.zero_le _) dX5_casesBy_6 ?_
  refine lv_aload_n hx hb dX5_casesBy_9 rfl (lv_at hl 0 rfl) ?_
  refine f_get X hP (T := TX5) (ci := 5) (k := t) hk_t inX5 rfl 1 (by decide) m_1_44 rfl (v := .int (M t 1)) rfl dX5_casesBy_10 ?_
  refine lv_isub hx hb dX5_casesBy_13 ?_
  refine lv_iconst (v := 1) hx hb dX5_casesBy_14 (by decide) ?_
  refine lv_iadd hx hb dX5_casesBy_15 ?_
  refine va_mmax hx hb (X.1.2.2.1.trans hl.1.symm) X.1.2.2.2.1 (X.ht m_3_125) (X.ht m_2_191) (X.ht m_1_11) (X.ht m_2_192) (Nat.le_of_ble_eq_true rfl) (Nat.le_of_ble_eq_true rfl) (Nat.zero_le _) (Nat.zero_le _) dX5_casesBy_16 ?_
  exact f_ir X hlk hr (v := (if 0 < (((if (M t 2) < q then (M t 2) else q) - (M t 1)) + 1) then (((if (M t 2) < q then (M t 2) else q) - (M t 1)) + 1) else 0)) rfl hP hS ⟨rfl, rfl⟩ dX5_casesBy_19

set_option maxHeartbeats 4000000 in
set_option maxRecDepth 100000 in
theorem c_X5_canComeIn (l : Launch) (E : fE) (M : Nat → Nat → Int32) (L : Nat → Nat → Int64) (t : Nat) (q : Int32) (hk_t : fsh t = 5) : Met l yX5_canComeIn (wl yX5_canComeIn cX5_canComeIn 2 (some .boolean)) (fRm 1 22) (va_Pc [.ref (fad E t), .int q] (fPre E M L)) (fQi E (fun r u => u = (M, L) ∧ r = bI (decide ((M t 1) ≤ q ∧ q ≤ (M t 2))))) 0 0 (fA E) := by
  refine f_head (by decide) (Nat.le_of_ble_eq_true rfl) ?_
  intro pg ev s mi below meth cd ls X hr hlk hP hS hl
  have hx := X.1.1
  have hb := X.1.2.1
  have hl : lv_has ls 2 [(0, .ref (fad E t)), (1, .int q)] := hl
  refine lv_iload_n hx hb dX5_canComeIn_0 rfl (lv_at hl 1 rfl) ?_
  refine lv_aload_n hx hb dX5_canComeIn_1 rfl (lv_at hl 0 rfl) ?_
  refine f_get X hP (T := TX5) (ci := 5) (k := t) hk_t inX5 rfl 1 (by decide) m_1_44 rfl (v := .int (M t 1)) rfl dX5_canComeIn_2 ?_
  refine lv_aload_n hx hb dX5_canComeIn_5 rfl (lv_at hl 0 rfl) ?_
  refine f_get X hP (T := TX5) (ci := 5) (k := t) hk_t inX5 rfl 2 (by decide) m_1_46 rfl (v := .int (M t 2)) rfl dX5_canComeIn_6 ?_
  refine f_iN (n := 3) X hP hS [.int q, .int (M t 1), .int (M t 2)] [] (c_X7_within l E M L q (M t 1) (M t 2)) (fX.n4 X) wi_X7_within (by decide +kernel) ⟨Nat.le_of_ble_eq_true rfl, Nat.le_of_ble_eq_true rfl⟩ rfl hl rfl (Nat.le_of_ble_eq_true rfl) ⟨Nat.zero_le _, Nat.zero_le _⟩ dX5_canComeIn_9 (fun H locs hP hS => ?_)
  exact f_ir X hlk hr (v := (bI (decide ((M t 1) ≤ q ∧ q ≤ (M t 2))))) (narrow_bI _) hP hS ⟨rfl, rfl⟩ dX5_canComeIn_12

set_option maxHeartbeats 4000000 in
set_option maxRecDepth 100000 in
theorem c_X5_mayHave (l : Launch) (E : fE) (M : Nat → Nat → Int32) (L : Nat → Nat → Int64) (t : Nat) (q : Int32) (hk_t : fsh t = 5) : Met l yX5_mayHave (wl yX5_mayHave cX5_mayHave 2 (some .boolean)) (fRm 2 43) (va_Pc [.ref (fad E t), .int q] (fPre E M L)) (fQi E (fun r u => u = (M, L) ∧ r = bI (decide (((M t 1) ≤ q ∧ q ≤ (M t 2)) ∨ q = 99 ∧ 0 < (M t 3))))) 0 0 (fA E) := by
  refine f_head (by decide) (Nat.le_of_ble_eq_true rfl) ?_
  intro pg ev s mi below meth cd ls X hr hlk hP hS hl
  have hx := X.1.1
  have hb := X.1.2.1
  have hl : lv_has ls 2 [(0, .ref (fad E t)), (1, .int q)] := hl
  refine lv_aload_n hx hb dX5_mayHave_0 rfl (lv_at hl 0 rfl) ?_
  refine lv_iload_n hx hb dX5_mayHave_1 rfl (lv_at hl 1 rfl) ?_
  refine f_iV (n := 1) X hP hS [.int q] [] (c_X5_canComeIn l E M L t q hk_t) m_4_74 wi_X5_canComeIn hk_t rfl (by decide) (by decide +kernel) ⟨Nat.le_of_ble_eq_true rfl, Nat.le_of_ble_eq_true rfl⟩ rfl hl rfl (Nat.le_of_ble_eq_true rfl) ⟨Nat.zero_le _, Nat.zero_le _⟩ dX5_mayHave_2 (fun H locs hP hS => ?_)
  refine lv_if_ne (tgt := 21) hx hb dX5_mayHave_5 (by decide) (fun c_5 => ?_) (fun c_5 => ?_)
  · have c_5 := bI1 c_5
    refine lv_iconst (v := 1) hx hb dX5_mayHave_21 (by decide) ?_
    refine lv_goto (tgt := 26) hx hb dX5_mayHave_22 (by decide) ?_
    refine f_ir X hlk hr (v := 1) rfl hP hS ?_ dX5_mayHave_26
    refine ⟨rfl, ?_⟩; first | exact (bIe (by intro h; (simp only [Int32.lt_iff_toInt_lt, Int32.le_iff_toInt_le, ← Int32.toInt_inj] at *; omega))).symm | exact (bIt (by (simp only [Int32.lt_iff_toInt_lt, Int32.le_iff_toInt_le, ← Int32.toInt_inj] at *; omega))).symm
  · have c_5 := bI0 c_5
    refine lv_iload_n hx hb dX5_mayHave_8 rfl (lv_at hl 1 rfl) ?_
    refine lv_bipush (v := 99) hx hb dX5_mayHave_9 (by decide) ?_
    refine lv_icmp_ne (tgt := 25) hx hb dX5_mayHave_11 (by decide) (fun c_11 => ?_) (fun c_11 => ?_)
    · refine lv_iconst (v := 0) hx hb dX5_mayHave_25 (by decide) ?_
      refine f_ir X hlk hr (v := 0) rfl hP hS ?_ dX5_mayHave_26
      refine ⟨rfl, ?_⟩; first | exact (bIe (by intro h; (simp only [Int32.lt_iff_toInt_lt, Int32.le_iff_toInt_le, ← Int32.toInt_inj] at *; omega))).symm | exact (bIt (by (simp only [Int32.lt_iff_toInt_lt, Int32.le_iff_toInt_le, ← Int32.toInt_inj] at *; omega))).symm
    · refine lv_aload_n hx hb dX5_mayHave_14 rfl (lv_at hl 0 rfl) ?_
      refine f_get X hP (T := TX5) (ci := 5) (k := t) hk_t inX5 rfl 3 (by decide) m_1_48 rfl (v := .int (M t 3)) rfl dX5_mayHave_15 ?_
      refine lv_if_le (tgt := 25) hx hb dX5_mayHave_18 (by decide) (fun c_18 => ?_) (fun c_18 => ?_)
      · refine lv_iconst (v := 0) hx hb dX5_mayHave_25 (by decide) ?_
        refine f_ir X hlk hr (v := 0) rfl hP hS ?_ dX5_mayHave_26
        refine ⟨rfl, ?_⟩; first | exact (bIe (by intro h; (simp only [Int32.lt_iff_toInt_lt, Int32.le_iff_toInt_le, ← Int32.toInt_inj] at *; omega))).symm | exact (bIt (by (simp only [Int32.lt_iff_toInt_lt, Int32.le_iff_toInt_le, ← Int32.toInt_inj] at *; omega))).symm
      · refine lv_iconst (v := 1) hx hb dX5_mayHave_21 (by decide) ?_
        refine lv_goto (tgt := 26) hx hb dX5_mayHave_22 (by decide) ?_
        refine f_ir X hlk hr (v := 1) rfl hP hS ?_ dX5_mayHave_26
        refine ⟨rfl, ?_⟩; first | exact (bIe (by intro h; (simp only [Int32.lt_iff_toInt_lt, Int32.le_iff_toInt_le, ← Int32.toInt_inj] at *; omega))).symm | exact (bIt (by (simp only [Int32.lt_iff_toInt_lt, Int32.le_iff_toInt_le, ← Int32.toInt_inj] at *; omega))).symm

set_option maxHeartbeats 4000000 in
set_option maxRecDepth 100000 in
theorem c_X5_isMet (l : Launch) (E : fE) (M : Nat → Nat → Int32) (L : Nat → Nat → Int64) (t : Nat) (b : Int32) (hk_t : fsh t = 5) : Met l yX5_isMet (wl yX5_isMet cX5_isMet 2 (some .boolean)) (fRm 0 0) (va_Pc [.ref (fad E t), .int b] (fPre E M L)) (fQi E (fun r u => u = (M, L) ∧ r = bI (decide ((if b = 0 then (M t 6) else (M t 6) / 2) ≤ (M t 5))))) 0 0 (fA E) := by
  refine f_head (by decide) (Nat.le_of_ble_eq_true rfl) ?_
  intro pg ev s mi below meth cd ls X hr hlk hP hS hl
  have hx := X.1.1
  have hb := X.1.2.1
  have hl : lv_has ls 2 [(0, .ref (fad E t)), (1, .int b)] := hl
  refine lv_iload_n hx hb dX5_isMet_0 rfl (lv_at hl 1 rfl) ?_
  refine lv_if_eq (tgt := 13) hx hb dX5_isMet_1 (by decide) (fun c_1 => ?_) (fun c_1 => ?_)
  · refine lv_aload_n hx hb dX5_isMet_13 rfl (lv_at hl 0 rfl) ?_
    refine f_get X hP (T := TX5) (ci := 5) (k := t) hk_t inX5 rfl 6 (by decide) m_1_54 rfl (v := .int (M t 6)) rfl dX5_isMet_14 ?_
    refine lv_aload_n hx hb dX5_isMet_17 rfl (lv_at hl 0 rfl) ?_
    refine f_get X hP (T := TX5) (ci := 5) (k := t) hk_t inX5 rfl 5 (by decide) m_1_52 rfl (v := .int (M t 5)) rfl dX5_isMet_18 ?_
    refine lv_icmp_gt (tgt := 28) hx hb dX5_isMet_21 (by decide) (fun c_21 => ?_) (fun c_21 => ?_)
    · refine lv_iconst (v := 0) hx hb dX5_isMet_28 (by decide) ?_
      refine f_ir X hlk hr (v := 0) rfl hP hS ?_ dX5_isMet_29
      refine ⟨rfl, ?_⟩; simp_all [bI, Int32.not_lt, Int32.not_le]
    · refine lv_iconst (v := 1) hx hb dX5_isMet_24 (by decide) ?_
      refine lv_goto (tgt := 29) hx hb dX5_isMet_25 (by decide) ?_
      refine f_ir X hlk hr (v := 1) rfl hP hS ?_ dX5_isMet_29
      refine ⟨rfl, ?_⟩; simp_all [bI, Int32.not_lt, Int32.not_le]
  · refine lv_aload_n hx hb dX5_isMet_4 rfl (lv_at hl 0 rfl) ?_
    refine f_get X hP (T := TX5) (ci := 5) (k := t) hk_t inX5 rfl 6 (by decide) m_1_54 rfl (v := .int (M t 6)) rfl dX5_isMet_5 ?_
    refine lv_iconst (v := 2) hx hb dX5_isMet_8 (by decide) ?_
    refine lv_idiv hx hb dX5_isMet_9 (by decide) ?_
    refine lv_goto (tgt := 17) hx hb dX5_isMet_10 (by decide) ?_
    refine lv_aload_n hx hb dX5_isMet_17 rfl (lv_at hl 0 rfl) ?_
    refine f_get X hP (T := TX5) (ci := 5) (k := t) hk_t inX5 rfl 5 (by decide) m_1_52 rfl (v := .int (M t 5)) rfl dX5_isMet_18 ?_
    refine lv_icmp_gt (tgt := 28) hx hb dX5_isMet_21 (by decide) (fun c_21 => ?_) (fun c_21 => ?_)
    · refine lv_iconst (v := 0) hx hb dX5_isMet_28 (by decide) ?_
      refine f_ir X hlk hr (v := 0) rfl hP hS ?_ dX5_isMet_29
      refine ⟨rfl, ?_⟩; simp_all [bI, Int32.not_lt, Int32.not_le]
    · refine lv_iconst (v := 1) hx hb dX5_isMet_24 (by decide) ?_
      refine lv_goto (tgt := 29) hx hb dX5_isMet_25 (by decide) ?_
      refine f_ir X hlk hr (v := 1) rfl hP hS ?_ dX5_isMet_29
      refine ⟨rfl, ?_⟩; simp_all [bI, Int32.not_lt, Int32.not_le]

set_option maxHeartbeats 4000000 in
set_option maxRecDepth 100000 in
theorem c_X5_needsRunner (l : Launch) (E : fE) (M : Nat → Nat → Int32) (L : Nat → Nat → Int64) (t : Nat) (hk_t : fsh t = 5) : Met l yX5_needsRunner (wl yX5_needsRunner cX5_needsRunner 1 (some .boolean)) (fRm 1 21) (va_Pc [.ref (fad E t)] (fPre E M L)) (fQi E (fun r u => u = (M, L) ∧ r = bI (decide (¬ (M t 6) ≤ (M t 5) ∧ (M t 6) / 2 ≤ (M t 5))))) 0 0 (fA E) := by
  refine f_head (by decide) (Nat.le_of_ble_eq_true rfl) ?_
  intro pg ev s mi below meth cd ls X hr hlk hP hS hl
  have hx := X.1.1
  have hb := X.1.2.1
  have hl : lv_has ls 1 [(0, .ref (fad E t))] := hl
  refine lv_aload_n hx hb dX5_needsRunner_0 rfl (lv_at hl 0 rfl) ?_
  refine lv_iconst (v := 0) hx hb dX5_needsRunner_1 (by decide) ?_
  refine f_iV (n := 1) X hP hS [.int 0] [] (c_X5_isMet l E M L t 0 hk_t) m_4_24 wi_X5_isMet hk_t rfl (by decide) (by decide +kernel) ⟨Nat.le_of_ble_eq_true rfl, Nat.le_of_ble_eq_true rfl⟩ rfl hl rfl (Nat.le_of_ble_eq_true rfl) ⟨Nat.zero_le _, Nat.zero_le _⟩ dX5_needsRunner_2 (fun H locs hP hS => ?_)
  refine lv_if_ne (tgt := 20) hx hb dX5_needsRunner_5 (by decide) (fun c_5 => ?_) (fun c_5 => ?_)
  · have c_5 := bI1 c_5
    refine lv_iconst (v := 0) hx hb dX5_needsRunner_20 (by decide) ?_
    refine f_ir X hlk hr (v := 0) rfl hP hS ?_ dX5_needsRunner_21
    refine ⟨rfl, ?_⟩; simp_all [bI, Int32.not_lt, Int32.not_le]
  · have c_5 := bI0 c_5
    refine lv_aload_n hx hb dX5_needsRunner_8 rfl (lv_at hl 0 rfl) ?_
    refine lv_iconst (v := 1) hx hb dX5_needsRunner_9 (by decide) ?_
    refine f_iV (n := 1) X hP hS [.int 1] [] (c_X5_isMet l E M L t 1 hk_t) m_4_24 wi_X5_isMet hk_t rfl (by decide) (by decide +kernel) ⟨Nat.le_of_ble_eq_true rfl, Nat.le_of_ble_eq_true rfl⟩ rfl hl rfl (Nat.le_of_ble_eq_true rfl) ⟨Nat.zero_le _, Nat.zero_le _⟩ dX5_needsRunner_10 (fun H locs hP hS => ?_)
    refine lv_if_eq (tgt := 20) hx hb dX5_needsRunner_13 (by decide) (fun c_13 => ?_) (fun c_13 => ?_)
    · have c_13 := bI0 c_13
      refine lv_iconst (v := 0) hx hb dX5_needsRunner_20 (by decide) ?_
      refine f_ir X hlk hr (v := 0) rfl hP hS ?_ dX5_needsRunner_21
      refine ⟨rfl, ?_⟩; simp_all [bI, Int32.not_lt, Int32.not_le]
    · have c_13 := bI1 c_13
      refine lv_iconst (v := 1) hx hb dX5_needsRunner_16 (by decide) ?_
      refine lv_goto (tgt := 21) hx hb dX5_needsRunner_17 (by decide) ?_
      refine f_ir X hlk hr (v := 1) rfl hP hS ?_ dX5_needsRunner_21
      refine ⟨rfl, ?_⟩; simp_all [bI, Int32.not_lt, Int32.not_le]

set_option maxHeartbeats 4000000 in
set_option maxRecDepth 100000 in
theorem c_X5_tell (l : Launch) (E : fE) (M : Nat → Nat → Int32) (L : Nat → Nat → Int64) (t : Nat) (what : Int32) (hk_t : fsh t = 5) : Met l yX5_tell (wl yX5_tell cX5_tell 2 (some .int)) (fRm 2 40) (va_Pc [.ref (fad E t), .int what] (fPre E M L)) (fQi E (fun r u => u = (M, L) ∧ r = (if what = 0 then (M t 0) else if what = 1 then (M t 1) else if what = 2 then (M t 2) else if what = 3 then (M t 3) else if what = 4 then (M t 4) else if what = 5 then (M t 5) else if what = 6 then (M t 6) else ((M t 2) - (M t 1) + 1 + (M t 3))))) 0 0 (fA E) := by
  refine f_head (by decide) (Nat.le_of_ble_eq_true rfl) ?_
  intro pg ev s mi below meth cd ls X hr hlk hP hS hl
  have hx := X.1.1
  have hb := X.1.2.1
  have hl : lv_has ls 2 [(0, .ref (fad E t)), (1, .int what)] := hl
  refine lv_iload_n hx hb dX5_tell_0 rfl (lv_at hl 1 rfl) ?_
  by_cases s_1_0 : what = 0
  · refine lv_tableIn (tgt := 44) hx hb dX5_tell_1 (by rw [s_1_0]; decide) (by rw [s_1_0]; decide) (by rw [s_1_0]; rfl) (by decide) ?_
    refine lv_aload_n hx hb dX5_tell_44 rfl (lv_at hl 0 rfl) ?_
    refine f_get X hP (T := TX5) (ci := 5) (k := t) hk_t inX5 rfl 0 (by decide) m_1_42 rfl (v := .int (M t 0)) rfl dX5_tell_45 ?_
    refine f_ir X hlk hr (v := (M t 0)) rfl hP hS ?_ dX5_tell_48
    refine ⟨rfl, ?_⟩; simp_all
  by_cases s_1_1 : what = 1
  · refine lv_tableIn (tgt := 49) hx hb dX5_tell_1 (by rw [s_1_1]; decide) (by rw [s_1_1]; decide) (by rw [s_1_1]; rfl) (by decide) ?_
    refine lv_aload_n hx hb dX5_tell_49 rfl (lv_at hl 0 rfl) ?_
    refine f_get X hP (T := TX5) (ci := 5) (k := t) hk_t inX5 rfl 1 (by decide) m_1_44 rfl (v := .int (M t 1)) rfl dX5_tell_50 ?_
    refine f_ir X hlk hr (v := (M t 1)) rfl hP hS ?_ dX5_tell_53
    refine ⟨rfl, ?_⟩; simp_all
  by_cases s_1_2 : what = 2
  · refine lv_tableIn (tgt := 54) hx hb dX5_tell_1 (by rw [s_1_2]; decide) (by rw [s_1_2]; decide) (by rw [s_1_2]; rfl) (by decide) ?_
    refine lv_aload_n hx hb dX5_tell_54 rfl (lv_at hl 0 rfl) ?_
    refine f_get X hP (T := TX5) (ci := 5) (k := t) hk_t inX5 rfl 2 (by decide) m_1_46 rfl (v := .int (M t 2)) rfl dX5_tell_55 ?_
    refine f_ir X hlk hr (v := (M t 2)) rfl hP hS ?_ dX5_tell_58
    refine ⟨rfl, ?_⟩; simp_all
  by_cases s_1_3 : what = 3
  · refine lv_tableIn (tgt := 59) hx hb dX5_tell_1 (by rw [s_1_3]; decide) (by rw [s_1_3]; decide) (by rw [s_1_3]; rfl) (by decide) ?_
    refine lv_aload_n hx hb dX5_tell_59 rfl (lv_at hl 0 rfl) ?_
    refine f_get X hP (T := TX5) (ci := 5) (k := t) hk_t inX5 rfl 3 (by decide) m_1_48 rfl (v := .int (M t 3)) rfl dX5_tell_60 ?_
    refine f_ir X hlk hr (v := (M t 3)) rfl hP hS ?_ dX5_tell_63
    refine ⟨rfl, ?_⟩; simp_all
  by_cases s_1_4 : what = 4
  · refine lv_tableIn (tgt := 64) hx hb dX5_tell_1 (by rw [s_1_4]; decide) (by rw [s_1_4]; decide) (by rw [s_1_4]; rfl) (by decide) ?_
    refine lv_aload_n hx hb dX5_tell_64 rfl (lv_at hl 0 rfl) ?_
    refine f_get X hP (T := TX5) (ci := 5) (k := t) hk_t inX5 rfl 4 (by decide) m_1_50 rfl (v := .int (M t 4)) rfl dX5_tell_65 ?_
    refine f_ir X hlk hr (v := (M t 4)) rfl hP hS ?_ dX5_tell_68
    refine ⟨rfl, ?_⟩; simp_all
  by_cases s_1_5 : what = 5
  · refine lv_tableIn (tgt := 69) hx hb dX5_tell_1 (by rw [s_1_5]; decide) (by rw [s_1_5]; decide) (by rw [s_1_5]; rfl) (by decide) ?_
    refine lv_aload_n hx hb dX5_tell_69 rfl (lv_at hl 0 rfl) ?_
    refine f_get X hP (T := TX5) (ci := 5) (k := t) hk_t inX5 rfl 5 (by decide) m_1_52 rfl (v := .int (M t 5)) rfl dX5_tell_70 ?_
    refine f_ir X hlk hr (v := (M t 5)) rfl hP hS ?_ dX5_tell_73
    refine ⟨rfl, ?_⟩; simp_all
  by_cases s_1_6 : what = 6
  · refine lv_tableIn (tgt := 74) hx hb dX5_tell_1 (by rw [s_1_6]; decide) (by rw [s_1_6]; decide) (by rw [s_1_6]; rfl) (by decide) ?_
    refine lv_aload_n hx hb dX5_tell_74 rfl (lv_at hl 0 rfl) ?_
    refine f_get X hP (T := TX5) (ci := 5) (k := t) hk_t inX5 rfl 6 (by decide) m_1_54 rfl (v := .int (M t 6)) rfl dX5_tell_75 ?_
    refine f_ir X hlk hr (v := (M t 6)) rfl hP hS ?_ dX5_tell_78
    refine ⟨rfl, ?_⟩; simp_all
  refine lv_tableOut (tgt := 79) hx hb dX5_tell_1 (by have q0 := lv_neT s_1_0 (a := 0) rfl; have q1 := lv_neT s_1_1 (a := 1) rfl; have q2 := lv_neT s_1_2 (a := 2) rfl; have q3 := lv_neT s_1_3 (a := 3) rfl; have q4 := lv_neT s_1_4 (a := 4) rfl; have q5 := lv_neT s_1_5 (a := 5) rfl; have q6 := lv_neT s_1_6 (a := 6) rfl; omega) (by decide) ?_
  refine lv_aload_n hx hb dX5_tell_79 rfl (lv_at hl 0 rfl) ?_
  refine f_iV (n := 0) X hP hS [] [] (c_X5_cases l E M L t hk_t) m_2_166 wi_X5_cases hk_t rfl (by decide) (by decide +kernel) ⟨Nat.le_of_ble_eq_true rfl, Nat.le_of_ble_eq_true rfl⟩ rfl hl rfl (Nat.le_of_ble_eq_true rfl) ⟨Nat.zero_le _, Nat.zero_le _⟩ dX5_tell_80 (fun H locs hP hS => ?_)
  refine f_ir X hlk hr (v := ((M t 2) - (M t 1) + 1 + (M t 3))) rfl hP hS ?_ dX5_tell_83
  refine ⟨rfl, ?_⟩; simp_all
