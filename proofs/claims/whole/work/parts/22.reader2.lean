set_option maxHeartbeats 4000000 in
set_option maxRecDepth 100000 in
theorem c_X2_readNumber (l : Launch) (E : fE) (M : Nat → Nat → Int32) (L : Nat → Nat → Int64) (lo : Int32) (hi : Int32) (p sz : Nat) (f : Int32) (hsz : M 72 3 = nI sz) (hs1 : sz ≤ 160) (hp : p ≤ sz) : Met l yX2_readNumber (wl yX2_readNumber cX2_readNumber 5 (some .int)) (fRm 2 42) (va_Pc [.ref (fad E 72), .int lo, .int hi] (fPre E (pM M p f) L)) (fQi E (fun r u => u = ((pM M (numF (M 73) sz lo hi (p, f)).2.1 (numF (M 73) sz lo hi (p, f)).2.2), L) ∧ r = (numF (M 73) sz lo hi (p, f)).1)) 0 0 (fA E) := by
  refine f_head (by decide) (Nat.le_of_ble_eq_true rfl) ?_
  intro pg ev s mi below meth cd ls X hr hlk hP hS hl
  have hx := X.1.1
  have hb := X.1.2.1
  have hl : lv_has ls 5 [(0, .ref (fad E 72)), (1, .int lo), (2, .int hi)] := hl
  refine lv_aload_n hx hb dX2_readNumber_0 rfl (lv_at hl 0 rfl) ?_
  refine lv_bipush (v := 32) hx hb dX2_readNumber_1 (by decide) ?_
  refine f_vV (n := 1) X hP hS [.int 32] [] (c_X2_readSign l E M L 32 p sz f hsz hs1 hp) m_3_67 wi_X2_readSign rfl rfl (by decide) (by decide +kernel) ⟨Nat.le_of_ble_eq_true rfl, Nat.le_of_ble_eq_true rfl⟩ rfl hl rfl (Nat.le_of_ble_eq_true rfl) ⟨Nat.zero_le _, Nat.zero_le _⟩ dX2_readNumber_3 (fun H locs hP hS => ?_)
  obtain ⟨p1, f1, es⟩ := ex2 (signF (M 73) sz 32 (p, f))
  rw [es] at hP
  have hp1 : p1 ≤ sz := by have := signF_le (lt := M 73) (c := 32) (s := (p, f)) (by decide) hp; rw [es] at this; exact this
  refine lv_aload_n hx hb dX2_readNumber_6 rfl (lv_at hl 0 rfl) ?_
  refine f_get X hP (T := TX2) (ci := 2) (k := 72) rfl inX2 rfl 5 (by decide) m_1_168 rfl (v := .int f1) (congrArg Value.int (pM_5 _ _ _)) dX2_readNumber_7 ?_
  refine lv_iconst (v := (-1)) hx hb dX2_readNumber_10 (by decide) ?_
  refine lv_icmp_eq (tgt := 16) hx hb dX2_readNumber_11 (by decide) (fun c_11 => ?_) (fun c_11 => ?_)
  · subst c_11
    refine lv_aload_n hx hb dX2_readNumber_16 rfl (lv_at hl 0 rfl) ?_
    refine f_get X hP (T := TX2) (ci := 2) (k := 72) rfl inX2 rfl 4 (by decide) m_1_167 rfl (v := .int (nI p1)) (congrArg Value.int (pM_4 _ _ _)) dX2_readNumber_17 ?_
    refine lv_istore_n (lv' := [(3, .int (nI p1)), (0, .ref (fad E 72)), (1, .int lo), (2, .int hi)]) hx hb dX2_readNumber_20 rfl hl (by decide) rfl (fun ls hl => ?_)
    refine lv_aload_n hx hb dX2_readNumber_21 rfl (lv_at hl 1 rfl) ?_
    refine f_iV (n := 0) X hP hS [] [] (c_X2_isAtDigit l E M L p1 sz (-1) hsz hs1 hp1) m_3_79 wi_X2_isAtDigit rfl rfl (by decide) (by decide +kernel) ⟨Nat.le_of_ble_eq_true rfl, Nat.le_of_ble_eq_true rfl⟩ rfl hl rfl (Nat.le_of_ble_eq_true rfl) ⟨Nat.zero_le _, Nat.zero_le _⟩ dX2_readNumber_22 (fun H locs hP hS => ?_)
    refine lv_if_ne (tgt := 34) hx hb dX2_readNumber_25 (by decide) (fun c_25 => ?_) (fun c_25 => ?_)
    · have c_25 := bI1 c_25
      have hp2 : p1 + 1 ≤ sz := letF_lt (isD_ne c_25)
      refine lv_aload_n hx hb dX2_readNumber_34 rfl (lv_at hl 1 rfl) ?_
      refine f_iV (n := 0) X hP hS [] [] (c_X2_readDigit l E M L p1 sz (-1) hsz hs1 hp1) m_3_84 wi_X2_readDigit rfl rfl (by decide) (by decide +kernel) ⟨Nat.le_of_ble_eq_true rfl, Nat.le_of_ble_eq_true rfl⟩ rfl hl rfl (Nat.le_of_ble_eq_true rfl) ⟨Nat.zero_le _, Nat.zero_le _⟩ dX2_readNumber_35 (fun H locs hP hS => ?_)
      refine lv_istore (lv' := [(4, .int ((letF (M 73) sz p1) - 48)), (3, .int (nI p1)), (0, .ref (fad E 72)), (1, .int lo), (2, .int hi)]) hx hb dX2_readNumber_38 hl (by decide) rfl (fun ls hl => ?_)
      refine lv_aload_n hx hb dX2_readNumber_40 rfl (lv_at hl 2 rfl) ?_
      refine f_iV (n := 0) X hP hS [] [] (c_X2_isAtDigit l E M L (p1 + 1) sz (-1) hsz hs1 hp2) m_3_79 wi_X2_isAtDigit rfl rfl (by decide) (by decide +kernel) ⟨Nat.le_of_ble_eq_true rfl, Nat.le_of_ble_eq_true rfl⟩ rfl hl rfl (Nat.le_of_ble_eq_true rfl) ⟨Nat.zero_le _, Nat.zero_le _⟩ dX2_readNumber_41 (fun H locs hP hS => ?_)
      refine lv_if_eq (tgt := 59) hx hb dX2_readNumber_44 (by decide) (fun c_44 => ?_) (fun c_44 => ?_)
      · have c_44 := bI0 c_44
        refine lv_iload hx hb dX2_readNumber_59 (lv_at hl 0 rfl) ?_
        refine lv_iload_n hx hb dX2_readNumber_61 rfl (lv_at hl 3 rfl) ?_
        refine lv_iload_n hx hb dX2_readNumber_62 rfl (lv_at hl 4 rfl) ?_
        refine f_iN (n := 3) X hP hS [.int ((letF (M 73) sz p1) - 48), .int lo, .int hi] [] (c_X7_within l E (pM M (p1 + 1) (-1)) L ((letF (M 73) sz p1) - 48) lo hi) (fX.n3 X) wi_X7_within (by decide +kernel) ⟨Nat.le_of_ble_eq_true rfl, Nat.le_of_ble_eq_true rfl⟩ rfl hl rfl (Nat.le_of_ble_eq_true rfl) ⟨Nat.zero_le _, Nat.zero_le _⟩ dX2_readNumber_63 (fun H locs hP hS => ?_)
        refine lv_if_eq (tgt := 74) hx hb dX2_readNumber_66 (by decide) (fun c_66 => ?_) (fun c_66 => ?_)
        · have c_66 := bI0 c_66
          refine lv_aload_n hx hb dX2_readNumber_74 rfl (lv_at hl 2 rfl) ?_
          refine lv_iload_n hx hb dX2_readNumber_75 rfl (lv_at hl 1 rfl) ?_
          refine f_iV (n := 1) X hP hS [.int (nI p1)] [] (c_X2_failAt l E M L (nI p1) (p1 + 1) (-1)) m_3_71 wi_X2_failAt rfl rfl (by decide) (by decide +kernel) ⟨Nat.le_of_ble_eq_true rfl, Nat.le_of_ble_eq_true rfl⟩ rfl hl rfl (Nat.le_of_ble_eq_true rfl) ⟨Nat.zero_le _, Nat.zero_le _⟩ dX2_readNumber_76 (fun H locs hP hS => ?_)
          refine f_ir X hlk hr (v := (-1)) rfl hP hS ?_ dX2_readNumber_79
          first | (rw [numF_5 es c_25 c_44 c_66]; exact ⟨rfl, rfl⟩) | (rw [numF_6 es c_25 c_44 c_66]; exact ⟨rfl, rfl⟩)
        · have c_66 := bI1 c_66
          refine lv_iload hx hb dX2_readNumber_69 (lv_at hl 0 rfl) ?_
          refine lv_goto (tgt := 79) hx hb dX2_readNumber_71 (by decide) ?_
          refine f_ir X hlk hr (v := ((letF (M 73) sz p1) - 48)) rfl hP hS ?_ dX2_readNumber_79
          first | (rw [numF_5 es c_25 c_44 c_66]; exact ⟨rfl, rfl⟩) | (rw [numF_6 es c_25 c_44 c_66]; exact ⟨rfl, rfl⟩)
      · have c_44 := bI1 c_44
        refine lv_iload hx hb dX2_readNumber_47 (lv_at hl 0 rfl) ?_
        refine lv_bipush (v := 10) hx hb dX2_readNumber_49 (by decide) ?_
        refine lv_imul hx hb dX2_readNumber_51 ?_
        refine lv_aload_n hx hb dX2_readNumber_52 rfl (lv_at hl 2 rfl) ?_
        refine f_iV (n := 0) X hP hS [] [.int (((letF (M 73) sz p1) - 48) * 10)] (c_X2_readDigit l E M L (p1 + 1) sz (-1) hsz hs1 hp2) m_3_84 wi_X2_readDigit rfl rfl (by decide) (by decide +kernel) ⟨Nat.le_of_ble_eq_true rfl, Nat.le_of_ble_eq_true rfl⟩ rfl hl rfl (Nat.le_of_ble_eq_true rfl) ⟨Nat.zero_le _, Nat.zero_le _⟩ dX2_readNumber_53 (fun H locs hP hS => ?_)
        refine lv_iadd hx hb dX2_readNumber_56 ?_
        refine lv_istore (lv' := [(4, .int ((((letF (M 73) sz p1) - 48) * 10) + ((letF (M 73) sz (p1 + 1)) - 48))), (3, .int (nI p1)), (0, .ref (fad E 72)), (1, .int lo), (2, .int hi)]) hx hb dX2_readNumber_57 hl (by decide) rfl (fun ls hl => ?_)
        refine lv_iload hx hb dX2_readNumber_59 (lv_at hl 0 rfl) ?_
        refine lv_iload_n hx hb dX2_readNumber_61 rfl (lv_at hl 3 rfl) ?_
        refine lv_iload_n hx hb dX2_readNumber_62 rfl (lv_at hl 4 rfl) ?_
        refine f_iN (n := 3) X hP hS [.int ((((letF (M 73) sz p1) - 48) * 10) + ((letF (M 73) sz (p1 + 1)) - 48)), .int lo, .int hi] [] (c_X7_within l E (pM M ((p1 + 1) + 1) (-1)) L ((((letF (M 73) sz p1) - 48) * 10) + ((letF (M 73) sz (p1 + 1)) - 48)) lo hi) (fX.n3 X) wi_X7_within (by decide +kernel) ⟨Nat.le_of_ble_eq_true rfl, Nat.le_of_ble_eq_true rfl⟩ rfl hl rfl (Nat.le_of_ble_eq_true rfl) ⟨Nat.zero_le _, Nat.zero_le _⟩ dX2_readNumber_63 (fun H locs hP hS => ?_)
        refine lv_if_eq (tgt := 74) hx hb dX2_readNumber_66 (by decide) (fun c_66 => ?_) (fun c_66 => ?_)
        · have c_66 := bI0 c_66
          refine lv_aload_n hx hb dX2_readNumber_74 rfl (lv_at hl 2 rfl) ?_
          refine lv_iload_n hx hb dX2_readNumber_75 rfl (lv_at hl 1 rfl) ?_
          refine f_iV (n := 1) X hP hS [.int (nI p1)] [] (c_X2_failAt l E M L (nI p1) ((p1 + 1) + 1) (-1)) m_3_71 wi_X2_failAt rfl rfl (by decide) (by decide +kernel) ⟨Nat.le_of_ble_eq_true rfl, Nat.le_of_ble_eq_true rfl⟩ rfl hl rfl (Nat.le_of_ble_eq_true rfl) ⟨Nat.zero_le _, Nat.zero_le _⟩ dX2_readNumber_76 (fun H locs hP hS => ?_)
          refine f_ir X hlk hr (v := (-1)) rfl hP hS ?_ dX2_readNumber_79
          first | (rw [numF_3 es c_25 c_44 c_66]; exact ⟨rfl, rfl⟩) | (rw [numF_4 es c_25 c_44 c_66]; exact ⟨rfl, rfl⟩)
        · have c_66 := bI1 c_66
          refine lv_iload hx hb dX2_readNumber_69 (lv_at hl 0 rfl) ?_
          refine lv_goto (tgt := 79) hx hb dX2_readNumber_71 (by decide) ?_
          refine f_ir X hlk hr (v := ((((letF (M 73) sz p1) - 48) * 10) + ((letF (M 73) sz (p1 + 1)) - 48))) rfl hP hS ?_ dX2_readNumber_79
          first | (rw [numF_3 es c_25 c_44 c_66]; exact ⟨rfl, rfl⟩) | (rw [numF_4 es c_25 c_44 c_66]; exact ⟨rfl, rfl⟩)
    · have c_25 := bI0 c_25
      refine lv_aload_n hx hb dX2_readNumber_28 rfl (lv_at hl 1 rfl) ?_
      refine lv_iload_n hx hb dX2_readNumber_29 rfl (lv_at hl 0 rfl) ?_
      refine f_iV (n := 1) X hP hS [.int (nI p1)] [] (c_X2_failAt l E M L (nI p1) p1 (-1)) m_3_71 wi_X2_failAt rfl rfl (by decide) (by decide +kernel) ⟨Nat.le_of_ble_eq_true rfl, Nat.le_of_ble_eq_true rfl⟩ rfl hl rfl (Nat.le_of_ble_eq_true rfl) ⟨Nat.zero_le _, Nat.zero_le _⟩ dX2_readNumber_30 (fun H locs hP hS => ?_)
      refine f_ir X hlk hr (v := (-1)) rfl hP hS ?_ dX2_readNumber_33
      rw [numF_2 es c_25]; exact ⟨rfl, rfl⟩
  · refine lv_iconst (v := (-1)) hx hb dX2_readNumber_14 (by decide) ?_
    refine f_ir X hlk hr (v := (-1)) rfl hP hS ?_ dX2_readNumber_15
    rw [numF_1 es c_11]; exact ⟨rfl, rfl⟩

set_option maxHeartbeats 4000000 in
set_option maxRecDepth 100000 in
theorem c_X2_readWord (l : Launch) (E : fE) (M : Nat → Nat → Int32) (L : Nat → Nat → Int64) (iw : Nat) (rm : Int32) (p sz : Nat) (f : Int32) (hiw : iw < 4) (hsz : M 72 3 = nI sz) (hs1 : sz ≤ 160) (hp : p ≤ sz) : Met l yX2_readWord (wl yX2_readWord cX2_readWord 5 none) (fRm 5 106) (va_Pc [.ref (fad E 72), .ref (fsa E (2 + iw)), .int rm] (fPre E (pM M p f) L)) (fQv E (fun u => u = ((pM M (wordsF (M 73) sz iw rm (p, f)).1 (wordsF (M 73) sz iw rm (p, f)).2), L))) 0 0 (fA E) := by
  refine f_head (by decide) (Nat.le_of_ble_eq_true rfl) ?_
  intro pg ev s mi below meth cd ls X hr hlk hP hS hl
  have hx := X.1.1
  have hb := X.1.2.1
  have hl : lv_has ls 5 [(0, .ref (fad E 72)), (1, .ref (fsa E (2 + iw))), (2, .int rm)] := hl
  have hw7 : fwl.getD iw 0 < 100 := (show ∀ iw, iw < 4 → fwl.getD iw 0 < 100 by decide +kernel) iw hiw
  refine lv_aload_n hx hb dX2_readWord_0 rfl (lv_at hl 0 rfl) ?_
  refine f_get X hP (T := TX2) (ci := 2) (k := 72) rfl inX2 rfl 4 (by decide) m_1_167 rfl (v := .int (nI p)) (congrArg Value.int (pM_4 _ _ _)) dX2_readWord_1 ?_
  refine lv_istore_n (lv' := [(3, .int (nI p)), (0, .ref (fad E 72)), (1, .ref (fsa E (2 + iw))), (2, .int rm)]) hx hb dX2_readWord_4 rfl hl (by decide) rfl (fun ls hl => ?_)
  refine lv_iconst (v := 0) hx hb dX2_readWord_5 (by decide) ?_
  refine lv_istore (lv' := [(4, .int 0), (3, .int (nI p)), (0, .ref (fad E 72)), (1, .ref (fsa E (2 + iw))), (2, .int rm)]) hx hb dX2_readWord_6 hl (by decide) rfl (fun ls hl => ?_)
  refine f_loop (α := Nat × Nat × Int32) (fun (a : Nat × Nat × Int32) H locs ls => match a with | (i, pa, fa) => fP E (pM M pa fa) L H ∧ va_S (fA E) s.heap H locs ∧ lv_has ls 5 [(4, .int (nI i)), (3, .int (nI p)), (0, .ref (fad E 72)), (1, .ref (fsa E (2 + iw))), (2, .int rm)] ∧ (i ≤ fwl.getD iw 0) ∧ (pa ≤ sz) ∧ ((pa, fa) = lettersF (M 73) sz iw (p, f) i)) (fun (a : Nat × Nat × Int32) => match a with | (i, pa, fa) => fwl.getD iw 0 - i) (pc0 := 8) (st := fun _ => []) ?_ (0, p, f) _ _ _ ⟨hP, hS, lv_sub hl [0, 1, 2, 3, 4] rfl, (Nat.zero_le _), hp, rfl⟩
  rintro ⟨i, pa, fa⟩ H locs ls ⟨hP, hS, hl, ht, hpa, hbt⟩ ih_8
  refine lv_iload hx hb dX2_readWord_8 (lv_at hl 0 rfl) ?_
  refine lv_aload_n hx hb dX2_readWord_10 rfl (lv_at hl 3 rfl) ?_
  refine f_iVr (n := 0) X hP hS [] [.int (nI i)] (c_J0_length_8abf5 l E (pM M pa fa) L iw hiw) m_3_19 wi_J0_length_8abf5 (vk_recv (fX.sk X) (i := iw) hiw hS) (by decide +kernel) ⟨Nat.le_of_ble_eq_true rfl, Nat.le_of_ble_eq_true rfl⟩ rfl hl rfl (Nat.le_of_ble_eq_true rfl) ⟨Nat.zero_le _, Nat.zero_le _⟩ dX2_readWord_11 (fun H locs hP hS => ?_)
  refine lv_icmp_ge (tgt := 33) hx hb dX2_readWord_14 (by decide) (fun c_14 => ?_) (fun c_14 => ?_)
  · have c_14 := (nI_le_iff (a := (fwl.getD iw 0)) (b := i) (by omega) (by omega)).mp c_14
    obtain rfl : i = fwl.getD iw 0 := by omega
    refine lv_aload_n hx hb dX2_readWord_33 rfl (lv_at hl 2 rfl) ?_
    refine f_get X hP (T := TX2) (ci := 2) (k := 72) rfl inX2 rfl 5 (by decide) m_1_168 rfl (v := .int fa) (congrArg Value.int (pM_5 _ _ _)) dX2_readWord_34 ?_
    refine lv_iconst (v := (-1)) hx hb dX2_readWord_37 (by decide) ?_
    refine lv_icmp_ne (tgt := 51) hx hb dX2_readWord_38 (by decide) (fun c_38 => ?_) (fun c_38 => ?_)
    · refine f_vr X hlk hr hP hS ?_ dX2_readWord_51
      show _ = _
      unfold wordsF; rw [if_neg (by rw [← hbt]; exact fun h => c_38 h.1), ← hbt]
    · refine lv_iload_n hx hb dX2_readWord_41 rfl (lv_at hl 4 rfl) ?_
      refine lv_if_ne (tgt := 51) hx hb dX2_readWord_42 (by decide) (fun c_42 => ?_) (fun c_42 => ?_)
      · refine f_vr X hlk hr hP hS ?_ dX2_readWord_51
        show _ = _
        unfold wordsF; rw [if_neg (fun h => c_42 h.2), ← hbt]
      · refine lv_aload_n hx hb dX2_readWord_45 rfl (lv_at hl 2 rfl) ?_
        refine lv_iload_n hx hb dX2_readWord_46 rfl (lv_at hl 1 rfl) ?_
        refine f_iV (n := 1) X hP hS [.int (nI p)] [] (c_X2_failAt l E M L (nI p) pa fa) m_3_71 wi_X2_failAt rfl rfl (by decide) (by decide +kernel) ⟨Nat.le_of_ble_eq_true rfl, Nat.le_of_ble_eq_true rfl⟩ rfl hl rfl (Nat.le_of_ble_eq_true rfl) ⟨Nat.zero_le _, Nat.zero_le _⟩ dX2_readWord_47 (fun H locs hP hS => ?_)
        refine lv_pop hx hb dX2_readWord_50 rfl ?_
        refine f_vr X hlk hr hP hS ?_ dX2_readWord_51
        show _ = _
        unfold wordsF; rw [if_pos ⟨by rw [← hbt]; exact c_38, c_42⟩, ← hbt]
  · have c_14 := (not_congr (nI_le_iff (a := (fwl.getD iw 0)) (b := i) (by omega) (by omega))).mp c_14
    refine lv_aload_n hx hb dX2_readWord_17 rfl (lv_at hl 2 rfl) ?_
    refine lv_aload_n hx hb dX2_readWord_18 rfl (lv_at hl 3 rfl) ?_
    refine lv_iload hx hb dX2_readWord_19 (lv_at hl 0 rfl) ?_
    refine f_iVr (n := 1) X hP hS [.int (nI i)] [.ref (fad E 72)] (c_J0_charAt_5068e l E (pM M pa fa) L iw (nI i) i hiw rfl (by omega)) m_3_29 wi_J0_charAt_5068e (vk_recv (fX.sk X) (i := iw) hiw hS) (by decide +kernel) ⟨Nat.le_of_ble_eq_true rfl, Nat.le_of_ble_eq_true rfl⟩ rfl hl rfl (Nat.le_of_ble_eq_true rfl) ⟨Nat.zero_le _, Nat.zero_le _⟩ dX2_readWord_21 (fun H locs hP hS => ?_)
    refine f_vV (n := 1) X hP hS [.int ((fwb.getD iw []).getD i 0)] [] (c_X2_readSign l E M L ((fwb.getD iw []).getD i 0) pa sz fa hsz hs1 hpa) m_3_67 wi_X2_readSign rfl rfl (by decide) (by decide +kernel) ⟨Nat.le_of_ble_eq_true rfl, Nat.le_of_ble_eq_true rfl⟩ rfl hl rfl (Nat.le_of_ble_eq_true rfl) ⟨Nat.zero_le _, Nat.zero_le _⟩ dX2_readWord_24 (fun H locs hP hS => ?_)
    refine lv_iinc (v := (nI (i + 1))) (lv' := [(4, .int (nI (i + 1))), (3, .int (nI p)), (0, .ref (fad E 72)), (1, .ref (fsa E (2 + iw))), (2, .int rm)]) hx hb dX2_readWord_27 hl (k := 0) rfl (nI_1 _) (by decide) rfl (fun ls hl => ?_)
    refine lv_goto (tgt := 8) hx hb dX2_readWord_30 (by decide) ?_
    exact ih_8 ((i + 1), (signF (M 73) sz ((fwb.getD iw []).getD i 0) (pa, fa)).1, (signF (M 73) sz ((fwb.getD iw []).getD i 0) (pa, fa)).2) _ _ _ (by show fwl.getD iw 0 - (i + 1) < fwl.getD iw 0 - i; omega) ⟨hP, hS, lv_sub hl [0, 1, 2, 3, 4] rfl, (by omega), (signF_le (chrF_ne hiw (by omega)) hpa), (by show ((signF _ _ _ (pa, fa)).1, (signF _ _ _ (pa, fa)).2) = _; rw [hbt]; rfl)⟩

set_option maxHeartbeats 4000000 in
set_option maxRecDepth 100000 in
theorem c_X2_readHope (l : Launch) (E : fE) (M : Nat → Nat → Int32) (L : Nat → Nat → Int64) (p sz : Nat) (f : Int32) (hsz : M 72 3 = nI sz) (hs1 : sz ≤ 160) (hp : p ≤ sz) (hcn : cntN M) : Met l yX2_readHope (wl yX2_readHope cX2_readHope 2 none) (fRm 6 130) (va_Pc [.ref (fad E 72)] (fPre E (pM M p f) L)) (fQv E (fun u => u = ((pM (hoF M sz (p, f)).1 (hoF M sz (p, f)).2.1 (hoF M sz (p, f)).2.2), L))) 0 0 (fA E) := by
  refine f_head (by decide) (Nat.le_of_ble_eq_true rfl) ?_
  intro pg ev s mi below meth cd ls X hr hlk hP hS hl
  have hx := X.1.1
  have hb := X.1.2.1
  have hl : lv_has ls 2 [(0, .ref (fad E 72))] := hl
  refine lv_aload_n hx hb dX2_readHope_0 rfl (lv_at hl 0 rfl) ?_
  refine va_ldcS hx hb X.1.2.2.2.1 (fX.w3 X) dX2_readHope_1 ?_
  refine lv_iconst (v := 1) hx hb dX2_readHope_3 (by decide) ?_
  refine f_vV (n := 2) X hP hS [.ref (fsa E (2 + 3)), .int 1] [] (c_X2_readWord l E M L 3 1 p sz f (by decide) hsz hs1 hp) m_3_15 wi_X2_readWord rfl rfl (by decide) (by decide +kernel) ⟨Nat.le_of_ble_eq_true rfl, Nat.le_of_ble_eq_true rfl⟩ rfl hl rfl (Nat.le_of_ble_eq_true rfl) ⟨Nat.zero_le _, Nat.zero_le _⟩ dX2_readHope_4 (fun H locs hP hS => ?_)
  obtain ⟨p0, f0, e0⟩ := ex2 (wordsF (M 73) sz 3 1 (p, f))
  rw [e0] at hP
  have hp0 : p0 ≤ sz := by have := wordsF_le (lt := M 73) (iw := 3) (rm := 1) (s := (p, f)) (by decide) hp; rw [e0] at this; exact this
  refine lv_aload_n hx hb dX2_readHope_7 rfl (lv_at hl 0 rfl) ?_
  refine lv_iconst (v := 0) hx hb dX2_readHope_8 (by decide) ?_
  refine lv_bipush (v := 9) hx hb dX2_readHope_9 (by decide) ?_
  refine f_iV (n := 2) X hP hS [.int 0, .int 9] [] (c_X2_readNumber l E M L 0 9 p0 sz f0 hsz hs1 hp0) m_3_75 wi_X2_readNumber rfl rfl (by decide) (by decide +kernel) ⟨Nat.le_of_ble_eq_true rfl, Nat.le_of_ble_eq_true rfl⟩ rfl hl rfl (Nat.le_of_ble_eq_true rfl) ⟨Nat.zero_le _, Nat.zero_le _⟩ dX2_readHope_11 (fun H locs hP hS => ?_)
  obtain ⟨v1, p1, f1, e1⟩ := ex3 (numF (M 73) sz 0 9 (p0, f0))
  refine f_topI (v := v1) (by rw [e1]) ?_
  rw [e1] at hP
  have hp1 : p1 ≤ sz := by have := numF_le (lt := M 73) (lo := 0) (hi := 9) (s := (p0, f0)) hp0; rw [e1] at this; exact this
  refine lv_istore_n (lv' := [(1, .int v1), (0, .ref (fad E 72))]) hx hb dX2_readHope_14 rfl hl (by decide) rfl (fun ls hl => ?_)
  refine lv_aload_n hx hb dX2_readHope_15 rfl (lv_at hl 1 rfl) ?_
  refine f_get X hP (T := TX2) (ci := 2) (k := 72) rfl inX2 rfl 5 (by decide) m_1_168 rfl (v := .int f1) (congrArg Value.int (pM_5 _ _ _)) dX2_readHope_16 ?_
  refine lv_iconst (v := (-1)) hx hb dX2_readHope_19 (by decide) ?_
  refine lv_icmp_ne (tgt := 31) hx hb dX2_readHope_20 (by decide) (fun c_20 => ?_) (fun c_20 => ?_)
  · refine f_vr X hlk hr hP hS ?_ dX2_readHope_31
    show _ = _
    unfold hoF; simp only [e0, e1]; rw [if_neg c_20]
  · refine lv_aload_n hx hb dX2_readHope_23 rfl (lv_at hl 1 rfl) ?_
    refine f_get X hP (T := TX2) (ci := 2) (k := 72) rfl inX2 rfl 0 (by decide) m_1_161 rfl (v := .ref (fad E 54)) rfl dX2_readHope_24 ?_
    refine lv_iload_n hx hb dX2_readHope_27 rfl (lv_at hl 0 rfl) ?_
    refine f_put X hP hS (T := TX1) (ci := 1) (k := 54) rfl inX1 rfl tyX1 tyX1_ok nmX1 5 (by decide) m_1_122 ⟨rfl, rfl⟩ rfl (v := v1) rfl rfl dX2_readHope_28 (fun H locs hP hS => ?_)
    have hP := fP_eq (pM_wo _ _ _ _ (Or.inl (by decide))) hP
    refine f_vr X hlk hr hP hS ?_ dX2_readHope_31
    show _ = _
    unfold hoF; simp only [e0, e1]; rw [if_pos c_20]

set_option maxHeartbeats 4000000 in
set_option maxRecDepth 100000 in
theorem c_X2_readMoves (l : Launch) (E : fE) (M : Nat → Nat → Int32) (L : Nat → Nat → Int64) (p sz : Nat) (f : Int32) (hsz : M 72 3 = nI sz) (hs1 : sz ≤ 160) (hp : p ≤ sz) (hcn : cntN M) : Met l yX2_readMoves (wl yX2_readMoves cX2_readMoves 3 none) (fRm 6 130) (va_Pc [.ref (fad E 72)] (fPre E (pM M p f) L)) (fQv E (fun u => u = ((pM (moF M sz (p, f)).1 (moF M sz (p, f)).2.1 (moF M sz (p, f)).2.2), L))) 0 0 (fA E) := by
  refine f_head (by decide) (Nat.le_of_ble_eq_true rfl) ?_
  intro pg ev s mi below meth cd ls X hr hlk hP hS hl
  have hx := X.1.1
  have hb := X.1.2.1
  have hl : lv_has ls 3 [(0, .ref (fad E 72))] := hl
  refine lv_aload_n hx hb dX2_readMoves_0 rfl (lv_at hl 0 rfl) ?_
  refine va_ldcS hx hb X.1.2.2.2.1 (fX.w2 X) dX2_readMoves_1 ?_
  refine lv_iconst (v := 1) hx hb dX2_readMoves_3 (by decide) ?_
  refine f_vV (n := 2) X hP hS [.ref (fsa E (2 + 2)), .int 1] [] (c_X2_readWord l E M L 2 1 p sz f (by decide) hsz hs1 hp) m_3_15 wi_X2_readWord rfl rfl (by decide) (by decide +kernel) ⟨Nat.le_of_ble_eq_true rfl, Nat.le_of_ble_eq_true rfl⟩ rfl hl rfl (Nat.le_of_ble_eq_true rfl) ⟨Nat.zero_le _, Nat.zero_le _⟩ dX2_readMoves_4 (fun H locs hP hS => ?_)
  obtain ⟨p0, f0, e0⟩ := ex2 (wordsF (M 73) sz 2 1 (p, f))
  rw [e0] at hP
  have hp0 : p0 ≤ sz := by have := wordsF_le (lt := M 73) (iw := 2) (rm := 1) (s := (p, f)) (by decide) hp; rw [e0] at this; exact this
  refine lv_aload_n hx hb dX2_readMoves_7 rfl (lv_at hl 0 rfl) ?_
  refine lv_iconst (v := 0) hx hb dX2_readMoves_8 (by decide) ?_
  refine lv_aload_n hx hb dX2_readMoves_9 rfl (lv_at hl 0 rfl) ?_
  refine f_get X hP (T := TX2) (ci := 2) (k := 72) rfl inX2 rfl 0 (by decide) m_1_161 rfl (v := .ref (fad E 54)) rfl dX2_readMoves_10 ?_
  refine f_get X hP (T := TX1) (ci := 1) (k := 54) rfl inX1 rfl 4 (by decide) m_1_118 rfl (v := .int (M 54 4)) (congrArg Value.int (pM_o _ _ _ (Or.inl (by decide)))) dX2_readMoves_13 ?_
  refine lv_iconst (v := 1) hx hb dX2_readMoves_16 (by decide) ?_
  refine lv_isub hx hb dX2_readMoves_17 ?_
  refine f_iV (n := 2) X hP hS [.int 0, .int ((M 54 4) - 1)] [] (c_X2_readNumber l E M L 0 ((M 54 4) - 1) p0 sz f0 hsz hs1 hp0) m_3_75 wi_X2_readNumber rfl rfl (by decide) (by decide +kernel) ⟨Nat.le_of_ble_eq_true rfl, Nat.le_of_ble_eq_true rfl⟩ rfl hl rfl (Nat.le_of_ble_eq_true rfl) ⟨Nat.zero_le _, Nat.zero_le _⟩ dX2_readMoves_18 (fun H locs hP hS => ?_)
  obtain ⟨v1, p1, f1, e1⟩ := ex3 (numF (M 73) sz 0 ((M 54 4) - 1) (p0, f0))
  refine f_topI (v := v1) (by rw [e1]) ?_
  rw [e1] at hP
  have hp1 : p1 ≤ sz := by have := numF_le (lt := M 73) (lo := 0) (hi := ((M 54 4) - 1)) (s := (p0, f0)) hp0; rw [e1] at this; exact this
  refine lv_istore_n (lv' := [(1, .int v1), (0, .ref (fad E 72))]) hx hb dX2_readMoves_21 rfl hl (by decide) rfl (fun ls hl => ?_)
  refine lv_aload_n hx hb dX2_readMoves_22 rfl (lv_at hl 1 rfl) ?_
  refine lv_iconst (v := 0) hx hb dX2_readMoves_23 (by decide) ?_
  refine lv_bipush (v := 9) hx hb dX2_readMoves_24 (by decide) ?_
  refine f_iV (n := 2) X hP hS [.int 0, .int 9] [] (c_X2_readNumber l E M L 0 9 p1 sz f1 hsz hs1 hp1) m_3_75 wi_X2_readNumber rfl rfl (by decide) (by decide +kernel) ⟨Nat.le_of_ble_eq_true rfl, Nat.le_of_ble_eq_true rfl⟩ rfl hl rfl (Nat.le_of_ble_eq_true rfl) ⟨Nat.zero_le _, Nat.zero_le _⟩ dX2_readMoves_26 (fun H locs hP hS => ?_)
  obtain ⟨v2, p2, f2, e2⟩ := ex3 (numF (M 73) sz 0 9 (p1, f1))
  refine f_topI (v := v2) (by rw [e2]) ?_
  rw [e2] at hP
  have hp2 : p2 ≤ sz := by have := numF_le (lt := M 73) (lo := 0) (hi := 9) (s := (p1, f1)) hp1; rw [e2] at this; exact this
  refine lv_istore_n (lv' := [(2, .int v2), (1, .int v1), (0, .ref (fad E 72))]) hx hb dX2_readMoves_29 rfl hl (by decide) rfl (fun ls hl => ?_)
  refine lv_aload_n hx hb dX2_readMoves_30 rfl (lv_at hl 2 rfl) ?_
  refine f_get X hP (T := TX2) (ci := 2) (k := 72) rfl inX2 rfl 5 (by decide) m_1_168 rfl (v := .int f2) (congrArg Value.int (pM_5 _ _ _)) dX2_readMoves_31 ?_
  refine lv_iconst (v := (-1)) hx hb dX2_readMoves_34 (by decide) ?_
  refine lv_icmp_ne (tgt := 62) hx hb dX2_readMoves_35 (by decide) (fun c_35 => ?_) (fun c_35 => ?_)
  · refine f_vr X hlk hr hP hS ?_ dX2_readMoves_62
    show _ = _
    unfold moF; simp only [e0, e1, e2]; rw [if_neg c_35]
  · refine lv_aload_n hx hb dX2_readMoves_38 rfl (lv_at hl 2 rfl) ?_
    refine f_get X hP (T := TX2) (ci := 2) (k := 72) rfl inX2 rfl 0 (by decide) m_1_161 rfl (v := .ref (fad E 54)) rfl dX2_readMoves_39 ?_
    refine lv_iload_n hx hb dX2_readMoves_42 rfl (lv_at hl 1 rfl) ?_
    refine f_iV (n := 1) X hP hS [.int v1] [] (c_X1_hasWaiter l E (pM M p2 f2) L 54 v1 rfl) m_3_101 wi_X1_hasWaiter rfl rfl (by decide) (by decide +kernel) ⟨Nat.le_of_ble_eq_true rfl, Nat.le_of_ble_eq_true rfl⟩ rfl hl rfl (Nat.le_of_ble_eq_true rfl) ⟨Nat.zero_le _, Nat.zero_le _⟩ dX2_readMoves_43 (fun H locs hP hS => ?_)
    refine f_topI (v := (bI (decide (0 ≤ v1 ∧ v1 < (M 54 4) ∧ v1 < 6)))) (by rw [show ((pM M p2 f2) 54 4) = (M 54 4) from (pM_o _ _ _ (Or.inl (by decide)))] <;> rfl) ?_
    refine lv_if_eq (tgt := 62) hx hb dX2_readMoves_46 (by decide) (fun c_46 => ?_) (fun c_46 => ?_)
    · have c_46 := bI0 c_46
      refine f_vr X hlk hr hP hS ?_ dX2_readMoves_62
      show _ = _
      unfold moF; simp only [e0, e1, e2]; rw [if_pos c_35, if_neg c_46]
    · have c_46 := bI1 c_46
      have hlt : v1.toNatClampNeg < 6 := (fIx_lt 6 c_46.1 c_46.2.2 (by decide)).2.2
      refine lv_aload_n hx hb dX2_readMoves_49 rfl (lv_at hl 2 rfl) ?_
      refine f_get X hP (T := TX2) (ci := 2) (k := 72) rfl inX2 rfl 0 (by decide) m_1_161 rfl (v := .ref (fad E 54)) rfl dX2_readMoves_50 ?_
      refine f_get X hP (T := TX1) (ci := 1) (k := 54) rfl inX1 rfl 1 (by decide) m_1_111 rfl (v := .ref (fad E 56)) rfl dX2_readMoves_53 ?_
      refine lv_iload_n hx hb dX2_readMoves_56 rfl (lv_at hl 1 rfl) ?_
      refine f_aald X hP (t := 13) (d := 10) (n := 6) (r := v1.toNatClampNeg) rfl rfl (.inr (.inr (.inl ⟨rfl, rfl⟩))) (fIx_lt 6 c_46.1 c_46.2.2 (by decide)) (66 + v1.toNatClampNeg) (by omega) dX2_readMoves_57 ?_
      refine lv_iload_n hx hb dX2_readMoves_58 rfl (lv_at hl 0 rfl) ?_
      refine f_put X hP hS (T := TX6) (ci := 6) (k := (66 + v1.toNatClampNeg)) (sh_gw (g := 54) rfl (by omega)) inX6 rfl tyX6 tyX6_ok nmX6 5 (by decide) m_1_91 ⟨rfl, rfl⟩ rfl (v := v2) rfl rfl dX2_readMoves_59 (fun H locs hP hS => ?_)
      have hP := fP_eq (pM_wo _ _ _ _ (Or.inl (by omega))) hP
      refine f_vr X hlk hr hP hS ?_ dX2_readMoves_62
      show _ = _
      unfold moF; simp only [e0, e1, e2]; rw [if_pos c_35, if_pos c_46]
