set_option maxHeartbeats 4000000 in
set_option maxRecDepth 100000 in
theorem c_X2_readThing (l : Launch) (E : fE) (M : Nat → Nat → Int32) (L : Nat → Nat → Int64) (p sz : Nat) (f : Int32) (hsz : M 72 3 = nI sz) (hs1 : sz ≤ 160) (hp : p ≤ sz) (hcn : cntN M) : Met l yX2_readThing (wl yX2_readThing cX2_readThing 8 none) (fRm 6 130) (va_Pc [.ref (fad E 72)] (fPre E (pM M p f) L)) (fQv E (fun u => u = ((pM (thF M sz (p, f)).1 (thF M sz (p, f)).2.1 (thF M sz (p, f)).2.2), L))) 0 0 (fA E) := by
  refine f_head (by decide) (Nat.le_of_ble_eq_true rfl) ?_
  intro pg ev s mi below meth cd ls X hr hlk hP hS hl
  have hx := X.1.1
  have hb := X.1.2.1
  have hl : lv_has ls 8 [(0, .ref (fad E 72))] := hl
  refine lv_aload_n hx hb dX2_readThing_0 rfl (lv_at hl 0 rfl) ?_
  refine va_ldcS hx hb X.1.2.2.2.1 (fX.w0 X) dX2_readThing_1 ?_
  refine lv_aload_n hx hb dX2_readThing_3 rfl (lv_at hl 0 rfl) ?_
  refine f_get X hP (T := TX2) (ci := 2) (k := 72) rfl inX2 rfl 0 (by decide) m_1_161 rfl (v := .ref (fad E 54)) rfl dX2_readThing_4 ?_
  refine f_iV (n := 0) X hP hS [] [.ref (fsa E (2 + 0)), .ref (fad E 72)] (c_X1_hasRoomForThing l E (pM M p f) L 54 rfl) m_3_14 wi_X1_hasRoomForThing rfl rfl (by decide) (by decide +kernel) ⟨Nat.le_of_ble_eq_true rfl, Nat.le_of_ble_eq_true rfl⟩ rfl hl rfl (Nat.le_of_ble_eq_true rfl) ⟨Nat.zero_le _, Nat.zero_le _⟩ dX2_readThing_7 (fun H locs hP hS => ?_)
  refine f_topI (v := (bI (decide ((M 54 3) < 8)))) (by rw [show ((pM M p f) 54 3) = (M 54 3) from (pM_o _ _ _ (Or.inr (by decide)))] <;> rfl) ?_
  refine f_vV (n := 2) X hP hS [.ref (fsa E (2 + 0)), .int (bI (decide ((M 54 3) < 8)))] [] (c_X2_readWord l E M L 0 (bI (decide ((M 54 3) < 8))) p sz f (by decide) hsz hs1 hp) m_3_15 wi_X2_readWord rfl rfl (by decide) (by decide +kernel) ⟨Nat.le_of_ble_eq_true rfl, Nat.le_of_ble_eq_true rfl⟩ rfl hl rfl (Nat.le_of_ble_eq_true rfl) ⟨Nat.zero_le _, Nat.zero_le _⟩ dX2_readThing_10 (fun H locs hP hS => ?_)
  obtain ⟨p0, f0, e0⟩ := ex2 (wordsF (M 73) sz 0 (bI (decide ((M 54 3) < 8))) (p, f))
  rw [e0] at hP
  have hp0 : p0 ≤ sz := by have := wordsF_le (lt := M 73) (iw := 0) (rm := (bI (decide ((M 54 3) < 8)))) (s := (p, f)) (by decide) hp; rw [e0] at this; exact this
  refine lv_aload_n hx hb dX2_readThing_13 rfl (lv_at hl 0 rfl) ?_
  refine lv_iconst (v := 0) hx hb dX2_readThing_14 (by decide) ?_
  refine lv_bipush (v := 9) hx hb dX2_readThing_15 (by decide) ?_
  refine f_iV (n := 2) X hP hS [.int 0, .int 9] [] (c_X2_readNumber l E M L 0 9 p0 sz f0 hsz hs1 hp0) m_3_75 wi_X2_readNumber rfl rfl (by decide) (by decide +kernel) ⟨Nat.le_of_ble_eq_true rfl, Nat.le_of_ble_eq_true rfl⟩ rfl hl rfl (Nat.le_of_ble_eq_true rfl) ⟨Nat.zero_le _, Nat.zero_le _⟩ dX2_readThing_17 (fun H locs hP hS => ?_)
  obtain ⟨v1, p1, f1, e1⟩ := ex3 (numF (M 73) sz 0 9 (p0, f0))
  refine f_topI (v := v1) (by rw [e1]) ?_
  rw [e1] at hP
  have hp1 : p1 ≤ sz := by have := numF_le (lt := M 73) (lo := 0) (hi := 9) (s := (p0, f0)) hp0; rw [e1] at this; exact this
  refine lv_istore_n (lv' := [(1, .int v1), (0, .ref (fad E 72))]) hx hb dX2_readThing_20 rfl hl (by decide) rfl (fun ls hl => ?_)
  refine lv_aload_n hx hb dX2_readThing_21 rfl (lv_at hl 1 rfl) ?_
  refine lv_iconst (v := 0) hx hb dX2_readThing_22 (by decide) ?_
  refine lv_bipush (v := 23) hx hb dX2_readThing_23 (by decide) ?_
  refine f_iV (n := 2) X hP hS [.int 0, .int 23] [] (c_X2_readNumber l E M L 0 23 p1 sz f1 hsz hs1 hp1) m_3_75 wi_X2_readNumber rfl rfl (by decide) (by decide +kernel) ⟨Nat.le_of_ble_eq_true rfl, Nat.le_of_ble_eq_true rfl⟩ rfl hl rfl (Nat.le_of_ble_eq_true rfl) ⟨Nat.zero_le _, Nat.zero_le _⟩ dX2_readThing_25 (fun H locs hP hS => ?_)
  obtain ⟨v2, p2, f2, e2⟩ := ex3 (numF (M 73) sz 0 23 (p1, f1))
  refine f_topI (v := v2) (by rw [e2]) ?_
  rw [e2] at hP
  have hp2 : p2 ≤ sz := by have := numF_le (lt := M 73) (lo := 0) (hi := 23) (s := (p1, f1)) hp1; rw [e2] at this; exact this
  refine lv_istore_n (lv' := [(2, .int v2), (1, .int v1), (0, .ref (fad E 72))]) hx hb dX2_readThing_28 rfl hl (by decide) rfl (fun ls hl => ?_)
  refine lv_aload_n hx hb dX2_readThing_29 rfl (lv_at hl 2 rfl) ?_
  refine lv_iload_n hx hb dX2_readThing_30 rfl (lv_at hl 0 rfl) ?_
  refine lv_bipush (v := 23) hx hb dX2_readThing_31 (by decide) ?_
  refine f_iV (n := 2) X hP hS [.int v2, .int 23] [] (c_X2_readNumber l E M L v2 23 p2 sz f2 hsz hs1 hp2) m_3_75 wi_X2_readNumber rfl rfl (by decide) (by decide +kernel) ⟨Nat.le_of_ble_eq_true rfl, Nat.le_of_ble_eq_true rfl⟩ rfl hl rfl (Nat.le_of_ble_eq_true rfl) ⟨Nat.zero_le _, Nat.zero_le _⟩ dX2_readThing_33 (fun H locs hP hS => ?_)
  obtain ⟨v3, p3, f3, e3⟩ := ex3 (numF (M 73) sz v2 23 (p2, f2))
  refine f_topI (v := v3) (by rw [e3]) ?_
  rw [e3] at hP
  have hp3 : p3 ≤ sz := by have := numF_le (lt := M 73) (lo := v2) (hi := 23) (s := (p2, f2)) hp2; rw [e3] at this; exact this
  refine lv_istore_n (lv' := [(3, .int v3), (2, .int v2), (1, .int v1), (0, .ref (fad E 72))]) hx hb dX2_readThing_36 rfl hl (by decide) rfl (fun ls hl => ?_)
  refine lv_aload_n hx hb dX2_readThing_37 rfl (lv_at hl 3 rfl) ?_
  refine lv_iconst (v := 0) hx hb dX2_readThing_38 (by decide) ?_
  refine lv_bipush (v := 9) hx hb dX2_readThing_39 (by decide) ?_
  refine f_iV (n := 2) X hP hS [.int 0, .int 9] [] (c_X2_readNumber l E M L 0 9 p3 sz f3 hsz hs1 hp3) m_3_75 wi_X2_readNumber rfl rfl (by decide) (by decide +kernel) ⟨Nat.le_of_ble_eq_true rfl, Nat.le_of_ble_eq_true rfl⟩ rfl hl rfl (Nat.le_of_ble_eq_true rfl) ⟨Nat.zero_le _, Nat.zero_le _⟩ dX2_readThing_41 (fun H locs hP hS => ?_)
  obtain ⟨v4, p4, f4, e4⟩ := ex3 (numF (M 73) sz 0 9 (p3, f3))
  refine f_topI (v := v4) (by rw [e4]) ?_
  rw [e4] at hP
  have hp4 : p4 ≤ sz := by have := numF_le (lt := M 73) (lo := 0) (hi := 9) (s := (p3, f3)) hp3; rw [e4] at this; exact this
  refine lv_istore (lv' := [(4, .int v4), (3, .int v3), (2, .int v2), (1, .int v1), (0, .ref (fad E 72))]) hx hb dX2_readThing_44 hl (by decide) rfl (fun ls hl => ?_)
  refine lv_aload_n hx hb dX2_readThing_46 rfl (lv_at hl 4 rfl) ?_
  refine lv_iconst (v := 0) hx hb dX2_readThing_47 (by decide) ?_
  refine lv_bipush (v := 99) hx hb dX2_readThing_48 (by decide) ?_
  refine f_iV (n := 2) X hP hS [.int 0, .int 99] [] (c_X2_readNumber l E M L 0 99 p4 sz f4 hsz hs1 hp4) m_3_75 wi_X2_readNumber rfl rfl (by decide) (by decide +kernel) ⟨Nat.le_of_ble_eq_true rfl, Nat.le_of_ble_eq_true rfl⟩ rfl hl rfl (Nat.le_of_ble_eq_true rfl) ⟨Nat.zero_le _, Nat.zero_le _⟩ dX2_readThing_50 (fun H locs hP hS => ?_)
  obtain ⟨v5, p5, f5, e5⟩ := ex3 (numF (M 73) sz 0 99 (p4, f4))
  refine f_topI (v := v5) (by rw [e5]) ?_
  rw [e5] at hP
  have hp5 : p5 ≤ sz := by have := numF_le (lt := M 73) (lo := 0) (hi := 99) (s := (p4, f4)) hp4; rw [e5] at this; exact this
  refine lv_istore (lv' := [(5, .int v5), (4, .int v4), (3, .int v3), (2, .int v2), (1, .int v1), (0, .ref (fad E 72))]) hx hb dX2_readThing_53 hl (by decide) rfl (fun ls hl => ?_)
  refine lv_aload_n hx hb dX2_readThing_55 rfl (lv_at hl 5 rfl) ?_
  refine lv_iconst (v := 0) hx hb dX2_readThing_56 (by decide) ?_
  refine lv_bipush (v := 9) hx hb dX2_readThing_57 (by decide) ?_
  refine f_iV (n := 2) X hP hS [.int 0, .int 9] [] (c_X2_readNumber l E M L 0 9 p5 sz f5 hsz hs1 hp5) m_3_75 wi_X2_readNumber rfl rfl (by decide) (by decide +kernel) ⟨Nat.le_of_ble_eq_true rfl, Nat.le_of_ble_eq_true rfl⟩ rfl hl rfl (Nat.le_of_ble_eq_true rfl) ⟨Nat.zero_le _, Nat.zero_le _⟩ dX2_readThing_59 (fun H locs hP hS => ?_)
  obtain ⟨v6, p6, f6, e6⟩ := ex3 (numF (M 73) sz 0 9 (p5, f5))
  refine f_topI (v := v6) (by rw [e6]) ?_
  rw [e6] at hP
  have hp6 : p6 ≤ sz := by have := numF_le (lt := M 73) (lo := 0) (hi := 9) (s := (p5, f5)) hp5; rw [e6] at this; exact this
  refine lv_istore (lv' := [(6, .int v6), (5, .int v5), (4, .int v4), (3, .int v3), (2, .int v2), (1, .int v1), (0, .ref (fad E 72))]) hx hb dX2_readThing_62 hl (by decide) rfl (fun ls hl => ?_)
  refine lv_aload_n hx hb dX2_readThing_64 rfl (lv_at hl 6 rfl) ?_
  refine lv_iconst (v := 0) hx hb dX2_readThing_65 (by decide) ?_
  refine lv_bipush (v := 20) hx hb dX2_readThing_66 (by decide) ?_
  refine f_iV (n := 2) X hP hS [.int 0, .int 20] [] (c_X2_readNumber l E M L 0 20 p6 sz f6 hsz hs1 hp6) m_3_75 wi_X2_readNumber rfl rfl (by decide) (by decide +kernel) ⟨Nat.le_of_ble_eq_true rfl, Nat.le_of_ble_eq_true rfl⟩ rfl hl rfl (Nat.le_of_ble_eq_true rfl) ⟨Nat.zero_le _, Nat.zero_le _⟩ dX2_readThing_68 (fun H locs hP hS => ?_)
  obtain ⟨v7, p7, f7, e7⟩ := ex3 (numF (M 73) sz 0 20 (p6, f6))
  refine f_topI (v := v7) (by rw [e7]) ?_
  rw [e7] at hP
  have hp7 : p7 ≤ sz := by have := numF_le (lt := M 73) (lo := 0) (hi := 20) (s := (p6, f6)) hp6; rw [e7] at this; exact this
  refine lv_istore (lv' := [(7, .int v7), (6, .int v6), (5, .int v5), (4, .int v4), (3, .int v3), (2, .int v2), (1, .int v1), (0, .ref (fad E 72))]) hx hb dX2_readThing_71 hl (by decide) rfl (fun ls hl => ?_)
  refine lv_aload_n hx hb dX2_readThing_73 rfl (lv_at hl 7 rfl) ?_
  refine f_get X hP (T := TX2) (ci := 2) (k := 72) rfl inX2 rfl 5 (by decide) m_1_168 rfl (v := .int f7) (congrArg Value.int (pM_5 _ _ _)) dX2_readThing_74 ?_
  refine lv_iconst (v := (-1)) hx hb dX2_readThing_77 (by decide) ?_
  refine lv_icmp_ne (tgt := 100) hx hb dX2_readThing_78 (by decide) (fun c_78 => ?_) (fun c_78 => ?_)
  · refine f_vr X hlk hr hP hS ?_ dX2_readThing_100
    show _ = _
    unfold thF; simp only [e0, e1, e2, e3, e4, e5, e6, e7]; rw [if_neg c_78]
  · refine lv_aload_n hx hb dX2_readThing_81 rfl (lv_at hl 7 rfl) ?_
    refine f_get X hP (T := TX2) (ci := 2) (k := 72) rfl inX2 rfl 0 (by decide) m_1_161 rfl (v := .ref (fad E 54)) rfl dX2_readThing_82 ?_
    refine lv_iload_n hx hb dX2_readThing_85 rfl (lv_at hl 6 rfl) ?_
    refine lv_iload_n hx hb dX2_readThing_86 rfl (lv_at hl 5 rfl) ?_
    refine lv_iload_n hx hb dX2_readThing_87 rfl (lv_at hl 4 rfl) ?_
    refine lv_iload hx hb dX2_readThing_88 (lv_at hl 3 rfl) ?_
    refine lv_iload hx hb dX2_readThing_90 (lv_at hl 2 rfl) ?_
    refine lv_iload hx hb dX2_readThing_92 (lv_at hl 1 rfl) ?_
    refine lv_iload hx hb dX2_readThing_94 (lv_at hl 0 rfl) ?_
    refine f_iV (n := 7) X hP hS [.int v1, .int v2, .int v3, .int v4, .int v5, .int v6, .int v7] [] (c_X1_addThing l E (pM M p7 f7) L 54 v1 v2 v3 v4 v5 v6 v7 (tcN M) rfl ((pM_o _ _ _ (Or.inl (by decide))).trans hcn.1) hcn.2.1) m_3_88 wi_X1_addThing rfl rfl (by decide) (by decide +kernel) ⟨Nat.le_of_ble_eq_true rfl, Nat.le_of_ble_eq_true rfl⟩ rfl hl rfl (Nat.le_of_ble_eq_true rfl) ⟨Nat.zero_le _, Nat.zero_le _⟩ dX2_readThing_96 (fun H locs hP hS => ?_)
    have hP := fP_eq (show (pM (if (tcN M) < 8 then addT M 54 (tcN M) v1 v2 v3 v4 v5 v6 v7 else M) p7 f7) = (if (tcN M) < 8 then addT (pM M p7 f7) 54 (tcN M) v1 v2 v3 v4 v5 v6 v7 else (pM M p7 f7)) from by
        exact addT_pM) hP
    refine lv_pop hx hb dX2_readThing_99 rfl ?_
    refine f_vr X hlk hr hP hS ?_ dX2_readThing_100
    show _ = _
    unfold thF; simp only [e0, e1, e2, e3, e4, e5, e6, e7]; rw [if_pos c_78]

set_option maxHeartbeats 4000000 in
set_option maxRecDepth 100000 in
theorem c_X2_readWaiter (l : Launch) (E : fE) (M : Nat → Nat → Int32) (L : Nat → Nat → Int64) (p sz : Nat) (f : Int32) (hsz : M 72 3 = nI sz) (hs1 : sz ≤ 160) (hp : p ≤ sz) (hcn : cntN M) : Met l yX2_readWaiter (wl yX2_readWaiter cX2_readWaiter 6 none) (fRm 6 130) (va_Pc [.ref (fad E 72)] (fPre E (pM M p f) L)) (fQv E (fun u => u = ((pM (waF M sz (p, f)).1 (waF M sz (p, f)).2.1 (waF M sz (p, f)).2.2), L))) 0 0 (fA E) := by
  refine f_head (by decide) (Nat.le_of_ble_eq_true rfl) ?_
  intro pg ev s mi below meth cd ls X hr hlk hP hS hl
  have hx := X.1.1
  have hb := X.1.2.1
  have hl : lv_has ls 6 [(0, .ref (fad E 72))] := hl
  refine lv_aload_n hx hb dX2_readWaiter_0 rfl (lv_at hl 0 rfl) ?_
  refine va_ldcS hx hb X.1.2.2.2.1 (fX.w1 X) dX2_readWaiter_1 ?_
  refine lv_aload_n hx hb dX2_readWaiter_3 rfl (lv_at hl 0 rfl) ?_
  refine f_get X hP (T := TX2) (ci := 2) (k := 72) rfl inX2 rfl 0 (by decide) m_1_161 rfl (v := .ref (fad E 54)) rfl dX2_readWaiter_4 ?_
  refine f_iV (n := 0) X hP hS [] [.ref (fsa E (2 + 1)), .ref (fad E 72)] (c_X1_hasRoomForWaiter l E (pM M p f) L 54 rfl) m_3_94 wi_X1_hasRoomForWaiter rfl rfl (by decide) (by decide +kernel) ⟨Nat.le_of_ble_eq_true rfl, Nat.le_of_ble_eq_true rfl⟩ rfl hl rfl (Nat.le_of_ble_eq_true rfl) ⟨Nat.zero_le _, Nat.zero_le _⟩ dX2_readWaiter_7 (fun H locs hP hS => ?_)
  refine f_topI (v := (bI (decide ((M 54 4) < 6)))) (by rw [show ((pM M p f) 54 4) = (M 54 4) from (pM_o _ _ _ (Or.inl (by decide)))] <;> rfl) ?_
  refine f_vV (n := 2) X hP hS [.ref (fsa E (2 + 1)), .int (bI (decide ((M 54 4) < 6)))] [] (c_X2_readWord l E M L 1 (bI (decide ((M 54 4) < 6))) p sz f (by decide) hsz hs1 hp) m_3_15 wi_X2_readWord rfl rfl (by decide) (by decide +kernel) ⟨Nat.le_of_ble_eq_true rfl, Nat.le_of_ble_eq_true rfl⟩ rfl hl rfl (Nat.le_of_ble_eq_true rfl) ⟨Nat.zero_le _, Nat.zero_le _⟩ dX2_readWaiter_10 (fun H locs hP hS => ?_)
  obtain ⟨p0, f0, e0⟩ := ex2 (wordsF (M 73) sz 1 (bI (decide ((M 54 4) < 6))) (p, f))
  rw [e0] at hP
  have hp0 : p0 ≤ sz := by have := wordsF_le (lt := M 73) (iw := 1) (rm := (bI (decide ((M 54 4) < 6)))) (s := (p, f)) (by decide) hp; rw [e0] at this; exact this
  refine lv_aload_n hx hb dX2_readWaiter_13 rfl (lv_at hl 0 rfl) ?_
  refine lv_iconst (v := 0) hx hb dX2_readWaiter_14 (by decide) ?_
  refine lv_bipush (v := 6) hx hb dX2_readWaiter_15 (by decide) ?_
  refine f_iV (n := 2) X hP hS [.int 0, .int 6] [] (c_X2_readNumber l E M L 0 6 p0 sz f0 hsz hs1 hp0) m_3_75 wi_X2_readNumber rfl rfl (by decide) (by decide +kernel) ⟨Nat.le_of_ble_eq_true rfl, Nat.le_of_ble_eq_true rfl⟩ rfl hl rfl (Nat.le_of_ble_eq_true rfl) ⟨Nat.zero_le _, Nat.zero_le _⟩ dX2_readWaiter_17 (fun H locs hP hS => ?_)
  obtain ⟨v1, p1, f1, e1⟩ := ex3 (numF (M 73) sz 0 6 (p0, f0))
  refine f_topI (v := v1) (by rw [e1]) ?_
  rw [e1] at hP
  have hp1 : p1 ≤ sz := by have := numF_le (lt := M 73) (lo := 0) (hi := 6) (s := (p0, f0)) hp0; rw [e1] at this; exact this
  refine lv_istore_n (lv' := [(1, .int v1), (0, .ref (fad E 72))]) hx hb dX2_readWaiter_20 rfl hl (by decide) rfl (fun ls hl => ?_)
  refine lv_aload_n hx hb dX2_readWaiter_21 rfl (lv_at hl 1 rfl) ?_
  refine lv_iconst (v := 0) hx hb dX2_readWaiter_22 (by decide) ?_
  refine lv_bipush (v := 9) hx hb dX2_readWaiter_23 (by decide) ?_
  refine f_iV (n := 2) X hP hS [.int 0, .int 9] [] (c_X2_readNumber l E M L 0 9 p1 sz f1 hsz hs1 hp1) m_3_75 wi_X2_readNumber rfl rfl (by decide) (by decide +kernel) ⟨Nat.le_of_ble_eq_true rfl, Nat.le_of_ble_eq_true rfl⟩ rfl hl rfl (Nat.le_of_ble_eq_true rfl) ⟨Nat.zero_le _, Nat.zero_le _⟩ dX2_readWaiter_25 (fun H locs hP hS => ?_)
  obtain ⟨v2, p2, f2, e2⟩ := ex3 (numF (M 73) sz 0 9 (p1, f1))
  refine f_topI (v := v2) (by rw [e2]) ?_
  rw [e2] at hP
  have hp2 : p2 ≤ sz := by have := numF_le (lt := M 73) (lo := 0) (hi := 9) (s := (p1, f1)) hp1; rw [e2] at this; exact this
  refine lv_istore_n (lv' := [(2, .int v2), (1, .int v1), (0, .ref (fad E 72))]) hx hb dX2_readWaiter_28 rfl hl (by decide) rfl (fun ls hl => ?_)
  refine lv_aload_n hx hb dX2_readWaiter_29 rfl (lv_at hl 2 rfl) ?_
  refine lv_iconst (v := 1) hx hb dX2_readWaiter_30 (by decide) ?_
  refine lv_bipush (v := 9) hx hb dX2_readWaiter_31 (by decide) ?_
  refine f_iV (n := 2) X hP hS [.int 1, .int 9] [] (c_X2_readNumber l E M L 1 9 p2 sz f2 hsz hs1 hp2) m_3_75 wi_X2_readNumber rfl rfl (by decide) (by decide +kernel) ⟨Nat.le_of_ble_eq_true rfl, Nat.le_of_ble_eq_true rfl⟩ rfl hl rfl (Nat.le_of_ble_eq_true rfl) ⟨Nat.zero_le _, Nat.zero_le _⟩ dX2_readWaiter_33 (fun H locs hP hS => ?_)
  obtain ⟨v3, p3, f3, e3⟩ := ex3 (numF (M 73) sz 1 9 (p2, f2))
  refine f_topI (v := v3) (by rw [e3]) ?_
  rw [e3] at hP
  have hp3 : p3 ≤ sz := by have := numF_le (lt := M 73) (lo := 1) (hi := 9) (s := (p2, f2)) hp2; rw [e3] at this; exact this
  refine lv_istore_n (lv' := [(3, .int v3), (2, .int v2), (1, .int v1), (0, .ref (fad E 72))]) hx hb dX2_readWaiter_36 rfl hl (by decide) rfl (fun ls hl => ?_)
  refine lv_aload_n hx hb dX2_readWaiter_37 rfl (lv_at hl 3 rfl) ?_
  refine lv_iconst (v := 1) hx hb dX2_readWaiter_38 (by decide) ?_
  refine lv_bipush (v := 24) hx hb dX2_readWaiter_39 (by decide) ?_
  refine f_iV (n := 2) X hP hS [.int 1, .int 24] [] (c_X2_readNumber l E M L 1 24 p3 sz f3 hsz hs1 hp3) m_3_75 wi_X2_readNumber rfl rfl (by decide) (by decide +kernel) ⟨Nat.le_of_ble_eq_true rfl, Nat.le_of_ble_eq_true rfl⟩ rfl hl rfl (Nat.le_of_ble_eq_true rfl) ⟨Nat.zero_le _, Nat.zero_le _⟩ dX2_readWaiter_41 (fun H locs hP hS => ?_)
  obtain ⟨v4, p4, f4, e4⟩ := ex3 (numF (M 73) sz 1 24 (p3, f3))
  refine f_topI (v := v4) (by rw [e4]) ?_
  rw [e4] at hP
  have hp4 : p4 ≤ sz := by have := numF_le (lt := M 73) (lo := 1) (hi := 24) (s := (p3, f3)) hp3; rw [e4] at this; exact this
  refine lv_istore (lv' := [(4, .int v4), (3, .int v3), (2, .int v2), (1, .int v1), (0, .ref (fad E 72))]) hx hb dX2_readWaiter_44 hl (by decide) rfl (fun ls hl => ?_)
  refine lv_aload_n hx hb dX2_readWaiter_46 rfl (lv_at hl 4 rfl) ?_
  refine lv_iconst (v := 0) hx hb dX2_readWaiter_47 (by decide) ?_
  refine lv_bipush (v := 9) hx hb dX2_readWaiter_48 (by decide) ?_
  refine f_iV (n := 2) X hP hS [.int 0, .int 9] [] (c_X2_readNumber l E M L 0 9 p4 sz f4 hsz hs1 hp4) m_3_75 wi_X2_readNumber rfl rfl (by decide) (by decide +kernel) ⟨Nat.le_of_ble_eq_true rfl, Nat.le_of_ble_eq_true rfl⟩ rfl hl rfl (Nat.le_of_ble_eq_true rfl) ⟨Nat.zero_le _, Nat.zero_le _⟩ dX2_readWaiter_50 (fun H locs hP hS => ?_)
  obtain ⟨v5, p5, f5, e5⟩ := ex3 (numF (M 73) sz 0 9 (p4, f4))
  refine f_topI (v := v5) (by rw [e5]) ?_
  rw [e5] at hP
  have hp5 : p5 ≤ sz := by have := numF_le (lt := M 73) (lo := 0) (hi := 9) (s := (p4, f4)) hp4; rw [e5] at this; exact this
  refine lv_istore (lv' := [(5, .int v5), (4, .int v4), (3, .int v3), (2, .int v2), (1, .int v1), (0, .ref (fad E 72))]) hx hb dX2_readWaiter_53 hl (by decide) rfl (fun ls hl => ?_)
  refine lv_aload_n hx hb dX2_readWaiter_55 rfl (lv_at hl 5 rfl) ?_
  refine f_get X hP (T := TX2) (ci := 2) (k := 72) rfl inX2 rfl 5 (by decide) m_1_168 rfl (v := .int f5) (congrArg Value.int (pM_5 _ _ _)) dX2_readWaiter_56 ?_
  refine lv_iconst (v := (-1)) hx hb dX2_readWaiter_59 (by decide) ?_
  refine lv_icmp_ne (tgt := 78) hx hb dX2_readWaiter_60 (by decide) (fun c_60 => ?_) (fun c_60 => ?_)
  · refine f_vr X hlk hr hP hS ?_ dX2_readWaiter_78
    show _ = _
    unfold waF; simp only [e0, e1, e2, e3, e4, e5]; rw [if_neg c_60]
  · refine lv_aload_n hx hb dX2_readWaiter_63 rfl (lv_at hl 5 rfl) ?_
    refine f_get X hP (T := TX2) (ci := 2) (k := 72) rfl inX2 rfl 0 (by decide) m_1_161 rfl (v := .ref (fad E 54)) rfl dX2_readWaiter_64 ?_
    refine lv_iload_n hx hb dX2_readWaiter_67 rfl (lv_at hl 4 rfl) ?_
    refine lv_iload_n hx hb dX2_readWaiter_68 rfl (lv_at hl 3 rfl) ?_
    refine lv_iload_n hx hb dX2_readWaiter_69 rfl (lv_at hl 2 rfl) ?_
    refine lv_iload hx hb dX2_readWaiter_70 (lv_at hl 1 rfl) ?_
    refine lv_iload hx hb dX2_readWaiter_72 (lv_at hl 0 rfl) ?_
    refine f_iV (n := 5) X hP hS [.int v1, .int v2, .int v3, .int v4, .int v5] [] (c_X1_addWaiter l E (pM M p5 f5) L 54 v1 v2 v3 v4 v5 (wcN M) rfl ((pM_o _ _ _ (Or.inl (by decide))).trans hcn.2.2.1) hcn.2.2.2) m_3_95 wi_X1_addWaiter rfl rfl (by decide) (by decide +kernel) ⟨Nat.le_of_ble_eq_true rfl, Nat.le_of_ble_eq_true rfl⟩ rfl hl rfl (Nat.le_of_ble_eq_true rfl) ⟨Nat.zero_le _, Nat.zero_le _⟩ dX2_readWaiter_74 (fun H locs hP hS => ?_)
    have hP := fP_eq (show (pM (if (wcN M) < 6 then addW M 54 (wcN M) v1 v2 v3 v4 v5 else M) p5 f5) = (if (wcN M) < 6 then addW (pM M p5 f5) 54 (wcN M) v1 v2 v3 v4 v5 else (pM M p5 f5)) from by
        exact addW_pM) hP
    refine lv_pop hx hb dX2_readWaiter_77 rfl ?_
    refine f_vr X hlk hr hP hS ?_ dX2_readWaiter_78
    show _ = _
    unfold waF; simp only [e0, e1, e2, e3, e4, e5]; rw [if_pos c_60]
