/-! THE LAW: its cases, one by one, the rest -/
set_option maxHeartbeats 1000000 in
theorem lw_c19 {p : Program} {l : Launch} {e : Env} {s : State} {m : MethodId} {below : List Frame} {meth : Method} {c : Code} {b L0 cells slots : Nat} {xs : Nat → Int32} {E : fE} {H : Heap} {locs : List Loc} {ls : Array Slot} {Q : State → Prop} (C0 : lw_At p s m meth c b L0 xs) (X : lX E s) (hcs : cells ≤ room_1.cells ∧ slots ≤ room_1.slots) {x : Int32} (h1 : vp_in (x + 1) L0) (h2 : vp_in (x + 2) L0) (h3 : vp_in (x + 3) L0) (h4 : vp_in (x + 4) L0) (h5 : vp_in (x + 5) L0) (h6 : vp_in (x + 6) L0) (h7 : vp_in (x + 7) L0) (hI : lInv E s b x H locs ls)
    (kk : ∀ (H : Heap) (locs : List Loc) (ls : Array Slot), lInv E s b x H locs ls → W p l e room_1 s m #[Value.ref b] below meth c H locs cells slots Q (F0 m 1442 ls [])) : W p l e room_1 s m #[Value.ref b] below meth c H locs cells slots Q (F0 m 938 ls []) := by
  obtain ⟨hx, hb, hr, hml, hown, hts, hX, hbl, hlocks, hgv⟩ := C0
  have hbA : ¬ (fun q : Nat => s.heap.size ≤ q) b := Nat.not_le.mpr hbl
  have F : CallFix p m c cL_law 4 s #[Value.ref b] tb R_law := ⟨hx, hb, hml, hown, fun w hw => hts w (List.mem_filter.mp hw).1⟩
  obtain ⟨tc, wc, M, L, r, hP, hS, hl⟩ := hI
  have h0 := e_lookouts r (xs (x + 1).toNatClampNeg)
  have r1 := r.right h0.2.2.1 h0.2.2.2.1
  obtain ⟨he, tc1, wc1, r2⟩ := (e_lookouts r1 (xs (x + 1).toNatClampNeg)).fin
  rw [kl_lookouts] at r2
  refine lv_aload_n hx hb dL_law_938 rfl (lv_at hl 1 rfl) ?_
  refine lv_aload_n hx hb dL_law_939 rfl (lv_at hl 0 rfl) ?_
  refine lv_iload_n hx hb dL_law_940 rfl (lv_at hl 3 rfl) ?_
  refine lv_iconst (v := 1) hx hb dL_law_941 (by decide) ?_
  refine lv_iadd hx hb dL_law_942 ?_
  refine va_sld hx hb hX hbl hbA hS h1 dL_law_943 ?_
  refine l_iV (n := 1) F X hP hS [.int (xs (x + 1).toNatClampNeg)] [] (c_X7_lookouts l E M L (xs (x + 1).toNatClampNeg) tc r.n.1 r.n.2.2.1) m_3_161 wi_X7_lookouts rfl rfl (by decide) (by decide +kernel) ⟨Nat.le_of_ble_eq_true rfl, Nat.le_of_ble_eq_true rfl⟩ rfl hl rfl (Nat.le_of_ble_eq_true rfl) hcs dL_law_944 (fun H locs hP hS => ?_)
  refine lv_aload_n hx hb dL_law_947 rfl (lv_at hl 2 rfl) ?_
  refine lv_aload_n hx hb dL_law_948 rfl (lv_at hl 0 rfl) ?_
  refine lv_iload_n hx hb dL_law_949 rfl (lv_at hl 3 rfl) ?_
  refine lv_iconst (v := 1) hx hb dL_law_950 (by decide) ?_
  refine lv_iadd hx hb dL_law_951 ?_
  refine va_sld hx hb hX hbl hbA hS h1 dL_law_952 ?_
  refine l_iV (n := 1) F X hP hS [.int (xs (x + 1).toNatClampNeg)] [_] (c_X8_lookouts l E _ _ (xs (x + 1).toNatClampNeg) tc wc r1.n.2.1 r1.n.2.2.1 r1.n.2.2.2.2.1 r1.n.2.2.2.2.2) m_6_36 wi_X8_lookouts rfl rfl (by decide) (by decide +kernel) ⟨Nat.le_of_ble_eq_true rfl, Nat.le_of_ble_eq_true rfl⟩ rfl hl rfl (Nat.le_of_ble_eq_true rfl) hcs dL_law_953 (fun H locs hP hS => ?_)
  exact lv_icmp_eq (tgt := 1442) hx hb dL_law_956 (by decide) (fun c9 => kk _ _ _ ⟨tc1, wc1, _, _, r2, hP, hS, hl⟩) (fun c9 => absurd he c9)
set_option maxHeartbeats 1000000 in
theorem lw_c20 {p : Program} {l : Launch} {e : Env} {s : State} {m : MethodId} {below : List Frame} {meth : Method} {c : Code} {b L0 cells slots : Nat} {xs : Nat → Int32} {E : fE} {H : Heap} {locs : List Loc} {ls : Array Slot} {Q : State → Prop} (C0 : lw_At p s m meth c b L0 xs) (X : lX E s) (hcs : cells ≤ room_1.cells ∧ slots ≤ room_1.slots) {x : Int32} (h1 : vp_in (x + 1) L0) (h2 : vp_in (x + 2) L0) (h3 : vp_in (x + 3) L0) (h4 : vp_in (x + 4) L0) (h5 : vp_in (x + 5) L0) (h6 : vp_in (x + 6) L0) (h7 : vp_in (x + 7) L0) (hI : lInv E s b x H locs ls)
    (kk : ∀ (H : Heap) (locs : List Loc) (ls : Array Slot), lInv E s b x H locs ls → W p l e room_1 s m #[Value.ref b] below meth c H locs cells slots Q (F0 m 1442 ls [])) : W p l e room_1 s m #[Value.ref b] below meth c H locs cells slots Q (F0 m 961 ls []) := by
  obtain ⟨hx, hb, hr, hml, hown, hts, hX, hbl, hlocks, hgv⟩ := C0
  have hbA : ¬ (fun q : Nat => s.heap.size ≤ q) b := Nat.not_le.mpr hbl
  have F : CallFix p m c cL_law 4 s #[Value.ref b] tb R_law := ⟨hx, hb, hml, hown, fun w hw => hts w (List.mem_filter.mp hw).1⟩
  obtain ⟨tc, wc, M, L, r, hP, hS, hl⟩ := hI
  refine lv_aload_n hx hb dL_law_961 rfl (lv_at hl 1 rfl) ?_
  refine lv_aload_n hx hb dL_law_962 rfl (lv_at hl 0 rfl) ?_
  refine lv_iload_n hx hb dL_law_963 rfl (lv_at hl 3 rfl) ?_
  refine lv_iconst (v := 1) hx hb dL_law_964 (by decide) ?_
  refine lv_iadd hx hb dL_law_965 ?_
  refine va_sld hx hb hX hbl hbA hS h1 dL_law_966 ?_
  refine lv_aload_n hx hb dL_law_967 rfl (lv_at hl 0 rfl) ?_
  refine lv_iload_n hx hb dL_law_968 rfl (lv_at hl 3 rfl) ?_
  refine lv_iconst (v := 2) hx hb dL_law_969 (by decide) ?_
  refine lv_iadd hx hb dL_law_970 ?_
  refine va_sld hx hb hX hbl hbA hS h2 dL_law_971 ?_
  refine l_iG (n := 2) F X hP hS [.int (xs (x + 1).toNatClampNeg), .int (xs (x + 2).toNatClampNeg)] [] (c_X7_rota l E M L (xs (x + 1).toNatClampNeg) (xs (x + 2).toNatClampNeg) tc wc r.n.1 r.n.2.2.1 r.n.2.2.2.1 r.n.2.2.2.2.2 (fun t ht => r.o.1 t ht) (fun w hw => r.o.2.1 w hw) r.o.2.2.1) m_3_177 wi_X7_rota rfl rfl (by decide) (by decide +kernel) ⟨Nat.le_of_ble_eq_true rfl, Nat.le_of_ble_eq_true rfl⟩ rfl hl rfl (Nat.le_of_ble_eq_true rfl) hcs dL_law_972 (fun y0 N0 K0 H locs hq0 hP hS => ?_)
  have r1 := rota_r1 r hq0
  refine lv_aload_n hx hb dL_law_975 rfl (lv_at hl 2 rfl) ?_
  refine lv_aload_n hx hb dL_law_976 rfl (lv_at hl 0 rfl) ?_
  refine lv_iload_n hx hb dL_law_977 rfl (lv_at hl 3 rfl) ?_
  refine lv_iconst (v := 1) hx hb dL_law_978 (by decide) ?_
  refine lv_iadd hx hb dL_law_979 ?_
  refine va_sld hx hb hX hbl hbA hS h1 dL_law_980 ?_
  refine lv_aload_n hx hb dL_law_981 rfl (lv_at hl 0 rfl) ?_
  refine lv_iload_n hx hb dL_law_982 rfl (lv_at hl 3 rfl) ?_
  refine lv_iconst (v := 2) hx hb dL_law_983 (by decide) ?_
  refine lv_iadd hx hb dL_law_984 ?_
  refine va_sld hx hb hX hbl hbA hS h2 dL_law_985 ?_
  refine l_iG (n := 2) F X hP hS [.int (xs (x + 1).toNatClampNeg), .int (xs (x + 2).toNatClampNeg)] [_] (c_X8_rota l E N0 K0 (xs (x + 1).toNatClampNeg) (xs (x + 2).toNatClampNeg) tc wc r1.n.2.1 r1.n.2.2.1 r1.n.2.2.2.2.1 r1.n.2.2.2.2.2 (fun w hw => (hold_rg r1 (Nat.lt_of_lt_of_le hw r1.n.2.2.2.2.2)).1) (fun t ht => (r1.tok ht).2.1)) m_6_8 wi_X8_rota rfl rfl (by decide) (by decide +kernel) ⟨Nat.le_of_ble_eq_true rfl, Nat.le_of_ble_eq_true rfl⟩ rfl hl rfl (Nat.le_of_ble_eq_true rfl) hcs dL_law_986 (fun y1 N1 K1 H locs hq1 hP hS => ?_)
  obtain ⟨he, tc1, wc1, r2⟩ := (e_rota r1 hq0 hq1).fin
  exact lv_icmp_eq (tgt := 1442) hx hb dL_law_989 (by decide) (fun c9 => kk _ _ _ ⟨tc1, wc1, _, _, r2, hP, hS, hl⟩) (fun c9 => absurd he c9)
set_option maxHeartbeats 1000000 in
theorem lw_c21 {p : Program} {l : Launch} {e : Env} {s : State} {m : MethodId} {below : List Frame} {meth : Method} {c : Code} {b L0 cells slots : Nat} {xs : Nat → Int32} {E : fE} {H : Heap} {locs : List Loc} {ls : Array Slot} {Q : State → Prop} (C0 : lw_At p s m meth c b L0 xs) (X : lX E s) (hcs : cells ≤ room_1.cells ∧ slots ≤ room_1.slots) {x : Int32} (h1 : vp_in (x + 1) L0) (h2 : vp_in (x + 2) L0) (h3 : vp_in (x + 3) L0) (h4 : vp_in (x + 4) L0) (h5 : vp_in (x + 5) L0) (h6 : vp_in (x + 6) L0) (h7 : vp_in (x + 7) L0) (hI : lInv E s b x H locs ls)
    (kk : ∀ (H : Heap) (locs : List Loc) (ls : Array Slot), lInv E s b x H locs ls → W p l e room_1 s m #[Value.ref b] below meth c H locs cells slots Q (F0 m 1442 ls [])) : W p l e room_1 s m #[Value.ref b] below meth c H locs cells slots Q (F0 m 994 ls []) := by
  obtain ⟨hx, hb, hr, hml, hown, hts, hX, hbl, hlocks, hgv⟩ := C0
  have hbA : ¬ (fun q : Nat => s.heap.size ≤ q) b := Nat.not_le.mpr hbl
  have F : CallFix p m c cL_law 4 s #[Value.ref b] tb R_law := ⟨hx, hb, hml, hown, fun w hw => hts w (List.mem_filter.mp hw).1⟩
  obtain ⟨tc, wc, M, L, r, hP, hS, hl⟩ := hI
  have h0 := e_posts r (xs (x + 1).toNatClampNeg)
  have r1 := r.right h0.2.2.1 h0.2.2.2.1
  obtain ⟨he, tc1, wc1, r2⟩ := (e_posts r1 (xs (x + 1).toNatClampNeg)).fin
  rw [kl_posts] at r2
  refine lv_aload_n hx hb dL_law_994 rfl (lv_at hl 1 rfl) ?_
  refine lv_aload_n hx hb dL_law_995 rfl (lv_at hl 0 rfl) ?_
  refine lv_iload_n hx hb dL_law_996 rfl (lv_at hl 3 rfl) ?_
  refine lv_iconst (v := 1) hx hb dL_law_997 (by decide) ?_
  refine lv_iadd hx hb dL_law_998 ?_
  refine va_sld hx hb hX hbl hbA hS h1 dL_law_999 ?_
  refine l_iV (n := 1) F X hP hS [.int (xs (x + 1).toNatClampNeg)] [] (c_X7_posts l E M L (xs (x + 1).toNatClampNeg) tc wc r.n.1 r.n.2.2.1 r.n.2.2.2.1 r.n.2.2.2.2.2) m_3_208 wi_X7_posts rfl rfl (by decide) (by decide +kernel) ⟨Nat.le_of_ble_eq_true rfl, Nat.le_of_ble_eq_true rfl⟩ rfl hl rfl (Nat.le_of_ble_eq_true rfl) hcs dL_law_1000 (fun H locs hP hS => ?_)
  refine lv_aload_n hx hb dL_law_1003 rfl (lv_at hl 2 rfl) ?_
  refine lv_aload_n hx hb dL_law_1004 rfl (lv_at hl 0 rfl) ?_
  refine lv_iload_n hx hb dL_law_1005 rfl (lv_at hl 3 rfl) ?_
  refine lv_iconst (v := 1) hx hb dL_law_1006 (by decide) ?_
  refine lv_iadd hx hb dL_law_1007 ?_
  refine va_sld hx hb hX hbl hbA hS h1 dL_law_1008 ?_
  refine l_iV (n := 1) F X hP hS [.int (xs (x + 1).toNatClampNeg)] [_] (c_X8_posts l E _ _ (xs (x + 1).toNatClampNeg) tc wc r1.n.2.1 r1.n.2.2.1 r1.n.2.2.2.2.1 r1.n.2.2.2.2.2) m_6_16 wi_X8_posts rfl rfl (by decide) (by decide +kernel) ⟨Nat.le_of_ble_eq_true rfl, Nat.le_of_ble_eq_true rfl⟩ rfl hl rfl (Nat.le_of_ble_eq_true rfl) hcs dL_law_1009 (fun H locs hP hS => ?_)
  exact lv_icmp_eq (tgt := 1442) hx hb dL_law_1012 (by decide) (fun c9 => kk _ _ _ ⟨tc1, wc1, _, _, r2, hP, hS, hl⟩) (fun c9 => absurd he c9)
set_option maxHeartbeats 1000000 in
theorem lw_c22 {p : Program} {l : Launch} {e : Env} {s : State} {m : MethodId} {below : List Frame} {meth : Method} {c : Code} {b L0 cells slots : Nat} {xs : Nat → Int32} {E : fE} {H : Heap} {locs : List Loc} {ls : Array Slot} {Q : State → Prop} (C0 : lw_At p s m meth c b L0 xs) (X : lX E s) (hcs : cells ≤ room_1.cells ∧ slots ≤ room_1.slots) {x : Int32} (h1 : vp_in (x + 1) L0) (h2 : vp_in (x + 2) L0) (h3 : vp_in (x + 3) L0) (h4 : vp_in (x + 4) L0) (h5 : vp_in (x + 5) L0) (h6 : vp_in (x + 6) L0) (h7 : vp_in (x + 7) L0) (hI : lInv E s b x H locs ls)
    (kk : ∀ (H : Heap) (locs : List Loc) (ls : Array Slot), lInv E s b x H locs ls → W p l e room_1 s m #[Value.ref b] below meth c H locs cells slots Q (F0 m 1442 ls [])) : W p l e room_1 s m #[Value.ref b] below meth c H locs cells slots Q (F0 m 1017 ls []) := by
  obtain ⟨hx, hb, hr, hml, hown, hts, hX, hbl, hlocks, hgv⟩ := C0
  have hbA : ¬ (fun q : Nat => s.heap.size ≤ q) b := Nat.not_le.mpr hbl
  have F : CallFix p m c cL_law 4 s #[Value.ref b] tb R_law := ⟨hx, hb, hml, hown, fun w hw => hts w (List.mem_filter.mp hw).1⟩
  obtain ⟨tc, wc, M, L, r, hP, hS, hl⟩ := hI
  have h0 := e_seen r (xs (x + 1).toNatClampNeg) (xs (x + 2).toNatClampNeg)
  have r1 := r.right h0.2.2.1 h0.2.2.2.1
  obtain ⟨he, tc1, wc1, r2⟩ := (e_seen r1 (xs (x + 1).toNatClampNeg) (xs (x + 2).toNatClampNeg)).fin
  rw [kl_seen] at r2
  refine lv_aload_n hx hb dL_law_1017 rfl (lv_at hl 1 rfl) ?_
  refine lv_aload_n hx hb dL_law_1018 rfl (lv_at hl 0 rfl) ?_
  refine lv_iload_n hx hb dL_law_1019 rfl (lv_at hl 3 rfl) ?_
  refine lv_iconst (v := 1) hx hb dL_law_1020 (by decide) ?_
  refine lv_iadd hx hb dL_law_1021 ?_
  refine va_sld hx hb hX hbl hbA hS h1 dL_law_1022 ?_
  refine lv_aload_n hx hb dL_law_1023 rfl (lv_at hl 0 rfl) ?_
  refine lv_iload_n hx hb dL_law_1024 rfl (lv_at hl 3 rfl) ?_
  refine lv_iconst (v := 2) hx hb dL_law_1025 (by decide) ?_
  refine lv_iadd hx hb dL_law_1026 ?_
  refine va_sld hx hb hX hbl hbA hS h2 dL_law_1027 ?_
  refine l_iV (n := 2) F X hP hS [.int (xs (x + 1).toNatClampNeg), .int (xs (x + 2).toNatClampNeg)] [] (c_X7_seen l E M L (xs (x + 1).toNatClampNeg) (xs (x + 2).toNatClampNeg) tc r.n.1 r.n.2.2.1) m_3_227 wi_X7_seen rfl rfl (by decide) (by decide +kernel) ⟨Nat.le_of_ble_eq_true rfl, Nat.le_of_ble_eq_true rfl⟩ rfl hl rfl (Nat.le_of_ble_eq_true rfl) hcs dL_law_1028 (fun H locs hP hS => ?_)
  refine lv_aload_n hx hb dL_law_1031 rfl (lv_at hl 2 rfl) ?_
  refine lv_aload_n hx hb dL_law_1032 rfl (lv_at hl 0 rfl) ?_
  refine lv_iload_n hx hb dL_law_1033 rfl (lv_at hl 3 rfl) ?_
  refine lv_iconst (v := 1) hx hb dL_law_1034 (by decide) ?_
  refine lv_iadd hx hb dL_law_1035 ?_
  refine va_sld hx hb hX hbl hbA hS h1 dL_law_1036 ?_
  refine lv_aload_n hx hb dL_law_1037 rfl (lv_at hl 0 rfl) ?_
  refine lv_iload_n hx hb dL_law_1038 rfl (lv_at hl 3 rfl) ?_
  refine lv_iconst (v := 2) hx hb dL_law_1039 (by decide) ?_
  refine lv_iadd hx hb dL_law_1040 ?_
  refine va_sld hx hb hX hbl hbA hS h2 dL_law_1041 ?_
  refine l_iV (n := 2) F X hP hS [.int (xs (x + 1).toNatClampNeg), .int (xs (x + 2).toNatClampNeg)] [_] (c_X8_seen l E _ _ (xs (x + 1).toNatClampNeg) (xs (x + 2).toNatClampNeg) tc wc r1.n.2.1 r1.n.2.2.1 r1.n.2.2.2.2.1 r1.n.2.2.2.2.2) m_6_28 wi_X8_seen rfl rfl (by decide) (by decide +kernel) ⟨Nat.le_of_ble_eq_true rfl, Nat.le_of_ble_eq_true rfl⟩ rfl hl rfl (Nat.le_of_ble_eq_true rfl) hcs dL_law_1042 (fun H locs hP hS => ?_)
  exact lv_icmp_eq (tgt := 1442) hx hb dL_law_1045 (by decide) (fun c9 => kk _ _ _ ⟨tc1, wc1, _, _, r2, hP, hS, hl⟩) (fun c9 => absurd he c9)
set_option maxHeartbeats 1000000 in
theorem lw_c23 {p : Program} {l : Launch} {e : Env} {s : State} {m : MethodId} {below : List Frame} {meth : Method} {c : Code} {b L0 cells slots : Nat} {xs : Nat → Int32} {E : fE} {H : Heap} {locs : List Loc} {ls : Array Slot} {Q : State → Prop} (C0 : lw_At p s m meth c b L0 xs) (X : lX E s) (hcs : cells ≤ room_1.cells ∧ slots ≤ room_1.slots) {x : Int32} (h1 : vp_in (x + 1) L0) (h2 : vp_in (x + 2) L0) (h3 : vp_in (x + 3) L0) (h4 : vp_in (x + 4) L0) (h5 : vp_in (x + 5) L0) (h6 : vp_in (x + 6) L0) (h7 : vp_in (x + 7) L0) (hI : lInv E s b x H locs ls)
    (kk : ∀ (H : Heap) (locs : List Loc) (ls : Array Slot), lInv E s b x H locs ls → W p l e room_1 s m #[Value.ref b] below meth c H locs cells slots Q (F0 m 1442 ls [])) : W p l e room_1 s m #[Value.ref b] below meth c H locs cells slots Q (F0 m 1050 ls []) := by
  obtain ⟨hx, hb, hr, hml, hown, hts, hX, hbl, hlocks, hgv⟩ := C0
  have hbA : ¬ (fun q : Nat => s.heap.size ≤ q) b := Nat.not_le.mpr hbl
  have F : CallFix p m c cL_law 4 s #[Value.ref b] tb R_law := ⟨hx, hb, hml, hown, fun w hw => hts w (List.mem_filter.mp hw).1⟩
  obtain ⟨tc, wc, M, L, r, hP, hS, hl⟩ := hI
  have h0 := e_met r (xs (x + 1).toNatClampNeg) (xs (x + 2).toNatClampNeg)
  have r1 := r.right h0.2.2.1 h0.2.2.2.1
  obtain ⟨he, tc1, wc1, r2⟩ := (e_met r1 (xs (x + 1).toNatClampNeg) (xs (x + 2).toNatClampNeg)).fin
  rw [kl_met] at r2
  refine lv_aload_n hx hb dL_law_1050 rfl (lv_at hl 1 rfl) ?_
  refine lv_aload_n hx hb dL_law_1051 rfl (lv_at hl 0 rfl) ?_
  refine lv_iload_n hx hb dL_law_1052 rfl (lv_at hl 3 rfl) ?_
  refine lv_iconst (v := 1) hx hb dL_law_1053 (by decide) ?_
  refine lv_iadd hx hb dL_law_1054 ?_
  refine va_sld hx hb hX hbl hbA hS h1 dL_law_1055 ?_
  refine lv_aload_n hx hb dL_law_1056 rfl (lv_at hl 0 rfl) ?_
  refine lv_iload_n hx hb dL_law_1057 rfl (lv_at hl 3 rfl) ?_
  refine lv_iconst (v := 2) hx hb dL_law_1058 (by decide) ?_
  refine lv_iadd hx hb dL_law_1059 ?_
  refine va_sld hx hb hX hbl hbA hS h2 dL_law_1060 ?_
  refine l_iV (n := 2) F X hP hS [.int (xs (x + 1).toNatClampNeg), .int (xs (x + 2).toNatClampNeg)] [] (c_X7_met l E M L (xs (x + 1).toNatClampNeg) (xs (x + 2).toNatClampNeg)) m_4_0 wi_X7_met rfl rfl (by decide) (by decide +kernel) ⟨Nat.le_of_ble_eq_true rfl, Nat.le_of_ble_eq_true rfl⟩ rfl hl rfl (Nat.le_of_ble_eq_true rfl) hcs dL_law_1061 (fun H locs hP hS => ?_)
  refine lv_aload_n hx hb dL_law_1064 rfl (lv_at hl 2 rfl) ?_
  refine lv_aload_n hx hb dL_law_1065 rfl (lv_at hl 0 rfl) ?_
  refine lv_iload_n hx hb dL_law_1066 rfl (lv_at hl 3 rfl) ?_
  refine lv_iconst (v := 1) hx hb dL_law_1067 (by decide) ?_
  refine lv_iadd hx hb dL_law_1068 ?_
  refine va_sld hx hb hX hbl hbA hS h1 dL_law_1069 ?_
  refine lv_aload_n hx hb dL_law_1070 rfl (lv_at hl 0 rfl) ?_
  refine lv_iload_n hx hb dL_law_1071 rfl (lv_at hl 3 rfl) ?_
  refine lv_iconst (v := 2) hx hb dL_law_1072 (by decide) ?_
  refine lv_iadd hx hb dL_law_1073 ?_
  refine va_sld hx hb hX hbl hbA hS h2 dL_law_1074 ?_
  refine l_iV (n := 2) F X hP hS [.int (xs (x + 1).toNatClampNeg), .int (xs (x + 2).toNatClampNeg)] [_] (c_X8_met l E _ _ (xs (x + 1).toNatClampNeg) (xs (x + 2).toNatClampNeg) tc r1.n.2.1 r1.n.2.2.1) m_6_40 wi_X8_met rfl rfl (by decide) (by decide +kernel) ⟨Nat.le_of_ble_eq_true rfl, Nat.le_of_ble_eq_true rfl⟩ rfl hl rfl (Nat.le_of_ble_eq_true rfl) hcs dL_law_1075 (fun H locs hP hS => ?_)
  exact lv_icmp_eq (tgt := 1442) hx hb dL_law_1078 (by decide) (fun c9 => kk _ _ _ ⟨tc1, wc1, _, _, r2, hP, hS, hl⟩) (fun c9 => absurd he c9)
set_option maxHeartbeats 1000000 in
theorem lw_c24 {p : Program} {l : Launch} {e : Env} {s : State} {m : MethodId} {below : List Frame} {meth : Method} {c : Code} {b L0 cells slots : Nat} {xs : Nat → Int32} {E : fE} {H : Heap} {locs : List Loc} {ls : Array Slot} {Q : State → Prop} (C0 : lw_At p s m meth c b L0 xs) (X : lX E s) (hcs : cells ≤ room_1.cells ∧ slots ≤ room_1.slots) {x : Int32} (h1 : vp_in (x + 1) L0) (h2 : vp_in (x + 2) L0) (h3 : vp_in (x + 3) L0) (h4 : vp_in (x + 4) L0) (h5 : vp_in (x + 5) L0) (h6 : vp_in (x + 6) L0) (h7 : vp_in (x + 7) L0) (hI : lInv E s b x H locs ls)
    (kk : ∀ (H : Heap) (locs : List Loc) (ls : Array Slot), lInv E s b x H locs ls → W p l e room_1 s m #[Value.ref b] below meth c H locs cells slots Q (F0 m 1442 ls [])) : W p l e room_1 s m #[Value.ref b] below meth c H locs cells slots Q (F0 m 1083 ls []) := by
  obtain ⟨hx, hb, hr, hml, hown, hts, hX, hbl, hlocks, hgv⟩ := C0
  have hbA : ¬ (fun q : Nat => s.heap.size ≤ q) b := Nat.not_le.mpr hbl
  have F : CallFix p m c cL_law 4 s #[Value.ref b] tb R_law := ⟨hx, hb, hml, hown, fun w hw => hts w (List.mem_filter.mp hw).1⟩
  obtain ⟨tc, wc, M, L, r, hP, hS, hl⟩ := hI
  have h0 := e_runners r (xs (x + 1).toNatClampNeg) (xs (x + 2).toNatClampNeg)
  have r1 := r.right h0.2.2.1 h0.2.2.2.1
  obtain ⟨he, tc1, wc1, r2⟩ := (e_runners r1 (xs (x + 1).toNatClampNeg) (xs (x + 2).toNatClampNeg)).fin
  rw [kl_runners] at r2
  refine lv_aload_n hx hb dL_law_1083 rfl (lv_at hl 1 rfl) ?_
  refine lv_aload_n hx hb dL_law_1084 rfl (lv_at hl 0 rfl) ?_
  refine lv_iload_n hx hb dL_law_1085 rfl (lv_at hl 3 rfl) ?_
  refine lv_iconst (v := 1) hx hb dL_law_1086 (by decide) ?_
  refine lv_iadd hx hb dL_law_1087 ?_
  refine va_sld hx hb hX hbl hbA hS h1 dL_law_1088 ?_
  refine lv_aload_n hx hb dL_law_1089 rfl (lv_at hl 0 rfl) ?_
  refine lv_iload_n hx hb dL_law_1090 rfl (lv_at hl 3 rfl) ?_
  refine lv_iconst (v := 2) hx hb dL_law_1091 (by decide) ?_
  refine lv_iadd hx hb dL_law_1092 ?_
  refine va_sld hx hb hX hbl hbA hS h2 dL_law_1093 ?_
  refine l_iV (n := 2) F X hP hS [.int (xs (x + 1).toNatClampNeg), .int (xs (x + 2).toNatClampNeg)] [] (c_X7_runners l E M L (xs (x + 1).toNatClampNeg) (xs (x + 2).toNatClampNeg) tc r.n.1 r.n.2.2.1) m_4_8 wi_X7_runners rfl rfl (by decide) (by decide +kernel) ⟨Nat.le_of_ble_eq_true rfl, Nat.le_of_ble_eq_true rfl⟩ rfl hl rfl (Nat.le_of_ble_eq_true rfl) hcs dL_law_1094 (fun H locs hP hS => ?_)
  refine lv_aload_n hx hb dL_law_1097 rfl (lv_at hl 2 rfl) ?_
  refine lv_aload_n hx hb dL_law_1098 rfl (lv_at hl 0 rfl) ?_
  refine lv_iload_n hx hb dL_law_1099 rfl (lv_at hl 3 rfl) ?_
  refine lv_iconst (v := 1) hx hb dL_law_1100 (by decide) ?_
  refine lv_iadd hx hb dL_law_1101 ?_
  refine va_sld hx hb hX hbl hbA hS h1 dL_law_1102 ?_
  refine lv_aload_n hx hb dL_law_1103 rfl (lv_at hl 0 rfl) ?_
  refine lv_iload_n hx hb dL_law_1104 rfl (lv_at hl 3 rfl) ?_
  refine lv_iconst (v := 2) hx hb dL_law_1105 (by decide) ?_
  refine lv_iadd hx hb dL_law_1106 ?_
  refine va_sld hx hb hX hbl hbA hS h2 dL_law_1107 ?_
  refine l_iV (n := 2) F X hP hS [.int (xs (x + 1).toNatClampNeg), .int (xs (x + 2).toNatClampNeg)] [_] (c_X8_runners l E _ _ (xs (x + 1).toNatClampNeg) (xs (x + 2).toNatClampNeg) tc r1.n.2.1 r1.n.2.2.1) m_6_48 wi_X8_runners rfl rfl (by decide) (by decide +kernel) ⟨Nat.le_of_ble_eq_true rfl, Nat.le_of_ble_eq_true rfl⟩ rfl hl rfl (Nat.le_of_ble_eq_true rfl) hcs dL_law_1108 (fun H locs hP hS => ?_)
  exact lv_icmp_eq (tgt := 1442) hx hb dL_law_1111 (by decide) (fun c9 => kk _ _ _ ⟨tc1, wc1, _, _, r2, hP, hS, hl⟩) (fun c9 => absurd he c9)
set_option maxHeartbeats 1000000 in
theorem lw_c25 {p : Program} {l : Launch} {e : Env} {s : State} {m : MethodId} {below : List Frame} {meth : Method} {c : Code} {b L0 cells slots : Nat} {xs : Nat → Int32} {E : fE} {H : Heap} {locs : List Loc} {ls : Array Slot} {Q : State → Prop} (C0 : lw_At p s m meth c b L0 xs) (X : lX E s) (hcs : cells ≤ room_1.cells ∧ slots ≤ room_1.slots) {x : Int32} (h1 : vp_in (x + 1) L0) (h2 : vp_in (x + 2) L0) (h3 : vp_in (x + 3) L0) (h4 : vp_in (x + 4) L0) (h5 : vp_in (x + 5) L0) (h6 : vp_in (x + 6) L0) (h7 : vp_in (x + 7) L0) (hI : lInv E s b x H locs ls)
    (kk : ∀ (H : Heap) (locs : List Loc) (ls : Array Slot), lInv E s b x H locs ls → W p l e room_1 s m #[Value.ref b] below meth c H locs cells slots Q (F0 m 1442 ls [])) : W p l e room_1 s m #[Value.ref b] below meth c H locs cells slots Q (F0 m 1116 ls []) := by
  obtain ⟨hx, hb, hr, hml, hown, hts, hX, hbl, hlocks, hgv⟩ := C0
  have hbA : ¬ (fun q : Nat => s.heap.size ≤ q) b := Nat.not_le.mpr hbl
  have F : CallFix p m c cL_law 4 s #[Value.ref b] tb R_law := ⟨hx, hb, hml, hown, fun w hw => hts w (List.mem_filter.mp hw).1⟩
  obtain ⟨tc, wc, M, L, r, hP, hS, hl⟩ := hI
  have h0 := e_left r (xs (x + 1).toNatClampNeg) (xs (x + 2).toNatClampNeg)
  have r1 := r.right h0.2.2.1 h0.2.2.2.1
  obtain ⟨he, tc1, wc1, r2⟩ := (e_left r1 (xs (x + 1).toNatClampNeg) (xs (x + 2).toNatClampNeg)).fin
  rw [kl_left] at r2
  refine lv_aload_n hx hb dL_law_1116 rfl (lv_at hl 1 rfl) ?_
  refine lv_aload_n hx hb dL_law_1117 rfl (lv_at hl 0 rfl) ?_
  refine lv_iload_n hx hb dL_law_1118 rfl (lv_at hl 3 rfl) ?_
  refine lv_iconst (v := 1) hx hb dL_law_1119 (by decide) ?_
  refine lv_iadd hx hb dL_law_1120 ?_
  refine va_sld hx hb hX hbl hbA hS h1 dL_law_1121 ?_
  refine lv_aload_n hx hb dL_law_1122 rfl (lv_at hl 0 rfl) ?_
  refine lv_iload_n hx hb dL_law_1123 rfl (lv_at hl 3 rfl) ?_
  refine lv_iconst (v := 2) hx hb dL_law_1124 (by decide) ?_
  refine lv_iadd hx hb dL_law_1125 ?_
  refine va_sld hx hb hX hbl hbA hS h2 dL_law_1126 ?_
  refine l_iV (n := 2) F X hP hS [.int (xs (x + 1).toNatClampNeg), .int (xs (x + 2).toNatClampNeg)] [] (c_X7_left l E M L (xs (x + 1).toNatClampNeg) (xs (x + 2).toNatClampNeg) tc r.n.1 r.n.2.2.1) m_4_30 wi_X7_left rfl rfl (by decide) (by decide +kernel) ⟨Nat.le_of_ble_eq_true rfl, Nat.le_of_ble_eq_true rfl⟩ rfl hl rfl (Nat.le_of_ble_eq_true rfl) hcs dL_law_1127 (fun H locs hP hS => ?_)
  refine lv_aload_n hx hb dL_law_1130 rfl (lv_at hl 2 rfl) ?_
  refine lv_aload_n hx hb dL_law_1131 rfl (lv_at hl 0 rfl) ?_
  refine lv_iload_n hx hb dL_law_1132 rfl (lv_at hl 3 rfl) ?_
  refine lv_iconst (v := 1) hx hb dL_law_1133 (by decide) ?_
  refine lv_iadd hx hb dL_law_1134 ?_
  refine va_sld hx hb hX hbl hbA hS h1 dL_law_1135 ?_
  refine lv_aload_n hx hb dL_law_1136 rfl (lv_at hl 0 rfl) ?_
  refine lv_iload_n hx hb dL_law_1137 rfl (lv_at hl 3 rfl) ?_
  refine lv_iconst (v := 2) hx hb dL_law_1138 (by decide) ?_
  refine lv_iadd hx hb dL_law_1139 ?_
  refine va_sld hx hb hX hbl hbA hS h2 dL_law_1140 ?_
  refine l_iV (n := 2) F X hP hS [.int (xs (x + 1).toNatClampNeg), .int (xs (x + 2).toNatClampNeg)] [_] (c_X8_left l E _ _ (xs (x + 1).toNatClampNeg) (xs (x + 2).toNatClampNeg) tc r1.n.2.1 r1.n.2.2.1) m_6_52 wi_X8_left rfl rfl (by decide) (by decide +kernel) ⟨Nat.le_of_ble_eq_true rfl, Nat.le_of_ble_eq_true rfl⟩ rfl hl rfl (Nat.le_of_ble_eq_true rfl) hcs dL_law_1141 (fun H locs hP hS => ?_)
  exact lv_icmp_eq (tgt := 1442) hx hb dL_law_1144 (by decide) (fun c9 => kk _ _ _ ⟨tc1, wc1, _, _, r2, hP, hS, hl⟩) (fun c9 => absurd he c9)
set_option maxHeartbeats 1000000 in
theorem lw_c26 {p : Program} {l : Launch} {e : Env} {s : State} {m : MethodId} {below : List Frame} {meth : Method} {c : Code} {b L0 cells slots : Nat} {xs : Nat → Int32} {E : fE} {H : Heap} {locs : List Loc} {ls : Array Slot} {Q : State → Prop} (C0 : lw_At p s m meth c b L0 xs) (X : lX E s) (hcs : cells ≤ room_1.cells ∧ slots ≤ room_1.slots) {x : Int32} (h1 : vp_in (x + 1) L0) (h2 : vp_in (x + 2) L0) (h3 : vp_in (x + 3) L0) (h4 : vp_in (x + 4) L0) (h5 : vp_in (x + 5) L0) (h6 : vp_in (x + 6) L0) (h7 : vp_in (x + 7) L0) (hI : lInv E s b x H locs ls)
    (kk : ∀ (H : Heap) (locs : List Loc) (ls : Array Slot), lInv E s b x H locs ls → W p l e room_1 s m #[Value.ref b] below meth c H locs cells slots Q (F0 m 1442 ls [])) : W p l e room_1 s m #[Value.ref b] below meth c H locs cells slots Q (F0 m 1149 ls []) := by
  obtain ⟨hx, hb, hr, hml, hown, hts, hX, hbl, hlocks, hgv⟩ := C0
  have hbA : ¬ (fun q : Nat => s.heap.size ≤ q) b := Nat.not_le.mpr hbl
  have F : CallFix p m c cL_law 4 s #[Value.ref b] tb R_law := ⟨hx, hb, hml, hown, fun w hw => hts w (List.mem_filter.mp hw).1⟩
  obtain ⟨tc, wc, M, L, r, hP, hS, hl⟩ := hI
  have h0 := e_await r (xs (x + 1).toNatClampNeg)
  have r1 := r.right h0.2.2.1 h0.2.2.2.1
  obtain ⟨he, tc1, wc1, r2⟩ := (e_await r1 (xs (x + 1).toNatClampNeg)).fin
  rw [kl_await] at r2
  refine lv_aload_n hx hb dL_law_1149 rfl (lv_at hl 1 rfl) ?_
  refine lv_aload_n hx hb dL_law_1150 rfl (lv_at hl 0 rfl) ?_
  refine lv_iload_n hx hb dL_law_1151 rfl (lv_at hl 3 rfl) ?_
  refine lv_iconst (v := 1) hx hb dL_law_1152 (by decide) ?_
  refine lv_iadd hx hb dL_law_1153 ?_
  refine va_sld hx hb hX hbl hbA hS h1 dL_law_1154 ?_
  refine l_iV (n := 1) F X hP hS [.int (xs (x + 1).toNatClampNeg)] [] (c_X7_await l E M L (xs (x + 1).toNatClampNeg) tc r.n.1 r.n.2.2.1) m_4_48 wi_X7_await rfl rfl (by decide) (by decide +kernel) ⟨Nat.le_of_ble_eq_true rfl, Nat.le_of_ble_eq_true rfl⟩ rfl hl rfl (Nat.le_of_ble_eq_true rfl) hcs dL_law_1155 (fun H locs hP hS => ?_)
  refine lv_aload_n hx hb dL_law_1158 rfl (lv_at hl 2 rfl) ?_
  refine lv_aload_n hx hb dL_law_1159 rfl (lv_at hl 0 rfl) ?_
  refine lv_iload_n hx hb dL_law_1160 rfl (lv_at hl 3 rfl) ?_
  refine lv_iconst (v := 1) hx hb dL_law_1161 (by decide) ?_
  refine lv_iadd hx hb dL_law_1162 ?_
  refine va_sld hx hb hX hbl hbA hS h1 dL_law_1163 ?_
  refine l_iV (n := 1) F X hP hS [.int (xs (x + 1).toNatClampNeg)] [_] (c_X8_await l E _ _ (xs (x + 1).toNatClampNeg) tc r1.n.2.1 r1.n.2.2.1) m_6_64 wi_X8_await rfl rfl (by decide) (by decide +kernel) ⟨Nat.le_of_ble_eq_true rfl, Nat.le_of_ble_eq_true rfl⟩ rfl hl rfl (Nat.le_of_ble_eq_true rfl) hcs dL_law_1164 (fun H locs hP hS => ?_)
  exact lv_icmp_eq (tgt := 1442) hx hb dL_law_1167 (by decide) (fun c9 => kk _ _ _ ⟨tc1, wc1, _, _, r2, hP, hS, hl⟩) (fun c9 => absurd he c9)
set_option maxHeartbeats 1000000 in
theorem lw_c27 {p : Program} {l : Launch} {e : Env} {s : State} {m : MethodId} {below : List Frame} {meth : Method} {c : Code} {b L0 cells slots : Nat} {xs : Nat → Int32} {E : fE} {H : Heap} {locs : List Loc} {ls : Array Slot} {Q : State → Prop} (C0 : lw_At p s m meth c b L0 xs) (X : lX E s) (hcs : cells ≤ room_1.cells ∧ slots ≤ room_1.slots) {x : Int32} (h1 : vp_in (x + 1) L0) (h2 : vp_in (x + 2) L0) (h3 : vp_in (x + 3) L0) (h4 : vp_in (x + 4) L0) (h5 : vp_in (x + 5) L0) (h6 : vp_in (x + 6) L0) (h7 : vp_in (x + 7) L0) (hI : lInv E s b x H locs ls)
    (kk : ∀ (H : Heap) (locs : List Loc) (ls : Array Slot), lInv E s b x H locs ls → W p l e room_1 s m #[Value.ref b] below meth c H locs cells slots Q (F0 m 1442 ls [])) : W p l e room_1 s m #[Value.ref b] below meth c H locs cells slots Q (F0 m 1172 ls []) := by
  obtain ⟨hx, hb, hr, hml, hown, hts, hX, hbl, hlocks, hgv⟩ := C0
  have hbA : ¬ (fun q : Nat => s.heap.size ≤ q) b := Nat.not_le.mpr hbl
  have F : CallFix p m c cL_law 4 s #[Value.ref b] tb R_law := ⟨hx, hb, hml, hown, fun w hw => hts w (List.mem_filter.mp hw).1⟩
  obtain ⟨tc, wc, M, L, r, hP, hS, hl⟩ := hI
  have h0 := e_judge r (xs (x + 1).toNatClampNeg) (xs (x + 2).toNatClampNeg)
  have r1 := r.right h0.2.2.1 h0.2.2.2.1
  obtain ⟨he, tc1, wc1, r2⟩ := (e_judge r1 (xs (x + 1).toNatClampNeg) (xs (x + 2).toNatClampNeg)).fin
  rw [kl_judge] at r2
  refine lv_aload_n hx hb dL_law_1172 rfl (lv_at hl 1 rfl) ?_
  refine lv_aload_n hx hb dL_law_1173 rfl (lv_at hl 0 rfl) ?_
  refine lv_iload_n hx hb dL_law_1174 rfl (lv_at hl 3 rfl) ?_
  refine lv_iconst (v := 1) hx hb dL_law_1175 (by decide) ?_
  refine lv_iadd hx hb dL_law_1176 ?_
  refine va_sld hx hb hX hbl hbA hS h1 dL_law_1177 ?_
  refine lv_aload_n hx hb dL_law_1178 rfl (lv_at hl 0 rfl) ?_
  refine lv_iload_n hx hb dL_law_1179 rfl (lv_at hl 3 rfl) ?_
  refine lv_iconst (v := 2) hx hb dL_law_1180 (by decide) ?_
  refine lv_iadd hx hb dL_law_1181 ?_
  refine va_sld hx hb hX hbl hbA hS h2 dL_law_1182 ?_
  refine l_iV (n := 2) F X hP hS [.int (xs (x + 1).toNatClampNeg), .int (xs (x + 2).toNatClampNeg)] [] (c_X7_judge l E M L (xs (x + 1).toNatClampNeg) (xs (x + 2).toNatClampNeg)) m_4_57 wi_X7_judge rfl rfl (by decide) (by decide +kernel) ⟨Nat.le_of_ble_eq_true rfl, Nat.le_of_ble_eq_true rfl⟩ rfl hl rfl (Nat.le_of_ble_eq_true rfl) hcs dL_law_1183 (fun H locs hP hS => ?_)
  refine lv_aload_n hx hb dL_law_1186 rfl (lv_at hl 2 rfl) ?_
  refine lv_aload_n hx hb dL_law_1187 rfl (lv_at hl 0 rfl) ?_
  refine lv_iload_n hx hb dL_law_1188 rfl (lv_at hl 3 rfl) ?_
  refine lv_iconst (v := 1) hx hb dL_law_1189 (by decide) ?_
  refine lv_iadd hx hb dL_law_1190 ?_
  refine va_sld hx hb hX hbl hbA hS h1 dL_law_1191 ?_
  refine lv_aload_n hx hb dL_law_1192 rfl (lv_at hl 0 rfl) ?_
  refine lv_iload_n hx hb dL_law_1193 rfl (lv_at hl 3 rfl) ?_
  refine lv_iconst (v := 2) hx hb dL_law_1194 (by decide) ?_
  refine lv_iadd hx hb dL_law_1195 ?_
  refine va_sld hx hb hX hbl hbA hS h2 dL_law_1196 ?_
  refine l_iV (n := 2) F X hP hS [.int (xs (x + 1).toNatClampNeg), .int (xs (x + 2).toNatClampNeg)] [_] (c_X8_judge l E _ _ (xs (x + 1).toNatClampNeg) (xs (x + 2).toNatClampNeg) tc r1.n.2.1 r1.n.2.2.1) m_6_72 wi_X8_judge rfl rfl (by decide) (by decide +kernel) ⟨Nat.le_of_ble_eq_true rfl, Nat.le_of_ble_eq_true rfl⟩ rfl hl rfl (Nat.le_of_ble_eq_true rfl) hcs dL_law_1197 (fun H locs hP hS => ?_)
  exact lv_icmp_eq (tgt := 1442) hx hb dL_law_1200 (by decide) (fun c9 => kk _ _ _ ⟨tc1, wc1, _, _, r2, hP, hS, hl⟩) (fun c9 => absurd he c9)
set_option maxHeartbeats 1000000 in
theorem lw_c28 {p : Program} {l : Launch} {e : Env} {s : State} {m : MethodId} {below : List Frame} {meth : Method} {c : Code} {b L0 cells slots : Nat} {xs : Nat → Int32} {E : fE} {H : Heap} {locs : List Loc} {ls : Array Slot} {Q : State → Prop} (C0 : lw_At p s m meth c b L0 xs) (X : lX E s) (hcs : cells ≤ room_1.cells ∧ slots ≤ room_1.slots) {x : Int32} (h1 : vp_in (x + 1) L0) (h2 : vp_in (x + 2) L0) (h3 : vp_in (x + 3) L0) (h4 : vp_in (x + 4) L0) (h5 : vp_in (x + 5) L0) (h6 : vp_in (x + 6) L0) (h7 : vp_in (x + 7) L0) (hI : lInv E s b x H locs ls)
    (kk : ∀ (H : Heap) (locs : List Loc) (ls : Array Slot), lInv E s b x H locs ls → W p l e room_1 s m #[Value.ref b] below meth c H locs cells slots Q (F0 m 1442 ls [])) : W p l e room_1 s m #[Value.ref b] below meth c H locs cells slots Q (F0 m 1205 ls []) := by
  obtain ⟨hx, hb, hr, hml, hown, hts, hX, hbl, hlocks, hgv⟩ := C0
  have hbA : ¬ (fun q : Nat => s.heap.size ≤ q) b := Nat.not_le.mpr hbl
  have F : CallFix p m c cL_law 4 s #[Value.ref b] tb R_law := ⟨hx, hb, hml, hown, fun w hw => hts w (List.mem_filter.mp hw).1⟩
  obtain ⟨tc, wc, M, L, r, hP, hS, hl⟩ := hI
  have h0 := e_behind r (xs (x + 1).toNatClampNeg) (xs (x + 2).toNatClampNeg) (xs (x + 3).toNatClampNeg)
  have r1 := r.right h0.2.2.1 h0.2.2.2.1
  obtain ⟨he, tc1, wc1, r2⟩ := (e_behind r1 (xs (x + 1).toNatClampNeg) (xs (x + 2).toNatClampNeg) (xs (x + 3).toNatClampNeg)).fin
  rw [kl_behind] at r2
  refine lv_aload_n hx hb dL_law_1205 rfl (lv_at hl 1 rfl) ?_
  refine lv_aload_n hx hb dL_law_1206 rfl (lv_at hl 0 rfl) ?_
  refine lv_iload_n hx hb dL_law_1207 rfl (lv_at hl 3 rfl) ?_
  refine lv_iconst (v := 1) hx hb dL_law_1208 (by decide) ?_
  refine lv_iadd hx hb dL_law_1209 ?_
  refine va_sld hx hb hX hbl hbA hS h1 dL_law_1210 ?_
  refine lv_aload_n hx hb dL_law_1211 rfl (lv_at hl 0 rfl) ?_
  refine lv_iload_n hx hb dL_law_1212 rfl (lv_at hl 3 rfl) ?_
  refine lv_iconst (v := 2) hx hb dL_law_1213 (by decide) ?_
  refine lv_iadd hx hb dL_law_1214 ?_
  refine va_sld hx hb hX hbl hbA hS h2 dL_law_1215 ?_
  refine lv_aload_n hx hb dL_law_1216 rfl (lv_at hl 0 rfl) ?_
  refine lv_iload_n hx hb dL_law_1217 rfl (lv_at hl 3 rfl) ?_
  refine lv_iconst (v := 3) hx hb dL_law_1218 (by decide) ?_
  refine lv_iadd hx hb dL_law_1219 ?_
  refine va_sld hx hb hX hbl hbA hS h3 dL_law_1220 ?_
  refine l_iV (n := 3) F X hP hS [.int (xs (x + 1).toNatClampNeg), .int (xs (x + 2).toNatClampNeg), .int (xs (x + 3).toNatClampNeg)] [] (c_X7_behind l E M L (xs (x + 1).toNatClampNeg) (xs (x + 2).toNatClampNeg) (xs (x + 3).toNatClampNeg)) m_4_75 wi_X7_behind rfl rfl (by decide) (by decide +kernel) ⟨Nat.le_of_ble_eq_true rfl, Nat.le_of_ble_eq_true rfl⟩ rfl hl rfl (Nat.le_of_ble_eq_true rfl) hcs dL_law_1221 (fun H locs hP hS => ?_)
  refine lv_aload_n hx hb dL_law_1224 rfl (lv_at hl 2 rfl) ?_
  refine lv_aload_n hx hb dL_law_1225 rfl (lv_at hl 0 rfl) ?_
  refine lv_iload_n hx hb dL_law_1226 rfl (lv_at hl 3 rfl) ?_
  refine lv_iconst (v := 1) hx hb dL_law_1227 (by decide) ?_
  refine lv_iadd hx hb dL_law_1228 ?_
  refine va_sld hx hb hX hbl hbA hS h1 dL_law_1229 ?_
  refine lv_aload_n hx hb dL_law_1230 rfl (lv_at hl 0 rfl) ?_
  refine lv_iload_n hx hb dL_law_1231 rfl (lv_at hl 3 rfl) ?_
  refine lv_iconst (v := 2) hx hb dL_law_1232 (by decide) ?_
  refine lv_iadd hx hb dL_law_1233 ?_
  refine va_sld hx hb hX hbl hbA hS h2 dL_law_1234 ?_
  refine lv_aload_n hx hb dL_law_1235 rfl (lv_at hl 0 rfl) ?_
  refine lv_iload_n hx hb dL_law_1236 rfl (lv_at hl 3 rfl) ?_
  refine lv_iconst (v := 3) hx hb dL_law_1237 (by decide) ?_
  refine lv_iadd hx hb dL_law_1238 ?_
  refine va_sld hx hb hX hbl hbA hS h3 dL_law_1239 ?_
  refine l_iV (n := 3) F X hP hS [.int (xs (x + 1).toNatClampNeg), .int (xs (x + 2).toNatClampNeg), .int (xs (x + 3).toNatClampNeg)] [_] (c_X8_behind l E _ _ (xs (x + 1).toNatClampNeg) (xs (x + 2).toNatClampNeg) (xs (x + 3).toNatClampNeg) tc r1.n.2.1 r1.n.2.2.1) m_6_84 wi_X8_behind rfl rfl (by decide) (by decide +kernel) ⟨Nat.le_of_ble_eq_true rfl, Nat.le_of_ble_eq_true rfl⟩ rfl hl rfl (Nat.le_of_ble_eq_true rfl) hcs dL_law_1240 (fun H locs hP hS => ?_)
  exact lv_icmp_eq (tgt := 1442) hx hb dL_law_1243 (by decide) (fun c9 => kk _ _ _ ⟨tc1, wc1, _, _, r2, hP, hS, hl⟩) (fun c9 => absurd he c9)
set_option maxHeartbeats 1000000 in
theorem lw_c29 {p : Program} {l : Launch} {e : Env} {s : State} {m : MethodId} {below : List Frame} {meth : Method} {c : Code} {b L0 cells slots : Nat} {xs : Nat → Int32} {E : fE} {H : Heap} {locs : List Loc} {ls : Array Slot} {Q : State → Prop} (C0 : lw_At p s m meth c b L0 xs) (X : lX E s) (hcs : cells ≤ room_1.cells ∧ slots ≤ room_1.slots) {x : Int32} (h1 : vp_in (x + 1) L0) (h2 : vp_in (x + 2) L0) (h3 : vp_in (x + 3) L0) (h4 : vp_in (x + 4) L0) (h5 : vp_in (x + 5) L0) (h6 : vp_in (x + 6) L0) (h7 : vp_in (x + 7) L0) (hI : lInv E s b x H locs ls)
    (kk : ∀ (H : Heap) (locs : List Loc) (ls : Array Slot), lInv E s b x H locs ls → W p l e room_1 s m #[Value.ref b] below meth c H locs cells slots Q (F0 m 1442 ls [])) : W p l e room_1 s m #[Value.ref b] below meth c H locs cells slots Q (F0 m 1248 ls []) := by
  obtain ⟨hx, hb, hr, hml, hown, hts, hX, hbl, hlocks, hgv⟩ := C0
  have hbA : ¬ (fun q : Nat => s.heap.size ≤ q) b := Nat.not_le.mpr hbl
  have F : CallFix p m c cL_law 4 s #[Value.ref b] tb R_law := ⟨hx, hb, hml, hown, fun w hw => hts w (List.mem_filter.mp hw).1⟩
  obtain ⟨tc, wc, M, L, r, hP, hS, hl⟩ := hI
  have h0 := e_done r (xs (x + 1).toNatClampNeg) (xs (x + 2).toNatClampNeg)
  have r1 := r.right h0.2.2.1 h0.2.2.2.1
  obtain ⟨he, tc1, wc1, r2⟩ := (e_done r1 (xs (x + 1).toNatClampNeg) (xs (x + 2).toNatClampNeg)).fin
  rw [kl_done] at r2
  refine lv_aload_n hx hb dL_law_1248 rfl (lv_at hl 1 rfl) ?_
  refine lv_aload_n hx hb dL_law_1249 rfl (lv_at hl 0 rfl) ?_
  refine lv_iload_n hx hb dL_law_1250 rfl (lv_at hl 3 rfl) ?_
  refine lv_iconst (v := 1) hx hb dL_law_1251 (by decide) ?_
  refine lv_iadd hx hb dL_law_1252 ?_
  refine va_sld hx hb hX hbl hbA hS h1 dL_law_1253 ?_
  refine lv_aload_n hx hb dL_law_1254 rfl (lv_at hl 0 rfl) ?_
  refine lv_iload_n hx hb dL_law_1255 rfl (lv_at hl 3 rfl) ?_
  refine lv_iconst (v := 2) hx hb dL_law_1256 (by decide) ?_
  refine lv_iadd hx hb dL_law_1257 ?_
  refine va_sld hx hb hX hbl hbA hS h2 dL_law_1258 ?_
  refine l_iV (n := 2) F X hP hS [.int (xs (x + 1).toNatClampNeg), .int (xs (x + 2).toNatClampNeg)] [] (c_X7_done l E M L (xs (x + 1).toNatClampNeg) (xs (x + 2).toNatClampNeg)) m_4_92 wi_X7_done rfl rfl (by decide) (by decide +kernel) ⟨Nat.le_of_ble_eq_true rfl, Nat.le_of_ble_eq_true rfl⟩ rfl hl rfl (Nat.le_of_ble_eq_true rfl) hcs dL_law_1259 (fun H locs hP hS => ?_)
  refine lv_aload_n hx hb dL_law_1262 rfl (lv_at hl 2 rfl) ?_
  refine lv_aload_n hx hb dL_law_1263 rfl (lv_at hl 0 rfl) ?_
  refine lv_iload_n hx hb dL_law_1264 rfl (lv_at hl 3 rfl) ?_
  refine lv_iconst (v := 1) hx hb dL_law_1265 (by decide) ?_
  refine lv_iadd hx hb dL_law_1266 ?_
  refine va_sld hx hb hX hbl hbA hS h1 dL_law_1267 ?_
  refine lv_aload_n hx hb dL_law_1268 rfl (lv_at hl 0 rfl) ?_
  refine lv_iload_n hx hb dL_law_1269 rfl (lv_at hl 3 rfl) ?_
  refine lv_iconst (v := 2) hx hb dL_law_1270 (by decide) ?_
  refine lv_iadd hx hb dL_law_1271 ?_
  refine va_sld hx hb hX hbl hbA hS h2 dL_law_1272 ?_
  refine l_iV (n := 2) F X hP hS [.int (xs (x + 1).toNatClampNeg), .int (xs (x + 2).toNatClampNeg)] [_] (c_X8_done l E _ _ (xs (x + 1).toNatClampNeg) (xs (x + 2).toNatClampNeg) tc r1.n.2.1 r1.n.2.2.1) m_6_88 wi_X8_done rfl rfl (by decide) (by decide +kernel) ⟨Nat.le_of_ble_eq_true rfl, Nat.le_of_ble_eq_true rfl⟩ rfl hl rfl (Nat.le_of_ble_eq_true rfl) hcs dL_law_1273 (fun H locs hP hS => ?_)
  exact lv_icmp_eq (tgt := 1442) hx hb dL_law_1276 (by decide) (fun c9 => kk _ _ _ ⟨tc1, wc1, _, _, r2, hP, hS, hl⟩) (fun c9 => absurd he c9)
set_option maxHeartbeats 1000000 in
theorem lw_c30 {p : Program} {l : Launch} {e : Env} {s : State} {m : MethodId} {below : List Frame} {meth : Method} {c : Code} {b L0 cells slots : Nat} {xs : Nat → Int32} {E : fE} {H : Heap} {locs : List Loc} {ls : Array Slot} {Q : State → Prop} (C0 : lw_At p s m meth c b L0 xs) (X : lX E s) (hcs : cells ≤ room_1.cells ∧ slots ≤ room_1.slots) {x : Int32} (h1 : vp_in (x + 1) L0) (h2 : vp_in (x + 2) L0) (h3 : vp_in (x + 3) L0) (h4 : vp_in (x + 4) L0) (h5 : vp_in (x + 5) L0) (h6 : vp_in (x + 6) L0) (h7 : vp_in (x + 7) L0) (hI : lInv E s b x H locs ls)
    (kk : ∀ (H : Heap) (locs : List Loc) (ls : Array Slot), lInv E s b x H locs ls → W p l e room_1 s m #[Value.ref b] below meth c H locs cells slots Q (F0 m 1442 ls [])) : W p l e room_1 s m #[Value.ref b] below meth c H locs cells slots Q (F0 m 1281 ls []) := by
  obtain ⟨hx, hb, hr, hml, hown, hts, hX, hbl, hlocks, hgv⟩ := C0
  have hbA : ¬ (fun q : Nat => s.heap.size ≤ q) b := Nat.not_le.mpr hbl
  have F : CallFix p m c cL_law 4 s #[Value.ref b] tb R_law := ⟨hx, hb, hml, hown, fun w hw => hts w (List.mem_filter.mp hw).1⟩
  obtain ⟨tc, wc, M, L, r, hP, hS, hl⟩ := hI
  have h0 := e_days r (xs (x + 1).toNatClampNeg)
  have r1 := r.right h0.2.2.1 h0.2.2.2.1
  obtain ⟨he, tc1, wc1, r2⟩ := (e_days r1 (xs (x + 1).toNatClampNeg)).fin
  rw [kl_days] at r2
  refine lv_aload_n hx hb dL_law_1281 rfl (lv_at hl 1 rfl) ?_
  refine lv_aload_n hx hb dL_law_1282 rfl (lv_at hl 0 rfl) ?_
  refine lv_iload_n hx hb dL_law_1283 rfl (lv_at hl 3 rfl) ?_
  refine lv_iconst (v := 1) hx hb dL_law_1284 (by decide) ?_
  refine lv_iadd hx hb dL_law_1285 ?_
  refine va_sld hx hb hX hbl hbA hS h1 dL_law_1286 ?_
  refine l_iV (n := 1) F X hP hS [.int (xs (x + 1).toNatClampNeg)] [] (c_X7_days l E M L (xs (x + 1).toNatClampNeg) tc wc r.n.1 r.n.2.2.1 r.n.2.2.2.1 r.n.2.2.2.2.2) m_4_96 wi_X7_days rfl rfl (by decide) (by decide +kernel) ⟨Nat.le_of_ble_eq_true rfl, Nat.le_of_ble_eq_true rfl⟩ rfl hl rfl (Nat.le_of_ble_eq_true rfl) hcs dL_law_1287 (fun H locs hP hS => ?_)
  refine lv_aload_n hx hb dL_law_1290 rfl (lv_at hl 2 rfl) ?_
  refine lv_aload_n hx hb dL_law_1291 rfl (lv_at hl 0 rfl) ?_
  refine lv_iload_n hx hb dL_law_1292 rfl (lv_at hl 3 rfl) ?_
  refine lv_iconst (v := 1) hx hb dL_law_1293 (by decide) ?_
  refine lv_iadd hx hb dL_law_1294 ?_
  refine va_sld hx hb hX hbl hbA hS h1 dL_law_1295 ?_
  refine l_iV (n := 1) F X hP hS [.int (xs (x + 1).toNatClampNeg)] [_] (c_X8_days l E _ _ (xs (x + 1).toNatClampNeg) tc wc r1.n.2.1 r1.n.2.2.1 r1.n.2.2.2.2.1 r1.n.2.2.2.2.2 (cs_hcs r1)) m_6_92 wi_X8_days rfl rfl (by decide) (by decide +kernel) ⟨Nat.le_of_ble_eq_true rfl, Nat.le_of_ble_eq_true rfl⟩ rfl hl rfl (Nat.le_of_ble_eq_true rfl) hcs dL_law_1296 (fun H locs hP hS => ?_)
  exact lv_icmp_eq (tgt := 1442) hx hb dL_law_1299 (by decide) (fun c9 => kk _ _ _ ⟨tc1, wc1, _, _, r2, hP, hS, hl⟩) (fun c9 => absurd he c9)
set_option maxHeartbeats 1000000 in
theorem lw_c31 {p : Program} {l : Launch} {e : Env} {s : State} {m : MethodId} {below : List Frame} {meth : Method} {c : Code} {b L0 cells slots : Nat} {xs : Nat → Int32} {E : fE} {H : Heap} {locs : List Loc} {ls : Array Slot} {Q : State → Prop} (C0 : lw_At p s m meth c b L0 xs) (X : lX E s) (hcs : cells ≤ room_1.cells ∧ slots ≤ room_1.slots) {x : Int32} (h1 : vp_in (x + 1) L0) (h2 : vp_in (x + 2) L0) (h3 : vp_in (x + 3) L0) (h4 : vp_in (x + 4) L0) (h5 : vp_in (x + 5) L0) (h6 : vp_in (x + 6) L0) (h7 : vp_in (x + 7) L0) (hI : lInv E s b x H locs ls)
    (kk : ∀ (H : Heap) (locs : List Loc) (ls : Array Slot), lInv E s b x H locs ls → W p l e room_1 s m #[Value.ref b] below meth c H locs cells slots Q (F0 m 1442 ls [])) : W p l e room_1 s m #[Value.ref b] below meth c H locs cells slots Q (F0 m 1304 ls []) := by
  obtain ⟨hx, hb, hr, hml, hown, hts, hX, hbl, hlocks, hgv⟩ := C0
  have hbA : ¬ (fun q : Nat => s.heap.size ≤ q) b := Nat.not_le.mpr hbl
  have F : CallFix p m c cL_law 4 s #[Value.ref b] tb R_law := ⟨hx, hb, hml, hown, fun w hw => hts w (List.mem_filter.mp hw).1⟩
  obtain ⟨tc, wc, M, L, r, hP, hS, hl⟩ := hI
  have h0 := e_seed r (xs (x + 1).toNatClampNeg)
  have r1 := r.right h0.2.2.1 h0.2.2.2.1
  obtain ⟨he, tc1, wc1, r2⟩ := (e_seed r1 (xs (x + 1).toNatClampNeg)).fin
  rw [kl_seed] at r2
  refine lv_aload_n hx hb dL_law_1304 rfl (lv_at hl 1 rfl) ?_
  refine lv_aload_n hx hb dL_law_1305 rfl (lv_at hl 0 rfl) ?_
  refine lv_iload_n hx hb dL_law_1306 rfl (lv_at hl 3 rfl) ?_
  refine lv_iconst (v := 1) hx hb dL_law_1307 (by decide) ?_
  refine lv_iadd hx hb dL_law_1308 ?_
  refine va_sld hx hb hX hbl hbA hS h1 dL_law_1309 ?_
  refine l_iV (n := 1) F X hP hS [.int (xs (x + 1).toNatClampNeg)] [] (c_X7_seed l E M L (xs (x + 1).toNatClampNeg)) m_4_109 wi_X7_seed rfl rfl (by decide) (by decide +kernel) ⟨Nat.le_of_ble_eq_true rfl, Nat.le_of_ble_eq_true rfl⟩ rfl hl rfl (Nat.le_of_ble_eq_true rfl) hcs dL_law_1310 (fun H locs hP hS => ?_)
  refine lv_aload_n hx hb dL_law_1313 rfl (lv_at hl 2 rfl) ?_
  refine lv_aload_n hx hb dL_law_1314 rfl (lv_at hl 0 rfl) ?_
  refine lv_iload_n hx hb dL_law_1315 rfl (lv_at hl 3 rfl) ?_
  refine lv_iconst (v := 1) hx hb dL_law_1316 (by decide) ?_
  refine lv_iadd hx hb dL_law_1317 ?_
  refine va_sld hx hb hX hbl hbA hS h1 dL_law_1318 ?_
  refine l_iV (n := 1) F X hP hS [.int (xs (x + 1).toNatClampNeg)] [_] (c_X8_seed l E _ _ (xs (x + 1).toNatClampNeg)) m_6_101 wi_X8_seed rfl rfl (by decide) (by decide +kernel) ⟨Nat.le_of_ble_eq_true rfl, Nat.le_of_ble_eq_true rfl⟩ rfl hl rfl (Nat.le_of_ble_eq_true rfl) hcs dL_law_1319 (fun H locs hP hS => ?_)
  exact lv_icmp_eq (tgt := 1442) hx hb dL_law_1322 (by decide) (fun c9 => kk _ _ _ ⟨tc1, wc1, _, _, r2, hP, hS, hl⟩) (fun c9 => absurd he c9)
set_option maxHeartbeats 1000000 in
theorem lw_c32 {p : Program} {l : Launch} {e : Env} {s : State} {m : MethodId} {below : List Frame} {meth : Method} {c : Code} {b L0 cells slots : Nat} {xs : Nat → Int32} {E : fE} {H : Heap} {locs : List Loc} {ls : Array Slot} {Q : State → Prop} (C0 : lw_At p s m meth c b L0 xs) (X : lX E s) (hcs : cells ≤ room_1.cells ∧ slots ≤ room_1.slots) {x : Int32} (h1 : vp_in (x + 1) L0) (h2 : vp_in (x + 2) L0) (h3 : vp_in (x + 3) L0) (h4 : vp_in (x + 4) L0) (h5 : vp_in (x + 5) L0) (h6 : vp_in (x + 6) L0) (h7 : vp_in (x + 7) L0) (hI : lInv E s b x H locs ls)
    (kk : ∀ (H : Heap) (locs : List Loc) (ls : Array Slot), lInv E s b x H locs ls → W p l e room_1 s m #[Value.ref b] below meth c H locs cells slots Q (F0 m 1442 ls [])) : W p l e room_1 s m #[Value.ref b] below meth c H locs cells slots Q (F0 m 1327 ls []) := by
  obtain ⟨hx, hb, hr, hml, hown, hts, hX, hbl, hlocks, hgv⟩ := C0
  have hbA : ¬ (fun q : Nat => s.heap.size ≤ q) b := Nat.not_le.mpr hbl
  have F : CallFix p m c cL_law 4 s #[Value.ref b] tb R_law := ⟨hx, hb, hml, hown, fun w hw => hts w (List.mem_filter.mp hw).1⟩
  obtain ⟨tc, wc, M, L, r, hP, hS, hl⟩ := hI
  have h0 := e_act r (xs (x + 1).toNatClampNeg) (xs (x + 2).toNatClampNeg) (xs (x + 3).toNatClampNeg)
  have r1 := r.right h0.2.2.1 h0.2.2.2.1
  obtain ⟨he, tc1, wc1, r2⟩ := (e_act r1 (xs (x + 1).toNatClampNeg) (xs (x + 2).toNatClampNeg) (xs (x + 3).toNatClampNeg)).fin
  rw [kl_act] at r2
  refine lv_aload_n hx hb dL_law_1327 rfl (lv_at hl 1 rfl) ?_
  refine lv_aload_n hx hb dL_law_1328 rfl (lv_at hl 0 rfl) ?_
  refine lv_iload_n hx hb dL_law_1329 rfl (lv_at hl 3 rfl) ?_
  refine lv_iconst (v := 1) hx hb dL_law_1330 (by decide) ?_
  refine lv_iadd hx hb dL_law_1331 ?_
  refine va_sld hx hb hX hbl hbA hS h1 dL_law_1332 ?_
  refine lv_aload_n hx hb dL_law_1333 rfl (lv_at hl 0 rfl) ?_
  refine lv_iload_n hx hb dL_law_1334 rfl (lv_at hl 3 rfl) ?_
  refine lv_iconst (v := 2) hx hb dL_law_1335 (by decide) ?_
  refine lv_iadd hx hb dL_law_1336 ?_
  refine va_sld hx hb hX hbl hbA hS h2 dL_law_1337 ?_
  refine lv_aload_n hx hb dL_law_1338 rfl (lv_at hl 0 rfl) ?_
  refine lv_iload_n hx hb dL_law_1339 rfl (lv_at hl 3 rfl) ?_
  refine lv_iconst (v := 3) hx hb dL_law_1340 (by decide) ?_
  refine lv_iadd hx hb dL_law_1341 ?_
  refine va_sld hx hb hX hbl hbA hS h3 dL_law_1342 ?_
  refine l_iV (n := 3) F X hP hS [.int (xs (x + 1).toNatClampNeg), .int (xs (x + 2).toNatClampNeg), .int (xs (x + 3).toNatClampNeg)] [] (c_X7_act l E M L (xs (x + 1).toNatClampNeg) (xs (x + 2).toNatClampNeg) (xs (x + 3).toNatClampNeg)) m_4_113 wi_X7_act rfl rfl (by decide) (by decide +kernel) ⟨Nat.le_of_ble_eq_true rfl, Nat.le_of_ble_eq_true rfl⟩ rfl hl rfl (Nat.le_of_ble_eq_true rfl) hcs dL_law_1343 (fun H locs hP hS => ?_)
  refine lv_aload_n hx hb dL_law_1346 rfl (lv_at hl 2 rfl) ?_
  refine lv_aload_n hx hb dL_law_1347 rfl (lv_at hl 0 rfl) ?_
  refine lv_iload_n hx hb dL_law_1348 rfl (lv_at hl 3 rfl) ?_
  refine lv_iconst (v := 1) hx hb dL_law_1349 (by decide) ?_
  refine lv_iadd hx hb dL_law_1350 ?_
  refine va_sld hx hb hX hbl hbA hS h1 dL_law_1351 ?_
  refine lv_aload_n hx hb dL_law_1352 rfl (lv_at hl 0 rfl) ?_
  refine lv_iload_n hx hb dL_law_1353 rfl (lv_at hl 3 rfl) ?_
  refine lv_iconst (v := 2) hx hb dL_law_1354 (by decide) ?_
  refine lv_iadd hx hb dL_law_1355 ?_
  refine va_sld hx hb hX hbl hbA hS h2 dL_law_1356 ?_
  refine lv_aload_n hx hb dL_law_1357 rfl (lv_at hl 0 rfl) ?_
  refine lv_iload_n hx hb dL_law_1358 rfl (lv_at hl 3 rfl) ?_
  refine lv_iconst (v := 3) hx hb dL_law_1359 (by decide) ?_
  refine lv_iadd hx hb dL_law_1360 ?_
  refine va_sld hx hb hX hbl hbA hS h3 dL_law_1361 ?_
  refine l_iV (n := 3) F X hP hS [.int (xs (x + 1).toNatClampNeg), .int (xs (x + 2).toNatClampNeg), .int (xs (x + 3).toNatClampNeg)] [_] (c_X8_act l E _ _ (xs (x + 1).toNatClampNeg) (xs (x + 2).toNatClampNeg) (xs (x + 3).toNatClampNeg) wc r1.n.2.2.2.2.1 r1.n.2.2.2.2.2) m_6_105 wi_X8_act rfl rfl (by decide) (by decide +kernel) ⟨Nat.le_of_ble_eq_true rfl, Nat.le_of_ble_eq_true rfl⟩ rfl hl rfl (Nat.le_of_ble_eq_true rfl) hcs dL_law_1362 (fun H locs hP hS => ?_)
  exact lv_icmp_eq (tgt := 1442) hx hb dL_law_1365 (by decide) (fun c9 => kk _ _ _ ⟨tc1, wc1, _, _, r2, hP, hS, hl⟩) (fun c9 => absurd he c9)
set_option maxHeartbeats 1000000 in
theorem lw_c33 {p : Program} {l : Launch} {e : Env} {s : State} {m : MethodId} {below : List Frame} {meth : Method} {c : Code} {b L0 cells slots : Nat} {xs : Nat → Int32} {E : fE} {H : Heap} {locs : List Loc} {ls : Array Slot} {Q : State → Prop} (C0 : lw_At p s m meth c b L0 xs) (X : lX E s) (hcs : cells ≤ room_1.cells ∧ slots ≤ room_1.slots) {x : Int32} (h1 : vp_in (x + 1) L0) (h2 : vp_in (x + 2) L0) (h3 : vp_in (x + 3) L0) (h4 : vp_in (x + 4) L0) (h5 : vp_in (x + 5) L0) (h6 : vp_in (x + 6) L0) (h7 : vp_in (x + 7) L0) (hI : lInv E s b x H locs ls)
    (kk : ∀ (H : Heap) (locs : List Loc) (ls : Array Slot), lInv E s b x H locs ls → W p l e room_1 s m #[Value.ref b] below meth c H locs cells slots Q (F0 m 1442 ls [])) : W p l e room_1 s m #[Value.ref b] below meth c H locs cells slots Q (F0 m 1370 ls []) := by
  obtain ⟨hx, hb, hr, hml, hown, hts, hX, hbl, hlocks, hgv⟩ := C0
  have hbA : ¬ (fun q : Nat => s.heap.size ≤ q) b := Nat.not_le.mpr hbl
  have F : CallFix p m c cL_law 4 s #[Value.ref b] tb R_law := ⟨hx, hb, hml, hown, fun w hw => hts w (List.mem_filter.mp hw).1⟩
  obtain ⟨tc, wc, M, L, r, hP, hS, hl⟩ := hI
  have h0 := e_trace r (xs (x + 1).toNatClampNeg)
  have r1 := r.right h0.2.2.1 h0.2.2.2.1
  obtain ⟨he, tc1, wc1, r2⟩ := (e_trace r1 (xs (x + 1).toNatClampNeg)).fin
  refine lv_aload_n hx hb dL_law_1370 rfl (lv_at hl 1 rfl) ?_
  refine lv_aload_n hx hb dL_law_1371 rfl (lv_at hl 0 rfl) ?_
  refine lv_iload_n hx hb dL_law_1372 rfl (lv_at hl 3 rfl) ?_
  refine lv_iconst (v := 1) hx hb dL_law_1373 (by decide) ?_
  refine lv_iadd hx hb dL_law_1374 ?_
  refine va_sld hx hb hX hbl hbA hS h1 dL_law_1375 ?_
  refine l_iV (n := 1) F X hP hS [.int (xs (x + 1).toNatClampNeg)] [] (c_X7_trace l E M L (xs (x + 1).toNatClampNeg)) m_4_148 wi_X7_trace rfl rfl (by decide) (by decide +kernel) ⟨Nat.le_of_ble_eq_true rfl, Nat.le_of_ble_eq_true rfl⟩ rfl hl rfl (Nat.le_of_ble_eq_true rfl) hcs dL_law_1376 (fun H locs hP hS => ?_)
  refine lv_aload_n hx hb dL_law_1379 rfl (lv_at hl 2 rfl) ?_
  refine lv_aload_n hx hb dL_law_1380 rfl (lv_at hl 0 rfl) ?_
  refine lv_iload_n hx hb dL_law_1381 rfl (lv_at hl 3 rfl) ?_
  refine lv_iconst (v := 1) hx hb dL_law_1382 (by decide) ?_
  refine lv_iadd hx hb dL_law_1383 ?_
  refine va_sld hx hb hX hbl hbA hS h1 dL_law_1384 ?_
  refine l_iV (n := 1) F X hP hS [.int (xs (x + 1).toNatClampNeg)] [_] (c_X8_trace l E _ _ (xs (x + 1).toNatClampNeg)) m_6_125 wi_X8_trace rfl rfl (by decide) (by decide +kernel) ⟨Nat.le_of_ble_eq_true rfl, Nat.le_of_ble_eq_true rfl⟩ rfl hl rfl (Nat.le_of_ble_eq_true rfl) hcs dL_law_1385 (fun H locs hP hS => ?_)
  exact lv_icmp_eq (tgt := 1442) hx hb dL_law_1388 (by decide) (fun c9 => kk _ _ _ ⟨tc1, wc1, _, _, r2, hP, hS, hl⟩) (fun c9 => absurd he c9)
set_option maxHeartbeats 1000000 in
theorem lw_c34 {p : Program} {l : Launch} {e : Env} {s : State} {m : MethodId} {below : List Frame} {meth : Method} {c : Code} {b L0 cells slots : Nat} {xs : Nat → Int32} {E : fE} {H : Heap} {locs : List Loc} {ls : Array Slot} {Q : State → Prop} (C0 : lw_At p s m meth c b L0 xs) (X : lX E s) (hcs : cells ≤ room_1.cells ∧ slots ≤ room_1.slots) {x : Int32} (h1 : vp_in (x + 1) L0) (h2 : vp_in (x + 2) L0) (h3 : vp_in (x + 3) L0) (h4 : vp_in (x + 4) L0) (h5 : vp_in (x + 5) L0) (h6 : vp_in (x + 6) L0) (h7 : vp_in (x + 7) L0) (hI : lInv E s b x H locs ls)
    (kk : ∀ (H : Heap) (locs : List Loc) (ls : Array Slot), lInv E s b x H locs ls → W p l e room_1 s m #[Value.ref b] below meth c H locs cells slots Q (F0 m 1442 ls [])) : W p l e room_1 s m #[Value.ref b] below meth c H locs cells slots Q (F0 m 1393 ls []) := by
  obtain ⟨hx, hb, hr, hml, hown, hts, hX, hbl, hlocks, hgv⟩ := C0
  have hbA : ¬ (fun q : Nat => s.heap.size ≤ q) b := Nat.not_le.mpr hbl
  have F : CallFix p m c cL_law 4 s #[Value.ref b] tb R_law := ⟨hx, hb, hml, hown, fun w hw => hts w (List.mem_filter.mp hw).1⟩
  obtain ⟨tc, wc, M, L, r, hP, hS, hl⟩ := hI
  have h0 := e_image r 
  have r1 := r.right h0.2.2.1 h0.2.2.2.1
  obtain ⟨he, tc1, wc1, r2⟩ := (e_image r1 ).fin
  rw [kl_image] at r2
  refine lv_aload_n hx hb dL_law_1393 rfl (lv_at hl 1 rfl) ?_
  refine l_iV (n := 0) F X hP hS [] [] (c_X7_image l E M L ) m_4_156 wi_X7_image rfl rfl (by decide) (by decide +kernel) ⟨Nat.le_of_ble_eq_true rfl, Nat.le_of_ble_eq_true rfl⟩ rfl hl rfl (Nat.le_of_ble_eq_true rfl) hcs dL_law_1394 (fun H locs hP hS => ?_)
  refine lv_aload_n hx hb dL_law_1397 rfl (lv_at hl 2 rfl) ?_
  refine l_iV (n := 0) F X hP hS [] [_] (c_X8_image l E _ _ ) m_6_129 wi_X8_image rfl rfl (by decide) (by decide +kernel) ⟨Nat.le_of_ble_eq_true rfl, Nat.le_of_ble_eq_true rfl⟩ rfl hl rfl (Nat.le_of_ble_eq_true rfl) hcs dL_law_1398 (fun H locs hP hS => ?_)
  exact lv_icmp_eq (tgt := 1442) hx hb dL_law_1401 (by decide) (fun c9 => kk _ _ _ ⟨tc1, wc1, _, _, r2, hP, hS, hl⟩) (fun c9 => absurd he c9)
set_option maxHeartbeats 1000000 in
theorem lw_c35 {p : Program} {l : Launch} {e : Env} {s : State} {m : MethodId} {below : List Frame} {meth : Method} {c : Code} {b L0 cells slots : Nat} {xs : Nat → Int32} {E : fE} {H : Heap} {locs : List Loc} {ls : Array Slot} {Q : State → Prop} (C0 : lw_At p s m meth c b L0 xs) (X : lX E s) (hcs : cells ≤ room_1.cells ∧ slots ≤ room_1.slots) {x : Int32} (h1 : vp_in (x + 1) L0) (h2 : vp_in (x + 2) L0) (h3 : vp_in (x + 3) L0) (h4 : vp_in (x + 4) L0) (h5 : vp_in (x + 5) L0) (h6 : vp_in (x + 6) L0) (h7 : vp_in (x + 7) L0) (hI : lInv E s b x H locs ls)
    (kk : ∀ (H : Heap) (locs : List Loc) (ls : Array Slot), lInv E s b x H locs ls → W p l e room_1 s m #[Value.ref b] below meth c H locs cells slots Q (F0 m 1442 ls [])) : W p l e room_1 s m #[Value.ref b] below meth c H locs cells slots Q (F0 m 1406 ls []) := by
  obtain ⟨hx, hb, hr, hml, hown, hts, hX, hbl, hlocks, hgv⟩ := C0
  have hbA : ¬ (fun q : Nat => s.heap.size ≤ q) b := Nat.not_le.mpr hbl
  have F : CallFix p m c cL_law 4 s #[Value.ref b] tb R_law := ⟨hx, hb, hml, hown, fun w hw => hts w (List.mem_filter.mp hw).1⟩
  obtain ⟨tc, wc, M, L, r, hP, hS, hl⟩ := hI
  have h0 := e_restore r 
  have r1 := r.right h0.2.2.1 h0.2.2.2.1
  obtain ⟨he, tc1, wc1, r2⟩ := (e_restore r1 ).fin
  rw [kl_restore] at r2
  refine lv_aload_n hx hb dL_law_1406 rfl (lv_at hl 1 rfl) ?_
  refine l_iV (n := 0) F X hP hS [] [] (c_X7_restore l E M L ) m_4_160 wi_X7_restore rfl rfl (by decide) (by decide +kernel) ⟨Nat.le_of_ble_eq_true rfl, Nat.le_of_ble_eq_true rfl⟩ rfl hl rfl (Nat.le_of_ble_eq_true rfl) hcs dL_law_1407 (fun H locs hP hS => ?_)
  refine lv_aload_n hx hb dL_law_1410 rfl (lv_at hl 2 rfl) ?_
  refine l_iV (n := 0) F X hP hS [] [_] (c_X8_restore l E _ _ ) m_6_133 wi_X8_restore rfl rfl (by decide) (by decide +kernel) ⟨Nat.le_of_ble_eq_true rfl, Nat.le_of_ble_eq_true rfl⟩ rfl hl rfl (Nat.le_of_ble_eq_true rfl) hcs dL_law_1411 (fun H locs hP hS => ?_)
  exact lv_icmp_eq (tgt := 1442) hx hb dL_law_1414 (by decide) (fun c9 => kk _ _ _ ⟨tc1, wc1, _, _, r2, hP, hS, hl⟩) (fun c9 => absurd he c9)
set_option maxHeartbeats 1000000 in
theorem lw_c36 {p : Program} {l : Launch} {e : Env} {s : State} {m : MethodId} {below : List Frame} {meth : Method} {c : Code} {b L0 cells slots : Nat} {xs : Nat → Int32} {E : fE} {H : Heap} {locs : List Loc} {ls : Array Slot} {Q : State → Prop} (C0 : lw_At p s m meth c b L0 xs) (X : lX E s) (hcs : cells ≤ room_1.cells ∧ slots ≤ room_1.slots) {x : Int32} (h1 : vp_in (x + 1) L0) (h2 : vp_in (x + 2) L0) (h3 : vp_in (x + 3) L0) (h4 : vp_in (x + 4) L0) (h5 : vp_in (x + 5) L0) (h6 : vp_in (x + 6) L0) (h7 : vp_in (x + 7) L0) (hI : lInv E s b x H locs ls)
    (kk : ∀ (H : Heap) (locs : List Loc) (ls : Array Slot), lInv E s b x H locs ls → W p l e room_1 s m #[Value.ref b] below meth c H locs cells slots Q (F0 m 1442 ls [])) : W p l e room_1 s m #[Value.ref b] below meth c H locs cells slots Q (F0 m 1419 ls []) := by
  obtain ⟨hx, hb, hr, hml, hown, hts, hX, hbl, hlocks, hgv⟩ := C0
  have hbA : ¬ (fun q : Nat => s.heap.size ≤ q) b := Nat.not_le.mpr hbl
  have F : CallFix p m c cL_law 4 s #[Value.ref b] tb R_law := ⟨hx, hb, hml, hown, fun w hw => hts w (List.mem_filter.mp hw).1⟩
  obtain ⟨tc, wc, M, L, r, hP, hS, hl⟩ := hI
  have h0 := e_status r (xs (x + 1).toNatClampNeg)
  have r1 := r.right h0.2.2.1 h0.2.2.2.1
  obtain ⟨he, tc1, wc1, r2⟩ := (e_status r1 (xs (x + 1).toNatClampNeg)).fin
  refine lv_aload_n hx hb dL_law_1419 rfl (lv_at hl 1 rfl) ?_
  refine lv_aload_n hx hb dL_law_1420 rfl (lv_at hl 0 rfl) ?_
  refine lv_iload_n hx hb dL_law_1421 rfl (lv_at hl 3 rfl) ?_
  refine lv_iconst (v := 1) hx hb dL_law_1422 (by decide) ?_
  refine lv_iadd hx hb dL_law_1423 ?_
  refine va_sld hx hb hX hbl hbA hS h1 dL_law_1424 ?_
  refine l_iV (n := 1) F X hP hS [.int (xs (x + 1).toNatClampNeg)] [] (c_X7_status l E M L (xs (x + 1).toNatClampNeg)) m_4_164 wi_X7_status rfl rfl (by decide) (by decide +kernel) ⟨Nat.le_of_ble_eq_true rfl, Nat.le_of_ble_eq_true rfl⟩ rfl hl rfl (Nat.le_of_ble_eq_true rfl) hcs dL_law_1425 (fun H locs hP hS => ?_)
  refine lv_aload_n hx hb dL_law_1428 rfl (lv_at hl 2 rfl) ?_
  refine lv_aload_n hx hb dL_law_1429 rfl (lv_at hl 0 rfl) ?_
  refine lv_iload_n hx hb dL_law_1430 rfl (lv_at hl 3 rfl) ?_
  refine lv_iconst (v := 1) hx hb dL_law_1431 (by decide) ?_
  refine lv_iadd hx hb dL_law_1432 ?_
  refine va_sld hx hb hX hbl hbA hS h1 dL_law_1433 ?_
  refine l_iV (n := 1) F X hP hS [.int (xs (x + 1).toNatClampNeg)] [_] (c_X8_status l E _ _ (xs (x + 1).toNatClampNeg)) m_6_137 wi_X8_status rfl rfl (by decide) (by decide +kernel) ⟨Nat.le_of_ble_eq_true rfl, Nat.le_of_ble_eq_true rfl⟩ rfl hl rfl (Nat.le_of_ble_eq_true rfl) hcs dL_law_1434 (fun H locs hP hS => ?_)
  exact lv_icmp_eq (tgt := 1442) hx hb dL_law_1437 (by decide) (fun c9 => kk _ _ _ ⟨tc1, wc1, _, _, r2, hP, hS, hl⟩) (fun c9 => absurd he c9)
