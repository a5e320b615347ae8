set_option maxHeartbeats 4000000 in
set_option maxRecDepth 100000 in
theorem c_J6_bitCount_0f7a4 (l : Launch) (E : fE) (M : Nat → Nat → Int32) (L : Nat → Nat → Int64) (i : Int32) : Met l yJ6_bitCount_0f7a4 (wl yJ6_bitCount_0f7a4 cJ6_bitCount_0f7a4 1 (some .int)) (fRm 0 0) (va_Pc [.int i] (fPre E M L)) (fQi E (fun r u => u = (M, L) ∧ r = bitc i)) 0 0 (fA E) := by
  refine f_head (by decide) (Nat.le_of_ble_eq_true rfl) ?_
  intro pg ev s mi below meth cd ls X hr hlk hP hS hl
  have hx := X.1.1
  have hb := X.1.2.1
  have hl : lv_has ls 1 [(0, .int i)] := hl
  refine lv_iload_n hx hb dJ6_bitCount_0f7a4_0 rfl (lv_at hl 0 rfl) ?_
  refine lv_iload_n hx hb dJ6_bitCount_0f7a4_1 rfl (lv_at hl 0 rfl) ?_
  refine lv_iconst (v := 1) hx hb dJ6_bitCount_0f7a4_2 (by decide) ?_
  refine lv_iushr (v := (ush i 1)) hx hb dJ6_bitCount_0f7a4_3 rfl ?_
  refine lv_ldcw (v := 1431655765) hx hb X.1.2.2.2.1 (X.ht m_3_219) dJ6_bitCount_0f7a4_4 ?_
  refine lv_iand hx hb dJ6_bitCount_0f7a4_7 ?_
  refine lv_isub hx hb dJ6_bitCount_0f7a4_8 ?_
  refine lv_istore_n (lv' := [(0, .int (i - ((ush i 1) &&& 1431655765)))]) hx hb dJ6_bitCount_0f7a4_9 rfl hl (by decide) rfl (fun ls hl => ?_)
  refine lv_iload_n hx hb dJ6_bitCount_0f7a4_10 rfl (lv_at hl 0 rfl) ?_
  refine lv_ldcw (v := 858993459) hx hb X.1.2.2.2.1 (X.ht m_3_220) dJ6_bitCount_0f7a4_11 ?_
  refine lv_iand hx hb dJ6_bitCount_0f7a4_14 ?_
  refine lv_iload_n hx hb dJ6_bitCount_0f7a4_15 rfl (lv_at hl 0 rfl) ?_
  refine lv_iconst (v := 2) hx hb dJ6_bitCount_0f7a4_16 (by decide) ?_
  refine lv_iushr (v := (ush (i - ((ush i 1) &&& 1431655765)) 2)) hx hb dJ6_bitCount_0f7a4_17 rfl ?_
  refine lv_ldcw (v := 858993459) hx hb X.1.2.2.2.1 (X.ht m_3_220) dJ6_bitCount_0f7a4_18 ?_
  refine lv_iand hx hb dJ6_bitCount_0f7a4_21 ?_
  refine lv_iadd hx hb dJ6_bitCount_0f7a4_22 ?_
  refine lv_istore_n (lv' := [(0, .int (((i - ((ush i 1) &&& 1431655765)) &&& 858993459) + ((ush (i - ((ush i 1) &&& 1431655765)) 2) &&& 858993459)))]) hx hb dJ6_bitCount_0f7a4_23 rfl hl (by decide) rfl (fun ls hl => ?_)
  refine lv_iload_n hx hb dJ6_bitCount_0f7a4_24 rfl (lv_at hl 0 rfl) ?_
  refine lv_iload_n hx hb dJ6_bitCount_0f7a4_25 rfl (lv_at hl 0 rfl) ?_
  refine lv_iconst (v := 4) hx hb dJ6_bitCount_0f7a4_26 (by decide) ?_
  refine lv_iushr (v := (ush (((i - ((ush i 1) &&& 1431655765)) &&& 858993459) + ((ush (i - ((ush i 1) &&& 1431655765)) 2) &&& 858993459)) 4)) hx hb dJ6_bitCount_0f7a4_27 rfl ?_
  refine lv_iadd hx hb dJ6_bitCount_0f7a4_28 ?_
  refine lv_ldcw (v := 252645135) hx hb X.1.2.2.2.1 (X.ht m_3_221) dJ6_bitCount_0f7a4_29 ?_
  refine lv_iand hx hb dJ6_bitCount_0f7a4_32 ?_
  refine lv_istore_n (lv' := [(0, .int (((((i - ((ush i 1) &&& 1431655765)) &&& 858993459) + ((ush (i - ((ush i 1) &&& 1431655765)) 2) &&& 858993459)) + (ush (((i - ((ush i 1) &&& 1431655765)) &&& 858993459) + ((ush (i - ((ush i 1) &&& 1431655765)) 2) &&& 858993459)) 4)) &&& 252645135))]) hx hb dJ6_bitCount_0f7a4_33 rfl hl (by decide) rfl (fun ls hl => ?_)
  refine lv_iload_n hx hb dJ6_bitCount_0f7a4_34 rfl (lv_at hl 0 rfl) ?_
  refine lv_iload_n hx hb dJ6_bitCount_0f7a4_35 rfl (lv_at hl 0 rfl) ?_
  refine lv_bipush (v := 8) hx hb dJ6_bitCount_0f7a4_36 (by decide) ?_
  refine lv_iushr (v := (ush (((((i - ((ush i 1) &&& 1431655765)) &&& 858993459) + ((ush (i - ((ush i 1) &&& 1431655765)) 2) &&& 858993459)) + (ush (((i - ((ush i 1) &&& 1431655765)) &&& 858993459) + ((ush (i - ((ush i 1) &&& 1431655765)) 2) &&& 858993459)) 4)) &&& 252645135) 8)) hx hb dJ6_bitCount_0f7a4_38 rfl ?_
  refine lv_iadd hx hb dJ6_bitCount_0f7a4_39 ?_
  refine lv_istore_n (lv' := [(0, .int ((((((i - ((ush i 1) &&& 1431655765)) &&& 858993459) + ((ush (i - ((ush i 1) &&& 1431655765)) 2) &&& 858993459)) + (ush (((i - ((ush i 1) &&& 1431655765)) &&& 858993459) + ((ush (i - ((ush i 1) &&& 1431655765)) 2) &&& 858993459)) 4)) &&& 252645135) + (ush (((((i - ((ush i 1) &&& 1431655765)) &&& 858993459) + ((ush (i - ((ush i 1) &&& 1431655765)) 2) &&& 858993459)) + (ush (((i - ((ush i 1) &&& 1431655765)) &&& 858993459) + ((ush (i - ((ush i 1) &&& 1431655765)) 2) &&& 858993459)) 4)) &&& 252645135) 8)))]) hx hb dJ6_bitCount_0f7a4_40 rfl hl (by decide) rfl (fun ls hl => ?_)
  refine lv_iload_n hx hb dJ6_bitCount_0f7a4_41 rfl (lv_at hl 0 rfl) ?_
  refine lv_iload_n hx hb dJ6_bitCount_0f7a4_42 rfl (lv_at hl 0 rfl) ?_
  refine lv_bipush (v := 16) hx hb dJ6_bitCount_0f7a4_43 (by decide) ?_
  refine lv_iushr (v := (ush ((((((i - ((ush i 1) &&& 1431655765)) &&& 858993459) + ((ush (i - ((ush i 1) &&& 1431655765)) 2) &&& 858993459)) + (ush (((i - ((ush i 1) &&& 1431655765)) &&& 858993459) + ((ush (i - ((ush i 1) &&& 1431655765)) 2) &&& 858993459)) 4)) &&& 252645135) + (ush (((((i - ((ush i 1) &&& 1431655765)) &&& 858993459) + ((ush (i - ((ush i 1) &&& 1431655765)) 2) &&& 858993459)) + (ush (((i - ((ush i 1) &&& 1431655765)) &&& 858993459) + ((ush (i - ((ush i 1) &&& 1431655765)) 2) &&& 858993459)) 4)) &&& 252645135) 8)) 16)) hx hb dJ6_bitCount_0f7a4_45 rfl ?_
  refine lv_iadd hx hb dJ6_bitCount_0f7a4_46 ?_
  refine lv_istore_n (lv' := [(0, .int (((((((i - ((ush i 1) &&& 1431655765)) &&& 858993459) + ((ush (i - ((ush i 1) &&& 1431655765)) 2) &&& 858993459)) + (ush (((i - ((ush i 1) &&& 1431655765)) &&& 858993459) + ((ush (i - ((ush i 1) &&& 1431655765)) 2) &&& 858993459)) 4)) &&& 252645135) + (ush (((((i - ((ush i 1) &&& 1431655765)) &&& 858993459) + ((ush (i - ((ush i 1) &&& 1431655765)) 2) &&& 858993459)) + (ush (((i - ((ush i 1) &&& 1431655765)) &&& 858993459) + ((ush (i - ((ush i 1) &&& 1431655765)) 2) &&& 858993459)) 4)) &&& 252645135) 8)) + (ush ((((((i - ((ush i 1) &&& 1431655765)) &&& 858993459) + ((ush (i - ((ush i 1) &&& 1431655765)) 2) &&& 858993459)) + (ush (((i - ((ush i 1) &&& 1431655765)) &&& 858993459) + ((ush (i - ((ush i 1) &&& 1431655765)) 2) &&& 858993459)) 4)) &&& 252645135) + (ush (((((i - ((ush i 1) &&& 1431655765)) &&& 858993459) + ((ush (i - ((ush i 1) &&& 1431655765)) 2) &&& 858993459)) + (ush (((i - ((ush i 1) &&& 1431655765)) &&& 858993459) + ((ush (i - ((ush i 1) &&& 1431655765)) 2) &&& 858993459)) 4)) &&& 252645135) 8)) 16)))]) hx hb dJ6_bitCount_0f7a4_47 rfl hl (by decide) rfl (fun ls hl => ?_)
  refine lv_iload_n hx hb dJ6_bitCount_0f7a4_48 rfl (lv_at hl 0 rfl) ?_
  refine lv_bipush (v := 63) hx hb dJ6_bitCount_0f7a4_49 (by decide) ?_
  refine lv_iand hx hb dJ6_bitCount_0f7a4_51 ?_
  exact f_ir X hlk hr (v := ((((((((i - ((ush i 1) &&& 1431655765)) &&& 858993459) + ((ush (i - ((ush i 1) &&& 1431655765)) 2) &&& 858993459)) + (ush (((i - ((ush i 1) &&& 1431655765)) &&& 858993459) + ((ush (i - ((ush i 1) &&& 1431655765)) 2) &&& 858993459)) 4)) &&& 252645135) + (ush (((((i - ((ush i 1) &&& 1431655765)) &&& 858993459) + ((ush (i - ((ush i 1) &&& 1431655765)) 2) &&& 858993459)) + (ush (((i - ((ush i 1) &&& 1431655765)) &&& 858993459) + ((ush (i - ((ush i 1) &&& 1431655765)) 2) &&& 858993459)) 4)) &&& 252645135) 8)) + (ush ((((((i - ((ush i 1) &&& 1431655765)) &&& 858993459) + ((ush (i - ((ush i 1) &&& 1431655765)) 2) &&& 858993459)) + (ush (((i - ((ush i 1) &&& 1431655765)) &&& 858993459) + ((ush (i - ((ush i 1) &&& 1431655765)) 2) &&& 858993459)) 4)) &&& 252645135) + (ush (((((i - ((ush i 1) &&& 1431655765)) &&& 858993459) + ((ush (i - ((ush i 1) &&& 1431655765)) 2) &&& 858993459)) + (ush (((i - ((ush i 1) &&& 1431655765)) &&& 858993459) + ((ush (i - ((ush i 1) &&& 1431655765)) 2) &&& 858993459)) 4)) &&& 252645135) 8)) 16)) &&& 63)) rfl hP hS ⟨rfl, rfl⟩ dJ6_bitCount_0f7a4_52

set_option maxHeartbeats 4000000 in
set_option maxRecDepth 100000 in
theorem c_X1_gainBy (l : Launch) (E : fE) (M : Nat → Nat → Int32) (L : Nat → Nat → Int64) (g : Nat) (t : Nat) (w : Nat) (q : Int32) (f i : Nat) (hk_g : fsh g = 1) (hk_t : fsh t = 5) (hk_w : fsh w = 6) (hf : M t 1 = nI f) (hq : q = nI (f + i)) (hb : f + i < 1000) : Met l yX1_gainBy (wl yX1_gainBy cX1_gainBy 8 (some .int)) (fRm 2 43) (va_Pc [.ref (fad E g), .ref (fad E t), .ref (fad E w), .int q] (fPre E M L)) (fQi E (fun r u => u = (M, L) ∧ r = gainI (M t 1) (M t 2) (M t 3) (M t 4) (M w 1) (M w 2) (M w 3) (M w 4) (M g 5) q i)) 0 0 (fA E) := by
  refine f_head (by decide) (Nat.le_of_ble_eq_true rfl) ?_
  intro pg ev s mi below meth cd ls X hr hlk hP hS hl
  have hx := X.1.1
  have hb := X.1.2.1
  have hl : lv_has ls 8 [(0, .ref (fad E g)), (1, .ref (fad E t)), (2, .ref (fad E w)), (3, .int q)] := hl
  subst hq
  have hl : lv_has ls 8 [(0, .ref (fad E g)), (1, .ref (fad E t)), (2, .ref (fad E w)), (3, .int (nI (f + i)))] := hl
  refine lv_iconst (v := 0) hx hb dX1_gainBy_0 (by decide) ?_
  refine lv_istore (lv' := [(4, .int 0), (0, .ref (fad E g)), (1, .ref (fad E t)), (2, .ref (fad E w)), (3, .int (nI (f + i)))]) hx hb dX1_gainBy_1 hl (by decide) rfl (fun ls hl => ?_)
  refine lv_iconst (v := 0) hx hb dX1_gainBy_3 (by decide) ?_
  refine lv_istore (lv' := [(5, .int 0), (4, .int 0), (0, .ref (fad E g)), (1, .ref (fad E t)), (2, .ref (fad E w)), (3, .int (nI (f + i)))]) hx hb dX1_gainBy_4 hl (by decide) rfl (fun ls hl => ?_)
  refine lv_aload_n hx hb dX1_gainBy_6 rfl (lv_at hl 3 rfl) ?_
  refine f_get X hP (T := TX5) (ci := 5) (k := t) hk_t inX5 rfl 1 (by decide) m_1_45 rfl (v := .int (nI f)) (congrArg Value.int hf) dX1_gainBy_7 ?_
  refine lv_istore (lv' := [(6, .int (nI f)), (5, .int 0), (4, .int 0), (0, .ref (fad E g)), (1, .ref (fad E t)), (2, .ref (fad E w)), (3, .int (nI (f + i)))]) hx hb dX1_gainBy_10 hl (by decide) rfl (fun ls hl => ?_)
  refine f_loop (α := Nat × Int32) (fun (a : Nat × Int32) H locs ls => match a with | (k, pd) => fP E M L H ∧ va_S (fA E) s.heap H locs ∧ lv_has ls 8 [(6, .int (nI (f + k))), (5, .int pd), (4, .int (nI k)), (0, .ref (fad E g)), (1, .ref (fad E t)), (2, .ref (fad E w)), (3, .int (nI (f + i)))] ∧ (k ≤ i + 1) ∧ (pd = paidI (M w 1) (M w 2) (M w 3) (M w 4) (M g 5) k)) (fun (a : Nat × Int32) => match a with | (k, pd) => i + 1 - k) (pc0 := 12) (st := fun _ => []) ?_ (0, 0) _ _ _ ⟨hP, hS, lv_sub hl [0, 1, 2, 3, 4, 5, 6] rfl, (by omega), rfl⟩
  rintro ⟨k, pd⟩ H locs ls ⟨hP, hS, hl, ht, hpd⟩ ih_12
  refine lv_iload hx hb dX1_gainBy_12 (lv_at hl 0 rfl) ?_
  refine lv_iload_n hx hb dX1_gainBy_14 rfl (lv_at hl 6 rfl) ?_
  refine lv_icmp_gt (tgt := 42) hx hb dX1_gainBy_15 (by decide) (fun c_15 => ?_) (fun c_15 => ?_)
  · have c_15 := (nI_lt_iff (a := (f + i)) (b := (f + k)) (by omega) (by omega)).mp c_15
    obtain rfl : k = i + 1 := by omega
    refine lv_aload_n hx hb dX1_gainBy_42 rfl (lv_at hl 4 rfl) ?_
    refine lv_iload_n hx hb dX1_gainBy_43 rfl (lv_at hl 6 rfl) ?_
    refine f_iV (n := 1) X hP hS [.int (nI (f + i))] [] (c_X5_casesBy l E M L t (nI (f + i)) hk_t) m_3_145 wi_X5_casesBy hk_t rfl (by decide) (by decide +kernel) ⟨Nat.le_of_ble_eq_true rfl, Nat.le_of_ble_eq_true rfl⟩ rfl hl rfl (Nat.le_of_ble_eq_true rfl) ⟨Nat.zero_le _, Nat.zero_le _⟩ dX1_gainBy_44 (fun H locs hP hS => ?_)
    refine lv_istore (lv' := [(6, .int (byF (M t 1) (M t 2) (nI (f + i)))), (5, .int pd), (4, .int (nI (i + 1))), (0, .ref (fad E g)), (1, .ref (fad E t)), (2, .ref (fad E w)), (3, .int (nI (f + i)))]) hx hb dX1_gainBy_47 hl (by decide) rfl (fun ls hl => ?_)
    refine lv_aload_n hx hb dX1_gainBy_49 rfl (lv_at hl 4 rfl) ?_
    refine f_iV (n := 0) X hP hS [] [] (c_X5_cases l E M L t hk_t) m_3_146 wi_X5_cases hk_t rfl (by decide) (by decide +kernel) ⟨Nat.le_of_ble_eq_true rfl, Nat.le_of_ble_eq_true rfl⟩ rfl hl rfl (Nat.le_of_ble_eq_true rfl) ⟨Nat.zero_le _, Nat.zero_le _⟩ dX1_gainBy_50 (fun H locs hP hS => ?_)
    refine lv_iload hx hb dX1_gainBy_53 (lv_at hl 0 rfl) ?_
    refine lv_isub hx hb dX1_gainBy_55 ?_
    refine lv_istore (lv' := [(7, .int (((M t 2) - (M t 1) + 1 + (M t 3)) - (byF (M t 1) (M t 2) (nI (f + i))))), (6, .int (byF (M t 1) (M t 2) (nI (f + i)))), (5, .int pd), (4, .int (nI (i + 1))), (0, .ref (fad E g)), (1, .ref (fad E t)), (2, .ref (fad E w)), (3, .int (nI (f + i)))]) hx hb dX1_gainBy_56 hl (by decide) rfl (fun ls hl => ?_)
    refine lv_aload_n hx hb dX1_gainBy_58 rfl (lv_at hl 5 rfl) ?_
    refine f_get X hP (T := TX5) (ci := 5) (k := t) hk_t inX5 rfl 4 (by decide) m_1_51 rfl (v := .int (M t 4)) rfl dX1_gainBy_59 ?_
    refine lv_iload hx hb dX1_gainBy_62 (lv_at hl 1 rfl) ?_
    refine lv_imul hx hb dX1_gainBy_64 ?_
    refine lv_iload hx hb dX1_gainBy_65 (lv_at hl 2 rfl) ?_
    refine lv_isub hx hb dX1_gainBy_67 ?_
    refine lv_iload hx hb dX1_gainBy_68 (lv_at hl 0 rfl) ?_
    refine lv_aload_n hx hb dX1_gainBy_70 rfl (lv_at hl 6 rfl) ?_
    refine lv_iload hx hb dX1_gainBy_71 (lv_at hl 3 rfl) ?_
    refine lv_aload_n hx hb dX1_gainBy_73 rfl (lv_at hl 4 rfl) ?_
    refine f_get X hP (T := TX1) (ci := 1) (k := g) hk_g inX1 rfl 5 (by decide) m_1_120 rfl (v := .int (M g 5)) rfl dX1_gainBy_74 ?_
    refine f_iV (n := 2) X hP hS [.int (nI (i + 1)), .int (M g 5)] [.int (((M t 2) - (M t 1) + 1 + (M t 3)) - (byF (M t 1) (M t 2) (nI (f + i)))), .int (((M t 4) * (byF (M t 1) (M t 2) (nI (f + i)))) - pd)] (c_X6_wageFor l E M L w (nI (i + 1)) (M g 5) hk_w) m_3_144 wi_X6_wageFor hk_w rfl (by decide) (by decide +kernel) ⟨Nat.le_of_ble_eq_true rfl, Nat.le_of_ble_eq_true rfl⟩ rfl hl rfl (Nat.le_of_ble_eq_true rfl) ⟨Nat.zero_le _, Nat.zero_le _⟩ dX1_gainBy_77 (fun H locs hP hS => ?_)
    refine lv_imul hx hb dX1_gainBy_80 ?_
    refine lv_isub hx hb dX1_gainBy_81 ?_
    refine f_ir X hlk hr (v := ((((M t 4) * (byF (M t 1) (M t 2) (nI (f + i)))) - pd) - ((((M t 2) - (M t 1) + 1 + (M t 3)) - (byF (M t 1) (M t 2) (nI (f + i)))) * (wageF (M w 1) (M w 2) (M w 3) (M w 4) (M g 5) (nI (i + 1)))))) rfl hP hS ?_ dX1_gainBy_82
    refine ⟨rfl, ?_⟩; rw [hpd]; rfl
  · have c_15 := (not_congr (nI_lt_iff (a := (f + i)) (b := (f + k)) (by omega) (by omega))).mp c_15
    refine lv_iinc (v := (nI (k + 1))) (lv' := [(4, .int (nI (k + 1))), (6, .int (nI (f + k))), (5, .int pd), (0, .ref (fad E g)), (1, .ref (fad E t)), (2, .ref (fad E w)), (3, .int (nI (f + i)))]) hx hb dX1_gainBy_18 hl (k := 2) rfl (nI_1 _) (by decide) rfl (fun ls hl => ?_)
    refine lv_iload hx hb dX1_gainBy_21 (lv_at hl 2 rfl) ?_
    refine lv_aload_n hx hb dX1_gainBy_23 rfl (lv_at hl 5 rfl) ?_
    refine lv_iload hx hb dX1_gainBy_24 (lv_at hl 0 rfl) ?_
    refine lv_aload_n hx hb dX1_gainBy_26 rfl (lv_at hl 3 rfl) ?_
    refine f_get X hP (T := TX1) (ci := 1) (k := g) hk_g inX1 rfl 5 (by decide) m_1_120 rfl (v := .int (M g 5)) rfl dX1_gainBy_27 ?_
    refine f_iV (n := 2) X hP hS [.int (nI (k + 1)), .int (M g 5)] [.int pd] (c_X6_wageFor l E M L w (nI (k + 1)) (M g 5) hk_w) m_3_144 wi_X6_wageFor hk_w rfl (by decide) (by decide +kernel) ⟨Nat.le_of_ble_eq_true rfl, Nat.le_of_ble_eq_true rfl⟩ rfl hl rfl (Nat.le_of_ble_eq_true rfl) ⟨Nat.zero_le _, Nat.zero_le _⟩ dX1_gainBy_30 (fun H locs hP hS => ?_)
    refine lv_iadd hx hb dX1_gainBy_33 ?_
    refine lv_istore (lv' := [(5, .int (pd + (wageF (M w 1) (M w 2) (M w 3) (M w 4) (M g 5) (nI (k + 1))))), (4, .int (nI (k + 1))), (6, .int (nI (f + k))), (0, .ref (fad E g)), (1, .ref (fad E t)), (2, .ref (fad E w)), (3, .int (nI (f + i)))]) hx hb dX1_gainBy_34 hl (by decide) rfl (fun ls hl => ?_)
    refine lv_iinc (v := (nI (f + k + 1))) (lv' := [(6, .int (nI (f + k + 1))), (5, .int (pd + (wageF (M w 1) (M w 2) (M w 3) (M w 4) (M g 5) (nI (k + 1))))), (4, .int (nI (k + 1))), (0, .ref (fad E g)), (1, .ref (fad E t)), (2, .ref (fad E w)), (3, .int (nI (f + i)))]) hx hb dX1_gainBy_36 hl (k := 2) rfl (nI_1 _) (by decide) rfl (fun ls hl => ?_)
    refine lv_goto (tgt := 12) hx hb dX1_gainBy_39 (by decide) ?_
    exact ih_12 ((k + 1), (pd + (wageF (M w 1) (M w 2) (M w 3) (M w 4) (M g 5) (nI (k + 1))))) _ _ _ (by show i + 1 - (k + 1) < i + 1 - k; omega) ⟨hP, hS, lv_sub hl [0, 1, 2, 3, 4, 5, 6] rfl, (by omega), (by rw [hpd]; rfl)⟩

set_option maxHeartbeats 4000000 in
set_option maxRecDepth 100000 in
theorem c_X1_stopQuarter (l : Launch) (E : fE) (M : Nat → Nat → Int32) (L : Nat → Nat → Int64) (g : Nat) (t : Nat) (w : Nat) (hk_g : fsh g = 1) (hk_t : fsh t = 5) (hk_w : fsh w = 6) (hT : okT M t) (hW : okW M w) (hH : 0 ≤ M g 5 ∧ M g 5 ≤ 9) : Met l yX1_stopQuarter (wl yX1_stopQuarter cX1_stopQuarter 8 (some .int)) (fRm 3 70) (va_Pc [.ref (fad E g), .ref (fad E t), .ref (fad E w)] (fPre E M L)) (fQi E (fun r u => u = (M, L) ∧ r = (stopI (M t 1) (M t 2) (M t 3) (M t 4) (M w 1) (M w 2) (M w 3) (M w 4) (M g 5)).2)) 0 0 (fA E) := by
  refine f_head (by decide) (Nat.le_of_ble_eq_true rfl) ?_
  intro pg ev s mi below meth cd ls X hr hlk hP hS hl
  have hx := X.1.1
  have hb := X.1.2.1
  have hl : lv_has ls 8 [(0, .ref (fad E g)), (1, .ref (fad E t)), (2, .ref (fad E w))] := hl
  obtain ⟨f, hf, ef⟩ := i_le 23 hT.2.1.1 (Int32.le_trans hT.2.1.2.1 hT.2.1.2.2) (by decide)
  obtain ⟨l0, hl0, el⟩ := i_le 23 (Int32.le_trans hT.2.1.1 hT.2.1.2.1) hT.2.1.2.2 (by decide)
  obtain ⟨h0, hh0, eh⟩ := i_le 24 (holdF_rg (kd := M w 1) hW.2.1 hW.2.2.2.1 hH).1 (holdF_rg hW.2.1 hW.2.2.2.1 hH).2 (by decide)
  have hst : stepsI (M t 1) (M t 2) (holdF (M w 1) (M w 2) (M w 4) (M g 5)) = min (l0 + 1 - f) h0 := by unfold stepsI; rw [ef, el, eh, nI_clamp (by omega), nI_clamp (by omega), nI_clamp (by omega)]
  have hfn : (M t 1).toNatClampNeg = f := by rw [ef, nI_clamp (by omega)]
  refine lv_aload_n hx hb dX1_stopQuarter_0 rfl (lv_at hl 1 rfl) ?_
  refine f_get X hP (T := TX5) (ci := 5) (k := t) hk_t inX5 rfl 2 (by decide) m_1_47 rfl (v := .int (nI l0)) (congrArg Value.int el) dX1_stopQuarter_1 ?_
  refine lv_aload_n hx hb dX1_stopQuarter_4 rfl (lv_at hl 1 rfl) ?_
  refine f_get X hP (T := TX5) (ci := 5) (k := t) hk_t inX5 rfl 1 (by decide) m_1_45 rfl (v := .int (nI f)) (congrArg Value.int ef) dX1_stopQuarter_5 ?_
  refine lv_aload_n hx hb dX1_stopQuarter_8 rfl (lv_at hl 2 rfl) ?_
  refine lv_aload_n hx hb dX1_stopQuarter_9 rfl (lv_at hl 0 rfl) ?_
  refine f_get X hP (T := TX1) (ci := 1) (k := g) hk_g inX1 rfl 5 (by decide) m_1_120 rfl (v := .int (M g 5)) rfl dX1_stopQuarter_10 ?_
  refine f_iV (n := 1) X hP hS [.int (M g 5)] [.int (nI f), .int (nI l0)] (c_X6_quartersHeld l E M L w (M g 5) hk_w) m_3_138 wi_X6_quartersHeld hk_w rfl (by decide) (by decide +kernel) ⟨Nat.le_of_ble_eq_true rfl, Nat.le_of_ble_eq_true rfl⟩ rfl hl rfl (Nat.le_of_ble_eq_true rfl) ⟨Nat.zero_le _, Nat.zero_le _⟩ dX1_stopQuarter_13 (fun H locs hP hS => ?_)
  refine f_topI (v := (nI h0)) eh ?_
  refine lv_iadd hx hb dX1_stopQuarter_16 ?_
  refine f_topI (nI_add f h0) ?_
  refine lv_iconst (v := 1) hx hb dX1_stopQuarter_17 (by decide) ?_
  refine lv_isub hx hb dX1_stopQuarter_18 ?_
  refine va_mmin hx hb (X.1.2.2.1.trans hl.1.symm) X.1.2.2.2.1 (X.ht m_3_139) (X.ht m_2_194) (X.ht m_1_11) (X.ht m_2_195) (Nat.le_of_ble_eq_true rfl) (Nat.le_of_ble_eq_true rfl) (Nat.zero_le _) (Nat.zero_le _) dX1_stopQuarter_19 ?_
  refine lv_istore_n (lv' := [(3, .int (if ((nI (f + h0)) - 1) < (nI l0) then ((nI (f + h0)) - 1) else (nI l0))), (0, .ref (fad E g)), (1, .ref (fad E t)), (2, .ref (fad E w))]) hx hb dX1_stopQuarter_22 rfl hl (by decide) rfl (fun ls hl => ?_)
  obtain ⟨en, h_en⟩ : ∃ z, z = ((if ((nI (f + h0)) - 1) < (nI l0) then ((nI (f + h0)) - 1) else (nI l0)) : Int32) := ⟨_, rfl⟩
  rw [← h_en] at hl
  refine lv_iconst (v := (-1)) hx hb dX1_stopQuarter_23 (by decide) ?_
  refine lv_istore (lv' := [(4, .int (-1)), (3, .int en), (0, .ref (fad E g)), (1, .ref (fad E t)), (2, .ref (fad E w))]) hx hb dX1_stopQuarter_24 hl (by decide) rfl (fun ls hl => ?_)
  refine lv_iconst (v := 0) hx hb dX1_stopQuarter_26 (by decide) ?_
  refine lv_istore (lv' := [(5, .int 0), (4, .int (-1)), (3, .int en), (0, .ref (fad E g)), (1, .ref (fad E t)), (2, .ref (fad E w))]) hx hb dX1_stopQuarter_27 hl (by decide) rfl (fun ls hl => ?_)
  refine lv_aload_n hx hb dX1_stopQuarter_29 rfl (lv_at hl 4 rfl) ?_
  refine f_get X hP (T := TX5) (ci := 5) (k := t) hk_t inX5 rfl 1 (by decide) m_1_45 rfl (v := .int (nI f)) (congrArg Value.int ef) dX1_stopQuarter_30 ?_
  refine lv_istore (lv' := [(6, .int (nI f)), (5, .int 0), (4, .int (-1)), (3, .int en), (0, .ref (fad E g)), (1, .ref (fad E t)), (2, .ref (fad E w))]) hx hb dX1_stopQuarter_33 hl (by decide) rfl (fun ls hl => ?_)
  refine f_loop (α := Nat × Int32 × Int32) (fun (a : Nat × Int32 × Int32) H locs ls => match a with | (i, st, mo) => fP E M L H ∧ va_S (fA E) s.heap H locs ∧ lv_has ls 8 [(6, .int (nI (f + i))), (5, .int mo), (4, .int st), (3, .int en), (0, .ref (fad E g)), (1, .ref (fad E t)), (2, .ref (fad E w))] ∧ (i ≤ min (l0 + 1 - f) h0) ∧ ((mo, st) = bestI (fun i => gainI (M t 1) (M t 2) (M t 3) (M t 4) (M w 1) (M w 2) (M w 3) (M w 4) (M g 5) (nI (f + i)) i) (fun i => nI (f + i)) (-1) i)) (fun (a : Nat × Int32 × Int32) => match a with | (i, st, mo) => min (l0 + 1 - f) h0 - i) (pc0 := 35) (st := fun _ => []) ?_ (0, (-1), 0) _ _ _ ⟨hP, hS, lv_sub hl [0, 1, 2, 3, 4, 5, 6] rfl, (by omega), rfl⟩
  rintro ⟨i, st, mo⟩ H locs ls ⟨hP, hS, hl, ht, hbt⟩ ih_35
  refine lv_iload hx hb dX1_stopQuarter_35 (lv_at hl 0 rfl) ?_
  refine lv_iload_n hx hb dX1_stopQuarter_37 rfl (lv_at hl 3 rfl) ?_
  refine lv_icmp_gt (tgt := 72) hx hb dX1_stopQuarter_38 (by decide) (fun c_38 => ?_) (fun c_38 => ?_)
  · have c_38 := (stp_iff (i := i) (by omega) (by omega) (by omega) (by omega)).mp (h_en ▸ c_38)
    refine lv_iload hx hb dX1_stopQuarter_72 (lv_at hl 2 rfl) ?_
    refine f_ir X hlk hr (v := st) rfl hP hS ?_ dX1_stopQuarter_74
    refine ⟨rfl, ?_⟩; unfold stopI; rw [hst, hfn, show min (l0 + 1 - f) h0 = i from by omega, ← hbt]
  · have c_38 : i < min (l0 + 1 - f) h0 := Decidable.not_not.mp (fun z => c_38 (h_en ▸ (stp_iff (by omega) (by omega) (by omega) (by omega)).mpr z))
    refine lv_aload_n hx hb dX1_stopQuarter_41 rfl (lv_at hl 4 rfl) ?_
    refine lv_aload_n hx hb dX1_stopQuarter_42 rfl (lv_at hl 5 rfl) ?_
    refine lv_aload_n hx hb dX1_stopQuarter_43 rfl (lv_at hl 6 rfl) ?_
    refine lv_iload hx hb dX1_stopQuarter_44 (lv_at hl 0 rfl) ?_
    refine f_iV (n := 3) X hP hS [.ref (fad E t), .ref (fad E w), .int (nI (f + i))] [] (c_X1_gainBy l E M L g t w (nI (f + i)) f i hk_g hk_t hk_w ef rfl (by omega)) m_3_140 wi_X1_gainBy hk_g rfl (by decide) (by decide +kernel) ⟨Nat.le_of_ble_eq_true rfl, Nat.le_of_ble_eq_true rfl⟩ rfl hl rfl (Nat.le_of_ble_eq_true rfl) ⟨Nat.zero_le _, Nat.zero_le _⟩ dX1_stopQuarter_46 (fun H locs hP hS => ?_)
    refine lv_istore (lv' := [(7, .int (gainI (M t 1) (M t 2) (M t 3) (M t 4) (M w 1) (M w 2) (M w 3) (M w 4) (M g 5) (nI (f + i)) i)), (6, .int (nI (f + i))), (5, .int mo), (4, .int st), (3, .int en), (0, .ref (fad E g)), (1, .ref (fad E t)), (2, .ref (fad E w))]) hx hb dX1_stopQuarter_49 hl (by decide) rfl (fun ls hl => ?_)
    refine lv_iload hx hb dX1_stopQuarter_51 (lv_at hl 0 rfl) ?_
    refine lv_iload hx hb dX1_stopQuarter_53 (lv_at hl 2 rfl) ?_
    refine lv_icmp_le (tgt := 66) hx hb dX1_stopQuarter_55 (by decide) (fun c_55 => ?_) (fun c_55 => ?_)
    · refine lv_iinc (v := (nI (f + i + 1))) (lv' := [(6, .int (nI (f + i + 1))), (7, .int (gainI (M t 1) (M t 2) (M t 3) (M t 4) (M w 1) (M w 2) (M w 3) (M w 4) (M g 5) (nI (f + i)) i)), (5, .int mo), (4, .int st), (3, .int en), (0, .ref (fad E g)), (1, .ref (fad E t)), (2, .ref (fad E w))]) hx hb dX1_stopQuarter_66 hl (k := 1) rfl (nI_1 _) (by decide) rfl (fun ls hl => ?_)
      refine lv_goto (tgt := 35) hx hb dX1_stopQuarter_69 (by decide) ?_
      exact ih_35 ((i + 1), st, mo) _ _ _ (by show min (l0 + 1 - f) h0 - (i + 1) < min (l0 + 1 - f) h0 - i; omega) ⟨hP, hS, lv_sub hl [0, 2, 3, 4, 5, 6, 7] rfl, (by omega), (by show (_, _) = bestI _ _ _ (_ + 1); unfold bestI; rw [itF_s]; unfold bestI at hbt; rw [← hbt]; first | exact (if_pos c_55).symm | exact (if_neg c_55).symm)⟩
    · refine lv_iload hx hb dX1_stopQuarter_58 (lv_at hl 0 rfl) ?_
      refine lv_istore (lv' := [(5, .int (gainI (M t 1) (M t 2) (M t 3) (M t 4) (M w 1) (M w 2) (M w 3) (M w 4) (M g 5) (nI (f + i)) i)), (7, .int (gainI (M t 1) (M t 2) (M t 3) (M t 4) (M w 1) (M w 2) (M w 3) (M w 4) (M g 5) (nI (f + i)) i)), (6, .int (nI (f + i))), (4, .int st), (3, .int en), (0, .ref (fad E g)), (1, .ref (fad E t)), (2, .ref (fad E w))]) hx hb dX1_stopQuarter_60 hl (by decide) rfl (fun ls hl => ?_)
      refine lv_iload hx hb dX1_stopQuarter_62 (lv_at hl 2 rfl) ?_
      refine lv_istore (lv' := [(4, .int (nI (f + i))), (5, .int (gainI (M t 1) (M t 2) (M t 3) (M t 4) (M w 1) (M w 2) (M w 3) (M w 4) (M g 5) (nI (f + i)) i)), (7, .int (gainI (M t 1) (M t 2) (M t 3) (M t 4) (M w 1) (M w 2) (M w 3) (M w 4) (M g 5) (nI (f + i)) i)), (6, .int (nI (f + i))), (3, .int en), (0, .ref (fad E g)), (1, .ref (fad E t)), (2, .ref (fad E w))]) hx hb dX1_stopQuarter_64 hl (by decide) rfl (fun ls hl => ?_)
      refine lv_iinc (v := (nI (f + i + 1))) (lv' := [(6, .int (nI (f + i + 1))), (4, .int (nI (f + i))), (5, .int (gainI (M t 1) (M t 2) (M t 3) (M t 4) (M w 1) (M w 2) (M w 3) (M w 4) (M g 5) (nI (f + i)) i)), (7, .int (gainI (M t 1) (M t 2) (M t 3) (M t 4) (M w 1) (M w 2) (M w 3) (M w 4) (M g 5) (nI (f + i)) i)), (3, .int en), (0, .ref (fad E g)), (1, .ref (fad E t)), (2, .ref (fad E w))]) hx hb dX1_stopQuarter_66 hl (k := 3) rfl (nI_1 _) (by decide) rfl (fun ls hl => ?_)
      refine lv_goto (tgt := 35) hx hb dX1_stopQuarter_69 (by decide) ?_
      exact ih_35 ((i + 1), (nI (f + i)), (gainI (M t 1) (M t 2) (M t 3) (M t 4) (M w 1) (M w 2) (M w 3) (M w 4) (M g 5) (nI (f + i)) i)) _ _ _ (by show min (l0 + 1 - f) h0 - (i + 1) < min (l0 + 1 - f) h0 - i; omega) ⟨hP, hS, lv_sub hl [0, 2, 1, 4, 5, 6, 7] rfl, (by omega), (by show (_, _) = bestI _ _ _ (_ + 1); unfold bestI; rw [itF_s]; unfold bestI at hbt; rw [← hbt]; first | exact (if_pos c_55).symm | exact (if_neg c_55).symm)⟩

set_option maxHeartbeats 4000000 in
set_option maxRecDepth 100000 in
theorem c_X1_bestGain (l : Launch) (E : fE) (M : Nat → Nat → Int32) (L : Nat → Nat → Int64) (g : Nat) (t : Nat) (w : Nat) (hk_g : fsh g = 1) (hk_t : fsh t = 5) (hk_w : fsh w = 6) (hT : okT M t) (hW : okW M w) (hH : 0 ≤ M g 5 ∧ M g 5 ≤ 9) : Met l yX1_bestGain (wl yX1_bestGain cX1_bestGain 4 (some .int)) (fRm 4 97) (va_Pc [.ref (fad E g), .ref (fad E t), .ref (fad E w)] (fPre E M L)) (fQi E (fun r u => u = (M, L) ∧ r = (stopI (M t 1) (M t 2) (M t 3) (M t 4) (M w 1) (M w 2) (M w 3) (M w 4) (M g 5)).1)) 0 0 (fA E) := by
  refine f_head (by decide) (Nat.le_of_ble_eq_true rfl) ?_
  intro pg ev s mi below meth cd ls X hr hlk hP hS hl
  have hx := X.1.1
  have hb := X.1.2.1
  have hl : lv_has ls 4 [(0, .ref (fad E g)), (1, .ref (fad E t)), (2, .ref (fad E w))] := hl
  obtain ⟨f, hf, ef⟩ := i_le 23 hT.2.1.1 (Int32.le_trans hT.2.1.2.1 hT.2.1.2.2) (by decide)
  have hfn : (M t 1).toNatClampNeg = f := by rw [ef, nI_clamp (by omega)]
  obtain ⟨h0, hh0, eh⟩ := i_le 24 (holdF_rg (kd := M w 1) hW.2.1 hW.2.2.2.1 hH).1 (holdF_rg hW.2.1 hW.2.2.2.1 hH).2 (by decide)
  have hhn : (holdF (M w 1) (M w 2) (M w 4) (M g 5)).toNatClampNeg = h0 := by rw [eh, nI_clamp (by omega)]
  refine lv_aload_n hx hb dX1_bestGain_0 rfl (lv_at hl 0 rfl) ?_
  refine lv_aload_n hx hb dX1_bestGain_1 rfl (lv_at hl 1 rfl) ?_
  refine lv_aload_n hx hb dX1_bestGain_2 rfl (lv_at hl 2 rfl) ?_
  refine f_iV (n := 2) X hP hS [.ref (fad E t), .ref (fad E w)] [] (c_X1_stopQuarter l E M L g t w hk_g hk_t hk_w hT hW hH) m_3_151 wi_X1_stopQuarter hk_g rfl (by decide) (by decide +kernel) ⟨Nat.le_of_ble_eq_true rfl, Nat.le_of_ble_eq_true rfl⟩ rfl hl rfl (Nat.le_of_ble_eq_true rfl) ⟨Nat.zero_le _, Nat.zero_le _⟩ dX1_bestGain_3 (fun H locs hP hS => ?_)
  refine lv_istore_n (lv' := [(3, .int ((stopI (M t 1) (M t 2) (M t 3) (M t 4) (M w 1) (M w 2) (M w 3) (M w 4) (M g 5)).2)), (0, .ref (fad E g)), (1, .ref (fad E t)), (2, .ref (fad E w))]) hx hb dX1_bestGain_6 rfl hl (by decide) rfl (fun ls hl => ?_)
  refine lv_iload_n hx hb dX1_bestGain_7 rfl (lv_at hl 0 rfl) ?_
  refine lv_iconst (v := (-1)) hx hb dX1_bestGain_8 (by decide) ?_
  refine lv_icmp_ne (tgt := 16) hx hb dX1_bestGain_9 (by decide) (fun c_9 => ?_) (fun c_9 => ?_)
  · obtain ⟨i0, hi0, e1, e2⟩ := stopI_some c_9
    have hi1 : i0 ≤ 24 := by unfold stepsI at hi0; omega
    refine lv_aload_n hx hb dX1_bestGain_16 rfl (lv_at hl 1 rfl) ?_
    refine lv_aload_n hx hb dX1_bestGain_17 rfl (lv_at hl 2 rfl) ?_
    refine lv_aload_n hx hb dX1_bestGain_18 rfl (lv_at hl 3 rfl) ?_
    refine lv_iload_n hx hb dX1_bestGain_19 rfl (lv_at hl 0 rfl) ?_
    refine f_iV (n := 3) X hP hS [.ref (fad E t), .ref (fad E w), .int ((stopI (M t 1) (M t 2) (M t 3) (M t 4) (M w 1) (M w 2) (M w 3) (M w 4) (M g 5)).2)] [] (c_X1_gainBy l E M L g t w ((stopI (M t 1) (M t 2) (M t 3) (M t 4) (M w 1) (M w 2) (M w 3) (M w 4) (M g 5)).2) f i0 hk_g hk_t hk_w ef (by rw [e1, hfn]) (by omega)) m_3_140 wi_X1_gainBy hk_g rfl (by decide) (by decide +kernel) ⟨Nat.le_of_ble_eq_true rfl, Nat.le_of_ble_eq_true rfl⟩ rfl hl rfl (Nat.le_of_ble_eq_true rfl) ⟨Nat.zero_le _, Nat.zero_le _⟩ dX1_bestGain_20 (fun H locs hP hS => ?_)
    refine f_ir X hlk hr (v := (gainI (M t 1) (M t 2) (M t 3) (M t 4) (M w 1) (M w 2) (M w 3) (M w 4) (M g 5) ((stopI (M t 1) (M t 2) (M t 3) (M t 4) (M w 1) (M w 2) (M w 3) (M w 4) (M g 5)).2) i0)) rfl hP hS ?_ dX1_bestGain_23
    refine ⟨rfl, ?_⟩; rw [e2, e1]
  · refine lv_iconst (v := 0) hx hb dX1_bestGain_12 (by decide) ?_
    refine lv_goto (tgt := 23) hx hb dX1_bestGain_13 (by decide) ?_
    refine f_ir X hlk hr (v := 0) rfl hP hS ?_ dX1_bestGain_23
    exact ⟨rfl, (stopI_none (by omega) (by omega) c_9).symm⟩

set_option maxHeartbeats 4000000 in
set_option maxRecDepth 100000 in
theorem c_X1_bestWaiter (l : Launch) (E : fE) (M : Nat → Nat → Int32) (L : Nat → Nat → Int64) (g : Nat) (t : Nat) (wc : Nat) (hk_g : fsh g = 1) (hk_t : fsh t = 5) (hwc : M g 4 = nI wc) (hwc6 : wc ≤ 6) (hT : okT M t) (hWs : ∀ w, w < 6 → okW M (g + 12 + w)) (hH : 0 ≤ M g 5 ∧ M g 5 ≤ 9) : Met l yX1_bestWaiter (wl yX1_bestWaiter cX1_bestWaiter 6 (some .int)) (fRm 5 120) (va_Pc [.ref (fad E g), .ref (fad E t)] (fPre E M L)) (fQi E (fun r u => u = (M, L) ∧ r = (bestI (fun w => (stopI (M t 1) (M t 2) (M t 3) (M t 4) (M (g + 12 + w) 1) (M (g + 12 + w) 2) (M (g + 12 + w) 3) (M (g + 12 + w) 4) (M g 5)).1) nI (-1) wc).2)) 0 0 (fA E) := by
  refine f_head (by decide) (Nat.le_of_ble_eq_true rfl) ?_
  intro pg ev s mi below meth cd ls X hr hlk hP hS hl
  have hx := X.1.1
  have hb := X.1.2.1
  have hl : lv_has ls 6 [(0, .ref (fad E g)), (1, .ref (fad E t))] := hl
  refine lv_iconst (v := (-1)) hx hb dX1_bestWaiter_0 (by decide) ?_
  refine lv_istore_n (lv' := [(2, .int (-1)), (0, .ref (fad E g)), (1, .ref (fad E t))]) hx hb dX1_bestWaiter_1 rfl hl (by decide) rfl (fun ls hl => ?_)
  refine lv_iconst (v := 0) hx hb dX1_bestWaiter_2 (by decide) ?_
  refine lv_istore_n (lv' := [(3, .int 0), (2, .int (-1)), (0, .ref (fad E g)), (1, .ref (fad E t))]) hx hb dX1_bestWaiter_3 rfl hl (by decide) rfl (fun ls hl => ?_)
  refine lv_iconst (v := 0) hx hb dX1_bestWaiter_4 (by decide) ?_
  refine lv_istore (lv' := [(4, .int 0), (3, .int 0), (2, .int (-1)), (0, .ref (fad E g)), (1, .ref (fad E t))]) hx hb dX1_bestWaiter_5 hl (by decide) rfl (fun ls hl => ?_)
  refine f_loop (α := Nat × Int32 × Int32) (fun (a : Nat × Int32 × Int32) H locs ls => match a with | (w, ch, mo) => fP E M L H ∧ va_S (fA E) s.heap H locs ∧ lv_has ls 6 [(4, .int (nI w)), (3, .int mo), (2, .int ch), (0, .ref (fad E g)), (1, .ref (fad E t))] ∧ (w ≤ wc) ∧ ((mo, ch) = bestI (fun w => (stopI (M t 1) (M t 2) (M t 3) (M t 4) (M (g + 12 + w) 1) (M (g + 12 + w) 2) (M (g + 12 + w) 3) (M (g + 12 + w) 4) (M g 5)).1) nI (-1) w)) (fun (a : Nat × Int32 × Int32) => match a with | (w, ch, mo) => wc - w) (pc0 := 7) (st := fun _ => []) ?_ (0, (-1), 0) _ _ _ ⟨hP, hS, lv_sub hl [0, 1, 2, 3, 4] rfl, (by omega), rfl⟩
  rintro ⟨w, ch, mo⟩ H locs ls ⟨hP, hS, hl, ht, hbt⟩ ih_7
  refine lv_iload hx hb dX1_bestWaiter_7 (lv_at hl 0 rfl) ?_
  refine lv_aload_n hx hb dX1_bestWaiter_9 rfl (lv_at hl 3 rfl) ?_
  refine f_get X hP (T := TX1) (ci := 1) (k := g) hk_g inX1 rfl 4 (by decide) m_1_116 rfl (v := .int (nI wc)) (congrArg Value.int hwc) dX1_bestWaiter_10 ?_
  refine lv_icmp_ge (tgt := 48) hx hb dX1_bestWaiter_13 (by decide) (fun c_13 => ?_) (fun c_13 => ?_)
  · have c_13 := (nI_le_iff (a := wc) (b := w) (by omega) (by omega)).mp c_13
    refine lv_iload_n hx hb dX1_bestWaiter_48 rfl (lv_at hl 2 rfl) ?_
    refine f_ir X hlk hr (v := ch) rfl hP hS ?_ dX1_bestWaiter_49
    refine ⟨rfl, ?_⟩; rw [show w = wc from by omega] at hbt; rw [← hbt]
  · have c_13 := (not_congr (nI_le_iff (a := wc) (b := w) (by omega) (by omega))).mp c_13
    refine lv_aload_n hx hb dX1_bestWaiter_16 rfl (lv_at hl 3 rfl) ?_
    refine lv_aload_n hx hb dX1_bestWaiter_17 rfl (lv_at hl 4 rfl) ?_
    refine lv_aload_n hx hb dX1_bestWaiter_18 rfl (lv_at hl 3 rfl) ?_
    refine f_get X hP (T := TX1) (ci := 1) (k := g) hk_g inX1 rfl 1 (by decide) m_1_109 rfl (v := .ref (fad E (g + 2))) rfl dX1_bestWaiter_19 ?_
    refine lv_iload hx hb dX1_bestWaiter_22 (lv_at hl 0 rfl) ?_
    refine f_aald X hP (t := 13) (d := 10) (n := 6) (r := w) (sh_g2 hk_g) (ln_g2 hk_g) (.inr (.inr (.inl ⟨rfl, rfl⟩))) (fIx_nI (by omega) (by decide)) (g + 12 + w) (by omega) dX1_bestWaiter_24 ?_
    refine f_iV (n := 2) X hP hS [.ref (fad E t), .ref (fad E (g + 12 + w))] [] (c_X1_bestGain l E M L g t (g + 12 + w) hk_g hk_t (sh_gw hk_g (by omega)) hT (hWs w (by omega)) hH) m_3_160 wi_X1_bestGain hk_g rfl (by decide) (by decide +kernel) ⟨Nat.le_of_ble_eq_true rfl, Nat.le_of_ble_eq_true rfl⟩ rfl hl rfl (Nat.le_of_ble_eq_true rfl) ⟨Nat.zero_le _, Nat.zero_le _⟩ dX1_bestWaiter_25 (fun H locs hP hS => ?_)
    refine lv_istore (lv' := [(5, .int ((stopI (M t 1) (M t 2) (M t 3) (M t 4) (M (g + 12 + w) 1) (M (g + 12 + w) 2) (M (g + 12 + w) 3) (M (g + 12 + w) 4) (M g 5)).1)), (4, .int (nI w)), (3, .int mo), (2, .int ch), (0, .ref (fad E g)), (1, .ref (fad E t))]) hx hb dX1_bestWaiter_28 hl (by decide) rfl (fun ls hl => ?_)
    refine lv_iload hx hb dX1_bestWaiter_30 (lv_at hl 0 rfl) ?_
    refine lv_iload_n hx hb dX1_bestWaiter_32 rfl (lv_at hl 2 rfl) ?_
    refine lv_icmp_le (tgt := 42) hx hb dX1_bestWaiter_33 (by decide) (fun c_33 => ?_) (fun c_33 => ?_)
    · refine lv_iinc (v := (nI (w + 1))) (lv' := [(4, .int (nI (w + 1))), (5, .int ((stopI (M t 1) (M t 2) (M t 3) (M t 4) (M (g + 12 + w) 1) (M (g + 12 + w) 2) (M (g + 12 + w) 3) (M (g + 12 + w) 4) (M g 5)).1)), (3, .int mo), (2, .int ch), (0, .ref (fad E g)), (1, .ref (fad E t))]) hx hb dX1_bestWaiter_42 hl (k := 1) rfl (nI_1 _) (by decide) rfl (fun ls hl => ?_)
      refine lv_goto (tgt := 7) hx hb dX1_bestWaiter_45 (by decide) ?_
      exact ih_7 ((w + 1), ch, mo) _ _ _ (by show wc - (w + 1) < wc - w; omega) ⟨hP, hS, lv_sub hl [0, 2, 3, 4, 5] rfl, (by omega), (by show (_, _) = bestI _ _ _ (_ + 1); unfold bestI; rw [itF_s]; unfold bestI at hbt; rw [← hbt]; first | exact (if_pos c_33).symm | exact (if_neg c_33).symm)⟩
    · refine lv_iload hx hb dX1_bestWaiter_36 (lv_at hl 0 rfl) ?_
      refine lv_istore_n (lv' := [(3, .int ((stopI (M t 1) (M t 2) (M t 3) (M t 4) (M (g + 12 + w) 1) (M (g + 12 + w) 2) (M (g + 12 + w) 3) (M (g + 12 + w) 4) (M g 5)).1)), (5, .int ((stopI (M t 1) (M t 2) (M t 3) (M t 4) (M (g + 12 + w) 1) (M (g + 12 + w) 2) (M (g + 12 + w) 3) (M (g + 12 + w) 4) (M g 5)).1)), (4, .int (nI w)), (2, .int ch), (0, .ref (fad E g)), (1, .ref (fad E t))]) hx hb dX1_bestWaiter_38 rfl hl (by decide) rfl (fun ls hl => ?_)
      refine lv_iload hx hb dX1_bestWaiter_39 (lv_at hl 2 rfl) ?_
      refine lv_istore_n (lv' := [(2, .int (nI w)), (3, .int ((stopI (M t 1) (M t 2) (M t 3) (M t 4) (M (g + 12 + w) 1) (M (g + 12 + w) 2) (M (g + 12 + w) 3) (M (g + 12 + w) 4) (M g 5)).1)), (5, .int ((stopI (M t 1) (M t 2) (M t 3) (M t 4) (M (g + 12 + w) 1) (M (g + 12 + w) 2) (M (g + 12 + w) 3) (M (g + 12 + w) 4) (M g 5)).1)), (4, .int (nI w)), (0, .ref (fad E g)), (1, .ref (fad E t))]) hx hb dX1_bestWaiter_41 rfl hl (by decide) rfl (fun ls hl => ?_)
      refine lv_iinc (v := (nI (w + 1))) (lv' := [(4, .int (nI (w + 1))), (2, .int (nI w)), (3, .int ((stopI (M t 1) (M t 2) (M t 3) (M t 4) (M (g + 12 + w) 1) (M (g + 12 + w) 2) (M (g + 12 + w) 3) (M (g + 12 + w) 4) (M g 5)).1)), (5, .int ((stopI (M t 1) (M t 2) (M t 3) (M t 4) (M (g + 12 + w) 1) (M (g + 12 + w) 2) (M (g + 12 + w) 3) (M (g + 12 + w) 4) (M g 5)).1)), (0, .ref (fad E g)), (1, .ref (fad E t))]) hx hb dX1_bestWaiter_42 hl (k := 3) rfl (nI_1 _) (by decide) rfl (fun ls hl => ?_)
      refine lv_goto (tgt := 7) hx hb dX1_bestWaiter_45 (by decide) ?_
      exact ih_7 ((w + 1), (nI w), ((stopI (M t 1) (M t 2) (M t 3) (M t 4) (M (g + 12 + w) 1) (M (g + 12 + w) 2) (M (g + 12 + w) 3) (M (g + 12 + w) 4) (M g 5)).1)) _ _ _ (by show wc - (w + 1) < wc - w; omega) ⟨hP, hS, lv_sub hl [0, 2, 1, 4, 5] rfl, (by omega), (by show (_, _) = bestI _ _ _ (_ + 1); unfold bestI; rw [itF_s]; unfold bestI at hbt; rw [← hbt]; first | exact (if_pos c_33).symm | exact (if_neg c_33).symm)⟩

set_option maxHeartbeats 4000000 in
set_option maxRecDepth 100000 in
theorem c_X1_fullestQuarter (l : Launch) (E : fE) (M : Nat → Nat → Int32) (L : Nat → Nat → Int64) (g : Nat) (tc : Nat) (hk_g : fsh g = 1) (htc : M g 3 = nI tc) (htc8 : tc ≤ 8) : Met l yX1_fullestQuarter (wl yX1_fullestQuarter cX1_fullestQuarter 5 (some .int)) (fRm 3 66) (va_Pc [.ref (fad E g)] (fPre E M L)) (fQi E (fun r u => u = (M, L) ∧ r = (bestI (fun q => bitc (inI (fun t => (M (g + 4 + t) 1)) (fun t => (M (g + 4 + t) 2)) (nI q) tc)) nI 0 24).2)) 0 0 (fA E) := by
  refine f_head (by decide) (Nat.le_of_ble_eq_true rfl) ?_
  intro pg ev s mi below meth cd ls X hr hlk hP hS hl
  have hx := X.1.1
  have hb := X.1.2.1
  have hl : lv_has ls 5 [(0, .ref (fad E g))] := hl
  refine lv_iconst (v := 0) hx hb dX1_fullestQuarter_0 (by decide) ?_
  refine lv_istore_n (lv' := [(1, .int 0), (0, .ref (fad E g))]) hx hb dX1_fullestQuarter_1 rfl hl (by decide) rfl (fun ls hl => ?_)
  refine lv_iconst (v := 0) hx hb dX1_fullestQuarter_2 (by decide) ?_
  refine lv_istore_n (lv' := [(2, .int 0), (1, .int 0), (0, .ref (fad E g))]) hx hb dX1_fullestQuarter_3 rfl hl (by decide) rfl (fun ls hl => ?_)
  refine lv_iconst (v := 0) hx hb dX1_fullestQuarter_4 (by decide) ?_
  refine lv_istore_n (lv' := [(3, .int 0), (2, .int 0), (1, .int 0), (0, .ref (fad E g))]) hx hb dX1_fullestQuarter_5 rfl hl (by decide) rfl (fun ls hl => ?_)
  refine f_loop (α := Nat × Int32 × Int32) (fun (a : Nat × Int32 × Int32) H locs ls => match a with | (q, fu, mo) => fP E M L H ∧ va_S (fA E) s.heap H locs ∧ lv_has ls 5 [(3, .int (nI q)), (2, .int mo), (1, .int fu), (0, .ref (fad E g))] ∧ (q ≤ 24) ∧ ((mo, fu) = bestI (fun q => bitc (inI (fun t => M (g + 4 + t) 1) (fun t => M (g + 4 + t) 2) (nI q) tc)) nI 0 q)) (fun (a : Nat × Int32 × Int32) => match a with | (q, fu, mo) => 24 - q) (pc0 := 6) (st := fun _ => []) ?_ (0, 0, 0) _ _ _ ⟨hP, hS, lv_sub hl [0, 1, 2, 3] rfl, (by omega), rfl⟩
  rintro ⟨q, fu, mo⟩ H locs ls ⟨hP, hS, hl, ht, hbt⟩ ih_6
  refine lv_iload_n hx hb dX1_fullestQuarter_6 rfl (lv_at hl 0 rfl) ?_
  refine lv_bipush (v := 23) hx hb dX1_fullestQuarter_7 (by decide) ?_
  refine lv_icmp_gt (tgt := 39) hx hb dX1_fullestQuarter_9 (by decide) (fun c_9 => ?_) (fun c_9 => ?_)
  · have c_9 := (nI_lt_iff (a := 23) (b := q) (by omega) (by omega)).mp c_9
    refine lv_iload_n hx hb dX1_fullestQuarter_39 rfl (lv_at hl 2 rfl) ?_
    refine f_ir X hlk hr (v := fu) rfl hP hS ?_ dX1_fullestQuarter_40
    refine ⟨rfl, ?_⟩; rw [show q = 24 from by omega] at hbt; rw [← hbt]
  · have c_9 := (not_congr (nI_lt_iff (a := 23) (b := q) (by omega) (by omega))).mp c_9
    refine lv_aload_n hx hb dX1_fullestQuarter_12 rfl (lv_at hl 3 rfl) ?_
    refine lv_iload_n hx hb dX1_fullestQuarter_13 rfl (lv_at hl 0 rfl) ?_
    refine f_iV (n := 1) X hP hS [.int (nI q)] [] (c_X1_thingsIn l E M L g (nI q) tc hk_g htc htc8) m_4_56 wi_X1_thingsIn hk_g rfl (by decide) (by decide +kernel) ⟨Nat.le_of_ble_eq_true rfl, Nat.le_of_ble_eq_true rfl⟩ rfl hl rfl (Nat.le_of_ble_eq_true rfl) ⟨Nat.zero_le _, Nat.zero_le _⟩ dX1_fullestQuarter_14 (fun H locs hP hS => ?_)
    refine f_iS (n := 1) X hP hS [.int (inI (fun t => (M (g + 4 + t) 1)) (fun t => (M (g + 4 + t) 2)) (nI q) tc)] [] (c_J6_bitCount_0f7a4 l E M L (inI (fun t => (M (g + 4 + t) 1)) (fun t => (M (g + 4 + t) 2)) (nI q) tc)) m_3_216 wi_J6_bitCount_0f7a4 (by decide +kernel) ⟨Nat.le_of_ble_eq_true rfl, Nat.le_of_ble_eq_true rfl⟩ rfl hl rfl (Nat.le_of_ble_eq_true rfl) ⟨Nat.zero_le _, Nat.zero_le _⟩ dX1_fullestQuarter_17 (fun H locs hP hS => ?_)
    refine lv_istore (lv' := [(4, .int (bitc (inI (fun t => (M (g + 4 + t) 1)) (fun t => (M (g + 4 + t) 2)) (nI q) tc))), (3, .int (nI q)), (2, .int mo), (1, .int fu), (0, .ref (fad E g))]) hx hb dX1_fullestQuarter_20 hl (by decide) rfl (fun ls hl => ?_)
    refine lv_iload hx hb dX1_fullestQuarter_22 (lv_at hl 0 rfl) ?_
    refine lv_iload_n hx hb dX1_fullestQuarter_24 rfl (lv_at hl 2 rfl) ?_
    refine lv_icmp_le (tgt := 33) hx hb dX1_fullestQuarter_25 (by decide) (fun c_25 => ?_) (fun c_25 => ?_)
    · refine lv_iinc (v := (nI (q + 1))) (lv' := [(3, .int (nI (q + 1))), (4, .int (bitc (inI (fun t => (M (g + 4 + t) 1)) (fun t => (M (g + 4 + t) 2)) (nI q) tc))), (2, .int mo), (1, .int fu), (0, .ref (fad E g))]) hx hb dX1_fullestQuarter_33 hl (k := 1) rfl (nI_1 _) (by decide) rfl (fun ls hl => ?_)
      refine lv_goto (tgt := 6) hx hb dX1_fullestQuarter_36 (by decide) ?_
      exact ih_6 ((q + 1), fu, mo) _ _ _ (by show 24 - (q + 1) < 24 - q; omega) ⟨hP, hS, lv_sub hl [0, 2, 3, 4] rfl, (by omega), (by show (_, _) = bestI _ _ _ (_ + 1); unfold bestI; rw [itF_s]; unfold bestI at hbt; rw [← hbt]; first | exact (if_pos c_25).symm | exact (if_neg c_25).symm)⟩
    · refine lv_iload hx hb dX1_fullestQuarter_28 (lv_at hl 0 rfl) ?_
      refine lv_istore_n (lv' := [(2, .int (bitc (inI (fun t => (M (g + 4 + t) 1)) (fun t => (M (g + 4 + t) 2)) (nI q) tc))), (4, .int (bitc (inI (fun t => (M (g + 4 + t) 1)) (fun t => (M (g + 4 + t) 2)) (nI q) tc))), (3, .int (nI q)), (1, .int fu), (0, .ref (fad E g))]) hx hb dX1_fullestQuarter_30 rfl hl (by decide) rfl (fun ls hl => ?_)
      refine lv_iload_n hx hb dX1_fullestQuarter_31 rfl (lv_at hl 2 rfl) ?_
      refine lv_istore_n (lv' := [(1, .int (nI q)), (2, .int (bitc (inI (fun t => (M (g + 4 + t) 1)) (fun t => (M (g + 4 + t) 2)) (nI q) tc))), (4, .int (bitc (inI (fun t => (M (g + 4 + t) 1)) (fun t => (M (g + 4 + t) 2)) (nI q) tc))), (3, .int (nI q)), (0, .ref (fad E g))]) hx hb dX1_fullestQuarter_32 rfl hl (by decide) rfl (fun ls hl => ?_)
      refine lv_iinc (v := (nI (q + 1))) (lv' := [(3, .int (nI (q + 1))), (1, .int (nI q)), (2, .int (bitc (inI (fun t => (M (g + 4 + t) 1)) (fun t => (M (g + 4 + t) 2)) (nI q) tc))), (4, .int (bitc (inI (fun t => (M (g + 4 + t) 1)) (fun t => (M (g + 4 + t) 2)) (nI q) tc))), (0, .ref (fad E g))]) hx hb dX1_fullestQuarter_33 hl (k := 3) rfl (nI_1 _) (by decide) rfl (fun ls hl => ?_)
      refine lv_goto (tgt := 6) hx hb dX1_fullestQuarter_36 (by decide) ?_
      exact ih_6 ((q + 1), (nI q), (bitc (inI (fun t => (M (g + 4 + t) 1)) (fun t => (M (g + 4 + t) 2)) (nI q) tc))) _ _ _ (by show 24 - (q + 1) < 24 - q; omega) ⟨hP, hS, lv_sub hl [0, 2, 1, 4] rfl, (by omega), (by show (_, _) = bestI _ _ _ (_ + 1); unfold bestI; rw [itF_s]; unfold bestI at hbt; rw [← hbt]; first | exact (if_pos c_25).symm | exact (if_neg c_25).symm)⟩

set_option maxHeartbeats 4000000 in
set_option maxRecDepth 100000 in
theorem c_X1_seenFromPosts (l : Launch) (E : fE) (M : Nat → Nat → Int32) (L : Nat → Nat → Int64) (g : Nat) (posted : Int32) (wc : Nat) (hk_g : fsh g = 1) (hwc : M g 4 = nI wc) (hwc6 : wc ≤ 6) : Met l yX1_seenFromPosts (wl yX1_seenFromPosts cX1_seenFromPosts 4 (some .int)) (fRm 0 0) (va_Pc [.ref (fad E g), .int posted] (fPre E M L)) (fQi E (fun r u => u = (M, L) ∧ r = orI (fun w => (M (g + 3) w)) posted wc)) 0 0 (fA E) := by
  refine f_head (by decide) (Nat.le_of_ble_eq_true rfl) ?_
  intro pg ev s mi below meth cd ls X hr hlk hP hS hl
  have hx := X.1.1
  have hb := X.1.2.1
  have hl : lv_has ls 4 [(0, .ref (fad E g)), (1, .int posted)] := hl
  refine lv_iconst (v := 0) hx hb dX1_seenFromPosts_0 (by decide) ?_
  refine lv_istore_n (lv' := [(2, .int 0), (0, .ref (fad E g)), (1, .int posted)]) hx hb dX1_seenFromPosts_1 rfl hl (by decide) rfl (fun ls hl => ?_)
  refine lv_iconst (v := 0) hx hb dX1_seenFromPosts_2 (by decide) ?_
  refine lv_istore_n (lv' := [(3, .int 0), (2, .int 0), (0, .ref (fad E g)), (1, .int posted)]) hx hb dX1_seenFromPosts_3 rfl hl (by decide) rfl (fun ls hl => ?_)
  refine f_loop (α := Nat × Int32) (fun (a : Nat × Int32) H locs ls => match a with | (w, b) => fP E M L H ∧ va_S (fA E) s.heap H locs ∧ lv_has ls 4 [(3, .int (nI w)), (2, .int b), (0, .ref (fad E g)), (1, .int posted)] ∧ (w ≤ wc) ∧ (b = orI (fun w => M (g + 3) w) posted w)) (fun (a : Nat × Int32) => match a with | (w, b) => wc - w) (pc0 := 4) (st := fun _ => []) ?_ (0, 0) _ _ _ ⟨hP, hS, lv_sub hl [0, 1, 2, 3] rfl, (by omega), rfl⟩
  rintro ⟨w, b⟩ H locs ls ⟨hP, hS, hl, ht, hbt⟩ ih_4
  refine lv_iload_n hx hb dX1_seenFromPosts_4 rfl (lv_at hl 0 rfl) ?_
  refine lv_aload_n hx hb dX1_seenFromPosts_5 rfl (lv_at hl 2 rfl) ?_
  refine f_get X hP (T := TX1) (ci := 1) (k := g) hk_g inX1 rfl 4 (by decide) m_1_116 rfl (v := .int (nI wc)) (congrArg Value.int hwc) dX1_seenFromPosts_6 ?_
  refine lv_icmp_ge (tgt := 35) hx hb dX1_seenFromPosts_9 (by decide) (fun c_9 => ?_) (fun c_9 => ?_)
  · have c_9 := (nI_le_iff (a := wc) (b := w) (by omega) (by omega)).mp c_9
    refine lv_iload_n hx hb dX1_seenFromPosts_35 rfl (lv_at hl 1 rfl) ?_
    refine f_ir X hlk hr (v := b) rfl hP hS ?_ dX1_seenFromPosts_36
    refine ⟨rfl, ?_⟩; rw [hbt, show w = wc from by omega]
  · have c_9 := (not_congr (nI_le_iff (a := wc) (b := w) (by omega) (by omega))).mp c_9
    refine lv_iload_n hx hb dX1_seenFromPosts_12 rfl (lv_at hl 3 rfl) ?_
    refine lv_iload_n hx hb dX1_seenFromPosts_13 rfl (lv_at hl 0 rfl) ?_
    refine lv_ishr hx hb dX1_seenFromPosts_14 ?_
    refine lv_iconst (v := 1) hx hb dX1_seenFromPosts_15 (by decide) ?_
    refine lv_iand hx hb dX1_seenFromPosts_16 ?_
    refine lv_if_eq (tgt := 29) hx hb dX1_seenFromPosts_17 (by decide) (fun c_17 => ?_) (fun c_17 => ?_)
    · refine lv_iinc (v := (nI (w + 1))) (lv' := [(3, .int (nI (w + 1))), (2, .int b), (0, .ref (fad E g)), (1, .int posted)]) hx hb dX1_seenFromPosts_29 hl (k := 0) rfl (nI_1 _) (by decide) rfl (fun ls hl => ?_)
      refine lv_goto (tgt := 4) hx hb dX1_seenFromPosts_32 (by decide) ?_
      exact ih_4 ((w + 1), b) _ _ _ (by show wc - (w + 1) < wc - w; omega) ⟨hP, hS, lv_sub hl [0, 1, 2, 3] rfl, (by omega), (by rw [hbt]; unfold orI; rw [itF_s]; first | exact (if_pos c_17).symm | exact (if_neg c_17).symm)⟩
    · refine lv_iload_n hx hb dX1_seenFromPosts_20 rfl (lv_at hl 1 rfl) ?_
      refine lv_aload_n hx hb dX1_seenFromPosts_21 rfl (lv_at hl 2 rfl) ?_
      refine f_get X hP (T := TX1) (ci := 1) (k := g) hk_g inX1 rfl 2 (by decide) m_1_113 rfl (v := .ref (fad E (g + 3))) rfl dX1_seenFromPosts_22 ?_
      refine lv_iload_n hx hb dX1_seenFromPosts_25 rfl (lv_at hl 0 rfl) ?_
      refine f_iald X hP (k := (g + 3)) (n := 6) (q := w) (sh_g3 hk_g) (ln_g3 hk_g) (fIx_nI (by omega) (by decide)) dX1_seenFromPosts_26 ?_
      refine lv_ior hx hb dX1_seenFromPosts_27 ?_
      refine lv_istore_n (lv' := [(2, .int (b ||| (M (g + 3) w))), (3, .int (nI w)), (0, .ref (fad E g)), (1, .int posted)]) hx hb dX1_seenFromPosts_28 rfl hl (by decide) rfl (fun ls hl => ?_)
      refine lv_iinc (v := (nI (w + 1))) (lv' := [(3, .int (nI (w + 1))), (2, .int (b ||| (M (g + 3) w))), (0, .ref (fad E g)), (1, .int posted)]) hx hb dX1_seenFromPosts_29 hl (k := 1) rfl (nI_1 _) (by decide) rfl (fun ls hl => ?_)
      refine lv_goto (tgt := 4) hx hb dX1_seenFromPosts_32 (by decide) ?_
      exact ih_4 ((w + 1), (b ||| (M (g + 3) w))) _ _ _ (by show wc - (w + 1) < wc - w; omega) ⟨hP, hS, lv_sub hl [0, 1, 2, 3] rfl, (by omega), (by rw [hbt]; unfold orI; rw [itF_s]; first | exact (if_pos c_17).symm | exact (if_neg c_17).symm)⟩

set_option maxHeartbeats 4000000 in
set_option maxRecDepth 100000 in
theorem c_X1_fewestPosts (l : Launch) (E : fE) (M : Nat → Nat → Int32) (L : Nat → Nat → Int64) (g : Nat) (tc wc : Nat) (hk_g : fsh g = 1) (htc : M g 3 = nI tc) (htc8 : tc ≤ 8) (hwc : M g 4 = nI wc) (hwc6 : wc ≤ 6) : Met l yX1_fewestPosts (wl yX1_fewestPosts cX1_fewestPosts 6 (some .int)) (fRm 2 45) (va_Pc [.ref (fad E g)] (fPre E M L)) (fQi E (fun r u => u = ((spM M g (fun w9 => seenI (fun t => (M (g + 4 + t) 0)) (sightF (M (g + 12 + w9) 1)) (M (g + 12 + w9) 5) tc) wc), L) ∧ r = (postsI (fun w9 => seenI (fun t => (M (g + 4 + t) 0)) (sightF (M (g + 12 + w9) 1)) (M (g + 12 + w9) 5) tc) ((1 <<< (nI tc &&& 31)) - 1) wc (2 ^ wc)).2)) 0 0 (fA E) := by
  refine f_head (by decide) (Nat.le_of_ble_eq_true rfl) ?_
  intro pg ev s mi below meth cd ls X hr hlk hP hS hl
  have hx := X.1.1
  have hb := X.1.2.1
  have hl : lv_has ls 6 [(0, .ref (fad E g))] := hl
  have hgd := fGd_of hk_g
  have hP := fP_eq (show (spM M g (fun w9 => seenI (fun t => M (g + 4 + t) 0) (sightF (M (g + 12 + w9) 1)) (M (g + 12 + w9) 5) tc) 0) = M from by
      funext x9 y9; exact if_neg (by omega)) hP
  refine lv_iconst (v := 0) hx hb dX1_fewestPosts_0 (by decide) ?_
  refine lv_istore_n (lv' := [(1, .int 0), (0, .ref (fad E g))]) hx hb dX1_fewestPosts_1 rfl hl (by decide) rfl (fun ls hl => ?_)
  refine f_loop (α := Nat) (fun (w : Nat) H locs ls => fP E (spM M g (fun w9 => seenI (fun t => M (g + 4 + t) 0) (sightF (M (g + 12 + w9) 1)) (M (g + 12 + w9) 5) tc) w) L H ∧ va_S (fA E) s.heap H locs ∧ lv_has ls 6 [(1, .int (nI w)), (0, .ref (fad E g))] ∧ (w ≤ wc)) (fun (w : Nat) => wc - w) (pc0 := 2) (st := fun _ => []) ?_ 0 _ _ _ ⟨hP, hS, lv_sub hl [0, 1] rfl, (by omega)⟩
  rintro w H locs ls ⟨hP, hS, hl, ht⟩ ih_2
  refine lv_iload_n hx hb dX1_fewestPosts_2 rfl (lv_at hl 0 rfl) ?_
  refine lv_aload_n hx hb dX1_fewestPosts_3 rfl (lv_at hl 1 rfl) ?_
  refine f_get X hP (T := TX1) (ci := 1) (k := g) hk_g inX1 rfl 4 (by decide) m_1_116 rfl (v := .int (nI wc)) (congrArg Value.int ((if_neg (by omega) : (spM M g (fun w9 => seenI (fun t => M (g + 4 + t) 0) (sightF (M (g + 12 + w9) 1)) (M (g + 12 + w9) 5) tc) w) g 4 = M g 4).trans hwc)) dX1_fewestPosts_4 ?_
  refine lv_icmp_ge (tgt := 41) hx hb dX1_fewestPosts_7 (by decide) (fun c_7 => ?_) (fun c_7 => ?_)
  · have c_7 := (nI_le_iff (a := wc) (b := w) (by omega) (by omega)).mp c_7
    obtain rfl : wc = w := by omega
    have hwp : 2 ^ wc ≤ 64 := Nat.pow_le_pow_right (by decide) hwc6
    refine lv_iconst (v := 1) hx hb dX1_fewestPosts_41 (by decide) ?_
    refine lv_aload_n hx hb dX1_fewestPosts_42 rfl (lv_at hl 1 rfl) ?_
    refine f_get X hP (T := TX1) (ci := 1) (k := g) hk_g inX1 rfl 3 (by decide) m_1_114 rfl (v := .int (nI tc)) (congrArg Value.int ((if_neg (by omega) : (spM M g (fun w9 => seenI (fun t => M (g + 4 + t) 0) (sightF (M (g + 12 + w9) 1)) (M (g + 12 + w9) 5) tc) wc) g 3 = M g 3).trans htc)) dX1_fewestPosts_43 ?_
    refine lv_ishl hx hb dX1_fewestPosts_46 ?_
    refine lv_iconst (v := 1) hx hb dX1_fewestPosts_47 (by decide) ?_
    refine lv_isub hx hb dX1_fewestPosts_48 ?_
    refine lv_istore_n (lv' := [(1, .int ((1 <<< ((nI tc) &&& 31)) - 1)), (0, .ref (fad E g))]) hx hb dX1_fewestPosts_49 rfl hl (by decide) rfl (fun ls hl => ?_)
    refine lv_iconst (v := (-1)) hx hb dX1_fewestPosts_50 (by decide) ?_
    refine lv_istore_n (lv' := [(2, .int (-1)), (1, .int ((1 <<< ((nI tc) &&& 31)) - 1)), (0, .ref (fad E g))]) hx hb dX1_fewestPosts_51 rfl hl (by decide) rfl (fun ls hl => ?_)
    refine lv_bipush (v := 7) hx hb dX1_fewestPosts_52 (by decide) ?_
    refine lv_istore_n (lv' := [(3, .int 7), (2, .int (-1)), (1, .int ((1 <<< ((nI tc) &&& 31)) - 1)), (0, .ref (fad E g))]) hx hb dX1_fewestPosts_54 rfl hl (by decide) rfl (fun ls hl => ?_)
    refine lv_iconst (v := 0) hx hb dX1_fewestPosts_55 (by decide) ?_
    refine lv_istore (lv' := [(4, .int 0), (3, .int 7), (2, .int (-1)), (1, .int ((1 <<< ((nI tc) &&& 31)) - 1)), (0, .ref (fad E g))]) hx hb dX1_fewestPosts_56 hl (by decide) rfl (fun ls hl => ?_)
    refine f_loop (α := Nat × Int32 × Int32) (fun (a : Nat × Int32 × Int32) H locs ls => match a with | (pp, ch, fw) => fP E (spM M g (fun w9 => seenI (fun t => M (g + 4 + t) 0) (sightF (M (g + 12 + w9) 1)) (M (g + 12 + w9) 5) tc) wc) L H ∧ va_S (fA E) s.heap H locs ∧ lv_has ls 6 [(4, .int (nI pp)), (3, .int fw), (2, .int ch), (1, .int ((1 <<< ((nI tc) &&& 31)) - 1)), (0, .ref (fad E g))] ∧ (pp ≤ 2 ^ wc) ∧ ((fw, ch) = postsI (fun w9 => seenI (fun t => M (g + 4 + t) 0) (sightF (M (g + 12 + w9) 1)) (M (g + 12 + w9) 5) tc) ((1 <<< (nI tc &&& 31)) - 1) wc pp)) (fun (a : Nat × Int32 × Int32) => match a with | (pp, ch, fw) => 2 ^ wc - pp) (pc0 := 58) (st := fun _ => []) ?_ (0, (-1), 7) _ _ _ ⟨hP, hS, lv_sub hl [0, 1, 2, 3, 4] rfl, (Nat.zero_le _), rfl⟩
    rintro ⟨pp, ch, fw⟩ H locs ls ⟨hP, hS, hl, hp2, hbt⟩ ih_58
    refine lv_iload hx hb dX1_fewestPosts_58 (lv_at hl 0 rfl) ?_
    refine lv_iconst (v := 1) hx hb dX1_fewestPosts_60 (by decide) ?_
    refine lv_aload_n hx hb dX1_fewestPosts_61 rfl (lv_at hl 4 rfl) ?_
    refine f_get X hP (T := TX1) (ci := 1) (k := g) hk_g inX1 rfl 4 (by decide) m_1_116 rfl (v := .int (nI wc)) (congrArg Value.int ((if_neg (by omega) : (spM M g (fun w9 => seenI (fun t => M (g + 4 + t) 0) (sightF (M (g + 12 + w9) 1)) (M (g + 12 + w9) 5) tc) wc) g 4 = M g 4).trans hwc)) dX1_fewestPosts_62 ?_
    refine lv_ishl hx hb dX1_fewestPosts_65 ?_
    refine lv_icmp_ge (tgt := 104) hx hb dX1_fewestPosts_66 (by decide) (fun c_66 => ?_) (fun c_66 => ?_)
    · rw [bitN (by omega)] at c_66
      have c_66 := (nI_le_iff (by omega) (by omega)).mp c_66
      refine lv_iload_n hx hb dX1_fewestPosts_104 rfl (lv_at hl 2 rfl) ?_
      refine f_ir X hlk hr (v := ch) rfl hP hS ?_ dX1_fewestPosts_105
      refine ⟨rfl, ?_⟩; rw [show pp = 2 ^ wc from by omega] at hbt; rw [← hbt]
    · rw [bitN (by omega)] at c_66
      have c_66 := (not_congr (nI_le_iff (by omega) (by omega))).mp c_66
      refine lv_iload hx hb dX1_fewestPosts_69 (lv_at hl 0 rfl) ?_
      refine f_iS (n := 1) X hP hS [.int (nI pp)] [] (c_J6_bitCount_0f7a4 l E (spM M g (fun w9 => seenI (fun t => M (g + 4 + t) 0) (sightF (M (g + 12 + w9) 1)) (M (g + 12 + w9) 5) tc) wc) L (nI pp)) m_3_216 wi_J6_bitCount_0f7a4 (by decide +kernel) ⟨Nat.le_of_ble_eq_true rfl, Nat.le_of_ble_eq_true rfl⟩ rfl hl rfl (Nat.le_of_ble_eq_true rfl) ⟨Nat.zero_le _, Nat.zero_le _⟩ dX1_fewestPosts_71 (fun H locs hP hS => ?_)
      refine lv_istore (lv' := [(5, .int (bitc (nI pp))), (4, .int (nI pp)), (3, .int fw), (2, .int ch), (1, .int ((1 <<< ((nI tc) &&& 31)) - 1)), (0, .ref (fad E g))]) hx hb dX1_fewestPosts_74 hl (by decide) rfl (fun ls hl => ?_)
      refine lv_iload hx hb dX1_fewestPosts_76 (lv_at hl 0 rfl) ?_
      refine lv_iload_n hx hb dX1_fewestPosts_78 rfl (lv_at hl 2 rfl) ?_
      refine lv_icmp_ge (tgt := 98) hx hb dX1_fewestPosts_79 (by decide) (fun c_79 => ?_) (fun c_79 => ?_)
      · refine lv_iinc (v := (nI (pp + 1))) (lv' := [(4, .int (nI (pp + 1))), (5, .int (bitc (nI pp))), (3, .int fw), (2, .int ch), (1, .int ((1 <<< ((nI tc) &&& 31)) - 1)), (0, .ref (fad E g))]) hx hb dX1_fewestPosts_98 hl (k := 1) rfl (nI_1 _) (by decide) rfl (fun ls hl => ?_)
        refine lv_goto (tgt := 58) hx hb dX1_fewestPosts_101 (by decide) ?_
        exact ih_58 ((pp + 1), ch, fw) _ _ _ (by show 2 ^ wc - (pp + 1) < 2 ^ wc - pp; omega) ⟨hP, hS, lv_sub hl [0, 2, 3, 4, 5] rfl, (by omega), (by show (_, _) = postsI _ _ _ (_ + 1); unfold postsI; rw [itF_s]; unfold postsI at hbt; rw [← hbt]; first | exact (if_pos c_79).symm | (rw [if_neg c_79]; rw [or_sp] at c_89; first | exact (if_pos c_89).symm | exact (if_neg c_89).symm))⟩
      · refine lv_aload_n hx hb dX1_fewestPosts_82 rfl (lv_at hl 5 rfl) ?_
        refine lv_iload hx hb dX1_fewestPosts_83 (lv_at hl 1 rfl) ?_
        refine f_iV (n := 1) X hP hS [.int (nI pp)] [] (c_X1_seenFromPosts l E (spM M g (fun w9 => seenI (fun t => M (g + 4 + t) 0) (sightF (M (g + 12 + w9) 1)) (M (g + 12 + w9) 5) tc) wc) L g (nI pp) wc hk_g ((if_neg (by omega) : (spM M g (fun w9 => seenI (fun t => M (g + 4 + t) 0) (sightF (M (g + 12 + w9) 1)) (M (g + 12 + w9) 5) tc) wc) g 4 = M g 4).trans hwc) hwc6) m_3_222 wi_X1_seenFromPosts hk_g rfl (by decide) (by decide +kernel) ⟨Nat.le_of_ble_eq_true rfl, Nat.le_of_ble_eq_true rfl⟩ rfl hl rfl (Nat.le_of_ble_eq_true rfl) ⟨Nat.zero_le _, Nat.zero_le _⟩ dX1_fewestPosts_85 (fun H locs hP hS => ?_)
        refine lv_iload_n hx hb dX1_fewestPosts_88 rfl (lv_at hl 4 rfl) ?_
        refine lv_icmp_ne (tgt := 98) hx hb dX1_fewestPosts_89 (by decide) (fun c_89 => ?_) (fun c_89 => ?_)
        · refine lv_iinc (v := (nI (pp + 1))) (lv' := [(4, .int (nI (pp + 1))), (5, .int (bitc (nI pp))), (3, .int fw), (2, .int ch), (1, .int ((1 <<< ((nI tc) &&& 31)) - 1)), (0, .ref (fad E g))]) hx hb dX1_fewestPosts_98 hl (k := 1) rfl (nI_1 _) (by decide) rfl (fun ls hl => ?_)
          refine lv_goto (tgt := 58) hx hb dX1_fewestPosts_101 (by decide) ?_
          exact ih_58 ((pp + 1), ch, fw) _ _ _ (by show 2 ^ wc - (pp + 1) < 2 ^ wc - pp; omega) ⟨hP, hS, lv_sub hl [0, 2, 3, 4, 5] rfl, (by omega), (by show (_, _) = postsI _ _ _ (_ + 1); unfold postsI; rw [itF_s]; unfold postsI at hbt; rw [← hbt]; first | exact (if_pos c_79).symm | (rw [if_neg c_79]; rw [or_sp] at c_89; first | exact (if_pos c_89).symm | exact (if_neg c_89).symm))⟩
        · refine lv_iload hx hb dX1_fewestPosts_92 (lv_at hl 0 rfl) ?_
          refine lv_istore_n (lv' := [(3, .int (bitc (nI pp))), (5, .int (bitc (nI pp))), (4, .int (nI pp)), (2, .int ch), (1, .int ((1 <<< ((nI tc) &&& 31)) - 1)), (0, .ref (fad E g))]) hx hb dX1_fewestPosts_94 rfl hl (by decide) rfl (fun ls hl => ?_)
          refine lv_iload hx hb dX1_fewestPosts_95 (lv_at hl 2 rfl) ?_
          refine lv_istore_n (lv' := [(2, .int (nI pp)), (3, .int (bitc (nI pp))), (5, .int (bitc (nI pp))), (4, .int (nI pp)), (1, .int ((1 <<< ((nI tc) &&& 31)) - 1)), (0, .ref (fad E g))]) hx hb dX1_fewestPosts_97 rfl hl (by decide) rfl (fun ls hl => ?_)
          refine lv_iinc (v := (nI (pp + 1))) (lv' := [(4, .int (nI (pp + 1))), (2, .int (nI pp)), (3, .int (bitc (nI pp))), (5, .int (bitc (nI pp))), (1, .int ((1 <<< ((nI tc) &&& 31)) - 1)), (0, .ref (fad E g))]) hx hb dX1_fewestPosts_98 hl (k := 3) rfl (nI_1 _) (by decide) rfl (fun ls hl => ?_)
          refine lv_goto (tgt := 58) hx hb dX1_fewestPosts_101 (by decide) ?_
          exact ih_58 ((pp + 1), (nI pp), (bitc (nI pp))) _ _ _ (by show 2 ^ wc - (pp + 1) < 2 ^ wc - pp; omega) ⟨hP, hS, lv_sub hl [0, 2, 1, 4, 5] rfl, (by omega), (by show (_, _) = postsI _ _ _ (_ + 1); unfold postsI; rw [itF_s]; unfold postsI at hbt; rw [← hbt]; first | exact (if_pos c_79).symm | (rw [if_neg c_79]; rw [or_sp] at c_89; first | exact (if_pos c_89).symm | exact (if_neg c_89).symm))⟩
  · have c_7 := (not_congr (nI_le_iff (a := wc) (b := w) (by omega) (by omega))).mp c_7
    refine lv_aload_n hx hb dX1_fewestPosts_10 rfl (lv_at hl 1 rfl) ?_
    refine f_get X hP (T := TX1) (ci := 1) (k := g) hk_g inX1 rfl 2 (by decide) m_1_113 rfl (v := .ref (fad E (g + 3))) rfl dX1_fewestPosts_11 ?_
    refine lv_iload_n hx hb dX1_fewestPosts_14 rfl (lv_at hl 0 rfl) ?_
    refine lv_aload_n hx hb dX1_fewestPosts_15 rfl (lv_at hl 1 rfl) ?_
    refine lv_aload_n hx hb dX1_fewestPosts_16 rfl (lv_at hl 1 rfl) ?_
    refine f_get X hP (T := TX1) (ci := 1) (k := g) hk_g inX1 rfl 1 (by decide) m_1_109 rfl (v := .ref (fad E (g + 2))) rfl dX1_fewestPosts_17 ?_
    refine lv_iload_n hx hb dX1_fewestPosts_20 rfl (lv_at hl 0 rfl) ?_
    refine f_aald X hP (t := 13) (d := 10) (n := 6) (r := w) (sh_g2 hk_g) (ln_g2 hk_g) (.inr (.inr (.inl ⟨rfl, rfl⟩))) (fIx_nI (by omega) (by decide)) (g + 12 + w) (by omega) dX1_fewestPosts_21 ?_
    refine lv_aload_n hx hb dX1_fewestPosts_22 rfl (lv_at hl 1 rfl) ?_
    refine f_get X hP (T := TX1) (ci := 1) (k := g) hk_g inX1 rfl 1 (by decide) m_1_109 rfl (v := .ref (fad E (g + 2))) rfl dX1_fewestPosts_23 ?_
    refine lv_iload_n hx hb dX1_fewestPosts_26 rfl (lv_at hl 0 rfl) ?_
    refine f_aald X hP (t := 13) (d := 10) (n := 6) (r := w) (sh_g2 hk_g) (ln_g2 hk_g) (.inr (.inr (.inl ⟨rfl, rfl⟩))) (fIx_nI (by omega) (by decide)) (g + 12 + w) (by omega) dX1_fewestPosts_27 ?_
    refine f_get X hP (T := TX6) (ci := 6) (k := (g + 12 + w)) (sh_gw hk_g (by omega)) inX6 rfl 5 (by decide) m_1_92 rfl (v := .int (M (g + 12 + w) 5)) (congrArg Value.int (if_neg (by omega) : (spM M g (fun w9 => seenI (fun t => M (g + 4 + t) 0) (sightF (M (g + 12 + w9) 1)) (M (g + 12 + w9) 5) tc) w) (g + 12 + w) 5 = M (g + 12 + w) 5)) dX1_fewestPosts_28 ?_
    refine f_iV (n := 2) X hP hS [.ref (fad E (g + 12 + w)), .int (M (g + 12 + w) 5)] [.int (nI w), .ref (fad E (g + 3))] (c_X1_thingsSeen l E (spM M g (fun w9 => seenI (fun t => M (g + 4 + t) 0) (sightF (M (g + 12 + w9) 1)) (M (g + 12 + w9) 5) tc) w) L g (g + 12 + w) (M (g + 12 + w) 5) tc hk_g (sh_gw hk_g (by omega)) ((if_neg (by omega) : (spM M g (fun w9 => seenI (fun t => M (g + 4 + t) 0) (sightF (M (g + 12 + w9) 1)) (M (g + 12 + w9) 5) tc) w) g 3 = M g 3).trans htc) htc8) m_3_169 wi_X1_thingsSeen hk_g rfl (by decide) (by decide +kernel) ⟨Nat.le_of_ble_eq_true rfl, Nat.le_of_ble_eq_true rfl⟩ rfl hl rfl (Nat.le_of_ble_eq_true rfl) ⟨Nat.zero_le _, Nat.zero_le _⟩ dX1_fewestPosts_31 (fun H locs hP hS => ?_)
    refine f_topI (v := (seenI (fun t => M (g + 4 + t) 0) (sightF (M (g + 12 + w) 1)) (M (g + 12 + w) 5) tc)) seen_sp ?_
    refine f_iast X hP hS (k := (g + 3)) (n := 6) (q := w) (sh_g3 hk_g) (ln_g3 hk_g) (v := (seenI (fun t => M (g + 4 + t) 0) (sightF (M (g + 12 + w) 1)) (M (g + 12 + w) 5) tc)) (fIx_nI (by omega) (by decide)) dX1_fewestPosts_34 (fun H locs hP hS => ?_)
    refine lv_iinc (v := (nI (w + 1))) (lv' := [(1, .int (nI (w + 1))), (0, .ref (fad E g))]) hx hb dX1_fewestPosts_35 hl (k := 0) rfl (nI_1 _) (by decide) rfl (fun ls hl => ?_)
    refine lv_goto (tgt := 2) hx hb dX1_fewestPosts_38 (by decide) ?_
    have hP := fP_eq (show (spM M g (fun w9 => seenI (fun t => M (g + 4 + t) 0) (sightF (M (g + 12 + w9) 1)) (M (g + 12 + w9) 5) tc) (w + 1)) = (up2 (spM M g (fun w9 => seenI (fun t => M (g + 4 + t) 0) (sightF (M (g + 12 + w9) 1)) (M (g + 12 + w9) 5) tc) w) (g + 3) w (seenI (fun t => M (g + 4 + t) 0) (sightF (M (g + 12 + w) 1)) (M (g + 12 + w) 5) tc)) from by
        exact spM_s rfl) hP
    exact ih_2 (w + 1) _ _ _ (by show wc - (w + 1) < wc - w; omega) ⟨hP, hS, lv_sub hl [0, 1] rfl, (by omega)⟩

set_option maxHeartbeats 4000000 in
set_option maxRecDepth 100000 in
theorem c_X1_mayBeTold (l : Launch) (E : fE) (M : Nat → Nat → Int32) (L : Nat → Nat → Int64) (g : Nat) (told : Int32) (hk_g : fsh g = 1) : Met l yX1_mayBeTold (wl yX1_mayBeTold cX1_mayBeTold 3 (some .boolean)) (fRm 3 64) (va_Pc [.ref (fad E g), .int told] (fPre E M L)) (fQi E (fun r u => u = (M, L) ∧ r = bI (mayB (fun t => (M (g + 4 + t) 1)) (fun t => (M (g + 4 + t) 2)) (fun t => (M (g + 4 + t) 3)) (M g 3) told))) 0 0 (fA E) := by
  refine f_head (by decide) (Nat.le_of_ble_eq_true rfl) ?_
  intro pg ev s mi below meth cd ls X hr hlk hP hS hl
  have hx := X.1.1
  have hb := X.1.2.1
  have hl : lv_has ls 3 [(0, .ref (fad E g)), (1, .int told)] := hl
  refine lv_iload_n hx hb dX1_mayBeTold_0 rfl (lv_at hl 1 rfl) ?_
  refine lv_if_ge (tgt := 6) hx hb dX1_mayBeTold_1 (by decide) (fun c_1 => ?_) (fun c_1 => ?_)
  · refine lv_iload_n hx hb dX1_mayBeTold_6 rfl (lv_at hl 1 rfl) ?_
    refine lv_bipush (v := 100) hx hb dX1_mayBeTold_7 (by decide) ?_
    refine lv_idiv hx hb dX1_mayBeTold_9 (by decide) ?_
    refine lv_istore_n (lv' := [(2, .int (told / 100)), (0, .ref (fad E g)), (1, .int told)]) hx hb dX1_mayBeTold_10 rfl hl (by decide) rfl (fun ls hl => ?_)
    refine lv_aload_n hx hb dX1_mayBeTold_11 rfl (lv_at hl 1 rfl) ?_
    refine lv_iload_n hx hb dX1_mayBeTold_12 rfl (lv_at hl 0 rfl) ?_
    refine f_iV (n := 1) X hP hS [.int (told / 100)] [] (c_X1_hasThing l E M L g (told / 100) hk_g) m_4_69 wi_X1_hasThing hk_g rfl (by decide) (by decide +kernel) ⟨Nat.le_of_ble_eq_true rfl, Nat.le_of_ble_eq_true rfl⟩ rfl hl rfl (Nat.le_of_ble_eq_true rfl) ⟨Nat.zero_le _, Nat.zero_le _⟩ dX1_mayBeTold_13 (fun H locs hP hS => ?_)
    refine lv_if_eq (tgt := 39) hx hb dX1_mayBeTold_16 (by decide) (fun c_16 => ?_) (fun c_16 => ?_)
    · have c_16 := bI0 c_16
      refine lv_iconst (v := 0) hx hb dX1_mayBeTold_39 (by decide) ?_
      refine f_ir X hlk hr (v := 0) rfl hP hS ?_ dX1_mayBeTold_40
      refine ⟨rfl, ?_⟩; first | exact (bIt ⟨Int32.not_lt.mpr c_1, c_16, c_32⟩).symm | exact (bIe (fun h => c_32 h.2.2)).symm | exact (bIe (fun h => c_16 h.2.1)).symm
    · have c_16 := bI1 c_16
      have hlt : tT told < 8 := (fIx_lt 8 c_16.1 c_16.2.2 (by decide)).2.2
      refine lv_aload_n hx hb dX1_mayBeTold_19 rfl (lv_at hl 1 rfl) ?_
      refine f_get X hP (T := TX1) (ci := 1) (k := g) hk_g inX1 rfl 0 (by decide) m_1_107 rfl (v := .ref (fad E (g + 1))) rfl dX1_mayBeTold_20 ?_
      refine lv_iload_n hx hb dX1_mayBeTold_23 rfl (lv_at hl 0 rfl) ?_
      refine f_aald X hP (t := 12) (d := 3) (n := 8) (r := (tT told)) (sh_g1 hk_g) (ln_g1 hk_g) (.inr (.inl ⟨rfl, rfl⟩)) (fIx_lt 8 c_16.1 c_16.2.2 (by decide)) (g + 4 + (tT told)) (by omega) dX1_mayBeTold_24 ?_
      refine lv_iload_n hx hb dX1_mayBeTold_25 rfl (lv_at hl 2 rfl) ?_
      refine lv_bipush (v := 100) hx hb dX1_mayBeTold_26 (by decide) ?_
      refine lv_irem hx hb dX1_mayBeTold_28 (by decide) ?_
      refine f_iV (n := 1) X hP hS [.int (told - told / 100 * 100)] [] (c_X5_mayHave l E M L (g + 4 + (tT told)) (told - told / 100 * 100) (sh_gt hk_g (by omega))) m_4_70 wi_X5_mayHave (sh_gt hk_g (by omega)) rfl (by decide) (by decide +kernel) ⟨Nat.le_of_ble_eq_true rfl, Nat.le_of_ble_eq_true rfl⟩ rfl hl rfl (Nat.le_of_ble_eq_true rfl) ⟨Nat.zero_le _, Nat.zero_le _⟩ dX1_mayBeTold_29 (fun H locs hP hS => ?_)
      refine lv_if_eq (tgt := 39) hx hb dX1_mayBeTold_32 (by decide) (fun c_32 => ?_) (fun c_32 => ?_)
      · have c_32 := bI0 c_32
        refine lv_iconst (v := 0) hx hb dX1_mayBeTold_39 (by decide) ?_
        refine f_ir X hlk hr (v := 0) rfl hP hS ?_ dX1_mayBeTold_40
        refine ⟨rfl, ?_⟩; first | exact (bIt ⟨Int32.not_lt.mpr c_1, c_16, c_32⟩).symm | exact (bIe (fun h => c_32 h.2.2)).symm | exact (bIe (fun h => c_16 h.2.1)).symm
      · have c_32 := bI1 c_32
        refine lv_iconst (v := 1) hx hb dX1_mayBeTold_35 (by decide) ?_
        refine lv_goto (tgt := 40) hx hb dX1_mayBeTold_36 (by decide) ?_
        refine f_ir X hlk hr (v := 1) rfl hP hS ?_ dX1_mayBeTold_40
        refine ⟨rfl, ?_⟩; first | exact (bIt ⟨Int32.not_lt.mpr c_1, c_16, c_32⟩).symm | exact (bIe (fun h => c_32 h.2.2)).symm | exact (bIe (fun h => c_16 h.2.1)).symm
  · refine lv_iconst (v := 0) hx hb dX1_mayBeTold_4 (by decide) ?_
    refine f_ir X hlk hr (v := 0) rfl hP hS ?_ dX1_mayBeTold_5
    exact ⟨rfl, (bIe (fun h => c_1 (Int32.not_lt.mp h.1))).symm⟩

set_option maxHeartbeats 4000000 in
set_option maxRecDepth 100000 in
theorem c_X1_isMetAsTold (l : Launch) (E : fE) (M : Nat → Nat → Int32) (L : Nat → Nat → Int64) (g : Nat) (told : Int32) (hk_g : fsh g = 1) : Met l yX1_isMetAsTold (wl yX1_isMetAsTold cX1_isMetAsTold 2 (some .boolean)) (fRm 4 86) (va_Pc [.ref (fad E g), .int told] (fPre E M L)) (fQi E (fun r u => u = (M, L) ∧ r = bI ((mayB (fun t => (M (g + 4 + t) 1)) (fun t => (M (g + 4 + t) 2)) (fun t => (M (g + 4 + t) 3)) (M g 3) told) && decide (¬ tQ told = 99 ∧ (M (g + 4 + tT told) 6) ≤ (M (g + 4 + tT told) 5))))) 0 0 (fA E) := by
  refine f_head (by decide) (Nat.le_of_ble_eq_true rfl) ?_
  intro pg ev s mi below meth cd ls X hr hlk hP hS hl
  have hx := X.1.1
  have hb := X.1.2.1
  have hl : lv_has ls 2 [(0, .ref (fad E g)), (1, .int told)] := hl
  refine lv_aload_n hx hb dX1_isMetAsTold_0 rfl (lv_at hl 0 rfl) ?_
  refine lv_iload_n hx hb dX1_isMetAsTold_1 rfl (lv_at hl 1 rfl) ?_
  refine f_iV (n := 1) X hP hS [.int told] [] (c_X1_mayBeTold l E M L g told hk_g) m_4_87 wi_X1_mayBeTold hk_g rfl (by decide) (by decide +kernel) ⟨Nat.le_of_ble_eq_true rfl, Nat.le_of_ble_eq_true rfl⟩ rfl hl rfl (Nat.le_of_ble_eq_true rfl) ⟨Nat.zero_le _, Nat.zero_le _⟩ dX1_isMetAsTold_2 (fun H locs hP hS => ?_)
  refine lv_if_eq (tgt := 37) hx hb dX1_isMetAsTold_5 (by decide) (fun c_5 => ?_) (fun c_5 => ?_)
  · have c_5 := bIf0 c_5
    refine lv_iconst (v := 0) hx hb dX1_isMetAsTold_37 (by decide) ?_
    refine f_ir X hlk hr (v := 0) rfl hP hS ?_ dX1_isMetAsTold_38
    refine ⟨rfl, ?_⟩; first | (rw [c_5]; first | exact (bIe (fun h => c_30 h.2)).symm | exact (bIt ⟨c_14, c_30⟩).symm | exact (bIe (fun h => h.1 c_14)).symm) | (rw [c_5]; rfl)
  · have c_5 := bIf1 c_5
    have hlt : tT told < 8 := (fIx_lt 8 (mayB_ix c_5).1 (mayB_ix c_5).2 (by decide)).2.2
    refine lv_iload_n hx hb dX1_isMetAsTold_8 rfl (lv_at hl 1 rfl) ?_
    refine lv_bipush (v := 100) hx hb dX1_isMetAsTold_9 (by decide) ?_
    refine lv_irem hx hb dX1_isMetAsTold_11 (by decide) ?_
    refine lv_bipush (v := 99) hx hb dX1_isMetAsTold_12 (by decide) ?_
    refine lv_icmp_eq (tgt := 37) hx hb dX1_isMetAsTold_14 (by decide) (fun c_14 => ?_) (fun c_14 => ?_)
    · refine lv_iconst (v := 0) hx hb dX1_isMetAsTold_37 (by decide) ?_
      refine f_ir X hlk hr (v := 0) rfl hP hS ?_ dX1_isMetAsTold_38
      refine ⟨rfl, ?_⟩; first | (rw [c_5]; first | exact (bIe (fun h => c_30 h.2)).symm | exact (bIt ⟨c_14, c_30⟩).symm | exact (bIe (fun h => h.1 c_14)).symm) | (rw [c_5]; rfl)
    · refine lv_aload_n hx hb dX1_isMetAsTold_17 rfl (lv_at hl 0 rfl) ?_
      refine f_get X hP (T := TX1) (ci := 1) (k := g) hk_g inX1 rfl 0 (by decide) m_1_107 rfl (v := .ref (fad E (g + 1))) rfl dX1_isMetAsTold_18 ?_
      refine lv_iload_n hx hb dX1_isMetAsTold_21 rfl (lv_at hl 1 rfl) ?_
      refine lv_bipush (v := 100) hx hb dX1_isMetAsTold_22 (by decide) ?_
      refine lv_idiv hx hb dX1_isMetAsTold_24 (by decide) ?_
      refine f_aald X hP (t := 12) (d := 3) (n := 8) (r := (tT told)) (sh_g1 hk_g) (ln_g1 hk_g) (.inr (.inl ⟨rfl, rfl⟩)) (fIx_lt 8 (mayB_ix c_5).1 (mayB_ix c_5).2 (by decide)) (g + 4 + (tT told)) (by omega) dX1_isMetAsTold_25 ?_
      refine lv_iconst (v := 0) hx hb dX1_isMetAsTold_26 (by decide) ?_
      refine f_iV (n := 1) X hP hS [.int 0] [] (c_X5_isMet l E M L (g + 4 + (tT told)) 0 (sh_gt hk_g (by omega))) m_4_29 wi_X5_isMet (sh_gt hk_g (by omega)) rfl (by decide) (by decide +kernel) ⟨Nat.le_of_ble_eq_true rfl, Nat.le_of_ble_eq_true rfl⟩ rfl hl rfl (Nat.le_of_ble_eq_true rfl) ⟨Nat.zero_le _, Nat.zero_le _⟩ dX1_isMetAsTold_27 (fun H locs hP hS => ?_)
      refine lv_if_eq (tgt := 37) hx hb dX1_isMetAsTold_30 (by decide) (fun c_30 => ?_) (fun c_30 => ?_)
      · have c_30 := bI0 c_30
        refine lv_iconst (v := 0) hx hb dX1_isMetAsTold_37 (by decide) ?_
        refine f_ir X hlk hr (v := 0) rfl hP hS ?_ dX1_isMetAsTold_38
        refine ⟨rfl, ?_⟩; first | (rw [c_5]; first | exact (bIe (fun h => c_30 h.2)).symm | exact (bIt ⟨c_14, c_30⟩).symm | exact (bIe (fun h => h.1 c_14)).symm) | (rw [c_5]; rfl)
      · have c_30 := bI1 c_30
        refine lv_iconst (v := 1) hx hb dX1_isMetAsTold_33 (by decide) ?_
        refine lv_goto (tgt := 38) hx hb dX1_isMetAsTold_34 (by decide) ?_
        refine f_ir X hlk hr (v := 1) rfl hP hS ?_ dX1_isMetAsTold_38
        refine ⟨rfl, ?_⟩; first | (rw [c_5]; first | exact (bIe (fun h => c_30 h.2)).symm | exact (bIt ⟨c_14, c_30⟩).symm | exact (bIe (fun h => h.1 c_14)).symm) | (rw [c_5]; rfl)

set_option maxHeartbeats 4000000 in
set_option maxRecDepth 100000 in
theorem c_X1_worthAsTold (l : Launch) (E : fE) (M : Nat → Nat → Int32) (L : Nat → Nat → Int64) (g : Nat) (told : Int32) (hk_g : fsh g = 1) : Met l yX1_worthAsTold (wl yX1_worthAsTold cX1_worthAsTold 2 (some .int)) (fRm 4 86) (va_Pc [.ref (fad E g), .int told] (fPre E M L)) (fQi E (fun r u => u = (M, L) ∧ r = (if (mayB (fun t => (M (g + 4 + t) 1)) (fun t => (M (g + 4 + t) 2)) (fun t => (M (g + 4 + t) 3)) (M g 3) told) = true then (M (g + 4 + tT told) 4) else 0))) 0 0 (fA E) := by
  refine f_head (by decide) (Nat.le_of_ble_eq_true rfl) ?_
  intro pg ev s mi below meth cd ls X hr hlk hP hS hl
  have hx := X.1.1
  have hb := X.1.2.1
  have hl : lv_has ls 2 [(0, .ref (fad E g)), (1, .int told)] := hl
  refine lv_aload_n hx hb dX1_worthAsTold_0 rfl (lv_at hl 0 rfl) ?_
  refine lv_iload_n hx hb dX1_worthAsTold_1 rfl (lv_at hl 1 rfl) ?_
  refine f_iV (n := 1) X hP hS [.int told] [] (c_X1_mayBeTold l E M L g told hk_g) m_4_87 wi_X1_mayBeTold hk_g rfl (by decide) (by decide +kernel) ⟨Nat.le_of_ble_eq_true rfl, Nat.le_of_ble_eq_true rfl⟩ rfl hl rfl (Nat.le_of_ble_eq_true rfl) ⟨Nat.zero_le _, Nat.zero_le _⟩ dX1_worthAsTold_2 (fun H locs hP hS => ?_)
  refine lv_if_eq (tgt := 23) hx hb dX1_worthAsTold_5 (by decide) (fun c_5 => ?_) (fun c_5 => ?_)
  · have c_5 := bIf0 c_5
    refine lv_iconst (v := 0) hx hb dX1_worthAsTold_23 (by decide) ?_
    refine f_ir X hlk hr (v := 0) rfl hP hS ?_ dX1_worthAsTold_24
    refine ⟨rfl, ?_⟩; rw [c_5]; rfl
  · have c_5 := bIf1 c_5
    have hlt : tT told < 8 := (fIx_lt 8 (mayB_ix c_5).1 (mayB_ix c_5).2 (by decide)).2.2
    refine lv_aload_n hx hb dX1_worthAsTold_8 rfl (lv_at hl 0 rfl) ?_
    refine f_get X hP (T := TX1) (ci := 1) (k := g) hk_g inX1 rfl 0 (by decide) m_1_107 rfl (v := .ref (fad E (g + 1))) rfl dX1_worthAsTold_9 ?_
    refine lv_iload_n hx hb dX1_worthAsTold_12 rfl (lv_at hl 1 rfl) ?_
    refine lv_bipush (v := 100) hx hb dX1_worthAsTold_13 (by decide) ?_
    refine lv_idiv hx hb dX1_worthAsTold_15 (by decide) ?_
    refine f_aald X hP (t := 12) (d := 3) (n := 8) (r := (tT told)) (sh_g1 hk_g) (ln_g1 hk_g) (.inr (.inl ⟨rfl, rfl⟩)) (fIx_lt 8 (mayB_ix c_5).1 (mayB_ix c_5).2 (by decide)) (g + 4 + (tT told)) (by omega) dX1_worthAsTold_16 ?_
    refine f_get X hP (T := TX5) (ci := 5) (k := (g + 4 + (tT told))) (sh_gt hk_g (by omega)) inX5 rfl 4 (by decide) m_1_51 rfl (v := .int (M (g + 4 + (tT told)) 4)) rfl dX1_worthAsTold_17 ?_
    refine lv_goto (tgt := 24) hx hb dX1_worthAsTold_20 (by decide) ?_
    refine f_ir X hlk hr (v := (M (g + 4 + (tT told)) 4)) rfl hP hS ?_ dX1_worthAsTold_24
    refine ⟨rfl, ?_⟩; rw [c_5]; rfl

set_option maxHeartbeats 4000000 in
set_option maxRecDepth 100000 in
theorem c_X1_draw (l : Launch) (E : fE) (M : Nat → Nat → Int32) (L : Nat → Nat → Int64) (g : Nat) (n : Int32) (hk_g : fsh g = 1) : Met l yX1_draw (wl yX1_draw cX1_draw 2 (some .int)) (fRm 0 0) (va_Pc [.ref (fad E g), .int n] (fPre E M L)) (fQi E (fun r u => u = ((up2 M g 9 (drawS (M g 9))), L) ∧ r = drawV (drawS (M g 9)) n)) 0 0 (fA E) := by
  refine f_head (by decide) (Nat.le_of_ble_eq_true rfl) ?_
  intro pg ev s mi below meth cd ls X hr hlk hP hS hl
  have hx := X.1.1
  have hb := X.1.2.1
  have hl : lv_has ls 2 [(0, .ref (fad E g)), (1, .int n)] := hl
  refine lv_aload_n hx hb dX1_draw_0 rfl (lv_at hl 0 rfl) ?_
  refine lv_aload_n hx hb dX1_draw_1 rfl (lv_at hl 0 rfl) ?_
  refine f_get X hP (T := TX1) (ci := 1) (k := g) hk_g inX1 rfl 9 (by decide) m_1_130 rfl (v := .int (M g 9)) rfl dX1_draw_2 ?_
  refine lv_ldc (v := 1103515245) hx hb X.1.2.2.2.1 (X.ht m_4_108) dX1_draw_5 ?_
  refine lv_imul hx hb dX1_draw_7 ?_
  refine lv_sipush (v := 12345) hx hb dX1_draw_8 (by decide) ?_
  refine lv_iadd hx hb dX1_draw_11 ?_
  refine f_put X hP hS (T := TX1) (ci := 1) (k := g) hk_g inX1 rfl tyX1 tyX1_ok nmX1 9 (by decide) m_1_130 ⟨rfl, rfl⟩ rfl (v := (((M g 9) * 1103515245) + 12345)) rfl rfl dX1_draw_12 (fun H locs hP hS => ?_)
  refine lv_iload_n hx hb dX1_draw_15 rfl (lv_at hl 1 rfl) ?_
  refine lv_if_le (tgt := 31) hx hb dX1_draw_16 (by decide) (fun c_16 => ?_) (fun c_16 => ?_)
  · refine lv_iconst (v := 0) hx hb dX1_draw_31 (by decide) ?_
    refine f_ir X hlk hr (v := 0) rfl hP hS ?_ dX1_draw_32
    refine ⟨rfl, ?_⟩; unfold drawV; first | exact (if_pos c_16).symm | exact (if_neg c_16).symm
  · refine lv_aload_n hx hb dX1_draw_19 rfl (lv_at hl 0 rfl) ?_
    refine f_get X hP (T := TX1) (ci := 1) (k := g) hk_g inX1 rfl 9 (by decide) m_1_130 rfl (v := .int (((M g 9) * 1103515245) + 12345)) (congrArg Value.int (up2_s _ _ _ _)) dX1_draw_20 ?_
    refine lv_bipush (v := 16) hx hb dX1_draw_23 (by decide) ?_
    refine lv_iushr (v := (ush (((M g 9) * 1103515245) + 12345) 16)) hx hb dX1_draw_25 rfl ?_
    refine lv_iload_n hx hb dX1_draw_26 rfl (lv_at hl 1 rfl) ?_
    refine lv_irem hx hb dX1_draw_27 (fun q => c_16 (q ▸ Int32.le_refl _)) ?_
    refine lv_goto (tgt := 32) hx hb dX1_draw_28 (by decide) ?_
    refine f_ir X hlk hr (v := ((ush (((M g 9) * 1103515245) + 12345) 16) - (ush (((M g 9) * 1103515245) + 12345) 16) / n * n)) rfl hP hS ?_ dX1_draw_32
    refine ⟨rfl, ?_⟩; unfold drawV; first | exact (if_pos c_16).symm | exact (if_neg c_16).symm

set_option maxHeartbeats 4000000 in
set_option maxRecDepth 100000 in
theorem c_X1_become (l : Launch) (E : fE) (M : Nat → Nat → Int32) (L : Nat → Nat → Int64) (g : Nat) (o : Nat) (hk_g : fsh g = 1) (hk_o : fsh o = 1) (hne : g ≠ o) : Met l yX1_become (wl yX1_become cX1_become 3 none) (fRm 1 21) (va_Pc [.ref (fad E g), .ref (fad E o)] (fPre E M L)) (fQv E (fun u => u = ((cpG M g o), L))) 0 0 (fA E) := by
  refine f_head (by decide) (Nat.le_of_ble_eq_true rfl) ?_
  intro pg ev s mi below meth cd ls X hr hlk hP hS hl
  have hx := X.1.1
  have hb := X.1.2.1
  have hl : lv_has ls 3 [(0, .ref (fad E g)), (1, .ref (fad E o))] := hl
  have hgd := fGd_of hk_g
  have hod := fGd_of hk_o
  have hP := fP_eq (show (cpT M g o 0) = M from by
      funext x9 y9; exact if_neg (by omega)) hP
  refine lv_iconst (v := 0) hx hb dX1_become_0 (by decide) ?_
  refine lv_istore_n (lv' := [(2, .int 0), (0, .ref (fad E g)), (1, .ref (fad E o))]) hx hb dX1_become_1 rfl hl (by decide) rfl (fun ls hl => ?_)
  refine f_loop (α := Nat) (fun (t : Nat) H locs ls => fP E (cpT M g o t) L H ∧ va_S (fA E) s.heap H locs ∧ lv_has ls 3 [(2, .int (nI t)), (0, .ref (fad E g)), (1, .ref (fad E o))] ∧ (t ≤ 8)) (fun (t : Nat) => 8 - t) (pc0 := 2) (st := fun _ => []) ?_ 0 _ _ _ ⟨hP, hS, lv_sub hl [0, 1, 2] rfl, (by omega)⟩
  rintro t H locs ls ⟨hP, hS, hl, ht⟩ ih_2
  refine lv_iload_n hx hb dX1_become_2 rfl (lv_at hl 0 rfl) ?_
  refine lv_bipush (v := 8) hx hb dX1_become_3 (by decide) ?_
  refine lv_icmp_ge (tgt := 29) hx hb dX1_become_5 (by decide) (fun c_5 => ?_) (fun c_5 => ?_)
  · have c_5 := (nI_le_iff (a := 8) (b := t) (by omega) (by omega)).mp c_5
    obtain rfl : t = 8 := by omega
    have hP := fP_eq (show (cpW M g o 0) = (cpT M g o 8) from by
        funext x9 y9; exact if_neg (by omega)) hP
    refine lv_iconst (v := 0) hx hb dX1_become_29 (by decide) ?_
    refine lv_istore_n (lv' := [(2, .int 0), (0, .ref (fad E g)), (1, .ref (fad E o))]) hx hb dX1_become_30 rfl hl (by decide) rfl (fun ls hl => ?_)
    refine f_loop (α := Nat) (fun (w : Nat) H locs ls => fP E (cpW M g o w) L H ∧ va_S (fA E) s.heap H locs ∧ lv_has ls 3 [(2, .int (nI w)), (0, .ref (fad E g)), (1, .ref (fad E o))] ∧ (w ≤ 6)) (fun (w : Nat) => 6 - w) (pc0 := 31) (st := fun _ => []) ?_ 0 _ _ _ ⟨hP, hS, lv_sub hl [0, 1, 2] rfl, (by omega)⟩
    rintro w H locs ls ⟨hP, hS, hl, hw⟩ ih_31
    refine lv_iload_n hx hb dX1_become_31 rfl (lv_at hl 0 rfl) ?_
    refine lv_bipush (v := 6) hx hb dX1_become_32 (by decide) ?_
    refine lv_icmp_ge (tgt := 58) hx hb dX1_become_34 (by decide) (fun c_34 => ?_) (fun c_34 => ?_)
    · have c_34 := (nI_le_iff (a := 6) (b := w) (by omega) (by omega)).mp c_34
      obtain rfl : w = 6 := by omega
      refine lv_aload_n hx hb dX1_become_58 rfl (lv_at hl 1 rfl) ?_
      refine lv_aload_n hx hb dX1_become_59 rfl (lv_at hl 2 rfl) ?_
      refine f_get X hP (T := TX1) (ci := 1) (k := o) hk_o inX1 rfl 3 (by decide) m_1_114 rfl (v := .int ((cpW M g o 6) o 3)) rfl dX1_become_60 ?_
      refine f_put X hP hS (T := TX1) (ci := 1) (k := g) hk_g inX1 rfl tyX1 tyX1_ok nmX1 3 (by decide) m_1_114 ⟨rfl, rfl⟩ rfl (v := ((cpW M g o 6) o 3)) rfl rfl dX1_become_63 (fun H locs hP hS => ?_)
      refine lv_aload_n hx hb dX1_become_66 rfl (lv_at hl 1 rfl) ?_
      refine lv_aload_n hx hb dX1_become_67 rfl (lv_at hl 2 rfl) ?_
      refine f_get X hP (T := TX1) (ci := 1) (k := o) hk_o inX1 rfl 4 (by decide) m_1_116 rfl (v := .int ((cpW M g o 6) o 4)) (congrArg Value.int (up2_o _ _ (Or.inr (by decide)))) dX1_become_68 ?_
      refine f_put X hP hS (T := TX1) (ci := 1) (k := g) hk_g inX1 rfl tyX1 tyX1_ok nmX1 4 (by decide) m_1_116 ⟨rfl, rfl⟩ rfl (v := ((cpW M g o 6) o 4)) rfl rfl dX1_become_71 (fun H locs hP hS => ?_)
      refine lv_aload_n hx hb dX1_become_74 rfl (lv_at hl 1 rfl) ?_
      refine lv_aload_n hx hb dX1_become_75 rfl (lv_at hl 2 rfl) ?_
      refine f_get X hP (T := TX1) (ci := 1) (k := o) hk_o inX1 rfl 5 (by decide) m_1_120 rfl (v := .int ((cpW M g o 6) o 5)) (congrArg Value.int ((up2_o _ _ (Or.inr (by decide))).trans (up2_o _ _ (Or.inr (by decide))))) dX1_become_76 ?_
      refine f_put X hP hS (T := TX1) (ci := 1) (k := g) hk_g inX1 rfl tyX1 tyX1_ok nmX1 5 (by decide) m_1_120 ⟨rfl, rfl⟩ rfl (v := ((cpW M g o 6) o 5)) rfl rfl dX1_become_79 (fun H locs hP hS => ?_)
      refine lv_aload_n hx hb dX1_become_82 rfl (lv_at hl 1 rfl) ?_
      refine lv_aload_n hx hb dX1_become_83 rfl (lv_at hl 2 rfl) ?_
      refine f_get X hP (T := TX1) (ci := 1) (k := o) hk_o inX1 rfl 6 (by decide) m_1_124 rfl (v := .int ((cpW M g o 6) o 6)) (congrArg Value.int ((up2_o _ _ (Or.inr (by decide))).trans ((up2_o _ _ (Or.inr (by decide))).trans (up2_o _ _ (Or.inr (by decide)))))) dX1_become_84 ?_
      refine f_put X hP hS (T := TX1) (ci := 1) (k := g) hk_g inX1 rfl tyX1 tyX1_ok nmX1 6 (by decide) m_1_124 ⟨rfl, rfl⟩ rfl (v := ((cpW M g o 6) o 6)) rfl rfl dX1_become_87 (fun H locs hP hS => ?_)
      refine lv_aload_n hx hb dX1_become_90 rfl (lv_at hl 1 rfl) ?_
      refine lv_aload_n hx hb dX1_become_91 rfl (lv_at hl 2 rfl) ?_
      refine f_get X hP (T := TX1) (ci := 1) (k := o) hk_o inX1 rfl 7 (by decide) m_1_126 rfl (v := .int ((cpW M g o 6) o 7)) (congrArg Value.int ((up2_o _ _ (Or.inr (by decide))).trans ((up2_o _ _ (Or.inr (by decide))).trans ((up2_o _ _ (Or.inr (by decide))).trans (up2_o _ _ (Or.inr (by decide))))))) dX1_become_92 ?_
      refine f_put X hP hS (T := TX1) (ci := 1) (k := g) hk_g inX1 rfl tyX1 tyX1_ok nmX1 7 (by decide) m_1_126 ⟨rfl, rfl⟩ rfl (v := ((cpW M g o 6) o 7)) rfl rfl dX1_become_95 (fun H locs hP hS => ?_)
      refine lv_aload_n hx hb dX1_become_98 rfl (lv_at hl 1 rfl) ?_
      refine lv_aload_n hx hb dX1_become_99 rfl (lv_at hl 2 rfl) ?_
      refine f_get X hP (T := TX1) (ci := 1) (k := o) hk_o inX1 rfl 8 (by decide) m_1_128 rfl (v := .int ((cpW M g o 6) o 8)) (congrArg Value.int ((up2_o _ _ (Or.inr (by decide))).trans ((up2_o _ _ (Or.inr (by decide))).trans ((up2_o _ _ (Or.inr (by decide))).trans ((up2_o _ _ (Or.inr (by decide))).trans (up2_o _ _ (Or.inr (by decide)))))))) dX1_become_100 ?_
      refine f_put X hP hS (T := TX1) (ci := 1) (k := g) hk_g inX1 rfl tyX1 tyX1_ok nmX1 8 (by decide) m_1_128 ⟨rfl, rfl⟩ rfl (v := ((cpW M g o 6) o 8)) rfl rfl dX1_become_103 (fun H locs hP hS => ?_)
      refine lv_aload_n hx hb dX1_become_106 rfl (lv_at hl 1 rfl) ?_
      refine lv_aload_n hx hb dX1_become_107 rfl (lv_at hl 2 rfl) ?_
      refine f_get X hP (T := TX1) (ci := 1) (k := o) hk_o inX1 rfl 9 (by decide) m_1_130 rfl (v := .int ((cpW M g o 6) o 9)) (congrArg Value.int ((up2_o _ _ (Or.inr (by decide))).trans ((up2_o _ _ (Or.inr (by decide))).trans ((up2_o _ _ (Or.inr (by decide))).trans ((up2_o _ _ (Or.inr (by decide))).trans ((up2_o _ _ (Or.inr (by decide))).trans (up2_o _ _ (Or.inr (by decide))))))))) dX1_become_108 ?_
      refine f_put X hP hS (T := TX1) (ci := 1) (k := g) hk_g inX1 rfl tyX1 tyX1_ok nmX1 9 (by decide) m_1_130 ⟨rfl, rfl⟩ rfl (v := ((cpW M g o 6) o 9)) rfl rfl dX1_become_111 (fun H locs hP hS => ?_)
      refine f_vr X hlk hr hP hS ?_ dX1_become_114
      show _ = _
      rw [cpG_s hgd hod hne]
    · have c_34 := (not_congr (nI_le_iff (a := 6) (b := w) (by omega) (by omega))).mp c_34
      refine lv_aload_n hx hb dX1_become_37 rfl (lv_at hl 1 rfl) ?_
      refine f_get X hP (T := TX1) (ci := 1) (k := g) hk_g inX1 rfl 1 (by decide) m_1_109 rfl (v := .ref (fad E (g + 2))) rfl dX1_become_38 ?_
      refine lv_iload_n hx hb dX1_become_41 rfl (lv_at hl 0 rfl) ?_
      refine f_aald X hP (t := 13) (d := 10) (n := 6) (r := w) (sh_g2 hk_g) (ln_g2 hk_g) (.inr (.inr (.inl ⟨rfl, rfl⟩))) (fIx_nI (by omega) (by decide)) (g + 12 + w) (by omega) dX1_become_42 ?_
      refine lv_aload_n hx hb dX1_become_43 rfl (lv_at hl 2 rfl) ?_
      refine f_get X hP (T := TX1) (ci := 1) (k := o) hk_o inX1 rfl 1 (by decide) m_1_109 rfl (v := .ref (fad E (o + 2))) rfl dX1_become_44 ?_
      refine lv_iload_n hx hb dX1_become_47 rfl (lv_at hl 0 rfl) ?_
      refine f_aald X hP (t := 13) (d := 10) (n := 6) (r := w) (sh_g2 hk_o) (ln_g2 hk_o) (.inr (.inr (.inl ⟨rfl, rfl⟩))) (fIx_nI (by omega) (by decide)) (o + 12 + w) (by omega) dX1_become_48 ?_
      refine f_vV (n := 1) X hP hS [.ref (fad E (o + 12 + w))] [] (c_X6_become l E (cpW M g o w) L (g + 12 + w) (o + 12 + w) (sh_gw hk_g (by omega)) (sh_gw hk_o (by omega)) (by unfold fGd at hgd hod; omega)) m_2_232 wi_X6_become (sh_gw hk_g (by omega)) rfl (by decide) (by decide +kernel) ⟨Nat.le_of_ble_eq_true rfl, Nat.le_of_ble_eq_true rfl⟩ rfl hl rfl (Nat.le_of_ble_eq_true rfl) ⟨Nat.zero_le _, Nat.zero_le _⟩ dX1_become_49 (fun H locs hP hS => ?_)
      refine lv_iinc (v := (nI (w + 1))) (lv' := [(2, .int (nI (w + 1))), (0, .ref (fad E g)), (1, .ref (fad E o))]) hx hb dX1_become_52 hl (k := 0) rfl (nI_1 _) (by decide) rfl (fun ls hl => ?_)
      refine lv_goto (tgt := 31) hx hb dX1_become_55 (by decide) ?_
      have hP := fP_eq (show (cpW M g o (w + 1)) = (up2 (up2 (up2 (up2 (up2 (cpW M g o w) (g + 12 + w) 1 ((cpW M g o w) (o + 12 + w) 1)) (g + 12 + w) 2 ((cpW M g o w) (o + 12 + w) 2)) (g + 12 + w) 3 ((cpW M g o w) (o + 12 + w) 3)) (g + 12 + w) 4 ((cpW M g o w) (o + 12 + w) 4)) (g + 12 + w) 5 ((cpW M g o w) (o + 12 + w) 5)) from by
          exact (cpW_s hgd hod hne (by omega)).symm) hP
      exact ih_31 (w + 1) _ _ _ (by show 6 - (w + 1) < 6 - w; omega) ⟨hP, hS, lv_sub hl [0, 1, 2] rfl, (by omega)⟩
  · have c_5 := (not_congr (nI_le_iff (a := 8) (b := t) (by omega) (by omega))).mp c_5
    refine lv_aload_n hx hb dX1_become_8 rfl (lv_at hl 1 rfl) ?_
    refine f_get X hP (T := TX1) (ci := 1) (k := g) hk_g inX1 rfl 0 (by decide) m_1_107 rfl (v := .ref (fad E (g + 1))) rfl dX1_become_9 ?_
    refine lv_iload_n hx hb dX1_become_12 rfl (lv_at hl 0 rfl) ?_
    refine f_aald X hP (t := 12) (d := 3) (n := 8) (r := t) (sh_g1 hk_g) (ln_g1 hk_g) (.inr (.inl ⟨rfl, rfl⟩)) (fIx_nI (by omega) (by decide)) (g + 4 + t) (by omega) dX1_become_13 ?_
    refine lv_aload_n hx hb dX1_become_14 rfl (lv_at hl 2 rfl) ?_
    refine f_get X hP (T := TX1) (ci := 1) (k := o) hk_o inX1 rfl 0 (by decide) m_1_107 rfl (v := .ref (fad E (o + 1))) rfl dX1_become_15 ?_
    refine lv_iload_n hx hb dX1_become_18 rfl (lv_at hl 0 rfl) ?_
    refine f_aald X hP (t := 12) (d := 3) (n := 8) (r := t) (sh_g1 hk_o) (ln_g1 hk_o) (.inr (.inl ⟨rfl, rfl⟩)) (fIx_nI (by omega) (by decide)) (o + 4 + t) (by omega) dX1_become_19 ?_
    refine f_vV (n := 1) X hP hS [.ref (fad E (o + 4 + t))] [] (c_X5_become l E (cpT M g o t) L (g + 4 + t) (o + 4 + t) (sh_gt hk_g (by omega)) (sh_gt hk_o (by omega)) (by unfold fGd at hgd hod; omega)) m_2_228 wi_X5_become (sh_gt hk_g (by omega)) rfl (by decide) (by decide +kernel) ⟨Nat.le_of_ble_eq_true rfl, Nat.le_of_ble_eq_true rfl⟩ rfl hl rfl (Nat.le_of_ble_eq_true rfl) ⟨Nat.zero_le _, Nat.zero_le _⟩ dX1_become_20 (fun H locs hP hS => ?_)
    refine lv_iinc (v := (nI (t + 1))) (lv' := [(2, .int (nI (t + 1))), (0, .ref (fad E g)), (1, .ref (fad E o))]) hx hb dX1_become_23 hl (k := 0) rfl (nI_1 _) (by decide) rfl (fun ls hl => ?_)
    refine lv_goto (tgt := 2) hx hb dX1_become_26 (by decide) ?_
    have hP := fP_eq (show (cpT M g o (t + 1)) = (up2 (up2 (up2 (up2 (up2 (up2 (up2 (cpT M g o t) (g + 4 + t) 0 ((cpT M g o t) (o + 4 + t) 0)) (g + 4 + t) 1 ((cpT M g o t) (o + 4 + t) 1)) (g + 4 + t) 2 ((cpT M g o t) (o + 4 + t) 2)) (g + 4 + t) 3 ((cpT M g o t) (o + 4 + t) 3)) (g + 4 + t) 4 ((cpT M g o t) (o + 4 + t) 4)) (g + 4 + t) 5 ((cpT M g o t) (o + 4 + t) 5)) (g + 4 + t) 6 ((cpT M g o t) (o + 4 + t) 6)) from by
        exact (cpT_s hgd hod hne (by omega)).symm) hP
    exact ih_2 (t + 1) _ _ _ (by show 8 - (t + 1) < 8 - t; omega) ⟨hP, hS, lv_sub hl [0, 1, 2] rfl, (by omega)⟩

set_option maxHeartbeats 4000000 in
set_option maxRecDepth 100000 in
theorem c_X1_passDay (l : Launch) (E : fE) (M : Nat → Nat → Int32) (L : Nat → Nat → Int64) (g : Nat) (tc wc : Nat) (hk_g : fsh g = 1) (htc : M g 3 = nI tc) (htc8 : tc ≤ 8) (hwc : M g 4 = nI wc) (hwc6 : wc ≤ 6) : Met l yX1_passDay (wl yX1_passDay cX1_passDay 4 none) (fRm 3 63) (va_Pc [.ref (fad E g)] (fPre E M L)) (fQv E (fun u => u = ((up2 (up2 (up2 (up2 M g 9 (dayI (fun t => (M (g + 4 + t) 1)) (fun t => (M (g + 4 + t) 2)) (fun t => (M (g + 4 + t) 3)) (fun t => (M (g + 4 + t) 4)) (fun t => (M (g + 4 + t) 5)) (fun t => (M (g + 4 + t) 6)) (M g 9) (M g 7) tc).1) g 7 (dayI (fun t => (M (g + 4 + t) 1)) (fun t => (M (g + 4 + t) 2)) (fun t => (M (g + 4 + t) 3)) (fun t => (M (g + 4 + t) 4)) (fun t => (M (g + 4 + t) 5)) (fun t => (M (g + 4 + t) 6)) (M g 9) (M g 7) tc).2) g 8 (wagesI (fun w => (M (g + 12 + w) 1)) (fun w => (M (g + 12 + w) 2)) (fun w => (M (g + 12 + w) 3)) (fun w => (M (g + 12 + w) 4)) (M g 5) (M g 8) wc)) g 6 ((M g 6) + 1)), L))) 0 0 (fA E) := by
  refine f_head (by decide) (Nat.le_of_ble_eq_true rfl) ?_
  intro pg ev s mi below meth cd ls X hr hlk hP hS hl
  have hx := X.1.1
  have hb := X.1.2.1
  have hl : lv_has ls 4 [(0, .ref (fad E g))] := hl
  have hP := fP_eq (show (up2 (up2 M g 9 (M g 9)) g 7 (M g 7)) = M from by
      rw [up2_id, up2_id]) hP
  refine lv_iconst (v := 0) hx hb dX1_passDay_0 (by decide) ?_
  refine lv_istore_n (lv' := [(1, .int 0), (0, .ref (fad E g))]) hx hb dX1_passDay_1 rfl hl (by decide) rfl (fun ls hl => ?_)
  refine f_loop (α := Nat × Int32 × Int32) (fun (a : Nat × Int32 × Int32) H locs ls => match a with | (t, sd, tk) => fP E (up2 (up2 M g 9 sd) g 7 tk) L H ∧ va_S (fA E) s.heap H locs ∧ lv_has ls 4 [(1, .int (nI t)), (0, .ref (fad E g))] ∧ (t ≤ tc) ∧ ((sd, tk) = (dayI (fun t => M (g + 4 + t) 1) (fun t => M (g + 4 + t) 2) (fun t => M (g + 4 + t) 3) (fun t => M (g + 4 + t) 4) (fun t => M (g + 4 + t) 5) (fun t => M (g + 4 + t) 6) (M g 9) (M g 7) t))) (fun (a : Nat × Int32 × Int32) => match a with | (t, sd, tk) => tc - t) (pc0 := 2) (st := fun _ => []) ?_ (0, (M g 9), (M g 7)) _ _ _ ⟨hP, hS, lv_sub hl [0, 1] rfl, (by omega), rfl⟩
  rintro ⟨t, sd, tk⟩ H locs ls ⟨hP, hS, hl, ht, hdy⟩ ih_2
  refine lv_iload_n hx hb dX1_passDay_2 rfl (lv_at hl 0 rfl) ?_
  refine lv_aload_n hx hb dX1_passDay_3 rfl (lv_at hl 1 rfl) ?_
  refine f_get X hP (T := TX1) (ci := 1) (k := g) hk_g inX1 rfl 3 (by decide) m_1_114 rfl (v := .int (nI tc)) (congrArg Value.int (((up2_o _ _ (Or.inr (by decide))).trans (up2_o _ _ (Or.inr (by decide)))).trans htc)) dX1_passDay_4 ?_
  refine lv_icmp_ge (tgt := 66) hx hb dX1_passDay_7 (by decide) (fun c_7 => ?_) (fun c_7 => ?_)
  · have c_7 := (nI_le_iff (a := tc) (b := t) (by omega) (by omega)).mp c_7
    obtain rfl : tc = t := by omega
    have hP := fP_eq (show (up2 (up2 (up2 M g 9 sd) g 7 tk) g 8 (M g 8)) = (up2 (up2 M g 9 sd) g 7 tk) from by
        have e8 : M g 8 = (up2 (up2 M g 9 sd) g 7 tk) g 8 := by rw [up2_o _ _ (Or.inr (by decide)), up2_o _ _ (Or.inr (by decide))]
        rw [e8, up2_id]) hP
    refine lv_iconst (v := 0) hx hb dX1_passDay_66 (by decide) ?_
    refine lv_istore_n (lv' := [(1, .int 0), (0, .ref (fad E g))]) hx hb dX1_passDay_67 rfl hl (by decide) rfl (fun ls hl => ?_)
    refine f_loop (α := Nat × Int32) (fun (a : Nat × Int32) H locs ls => match a with | (w, wg) => fP E (up2 (up2 (up2 M g 9 sd) g 7 tk) g 8 wg) L H ∧ va_S (fA E) s.heap H locs ∧ lv_has ls 4 [(1, .int (nI w)), (0, .ref (fad E g))] ∧ (w ≤ wc) ∧ (wg = (wagesI (fun w => M (g + 12 + w) 1) (fun w => M (g + 12 + w) 2) (fun w => M (g + 12 + w) 3) (fun w => M (g + 12 + w) 4) (M g 5) (M g 8) w))) (fun (a : Nat × Int32) => match a with | (w, wg) => wc - w) (pc0 := 68) (st := fun _ => []) ?_ (0, (M g 8)) _ _ _ ⟨hP, hS, lv_sub hl [0, 1] rfl, (by omega), rfl⟩
    rintro ⟨w, wg⟩ H locs ls ⟨hP, hS, hl, hw, hwg⟩ ih_68
    refine lv_iload_n hx hb dX1_passDay_68 rfl (lv_at hl 0 rfl) ?_
    refine lv_aload_n hx hb dX1_passDay_69 rfl (lv_at hl 1 rfl) ?_
    refine f_get X hP (T := TX1) (ci := 1) (k := g) hk_g inX1 rfl 4 (by decide) m_1_116 rfl (v := .int (nI wc)) (congrArg Value.int (((up2_o _ _ (Or.inr (by decide))).trans ((up2_o _ _ (Or.inr (by decide))).trans (up2_o _ _ (Or.inr (by decide))))).trans hwc)) dX1_passDay_70 ?_
    refine lv_icmp_ge (tgt := 117) hx hb dX1_passDay_73 (by decide) (fun c_73 => ?_) (fun c_73 => ?_)
    · have c_73 := (nI_le_iff (a := wc) (b := w) (by omega) (by omega)).mp c_73
      obtain rfl : wc = w := by omega
      refine lv_aload_n hx hb dX1_passDay_117 rfl (lv_at hl 1 rfl) ?_
      refine lv_dup hx hb dX1_passDay_118 rfl ?_
      refine f_get X hP (T := TX1) (ci := 1) (k := g) hk_g inX1 rfl 6 (by decide) m_1_124 rfl (v := .int (M g 6)) (congrArg Value.int ((up2_o _ _ (Or.inr (by decide))).trans ((up2_o _ _ (Or.inr (by decide))).trans (up2_o _ _ (Or.inr (by decide)))))) dX1_passDay_119 ?_
      refine lv_iconst (v := 1) hx hb dX1_passDay_122 (by decide) ?_
      refine lv_iadd hx hb dX1_passDay_123 ?_
      refine f_put X hP hS (T := TX1) (ci := 1) (k := g) hk_g inX1 rfl tyX1 tyX1_ok nmX1 6 (by decide) m_1_124 ⟨rfl, rfl⟩ rfl (v := ((M g 6) + 1)) rfl rfl dX1_passDay_124 (fun H locs hP hS => ?_)
      refine f_vr X hlk hr hP hS ?_ dX1_passDay_127
      show _ = _
      rw [← hdy, hwg]
    · have c_73 := (not_congr (nI_le_iff (a := wc) (b := w) (by omega) (by omega))).mp c_73
      refine lv_aload_n hx hb dX1_passDay_76 rfl (lv_at hl 1 rfl) ?_
      refine lv_dup hx hb dX1_passDay_77 rfl ?_
      refine f_get X hP (T := TX1) (ci := 1) (k := g) hk_g inX1 rfl 8 (by decide) m_1_128 rfl (v := .int wg) (congrArg Value.int (up2_s _ _ _ _)) dX1_passDay_78 ?_
      refine lv_aload_n hx hb dX1_passDay_81 rfl (lv_at hl 1 rfl) ?_
      refine f_get X hP (T := TX1) (ci := 1) (k := g) hk_g inX1 rfl 1 (by decide) m_1_109 rfl (v := .ref (fad E (g + 2))) rfl dX1_passDay_82 ?_
      refine lv_iload_n hx hb dX1_passDay_85 rfl (lv_at hl 0 rfl) ?_
      refine f_aald X hP (t := 13) (d := 10) (n := 6) (r := w) (sh_g2 hk_g) (ln_g2 hk_g) (.inr (.inr (.inl ⟨rfl, rfl⟩))) (fIx_nI (by omega) (by decide)) (g + 12 + w) (by omega) dX1_passDay_86 ?_
      refine lv_aload_n hx hb dX1_passDay_87 rfl (lv_at hl 1 rfl) ?_
      refine f_get X hP (T := TX1) (ci := 1) (k := g) hk_g inX1 rfl 1 (by decide) m_1_109 rfl (v := .ref (fad E (g + 2))) rfl dX1_passDay_88 ?_
      refine lv_iload_n hx hb dX1_passDay_91 rfl (lv_at hl 0 rfl) ?_
      refine f_aald X hP (t := 13) (d := 10) (n := 6) (r := w) (sh_g2 hk_g) (ln_g2 hk_g) (.inr (.inr (.inl ⟨rfl, rfl⟩))) (fIx_nI (by omega) (by decide)) (g + 12 + w) (by omega) dX1_passDay_92 ?_
      refine lv_aload_n hx hb dX1_passDay_93 rfl (lv_at hl 1 rfl) ?_
      refine f_get X hP (T := TX1) (ci := 1) (k := g) hk_g inX1 rfl 5 (by decide) m_1_120 rfl (v := .int (M g 5)) (congrArg Value.int ((up2_o _ _ (Or.inr (by decide))).trans ((up2_o _ _ (Or.inr (by decide))).trans (up2_o _ _ (Or.inr (by decide)))))) dX1_passDay_94 ?_
      refine f_iV (n := 1) X hP hS [.int (M g 5)] [.ref (fad E (g + 12 + w)), .int wg, .ref (fad E g)] (c_X6_quartersHeld l E (up2 (up2 (up2 M g 9 sd) g 7 tk) g 8 wg) L (g + 12 + w) (M g 5) (sh_gw hk_g (by omega))) m_3_138 wi_X6_quartersHeld (sh_gw hk_g (by omega)) rfl (by decide) (by decide +kernel) ⟨Nat.le_of_ble_eq_true rfl, Nat.le_of_ble_eq_true rfl⟩ rfl hl rfl (Nat.le_of_ble_eq_true rfl) ⟨Nat.zero_le _, Nat.zero_le _⟩ dX1_passDay_97 (fun H locs hP hS => ?_)
      refine f_topI (v := (holdF (M (g + 12 + w) 1) (M (g + 12 + w) 2) (M (g + 12 + w) 4) (M g 5))) (by rw [show ((up2 (up2 (up2 M g 9 sd) g 7 tk) g 8 wg) (g + 12 + w) 1) = (M (g + 12 + w) 1) from ((up2_o _ _ (Or.inr (by decide))).trans ((up2_o _ _ (Or.inr (by decide))).trans (up2_o _ _ (Or.inr (by decide))))), show ((up2 (up2 (up2 M g 9 sd) g 7 tk) g 8 wg) (g + 12 + w) 2) = (M (g + 12 + w) 2) from ((up2_o _ _ (Or.inr (by decide))).trans ((up2_o _ _ (Or.inr (by decide))).trans (up2_o _ _ (Or.inr (by decide))))), show ((up2 (up2 (up2 M g 9 sd) g 7 tk) g 8 wg) (g + 12 + w) 4) = (M (g + 12 + w) 4) from ((up2_o _ _ (Or.inr (by decide))).trans ((up2_o _ _ (Or.inr (by decide))).trans (up2_o _ _ (Or.inr (by decide)))))] <;> rfl) ?_
      refine lv_aload_n hx hb dX1_passDay_100 rfl (lv_at hl 1 rfl) ?_
      refine f_get X hP (T := TX1) (ci := 1) (k := g) hk_g inX1 rfl 5 (by decide) m_1_120 rfl (v := .int (M g 5)) (congrArg Value.int ((up2_o _ _ (Or.inr (by decide))).trans ((up2_o _ _ (Or.inr (by decide))).trans (up2_o _ _ (Or.inr (by decide)))))) dX1_passDay_101 ?_
      refine f_iV (n := 2) X hP hS [.int (holdF (M (g + 12 + w) 1) (M (g + 12 + w) 2) (M (g + 12 + w) 4) (M g 5)), .int (M g 5)] [.int wg, .ref (fad E g)] (c_X6_wageFor l E (up2 (up2 (up2 M g 9 sd) g 7 tk) g 8 wg) L (g + 12 + w) (holdF (M (g + 12 + w) 1) (M (g + 12 + w) 2) (M (g + 12 + w) 4) (M g 5)) (M g 5) (sh_gw hk_g (by omega))) m_3_144 wi_X6_wageFor (sh_gw hk_g (by omega)) rfl (by decide) (by decide +kernel) ⟨Nat.le_of_ble_eq_true rfl, Nat.le_of_ble_eq_true rfl⟩ rfl hl rfl (Nat.le_of_ble_eq_true rfl) ⟨Nat.zero_le _, Nat.zero_le _⟩ dX1_passDay_104 (fun H locs hP hS => ?_)
      refine f_topI (v := (wageF (M (g + 12 + w) 1) (M (g + 12 + w) 2) (M (g + 12 + w) 3) (M (g + 12 + w) 4) (M g 5) (holdF (M (g + 12 + w) 1) (M (g + 12 + w) 2) (M (g + 12 + w) 4) (M g 5)))) (by rw [show ((up2 (up2 (up2 M g 9 sd) g 7 tk) g 8 wg) (g + 12 + w) 1) = (M (g + 12 + w) 1) from ((up2_o _ _ (Or.inr (by decide))).trans ((up2_o _ _ (Or.inr (by decide))).trans (up2_o _ _ (Or.inr (by decide))))), show ((up2 (up2 (up2 M g 9 sd) g 7 tk) g 8 wg) (g + 12 + w) 2) = (M (g + 12 + w) 2) from ((up2_o _ _ (Or.inr (by decide))).trans ((up2_o _ _ (Or.inr (by decide))).trans (up2_o _ _ (Or.inr (by decide))))), show ((up2 (up2 (up2 M g 9 sd) g 7 tk) g 8 wg) (g + 12 + w) 3) = (M (g + 12 + w) 3) from ((up2_o _ _ (Or.inr (by decide))).trans ((up2_o _ _ (Or.inr (by decide))).trans (up2_o _ _ (Or.inr (by decide))))), show ((up2 (up2 (up2 M g 9 sd) g 7 tk) g 8 wg) (g + 12 + w) 4) = (M (g + 12 + w) 4) from ((up2_o _ _ (Or.inr (by decide))).trans ((up2_o _ _ (Or.inr (by decide))).trans (up2_o _ _ (Or.inr (by decide)))))] <;> rfl) ?_
      refine lv_iadd hx hb dX1_passDay_107 ?_
      refine f_put X hP hS (T := TX1) (ci := 1) (k := g) hk_g inX1 rfl tyX1 tyX1_ok nmX1 8 (by decide) m_1_128 ⟨rfl, rfl⟩ rfl (v := (wg + (wageF (M (g + 12 + w) 1) (M (g + 12 + w) 2) (M (g + 12 + w) 3) (M (g + 12 + w) 4) (M g 5) (holdF (M (g + 12 + w) 1) (M (g + 12 + w) 2) (M (g + 12 + w) 4) (M g 5))))) rfl rfl dX1_passDay_108 (fun H locs hP hS => ?_)
      refine lv_iinc (v := (nI (w + 1))) (lv' := [(1, .int (nI (w + 1))), (0, .ref (fad E g))]) hx hb dX1_passDay_111 hl (k := 0) rfl (nI_1 _) (by decide) rfl (fun ls hl => ?_)
      refine lv_goto (tgt := 68) hx hb dX1_passDay_114 (by decide) ?_
      have hP := fP_eq (show (up2 (up2 (up2 M g 9 sd) g 7 tk) g 8 (wg + (wageF (M (g + 12 + w) 1) (M (g + 12 + w) 2) (M (g + 12 + w) 3) (M (g + 12 + w) 4) (M g 5) (holdF (M (g + 12 + w) 1) (M (g + 12 + w) 2) (M (g + 12 + w) 4) (M g 5))))) = (up2 (up2 (up2 (up2 M g 9 sd) g 7 tk) g 8 wg) g 8 (wg + (wageF (M (g + 12 + w) 1) (M (g + 12 + w) 2) (M (g + 12 + w) 3) (M (g + 12 + w) 4) (M g 5) (holdF (M (g + 12 + w) 1) (M (g + 12 + w) 2) (M (g + 12 + w) 4) (M g 5))))) from by
          funext x9 y9
          simp only [up2_at]
          by_cases h9_0 : x9 = g ∧ y9 = 9
          · obtain ⟨rfl, rfl⟩ := h9_0; simp
          by_cases h9_1 : x9 = g ∧ y9 = 7
          · obtain ⟨rfl, rfl⟩ := h9_1; simp
          by_cases h9_2 : x9 = g ∧ y9 = 8
          · obtain ⟨rfl, rfl⟩ := h9_2; simp
          simp only [if_neg h9_0, if_neg h9_1, if_neg h9_2]) hP
      exact ih_68 ((w + 1), (wg + (wageF (M (g + 12 + w) 1) (M (g + 12 + w) 2) (M (g + 12 + w) 3) (M (g + 12 + w) 4) (M g 5) (holdF (M (g + 12 + w) 1) (M (g + 12 + w) 2) (M (g + 12 + w) 4) (M g 5))))) _ _ _ (by show wc - (w + 1) < wc - w; omega) ⟨hP, hS, lv_sub hl [0, 1] rfl, (by omega), (by rw [hwg]; rfl)⟩
  · have c_7 := (not_congr (nI_le_iff (a := tc) (b := t) (by omega) (by omega))).mp c_7
    refine lv_aload_n hx hb dX1_passDay_10 rfl (lv_at hl 1 rfl) ?_
    refine f_get X hP (T := TX1) (ci := 1) (k := g) hk_g inX1 rfl 0 (by decide) m_1_107 rfl (v := .ref (fad E (g + 1))) rfl dX1_passDay_11 ?_
    refine lv_iload_n hx hb dX1_passDay_14 rfl (lv_at hl 0 rfl) ?_
    refine f_aald X hP (t := 12) (d := 3) (n := 8) (r := t) (sh_g1 hk_g) (ln_g1 hk_g) (.inr (.inl ⟨rfl, rfl⟩)) (fIx_nI (by omega) (by decide)) (g + 4 + t) (by omega) dX1_passDay_15 ?_
    refine lv_astore_n (lv' := [(2, .ref (fad E (g + 4 + t))), (1, .int (nI t)), (0, .ref (fad E g))]) hx hb dX1_passDay_16 rfl hl (by decide) rfl (fun ls hl => ?_)
    refine lv_aload_n hx hb dX1_passDay_17 rfl (lv_at hl 0 rfl) ?_
    refine f_get X hP (T := TX5) (ci := 5) (k := (g + 4 + t)) (sh_gt hk_g (by omega)) inX5 rfl 1 (by decide) m_1_45 rfl (v := .int (M (g + 4 + t) 1)) (congrArg Value.int ((up2_o _ _ (Or.inr (by decide))).trans (up2_o _ _ (Or.inr (by decide))))) dX1_passDay_18 ?_
    refine lv_aload_n hx hb dX1_passDay_21 rfl (lv_at hl 2 rfl) ?_
    refine lv_aload_n hx hb dX1_passDay_22 rfl (lv_at hl 0 rfl) ?_
    refine f_iV (n := 0) X hP hS [] [.ref (fad E g), .int (M (g + 4 + t) 1)] (c_X5_cases l E (up2 (up2 M g 9 sd) g 7 tk) L (g + 4 + t) (sh_gt hk_g (by omega))) m_3_146 wi_X5_cases (sh_gt hk_g (by omega)) rfl (by decide) (by decide +kernel) ⟨Nat.le_of_ble_eq_true rfl, Nat.le_of_ble_eq_true rfl⟩ rfl hl rfl (Nat.le_of_ble_eq_true rfl) ⟨Nat.zero_le _, Nat.zero_le _⟩ dX1_passDay_23 (fun H locs hP hS => ?_)
    refine f_topI (v := ((M (g + 4 + t) 2) - (M (g + 4 + t) 1) + 1 + (M (g + 4 + t) 3))) (by rw [show ((up2 (up2 M g 9 sd) g 7 tk) (g + 4 + t) 2) = (M (g + 4 + t) 2) from ((up2_o _ _ (Or.inr (by decide))).trans (up2_o _ _ (Or.inr (by decide)))), show ((up2 (up2 M g 9 sd) g 7 tk) (g + 4 + t) 1) = (M (g + 4 + t) 1) from ((up2_o _ _ (Or.inr (by decide))).trans (up2_o _ _ (Or.inr (by decide)))), show ((up2 (up2 M g 9 sd) g 7 tk) (g + 4 + t) 3) = (M (g + 4 + t) 3) from ((up2_o _ _ (Or.inr (by decide))).trans (up2_o _ _ (Or.inr (by decide))))] <;> rfl) ?_
    refine f_iV (n := 1) X hP hS [.int ((M (g + 4 + t) 2) - (M (g + 4 + t) 1) + 1 + (M (g + 4 + t) 3))] [.int (M (g + 4 + t) 1)] (c_X1_draw l E (up2 (up2 M g 9 sd) g 7 tk) L g ((M (g + 4 + t) 2) - (M (g + 4 + t) 1) + 1 + (M (g + 4 + t) 3)) hk_g) m_4_104 wi_X1_draw hk_g rfl (by decide) (by decide +kernel) ⟨Nat.le_of_ble_eq_true rfl, Nat.le_of_ble_eq_true rfl⟩ rfl hl rfl (Nat.le_of_ble_eq_true rfl) ⟨Nat.zero_le _, Nat.zero_le _⟩ dX1_passDay_26 (fun H locs hP hS => ?_)
    have hP := fP_eq (show (up2 (up2 (up2 M g 9 sd) g 7 tk) g 9 (drawS sd)) = (up2 (up2 (up2 M g 9 sd) g 7 tk) g 9 (drawS ((up2 (up2 M g 9 sd) g 7 tk) g 9))) from by rw [show ((up2 (up2 M g 9 sd) g 7 tk) g 9) = sd from ((up2_o _ _ (Or.inr (by decide))).trans (up2_s _ _ _ _))]) hP
    refine f_topI (v := (drawV (drawS sd) ((M (g + 4 + t) 2) - (M (g + 4 + t) 1) + 1 + (M (g + 4 + t) 3)))) (by rw [show ((up2 (up2 M g 9 sd) g 7 tk) g 9) = sd from ((up2_o _ _ (Or.inr (by decide))).trans (up2_s _ _ _ _))] <;> rfl) ?_
    refine lv_iadd hx hb dX1_passDay_29 ?_
    refine lv_istore_n (lv' := [(3, .int ((M (g + 4 + t) 1) + (drawV (drawS sd) ((M (g + 4 + t) 2) - (M (g + 4 + t) 1) + 1 + (M (g + 4 + t) 3))))), (2, .ref (fad E (g + 4 + t))), (1, .int (nI t)), (0, .ref (fad E g))]) hx hb dX1_passDay_30 rfl hl (by decide) rfl (fun ls hl => ?_)
    refine lv_aload_n hx hb dX1_passDay_31 rfl (lv_at hl 1 rfl) ?_
    refine lv_iload_n hx hb dX1_passDay_32 rfl (lv_at hl 0 rfl) ?_
    refine f_iV (n := 1) X hP hS [.int ((M (g + 4 + t) 1) + (drawV (drawS sd) ((M (g + 4 + t) 2) - (M (g + 4 + t) 1) + 1 + (M (g + 4 + t) 3))))] [] (c_X5_canComeIn l E (up2 (up2 (up2 M g 9 sd) g 7 tk) g 9 (drawS sd)) L (g + 4 + t) ((M (g + 4 + t) 1) + (drawV (drawS sd) ((M (g + 4 + t) 2) - (M (g + 4 + t) 1) + 1 + (M (g + 4 + t) 3)))) (sh_gt hk_g (by omega))) m_4_43 wi_X5_canComeIn (sh_gt hk_g (by omega)) rfl (by decide) (by decide +kernel) ⟨Nat.le_of_ble_eq_true rfl, Nat.le_of_ble_eq_true rfl⟩ rfl hl rfl (Nat.le_of_ble_eq_true rfl) ⟨Nat.zero_le _, Nat.zero_le _⟩ dX1_passDay_33 (fun H locs hP hS => ?_)
    refine f_topI (v := (bI (decide ((M (g + 4 + t) 1) ≤ ((M (g + 4 + t) 1) + (drawV (drawS sd) ((M (g + 4 + t) 2) - (M (g + 4 + t) 1) + 1 + (M (g + 4 + t) 3)))) ∧ ((M (g + 4 + t) 1) + (drawV (drawS sd) ((M (g + 4 + t) 2) - (M (g + 4 + t) 1) + 1 + (M (g + 4 + t) 3)))) ≤ (M (g + 4 + t) 2))))) (by rw [show ((up2 (up2 (up2 M g 9 sd) g 7 tk) g 9 (drawS sd)) (g + 4 + t) 1) = (M (g + 4 + t) 1) from ((up2_o _ _ (Or.inr (by decide))).trans ((up2_o _ _ (Or.inr (by decide))).trans (up2_o _ _ (Or.inr (by decide))))), show ((up2 (up2 (up2 M g 9 sd) g 7 tk) g 9 (drawS sd)) (g + 4 + t) 2) = (M (g + 4 + t) 2) from ((up2_o _ _ (Or.inr (by decide))).trans ((up2_o _ _ (Or.inr (by decide))).trans (up2_o _ _ (Or.inr (by decide)))))] <;> rfl) ?_
    refine lv_if_eq (tgt := 60) hx hb dX1_passDay_36 (by decide) (fun c_36 => ?_) (fun c_36 => ?_)
    · have c_36 := bI0 c_36
      refine lv_iinc (v := (nI (t + 1))) (lv' := [(1, .int (nI (t + 1))), (3, .int ((M (g + 4 + t) 1) + (drawV (drawS sd) ((M (g + 4 + t) 2) - (M (g + 4 + t) 1) + 1 + (M (g + 4 + t) 3))))), (2, .ref (fad E (g + 4 + t))), (0, .ref (fad E g))]) hx hb dX1_passDay_60 hl (k := 2) rfl (nI_1 _) (by decide) rfl (fun ls hl => ?_)
      refine lv_goto (tgt := 2) hx hb dX1_passDay_63 (by decide) ?_
      have hP := fP_eq (show (up2 (up2 M g 9 (drawS sd)) g 7 tk) = (up2 (up2 (up2 M g 9 sd) g 7 tk) g 9 (drawS sd)) from by
          funext x9 y9
          simp only [up2_at]
          by_cases h9_0 : x9 = g ∧ y9 = 9
          · obtain ⟨rfl, rfl⟩ := h9_0; simp
          by_cases h9_1 : x9 = g ∧ y9 = 7
          · obtain ⟨rfl, rfl⟩ := h9_1; simp
          simp only [if_neg h9_0, if_neg h9_1]) hP
      exact ih_2 ((t + 1), (drawS sd), tk) _ _ _ (by show tc - (t + 1) < tc - t; omega) ⟨hP, hS, lv_sub hl [0, 3] rfl, (by omega), (by show (_, _) = dayI _ _ _ _ _ _ _ _ (_ + 1); unfold dayI; rw [itF_s]; unfold dayI at hdy; rw [← hdy]; first | rw [if_neg (fun h => c_36 h.1)] | rw [if_neg (fun h => c_44 h.2)] | rw [if_pos ⟨c_36, c_44⟩])⟩
    · have c_36 := bI1 c_36
      refine lv_aload_n hx hb dX1_passDay_39 rfl (lv_at hl 1 rfl) ?_
      refine lv_iconst (v := 0) hx hb dX1_passDay_40 (by decide) ?_
      refine f_iV (n := 1) X hP hS [.int 0] [] (c_X5_isMet l E (up2 (up2 (up2 M g 9 sd) g 7 tk) g 9 (drawS sd)) L (g + 4 + t) 0 (sh_gt hk_g (by omega))) m_4_29 wi_X5_isMet (sh_gt hk_g (by omega)) rfl (by decide) (by decide +kernel) ⟨Nat.le_of_ble_eq_true rfl, Nat.le_of_ble_eq_true rfl⟩ rfl hl rfl (Nat.le_of_ble_eq_true rfl) ⟨Nat.zero_le _, Nat.zero_le _⟩ dX1_passDay_41 (fun H locs hP hS => ?_)
      refine f_topI (v := (bI (decide ((if 0 = 0 then (M (g + 4 + t) 6) else (M (g + 4 + t) 6) / 2) ≤ (M (g + 4 + t) 5))))) (by rw [show ((up2 (up2 (up2 M g 9 sd) g 7 tk) g 9 (drawS sd)) (g + 4 + t) 6) = (M (g + 4 + t) 6) from ((up2_o _ _ (Or.inr (by decide))).trans ((up2_o _ _ (Or.inr (by decide))).trans (up2_o _ _ (Or.inr (by decide))))), show ((up2 (up2 (up2 M g 9 sd) g 7 tk) g 9 (drawS sd)) (g + 4 + t) 5) = (M (g + 4 + t) 5) from ((up2_o _ _ (Or.inr (by decide))).trans ((up2_o _ _ (Or.inr (by decide))).trans (up2_o _ _ (Or.inr (by decide)))))] <;> rfl) ?_
      refine lv_if_eq (tgt := 60) hx hb dX1_passDay_44 (by decide) (fun c_44 => ?_) (fun c_44 => ?_)
      · have c_44 := bI0 c_44
        refine lv_iinc (v := (nI (t + 1))) (lv' := [(1, .int (nI (t + 1))), (3, .int ((M (g + 4 + t) 1) + (drawV (drawS sd) ((M (g + 4 + t) 2) - (M (g + 4 + t) 1) + 1 + (M (g + 4 + t) 3))))), (2, .ref (fad E (g + 4 + t))), (0, .ref (fad E g))]) hx hb dX1_passDay_60 hl (k := 2) rfl (nI_1 _) (by decide) rfl (fun ls hl => ?_)
        refine lv_goto (tgt := 2) hx hb dX1_passDay_63 (by decide) ?_
        have hP := fP_eq (show (up2 (up2 M g 9 (drawS sd)) g 7 tk) = (up2 (up2 (up2 M g 9 sd) g 7 tk) g 9 (drawS sd)) from by
            funext x9 y9
            simp only [up2_at]
            by_cases h9_0 : x9 = g ∧ y9 = 9
            · obtain ⟨rfl, rfl⟩ := h9_0; simp
            by_cases h9_1 : x9 = g ∧ y9 = 7
            · obtain ⟨rfl, rfl⟩ := h9_1; simp
            simp only [if_neg h9_0, if_neg h9_1]) hP
        exact ih_2 ((t + 1), (drawS sd), tk) _ _ _ (by show tc - (t + 1) < tc - t; omega) ⟨hP, hS, lv_sub hl [0, 3] rfl, (by omega), (by show (_, _) = dayI _ _ _ _ _ _ _ _ (_ + 1); unfold dayI; rw [itF_s]; unfold dayI at hdy; rw [← hdy]; first | rw [if_neg (fun h => c_36 h.1)] | rw [if_neg (fun h => c_44 h.2)] | rw [if_pos ⟨c_36, c_44⟩])⟩
      · have c_44 := bI1 c_44
        refine lv_aload_n hx hb dX1_passDay_47 rfl (lv_at hl 3 rfl) ?_
        refine lv_dup hx hb dX1_passDay_48 rfl ?_
        refine f_get X hP (T := TX1) (ci := 1) (k := g) hk_g inX1 rfl 7 (by decide) m_1_126 rfl (v := .int tk) (congrArg Value.int ((up2_o _ _ (Or.inr (by decide))).trans (up2_s _ _ _ _))) dX1_passDay_49 ?_
        refine lv_aload_n hx hb dX1_passDay_52 rfl (lv_at hl 1 rfl) ?_
        refine f_get X hP (T := TX5) (ci := 5) (k := (g + 4 + t)) (sh_gt hk_g (by omega)) inX5 rfl 4 (by decide) m_1_51 rfl (v := .int (M (g + 4 + t) 4)) (congrArg Value.int ((up2_o _ _ (Or.inr (by decide))).trans ((up2_o _ _ (Or.inr (by decide))).trans (up2_o _ _ (Or.inr (by decide)))))) dX1_passDay_53 ?_
        refine lv_iadd hx hb dX1_passDay_56 ?_
        refine f_put X hP hS (T := TX1) (ci := 1) (k := g) hk_g inX1 rfl tyX1 tyX1_ok nmX1 7 (by decide) m_1_126 ⟨rfl, rfl⟩ rfl (v := (tk + (M (g + 4 + t) 4))) rfl rfl dX1_passDay_57 (fun H locs hP hS => ?_)
        refine lv_iinc (v := (nI (t + 1))) (lv' := [(1, .int (nI (t + 1))), (3, .int ((M (g + 4 + t) 1) + (drawV (drawS sd) ((M (g + 4 + t) 2) - (M (g + 4 + t) 1) + 1 + (M (g + 4 + t) 3))))), (2, .ref (fad E (g + 4 + t))), (0, .ref (fad E g))]) hx hb dX1_passDay_60 hl (k := 2) rfl (nI_1 _) (by decide) rfl (fun ls hl => ?_)
        refine lv_goto (tgt := 2) hx hb dX1_passDay_63 (by decide) ?_
        have hP := fP_eq (show (up2 (up2 M g 9 (drawS sd)) g 7 (tk + (M (g + 4 + t) 4))) = (up2 (up2 (up2 (up2 M g 9 sd) g 7 tk) g 9 (drawS sd)) g 7 (tk + (M (g + 4 + t) 4))) from by
            funext x9 y9
            simp only [up2_at]
            by_cases h9_0 : x9 = g ∧ y9 = 9
            · obtain ⟨rfl, rfl⟩ := h9_0; simp
            by_cases h9_1 : x9 = g ∧ y9 = 7
            · obtain ⟨rfl, rfl⟩ := h9_1; simp
            simp only [if_neg h9_0, if_neg h9_1]) hP
        exact ih_2 ((t + 1), (drawS sd), (tk + (M (g + 4 + t) 4))) _ _ _ (by show tc - (t + 1) < tc - t; omega) ⟨hP, hS, lv_sub hl [0, 3] rfl, (by omega), (by show (_, _) = dayI _ _ _ _ _ _ _ _ (_ + 1); unfold dayI; rw [itF_s]; unfold dayI at hdy; rw [← hdy]; first | rw [if_neg (fun h => c_36 h.1)] | rw [if_neg (fun h => c_44 h.2)] | rw [if_pos ⟨c_36, c_44⟩])⟩
