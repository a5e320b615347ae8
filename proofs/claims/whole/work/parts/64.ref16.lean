def lp_X8_stands_37 (M : Nat → Nat → Int32) (L : Nat → Nat → Int64) (w : Int32) (s0 : Nat) (pl : Nat) (en : Nat) (w0 : Nat) : Nat → Nat → Int32
  | 0, i => 0
  | f9 + 1, i => (if (M 106 ((7 * w0) + i)) ≤ 32 then (if 32 < (M 106 ((7 * w0) + i)) then 0 else 1) else (if en ≤ (pl + i) then (if 32 < (M 106 ((7 * w0) + i)) then 0 else 1) else (if ((L 104 ((160 * s0) + (pl + i))).toInt32) = (M 106 ((7 * w0) + i)) then (lp_X8_stands_37 M L w s0 pl en w0 f9 (i + 1)) else (if 32 < (M 106 ((7 * w0) + i)) then 0 else 1))))
theorem lp_X8_stands_37_0 (M : Nat → Nat → Int32) (L : Nat → Nat → Int64) (w : Int32) (s0 : Nat) (pl : Nat) (en : Nat) (w0 : Nat) (i : Nat) : (lp_X8_stands_37 M L w s0 pl en w0 0 i) = 0 := rfl
theorem lp_X8_stands_37_s (M : Nat → Nat → Int32) (L : Nat → Nat → Int64) (w : Int32) (s0 : Nat) (pl : Nat) (en : Nat) (w0 : Nat) (f9 i : Nat) : (lp_X8_stands_37 M L w s0 pl en w0 (f9 + 1) i) = (if (M 106 ((7 * w0) + i)) ≤ 32 then (if 32 < (M 106 ((7 * w0) + i)) then 0 else 1) else (if en ≤ (pl + i) then (if 32 < (M 106 ((7 * w0) + i)) then 0 else 1) else (if ((L 104 ((160 * s0) + (pl + i))).toInt32) = (M 106 ((7 * w0) + i)) then (lp_X8_stands_37 M L w s0 pl en w0 f9 (i + 1)) else (if 32 < (M 106 ((7 * w0) + i)) then 0 else 1)))) := rfl
def a_X8_stands (M : Nat → Nat → Int32) (L : Nat → Nat → Int64) (w : Int32) (s0 : Nat) (pl : Nat) (en : Nat) (w0 : Nat) : Int32 := (lp_X8_stands_37 M L w s0 pl en w0 (6 + w0) 0)
set_option maxHeartbeats 1000000 in
set_option maxRecDepth 100000 in
theorem c_X8_stands (l : Launch) (E : fE) (M : Nat → Nat → Int32) (L : Nat → Nat → Int64) (w : Int32) (s0 pl en w0 : Nat) (hba : M 86 32 = nI (160 * s0)) (hs08 : s0 < 8) (hpl : M 86 33 = nI pl) (hen : M 86 34 = nI en) (hen1 : en ≤ 160) (hpe : pl ≤ en) (hwd : ∀ k, k < 28 → M 106 k = wdA k) (ew : w = nI w0) (hw1 : w0 ≤ 1) : Met l yX8_stands (wl yX8_stands cX8_stands 4 (some .boolean)) (fRm 0 0) (va_Pc [.ref (fad E 86), .int w] (fPre E M L)) (fQi E (fun r u => u = (M, L) ∧ r = (a_X8_stands M L w s0 pl en w0))) 0 0 (fA E) := by
  refine f_head (by decide) (Nat.le_of_ble_eq_true rfl) ?_
  intro pg ev s mi below meth cd ls X hr hlk hP hS hl
  have hx := X.1.1
  have hb := X.1.2.1
  have hl : lv_has ls 4 [(0, .ref (fad E 86)), (1, .int w)] := hl
  have hl : lv_has ls 4 [(0, .ref (fad E 86)), (1, .int (nI w0))] := by rw [← ew]; exact hl
  refine lv_iconst (v := 0) hx hb dX8_stands_0 (by decide) ?_
  refine lv_istore_n (lv' := [(2, .int 0), (0, .ref (fad E 86)), (1, .int (nI w0))]) hx hb dX8_stands_1 rfl hl (by decide) rfl (fun ls hl => ?_)
  refine lv_iconst (v := 0) hx hb dX8_stands_2 (by decide) ?_
  refine lv_istore_n (lv' := [(3, .int 0), (2, .int 0), (0, .ref (fad E 86)), (1, .int (nI w0))]) hx hb dX8_stands_3 rfl hl (by decide) rfl (fun ls hl => ?_)
  refine f_loop (α := Nat × Nat) (fun (a : Nat × Nat) H locs ls => match a with | (c1, kn) => fP E M L H ∧ va_S (fA E) s.heap H locs ∧ lv_has ls 4 [(3, .int (nI kn)), (2, .int (nI c1)), (0, .ref (fad E 86)), (1, .int (nI w0))] ∧ (c1 ≤ 7) ∧ (kn = if c1 ≤ 6 then 0 else 1) ∧ (w0 = 0 → c1 = 0) ∧ (kn ≤ 1)) (fun (a : Nat × Nat) => match a with | (c1, kn) => 8 - c1) (pc0 := 4) (st := fun _ => []) ?_ (0, 0) _ _ _ ⟨hP, hS, lv_sub hl [0, 1, 2, 3] rfl, (by omega), rfl, (fun _ => rfl), (by omega)⟩
  rintro ⟨c1, kn⟩ H locs ls ⟨hP, hS, hl, hc7, hkn, hw0, hk1⟩ ih_4
  refine lv_iload_n hx hb dX8_stands_4 rfl (lv_at hl 0 rfl) ?_
  refine lv_iload_n hx hb dX8_stands_5 rfl (lv_at hl 3 rfl) ?_
  refine lv_icmp_ge (tgt := 32) hx hb dX8_stands_6 (by decide) (fun c_6 => ?_) (fun c_6 => ?_)
  · have c_6 := (nI_le_iff (a := w0) (b := kn) (by omega) (by omega)).mp c_6
    obtain rfl : c1 = 7 * w0 := by split at hkn <;> omega
    refine lv_aload_n hx hb dX8_stands_32 rfl (lv_at hl 2 rfl) ?_
    refine f_get X hP (T := TX8) (ci := 8) (k := 86) rfl inX8 rfl 33 (by decide) m_4_207 rfl (v := .int (nI pl)) (congrArg Value.int hpl) dX8_stands_33 ?_
    refine lv_istore_n (lv' := [(3, .int (nI pl)), (2, .int (nI (7 * w0))), (0, .ref (fad E 86)), (1, .int (nI w0))]) hx hb dX8_stands_36 rfl hl (by decide) rfl (fun ls hl => ?_)
    refine f_loop (α := Nat) (fun (i : Nat) H locs ls => fP E M L H ∧ va_S (fA E) s.heap H locs ∧ lv_has ls 4 [(3, .int (nI (pl + i))), (2, .int (nI ((7 * w0) + i))), (0, .ref (fad E 86)), (1, .int (nI w0))] ∧ (i < (6 + w0)) ∧ ((lp_X8_stands_37 M L w s0 pl en w0 (6 + w0) 0) = (lp_X8_stands_37 M L w s0 pl en w0 ((6 + w0) - i) i))) (fun (i : Nat) => (6 + w0) - i) (pc0 := 37) (st := fun _ => []) ?_ 0 _ _ _ ⟨hP, hS, lv_sub hl [0, 1, 2, 3] rfl, (by omega), rfl⟩
    rintro i H locs ls ⟨hP, hS, hl, ht_37, hbt_37⟩ ih_37
    have hs_37 : (6 + w0) - i = (6 + w0) - (i + 1) + 1 := by omega
    have hbt_37 := hbt_37.trans ((congrArg (fun f9 => (lp_X8_stands_37 M L w s0 pl en w0 f9 i)) hs_37).trans (lp_X8_stands_37_s M L w s0 pl en w0 ((6 + w0) - (i + 1)) i))
    refine lv_aload_n hx hb dX8_stands_37 rfl (lv_at hl 2 rfl) ?_
    refine f_get X hP (T := TX8) (ci := 8) (k := 86) rfl inX8 rfl 27 (by decide) m_4_201 rfl (v := .ref (fad E 106)) rfl dX8_stands_38 ?_
    refine lv_iload_n hx hb dX8_stands_41 rfl (lv_at hl 1 rfl) ?_
    refine f_iald X hP (k := 106) (n := 28) (q := ((7 * w0) + i)) rfl rfl (fIx_nI (by omega) (by decide)) dX8_stands_42 ?_
    refine lv_bipush (v := 32) hx hb dX8_stands_43 (by decide) ?_
    refine lv_icmp_le (tgt := 86) hx hb dX8_stands_45 (by decide) (fun c_45 => ?_) (fun c_45 => ?_)
    · refine lv_aload_n hx hb dX8_stands_86 rfl (lv_at hl 2 rfl) ?_
      refine f_get X hP (T := TX8) (ci := 8) (k := 86) rfl inX8 rfl 27 (by decide) m_4_201 rfl (v := .ref (fad E 106)) rfl dX8_stands_87 ?_
      refine lv_iload_n hx hb dX8_stands_90 rfl (lv_at hl 1 rfl) ?_
      refine f_iald X hP (k := 106) (n := 28) (q := ((7 * w0) + i)) rfl rfl (fIx_nI (by omega) (by decide)) dX8_stands_91 ?_
      refine lv_bipush (v := 32) hx hb dX8_stands_92 (by decide) ?_
      refine lv_icmp_gt (tgt := 101) hx hb dX8_stands_94 (by decide) (fun c_94 => ?_) (fun c_94 => ?_)
      · refine lv_iconst (v := 0) hx hb dX8_stands_101 (by decide) ?_
        refine f_ir X hlk hr (v := 0) rfl hP hS ?_ dX8_stands_102
        unfold a_X8_stands
        (first | rw [if_pos c_6] | rw [if_neg c_6] | rw [if_neg (Bool.eq_false_iff.mp c_6)] | skip)
        rw [hbt_37]
        (first | rw [if_pos c_45] | rw [if_neg c_45] | rw [if_neg (Bool.eq_false_iff.mp c_45)] | skip)
        (first | rw [if_pos c_94] | rw [if_neg c_94] | rw [if_neg (Bool.eq_false_iff.mp c_94)] | skip)
        (try dsimp only)
        first
          | done
          | exact ⟨rfl, rfl⟩
          | rfl
          | (simp only [c_45, c_94, if_true, if_false, and_self, and_true, true_and, not_true_eq_false, not_false_eq_true, and_false, false_and, or_true, true_or, or_false, false_or, or_self, Bool.false_eq_true, reduceCtorEq, nl10, nl20, nl30, nl40, nl50, nl60, nl70, nl12, nl13, nl21, nl23, nl31, nl32]; first | done | exact ⟨rfl, rfl⟩ | rfl)
          | contradiction
          | (simp only [c_45, c_94, if_true, if_false, and_self, and_true, true_and, not_true_eq_false, not_false_eq_true, and_false, false_and, or_true, true_or, or_false, false_or, or_self, Bool.false_eq_true, reduceCtorEq, nl10, nl20, nl30, nl40, nl50, nl60, nl70, nl12, nl13, nl21, nl23, nl31, nl32]; contradiction)
          | (exfalso; simp_all; done)
          | simp_all
      · refine lv_iconst (v := 1) hx hb dX8_stands_97 (by decide) ?_
        refine lv_goto (tgt := 102) hx hb dX8_stands_98 (by decide) ?_
        refine f_ir X hlk hr (v := 1) rfl hP hS ?_ dX8_stands_102
        unfold a_X8_stands
        (first | rw [if_pos c_6] | rw [if_neg c_6] | rw [if_neg (Bool.eq_false_iff.mp c_6)] | skip)
        rw [hbt_37]
        (first | rw [if_pos c_45] | rw [if_neg c_45] | rw [if_neg (Bool.eq_false_iff.mp c_45)] | skip)
        (first | rw [if_pos c_94] | rw [if_neg c_94] | rw [if_neg (Bool.eq_false_iff.mp c_94)] | skip)
        (try dsimp only)
        first
          | done
          | exact ⟨rfl, rfl⟩
          | rfl
          | (simp only [c_45, c_94, if_true, if_false, and_self, and_true, true_and, not_true_eq_false, not_false_eq_true, and_false, false_and, or_true, true_or, or_false, false_or, or_self, Bool.false_eq_true, reduceCtorEq, nl10, nl20, nl30, nl40, nl50, nl60, nl70, nl12, nl13, nl21, nl23, nl31, nl32]; first | done | exact ⟨rfl, rfl⟩ | rfl)
          | contradiction
          | (simp only [c_45, c_94, if_true, if_false, and_self, and_true, true_and, not_true_eq_false, not_false_eq_true, and_false, false_and, or_true, true_or, or_false, false_or, or_self, Bool.false_eq_true, reduceCtorEq, nl10, nl20, nl30, nl40, nl50, nl60, nl70, nl12, nl13, nl21, nl23, nl31, nl32]; contradiction)
          | (exfalso; simp_all; done)
          | simp_all
    · refine lv_iload_n hx hb dX8_stands_48 rfl (lv_at hl 0 rfl) ?_
      refine lv_aload_n hx hb dX8_stands_49 rfl (lv_at hl 2 rfl) ?_
      refine f_get X hP (T := TX8) (ci := 8) (k := 86) rfl inX8 rfl 34 (by decide) m_4_208 rfl (v := .int (nI en)) (congrArg Value.int hen) dX8_stands_50 ?_
      refine lv_icmp_ge (tgt := 86) hx hb dX8_stands_53 (by decide) (fun c_53 => ?_) (fun c_53 => ?_)
      · have c_53 := (nI_le_iff (a := en) (b := (pl + i)) (by omega) (by omega)).mp c_53
        refine lv_aload_n hx hb dX8_stands_86 rfl (lv_at hl 2 rfl) ?_
        refine f_get X hP (T := TX8) (ci := 8) (k := 86) rfl inX8 rfl 27 (by decide) m_4_201 rfl (v := .ref (fad E 106)) rfl dX8_stands_87 ?_
        refine lv_iload_n hx hb dX8_stands_90 rfl (lv_at hl 1 rfl) ?_
        refine f_iald X hP (k := 106) (n := 28) (q := ((7 * w0) + i)) rfl rfl (fIx_nI (by omega) (by decide)) dX8_stands_91 ?_
        refine lv_bipush (v := 32) hx hb dX8_stands_92 (by decide) ?_
        refine lv_icmp_gt (tgt := 101) hx hb dX8_stands_94 (by decide) (fun c_94 => ?_) (fun c_94 => ?_)
        · refine lv_iconst (v := 0) hx hb dX8_stands_101 (by decide) ?_
          refine f_ir X hlk hr (v := 0) rfl hP hS ?_ dX8_stands_102
          unfold a_X8_stands
          (first | rw [if_pos c_6] | rw [if_neg c_6] | rw [if_neg (Bool.eq_false_iff.mp c_6)] | skip)
          rw [hbt_37]
          (first | rw [if_pos c_45] | rw [if_neg c_45] | rw [if_neg (Bool.eq_false_iff.mp c_45)] | skip)
          (first | rw [if_pos c_53] | rw [if_neg c_53] | rw [if_neg (Bool.eq_false_iff.mp c_53)] | skip)
          (first | rw [if_pos c_94] | rw [if_neg c_94] | rw [if_neg (Bool.eq_false_iff.mp c_94)] | skip)
          (try dsimp only)
          first
            | done
            | exact ⟨rfl, rfl⟩
            | rfl
            | (simp only [c_45, c_53, c_94, if_true, if_false, and_self, and_true, true_and, not_true_eq_false, not_false_eq_true, and_false, false_and, or_true, true_or, or_false, false_or, or_self, Bool.false_eq_true, reduceCtorEq, nl10, nl20, nl30, nl40, nl50, nl60, nl70, nl12, nl13, nl21, nl23, nl31, nl32]; first | done | exact ⟨rfl, rfl⟩ | rfl)
            | contradiction
            | (simp only [c_45, c_53, c_94, if_true, if_false, and_self, and_true, true_and, not_true_eq_false, not_false_eq_true, and_false, false_and, or_true, true_or, or_false, false_or, or_self, Bool.false_eq_true, reduceCtorEq, nl10, nl20, nl30, nl40, nl50, nl60, nl70, nl12, nl13, nl21, nl23, nl31, nl32]; contradiction)
            | (exfalso; simp_all; done)
            | simp_all
        · refine lv_iconst (v := 1) hx hb dX8_stands_97 (by decide) ?_
          refine lv_goto (tgt := 102) hx hb dX8_stands_98 (by decide) ?_
          refine f_ir X hlk hr (v := 1) rfl hP hS ?_ dX8_stands_102
          unfold a_X8_stands
          (first | rw [if_pos c_6] | rw [if_neg c_6] | rw [if_neg (Bool.eq_false_iff.mp c_6)] | skip)
          rw [hbt_37]
          (first | rw [if_pos c_45] | rw [if_neg c_45] | rw [if_neg (Bool.eq_false_iff.mp c_45)] | skip)
          (first | rw [if_pos c_53] | rw [if_neg c_53] | rw [if_neg (Bool.eq_false_iff.mp c_53)] | skip)
          (first | rw [if_pos c_94] | rw [if_neg c_94] | rw [if_neg (Bool.eq_false_iff.mp c_94)] | skip)
          (try dsimp only)
          first
            | done
            | exact ⟨rfl, rfl⟩
            | rfl
            | (simp only [c_45, c_53, c_94, if_true, if_false, and_self, and_true, true_and, not_true_eq_false, not_false_eq_true, and_false, false_and, or_true, true_or, or_false, false_or, or_self, Bool.false_eq_true, reduceCtorEq, nl10, nl20, nl30, nl40, nl50, nl60, nl70, nl12, nl13, nl21, nl23, nl31, nl32]; first | done | exact ⟨rfl, rfl⟩ | rfl)
            | contradiction
            | (simp only [c_45, c_53, c_94, if_true, if_false, and_self, and_true, true_and, not_true_eq_false, not_false_eq_true, and_false, false_and, or_true, true_or, or_false, false_or, or_self, Bool.false_eq_true, reduceCtorEq, nl10, nl20, nl30, nl40, nl50, nl60, nl70, nl12, nl13, nl21, nl23, nl31, nl32]; contradiction)
            | (exfalso; simp_all; done)
            | simp_all
      · have c_53 := (not_congr (nI_le_iff (a := en) (b := (pl + i)) (by omega) (by omega))).mp c_53
        refine lv_aload_n hx hb dX8_stands_56 rfl (lv_at hl 2 rfl) ?_
        refine f_get X hP (T := TX8) (ci := 8) (k := 86) rfl inX8 rfl 25 (by decide) m_4_199 rfl (v := .ref (fad E 104)) rfl dX8_stands_57 ?_
        refine lv_aload_n hx hb dX8_stands_60 rfl (lv_at hl 2 rfl) ?_
        refine f_get X hP (T := TX8) (ci := 8) (k := 86) rfl inX8 rfl 32 (by decide) m_4_206 rfl (v := .int (nI (160 * s0))) (congrArg Value.int hba) dX8_stands_61 ?_
        refine lv_iload_n hx hb dX8_stands_64 rfl (lv_at hl 0 rfl) ?_
        refine lv_iadd hx hb dX8_stands_65 ?_
        refine f_topI (nI_add (160 * s0) (pl + i)) ?_
        refine f_lald X hP (k := 104) (n := 1280) (q := ((160 * s0) + (pl + i))) rfl rfl (fIx_nI (by omega) (by decide)) dX8_stands_66 ?_
        refine lv_l2i (v := ((L 104 ((160 * s0) + (pl + i))).toInt32)) hx hb dX8_stands_67 rfl ?_
        refine lv_aload_n hx hb dX8_stands_68 rfl (lv_at hl 2 rfl) ?_
        refine f_get X hP (T := TX8) (ci := 8) (k := 86) rfl inX8 rfl 27 (by decide) m_4_201 rfl (v := .ref (fad E 106)) rfl dX8_stands_69 ?_
        refine lv_iload_n hx hb dX8_stands_72 rfl (lv_at hl 1 rfl) ?_
        refine f_iald X hP (k := 106) (n := 28) (q := ((7 * w0) + i)) rfl rfl (fIx_nI (by omega) (by decide)) dX8_stands_73 ?_
        refine lv_icmp_ne (tgt := 86) hx hb dX8_stands_74 (by decide) (fun c_74 => ?_) (fun c_74 => ?_)
        · refine lv_aload_n hx hb dX8_stands_86 rfl (lv_at hl 2 rfl) ?_
          refine f_get X hP (T := TX8) (ci := 8) (k := 86) rfl inX8 rfl 27 (by decide) m_4_201 rfl (v := .ref (fad E 106)) rfl dX8_stands_87 ?_
          refine lv_iload_n hx hb dX8_stands_90 rfl (lv_at hl 1 rfl) ?_
          refine f_iald X hP (k := 106) (n := 28) (q := ((7 * w0) + i)) rfl rfl (fIx_nI (by omega) (by decide)) dX8_stands_91 ?_
          refine lv_bipush (v := 32) hx hb dX8_stands_92 (by decide) ?_
          refine lv_icmp_gt (tgt := 101) hx hb dX8_stands_94 (by decide) (fun c_94 => ?_) (fun c_94 => ?_)
          · refine lv_iconst (v := 0) hx hb dX8_stands_101 (by decide) ?_
            refine f_ir X hlk hr (v := 0) rfl hP hS ?_ dX8_stands_102
            unfold a_X8_stands
            (first | rw [if_pos c_6] | rw [if_neg c_6] | rw [if_neg (Bool.eq_false_iff.mp c_6)] | skip)
            rw [hbt_37]
            (first | rw [if_pos c_45] | rw [if_neg c_45] | rw [if_neg (Bool.eq_false_iff.mp c_45)] | skip)
            (first | rw [if_pos c_53] | rw [if_neg c_53] | rw [if_neg (Bool.eq_false_iff.mp c_53)] | skip)
            (first | rw [if_pos c_74] | rw [if_neg c_74] | rw [if_neg (Bool.eq_false_iff.mp c_74)] | skip)
            (first | rw [if_pos c_94] | rw [if_neg c_94] | rw [if_neg (Bool.eq_false_iff.mp c_94)] | skip)
            (try dsimp only)
            first
              | done
              | exact ⟨rfl, rfl⟩
              | rfl
              | (simp only [c_45, c_53, c_74, c_94, if_true, if_false, and_self, and_true, true_and, not_true_eq_false, not_false_eq_true, and_false, false_and, or_true, true_or, or_false, false_or, or_self, Bool.false_eq_true, reduceCtorEq, nl10, nl20, nl30, nl40, nl50, nl60, nl70, nl12, nl13, nl21, nl23, nl31, nl32]; first | done | exact ⟨rfl, rfl⟩ | rfl)
              | contradiction
              | (simp only [c_45, c_53, c_74, c_94, if_true, if_false, and_self, and_true, true_and, not_true_eq_false, not_false_eq_true, and_false, false_and, or_true, true_or, or_false, false_or, or_self, Bool.false_eq_true, reduceCtorEq, nl10, nl20, nl30, nl40, nl50, nl60, nl70, nl12, nl13, nl21, nl23, nl31, nl32]; contradiction)
              | (exfalso; simp_all; done)
              | simp_all
          · refine lv_iconst (v := 1) hx hb dX8_stands_97 (by decide) ?_
            refine lv_goto (tgt := 102) hx hb dX8_stands_98 (by decide) ?_
            refine f_ir X hlk hr (v := 1) rfl hP hS ?_ dX8_stands_102
            unfold a_X8_stands
            (first | rw [if_pos c_6] | rw [if_neg c_6] | rw [if_neg (Bool.eq_false_iff.mp c_6)] | skip)
            rw [hbt_37]
            (first | rw [if_pos c_45] | rw [if_neg c_45] | rw [if_neg (Bool.eq_false_iff.mp c_45)] | skip)
            (first | rw [if_pos c_53] | rw [if_neg c_53] | rw [if_neg (Bool.eq_false_iff.mp c_53)] | skip)
            (first | rw [if_pos c_74] | rw [if_neg c_74] | rw [if_neg (Bool.eq_false_iff.mp c_74)] | skip)
            (first | rw [if_pos c_94] | rw [if_neg c_94] | rw [if_neg (Bool.eq_false_iff.mp c_94)] | skip)
            (try dsimp only)
            first
              | done
              | exact ⟨rfl, rfl⟩
              | rfl
              | (simp only [c_45, c_53, c_74, c_94, if_true, if_false, and_self, and_true, true_and, not_true_eq_false, not_false_eq_true, and_false, false_and, or_true, true_or, or_false, false_or, or_self, Bool.false_eq_true, reduceCtorEq, nl10, nl20, nl30, nl40, nl50, nl60, nl70, nl12, nl13, nl21, nl23, nl31, nl32]; first | done | exact ⟨rfl, rfl⟩ | rfl)
              | contradiction
              | (simp only [c_45, c_53, c_74, c_94, if_true, if_false, and_self, and_true, true_and, not_true_eq_false, not_false_eq_true, and_false, false_and, or_true, true_or, or_false, false_or, or_self, Bool.false_eq_true, reduceCtorEq, nl10, nl20, nl30, nl40, nl50, nl60, nl70, nl12, nl13, nl21, nl23, nl31, nl32]; contradiction)
              | (exfalso; simp_all; done)
              | simp_all
        · refine lv_iinc (v := (nI (pl + i + 1))) (lv' := [(3, .int (nI (pl + i + 1))), (2, .int (nI ((7 * w0) + i))), (0, .ref (fad E 86)), (1, .int (nI w0))]) hx hb dX8_stands_77 hl (k := 0) rfl (nI_1 _) (by decide) rfl (fun ls hl => ?_)
          refine lv_iinc (v := (nI ((7 * w0) + i + 1))) (lv' := [(2, .int (nI ((7 * w0) + i + 1))), (3, .int (nI (pl + i + 1))), (0, .ref (fad E 86)), (1, .int (nI w0))]) hx hb dX8_stands_80 hl (k := 1) rfl (nI_1 _) (by decide) rfl (fun ls hl => ?_)
          refine lv_goto (tgt := 37) hx hb dX8_stands_83 (by decide) ?_
          exact ih_37 (i + 1) _ _ _ (by show (6 + w0) - (i + 1) < (6 + w0) - i; omega) ⟨hP, hS, lv_sub hl [1, 0, 2, 3] rfl, (wd_n hwd hw1 ht_37 c_45), (by
            refine hbt_37.trans ?_
            (first | rw [if_pos c_45] | rw [if_neg c_45] | rw [if_neg (Bool.eq_false_iff.mp c_45)] | skip)
            (first | rw [if_pos c_53] | rw [if_neg c_53] | rw [if_neg (Bool.eq_false_iff.mp c_53)] | skip)
            (first | rw [if_pos c_74] | rw [if_neg c_74] | rw [if_neg (Bool.eq_false_iff.mp c_74)] | skip)
            first | done | rfl)⟩
  · have c_6 := (not_congr (nI_le_iff (a := w0) (b := kn) (by omega) (by omega))).mp c_6
    refine lv_iload_n hx hb dX8_stands_9 rfl (lv_at hl 0 rfl) ?_
    refine lv_aload_n hx hb dX8_stands_10 rfl (lv_at hl 2 rfl) ?_
    refine f_get X hP (T := TX8) (ci := 8) (k := 86) rfl inX8 rfl 27 (by decide) m_4_201 rfl (v := .ref (fad E 106)) rfl dX8_stands_11 ?_
    refine lv_iload_n hx hb dX8_stands_14 rfl (lv_at hl 1 rfl) ?_
    refine f_iald X hP (k := 106) (n := 28) (q := c1) rfl rfl (fIx_nI (by omega) (by decide)) dX8_stands_15 ?_
    refine lv_if_ne (tgt := 23) hx hb dX8_stands_16 (by decide) (fun c_16 => ?_) (fun c_16 => ?_)
    · have hc6 : ¬ c1 = 6 := fun h => c_16 ((wd_z hwd (show c1 ≤ 6 by split at hkn <;> omega)).mpr h)
      refine lv_iconst (v := 0) hx hb dX8_stands_23 (by decide) ?_
      refine lv_iadd hx hb dX8_stands_24 ?_
      refine f_topI (nI_add kn 0) ?_
      refine lv_istore_n (lv' := [(3, .int (nI (kn + 0))), (2, .int (nI c1)), (0, .ref (fad E 86)), (1, .int (nI w0))]) hx hb dX8_stands_25 rfl hl (by decide) rfl (fun ls hl => ?_)
      refine lv_iinc (v := (nI (c1 + 1))) (lv' := [(2, .int (nI (c1 + 1))), (3, .int (nI (kn + 0))), (0, .ref (fad E 86)), (1, .int (nI w0))]) hx hb dX8_stands_26 hl (k := 1) rfl (nI_1 _) (by decide) rfl (fun ls hl => ?_)
      refine lv_goto (tgt := 4) hx hb dX8_stands_29 (by decide) ?_
      exact ih_4 ((c1 + 1), (kn + 0)) _ _ _ (by show 8 - (c1 + 1) < 8 - c1; omega) ⟨hP, hS, lv_sub hl [1, 0, 2, 3] rfl, (by split at hkn <;> omega), (by split at hkn <;> split <;> omega), (by split at hkn <;> omega), (by split at hkn <;> omega)⟩
    · have hc6 := (wd_z hwd (show c1 ≤ 6 by split at hkn <;> omega)).mp c_16
      refine lv_iconst (v := 1) hx hb dX8_stands_19 (by decide) ?_
      refine lv_goto (tgt := 24) hx hb dX8_stands_20 (by decide) ?_
      refine lv_iadd hx hb dX8_stands_24 ?_
      refine f_topI (nI_add kn 1) ?_
      refine lv_istore_n (lv' := [(3, .int (nI (kn + 1))), (2, .int (nI c1)), (0, .ref (fad E 86)), (1, .int (nI w0))]) hx hb dX8_stands_25 rfl hl (by decide) rfl (fun ls hl => ?_)
      refine lv_iinc (v := (nI (c1 + 1))) (lv' := [(2, .int (nI (c1 + 1))), (3, .int (nI (kn + 1))), (0, .ref (fad E 86)), (1, .int (nI w0))]) hx hb dX8_stands_26 hl (k := 1) rfl (nI_1 _) (by decide) rfl (fun ls hl => ?_)
      refine lv_goto (tgt := 4) hx hb dX8_stands_29 (by decide) ?_
      exact ih_4 ((c1 + 1), (kn + 1)) _ _ _ (by show 8 - (c1 + 1) < 8 - c1; omega) ⟨hP, hS, lv_sub hl [1, 0, 2, 3] rfl, (by split at hkn <;> omega), (by split at hkn <;> split <;> omega), (by split at hkn <;> omega), (by split at hkn <;> omega)⟩
