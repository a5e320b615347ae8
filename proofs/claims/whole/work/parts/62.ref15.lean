def lp_X8_days_27 (M : Nat → Nat → Int32) (L : Nat → Nat → Int64) (n : Int32) (tc : Nat) (wc : Nat) (d1 : Nat) (D1 : Nat → Nat → Int32) : Nat → (Nat → Nat → Int32) := itF (fun i s9 => (if ((a_X8_draw s9 L (a_X8_cases s9 L (nI i) i)).2.1 95 i) < ((s9 94 i) + ((a_X8_draw s9 L (a_X8_cases s9 L (nI i) i)).1)) then (a_X8_draw s9 L (a_X8_cases s9 L (nI i) i)).2.1 else (if ((if (0 : Int32) = 0 then ((a_X8_draw s9 L (a_X8_cases s9 L (nI i) i)).2.1 99 i) else ((a_X8_draw s9 L (a_X8_cases s9 L (nI i) i)).2.1 99 i) / 2) ≤ ((a_X8_draw s9 L (a_X8_cases s9 L (nI i) i)).2.1 98 i)) then (up2 (a_X8_draw s9 L (a_X8_cases s9 L (nI i) i)).2.1 86 4 (((a_X8_draw s9 L (a_X8_cases s9 L (nI i) i)).2.1 86 4) + ((a_X8_draw s9 L (a_X8_cases s9 L (nI i) i)).2.1 97 i))) else (a_X8_draw s9 L (a_X8_cases s9 L (nI i) i)).2.1))) D1
theorem lp_X8_days_27_s (M : Nat → Nat → Int32) (L : Nat → Nat → Int64) (n : Int32) (tc : Nat) (wc : Nat) (d1 : Nat) (D1 : Nat → Nat → Int32) (i : Nat) : (lp_X8_days_27 M L n tc wc d1 D1 (i + 1)) = (if ((a_X8_draw ((lp_X8_days_27 M L n tc wc d1 D1 i)) L (a_X8_cases ((lp_X8_days_27 M L n tc wc d1 D1 i)) L (nI i) i)).2.1 95 i) < ((((lp_X8_days_27 M L n tc wc d1 D1 i)) 94 i) + ((a_X8_draw ((lp_X8_days_27 M L n tc wc d1 D1 i)) L (a_X8_cases ((lp_X8_days_27 M L n tc wc d1 D1 i)) L (nI i) i)).1)) then (a_X8_draw ((lp_X8_days_27 M L n tc wc d1 D1 i)) L (a_X8_cases ((lp_X8_days_27 M L n tc wc d1 D1 i)) L (nI i) i)).2.1 else (if ((if (0 : Int32) = 0 then ((a_X8_draw ((lp_X8_days_27 M L n tc wc d1 D1 i)) L (a_X8_cases ((lp_X8_days_27 M L n tc wc d1 D1 i)) L (nI i) i)).2.1 99 i) else ((a_X8_draw ((lp_X8_days_27 M L n tc wc d1 D1 i)) L (a_X8_cases ((lp_X8_days_27 M L n tc wc d1 D1 i)) L (nI i) i)).2.1 99 i) / 2) ≤ ((a_X8_draw ((lp_X8_days_27 M L n tc wc d1 D1 i)) L (a_X8_cases ((lp_X8_days_27 M L n tc wc d1 D1 i)) L (nI i) i)).2.1 98 i)) then (up2 (a_X8_draw ((lp_X8_days_27 M L n tc wc d1 D1 i)) L (a_X8_cases ((lp_X8_days_27 M L n tc wc d1 D1 i)) L (nI i) i)).2.1 86 4 (((a_X8_draw ((lp_X8_days_27 M L n tc wc d1 D1 i)) L (a_X8_cases ((lp_X8_days_27 M L n tc wc d1 D1 i)) L (nI i) i)).2.1 86 4) + ((a_X8_draw ((lp_X8_days_27 M L n tc wc d1 D1 i)) L (a_X8_cases ((lp_X8_days_27 M L n tc wc d1 D1 i)) L (nI i) i)).2.1 97 i))) else (a_X8_draw ((lp_X8_days_27 M L n tc wc d1 D1 i)) L (a_X8_cases ((lp_X8_days_27 M L n tc wc d1 D1 i)) L (nI i) i)).2.1)) := by
  unfold lp_X8_days_27
  rw [itF_s]
def lp_X8_days_96 (M : Nat → Nat → Int32) (L : Nat → Nat → Int64) (n : Int32) (tc : Nat) (wc : Nat) (d1 : Nat) (D1 : Nat → Nat → Int32) : Nat → (Nat → Nat → Int32) := itF (fun j s9 => (up2 s9 86 5 ((s9 86 5) + (a_X8_costs s9 L (nI j) (a_X8_holding s9 L (nI j) j) j)))) (lp_X8_days_27 M L n tc wc d1 D1 tc)
theorem lp_X8_days_96_s (M : Nat → Nat → Int32) (L : Nat → Nat → Int64) (n : Int32) (tc : Nat) (wc : Nat) (d1 : Nat) (D1 : Nat → Nat → Int32) (j : Nat) : (lp_X8_days_96 M L n tc wc d1 D1 (j + 1)) = (up2 ((lp_X8_days_96 M L n tc wc d1 D1 j)) 86 5 ((((lp_X8_days_96 M L n tc wc d1 D1 j)) 86 5) + (a_X8_costs ((lp_X8_days_96 M L n tc wc d1 D1 j)) L (nI j) (a_X8_holding ((lp_X8_days_96 M L n tc wc d1 D1 j)) L (nI j) j) j))) := by
  unfold lp_X8_days_96
  rw [itF_s]
def lp_X8_days_20 (M : Nat → Nat → Int32) (L : Nat → Nat → Int64) (n : Int32) (tc : Nat) (wc : Nat) : Nat → (Nat → Nat → Int32) := itF (fun d1 s9 => (up2 (lp_X8_days_96 M L n tc wc d1 s9 wc) 86 3 (((lp_X8_days_96 M L n tc wc d1 s9 wc) 86 3) + 1))) M
theorem lp_X8_days_20_s (M : Nat → Nat → Int32) (L : Nat → Nat → Int64) (n : Int32) (tc : Nat) (wc : Nat) (d1 : Nat) : (lp_X8_days_20 M L n tc wc (d1 + 1)) = (up2 (lp_X8_days_96 M L n tc wc d1 ((lp_X8_days_20 M L n tc wc d1)) wc) 86 3 (((lp_X8_days_96 M L n tc wc d1 ((lp_X8_days_20 M L n tc wc d1)) wc) 86 3) + 1)) := by
  unfold lp_X8_days_20
  rw [itF_s]
def a_X8_days (M : Nat → Nat → Int32) (L : Nat → Nat → Int64) (n : Int32) (tc : Nat) (wc : Nat) : fR := (if (1 ≤ n ∧ n ≤ 60) then (((lp_X8_days_20 M L n tc wc n.toNatClampNeg) 86 4), (lp_X8_days_20 M L n tc wc n.toNatClampNeg), L) else ((-6), (noM M (-6)), L))
set_option maxHeartbeats 4000000 in
set_option maxRecDepth 100000 in
theorem c_X8_days (l : Launch) (E : fE) (M : Nat → Nat → Int32) (L : Nat → Nat → Int64) (n : Int32) (tc wc : Nat) (htc : M 86 1 = nI tc) (htc8 : tc ≤ 8) (hwc : M 86 0 = nI wc) (hwc6 : wc ≤ 6) (hcs : ∀ t, t < 8 → M 95 t - M 94 t + 1 + M 96 t ≠ 0) : Met l yX8_days (wl yX8_days cX8_days 5 (some .int)) (fRm 1 25) (va_Pc [.ref (fad E 86), .int n] (fPre E M L)) (fQi E (fun r u => u = ((a_X8_days M L n tc wc).2.1, L) ∧ r = (a_X8_days M L n tc wc).1)) 0 0 (fA E) := by
  refine f_head (by decide) (Nat.le_of_ble_eq_true rfl) ?_
  intro pg ev s mi below meth cd ls X hr hlk hP hS hl
  have hx := X.1.1
  have hb := X.1.2.1
  have hl : lv_has ls 5 [(0, .ref (fad E 86)), (1, .int n)] := hl
  refine lv_aload_n hx hb dX8_days_0 rfl (lv_at hl 0 rfl) ?_
  refine lv_iload_n hx hb dX8_days_1 rfl (lv_at hl 1 rfl) ?_
  refine lv_iconst (v := 1) hx hb dX8_days_2 (by decide) ?_
  refine lv_bipush (v := 60) hx hb dX8_days_3 (by decide) ?_
  refine f_iV (n := 3) X hP hS [.int n, .int 1, .int 60] [] (c_X8_isFrom l E M L n 1 60) m_5_120 wi_X8_isFrom rfl rfl (by decide) (by decide +kernel) ⟨Nat.le_of_ble_eq_true rfl, Nat.le_of_ble_eq_true rfl⟩ rfl hl rfl (Nat.le_of_ble_eq_true rfl) ⟨Nat.zero_le _, Nat.zero_le _⟩ dX8_days_5 (fun H locs hP hS => ?_)
  refine lv_if_ne (tgt := 18) hx hb dX8_days_8 (by decide) (fun c_8 => ?_) (fun c_8 => ?_)
  · have c_8 := bI1 c_8
    have en : n = nI n.toNatClampNeg := n_self (Int32.le_trans (by decide) c_8.1)
    have hn9 := (nI_self 60 ⟨Int32.le_trans (by decide) c_8.1, c_8.2⟩ (by decide)).2
    have hl : lv_has ls 5 [(0, .ref (fad E 86)), (1, .int (nI n.toNatClampNeg))] := by rw [← en]; exact hl
    refine lv_iconst (v := 0) hx hb dX8_days_18 (by decide) ?_
    refine lv_istore_n (lv' := [(2, .int 0), (0, .ref (fad E 86)), (1, .int (nI n.toNatClampNeg))]) hx hb dX8_days_19 rfl hl (by decide) rfl (fun ls hl => ?_)
    refine f_loop (α := Nat × (Nat → Nat → Int32)) (fun (a : Nat × (Nat → Nat → Int32)) H locs ls => match a with | (d1, D1) => fP E D1 L H ∧ va_S (fA E) s.heap H locs ∧ lv_has ls 5 [(2, .int (nI d1)), (0, .ref (fad E 86)), (1, .int (nI n.toNatClampNeg))] ∧ (d1 ≤ n.toNatClampNeg) ∧ (D1 = (lp_X8_days_20 M L n tc wc d1)) ∧ (frD M D1)) (fun (a : Nat × (Nat → Nat → Int32)) => match a with | (d1, D1) => n.toNatClampNeg - d1) (pc0 := 20) (st := fun _ => []) ?_ (0, M) _ _ _ ⟨hP, hS, lv_sub hl [0, 1, 2] rfl, (Nat.zero_le _), rfl, (fun _ _ _ => rfl)⟩
    rintro ⟨d1, D1⟩ H locs ls ⟨hP, hS, hl, ht_20, hbt_20, hf1⟩ ih_20
    refine lv_iload_n hx hb dX8_days_20 rfl (lv_at hl 0 rfl) ?_
    refine lv_iload_n hx hb dX8_days_21 rfl (lv_at hl 2 rfl) ?_
    refine lv_icmp_ge (tgt := 145) hx hb dX8_days_22 (by decide) (fun c_22 => ?_) (fun c_22 => ?_)
    · have c_22 := (nI_le_iff (a := n.toNatClampNeg) (b := d1) (by omega) (by omega)).mp c_22
      have hN_20 : d1 = n.toNatClampNeg := by omega
      rw [hN_20] at hbt_20
      rw [hbt_20] at hP
      refine lv_aload_n hx hb dX8_days_145 rfl (lv_at hl 1 rfl) ?_
      refine f_get X hP (T := TX8) (ci := 8) (k := 86) rfl inX8 rfl 4 (by decide) m_4_178 rfl (v := .int ((lp_X8_days_20 M L n tc wc n.toNatClampNeg) 86 4)) rfl dX8_days_146 ?_
      refine f_ir X hlk hr (v := ((lp_X8_days_20 M L n tc wc n.toNatClampNeg) 86 4)) rfl hP hS ?_ dX8_days_149
      unfold a_X8_days
      (first | rw [if_pos c_8] | rw [if_neg c_8] | rw [if_neg (Bool.eq_false_iff.mp c_8)] | skip)
      (try dsimp only)
      first
        | done
        | exact ⟨rfl, rfl⟩
        | rfl
        | (simp only [c_8, if_true, if_false, and_self, and_true, true_and, not_true_eq_false, not_false_eq_true, and_false, false_and, or_true, true_or, or_false, false_or, or_self, Bool.false_eq_true, reduceCtorEq, nl10, nl20, nl30, nl40, nl50, nl60, nl70, nl12, nl13, nl21, nl23, nl31, nl32]; first | done | exact ⟨rfl, rfl⟩ | rfl)
        | contradiction
        | (simp only [c_8, if_true, if_false, and_self, and_true, true_and, not_true_eq_false, not_false_eq_true, and_false, false_and, or_true, true_or, or_false, false_or, or_self, Bool.false_eq_true, reduceCtorEq, nl10, nl20, nl30, nl40, nl50, nl60, nl70, nl12, nl13, nl21, nl23, nl31, nl32]; contradiction)
        | (exfalso; simp_all; done)
        | simp_all
    · have c_22 := (not_congr (nI_le_iff (a := n.toNatClampNeg) (b := d1) (by omega) (by omega))).mp c_22
      refine lv_iconst (v := 0) hx hb dX8_days_25 (by decide) ?_
      refine lv_istore_n (lv' := [(3, .int 0), (2, .int (nI d1)), (0, .ref (fad E 86)), (1, .int (nI n.toNatClampNeg))]) hx hb dX8_days_26 rfl hl (by decide) rfl (fun ls hl => ?_)
      refine f_loop (α := Nat × (Nat → Nat → Int32)) (fun (a : Nat × (Nat → Nat → Int32)) H locs ls => match a with | (i, D2) => fP E D2 L H ∧ va_S (fA E) s.heap H locs ∧ lv_has ls 5 [(3, .int (nI i)), (2, .int (nI d1)), (0, .ref (fad E 86)), (1, .int (nI n.toNatClampNeg))] ∧ (i ≤ tc) ∧ (D2 = (lp_X8_days_27 M L n tc wc d1 D1 i)) ∧ (frD M D2)) (fun (a : Nat × (Nat → Nat → Int32)) => match a with | (i, D2) => tc - i) (pc0 := 27) (st := fun _ => []) ?_ (0, D1) _ _ _ ⟨hP, hS, lv_sub hl [0, 1, 2, 3] rfl, (Nat.zero_le _), rfl, hf1⟩
      rintro ⟨i, D2⟩ H locs ls ⟨hP, hS, hl, ht_27, hbt_27, hf2⟩ ih_27
      refine lv_iload_n hx hb dX8_days_27 rfl (lv_at hl 0 rfl) ?_
      refine lv_aload_n hx hb dX8_days_28 rfl (lv_at hl 2 rfl) ?_
      refine f_get X hP (T := TX8) (ci := 8) (k := 86) rfl inX8 rfl 1 (by decide) m_4_175 rfl (v := .int (nI tc)) (congrArg Value.int ((hf2 86 1 (by decide)).trans htc)) dX8_days_29 ?_
      refine lv_icmp_ge (tgt := 94) hx hb dX8_days_32 (by decide) (fun c_32 => ?_) (fun c_32 => ?_)
      · have c_32 := (nI_le_iff (a := tc) (b := i) (by omega) (by omega)).mp c_32
        have hN_27 : i = tc := by omega
        rw [hN_27] at hbt_27
        rw [hbt_27] at hP
        have hfx2 := hf2
        rw [hbt_27] at hfx2
        refine lv_iconst (v := 0) hx hb dX8_days_94 (by decide) ?_
        refine lv_istore_n (lv' := [(3, .int 0), (2, .int (nI d1)), (0, .ref (fad E 86)), (1, .int (nI n.toNatClampNeg))]) hx hb dX8_days_95 rfl hl (by decide) rfl (fun ls hl => ?_)
        refine f_loop (α := Nat × (Nat → Nat → Int32)) (fun (a : Nat × (Nat → Nat → Int32)) H locs ls => match a with | (j, D3) => fP E D3 L H ∧ va_S (fA E) s.heap H locs ∧ lv_has ls 5 [(3, .int (nI j)), (2, .int (nI d1)), (0, .ref (fad E 86)), (1, .int (nI n.toNatClampNeg))] ∧ (j ≤ wc) ∧ (D3 = (lp_X8_days_96 M L n tc wc d1 D1 j)) ∧ (frD M D3)) (fun (a : Nat × (Nat → Nat → Int32)) => match a with | (j, D3) => wc - j) (pc0 := 96) (st := fun _ => []) ?_ (0, (lp_X8_days_27 M L n tc wc d1 D1 tc)) _ _ _ ⟨hP, hS, lv_sub hl [0, 1, 2, 3] rfl, (Nat.zero_le _), rfl, hfx2⟩
        rintro ⟨j, D3⟩ H locs ls ⟨hP, hS, hl, ht_96, hbt_96, hf3⟩ ih_96
        refine lv_iload_n hx hb dX8_days_96 rfl (lv_at hl 0 rfl) ?_
        refine lv_aload_n hx hb dX8_days_97 rfl (lv_at hl 2 rfl) ?_
        refine f_get X hP (T := TX8) (ci := 8) (k := 86) rfl inX8 rfl 0 (by decide) m_4_174 rfl (v := .int (nI wc)) (congrArg Value.int ((hf3 86 0 (by decide)).trans hwc)) dX8_days_98 ?_
        refine lv_icmp_ge (tgt := 129) hx hb dX8_days_101 (by decide) (fun c_101 => ?_) (fun c_101 => ?_)
        · have c_101 := (nI_le_iff (a := wc) (b := j) (by omega) (by omega)).mp c_101
          have hN_96 : j = wc := by omega
          rw [hN_96] at hbt_96
          rw [hbt_96] at hP
          have hfx3 := hf3
          rw [hbt_96] at hfx3
          refine lv_aload_n hx hb dX8_days_129 rfl (lv_at hl 2 rfl) ?_
          refine lv_dup hx hb dX8_days_130 rfl ?_
          refine f_get X hP (T := TX8) (ci := 8) (k := 86) rfl inX8 rfl 3 (by decide) m_4_177 rfl (v := .int ((lp_X8_days_96 M L n tc wc d1 D1 wc) 86 3)) rfl dX8_days_131 ?_
          refine lv_iconst (v := 1) hx hb dX8_days_134 (by decide) ?_
          refine lv_iadd hx hb dX8_days_135 ?_
          refine f_put X hP hS (T := TX8) (ci := 8) (k := 86) rfl inX8 rfl tyX8 tyX8_ok nmX8 3 (by decide) m_4_177 ⟨rfl, rfl⟩ rfl (v := (((lp_X8_days_96 M L n tc wc d1 D1 wc) 86 3) + 1)) rfl rfl dX8_days_136 (fun H locs hP hS => ?_)
          refine lv_iinc (v := (nI (d1 + 1))) (lv' := [(2, .int (nI (d1 + 1))), (3, .int (nI j)), (0, .ref (fad E 86)), (1, .int (nI n.toNatClampNeg))]) hx hb dX8_days_139 hl (k := 1) rfl (nI_1 _) (by decide) rfl (fun ls hl => ?_)
          refine lv_goto (tgt := 20) hx hb dX8_days_142 (by decide) ?_
          exact ih_20 ((d1 + 1), (up2 (lp_X8_days_96 M L n tc wc d1 D1 wc) 86 3 (((lp_X8_days_96 M L n tc wc d1 D1 wc) 86 3) + 1))) _ _ _ (by show n.toNatClampNeg - (d1 + 1) < n.toNatClampNeg - d1; omega) ⟨hP, hS, lv_sub hl [0, 2, 3] rfl, (by omega), (by
            rw [lp_X8_days_20_s, ← hbt_20]
            (try dsimp only)
            first | done | rfl), (hfx3.up (by decide))⟩
        · have c_101 := (not_congr (nI_le_iff (a := wc) (b := j) (by omega) (by omega))).mp c_101
          refine lv_aload_n hx hb dX8_days_104 rfl (lv_at hl 2 rfl) ?_
          refine lv_dup hx hb dX8_days_105 rfl ?_
          refine f_get X hP (T := TX8) (ci := 8) (k := 86) rfl inX8 rfl 5 (by decide) m_4_179 rfl (v := .int (D3 86 5)) rfl dX8_days_106 ?_
          refine lv_aload_n hx hb dX8_days_109 rfl (lv_at hl 2 rfl) ?_
          refine lv_iload_n hx hb dX8_days_110 rfl (lv_at hl 0 rfl) ?_
          refine lv_aload_n hx hb dX8_days_111 rfl (lv_at hl 2 rfl) ?_
          refine lv_iload_n hx hb dX8_days_112 rfl (lv_at hl 0 rfl) ?_
          refine f_iV (n := 1) X hP hS [.int (nI j)] [.int (nI j), .ref (fad E 86), .int (D3 86 5), .ref (fad E 86)] (c_X8_holding l E D3 L (nI j) j (fIx_nI (by omega) (by decide))) m_5_160 wi_X8_holding rfl rfl (by decide) (by decide +kernel) ⟨Nat.le_of_ble_eq_true rfl, Nat.le_of_ble_eq_true rfl⟩ rfl hl rfl (Nat.le_of_ble_eq_true rfl) ⟨Nat.zero_le _, Nat.zero_le _⟩ dX8_days_113 (fun H locs hP hS => ?_)
          refine f_iV (n := 2) X hP hS [.int (nI j), .int (a_X8_holding D3 L (nI j) j)] [.int (D3 86 5), .ref (fad E 86)] (c_X8_costs l E D3 L (nI j) (a_X8_holding D3 L (nI j) j) j (fIx_nI (by omega) (by decide))) m_5_220 wi_X8_costs rfl rfl (by decide) (by decide +kernel) ⟨Nat.le_of_ble_eq_true rfl, Nat.le_of_ble_eq_true rfl⟩ rfl hl rfl (Nat.le_of_ble_eq_true rfl) ⟨Nat.zero_le _, Nat.zero_le _⟩ dX8_days_116 (fun H locs hP hS => ?_)
          refine lv_iadd hx hb dX8_days_119 ?_
          refine f_put X hP hS (T := TX8) (ci := 8) (k := 86) rfl inX8 rfl tyX8 tyX8_ok nmX8 5 (by decide) m_4_179 ⟨rfl, rfl⟩ rfl (v := ((D3 86 5) + (a_X8_costs D3 L (nI j) (a_X8_holding D3 L (nI j) j) j))) rfl rfl dX8_days_120 (fun H locs hP hS => ?_)
          refine lv_iinc (v := (nI (j + 1))) (lv' := [(3, .int (nI (j + 1))), (2, .int (nI d1)), (0, .ref (fad E 86)), (1, .int (nI n.toNatClampNeg))]) hx hb dX8_days_123 hl (k := 0) rfl (nI_1 _) (by decide) rfl (fun ls hl => ?_)
          refine lv_goto (tgt := 96) hx hb dX8_days_126 (by decide) ?_
          exact ih_96 ((j + 1), (up2 D3 86 5 ((D3 86 5) + (a_X8_costs D3 L (nI j) (a_X8_holding D3 L (nI j) j) j)))) _ _ _ (by show wc - (j + 1) < wc - j; omega) ⟨hP, hS, lv_sub hl [0, 1, 2, 3] rfl, (by omega), (by
            rw [lp_X8_days_96_s, ← hbt_96]
            (try dsimp only)
            first | done | rfl), (hf3.up (by decide))⟩
      · have c_32 := (not_congr (nI_le_iff (a := tc) (b := i) (by omega) (by omega))).mp c_32
        refine lv_aload_n hx hb dX8_days_35 rfl (lv_at hl 2 rfl) ?_
        refine f_get X hP (T := TX8) (ci := 8) (k := 86) rfl inX8 rfl 15 (by decide) m_4_189 rfl (v := .ref (fad E 94)) rfl dX8_days_36 ?_
        refine lv_iload_n hx hb dX8_days_39 rfl (lv_at hl 0 rfl) ?_
        refine f_iald X hP (k := 94) (n := 8) (q := i) rfl rfl (fIx_nI (by omega) (by decide)) dX8_days_40 ?_
        refine lv_aload_n hx hb dX8_days_41 rfl (lv_at hl 2 rfl) ?_
        refine lv_aload_n hx hb dX8_days_42 rfl (lv_at hl 2 rfl) ?_
        refine lv_iload_n hx hb dX8_days_43 rfl (lv_at hl 0 rfl) ?_
        refine f_iV (n := 1) X hP hS [.int (nI i)] [.ref (fad E 86), .int (D2 94 i)] (c_X8_cases l E D2 L (nI i) i (fIx_nI (by omega) (by decide))) m_5_152 wi_X8_cases rfl rfl (by decide) (by decide +kernel) ⟨Nat.le_of_ble_eq_true rfl, Nat.le_of_ble_eq_true rfl⟩ rfl hl rfl (Nat.le_of_ble_eq_true rfl) ⟨Nat.zero_le _, Nat.zero_le _⟩ dX8_days_44 (fun H locs hP hS => ?_)
        refine f_iV (n := 1) X hP hS [.int (a_X8_cases D2 L (nI i) i)] [.int (D2 94 i)] (c_X8_draw l E D2 L (a_X8_cases D2 L (nI i) i) (cs_ne hf2 (hcs i (by omega)))) m_6_96 wi_X8_draw rfl rfl (by decide) (by decide +kernel) ⟨Nat.le_of_ble_eq_true rfl, Nat.le_of_ble_eq_true rfl⟩ rfl hl rfl (Nat.le_of_ble_eq_true rfl) ⟨Nat.zero_le _, Nat.zero_le _⟩ dX8_days_47 (fun H locs hP hS => ?_)
        refine lv_iadd hx hb dX8_days_50 ?_
        refine lv_istore (lv' := [(4, .int ((D2 94 i) + ((a_X8_draw D2 L (a_X8_cases D2 L (nI i) i)).1))), (3, .int (nI i)), (2, .int (nI d1)), (0, .ref (fad E 86)), (1, .int (nI n.toNatClampNeg))]) hx hb dX8_days_51 hl (by decide) rfl (fun ls hl => ?_)
        refine lv_iload hx hb dX8_days_53 (lv_at hl 0 rfl) ?_
        refine lv_aload_n hx hb dX8_days_55 rfl (lv_at hl 3 rfl) ?_
        refine f_get X hP (T := TX8) (ci := 8) (k := 86) rfl inX8 rfl 16 (by decide) m_4_190 rfl (v := .ref (fad E 95)) rfl dX8_days_56 ?_
        refine lv_iload_n hx hb dX8_days_59 rfl (lv_at hl 1 rfl) ?_
        refine f_iald X hP (k := 95) (n := 8) (q := i) rfl rfl (fIx_nI (by omega) (by decide)) dX8_days_60 ?_
        refine lv_icmp_gt (tgt := 88) hx hb dX8_days_61 (by decide) (fun c_61 => ?_) (fun c_61 => ?_)
        · refine lv_iinc (v := (nI (i + 1))) (lv' := [(3, .int (nI (i + 1))), (4, .int ((D2 94 i) + ((a_X8_draw D2 L (a_X8_cases D2 L (nI i) i)).1))), (2, .int (nI d1)), (0, .ref (fad E 86)), (1, .int (nI n.toNatClampNeg))]) hx hb dX8_days_88 hl (k := 1) rfl (nI_1 _) (by decide) rfl (fun ls hl => ?_)
          refine lv_goto (tgt := 27) hx hb dX8_days_91 (by decide) ?_
          exact ih_27 ((i + 1), (a_X8_draw D2 L (a_X8_cases D2 L (nI i) i)).2.1) _ _ _ (by show tc - (i + 1) < tc - i; omega) ⟨hP, hS, lv_sub hl [0, 2, 3, 4] rfl, (by omega), (by
            rw [lp_X8_days_27_s, ← hbt_27]
            (try dsimp only)
            (first | rw [if_pos c_61] | rw [if_neg c_61] | rw [if_neg (Bool.eq_false_iff.mp c_61)] | skip)
            first | done | rfl), (by first | exact hf2.draw | exact hf2.draw.up (by decide))⟩
        · refine lv_aload_n hx hb dX8_days_64 rfl (lv_at hl 3 rfl) ?_
          refine lv_iload_n hx hb dX8_days_65 rfl (lv_at hl 1 rfl) ?_
          refine lv_iconst (v := 0) hx hb dX8_days_66 (by decide) ?_
          refine f_iV (n := 2) X hP hS [.int (nI i), .int 0] [] (c_X8_isMet l E (a_X8_draw D2 L (a_X8_cases D2 L (nI i) i)).2.1 L (nI i) 0 i (fIx_nI (by omega) (by decide))) m_6_44 wi_X8_isMet rfl rfl (by decide) (by decide +kernel) ⟨Nat.le_of_ble_eq_true rfl, Nat.le_of_ble_eq_true rfl⟩ rfl hl rfl (Nat.le_of_ble_eq_true rfl) ⟨Nat.zero_le _, Nat.zero_le _⟩ dX8_days_67 (fun H locs hP hS => ?_)
          refine lv_if_eq (tgt := 88) hx hb dX8_days_70 (by decide) (fun c_70 => ?_) (fun c_70 => ?_)
          · have c_70 := bI0 c_70
            refine lv_iinc (v := (nI (i + 1))) (lv' := [(3, .int (nI (i + 1))), (4, .int ((D2 94 i) + ((a_X8_draw D2 L (a_X8_cases D2 L (nI i) i)).1))), (2, .int (nI d1)), (0, .ref (fad E 86)), (1, .int (nI n.toNatClampNeg))]) hx hb dX8_days_88 hl (k := 1) rfl (nI_1 _) (by decide) rfl (fun ls hl => ?_)
            refine lv_goto (tgt := 27) hx hb dX8_days_91 (by decide) ?_
            exact ih_27 ((i + 1), (a_X8_draw D2 L (a_X8_cases D2 L (nI i) i)).2.1) _ _ _ (by show tc - (i + 1) < tc - i; omega) ⟨hP, hS, lv_sub hl [0, 2, 3, 4] rfl, (by omega), (by
              rw [lp_X8_days_27_s, ← hbt_27]
              (try dsimp only)
              (first | rw [if_pos c_61] | rw [if_neg c_61] | rw [if_neg (Bool.eq_false_iff.mp c_61)] | skip)
              (first | rw [if_pos c_70] | rw [if_neg c_70] | rw [if_neg (Bool.eq_false_iff.mp c_70)] | skip)
              first | done | rfl), (by first | exact hf2.draw | exact hf2.draw.up (by decide))⟩
          · have c_70 := bI1 c_70
            refine lv_aload_n hx hb dX8_days_73 rfl (lv_at hl 3 rfl) ?_
            refine lv_dup hx hb dX8_days_74 rfl ?_
            refine f_get X hP (T := TX8) (ci := 8) (k := 86) rfl inX8 rfl 4 (by decide) m_4_178 rfl (v := .int ((a_X8_draw D2 L (a_X8_cases D2 L (nI i) i)).2.1 86 4)) rfl dX8_days_75 ?_
            refine lv_aload_n hx hb dX8_days_78 rfl (lv_at hl 3 rfl) ?_
            refine f_get X hP (T := TX8) (ci := 8) (k := 86) rfl inX8 rfl 18 (by decide) m_4_192 rfl (v := .ref (fad E 97)) rfl dX8_days_79 ?_
            refine lv_iload_n hx hb dX8_days_82 rfl (lv_at hl 1 rfl) ?_
            refine f_iald X hP (k := 97) (n := 8) (q := i) rfl rfl (fIx_nI (by omega) (by decide)) dX8_days_83 ?_
            refine lv_iadd hx hb dX8_days_84 ?_
            refine f_put X hP hS (T := TX8) (ci := 8) (k := 86) rfl inX8 rfl tyX8 tyX8_ok nmX8 4 (by decide) m_4_178 ⟨rfl, rfl⟩ rfl (v := (((a_X8_draw D2 L (a_X8_cases D2 L (nI i) i)).2.1 86 4) + ((a_X8_draw D2 L (a_X8_cases D2 L (nI i) i)).2.1 97 i))) rfl rfl dX8_days_85 (fun H locs hP hS => ?_)
            refine lv_iinc (v := (nI (i + 1))) (lv' := [(3, .int (nI (i + 1))), (4, .int ((D2 94 i) + ((a_X8_draw D2 L (a_X8_cases D2 L (nI i) i)).1))), (2, .int (nI d1)), (0, .ref (fad E 86)), (1, .int (nI n.toNatClampNeg))]) hx hb dX8_days_88 hl (k := 1) rfl (nI_1 _) (by decide) rfl (fun ls hl => ?_)
            refine lv_goto (tgt := 27) hx hb dX8_days_91 (by decide) ?_
            exact ih_27 ((i + 1), (up2 (a_X8_draw D2 L (a_X8_cases D2 L (nI i) i)).2.1 86 4 (((a_X8_draw D2 L (a_X8_cases D2 L (nI i) i)).2.1 86 4) + ((a_X8_draw D2 L (a_X8_cases D2 L (nI i) i)).2.1 97 i)))) _ _ _ (by show tc - (i + 1) < tc - i; omega) ⟨hP, hS, lv_sub hl [0, 2, 3, 4] rfl, (by omega), (by
              rw [lp_X8_days_27_s, ← hbt_27]
              (try dsimp only)
              (first | rw [if_pos c_61] | rw [if_neg c_61] | rw [if_neg (Bool.eq_false_iff.mp c_61)] | skip)
              (first | rw [if_pos c_70] | rw [if_neg c_70] | rw [if_neg (Bool.eq_false_iff.mp c_70)] | skip)
              first | done | rfl), (by first | exact hf2.draw | exact hf2.draw.up (by decide))⟩
  · have c_8 := bI0 c_8
    refine lv_aload_n hx hb dX8_days_11 rfl (lv_at hl 0 rfl) ?_
    refine lv_bipush (v := (-6)) hx hb dX8_days_12 (by decide) ?_
    refine f_iV (n := 1) X hP hS [.int (-6)] [] (c_X8_no l E M L (-6) (by decide)) m_5_84 wi_X8_no rfl rfl (by decide) (by decide +kernel) ⟨Nat.le_of_ble_eq_true rfl, Nat.le_of_ble_eq_true rfl⟩ rfl hl rfl (Nat.le_of_ble_eq_true rfl) ⟨Nat.zero_le _, Nat.zero_le _⟩ dX8_days_14 (fun H locs hP hS => ?_)
    refine f_ir X hlk hr (v := (-6)) rfl hP hS ?_ dX8_days_17
    unfold a_X8_days
    (first | rw [if_pos c_8] | rw [if_neg c_8] | rw [if_neg (Bool.eq_false_iff.mp c_8)] | skip)
    (try dsimp only)
    first
      | done
      | exact ⟨rfl, rfl⟩
      | rfl
      | (simp only [c_8, if_true, if_false, and_self, and_true, true_and, not_true_eq_false, not_false_eq_true, and_false, false_and, or_true, true_or, or_false, false_or, or_self, Bool.false_eq_true, reduceCtorEq, nl10, nl20, nl30, nl40, nl50, nl60, nl70, nl12, nl13, nl21, nl23, nl31, nl32]; first | done | exact ⟨rfl, rfl⟩ | rfl)
      | contradiction
      | (simp only [c_8, if_true, if_false, and_self, and_true, true_and, not_true_eq_false, not_false_eq_true, and_false, false_and, or_true, true_or, or_false, false_or, or_self, Bool.false_eq_true, reduceCtorEq, nl10, nl20, nl30, nl40, nl50, nl60, nl70, nl12, nl13, nl21, nl23, nl31, nl32]; contradiction)
      | (exfalso; simp_all; done)
      | simp_all
