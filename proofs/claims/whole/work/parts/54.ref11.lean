def lp_X8_stops_13 (M : Nat → Nat → Int32) (L : Nat → Nat → Int64) (t : Int32) (w : Int32) (t0 : Nat) (w0 : Nat) : Nat → Nat → Int32 → Int32 → (Nat → Nat → Int32) → fR
  | 0, i, iz, pd, D => (0, D, L)
  | f9 + 1, i, iz, pd, D => (if (a_X8_holding D L w w0) < (nI (i + 1)) then (iz, D, L) else (if (D 95 t0) < (((D 94 t0) + (nI (i + 1))) - 1) then (iz, D, L) else (if (D 86 39) < ((((D 97 t0) * (nI (i + 1))) - (pd + (a_X8_costs D L w (nI (i + 1)) w0))) - (((a_X8_cases D L t t0) - (nI (i + 1))) * (a_X8_costs D L w (nI (i + 1)) w0))) then (lp_X8_stops_13 M L t w t0 w0 f9 (i + 1) (((D 94 t0) + (nI (i + 1))) - 1) (pd + (a_X8_costs D L w (nI (i + 1)) w0)) (up2 D 86 39 ((((D 97 t0) * (nI (i + 1))) - (pd + (a_X8_costs D L w (nI (i + 1)) w0))) - (((a_X8_cases D L t t0) - (nI (i + 1))) * (a_X8_costs D L w (nI (i + 1)) w0))))) else (lp_X8_stops_13 M L t w t0 w0 f9 (i + 1) iz (pd + (a_X8_costs D L w (nI (i + 1)) w0)) D))))
theorem lp_X8_stops_13_0 (M : Nat → Nat → Int32) (L : Nat → Nat → Int64) (t : Int32) (w : Int32) (t0 : Nat) (w0 : Nat) (i : Nat) (iz : Int32) (pd : Int32) (D : (Nat → Nat → Int32)) : (lp_X8_stops_13 M L t w t0 w0 0 i iz pd D) = (0, D, L) := rfl
theorem lp_X8_stops_13_s (M : Nat → Nat → Int32) (L : Nat → Nat → Int64) (t : Int32) (w : Int32) (t0 : Nat) (w0 : Nat) (f9 i : Nat) (iz : Int32) (pd : Int32) (D : (Nat → Nat → Int32)) : (lp_X8_stops_13 M L t w t0 w0 (f9 + 1) i iz pd D) = (if (a_X8_holding D L w w0) < (nI (i + 1)) then (iz, D, L) else (if (D 95 t0) < (((D 94 t0) + (nI (i + 1))) - 1) then (iz, D, L) else (if (D 86 39) < ((((D 97 t0) * (nI (i + 1))) - (pd + (a_X8_costs D L w (nI (i + 1)) w0))) - (((a_X8_cases D L t t0) - (nI (i + 1))) * (a_X8_costs D L w (nI (i + 1)) w0))) then (lp_X8_stops_13 M L t w t0 w0 f9 (i + 1) (((D 94 t0) + (nI (i + 1))) - 1) (pd + (a_X8_costs D L w (nI (i + 1)) w0)) (up2 D 86 39 ((((D 97 t0) * (nI (i + 1))) - (pd + (a_X8_costs D L w (nI (i + 1)) w0))) - (((a_X8_cases D L t t0) - (nI (i + 1))) * (a_X8_costs D L w (nI (i + 1)) w0))))) else (lp_X8_stops_13 M L t w t0 w0 f9 (i + 1) iz (pd + (a_X8_costs D L w (nI (i + 1)) w0)) D)))) := rfl
def a_X8_stops (M : Nat → Nat → Int32) (L : Nat → Nat → Int64) (t : Int32) (w : Int32) (t0 : Nat) (w0 : Nat) : fR := (lp_X8_stops_13 M L t w t0 w0 25 0 (-1) 0 (up2 M 86 39 0))
set_option maxHeartbeats 1000000 in
set_option maxRecDepth 100000 in
theorem c_X8_stops (l : Launch) (E : fE) (M : Nat → Nat → Int32) (L : Nat → Nat → Int64) (t : Int32) (w : Int32) (t0 w0 : Nat) (ht : fIx t 8 t0) (hw : fIx w 6 w0) : Met l yX8_stops (wl yX8_stops cX8_stops 7 (some .int)) (fRm 1 25) (va_Pc [.ref (fad E 86), .int t, .int w] (fPre E M L)) (fQi E (fun r u => u = ((a_X8_stops M L t w t0 w0).2.1, L) ∧ r = (a_X8_stops M L t w t0 w0).1)) 0 0 (fA E) := by
  refine f_head (by decide) (Nat.le_of_ble_eq_true rfl) ?_
  intro pg ev s mi below meth cd ls X hr hlk hP hS hl
  have hx := X.1.1
  have hb := X.1.2.1
  have hl : lv_has ls 7 [(0, .ref (fad E 86)), (1, .int t), (2, .int w)] := hl
  refine lv_iconst (v := (-1)) hx hb dX8_stops_0 (by decide) ?_
  refine lv_istore_n (lv' := [(3, .int (-1)), (0, .ref (fad E 86)), (1, .int t), (2, .int w)]) hx hb dX8_stops_1 rfl hl (by decide) rfl (fun ls hl => ?_)
  refine lv_iconst (v := 0) hx hb dX8_stops_2 (by decide) ?_
  refine lv_istore (lv' := [(4, .int 0), (3, .int (-1)), (0, .ref (fad E 86)), (1, .int t), (2, .int w)]) hx hb dX8_stops_3 hl (by decide) rfl (fun ls hl => ?_)
  refine lv_aload_n hx hb dX8_stops_5 rfl (lv_at hl 2 rfl) ?_
  refine lv_iconst (v := 0) hx hb dX8_stops_6 (by decide) ?_
  refine f_put X hP hS (T := TX8) (ci := 8) (k := 86) rfl inX8 rfl tyX8 tyX8_ok nmX8 39 (by decide) m_4_213 ⟨rfl, rfl⟩ rfl (v := 0) rfl rfl dX8_stops_7 (fun H locs hP hS => ?_)
  refine lv_iconst (v := 1) hx hb dX8_stops_10 (by decide) ?_
  refine lv_istore (lv' := [(5, .int 1), (4, .int 0), (3, .int (-1)), (0, .ref (fad E 86)), (1, .int t), (2, .int w)]) hx hb dX8_stops_11 hl (by decide) rfl (fun ls hl => ?_)
  refine f_loop (α := Nat × Int32 × Int32 × (Nat → Nat → Int32)) (fun (a : Nat × Int32 × Int32 × (Nat → Nat → Int32)) H locs ls => match a with | (i, iz, pd, D) => fP E D L H ∧ va_S (fA E) s.heap H locs ∧ lv_has ls 7 [(5, .int (nI (i + 1))), (4, .int pd), (3, .int iz), (0, .ref (fad E 86)), (1, .int t), (2, .int w)] ∧ (i < 25) ∧ ((lp_X8_stops_13 M L t w t0 w0 25 0 (-1) 0 (up2 M 86 39 0)) = (lp_X8_stops_13 M L t w t0 w0 (25 - i) i iz pd D))) (fun (a : Nat × Int32 × Int32 × (Nat → Nat → Int32)) => match a with | (i, iz, pd, D) => 25 - i) (pc0 := 13) (st := fun _ => []) ?_ (0, (-1), 0, (up2 M 86 39 0)) _ _ _ ⟨hP, hS, lv_sub hl [0, 1, 2, 3, 4, 5] rfl, (by decide), rfl⟩
  rintro ⟨i, iz, pd, D⟩ H locs ls ⟨hP, hS, hl, ht_13, hbt_13⟩ ih_13
  have hs_13 : 25 - i = 25 - (i + 1) + 1 := by omega
  have hbt_13 := hbt_13.trans ((congrArg (fun f9 => (lp_X8_stops_13 M L t w t0 w0 f9 i iz pd D)) hs_13).trans (lp_X8_stops_13_s M L t w t0 w0 (25 - (i + 1)) i iz pd D))
  refine lv_iload hx hb dX8_stops_13 (lv_at hl 0 rfl) ?_
  refine lv_aload_n hx hb dX8_stops_15 rfl (lv_at hl 3 rfl) ?_
  refine lv_iload_n hx hb dX8_stops_16 rfl (lv_at hl 5 rfl) ?_
  refine f_iV (n := 1) X hP hS [.int w] [.int (nI (i + 1))] (c_X8_holding l E D L w w0 hw) m_5_160 wi_X8_holding rfl rfl (by decide) (by decide +kernel) ⟨Nat.le_of_ble_eq_true rfl, Nat.le_of_ble_eq_true rfl⟩ rfl hl rfl (Nat.le_of_ble_eq_true rfl) ⟨Nat.zero_le _, Nat.zero_le _⟩ dX8_stops_17 (fun H locs hP hS => ?_)
  refine lv_icmp_gt (tgt := 122) hx hb dX8_stops_20 (by decide) (fun c_20 => ?_) (fun c_20 => ?_)
  · refine lv_iload_n hx hb dX8_stops_122 rfl (lv_at hl 2 rfl) ?_
    refine f_ir X hlk hr (v := iz) rfl hP hS ?_ dX8_stops_123
    unfold a_X8_stops
    rw [hbt_13]
    (first | rw [if_pos c_20] | rw [if_neg c_20] | rw [if_neg (Bool.eq_false_iff.mp c_20)] | skip)
    (try dsimp only)
    first
      | done
      | exact ⟨rfl, rfl⟩
      | rfl
      | (simp only [c_20, if_true, if_false, and_self, and_true, true_and, not_true_eq_false, not_false_eq_true, and_false, false_and, or_true, true_or, or_false, false_or, or_self, Bool.false_eq_true, reduceCtorEq, nl10, nl20, nl30, nl40, nl50, nl60, nl70, nl12, nl13, nl21, nl23, nl31, nl32]; first | done | exact ⟨rfl, rfl⟩ | rfl)
      | contradiction
      | (simp only [c_20, if_true, if_false, and_self, and_true, true_and, not_true_eq_false, not_false_eq_true, and_false, false_and, or_true, true_or, or_false, false_or, or_self, Bool.false_eq_true, reduceCtorEq, nl10, nl20, nl30, nl40, nl50, nl60, nl70, nl12, nl13, nl21, nl23, nl31, nl32]; contradiction)
      | (exfalso; simp_all; done)
      | simp_all
  · refine lv_aload_n hx hb dX8_stops_23 rfl (lv_at hl 3 rfl) ?_
    refine f_get X hP (T := TX8) (ci := 8) (k := 86) rfl inX8 rfl 15 (by decide) m_4_189 rfl (v := .ref (fad E 94)) rfl dX8_stops_24 ?_
    refine lv_iload_n hx hb dX8_stops_27 rfl (lv_at hl 4 rfl) ?_
    refine f_iald X hP (k := 94) (n := 8) (q := t0) rfl rfl ht dX8_stops_28 ?_
    refine lv_iload hx hb dX8_stops_29 (lv_at hl 0 rfl) ?_
    refine lv_iadd hx hb dX8_stops_31 ?_
    refine lv_iconst (v := 1) hx hb dX8_stops_32 (by decide) ?_
    refine lv_isub hx hb dX8_stops_33 ?_
    refine lv_aload_n hx hb dX8_stops_34 rfl (lv_at hl 3 rfl) ?_
    refine f_get X hP (T := TX8) (ci := 8) (k := 86) rfl inX8 rfl 16 (by decide) m_4_190 rfl (v := .ref (fad E 95)) rfl dX8_stops_35 ?_
    refine lv_iload_n hx hb dX8_stops_38 rfl (lv_at hl 4 rfl) ?_
    refine f_iald X hP (k := 95) (n := 8) (q := t0) rfl rfl ht dX8_stops_39 ?_
    refine lv_icmp_gt (tgt := 122) hx hb dX8_stops_40 (by decide) (fun c_40 => ?_) (fun c_40 => ?_)
    · refine lv_iload_n hx hb dX8_stops_122 rfl (lv_at hl 2 rfl) ?_
      refine f_ir X hlk hr (v := iz) rfl hP hS ?_ dX8_stops_123
      unfold a_X8_stops
      rw [hbt_13]
      (first | rw [if_pos c_20] | rw [if_neg c_20] | rw [if_neg (Bool.eq_false_iff.mp c_20)] | skip)
      (first | rw [if_pos c_40] | rw [if_neg c_40] | rw [if_neg (Bool.eq_false_iff.mp c_40)] | skip)
      (try dsimp only)
      first
        | done
        | exact ⟨rfl, rfl⟩
        | rfl
        | (simp only [c_20, c_40, if_true, if_false, and_self, and_true, true_and, not_true_eq_false, not_false_eq_true, and_false, false_and, or_true, true_or, or_false, false_or, or_self, Bool.false_eq_true, reduceCtorEq, nl10, nl20, nl30, nl40, nl50, nl60, nl70, nl12, nl13, nl21, nl23, nl31, nl32]; first | done | exact ⟨rfl, rfl⟩ | rfl)
        | contradiction
        | (simp only [c_20, c_40, if_true, if_false, and_self, and_true, true_and, not_true_eq_false, not_false_eq_true, and_false, false_and, or_true, true_or, or_false, false_or, or_self, Bool.false_eq_true, reduceCtorEq, nl10, nl20, nl30, nl40, nl50, nl60, nl70, nl12, nl13, nl21, nl23, nl31, nl32]; contradiction)
        | (exfalso; simp_all; done)
        | simp_all
    · refine lv_iload hx hb dX8_stops_43 (lv_at hl 1 rfl) ?_
      refine lv_aload_n hx hb dX8_stops_45 rfl (lv_at hl 3 rfl) ?_
      refine lv_iload_n hx hb dX8_stops_46 rfl (lv_at hl 5 rfl) ?_
      refine lv_iload hx hb dX8_stops_47 (lv_at hl 0 rfl) ?_
      refine f_iV (n := 2) X hP hS [.int w, .int (nI (i + 1))] [.int pd] (c_X8_costs l E D L w (nI (i + 1)) w0 hw) m_5_220 wi_X8_costs rfl rfl (by decide) (by decide +kernel) ⟨Nat.le_of_ble_eq_true rfl, Nat.le_of_ble_eq_true rfl⟩ rfl hl rfl (Nat.le_of_ble_eq_true rfl) ⟨Nat.zero_le _, Nat.zero_le _⟩ dX8_stops_49 (fun H locs hP hS => ?_)
      refine lv_iadd hx hb dX8_stops_52 ?_
      refine lv_istore (lv' := [(4, .int (pd + (a_X8_costs D L w (nI (i + 1)) w0))), (5, .int (nI (i + 1))), (3, .int iz), (0, .ref (fad E 86)), (1, .int t), (2, .int w)]) hx hb dX8_stops_53 hl (by decide) rfl (fun ls hl => ?_)
      refine lv_aload_n hx hb dX8_stops_55 rfl (lv_at hl 3 rfl) ?_
      refine f_get X hP (T := TX8) (ci := 8) (k := 86) rfl inX8 rfl 18 (by decide) m_4_192 rfl (v := .ref (fad E 97)) rfl dX8_stops_56 ?_
      refine lv_iload_n hx hb dX8_stops_59 rfl (lv_at hl 4 rfl) ?_
      refine f_iald X hP (k := 97) (n := 8) (q := t0) rfl rfl ht dX8_stops_60 ?_
      refine lv_iload hx hb dX8_stops_61 (lv_at hl 1 rfl) ?_
      refine lv_imul hx hb dX8_stops_63 ?_
      refine lv_iload hx hb dX8_stops_64 (lv_at hl 0 rfl) ?_
      refine lv_isub hx hb dX8_stops_66 ?_
      refine lv_aload_n hx hb dX8_stops_67 rfl (lv_at hl 3 rfl) ?_
      refine lv_iload_n hx hb dX8_stops_68 rfl (lv_at hl 4 rfl) ?_
      refine f_iV (n := 1) X hP hS [.int t] [.int (((D 97 t0) * (nI (i + 1))) - (pd + (a_X8_costs D L w (nI (i + 1)) w0)))] (c_X8_cases l E D L t t0 ht) m_5_152 wi_X8_cases rfl rfl (by decide) (by decide +kernel) ⟨Nat.le_of_ble_eq_true rfl, Nat.le_of_ble_eq_true rfl⟩ rfl hl rfl (Nat.le_of_ble_eq_true rfl) ⟨Nat.zero_le _, Nat.zero_le _⟩ dX8_stops_69 (fun H locs hP hS => ?_)
      refine lv_iload hx hb dX8_stops_72 (lv_at hl 1 rfl) ?_
      refine lv_isub hx hb dX8_stops_74 ?_
      refine lv_aload_n hx hb dX8_stops_75 rfl (lv_at hl 3 rfl) ?_
      refine lv_iload_n hx hb dX8_stops_76 rfl (lv_at hl 5 rfl) ?_
      refine lv_iload hx hb dX8_stops_77 (lv_at hl 1 rfl) ?_
      refine f_iV (n := 2) X hP hS [.int w, .int (nI (i + 1))] [.int ((a_X8_cases D L t t0) - (nI (i + 1))), .int (((D 97 t0) * (nI (i + 1))) - (pd + (a_X8_costs D L w (nI (i + 1)) w0)))] (c_X8_costs l E D L w (nI (i + 1)) w0 hw) m_5_220 wi_X8_costs rfl rfl (by decide) (by decide +kernel) ⟨Nat.le_of_ble_eq_true rfl, Nat.le_of_ble_eq_true rfl⟩ rfl hl rfl (Nat.le_of_ble_eq_true rfl) ⟨Nat.zero_le _, Nat.zero_le _⟩ dX8_stops_79 (fun H locs hP hS => ?_)
      refine lv_imul hx hb dX8_stops_82 ?_
      refine lv_isub hx hb dX8_stops_83 ?_
      refine lv_istore (lv' := [(6, .int ((((D 97 t0) * (nI (i + 1))) - (pd + (a_X8_costs D L w (nI (i + 1)) w0))) - (((a_X8_cases D L t t0) - (nI (i + 1))) * (a_X8_costs D L w (nI (i + 1)) w0)))), (4, .int (pd + (a_X8_costs D L w (nI (i + 1)) w0))), (5, .int (nI (i + 1))), (3, .int iz), (0, .ref (fad E 86)), (1, .int t), (2, .int w)]) hx hb dX8_stops_84 hl (by decide) rfl (fun ls hl => ?_)
      refine lv_iload hx hb dX8_stops_86 (lv_at hl 0 rfl) ?_
      refine lv_aload_n hx hb dX8_stops_88 rfl (lv_at hl 4 rfl) ?_
      refine f_get X hP (T := TX8) (ci := 8) (k := 86) rfl inX8 rfl 39 (by decide) m_4_213 rfl (v := .int (D 86 39)) rfl dX8_stops_89 ?_
      refine lv_icmp_gt (tgt := 98) hx hb dX8_stops_92 (by decide) (fun c_92 => ?_) (fun c_92 => ?_)
      · refine lv_aload_n hx hb dX8_stops_98 rfl (lv_at hl 4 rfl) ?_
        refine f_get X hP (T := TX8) (ci := 8) (k := 86) rfl inX8 rfl 15 (by decide) m_4_189 rfl (v := .ref (fad E 94)) rfl dX8_stops_99 ?_
        refine lv_iload_n hx hb dX8_stops_102 rfl (lv_at hl 5 rfl) ?_
        refine f_iald X hP (k := 94) (n := 8) (q := t0) rfl rfl ht dX8_stops_103 ?_
        refine lv_iload hx hb dX8_stops_104 (lv_at hl 2 rfl) ?_
        refine lv_iadd hx hb dX8_stops_106 ?_
        refine lv_iconst (v := 1) hx hb dX8_stops_107 (by decide) ?_
        refine lv_isub hx hb dX8_stops_108 ?_
        refine lv_istore_n (lv' := [(3, .int (((D 94 t0) + (nI (i + 1))) - 1)), (6, .int ((((D 97 t0) * (nI (i + 1))) - (pd + (a_X8_costs D L w (nI (i + 1)) w0))) - (((a_X8_cases D L t t0) - (nI (i + 1))) * (a_X8_costs D L w (nI (i + 1)) w0)))), (4, .int (pd + (a_X8_costs D L w (nI (i + 1)) w0))), (5, .int (nI (i + 1))), (0, .ref (fad E 86)), (1, .int t), (2, .int w)]) hx hb dX8_stops_109 rfl hl (by decide) rfl (fun ls hl => ?_)
        refine lv_aload_n hx hb dX8_stops_110 rfl (lv_at hl 4 rfl) ?_
        refine lv_iload hx hb dX8_stops_111 (lv_at hl 1 rfl) ?_
        refine f_put X hP hS (T := TX8) (ci := 8) (k := 86) rfl inX8 rfl tyX8 tyX8_ok nmX8 39 (by decide) m_4_213 ⟨rfl, rfl⟩ rfl (v := ((((D 97 t0) * (nI (i + 1))) - (pd + (a_X8_costs D L w (nI (i + 1)) w0))) - (((a_X8_cases D L t t0) - (nI (i + 1))) * (a_X8_costs D L w (nI (i + 1)) w0)))) rfl rfl dX8_stops_113 (fun H locs hP hS => ?_)
        refine lv_iinc (v := (nI (i + 1 + 1))) (lv' := [(5, .int (nI (i + 1 + 1))), (3, .int (((D 94 t0) + (nI (i + 1))) - 1)), (6, .int ((((D 97 t0) * (nI (i + 1))) - (pd + (a_X8_costs D L w (nI (i + 1)) w0))) - (((a_X8_cases D L t t0) - (nI (i + 1))) * (a_X8_costs D L w (nI (i + 1)) w0)))), (4, .int (pd + (a_X8_costs D L w (nI (i + 1)) w0))), (0, .ref (fad E 86)), (1, .int t), (2, .int w)]) hx hb dX8_stops_116 hl (k := 3) rfl (nI_1 _) (by decide) rfl (fun ls hl => ?_)
        refine lv_goto (tgt := 13) hx hb dX8_stops_119 (by decide) ?_
        exact ih_13 ((i + 1), (((D 94 t0) + (nI (i + 1))) - 1), (pd + (a_X8_costs D L w (nI (i + 1)) w0)), (up2 D 86 39 ((((D 97 t0) * (nI (i + 1))) - (pd + (a_X8_costs D L w (nI (i + 1)) w0))) - (((a_X8_cases D L t t0) - (nI (i + 1))) * (a_X8_costs D L w (nI (i + 1)) w0))))) _ _ _ (by show 25 - (i + 1) < 25 - i; omega) ⟨hP, hS, lv_sub hl [0, 3, 1, 4, 5, 6] rfl, (hold_lt hold24 c_20 ht_13), (by
          refine hbt_13.trans ?_
          (first | rw [if_pos c_20] | rw [if_neg c_20] | rw [if_neg (Bool.eq_false_iff.mp c_20)] | skip)
          (first | rw [if_pos c_40] | rw [if_neg c_40] | rw [if_neg (Bool.eq_false_iff.mp c_40)] | skip)
          (first | rw [if_pos c_92] | rw [if_neg c_92] | rw [if_neg (Bool.eq_false_iff.mp c_92)] | skip)
          first | done | rfl)⟩
      · refine lv_goto (tgt := 116) hx hb dX8_stops_95 (by decide) ?_
        refine lv_iinc (v := (nI (i + 1 + 1))) (lv' := [(5, .int (nI (i + 1 + 1))), (6, .int ((((D 97 t0) * (nI (i + 1))) - (pd + (a_X8_costs D L w (nI (i + 1)) w0))) - (((a_X8_cases D L t t0) - (nI (i + 1))) * (a_X8_costs D L w (nI (i + 1)) w0)))), (4, .int (pd + (a_X8_costs D L w (nI (i + 1)) w0))), (3, .int iz), (0, .ref (fad E 86)), (1, .int t), (2, .int w)]) hx hb dX8_stops_116 hl (k := 2) rfl (nI_1 _) (by decide) rfl (fun ls hl => ?_)
        refine lv_goto (tgt := 13) hx hb dX8_stops_119 (by decide) ?_
        exact ih_13 ((i + 1), iz, (pd + (a_X8_costs D L w (nI (i + 1)) w0)), D) _ _ _ (by show 25 - (i + 1) < 25 - i; omega) ⟨hP, hS, lv_sub hl [0, 2, 3, 4, 5, 6] rfl, (hold_lt hold24 c_20 ht_13), (by
          refine hbt_13.trans ?_
          (first | rw [if_pos c_20] | rw [if_neg c_20] | rw [if_neg (Bool.eq_false_iff.mp c_20)] | skip)
          (first | rw [if_pos c_40] | rw [if_neg c_40] | rw [if_neg (Bool.eq_false_iff.mp c_40)] | skip)
          (first | rw [if_pos c_92] | rw [if_neg c_92] | rw [if_neg (Bool.eq_false_iff.mp c_92)] | skip)
          first | done | rfl)⟩
