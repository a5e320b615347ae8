def lp_X8_posts_36 (M : Nat → Nat → Int32) (L : Nat → Nat → Int64) (what : Int32) (tc : Nat) (wc : Nat) (pp : Nat) (ch : Int32) : Nat → Int32 := itF (fun i s9 => (if (((nI pp) >>> ((nI i) &&& 31)) &&& 1) = 1 then (s9 ||| (a_X8_seenFrom M L (nI i) (M 92 i) tc i)) else s9)) 0
theorem lp_X8_posts_36_s (M : Nat → Nat → Int32) (L : Nat → Nat → Int64) (what : Int32) (tc : Nat) (wc : Nat) (pp : Nat) (ch : Int32) (i : Nat) : (lp_X8_posts_36 M L what tc wc pp ch (i + 1)) = (if (((nI pp) >>> ((nI i) &&& 31)) &&& 1) = 1 then (((lp_X8_posts_36 M L what tc wc pp ch i)) ||| (a_X8_seenFrom M L (nI i) (M 92 i) tc i)) else ((lp_X8_posts_36 M L what tc wc pp ch i))) := rfl
def lp_X8_posts_20 (M : Nat → Nat → Int32) (L : Nat → Nat → Int64) (what : Int32) (tc : Nat) (wc : Nat) : Nat → Int32 := itF (fun pp s9 => (if (a_X8_many M L (lp_X8_posts_36 M L what tc wc pp s9 wc)) = (nI tc) then (if s9 = (-1) then (nI pp) else (if (a_X8_many M L s9) ≤ (a_X8_many M L (nI pp)) then s9 else (nI pp))) else s9)) (-1)
theorem lp_X8_posts_20_s (M : Nat → Nat → Int32) (L : Nat → Nat → Int64) (what : Int32) (tc : Nat) (wc : Nat) (pp : Nat) : (lp_X8_posts_20 M L what tc wc (pp + 1)) = (if (a_X8_many M L (lp_X8_posts_36 M L what tc wc pp ((lp_X8_posts_20 M L what tc wc pp)) wc)) = (nI tc) then (if ((lp_X8_posts_20 M L what tc wc pp)) = (-1) then (nI pp) else (if (a_X8_many M L ((lp_X8_posts_20 M L what tc wc pp))) ≤ (a_X8_many M L (nI pp)) then ((lp_X8_posts_20 M L what tc wc pp)) else (nI pp))) else ((lp_X8_posts_20 M L what tc wc pp))) := rfl
def a_X8_posts (M : Nat → Nat → Int32) (L : Nat → Nat → Int64) (what : Int32) (tc : Nat) (wc : Nat) : fR := (if what < 0 then (((-5) - 10), (noM M (-5)), L) else (if what ≤ 1 then (if what = 1 then ((lp_X8_posts_20 M L what tc wc (2 ^ wc)), M, L) else (if (lp_X8_posts_20 M L what tc wc (2 ^ wc)) = (-1) then ((lp_X8_posts_20 M L what tc wc (2 ^ wc)), M, L) else ((a_X8_many M L (lp_X8_posts_20 M L what tc wc (2 ^ wc))), M, L))) else (((-5) - 10), (noM M (-5)), L)))
set_option maxHeartbeats 1000000 in
set_option maxRecDepth 100000 in
theorem c_X8_posts (l : Launch) (E : fE) (M : Nat → Nat → Int32) (L : Nat → Nat → Int64) (what : Int32) (tc wc : Nat) (htc : M 86 1 = nI tc) (htc8 : tc ≤ 8) (hwc : M 86 0 = nI wc) (hwc6 : wc ≤ 6) : Met l yX8_posts (wl yX8_posts cX8_posts 6 (some .int)) (fRm 2 46) (va_Pc [.ref (fad E 86), .int what] (fPre E M L)) (fQi E (fun r u => u = ((a_X8_posts M L what tc wc).2.1, L) ∧ r = (a_X8_posts M L what tc wc).1)) 0 0 (fA E) := by
  refine f_head (by decide) (Nat.le_of_ble_eq_true rfl) ?_
  intro pg ev s mi below meth cd ls X hr hlk hP hS hl
  have hx := X.1.1
  have hb := X.1.2.1
  have hl : lv_has ls 6 [(0, .ref (fad E 86)), (1, .int what)] := hl
  have hwp : 2 ^ wc ≤ 64 := Nat.pow_le_pow_right (by decide) hwc6
  refine lv_iload_n hx hb dX8_posts_0 rfl (lv_at hl 1 rfl) ?_
  refine lv_if_lt (tgt := 9) hx hb dX8_posts_1 (by decide) (fun c_1 => ?_) (fun c_1 => ?_)
  · refine lv_aload_n hx hb dX8_posts_9 rfl (lv_at hl 0 rfl) ?_
    refine lv_bipush (v := (-5)) hx hb dX8_posts_10 (by decide) ?_
    refine f_iV (n := 1) X hP hS [.int (-5)] [] (c_X8_noTen l E M L (-5) (by decide)) m_5_236 wi_X8_noTen rfl rfl (by decide) (by decide +kernel) ⟨Nat.le_of_ble_eq_true rfl, Nat.le_of_ble_eq_true rfl⟩ rfl hl rfl (Nat.le_of_ble_eq_true rfl) ⟨Nat.zero_le _, Nat.zero_le _⟩ dX8_posts_12 (fun H locs hP hS => ?_)
    refine f_ir X hlk hr (v := ((-5) - 10)) rfl hP hS ?_ dX8_posts_15
    unfold a_X8_posts
    (first | rw [if_pos c_1] | rw [if_neg c_1] | rw [if_neg (Bool.eq_false_iff.mp c_1)] | skip)
    (try dsimp only)
    first
      | done
      | exact ⟨rfl, rfl⟩
      | rfl
      | (simp only [c_1, if_true, if_false, and_self, and_true, true_and, not_true_eq_false, not_false_eq_true, and_false, false_and, or_true, true_or, or_false, false_or, or_self, Bool.false_eq_true, reduceCtorEq, nl10, nl20, nl30, nl40, nl50, nl60, nl70, nl12, nl13, nl21, nl23, nl31, nl32]; first | done | exact ⟨rfl, rfl⟩ | rfl)
      | contradiction
      | (simp only [c_1, if_true, if_false, and_self, and_true, true_and, not_true_eq_false, not_false_eq_true, and_false, false_and, or_true, true_or, or_false, false_or, or_self, Bool.false_eq_true, reduceCtorEq, nl10, nl20, nl30, nl40, nl50, nl60, nl70, nl12, nl13, nl21, nl23, nl31, nl32]; contradiction)
      | (exfalso; simp_all; done)
      | simp_all
  · refine lv_iload_n hx hb dX8_posts_4 rfl (lv_at hl 1 rfl) ?_
    refine lv_iconst (v := 1) hx hb dX8_posts_5 (by decide) ?_
    refine lv_icmp_le (tgt := 16) hx hb dX8_posts_6 (by decide) (fun c_6 => ?_) (fun c_6 => ?_)
    · refine lv_iconst (v := (-1)) hx hb dX8_posts_16 (by decide) ?_
      refine lv_istore_n (lv' := [(2, .int (-1)), (0, .ref (fad E 86)), (1, .int what)]) hx hb dX8_posts_17 rfl hl (by decide) rfl (fun ls hl => ?_)
      refine lv_iconst (v := 0) hx hb dX8_posts_18 (by decide) ?_
      refine lv_istore_n (lv' := [(3, .int 0), (2, .int (-1)), (0, .ref (fad E 86)), (1, .int what)]) hx hb dX8_posts_19 rfl hl (by decide) rfl (fun ls hl => ?_)
      refine f_loop (α := Nat × Int32) (fun (a : Nat × Int32) H locs ls => match a with | (pp, ch) => fP E M L H ∧ va_S (fA E) s.heap H locs ∧ lv_has ls 6 [(3, .int (nI pp)), (2, .int ch), (0, .ref (fad E 86)), (1, .int what)] ∧ (pp ≤ (2 ^ wc)) ∧ (ch = (lp_X8_posts_20 M L what tc wc pp))) (fun (a : Nat × Int32) => match a with | (pp, ch) => (2 ^ wc) - pp) (pc0 := 20) (st := fun _ => []) ?_ (0, (-1)) _ _ _ ⟨hP, hS, lv_sub hl [0, 1, 2, 3] rfl, (Nat.zero_le _), rfl⟩
      rintro ⟨pp, ch⟩ H locs ls ⟨hP, hS, hl, ht_20, hbt_20⟩ ih_20
      refine lv_iload_n hx hb dX8_posts_20 rfl (lv_at hl 0 rfl) ?_
      refine lv_iconst (v := 1) hx hb dX8_posts_21 (by decide) ?_
      refine lv_aload_n hx hb dX8_posts_22 rfl (lv_at hl 2 rfl) ?_
      refine f_get X hP (T := TX8) (ci := 8) (k := 86) rfl inX8 rfl 0 (by decide) m_4_174 rfl (v := .int (nI wc)) (congrArg Value.int hwc) dX8_posts_23 ?_
      refine lv_ishl hx hb dX8_posts_26 ?_
      refine f_topI (v := (nI (2 ^ wc))) (bitN (by omega)) ?_
      refine lv_icmp_ge (tgt := 118) hx hb dX8_posts_27 (by decide) (fun c_27 => ?_) (fun c_27 => ?_)
      · have c_27 := (nI_le_iff (a := (2 ^ wc)) (b := pp) (by omega) (by omega)).mp c_27
        have hN_20 : pp = (2 ^ wc) := by omega
        rw [hN_20] at hbt_20
        subst hbt_20
        refine lv_iload_n hx hb dX8_posts_118 rfl (lv_at hl 3 rfl) ?_
        refine lv_iconst (v := 1) hx hb dX8_posts_119 (by decide) ?_
        refine lv_icmp_eq (tgt := 128) hx hb dX8_posts_120 (by decide) (fun c_120 => ?_) (fun c_120 => ?_)
        · refine lv_iload_n hx hb dX8_posts_128 rfl (lv_at hl 1 rfl) ?_
          refine lv_goto (tgt := 137) hx hb dX8_posts_129 (by decide) ?_
          refine f_ir X hlk hr (v := (lp_X8_posts_20 M L what tc wc (2 ^ wc))) rfl hP hS ?_ dX8_posts_137
          unfold a_X8_posts
          (first | rw [if_pos c_1] | rw [if_neg c_1] | rw [if_neg (Bool.eq_false_iff.mp c_1)] | skip)
          (first | rw [if_pos c_6] | rw [if_neg c_6] | rw [if_neg (Bool.eq_false_iff.mp c_6)] | skip)
          (first | rw [if_pos c_120] | rw [if_neg c_120] | rw [if_neg (Bool.eq_false_iff.mp c_120)] | skip)
          (try dsimp only)
          first
            | done
            | exact ⟨rfl, rfl⟩
            | rfl
            | (simp only [c_1, c_6, c_120, if_true, if_false, and_self, and_true, true_and, not_true_eq_false, not_false_eq_true, and_false, false_and, or_true, true_or, or_false, false_or, or_self, Bool.false_eq_true, reduceCtorEq, nl10, nl20, nl30, nl40, nl50, nl60, nl70, nl12, nl13, nl21, nl23, nl31, nl32]; first | done | exact ⟨rfl, rfl⟩ | rfl)
            | contradiction
            | (simp only [c_1, c_6, c_120, if_true, if_false, and_self, and_true, true_and, not_true_eq_false, not_false_eq_true, and_false, false_and, or_true, true_or, or_false, false_or, or_self, Bool.false_eq_true, reduceCtorEq, nl10, nl20, nl30, nl40, nl50, nl60, nl70, nl12, nl13, nl21, nl23, nl31, nl32]; contradiction)
            | (exfalso; simp_all; done)
            | simp_all
        · refine lv_iload_n hx hb dX8_posts_123 rfl (lv_at hl 1 rfl) ?_
          refine lv_iconst (v := (-1)) hx hb dX8_posts_124 (by decide) ?_
          refine lv_icmp_ne (tgt := 132) hx hb dX8_posts_125 (by decide) (fun c_125 => ?_) (fun c_125 => ?_)
          · refine lv_aload_n hx hb dX8_posts_132 rfl (lv_at hl 2 rfl) ?_
            refine lv_iload_n hx hb dX8_posts_133 rfl (lv_at hl 1 rfl) ?_
            refine f_iV (n := 1) X hP hS [.int (lp_X8_posts_20 M L what tc wc (2 ^ wc))] [] (c_X8_many l E M L (lp_X8_posts_20 M L what tc wc (2 ^ wc))) m_6_24 wi_X8_many rfl rfl (by decide) (by decide +kernel) ⟨Nat.le_of_ble_eq_true rfl, Nat.le_of_ble_eq_true rfl⟩ rfl hl rfl (Nat.le_of_ble_eq_true rfl) ⟨Nat.zero_le _, Nat.zero_le _⟩ dX8_posts_134 (fun H locs hP hS => ?_)
            refine f_ir X hlk hr (v := (a_X8_many M L (lp_X8_posts_20 M L what tc wc (2 ^ wc)))) rfl hP hS ?_ dX8_posts_137
            unfold a_X8_posts
            (first | rw [if_pos c_1] | rw [if_neg c_1] | rw [if_neg (Bool.eq_false_iff.mp c_1)] | skip)
            (first | rw [if_pos c_6] | rw [if_neg c_6] | rw [if_neg (Bool.eq_false_iff.mp c_6)] | skip)
            (first | rw [if_pos c_120] | rw [if_neg c_120] | rw [if_neg (Bool.eq_false_iff.mp c_120)] | skip)
            (first | rw [if_pos c_125] | rw [if_neg c_125] | rw [if_neg (Bool.eq_false_iff.mp c_125)] | skip)
            (try dsimp only)
            first
              | done
              | exact ⟨rfl, rfl⟩
              | rfl
              | (simp only [c_1, c_6, c_120, c_125, if_true, if_false, and_self, and_true, true_and, not_true_eq_false, not_false_eq_true, and_false, false_and, or_true, true_or, or_false, false_or, or_self, Bool.false_eq_true, reduceCtorEq, nl10, nl20, nl30, nl40, nl50, nl60, nl70, nl12, nl13, nl21, nl23, nl31, nl32]; first | done | exact ⟨rfl, rfl⟩ | rfl)
              | contradiction
              | (simp only [c_1, c_6, c_120, c_125, if_true, if_false, and_self, and_true, true_and, not_true_eq_false, not_false_eq_true, and_false, false_and, or_true, true_or, or_false, false_or, or_self, Bool.false_eq_true, reduceCtorEq, nl10, nl20, nl30, nl40, nl50, nl60, nl70, nl12, nl13, nl21, nl23, nl31, nl32]; contradiction)
              | (exfalso; simp_all; done)
              | simp_all
          · refine lv_iload_n hx hb dX8_posts_128 rfl (lv_at hl 1 rfl) ?_
            refine lv_goto (tgt := 137) hx hb dX8_posts_129 (by decide) ?_
            refine f_ir X hlk hr (v := (lp_X8_posts_20 M L what tc wc (2 ^ wc))) rfl hP hS ?_ dX8_posts_137
            unfold a_X8_posts
            (first | rw [if_pos c_1] | rw [if_neg c_1] | rw [if_neg (Bool.eq_false_iff.mp c_1)] | skip)
            (first | rw [if_pos c_6] | rw [if_neg c_6] | rw [if_neg (Bool.eq_false_iff.mp c_6)] | skip)
            (first | rw [if_pos c_120] | rw [if_neg c_120] | rw [if_neg (Bool.eq_false_iff.mp c_120)] | skip)
            (first | rw [if_pos c_125] | rw [if_neg c_125] | rw [if_neg (Bool.eq_false_iff.mp c_125)] | skip)
            (try dsimp only)
            first
              | done
              | exact ⟨rfl, rfl⟩
              | rfl
              | (simp only [c_1, c_6, c_120, c_125, if_true, if_false, and_self, and_true, true_and, not_true_eq_false, not_false_eq_true, and_false, false_and, or_true, true_or, or_false, false_or, or_self, Bool.false_eq_true, reduceCtorEq, nl10, nl20, nl30, nl40, nl50, nl60, nl70, nl12, nl13, nl21, nl23, nl31, nl32]; first | done | exact ⟨rfl, rfl⟩ | rfl)
              | contradiction
              | (simp only [c_1, c_6, c_120, c_125, if_true, if_false, and_self, and_true, true_and, not_true_eq_false, not_false_eq_true, and_false, false_and, or_true, true_or, or_false, false_or, or_self, Bool.false_eq_true, reduceCtorEq, nl10, nl20, nl30, nl40, nl50, nl60, nl70, nl12, nl13, nl21, nl23, nl31, nl32]; contradiction)
              | (exfalso; simp_all; done)
              | simp_all
      · have c_27 := (not_congr (nI_le_iff (a := (2 ^ wc)) (b := pp) (by omega) (by omega))).mp c_27
        refine lv_iconst (v := 0) hx hb dX8_posts_30 (by decide) ?_
        refine lv_istore (lv' := [(4, .int 0), (3, .int (nI pp)), (2, .int ch), (0, .ref (fad E 86)), (1, .int what)]) hx hb dX8_posts_31 hl (by decide) rfl (fun ls hl => ?_)
        refine lv_iconst (v := 0) hx hb dX8_posts_33 (by decide) ?_
        refine lv_istore (lv' := [(5, .int 0), (4, .int 0), (3, .int (nI pp)), (2, .int ch), (0, .ref (fad E 86)), (1, .int what)]) hx hb dX8_posts_34 hl (by decide) rfl (fun ls hl => ?_)
        refine f_loop (α := Nat × Int32) (fun (a : Nat × Int32) H locs ls => match a with | (i, sn) => fP E M L H ∧ va_S (fA E) s.heap H locs ∧ lv_has ls 6 [(5, .int (nI i)), (4, .int sn), (3, .int (nI pp)), (2, .int ch), (0, .ref (fad E 86)), (1, .int what)] ∧ (i ≤ wc) ∧ (sn = (lp_X8_posts_36 M L what tc wc pp ch i))) (fun (a : Nat × Int32) => match a with | (i, sn) => wc - i) (pc0 := 36) (st := fun _ => []) ?_ (0, 0) _ _ _ ⟨hP, hS, lv_sub hl [0, 1, 2, 3, 4, 5] rfl, (Nat.zero_le _), rfl⟩
        rintro ⟨i, sn⟩ H locs ls ⟨hP, hS, hl, ht_36, hbt_36⟩ ih_36
        refine lv_iload hx hb dX8_posts_36 (lv_at hl 0 rfl) ?_
        refine lv_aload_n hx hb dX8_posts_38 rfl (lv_at hl 4 rfl) ?_
        refine f_get X hP (T := TX8) (ci := 8) (k := 86) rfl inX8 rfl 0 (by decide) m_4_174 rfl (v := .int (nI wc)) (congrArg Value.int hwc) dX8_posts_39 ?_
        refine lv_icmp_ge (tgt := 79) hx hb dX8_posts_42 (by decide) (fun c_42 => ?_) (fun c_42 => ?_)
        · have c_42 := (nI_le_iff (a := wc) (b := i) (by omega) (by omega)).mp c_42
          have hN_36 : i = wc := by omega
          rw [hN_36] at hbt_36
          subst hbt_36
          refine lv_aload_n hx hb dX8_posts_79 rfl (lv_at hl 4 rfl) ?_
          refine lv_iload hx hb dX8_posts_80 (lv_at hl 1 rfl) ?_
          refine f_iV (n := 1) X hP hS [.int (lp_X8_posts_36 M L what tc wc pp ch wc)] [] (c_X8_many l E M L (lp_X8_posts_36 M L what tc wc pp ch wc)) m_6_24 wi_X8_many rfl rfl (by decide) (by decide +kernel) ⟨Nat.le_of_ble_eq_true rfl, Nat.le_of_ble_eq_true rfl⟩ rfl hl rfl (Nat.le_of_ble_eq_true rfl) ⟨Nat.zero_le _, Nat.zero_le _⟩ dX8_posts_82 (fun H locs hP hS => ?_)
          refine lv_aload_n hx hb dX8_posts_85 rfl (lv_at hl 4 rfl) ?_
          refine f_get X hP (T := TX8) (ci := 8) (k := 86) rfl inX8 rfl 1 (by decide) m_4_175 rfl (v := .int (nI tc)) (congrArg Value.int htc) dX8_posts_86 ?_
          refine lv_icmp_ne (tgt := 112) hx hb dX8_posts_89 (by decide) (fun c_89 => ?_) (fun c_89 => ?_)
          · refine lv_iinc (v := (nI (pp + 1))) (lv' := [(3, .int (nI (pp + 1))), (5, .int (nI i)), (4, .int (lp_X8_posts_36 M L what tc wc pp ch wc)), (2, .int ch), (0, .ref (fad E 86)), (1, .int what)]) hx hb dX8_posts_112 hl (k := 2) rfl (nI_1 _) (by decide) rfl (fun ls hl => ?_)
            refine lv_goto (tgt := 20) hx hb dX8_posts_115 (by decide) ?_
            exact ih_20 ((pp + 1), ch) _ _ _ (by show (2 ^ wc) - (pp + 1) < (2 ^ wc) - pp; omega) ⟨hP, hS, lv_sub hl [0, 3, 4, 5] rfl, (by omega), (by
              rw [lp_X8_posts_20_s, ← hbt_20]
              (try dsimp only)
              (first | rw [if_pos c_89] | rw [if_neg c_89] | rw [if_neg (Bool.eq_false_iff.mp c_89)] | skip)
              first | done | rfl)⟩
          · refine lv_iload_n hx hb dX8_posts_92 rfl (lv_at hl 3 rfl) ?_
            refine lv_iconst (v := (-1)) hx hb dX8_posts_93 (by decide) ?_
            refine lv_icmp_eq (tgt := 110) hx hb dX8_posts_94 (by decide) (fun c_94 => ?_) (fun c_94 => ?_)
            · refine lv_iload_n hx hb dX8_posts_110 rfl (lv_at hl 2 rfl) ?_
              refine lv_istore_n (lv' := [(2, .int (nI pp)), (5, .int (nI i)), (4, .int (lp_X8_posts_36 M L what tc wc pp ch wc)), (3, .int (nI pp)), (0, .ref (fad E 86)), (1, .int what)]) hx hb dX8_posts_111 rfl hl (by decide) rfl (fun ls hl => ?_)
              refine lv_iinc (v := (nI (pp + 1))) (lv' := [(3, .int (nI (pp + 1))), (2, .int (nI pp)), (5, .int (nI i)), (4, .int (lp_X8_posts_36 M L what tc wc pp ch wc)), (0, .ref (fad E 86)), (1, .int what)]) hx hb dX8_posts_112 hl (k := 3) rfl (nI_1 _) (by decide) rfl (fun ls hl => ?_)
              refine lv_goto (tgt := 20) hx hb dX8_posts_115 (by decide) ?_
              exact ih_20 ((pp + 1), (nI pp)) _ _ _ (by show (2 ^ wc) - (pp + 1) < (2 ^ wc) - pp; omega) ⟨hP, hS, lv_sub hl [0, 1, 4, 5] rfl, (by omega), (by
                rw [lp_X8_posts_20_s, ← hbt_20]
                (try dsimp only)
                (first | rw [if_pos c_89] | rw [if_neg c_89] | rw [if_neg (Bool.eq_false_iff.mp c_89)] | skip)
                (first | rw [if_pos c_94] | rw [if_neg c_94] | rw [if_neg (Bool.eq_false_iff.mp c_94)] | skip)
                first | done | rfl)⟩
            · refine lv_aload_n hx hb dX8_posts_97 rfl (lv_at hl 4 rfl) ?_
              refine lv_iload_n hx hb dX8_posts_98 rfl (lv_at hl 2 rfl) ?_
              refine f_iV (n := 1) X hP hS [.int (nI pp)] [] (c_X8_many l E M L (nI pp)) m_6_24 wi_X8_many rfl rfl (by decide) (by decide +kernel) ⟨Nat.le_of_ble_eq_true rfl, Nat.le_of_ble_eq_true rfl⟩ rfl hl rfl (Nat.le_of_ble_eq_true rfl) ⟨Nat.zero_le _, Nat.zero_le _⟩ dX8_posts_99 (fun H locs hP hS => ?_)
              refine lv_aload_n hx hb dX8_posts_102 rfl (lv_at hl 4 rfl) ?_
              refine lv_iload_n hx hb dX8_posts_103 rfl (lv_at hl 3 rfl) ?_
              refine f_iV (n := 1) X hP hS [.int ch] [.int (a_X8_many M L (nI pp))] (c_X8_many l E M L ch) m_6_24 wi_X8_many rfl rfl (by decide) (by decide +kernel) ⟨Nat.le_of_ble_eq_true rfl, Nat.le_of_ble_eq_true rfl⟩ rfl hl rfl (Nat.le_of_ble_eq_true rfl) ⟨Nat.zero_le _, Nat.zero_le _⟩ dX8_posts_104 (fun H locs hP hS => ?_)
              refine lv_icmp_ge (tgt := 112) hx hb dX8_posts_107 (by decide) (fun c_107 => ?_) (fun c_107 => ?_)
              · refine lv_iinc (v := (nI (pp + 1))) (lv' := [(3, .int (nI (pp + 1))), (5, .int (nI i)), (4, .int (lp_X8_posts_36 M L what tc wc pp ch wc)), (2, .int ch), (0, .ref (fad E 86)), (1, .int what)]) hx hb dX8_posts_112 hl (k := 2) rfl (nI_1 _) (by decide) rfl (fun ls hl => ?_)
                refine lv_goto (tgt := 20) hx hb dX8_posts_115 (by decide) ?_
                exact ih_20 ((pp + 1), ch) _ _ _ (by show (2 ^ wc) - (pp + 1) < (2 ^ wc) - pp; omega) ⟨hP, hS, lv_sub hl [0, 3, 4, 5] rfl, (by omega), (by
                  rw [lp_X8_posts_20_s, ← hbt_20]
                  (try dsimp only)
                  (first | rw [if_pos c_89] | rw [if_neg c_89] | rw [if_neg (Bool.eq_false_iff.mp c_89)] | skip)
                  (first | rw [if_pos c_94] | rw [if_neg c_94] | rw [if_neg (Bool.eq_false_iff.mp c_94)] | skip)
                  (first | rw [if_pos c_107] | rw [if_neg c_107] | rw [if_neg (Bool.eq_false_iff.mp c_107)] | skip)
                  first | done | rfl)⟩
              · refine lv_iload_n hx hb dX8_posts_110 rfl (lv_at hl 2 rfl) ?_
                refine lv_istore_n (lv' := [(2, .int (nI pp)), (5, .int (nI i)), (4, .int (lp_X8_posts_36 M L what tc wc pp ch wc)), (3, .int (nI pp)), (0, .ref (fad E 86)), (1, .int what)]) hx hb dX8_posts_111 rfl hl (by decide) rfl (fun ls hl => ?_)
                refine lv_iinc (v := (nI (pp + 1))) (lv' := [(3, .int (nI (pp + 1))), (2, .int (nI pp)), (5, .int (nI i)), (4, .int (lp_X8_posts_36 M L what tc wc pp ch wc)), (0, .ref (fad E 86)), (1, .int what)]) hx hb dX8_posts_112 hl (k := 3) rfl (nI_1 _) (by decide) rfl (fun ls hl => ?_)
                refine lv_goto (tgt := 20) hx hb dX8_posts_115 (by decide) ?_
                exact ih_20 ((pp + 1), (nI pp)) _ _ _ (by show (2 ^ wc) - (pp + 1) < (2 ^ wc) - pp; omega) ⟨hP, hS, lv_sub hl [0, 1, 4, 5] rfl, (by omega), (by
                  rw [lp_X8_posts_20_s, ← hbt_20]
                  (try dsimp only)
                  (first | rw [if_pos c_89] | rw [if_neg c_89] | rw [if_neg (Bool.eq_false_iff.mp c_89)] | skip)
                  (first | rw [if_pos c_94] | rw [if_neg c_94] | rw [if_neg (Bool.eq_false_iff.mp c_94)] | skip)
                  (first | rw [if_pos c_107] | rw [if_neg c_107] | rw [if_neg (Bool.eq_false_iff.mp c_107)] | skip)
                  first | done | rfl)⟩
        · have c_42 := (not_congr (nI_le_iff (a := wc) (b := i) (by omega) (by omega))).mp c_42
          refine lv_iload_n hx hb dX8_posts_45 rfl (lv_at hl 2 rfl) ?_
          refine lv_iload hx hb dX8_posts_46 (lv_at hl 0 rfl) ?_
          refine lv_ishr hx hb dX8_posts_48 ?_
          refine lv_iconst (v := 1) hx hb dX8_posts_49 (by decide) ?_
          refine lv_iand hx hb dX8_posts_50 ?_
          refine lv_iconst (v := 1) hx hb dX8_posts_51 (by decide) ?_
          refine lv_icmp_ne (tgt := 73) hx hb dX8_posts_52 (by decide) (fun c_52 => ?_) (fun c_52 => ?_)
          · refine lv_iinc (v := (nI (i + 1))) (lv' := [(5, .int (nI (i + 1))), (4, .int sn), (3, .int (nI pp)), (2, .int ch), (0, .ref (fad E 86)), (1, .int what)]) hx hb dX8_posts_73 hl (k := 0) rfl (nI_1 _) (by decide) rfl (fun ls hl => ?_)
            refine lv_goto (tgt := 36) hx hb dX8_posts_76 (by decide) ?_
            exact ih_36 ((i + 1), sn) _ _ _ (by show wc - (i + 1) < wc - i; omega) ⟨hP, hS, lv_sub hl [0, 1, 2, 3, 4, 5] rfl, (by omega), (by
              rw [lp_X8_posts_36_s, ← hbt_36]
              (try dsimp only)
              (first | rw [if_pos c_52] | rw [if_neg c_52] | rw [if_neg (Bool.eq_false_iff.mp c_52)] | skip)
              first | done | rfl)⟩
          · refine lv_iload hx hb dX8_posts_55 (lv_at hl 1 rfl) ?_
            refine lv_aload_n hx hb dX8_posts_57 rfl (lv_at hl 4 rfl) ?_
            refine lv_iload hx hb dX8_posts_58 (lv_at hl 0 rfl) ?_
            refine lv_aload_n hx hb dX8_posts_60 rfl (lv_at hl 4 rfl) ?_
            refine f_get X hP (T := TX8) (ci := 8) (k := 86) rfl inX8 rfl 13 (by decide) m_4_187 rfl (v := .ref (fad E 92)) rfl dX8_posts_61 ?_
            refine lv_iload hx hb dX8_posts_64 (lv_at hl 0 rfl) ?_
            refine f_iald X hP (k := 92) (n := 6) (q := i) rfl rfl (fIx_nI (by omega) (by decide)) dX8_posts_66 ?_
            refine f_iV (n := 2) X hP hS [.int (nI i), .int (M 92 i)] [.int sn] (c_X8_seenFrom l E M L (nI i) (M 92 i) tc i htc htc8 (fIx_nI (by omega) (by decide))) m_6_20 wi_X8_seenFrom rfl rfl (by decide) (by decide +kernel) ⟨Nat.le_of_ble_eq_true rfl, Nat.le_of_ble_eq_true rfl⟩ rfl hl rfl (Nat.le_of_ble_eq_true rfl) ⟨Nat.zero_le _, Nat.zero_le _⟩ dX8_posts_67 (fun H locs hP hS => ?_)
            refine lv_ior hx hb dX8_posts_70 ?_
            refine lv_istore (lv' := [(4, .int (sn ||| (a_X8_seenFrom M L (nI i) (M 92 i) tc i))), (5, .int (nI i)), (3, .int (nI pp)), (2, .int ch), (0, .ref (fad E 86)), (1, .int what)]) hx hb dX8_posts_71 hl (by decide) rfl (fun ls hl => ?_)
            refine lv_iinc (v := (nI (i + 1))) (lv' := [(5, .int (nI (i + 1))), (4, .int (sn ||| (a_X8_seenFrom M L (nI i) (M 92 i) tc i))), (3, .int (nI pp)), (2, .int ch), (0, .ref (fad E 86)), (1, .int what)]) hx hb dX8_posts_73 hl (k := 1) rfl (nI_1 _) (by decide) rfl (fun ls hl => ?_)
            refine lv_goto (tgt := 36) hx hb dX8_posts_76 (by decide) ?_
            exact ih_36 ((i + 1), (sn ||| (a_X8_seenFrom M L (nI i) (M 92 i) tc i))) _ _ _ (by show wc - (i + 1) < wc - i; omega) ⟨hP, hS, lv_sub hl [0, 1, 2, 3, 4, 5] rfl, (by omega), (by
              rw [lp_X8_posts_36_s, ← hbt_36]
              (try dsimp only)
              (first | rw [if_pos c_52] | rw [if_neg c_52] | rw [if_neg (Bool.eq_false_iff.mp c_52)] | skip)
              first | done | rfl)⟩
    · refine lv_aload_n hx hb dX8_posts_9 rfl (lv_at hl 0 rfl) ?_
      refine lv_bipush (v := (-5)) hx hb dX8_posts_10 (by decide) ?_
      refine f_iV (n := 1) X hP hS [.int (-5)] [] (c_X8_noTen l E M L (-5) (by decide)) m_5_236 wi_X8_noTen rfl rfl (by decide) (by decide +kernel) ⟨Nat.le_of_ble_eq_true rfl, Nat.le_of_ble_eq_true rfl⟩ rfl hl rfl (Nat.le_of_ble_eq_true rfl) ⟨Nat.zero_le _, Nat.zero_le _⟩ dX8_posts_12 (fun H locs hP hS => ?_)
      refine f_ir X hlk hr (v := ((-5) - 10)) rfl hP hS ?_ dX8_posts_15
      unfold a_X8_posts
      (first | rw [if_pos c_1] | rw [if_neg c_1] | rw [if_neg (Bool.eq_false_iff.mp c_1)] | skip)
      (first | rw [if_pos c_6] | rw [if_neg c_6] | rw [if_neg (Bool.eq_false_iff.mp c_6)] | skip)
      (try dsimp only)
      first
        | done
        | exact ⟨rfl, rfl⟩
        | rfl
        | (simp only [c_1, c_6, if_true, if_false, and_self, and_true, true_and, not_true_eq_false, not_false_eq_true, and_false, false_and, or_true, true_or, or_false, false_or, or_self, Bool.false_eq_true, reduceCtorEq, nl10, nl20, nl30, nl40, nl50, nl60, nl70, nl12, nl13, nl21, nl23, nl31, nl32]; first | done | exact ⟨rfl, rfl⟩ | rfl)
        | contradiction
        | (simp only [c_1, c_6, if_true, if_false, and_self, and_true, true_and, not_true_eq_false, not_false_eq_true, and_false, false_and, or_true, true_or, or_false, false_or, or_self, Bool.false_eq_true, reduceCtorEq, nl10, nl20, nl30, nl40, nl50, nl60, nl70, nl12, nl13, nl21, nl23, nl31, nl32]; contradiction)
        | (exfalso; simp_all; done)
        | simp_all

def lp_X8_runners_45 (M : Nat → Nat → Int32) (L : Nat → Nat → Int64) (k : Int32) (what : Int32) (tc : Nat) : Nat → Int32 × Int32 := itF (fun i s9 => (if ((if (0 : Int32) = 0 then (M 99 i) else (M 99 i) / 2) ≤ (M 98 i)) then (s9.1, (s9.2 + (M 97 i))) else (if ((if (1 : Int32) = 0 then (M 99 i) else (M 99 i) / 2) ≤ (M 98 i)) then ((s9.1 + (1 <<< ((nI i) &&& 31))), s9.2) else (s9.1, s9.2)))) (0, 0)
theorem lp_X8_runners_45_s (M : Nat → Nat → Int32) (L : Nat → Nat → Int64) (k : Int32) (what : Int32) (tc : Nat) (i : Nat) : (lp_X8_runners_45 M L k what tc (i + 1)) = (if ((if (0 : Int32) = 0 then (M 99 i) else (M 99 i) / 2) ≤ (M 98 i)) then (((lp_X8_runners_45 M L k what tc i)).1, (((lp_X8_runners_45 M L k what tc i)).2 + (M 97 i))) else (if ((if (1 : Int32) = 0 then (M 99 i) else (M 99 i) / 2) ≤ (M 98 i)) then ((((lp_X8_runners_45 M L k what tc i)).1 + (1 <<< ((nI i) &&& 31))), ((lp_X8_runners_45 M L k what tc i)).2) else (((lp_X8_runners_45 M L k what tc i)).1, ((lp_X8_runners_45 M L k what tc i)).2))) := rfl
def lp_X8_runners_105 (M : Nat → Nat → Int32) (L : Nat → Nat → Int64) (k : Int32) (what : Int32) (tc : Nat) : Nat → Int32 := itF (fun pp s9 => (if ((nI pp) ||| ((lp_X8_runners_45 M L k what tc tc).1)) = ((lp_X8_runners_45 M L k what tc tc).1) then (if k < (a_X8_many M L (nI pp)) then s9 else (if (a_X8_worthOf M L (nI pp) tc) ≤ (a_X8_worthOf M L s9 tc) then s9 else (nI pp))) else s9)) 0
theorem lp_X8_runners_105_s (M : Nat → Nat → Int32) (L : Nat → Nat → Int64) (k : Int32) (what : Int32) (tc : Nat) (pp : Nat) : (lp_X8_runners_105 M L k what tc (pp + 1)) = (if ((nI pp) ||| ((lp_X8_runners_45 M L k what tc tc).1)) = ((lp_X8_runners_45 M L k what tc tc).1) then (if k < (a_X8_many M L (nI pp)) then ((lp_X8_runners_105 M L k what tc pp)) else (if (a_X8_worthOf M L (nI pp) tc) ≤ (a_X8_worthOf M L ((lp_X8_runners_105 M L k what tc pp)) tc) then ((lp_X8_runners_105 M L k what tc pp)) else (nI pp))) else ((lp_X8_runners_105 M L k what tc pp))) := rfl
def a_X8_runners (M : Nat → Nat → Int32) (L : Nat → Nat → Int64) (k : Int32) (what : Int32) (tc : Nat) : fR := (if what < 0 then ((-5), (noM M (-5)), L) else (if what ≤ 1 then (if (0 ≤ k ∧ k ≤ 8) then (if what = 0 then ((((lp_X8_runners_45 M L k what tc tc).2) + (a_X8_worthOf M L (lp_X8_runners_105 M L k what tc (2 ^ tc)) tc)), M, L) else ((lp_X8_runners_105 M L k what tc (2 ^ tc)), M, L)) else ((-6), (noM M (-6)), L)) else ((-5), (noM M (-5)), L)))
set_option maxHeartbeats 1000000 in
set_option maxRecDepth 100000 in
theorem c_X8_runners (l : Launch) (E : fE) (M : Nat → Nat → Int32) (L : Nat → Nat → Int64) (k : Int32) (what : Int32) (tc : Nat) (htc : M 86 1 = nI tc) (htc8 : tc ≤ 8) : Met l yX8_runners (wl yX8_runners cX8_runners 7 (some .int)) (fRm 1 23) (va_Pc [.ref (fad E 86), .int k, .int what] (fPre E M L)) (fQi E (fun r u => u = ((a_X8_runners M L k what tc).2.1, L) ∧ r = (a_X8_runners M L k what tc).1)) 0 0 (fA E) := by
  refine f_head (by decide) (Nat.le_of_ble_eq_true rfl) ?_
  intro pg ev s mi below meth cd ls X hr hlk hP hS hl
  have hx := X.1.1
  have hb := X.1.2.1
  have hl : lv_has ls 7 [(0, .ref (fad E 86)), (1, .int k), (2, .int what)] := hl
  have htp : 2 ^ tc ≤ 256 := Nat.pow_le_pow_right (by decide) htc8
  refine lv_iload_n hx hb dX8_runners_0 rfl (lv_at hl 2 rfl) ?_
  refine lv_if_lt (tgt := 9) hx hb dX8_runners_1 (by decide) (fun c_1 => ?_) (fun c_1 => ?_)
  · refine lv_aload_n hx hb dX8_runners_9 rfl (lv_at hl 0 rfl) ?_
    refine lv_bipush (v := (-5)) hx hb dX8_runners_10 (by decide) ?_
    refine f_iV (n := 1) X hP hS [.int (-5)] [] (c_X8_no l E M L (-5) (by decide)) m_5_84 wi_X8_no rfl rfl (by decide) (by decide +kernel) ⟨Nat.le_of_ble_eq_true rfl, Nat.le_of_ble_eq_true rfl⟩ rfl hl rfl (Nat.le_of_ble_eq_true rfl) ⟨Nat.zero_le _, Nat.zero_le _⟩ dX8_runners_12 (fun H locs hP hS => ?_)
    refine f_ir X hlk hr (v := (-5)) rfl hP hS ?_ dX8_runners_15
    unfold a_X8_runners
    (first | rw [if_pos c_1] | rw [if_neg c_1] | rw [if_neg (Bool.eq_false_iff.mp c_1)] | skip)
    (try dsimp only)
    first
      | done
      | exact ⟨rfl, rfl⟩
      | rfl
      | (simp only [c_1, if_true, if_false, and_self, and_true, true_and, not_true_eq_false, not_false_eq_true, and_false, false_and, or_true, true_or, or_false, false_or, or_self, Bool.false_eq_true, reduceCtorEq, nl10, nl20, nl30, nl40, nl50, nl60, nl70, nl12, nl13, nl21, nl23, nl31, nl32]; first | done | exact ⟨rfl, rfl⟩ | rfl)
      | contradiction
      | (simp only [c_1, if_true, if_false, and_self, and_true, true_and, not_true_eq_false, not_false_eq_true, and_false, false_and, or_true, true_or, or_false, false_or, or_self, Bool.false_eq_true, reduceCtorEq, nl10, nl20, nl30, nl40, nl50, nl60, nl70, nl12, nl13, nl21, nl23, nl31, nl32]; contradiction)
      | (exfalso; simp_all; done)
      | simp_all
  · refine lv_iload_n hx hb dX8_runners_4 rfl (lv_at hl 2 rfl) ?_
    refine lv_iconst (v := 1) hx hb dX8_runners_5 (by decide) ?_
    refine lv_icmp_le (tgt := 16) hx hb dX8_runners_6 (by decide) (fun c_6 => ?_) (fun c_6 => ?_)
    · refine lv_aload_n hx hb dX8_runners_16 rfl (lv_at hl 0 rfl) ?_
      refine lv_iload_n hx hb dX8_runners_17 rfl (lv_at hl 1 rfl) ?_
      refine lv_iconst (v := 0) hx hb dX8_runners_18 (by decide) ?_
      refine lv_bipush (v := 8) hx hb dX8_runners_19 (by decide) ?_
      refine f_iV (n := 3) X hP hS [.int k, .int 0, .int 8] [] (c_X8_isFrom l E M L k 0 8) m_5_120 wi_X8_isFrom rfl rfl (by decide) (by decide +kernel) ⟨Nat.le_of_ble_eq_true rfl, Nat.le_of_ble_eq_true rfl⟩ rfl hl rfl (Nat.le_of_ble_eq_true rfl) ⟨Nat.zero_le _, Nat.zero_le _⟩ dX8_runners_21 (fun H locs hP hS => ?_)
      refine lv_if_ne (tgt := 34) hx hb dX8_runners_24 (by decide) (fun c_24 => ?_) (fun c_24 => ?_)
      · have c_24 := bI1 c_24
        refine lv_iconst (v := 0) hx hb dX8_runners_34 (by decide) ?_
        refine lv_istore_n (lv' := [(3, .int 0), (0, .ref (fad E 86)), (1, .int k), (2, .int what)]) hx hb dX8_runners_35 rfl hl (by decide) rfl (fun ls hl => ?_)
        refine lv_iconst (v := 0) hx hb dX8_runners_36 (by decide) ?_
        refine lv_istore (lv' := [(4, .int 0), (3, .int 0), (0, .ref (fad E 86)), (1, .int k), (2, .int what)]) hx hb dX8_runners_37 hl (by decide) rfl (fun ls hl => ?_)
        refine lv_iconst (v := 0) hx hb dX8_runners_39 (by decide) ?_
        refine lv_istore (lv' := [(5, .int 0), (4, .int 0), (3, .int 0), (0, .ref (fad E 86)), (1, .int k), (2, .int what)]) hx hb dX8_runners_40 hl (by decide) rfl (fun ls hl => ?_)
        refine lv_iconst (v := 0) hx hb dX8_runners_42 (by decide) ?_
        refine lv_istore (lv' := [(6, .int 0), (5, .int 0), (4, .int 0), (3, .int 0), (0, .ref (fad E 86)), (1, .int k), (2, .int what)]) hx hb dX8_runners_43 hl (by decide) rfl (fun ls hl => ?_)
        refine f_loop (α := Nat × Int32 × Int32) (fun (a : Nat × Int32 × Int32) H locs ls => match a with | (i, mb, b0) => fP E M L H ∧ va_S (fA E) s.heap H locs ∧ lv_has ls 7 [(6, .int (nI i)), (5, .int 0), (4, .int b0), (3, .int mb), (0, .ref (fad E 86)), (1, .int k), (2, .int what)] ∧ (i ≤ tc) ∧ ((mb, b0) = (lp_X8_runners_45 M L k what tc i))) (fun (a : Nat × Int32 × Int32) => match a with | (i, mb, b0) => tc - i) (pc0 := 45) (st := fun _ => []) ?_ (0, 0, 0) _ _ _ ⟨hP, hS, lv_sub hl [0, 1, 2, 3, 4, 5, 6] rfl, (Nat.zero_le _), rfl⟩
        rintro ⟨i, mb, b0⟩ H locs ls ⟨hP, hS, hl, ht_45, hbt_45⟩ ih_45
        refine lv_iload hx hb dX8_runners_45 (lv_at hl 0 rfl) ?_
        refine lv_aload_n hx hb dX8_runners_47 rfl (lv_at hl 4 rfl) ?_
        refine f_get X hP (T := TX8) (ci := 8) (k := 86) rfl inX8 rfl 1 (by decide) m_4_175 rfl (v := .int (nI tc)) (congrArg Value.int htc) dX8_runners_48 ?_
        refine lv_icmp_ge (tgt := 102) hx hb dX8_runners_51 (by decide) (fun c_51 => ?_) (fun c_51 => ?_)
        · have c_51 := (nI_le_iff (a := tc) (b := i) (by omega) (by omega)).mp c_51
          have hN_45 : i = tc := by omega
          rw [hN_45] at hbt_45
          have e_mb : mb = (lp_X8_runners_45 M L k what tc tc).1 := by rw [← hbt_45]
          have e_b0 : b0 = (lp_X8_runners_45 M L k what tc tc).2 := by rw [← hbt_45]
          clear hbt_45
          subst e_mb
          subst e_b0
          refine lv_iconst (v := 0) hx hb dX8_runners_102 (by decide) ?_
          refine lv_istore (lv' := [(6, .int 0), (5, .int 0), (4, .int ((lp_X8_runners_45 M L k what tc tc).2)), (3, .int ((lp_X8_runners_45 M L k what tc tc).1)), (0, .ref (fad E 86)), (1, .int k), (2, .int what)]) hx hb dX8_runners_103 hl (by decide) rfl (fun ls hl => ?_)
          refine f_loop (α := Nat × Int32) (fun (a : Nat × Int32) H locs ls => match a with | (pp, bs) => fP E M L H ∧ va_S (fA E) s.heap H locs ∧ lv_has ls 7 [(6, .int (nI pp)), (5, .int bs), (4, .int ((lp_X8_runners_45 M L k what tc tc).2)), (3, .int ((lp_X8_runners_45 M L k what tc tc).1)), (0, .ref (fad E 86)), (1, .int k), (2, .int what)] ∧ (pp ≤ (2 ^ tc)) ∧ (bs = (lp_X8_runners_105 M L k what tc pp))) (fun (a : Nat × Int32) => match a with | (pp, bs) => (2 ^ tc) - pp) (pc0 := 105) (st := fun _ => []) ?_ (0, 0) _ _ _ ⟨hP, hS, lv_sub hl [0, 1, 2, 3, 4, 5, 6] rfl, (Nat.zero_le _), rfl⟩
          rintro ⟨pp, bs⟩ H locs ls ⟨hP, hS, hl, ht_105, hbt_105⟩ ih_105
          refine lv_iload hx hb dX8_runners_105 (lv_at hl 0 rfl) ?_
          refine lv_iconst (v := 1) hx hb dX8_runners_107 (by decide) ?_
          refine lv_aload_n hx hb dX8_runners_108 rfl (lv_at hl 4 rfl) ?_
          refine f_get X hP (T := TX8) (ci := 8) (k := 86) rfl inX8 rfl 1 (by decide) m_4_175 rfl (v := .int (nI tc)) (congrArg Value.int htc) dX8_runners_109 ?_
          refine lv_ishl hx hb dX8_runners_112 ?_
          refine f_topI (v := (nI (2 ^ tc))) (bitN (by omega)) ?_
          refine lv_icmp_ge (tgt := 159) hx hb dX8_runners_113 (by decide) (fun c_113 => ?_) (fun c_113 => ?_)
          · have c_113 := (nI_le_iff (a := (2 ^ tc)) (b := pp) (by omega) (by omega)).mp c_113
            have hN_105 : pp = (2 ^ tc) := by omega
            rw [hN_105] at hbt_105
            subst hbt_105
            refine lv_iload_n hx hb dX8_runners_159 rfl (lv_at hl 6 rfl) ?_
            refine lv_if_ne (tgt := 175) hx hb dX8_runners_160 (by decide) (fun c_160 => ?_) (fun c_160 => ?_)
            · refine lv_iload hx hb dX8_runners_175 (lv_at hl 1 rfl) ?_
              refine f_ir X hlk hr (v := (lp_X8_runners_105 M L k what tc (2 ^ tc))) rfl hP hS ?_ dX8_runners_177
              unfold a_X8_runners
              (first | rw [if_pos c_1] | rw [if_neg c_1] | rw [if_neg (Bool.eq_false_iff.mp c_1)] | skip)
              (first | rw [if_pos c_6] | rw [if_neg c_6] | rw [if_neg (Bool.eq_false_iff.mp c_6)] | skip)
              (first | rw [if_pos c_24] | rw [if_neg c_24] | rw [if_neg (Bool.eq_false_iff.mp c_24)] | skip)
              (first | rw [if_pos c_160] | rw [if_neg c_160] | rw [if_neg (Bool.eq_false_iff.mp c_160)] | skip)
              (try dsimp only)
              first
                | done
                | exact ⟨rfl, rfl⟩
                | rfl
                | (simp only [c_1, c_6, c_24, c_160, if_true, if_false, and_self, and_true, true_and, not_true_eq_false, not_false_eq_true, and_false, false_and, or_true, true_or, or_false, false_or, or_self, Bool.false_eq_true, reduceCtorEq, nl10, nl20, nl30, nl40, nl50, nl60, nl70, nl12, nl13, nl21, nl23, nl31, nl32]; first | done | exact ⟨rfl, rfl⟩ | rfl)
                | contradiction
                | (simp only [c_1, c_6, c_24, c_160, if_true, if_false, and_self, and_true, true_and, not_true_eq_false, not_false_eq_true, and_false, false_and, or_true, true_or, or_false, false_or, or_self, Bool.false_eq_true, reduceCtorEq, nl10, nl20, nl30, nl40, nl50, nl60, nl70, nl12, nl13, nl21, nl23, nl31, nl32]; contradiction)
                | (exfalso; simp_all; done)
                | simp_all
            · refine lv_iload hx hb dX8_runners_163 (lv_at hl 2 rfl) ?_
              refine lv_aload_n hx hb dX8_runners_165 rfl (lv_at hl 4 rfl) ?_
              refine lv_iload hx hb dX8_runners_166 (lv_at hl 1 rfl) ?_
              refine f_iV (n := 1) X hP hS [.int (lp_X8_runners_105 M L k what tc (2 ^ tc))] [.int ((lp_X8_runners_45 M L k what tc tc).2)] (c_X8_worthOf l E M L (lp_X8_runners_105 M L k what tc (2 ^ tc)) tc htc htc8) m_6_32 wi_X8_worthOf rfl rfl (by decide) (by decide +kernel) ⟨Nat.le_of_ble_eq_true rfl, Nat.le_of_ble_eq_true rfl⟩ rfl hl rfl (Nat.le_of_ble_eq_true rfl) ⟨Nat.zero_le _, Nat.zero_le _⟩ dX8_runners_168 (fun H locs hP hS => ?_)
              refine lv_iadd hx hb dX8_runners_171 ?_
              refine lv_goto (tgt := 177) hx hb dX8_runners_172 (by decide) ?_
              refine f_ir X hlk hr (v := (((lp_X8_runners_45 M L k what tc tc).2) + (a_X8_worthOf M L (lp_X8_runners_105 M L k what tc (2 ^ tc)) tc))) rfl hP hS ?_ dX8_runners_177
              unfold a_X8_runners
              (first | rw [if_pos c_1] | rw [if_neg c_1] | rw [if_neg (Bool.eq_false_iff.mp c_1)] | skip)
              (first | rw [if_pos c_6] | rw [if_neg c_6] | rw [if_neg (Bool.eq_false_iff.mp c_6)] | skip)
              (first | rw [if_pos c_24] | rw [if_neg c_24] | rw [if_neg (Bool.eq_false_iff.mp c_24)] | skip)
              (first | rw [if_pos c_160] | rw [if_neg c_160] | rw [if_neg (Bool.eq_false_iff.mp c_160)] | skip)
              (try dsimp only)
              first
                | done
                | exact ⟨rfl, rfl⟩
                | rfl
                | (simp only [c_1, c_6, c_24, c_160, if_true, if_false, and_self, and_true, true_and, not_true_eq_false, not_false_eq_true, and_false, false_and, or_true, true_or, or_false, false_or, or_self, Bool.false_eq_true, reduceCtorEq, nl10, nl20, nl30, nl40, nl50, nl60, nl70, nl12, nl13, nl21, nl23, nl31, nl32]; first | done | exact ⟨rfl, rfl⟩ | rfl)
                | contradiction
                | (simp only [c_1, c_6, c_24, c_160, if_true, if_false, and_self, and_true, true_and, not_true_eq_false, not_false_eq_true, and_false, false_and, or_true, true_or, or_false, false_or, or_self, Bool.false_eq_true, reduceCtorEq, nl10, nl20, nl30, nl40, nl50, nl60, nl70, nl12, nl13, nl21, nl23, nl31, nl32]; contradiction)
                | (exfalso; simp_all; done)
                | simp_all
          · have c_113 := (not_congr (nI_le_iff (a := (2 ^ tc)) (b := pp) (by omega) (by omega))).mp c_113
            refine lv_iload hx hb dX8_runners_116 (lv_at hl 0 rfl) ?_
            refine lv_iload_n hx hb dX8_runners_118 rfl (lv_at hl 3 rfl) ?_
            refine lv_ior hx hb dX8_runners_119 ?_
            refine lv_iload_n hx hb dX8_runners_120 rfl (lv_at hl 3 rfl) ?_
            refine lv_icmp_ne (tgt := 153) hx hb dX8_runners_121 (by decide) (fun c_121 => ?_) (fun c_121 => ?_)
            · refine lv_iinc (v := (nI (pp + 1))) (lv' := [(6, .int (nI (pp + 1))), (5, .int bs), (4, .int ((lp_X8_runners_45 M L k what tc tc).2)), (3, .int ((lp_X8_runners_45 M L k what tc tc).1)), (0, .ref (fad E 86)), (1, .int k), (2, .int what)]) hx hb dX8_runners_153 hl (k := 0) rfl (nI_1 _) (by decide) rfl (fun ls hl => ?_)
              refine lv_goto (tgt := 105) hx hb dX8_runners_156 (by decide) ?_
              exact ih_105 ((pp + 1), bs) _ _ _ (by show (2 ^ tc) - (pp + 1) < (2 ^ tc) - pp; omega) ⟨hP, hS, lv_sub hl [0, 1, 2, 3, 4, 5, 6] rfl, (by omega), (by
                rw [lp_X8_runners_105_s, ← hbt_105]
                (try dsimp only)
                (first | rw [if_pos c_121] | rw [if_neg c_121] | rw [if_neg (Bool.eq_false_iff.mp c_121)] | skip)
                first | done | rfl)⟩
            · refine lv_aload_n hx hb dX8_runners_124 rfl (lv_at hl 4 rfl) ?_
              refine lv_iload hx hb dX8_runners_125 (lv_at hl 0 rfl) ?_
              refine f_iV (n := 1) X hP hS [.int (nI pp)] [] (c_X8_many l E M L (nI pp)) m_6_24 wi_X8_many rfl rfl (by decide) (by decide +kernel) ⟨Nat.le_of_ble_eq_true rfl, Nat.le_of_ble_eq_true rfl⟩ rfl hl rfl (Nat.le_of_ble_eq_true rfl) ⟨Nat.zero_le _, Nat.zero_le _⟩ dX8_runners_127 (fun H locs hP hS => ?_)
              refine lv_iload_n hx hb dX8_runners_130 rfl (lv_at hl 5 rfl) ?_
              refine lv_icmp_gt (tgt := 153) hx hb dX8_runners_131 (by decide) (fun c_131 => ?_) (fun c_131 => ?_)
              · refine lv_iinc (v := (nI (pp + 1))) (lv' := [(6, .int (nI (pp + 1))), (5, .int bs), (4, .int ((lp_X8_runners_45 M L k what tc tc).2)), (3, .int ((lp_X8_runners_45 M L k what tc tc).1)), (0, .ref (fad E 86)), (1, .int k), (2, .int what)]) hx hb dX8_runners_153 hl (k := 0) rfl (nI_1 _) (by decide) rfl (fun ls hl => ?_)
                refine lv_goto (tgt := 105) hx hb dX8_runners_156 (by decide) ?_
                exact ih_105 ((pp + 1), bs) _ _ _ (by show (2 ^ tc) - (pp + 1) < (2 ^ tc) - pp; omega) ⟨hP, hS, lv_sub hl [0, 1, 2, 3, 4, 5, 6] rfl, (by omega), (by
                  rw [lp_X8_runners_105_s, ← hbt_105]
                  (try dsimp only)
                  (first | rw [if_pos c_121] | rw [if_neg c_121] | rw [if_neg (Bool.eq_false_iff.mp c_121)] | skip)
                  (first | rw [if_pos c_131] | rw [if_neg c_131] | rw [if_neg (Bool.eq_false_iff.mp c_131)] | skip)
                  first | done | rfl)⟩
              · refine lv_aload_n hx hb dX8_runners_134 rfl (lv_at hl 4 rfl) ?_
                refine lv_iload hx hb dX8_runners_135 (lv_at hl 0 rfl) ?_
                refine f_iV (n := 1) X hP hS [.int (nI pp)] [] (c_X8_worthOf l E M L (nI pp) tc htc htc8) m_6_32 wi_X8_worthOf rfl rfl (by decide) (by decide +kernel) ⟨Nat.le_of_ble_eq_true rfl, Nat.le_of_ble_eq_true rfl⟩ rfl hl rfl (Nat.le_of_ble_eq_true rfl) ⟨Nat.zero_le _, Nat.zero_le _⟩ dX8_runners_137 (fun H locs hP hS => ?_)
                refine lv_aload_n hx hb dX8_runners_140 rfl (lv_at hl 4 rfl) ?_
                refine lv_iload hx hb dX8_runners_141 (lv_at hl 1 rfl) ?_
                refine f_iV (n := 1) X hP hS [.int bs] [.int (a_X8_worthOf M L (nI pp) tc)] (c_X8_worthOf l E M L bs tc htc htc8) m_6_32 wi_X8_worthOf rfl rfl (by decide) (by decide +kernel) ⟨Nat.le_of_ble_eq_true rfl, Nat.le_of_ble_eq_true rfl⟩ rfl hl rfl (Nat.le_of_ble_eq_true rfl) ⟨Nat.zero_le _, Nat.zero_le _⟩ dX8_runners_143 (fun H locs hP hS => ?_)
                refine lv_icmp_le (tgt := 153) hx hb dX8_runners_146 (by decide) (fun c_146 => ?_) (fun c_146 => ?_)
                · refine lv_iinc (v := (nI (pp + 1))) (lv' := [(6, .int (nI (pp + 1))), (5, .int bs), (4, .int ((lp_X8_runners_45 M L k what tc tc).2)), (3, .int ((lp_X8_runners_45 M L k what tc tc).1)), (0, .ref (fad E 86)), (1, .int k), (2, .int what)]) hx hb dX8_runners_153 hl (k := 0) rfl (nI_1 _) (by decide) rfl (fun ls hl => ?_)
                  refine lv_goto (tgt := 105) hx hb dX8_runners_156 (by decide) ?_
                  exact ih_105 ((pp + 1), bs) _ _ _ (by show (2 ^ tc) - (pp + 1) < (2 ^ tc) - pp; omega) ⟨hP, hS, lv_sub hl [0, 1, 2, 3, 4, 5, 6] rfl, (by omega), (by
                    rw [lp_X8_runners_105_s, ← hbt_105]
                    (try dsimp only)
                    (first | rw [if_pos c_121] | rw [if_neg c_121] | rw [if_neg (Bool.eq_false_iff.mp c_121)] | skip)
                    (first | rw [if_pos c_131] | rw [if_neg c_131] | rw [if_neg (Bool.eq_false_iff.mp c_131)] | skip)
                    (first | rw [if_pos c_146] | rw [if_neg c_146] | rw [if_neg (Bool.eq_false_iff.mp c_146)] | skip)
                    first | done | rfl)⟩
                · refine lv_iload hx hb dX8_runners_149 (lv_at hl 0 rfl) ?_
                  refine lv_istore (lv' := [(5, .int (nI pp)), (6, .int (nI pp)), (4, .int ((lp_X8_runners_45 M L k what tc tc).2)), (3, .int ((lp_X8_runners_45 M L k what tc tc).1)), (0, .ref (fad E 86)), (1, .int k), (2, .int what)]) hx hb dX8_runners_151 hl (by decide) rfl (fun ls hl => ?_)
                  refine lv_iinc (v := (nI (pp + 1))) (lv' := [(6, .int (nI (pp + 1))), (5, .int (nI pp)), (4, .int ((lp_X8_runners_45 M L k what tc tc).2)), (3, .int ((lp_X8_runners_45 M L k what tc tc).1)), (0, .ref (fad E 86)), (1, .int k), (2, .int what)]) hx hb dX8_runners_153 hl (k := 1) rfl (nI_1 _) (by decide) rfl (fun ls hl => ?_)
                  refine lv_goto (tgt := 105) hx hb dX8_runners_156 (by decide) ?_
                  exact ih_105 ((pp + 1), (nI pp)) _ _ _ (by show (2 ^ tc) - (pp + 1) < (2 ^ tc) - pp; omega) ⟨hP, hS, lv_sub hl [0, 1, 2, 3, 4, 5, 6] rfl, (by omega), (by
                    rw [lp_X8_runners_105_s, ← hbt_105]
                    (try dsimp only)
                    (first | rw [if_pos c_121] | rw [if_neg c_121] | rw [if_neg (Bool.eq_false_iff.mp c_121)] | skip)
                    (first | rw [if_pos c_131] | rw [if_neg c_131] | rw [if_neg (Bool.eq_false_iff.mp c_131)] | skip)
                    (first | rw [if_pos c_146] | rw [if_neg c_146] | rw [if_neg (Bool.eq_false_iff.mp c_146)] | skip)
                    first | done | rfl)⟩
        · have c_51 := (not_congr (nI_le_iff (a := tc) (b := i) (by omega) (by omega))).mp c_51
          refine lv_aload_n hx hb dX8_runners_54 rfl (lv_at hl 4 rfl) ?_
          refine lv_iload hx hb dX8_runners_55 (lv_at hl 0 rfl) ?_
          refine lv_iconst (v := 0) hx hb dX8_runners_57 (by decide) ?_
          refine f_iV (n := 2) X hP hS [.int (nI i), .int 0] [] (c_X8_isMet l E M L (nI i) 0 i (fIx_nI (by omega) (by decide))) m_6_44 wi_X8_isMet rfl rfl (by decide) (by decide +kernel) ⟨Nat.le_of_ble_eq_true rfl, Nat.le_of_ble_eq_true rfl⟩ rfl hl rfl (Nat.le_of_ble_eq_true rfl) ⟨Nat.zero_le _, Nat.zero_le _⟩ dX8_runners_58 (fun H locs hP hS => ?_)
          refine lv_if_eq (tgt := 79) hx hb dX8_runners_61 (by decide) (fun c_61 => ?_) (fun c_61 => ?_)
          · have c_61 := bI0 c_61
            refine lv_aload_n hx hb dX8_runners_79 rfl (lv_at hl 4 rfl) ?_
            refine lv_iload hx hb dX8_runners_80 (lv_at hl 0 rfl) ?_
            refine lv_iconst (v := 1) hx hb dX8_runners_82 (by decide) ?_
            refine f_iV (n := 2) X hP hS [.int (nI i), .int 1] [] (c_X8_isMet l E M L (nI i) 1 i (fIx_nI (by omega) (by decide))) m_6_44 wi_X8_isMet rfl rfl (by decide) (by decide +kernel) ⟨Nat.le_of_ble_eq_true rfl, Nat.le_of_ble_eq_true rfl⟩ rfl hl rfl (Nat.le_of_ble_eq_true rfl) ⟨Nat.zero_le _, Nat.zero_le _⟩ dX8_runners_83 (fun H locs hP hS => ?_)
            refine lv_if_eq (tgt := 96) hx hb dX8_runners_86 (by decide) (fun c_86 => ?_) (fun c_86 => ?_)
            · have c_86 := bI0 c_86
              refine lv_iinc (v := (nI (i + 1))) (lv' := [(6, .int (nI (i + 1))), (5, .int 0), (4, .int b0), (3, .int mb), (0, .ref (fad E 86)), (1, .int k), (2, .int what)]) hx hb dX8_runners_96 hl (k := 0) rfl (nI_1 _) (by decide) rfl (fun ls hl => ?_)
              refine lv_goto (tgt := 45) hx hb dX8_runners_99 (by decide) ?_
              exact ih_45 ((i + 1), mb, b0) _ _ _ (by show tc - (i + 1) < tc - i; omega) ⟨hP, hS, lv_sub hl [0, 1, 2, 3, 4, 5, 6] rfl, (by omega), (by
                rw [lp_X8_runners_45_s, ← hbt_45]
                (try dsimp only)
                (first | rw [if_pos c_61] | rw [if_neg c_61] | rw [if_neg (Bool.eq_false_iff.mp c_61)] | skip)
                (first | rw [if_pos c_86] | rw [if_neg c_86] | rw [if_neg (Bool.eq_false_iff.mp c_86)] | skip)
                first | done | rfl)⟩
            · have c_86 := bI1 c_86
              refine lv_iload_n hx hb dX8_runners_89 rfl (lv_at hl 3 rfl) ?_
              refine lv_iconst (v := 1) hx hb dX8_runners_90 (by decide) ?_
              refine lv_iload hx hb dX8_runners_91 (lv_at hl 0 rfl) ?_
              refine lv_ishl hx hb dX8_runners_93 ?_
              refine lv_iadd hx hb dX8_runners_94 ?_
              refine lv_istore_n (lv' := [(3, .int (mb + (1 <<< ((nI i) &&& 31)))), (6, .int (nI i)), (5, .int 0), (4, .int b0), (0, .ref (fad E 86)), (1, .int k), (2, .int what)]) hx hb dX8_runners_95 rfl hl (by decide) rfl (fun ls hl => ?_)
              refine lv_iinc (v := (nI (i + 1))) (lv' := [(6, .int (nI (i + 1))), (3, .int (mb + (1 <<< ((nI i) &&& 31)))), (5, .int 0), (4, .int b0), (0, .ref (fad E 86)), (1, .int k), (2, .int what)]) hx hb dX8_runners_96 hl (k := 1) rfl (nI_1 _) (by decide) rfl (fun ls hl => ?_)
              refine lv_goto (tgt := 45) hx hb dX8_runners_99 (by decide) ?_
              exact ih_45 ((i + 1), (mb + (1 <<< ((nI i) &&& 31))), b0) _ _ _ (by show tc - (i + 1) < tc - i; omega) ⟨hP, hS, lv_sub hl [0, 2, 3, 1, 4, 5, 6] rfl, (by omega), (by
                rw [lp_X8_runners_45_s, ← hbt_45]
                (try dsimp only)
                (first | rw [if_pos c_61] | rw [if_neg c_61] | rw [if_neg (Bool.eq_false_iff.mp c_61)] | skip)
                (first | rw [if_pos c_86] | rw [if_neg c_86] | rw [if_neg (Bool.eq_false_iff.mp c_86)] | skip)
                first | done | rfl)⟩
          · have c_61 := bI1 c_61
            refine lv_iload hx hb dX8_runners_64 (lv_at hl 2 rfl) ?_
            refine lv_aload_n hx hb dX8_runners_66 rfl (lv_at hl 4 rfl) ?_
            refine f_get X hP (T := TX8) (ci := 8) (k := 86) rfl inX8 rfl 18 (by decide) m_4_192 rfl (v := .ref (fad E 97)) rfl dX8_runners_67 ?_
            refine lv_iload hx hb dX8_runners_70 (lv_at hl 0 rfl) ?_
            refine f_iald X hP (k := 97) (n := 8) (q := i) rfl rfl (fIx_nI (by omega) (by decide)) dX8_runners_72 ?_
            refine lv_iadd hx hb dX8_runners_73 ?_
            refine lv_istore (lv' := [(4, .int (b0 + (M 97 i))), (6, .int (nI i)), (5, .int 0), (3, .int mb), (0, .ref (fad E 86)), (1, .int k), (2, .int what)]) hx hb dX8_runners_74 hl (by decide) rfl (fun ls hl => ?_)
            refine lv_goto (tgt := 96) hx hb dX8_runners_76 (by decide) ?_
            refine lv_iinc (v := (nI (i + 1))) (lv' := [(6, .int (nI (i + 1))), (4, .int (b0 + (M 97 i))), (5, .int 0), (3, .int mb), (0, .ref (fad E 86)), (1, .int k), (2, .int what)]) hx hb dX8_runners_96 hl (k := 1) rfl (nI_1 _) (by decide) rfl (fun ls hl => ?_)
            refine lv_goto (tgt := 45) hx hb dX8_runners_99 (by decide) ?_
            exact ih_45 ((i + 1), mb, (b0 + (M 97 i))) _ _ _ (by show tc - (i + 1) < tc - i; omega) ⟨hP, hS, lv_sub hl [0, 2, 1, 3, 4, 5, 6] rfl, (by omega), (by
              rw [lp_X8_runners_45_s, ← hbt_45]
              (try dsimp only)
              (first | rw [if_pos c_61] | rw [if_neg c_61] | rw [if_neg (Bool.eq_false_iff.mp c_61)] | skip)
              first | done | rfl)⟩
      · have c_24 := bI0 c_24
        refine lv_aload_n hx hb dX8_runners_27 rfl (lv_at hl 0 rfl) ?_
        refine lv_bipush (v := (-6)) hx hb dX8_runners_28 (by decide) ?_
        refine f_iV (n := 1) X hP hS [.int (-6)] [] (c_X8_no l E M L (-6) (by decide)) m_5_84 wi_X8_no rfl rfl (by decide) (by decide +kernel) ⟨Nat.le_of_ble_eq_true rfl, Nat.le_of_ble_eq_true rfl⟩ rfl hl rfl (Nat.le_of_ble_eq_true rfl) ⟨Nat.zero_le _, Nat.zero_le _⟩ dX8_runners_30 (fun H locs hP hS => ?_)
        refine f_ir X hlk hr (v := (-6)) rfl hP hS ?_ dX8_runners_33
        unfold a_X8_runners
        (first | rw [if_pos c_1] | rw [if_neg c_1] | rw [if_neg (Bool.eq_false_iff.mp c_1)] | skip)
        (first | rw [if_pos c_6] | rw [if_neg c_6] | rw [if_neg (Bool.eq_false_iff.mp c_6)] | skip)
        (first | rw [if_pos c_24] | rw [if_neg c_24] | rw [if_neg (Bool.eq_false_iff.mp c_24)] | skip)
        (try dsimp only)
        first
          | done
          | exact ⟨rfl, rfl⟩
          | rfl
          | (simp only [c_1, c_6, c_24, if_true, if_false, and_self, and_true, true_and, not_true_eq_false, not_false_eq_true, and_false, false_and, or_true, true_or, or_false, false_or, or_self, Bool.false_eq_true, reduceCtorEq, nl10, nl20, nl30, nl40, nl50, nl60, nl70, nl12, nl13, nl21, nl23, nl31, nl32]; first | done | exact ⟨rfl, rfl⟩ | rfl)
          | contradiction
          | (simp only [c_1, c_6, c_24, if_true, if_false, and_self, and_true, true_and, not_true_eq_false, not_false_eq_true, and_false, false_and, or_true, true_or, or_false, false_or, or_self, Bool.false_eq_true, reduceCtorEq, nl10, nl20, nl30, nl40, nl50, nl60, nl70, nl12, nl13, nl21, nl23, nl31, nl32]; contradiction)
          | (exfalso; simp_all; done)
          | simp_all
    · refine lv_aload_n hx hb dX8_runners_9 rfl (lv_at hl 0 rfl) ?_
      refine lv_bipush (v := (-5)) hx hb dX8_runners_10 (by decide) ?_
      refine f_iV (n := 1) X hP hS [.int (-5)] [] (c_X8_no l E M L (-5) (by decide)) m_5_84 wi_X8_no rfl rfl (by decide) (by decide +kernel) ⟨Nat.le_of_ble_eq_true rfl, Nat.le_of_ble_eq_true rfl⟩ rfl hl rfl (Nat.le_of_ble_eq_true rfl) ⟨Nat.zero_le _, Nat.zero_le _⟩ dX8_runners_12 (fun H locs hP hS => ?_)
      refine f_ir X hlk hr (v := (-5)) rfl hP hS ?_ dX8_runners_15
      unfold a_X8_runners
      (first | rw [if_pos c_1] | rw [if_neg c_1] | rw [if_neg (Bool.eq_false_iff.mp c_1)] | skip)
      (first | rw [if_pos c_6] | rw [if_neg c_6] | rw [if_neg (Bool.eq_false_iff.mp c_6)] | skip)
      (try dsimp only)
      first
        | done
        | exact ⟨rfl, rfl⟩
        | rfl
        | (simp only [c_1, c_6, if_true, if_false, and_self, and_true, true_and, not_true_eq_false, not_false_eq_true, and_false, false_and, or_true, true_or, or_false, false_or, or_self, Bool.false_eq_true, reduceCtorEq, nl10, nl20, nl30, nl40, nl50, nl60, nl70, nl12, nl13, nl21, nl23, nl31, nl32]; first | done | exact ⟨rfl, rfl⟩ | rfl)
        | contradiction
        | (simp only [c_1, c_6, if_true, if_false, and_self, and_true, true_and, not_true_eq_false, not_false_eq_true, and_false, false_and, or_true, true_or, or_false, false_or, or_self, Bool.false_eq_true, reduceCtorEq, nl10, nl20, nl30, nl40, nl50, nl60, nl70, nl12, nl13, nl21, nl23, nl31, nl32]; contradiction)
        | (exfalso; simp_all; done)
        | simp_all
