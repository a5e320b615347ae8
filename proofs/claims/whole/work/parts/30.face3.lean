def a_X7_posts (M : Nat → Nat → Int32) (L : Nat → Nat → Int64) (what : Int32) (tc : Nat) (wc : Nat) : fR := (if (0 ≤ what ∧ what ≤ 1) then (if what = 0 then (if ((postsI (fun w9 => seenI (fun t => (M (18 + 4 + t) 0)) (sightF (M (18 + 12 + w9) 1)) (M (18 + 12 + w9) 5) tc) ((1 <<< (nI tc &&& 31)) - 1) wc (2 ^ wc)).2) = (-1) then (((postsI (fun w9 => seenI (fun t => (M (18 + 4 + t) 0)) (sightF (M (18 + 12 + w9) 1)) (M (18 + 12 + w9) 5) tc) ((1 <<< (nI tc &&& 31)) - 1) wc (2 ^ wc)).2), (spM M 18 (fun w9 => seenI (fun t => (M (18 + 4 + t) 0)) (sightF (M (18 + 12 + w9) 1)) (M (18 + 12 + w9) 5) tc) wc), L) else ((bitc ((postsI (fun w9 => seenI (fun t => (M (18 + 4 + t) 0)) (sightF (M (18 + 12 + w9) 1)) (M (18 + 12 + w9) 5) tc) ((1 <<< (nI tc &&& 31)) - 1) wc (2 ^ wc)).2)), (spM M 18 (fun w9 => seenI (fun t => (M (18 + 4 + t) 0)) (sightF (M (18 + 12 + w9) 1)) (M (18 + 12 + w9) 5) tc) wc), L)) else (((postsI (fun w9 => seenI (fun t => (M (18 + 4 + t) 0)) (sightF (M (18 + 12 + w9) 1)) (M (18 + 12 + w9) 5) tc) ((1 <<< (nI tc &&& 31)) - 1) wc (2 ^ wc)).2), (spM M 18 (fun w9 => seenI (fun t => (M (18 + 4 + t) 0)) (sightF (M (18 + 12 + w9) 1)) (M (18 + 12 + w9) 5) tc) wc), L)) else (((-5) - 10), (rfM M (-5)), L))
set_option maxHeartbeats 1000000 in
set_option maxRecDepth 100000 in
theorem c_X7_posts (l : Launch) (E : fE) (M : Nat → Nat → Int32) (L : Nat → Nat → Int64) (what : Int32) (tc wc : Nat) (htc : M 18 3 = nI tc) (htc8 : tc ≤ 8) (hwc : M 18 4 = nI wc) (hwc6 : wc ≤ 6) : Met l yX7_posts (wl yX7_posts cX7_posts 3 (some .int)) (fRm 3 70) (va_Pc [.ref (fad E 0), .int what] (fPre E M L)) (fQi E (fun r u => u = ((a_X7_posts M L what tc wc).2.1, (a_X7_posts M L what tc wc).2.2) ∧ r = (a_X7_posts M L what tc wc).1)) 0 0 (fA E) := by
  refine f_head (by decide) (Nat.le_of_ble_eq_true rfl) ?_
  intro pg ev s mi below meth cd ls X hr hlk hP hS hl
  have hx := X.1.1
  have hb := X.1.2.1
  have hl : lv_has ls 3 [(0, .ref (fad E 0)), (1, .int what)] := hl
  refine lv_iload_n hx hb dX7_posts_0 rfl (lv_at hl 1 rfl) ?_
  refine lv_iconst (v := 0) hx hb dX7_posts_1 (by decide) ?_
  refine lv_iconst (v := 1) hx hb dX7_posts_2 (by decide) ?_
  refine f_iS (n := 3) X hP hS [.int what, .int 0, .int 1] [] (c_X7_within l E M L what 0 1) m_2_26 wi_X7_within (by decide +kernel) ⟨Nat.le_of_ble_eq_true rfl, Nat.le_of_ble_eq_true rfl⟩ rfl hl rfl (Nat.le_of_ble_eq_true rfl) ⟨Nat.zero_le _, Nat.zero_le _⟩ dX7_posts_3 (fun H locs hP hS => ?_)
  refine lv_if_ne (tgt := 16) hx hb dX7_posts_6 (by decide) (fun c_6 => ?_) (fun c_6 => ?_)
  · have c_6 := bI1 c_6
    refine lv_aload_n hx hb dX7_posts_16 rfl (lv_at hl 0 rfl) ?_
    refine f_get X hP (T := TX7) (ci := 7) (k := 0) rfl inX7 rfl 1 (by decide) m_1_232 rfl (v := .ref (fad E 18)) rfl dX7_posts_17 ?_
    refine f_iV (n := 0) X hP hS [] [] (c_X1_fewestPosts l E M L 18 tc wc rfl htc htc8 hwc hwc6) m_3_212 wi_X1_fewestPosts rfl rfl (by decide) (by decide +kernel) ⟨Nat.le_of_ble_eq_true rfl, Nat.le_of_ble_eq_true rfl⟩ rfl hl rfl (Nat.le_of_ble_eq_true rfl) ⟨Nat.zero_le _, Nat.zero_le _⟩ dX7_posts_20 (fun H locs hP hS => ?_)
    refine lv_istore_n (lv' := [(2, .int ((postsI (fun w9 => seenI (fun t => (M (18 + 4 + t) 0)) (sightF (M (18 + 12 + w9) 1)) (M (18 + 12 + w9) 5) tc) ((1 <<< (nI tc &&& 31)) - 1) wc (2 ^ wc)).2)), (0, .ref (fad E 0)), (1, .int what)]) hx hb dX7_posts_23 rfl hl (by decide) rfl (fun ls hl => ?_)
    refine lv_iload_n hx hb dX7_posts_24 rfl (lv_at hl 2 rfl) ?_
    refine lv_if_ne (tgt := 40) hx hb dX7_posts_25 (by decide) (fun c_25 => ?_) (fun c_25 => ?_)
    · refine lv_iload_n hx hb dX7_posts_40 rfl (lv_at hl 0 rfl) ?_
      refine f_ir X hlk hr (v := ((postsI (fun w9 => seenI (fun t => (M (18 + 4 + t) 0)) (sightF (M (18 + 12 + w9) 1)) (M (18 + 12 + w9) 5) tc) ((1 <<< (nI tc &&& 31)) - 1) wc (2 ^ wc)).2)) rfl hP hS ?_ dX7_posts_41
      unfold a_X7_posts
      (first | rw [if_pos c_6] | rw [if_neg c_6] | rw [if_neg (Bool.eq_false_iff.mp c_6)] | skip)
      (first | rw [if_pos c_25] | rw [if_neg c_25] | rw [if_neg (Bool.eq_false_iff.mp c_25)] | skip)
      (try dsimp only)
      first
        | done
        | exact ⟨rfl, rfl⟩
        | rfl
        | (simp only [c_6, c_25, if_true, if_false, and_self, and_true, true_and, not_true_eq_false, not_false_eq_true, and_false, false_and, or_true, true_or, or_false, false_or, or_self, Bool.false_eq_true, reduceCtorEq, nl10, nl20, nl30, nl40, nl50, nl60, nl70, nl12, nl13, nl21, nl23, nl31, nl32]; first | done | exact ⟨rfl, rfl⟩ | rfl)
        | contradiction
        | (simp only [c_6, c_25, if_true, if_false, and_self, and_true, true_and, not_true_eq_false, not_false_eq_true, and_false, false_and, or_true, true_or, or_false, false_or, or_self, Bool.false_eq_true, reduceCtorEq, nl10, nl20, nl30, nl40, nl50, nl60, nl70, nl12, nl13, nl21, nl23, nl31, nl32]; contradiction)
        | (exfalso; simp_all; done)
        | simp_all
    · refine lv_iload_n hx hb dX7_posts_28 rfl (lv_at hl 0 rfl) ?_
      refine lv_iconst (v := (-1)) hx hb dX7_posts_29 (by decide) ?_
      refine lv_icmp_eq (tgt := 40) hx hb dX7_posts_30 (by decide) (fun c_30 => ?_) (fun c_30 => ?_)
      · refine lv_iload_n hx hb dX7_posts_40 rfl (lv_at hl 0 rfl) ?_
        refine f_ir X hlk hr (v := ((postsI (fun w9 => seenI (fun t => (M (18 + 4 + t) 0)) (sightF (M (18 + 12 + w9) 1)) (M (18 + 12 + w9) 5) tc) ((1 <<< (nI tc &&& 31)) - 1) wc (2 ^ wc)).2)) rfl hP hS ?_ dX7_posts_41
        unfold a_X7_posts
        (first | rw [if_pos c_6] | rw [if_neg c_6] | rw [if_neg (Bool.eq_false_iff.mp c_6)] | skip)
        (first | rw [if_pos c_25] | rw [if_neg c_25] | rw [if_neg (Bool.eq_false_iff.mp c_25)] | skip)
        (first | rw [if_pos c_30] | rw [if_neg c_30] | rw [if_neg (Bool.eq_false_iff.mp c_30)] | skip)
        (try dsimp only)
        first
          | done
          | exact ⟨rfl, rfl⟩
          | rfl
          | (simp only [c_6, c_25, c_30, if_true, if_false, and_self, and_true, true_and, not_true_eq_false, not_false_eq_true, and_false, false_and, or_true, true_or, or_false, false_or, or_self, Bool.false_eq_true, reduceCtorEq, nl10, nl20, nl30, nl40, nl50, nl60, nl70, nl12, nl13, nl21, nl23, nl31, nl32]; first | done | exact ⟨rfl, rfl⟩ | rfl)
          | contradiction
          | (simp only [c_6, c_25, c_30, if_true, if_false, and_self, and_true, true_and, not_true_eq_false, not_false_eq_true, and_false, false_and, or_true, true_or, or_false, false_or, or_self, Bool.false_eq_true, reduceCtorEq, nl10, nl20, nl30, nl40, nl50, nl60, nl70, nl12, nl13, nl21, nl23, nl31, nl32]; contradiction)
          | (exfalso; simp_all; done)
          | simp_all
      · refine lv_iload_n hx hb dX7_posts_33 rfl (lv_at hl 0 rfl) ?_
        refine f_iS (n := 1) X hP hS [.int ((postsI (fun w9 => seenI (fun t => (M (18 + 4 + t) 0)) (sightF (M (18 + 12 + w9) 1)) (M (18 + 12 + w9) 5) tc) ((1 <<< (nI tc &&& 31)) - 1) wc (2 ^ wc)).2)] [] (c_J6_bitCount_0f7a4 l E (spM M 18 (fun w9 => seenI (fun t => (M (18 + 4 + t) 0)) (sightF (M (18 + 12 + w9) 1)) (M (18 + 12 + w9) 5) tc) wc) L ((postsI (fun w9 => seenI (fun t => (M (18 + 4 + t) 0)) (sightF (M (18 + 12 + w9) 1)) (M (18 + 12 + w9) 5) tc) ((1 <<< (nI tc &&& 31)) - 1) wc (2 ^ wc)).2)) m_3_226 wi_J6_bitCount_0f7a4 (by decide +kernel) ⟨Nat.le_of_ble_eq_true rfl, Nat.le_of_ble_eq_true rfl⟩ rfl hl rfl (Nat.le_of_ble_eq_true rfl) ⟨Nat.zero_le _, Nat.zero_le _⟩ dX7_posts_34 (fun H locs hP hS => ?_)
        refine lv_goto (tgt := 41) hx hb dX7_posts_37 (by decide) ?_
        refine f_ir X hlk hr (v := (bitc ((postsI (fun w9 => seenI (fun t => (M (18 + 4 + t) 0)) (sightF (M (18 + 12 + w9) 1)) (M (18 + 12 + w9) 5) tc) ((1 <<< (nI tc &&& 31)) - 1) wc (2 ^ wc)).2))) rfl hP hS ?_ dX7_posts_41
        unfold a_X7_posts
        (first | rw [if_pos c_6] | rw [if_neg c_6] | rw [if_neg (Bool.eq_false_iff.mp c_6)] | skip)
        (first | rw [if_pos c_25] | rw [if_neg c_25] | rw [if_neg (Bool.eq_false_iff.mp c_25)] | skip)
        (first | rw [if_pos c_30] | rw [if_neg c_30] | rw [if_neg (Bool.eq_false_iff.mp c_30)] | skip)
        (try dsimp only)
        first
          | done
          | exact ⟨rfl, rfl⟩
          | rfl
          | (simp only [c_6, c_25, c_30, if_true, if_false, and_self, and_true, true_and, not_true_eq_false, not_false_eq_true, and_false, false_and, or_true, true_or, or_false, false_or, or_self, Bool.false_eq_true, reduceCtorEq, nl10, nl20, nl30, nl40, nl50, nl60, nl70, nl12, nl13, nl21, nl23, nl31, nl32]; first | done | exact ⟨rfl, rfl⟩ | rfl)
          | contradiction
          | (simp only [c_6, c_25, c_30, if_true, if_false, and_self, and_true, true_and, not_true_eq_false, not_false_eq_true, and_false, false_and, or_true, true_or, or_false, false_or, or_self, Bool.false_eq_true, reduceCtorEq, nl10, nl20, nl30, nl40, nl50, nl60, nl70, nl12, nl13, nl21, nl23, nl31, nl32]; contradiction)
          | (exfalso; simp_all; done)
          | simp_all
  · have c_6 := bI0 c_6
    refine lv_aload_n hx hb dX7_posts_9 rfl (lv_at hl 0 rfl) ?_
    refine lv_bipush (v := (-5)) hx hb dX7_posts_10 (by decide) ?_
    refine f_iV (n := 1) X hP hS [.int (-5)] [] (c_X7_refuseApart l E M L (-5)) m_3_130 wi_X7_refuseApart rfl rfl (by decide) (by decide +kernel) ⟨Nat.le_of_ble_eq_true rfl, Nat.le_of_ble_eq_true rfl⟩ rfl hl rfl (Nat.le_of_ble_eq_true rfl) ⟨Nat.zero_le _, Nat.zero_le _⟩ dX7_posts_12 (fun H locs hP hS => ?_)
    refine f_ir X hlk hr (v := ((-5) - 10)) rfl hP hS ?_ dX7_posts_15
    unfold a_X7_posts
    (first | rw [if_pos c_6] | rw [if_neg c_6] | rw [if_neg (Bool.eq_false_iff.mp c_6)] | skip)
    (try dsimp only)
    first
      | done
      | exact ⟨rfl, rfl⟩
      | rfl
      | (simp only [c_6, if_true, if_false, and_self, and_true, true_and, not_true_eq_false, not_false_eq_true, and_false, false_and, or_true, true_or, or_false, false_or, or_self, Bool.false_eq_true, reduceCtorEq, nl10, nl20, nl30, nl40, nl50, nl60, nl70, nl12, nl13, nl21, nl23, nl31, nl32]; first | done | exact ⟨rfl, rfl⟩ | rfl)
      | contradiction
      | (simp only [c_6, if_true, if_false, and_self, and_true, true_and, not_true_eq_false, not_false_eq_true, and_false, false_and, or_true, true_or, or_false, false_or, or_self, Bool.false_eq_true, reduceCtorEq, nl10, nl20, nl30, nl40, nl50, nl60, nl70, nl12, nl13, nl21, nl23, nl31, nl32]; contradiction)
      | (exfalso; simp_all; done)
      | simp_all

def a_X7_seen (M : Nat → Nat → Int32) (L : Nat → Nat → Int64) (w : Int32) (what : Int32) (tc : Nat) : fR := (if (0 ≤ w ∧ w < (M 18 4) ∧ w < 6) then (if (0 ≤ what ∧ what ≤ 1) then (if what = 0 then ((seenI (fun t => (M (18 + 4 + t) 0)) (sightF (M (30 + w.toNatClampNeg) 1)) (M (30 + w.toNatClampNeg) 5) tc), M, L) else (((bestI (fun c => worthI (fun t => (M (18 + 4 + t) 4)) (seenI (fun t => (M (18 + 4 + t) 0)) (sightF (M (30 + w.toNatClampNeg) 1)) (nI c) tc) tc) nI 0 10).2), M, L)) else ((-5), (rfM M (-5)), L)) else ((-1), (rfM M (-1)), L))
set_option maxHeartbeats 1000000 in
set_option maxRecDepth 100000 in
theorem c_X7_seen (l : Launch) (E : fE) (M : Nat → Nat → Int32) (L : Nat → Nat → Int64) (w : Int32) (what : Int32) (tc : Nat) (htc : M 18 3 = nI tc) (htc8 : tc ≤ 8) : Met l yX7_seen (wl yX7_seen cX7_seen 4 (some .int)) (fRm 3 70) (va_Pc [.ref (fad E 0), .int w, .int what] (fPre E M L)) (fQi E (fun r u => u = ((a_X7_seen M L w what tc).2.1, (a_X7_seen M L w what tc).2.2) ∧ r = (a_X7_seen M L w what tc).1)) 0 0 (fA E) := by
  refine f_head (by decide) (Nat.le_of_ble_eq_true rfl) ?_
  intro pg ev s mi below meth cd ls X hr hlk hP hS hl
  have hx := X.1.1
  have hb := X.1.2.1
  have hl : lv_has ls 4 [(0, .ref (fad E 0)), (1, .int w), (2, .int what)] := hl
  refine lv_aload_n hx hb dX7_seen_0 rfl (lv_at hl 0 rfl) ?_
  refine f_get X hP (T := TX7) (ci := 7) (k := 0) rfl inX7 rfl 1 (by decide) m_1_232 rfl (v := .ref (fad E 18)) rfl dX7_seen_1 ?_
  refine lv_iload_n hx hb dX7_seen_4 rfl (lv_at hl 1 rfl) ?_
  refine f_iV (n := 1) X hP hS [.int w] [] (c_X1_hasWaiter l E M L 18 w rfl) m_2_89 wi_X1_hasWaiter rfl rfl (by decide) (by decide +kernel) ⟨Nat.le_of_ble_eq_true rfl, Nat.le_of_ble_eq_true rfl⟩ rfl hl rfl (Nat.le_of_ble_eq_true rfl) ⟨Nat.zero_le _, Nat.zero_le _⟩ dX7_seen_5 (fun H locs hP hS => ?_)
  refine lv_if_ne (tgt := 17) hx hb dX7_seen_8 (by decide) (fun c_8 => ?_) (fun c_8 => ?_)
  · have c_8 := bI1 c_8
    refine lv_iload_n hx hb dX7_seen_17 rfl (lv_at hl 2 rfl) ?_
    refine lv_iconst (v := 0) hx hb dX7_seen_18 (by decide) ?_
    refine lv_iconst (v := 1) hx hb dX7_seen_19 (by decide) ?_
    refine f_iS (n := 3) X hP hS [.int what, .int 0, .int 1] [] (c_X7_within l E M L what 0 1) m_2_26 wi_X7_within (by decide +kernel) ⟨Nat.le_of_ble_eq_true rfl, Nat.le_of_ble_eq_true rfl⟩ rfl hl rfl (Nat.le_of_ble_eq_true rfl) ⟨Nat.zero_le _, Nat.zero_le _⟩ dX7_seen_20 (fun H locs hP hS => ?_)
    refine lv_if_ne (tgt := 33) hx hb dX7_seen_23 (by decide) (fun c_23 => ?_) (fun c_23 => ?_)
    · have c_23 := bI1 c_23
      refine lv_aload_n hx hb dX7_seen_33 rfl (lv_at hl 0 rfl) ?_
      refine f_get X hP (T := TX7) (ci := 7) (k := 0) rfl inX7 rfl 1 (by decide) m_1_232 rfl (v := .ref (fad E 18)) rfl dX7_seen_34 ?_
      refine f_get X hP (T := TX1) (ci := 1) (k := 18) rfl inX1 rfl 1 (by decide) m_1_112 rfl (v := .ref (fad E 20)) rfl dX7_seen_37 ?_
      refine lv_iload_n hx hb dX7_seen_40 rfl (lv_at hl 1 rfl) ?_
      have hix_1 : fIx w 6 w.toNatClampNeg := by
        first
          | exact fIx_le 5 c_8.1 c_8.2 (by decide)
          | exact fIx_le 5 c_23.1 c_23.2 (by decide)
          | exact fIx_lt 6 c_8.1 c_8.2.2 (by decide)
          | exact fIx_lt 6 c_23.1 c_23.2.2 (by decide)
          | exact fIx_le 5 (rr0 c_8).1.1 (rr0 c_8).1.2 (by decide)
          | exact fIx_le 5 (rr0 c_23).1.1 (rr0 c_23).1.2 (by decide)
          | (refine fIx_lt 6 ?_ ?_ (by decide) <;> (simp only [Int32.lt_iff_toInt_lt, Int32.le_iff_toInt_le, Int32.not_lt, Int32.not_le, ← Int32.toInt_inj] at *; omega))
      have hlt_1 := hix_1.2.2
      refine f_aald X hP (t := 13) (d := 10) (n := 6) (r := w.toNatClampNeg) rfl rfl (.inr (.inr (.inl ⟨rfl, rfl⟩))) hix_1 (30 + w.toNatClampNeg) (by omega) dX7_seen_41 ?_
      refine lv_astore_n (lv' := [(3, .ref (fad E (30 + w.toNatClampNeg))), (0, .ref (fad E 0)), (1, .int w), (2, .int what)]) hx hb dX7_seen_42 rfl hl (by decide) rfl (fun ls hl => ?_)
      refine lv_iload_n hx hb dX7_seen_43 rfl (lv_at hl 3 rfl) ?_
      refine lv_if_ne (tgt := 62) hx hb dX7_seen_44 (by decide) (fun c_44 => ?_) (fun c_44 => ?_)
      · refine lv_aload_n hx hb dX7_seen_62 rfl (lv_at hl 1 rfl) ?_
        refine f_get X hP (T := TX7) (ci := 7) (k := 0) rfl inX7 rfl 1 (by decide) m_1_232 rfl (v := .ref (fad E 18)) rfl dX7_seen_63 ?_
        refine lv_aload_n hx hb dX7_seen_66 rfl (lv_at hl 0 rfl) ?_
        refine f_iV (n := 1) X hP hS [.ref (fad E (30 + w.toNatClampNeg))] [] (c_X1_bestStand l E M L 18 (30 + w.toNatClampNeg) tc rfl (sh_gw (g := 18) rfl (by omega)) htc htc8) m_3_232 wi_X1_bestStand rfl rfl (by decide) (by decide +kernel) ⟨Nat.le_of_ble_eq_true rfl, Nat.le_of_ble_eq_true rfl⟩ rfl hl rfl (Nat.le_of_ble_eq_true rfl) ⟨Nat.zero_le _, Nat.zero_le _⟩ dX7_seen_67 (fun H locs hP hS => ?_)
        refine f_ir X hlk hr (v := ((bestI (fun c => worthI (fun t => (M (18 + 4 + t) 4)) (seenI (fun t => (M (18 + 4 + t) 0)) (sightF (M (30 + w.toNatClampNeg) 1)) (nI c) tc) tc) nI 0 10).2)) rfl hP hS ?_ dX7_seen_70
        unfold a_X7_seen
        (first | rw [if_pos c_8] | rw [if_neg c_8] | rw [if_neg (Bool.eq_false_iff.mp c_8)] | skip)
        (first | rw [if_pos c_23] | rw [if_neg c_23] | rw [if_neg (Bool.eq_false_iff.mp c_23)] | skip)
        (first | rw [if_pos c_44] | rw [if_neg c_44] | rw [if_neg (Bool.eq_false_iff.mp c_44)] | skip)
        (try dsimp only)
        first
          | done
          | exact ⟨rfl, rfl⟩
          | rfl
          | (simp only [c_8, c_23, c_44, if_true, if_false, and_self, and_true, true_and, not_true_eq_false, not_false_eq_true, and_false, false_and, or_true, true_or, or_false, false_or, or_self, Bool.false_eq_true, reduceCtorEq, nl10, nl20, nl30, nl40, nl50, nl60, nl70, nl12, nl13, nl21, nl23, nl31, nl32]; first | done | exact ⟨rfl, rfl⟩ | rfl)
          | contradiction
          | (simp only [c_8, c_23, c_44, if_true, if_false, and_self, and_true, true_and, not_true_eq_false, not_false_eq_true, and_false, false_and, or_true, true_or, or_false, false_or, or_self, Bool.false_eq_true, reduceCtorEq, nl10, nl20, nl30, nl40, nl50, nl60, nl70, nl12, nl13, nl21, nl23, nl31, nl32]; contradiction)
          | (exfalso; simp_all; done)
          | simp_all
      · refine lv_aload_n hx hb dX7_seen_47 rfl (lv_at hl 1 rfl) ?_
        refine f_get X hP (T := TX7) (ci := 7) (k := 0) rfl inX7 rfl 1 (by decide) m_1_232 rfl (v := .ref (fad E 18)) rfl dX7_seen_48 ?_
        refine lv_aload_n hx hb dX7_seen_51 rfl (lv_at hl 0 rfl) ?_
        refine lv_aload_n hx hb dX7_seen_52 rfl (lv_at hl 0 rfl) ?_
        refine f_get X hP (T := TX6) (ci := 6) (k := (30 + w.toNatClampNeg)) (sh_gw (g := 18) rfl (by omega)) inX6 rfl 5 (by decide) m_1_93 rfl (v := .int (M (30 + w.toNatClampNeg) 5)) rfl dX7_seen_53 ?_
        refine f_iV (n := 2) X hP hS [.ref (fad E (30 + w.toNatClampNeg)), .int (M (30 + w.toNatClampNeg) 5)] [] (c_X1_thingsSeen l E M L 18 (30 + w.toNatClampNeg) (M (30 + w.toNatClampNeg) 5) tc rfl (sh_gw (g := 18) rfl (by omega)) htc htc8) m_3_231 wi_X1_thingsSeen rfl rfl (by decide) (by decide +kernel) ⟨Nat.le_of_ble_eq_true rfl, Nat.le_of_ble_eq_true rfl⟩ rfl hl rfl (Nat.le_of_ble_eq_true rfl) ⟨Nat.zero_le _, Nat.zero_le _⟩ dX7_seen_56 (fun H locs hP hS => ?_)
        refine lv_goto (tgt := 70) hx hb dX7_seen_59 (by decide) ?_
        refine f_ir X hlk hr (v := (seenI (fun t => (M (18 + 4 + t) 0)) (sightF (M (30 + w.toNatClampNeg) 1)) (M (30 + w.toNatClampNeg) 5) tc)) rfl hP hS ?_ dX7_seen_70
        unfold a_X7_seen
        (first | rw [if_pos c_8] | rw [if_neg c_8] | rw [if_neg (Bool.eq_false_iff.mp c_8)] | skip)
        (first | rw [if_pos c_23] | rw [if_neg c_23] | rw [if_neg (Bool.eq_false_iff.mp c_23)] | skip)
        (first | rw [if_pos c_44] | rw [if_neg c_44] | rw [if_neg (Bool.eq_false_iff.mp c_44)] | skip)
        (try dsimp only)
        first
          | done
          | exact ⟨rfl, rfl⟩
          | rfl
          | (simp only [c_8, c_23, c_44, if_true, if_false, and_self, and_true, true_and, not_true_eq_false, not_false_eq_true, and_false, false_and, or_true, true_or, or_false, false_or, or_self, Bool.false_eq_true, reduceCtorEq, nl10, nl20, nl30, nl40, nl50, nl60, nl70, nl12, nl13, nl21, nl23, nl31, nl32]; first | done | exact ⟨rfl, rfl⟩ | rfl)
          | contradiction
          | (simp only [c_8, c_23, c_44, if_true, if_false, and_self, and_true, true_and, not_true_eq_false, not_false_eq_true, and_false, false_and, or_true, true_or, or_false, false_or, or_self, Bool.false_eq_true, reduceCtorEq, nl10, nl20, nl30, nl40, nl50, nl60, nl70, nl12, nl13, nl21, nl23, nl31, nl32]; contradiction)
          | (exfalso; simp_all; done)
          | simp_all
    · have c_23 := bI0 c_23
      refine lv_aload_n hx hb dX7_seen_26 rfl (lv_at hl 0 rfl) ?_
      refine lv_bipush (v := (-5)) hx hb dX7_seen_27 (by decide) ?_
      refine f_iV (n := 1) X hP hS [.int (-5)] [] (c_X7_refuse l E M L (-5)) m_2_29 wi_X7_refuse rfl rfl (by decide) (by decide +kernel) ⟨Nat.le_of_ble_eq_true rfl, Nat.le_of_ble_eq_true rfl⟩ rfl hl rfl (Nat.le_of_ble_eq_true rfl) ⟨Nat.zero_le _, Nat.zero_le _⟩ dX7_seen_29 (fun H locs hP hS => ?_)
      refine f_ir X hlk hr (v := (-5)) rfl hP hS ?_ dX7_seen_32
      unfold a_X7_seen
      (first | rw [if_pos c_8] | rw [if_neg c_8] | rw [if_neg (Bool.eq_false_iff.mp c_8)] | skip)
      (first | rw [if_pos c_23] | rw [if_neg c_23] | rw [if_neg (Bool.eq_false_iff.mp c_23)] | skip)
      (try dsimp only)
      first
        | done
        | exact ⟨rfl, rfl⟩
        | rfl
        | (simp only [c_8, c_23, if_true, if_false, and_self, and_true, true_and, not_true_eq_false, not_false_eq_true, and_false, false_and, or_true, true_or, or_false, false_or, or_self, Bool.false_eq_true, reduceCtorEq, nl10, nl20, nl30, nl40, nl50, nl60, nl70, nl12, nl13, nl21, nl23, nl31, nl32]; first | done | exact ⟨rfl, rfl⟩ | rfl)
        | contradiction
        | (simp only [c_8, c_23, if_true, if_false, and_self, and_true, true_and, not_true_eq_false, not_false_eq_true, and_false, false_and, or_true, true_or, or_false, false_or, or_self, Bool.false_eq_true, reduceCtorEq, nl10, nl20, nl30, nl40, nl50, nl60, nl70, nl12, nl13, nl21, nl23, nl31, nl32]; contradiction)
        | (exfalso; simp_all; done)
        | simp_all
  · have c_8 := bI0 c_8
    refine lv_aload_n hx hb dX7_seen_11 rfl (lv_at hl 0 rfl) ?_
    refine lv_iconst (v := (-1)) hx hb dX7_seen_12 (by decide) ?_
    refine f_iV (n := 1) X hP hS [.int (-1)] [] (c_X7_refuse l E M L (-1)) m_2_29 wi_X7_refuse rfl rfl (by decide) (by decide +kernel) ⟨Nat.le_of_ble_eq_true rfl, Nat.le_of_ble_eq_true rfl⟩ rfl hl rfl (Nat.le_of_ble_eq_true rfl) ⟨Nat.zero_le _, Nat.zero_le _⟩ dX7_seen_13 (fun H locs hP hS => ?_)
    refine f_ir X hlk hr (v := (-1)) rfl hP hS ?_ dX7_seen_16
    unfold a_X7_seen
    (first | rw [if_pos c_8] | rw [if_neg c_8] | rw [if_neg (Bool.eq_false_iff.mp c_8)] | skip)
    (try dsimp only)
    first
      | done
      | exact ⟨rfl, rfl⟩
      | rfl
      | (simp only [c_8, if_true, if_false, and_self, and_true, true_and, not_true_eq_false, not_false_eq_true, and_false, false_and, or_true, true_or, or_false, false_or, or_self, Bool.false_eq_true, reduceCtorEq, nl10, nl20, nl30, nl40, nl50, nl60, nl70, nl12, nl13, nl21, nl23, nl31, nl32]; first | done | exact ⟨rfl, rfl⟩ | rfl)
      | contradiction
      | (simp only [c_8, if_true, if_false, and_self, and_true, true_and, not_true_eq_false, not_false_eq_true, and_false, false_and, or_true, true_or, or_false, false_or, or_self, Bool.false_eq_true, reduceCtorEq, nl10, nl20, nl30, nl40, nl50, nl60, nl70, nl12, nl13, nl21, nl23, nl31, nl32]; contradiction)
      | (exfalso; simp_all; done)
      | simp_all

def a_X7_met (M : Nat → Nat → Int32) (L : Nat → Nat → Int64) (t : Int32) (what : Int32) : fR := (if (0 ≤ t ∧ t < (M 18 3) ∧ t < 8) then (if (0 ≤ what ∧ what ≤ 1) then (if what = 1 then (if ((if (1 : Int32) = 0 then (M (22 + t.toNatClampNeg) 6) else (M (22 + t.toNatClampNeg) 6) / 2) ≤ (M (22 + t.toNatClampNeg) 5)) then (1, M, L) else (0, M, L)) else (if ((if (0 : Int32) = 0 then (M (22 + t.toNatClampNeg) 6) else (M (22 + t.toNatClampNeg) 6) / 2) ≤ (M (22 + t.toNatClampNeg) 5)) then (1, M, L) else (0, M, L))) else ((-5), (rfM M (-5)), L)) else ((-1), (rfM M (-1)), L))
set_option maxHeartbeats 1000000 in
set_option maxRecDepth 100000 in
theorem c_X7_met (l : Launch) (E : fE) (M : Nat → Nat → Int32) (L : Nat → Nat → Int64) (t : Int32) (what : Int32) : Met l yX7_met (wl yX7_met cX7_met 3 (some .int)) (fRm 2 44) (va_Pc [.ref (fad E 0), .int t, .int what] (fPre E M L)) (fQi E (fun r u => u = ((a_X7_met M L t what).2.1, (a_X7_met M L t what).2.2) ∧ r = (a_X7_met M L t what).1)) 0 0 (fA E) := by
  refine f_head (by decide) (Nat.le_of_ble_eq_true rfl) ?_
  intro pg ev s mi below meth cd ls X hr hlk hP hS hl
  have hx := X.1.1
  have hb := X.1.2.1
  have hl : lv_has ls 3 [(0, .ref (fad E 0)), (1, .int t), (2, .int what)] := hl
  refine lv_aload_n hx hb dX7_met_0 rfl (lv_at hl 0 rfl) ?_
  refine f_get X hP (T := TX7) (ci := 7) (k := 0) rfl inX7 rfl 1 (by decide) m_1_232 rfl (v := .ref (fad E 18)) rfl dX7_met_1 ?_
  refine lv_iload_n hx hb dX7_met_4 rfl (lv_at hl 1 rfl) ?_
  refine f_iV (n := 1) X hP hS [.int t] [] (c_X1_hasThing l E M L 18 t rfl) m_2_158 wi_X1_hasThing rfl rfl (by decide) (by decide +kernel) ⟨Nat.le_of_ble_eq_true rfl, Nat.le_of_ble_eq_true rfl⟩ rfl hl rfl (Nat.le_of_ble_eq_true rfl) ⟨Nat.zero_le _, Nat.zero_le _⟩ dX7_met_5 (fun H locs hP hS => ?_)
  refine lv_if_ne (tgt := 17) hx hb dX7_met_8 (by decide) (fun c_8 => ?_) (fun c_8 => ?_)
  · have c_8 := bI1 c_8
    refine lv_iload_n hx hb dX7_met_17 rfl (lv_at hl 2 rfl) ?_
    refine lv_iconst (v := 0) hx hb dX7_met_18 (by decide) ?_
    refine lv_iconst (v := 1) hx hb dX7_met_19 (by decide) ?_
    refine f_iS (n := 3) X hP hS [.int what, .int 0, .int 1] [] (c_X7_within l E M L what 0 1) m_2_26 wi_X7_within (by decide +kernel) ⟨Nat.le_of_ble_eq_true rfl, Nat.le_of_ble_eq_true rfl⟩ rfl hl rfl (Nat.le_of_ble_eq_true rfl) ⟨Nat.zero_le _, Nat.zero_le _⟩ dX7_met_20 (fun H locs hP hS => ?_)
    refine lv_if_ne (tgt := 33) hx hb dX7_met_23 (by decide) (fun c_23 => ?_) (fun c_23 => ?_)
    · have c_23 := bI1 c_23
      refine lv_aload_n hx hb dX7_met_33 rfl (lv_at hl 0 rfl) ?_
      refine f_get X hP (T := TX7) (ci := 7) (k := 0) rfl inX7 rfl 1 (by decide) m_1_232 rfl (v := .ref (fad E 18)) rfl dX7_met_34 ?_
      refine f_get X hP (T := TX1) (ci := 1) (k := 18) rfl inX1 rfl 0 (by decide) m_1_108 rfl (v := .ref (fad E 19)) rfl dX7_met_37 ?_
      refine lv_iload_n hx hb dX7_met_40 rfl (lv_at hl 1 rfl) ?_
      have hix_1 : fIx t 8 t.toNatClampNeg := by
        first
          | exact fIx_le 7 c_8.1 c_8.2 (by decide)
          | exact fIx_le 7 c_23.1 c_23.2 (by decide)
          | exact fIx_lt 8 c_8.1 c_8.2.2 (by decide)
          | exact fIx_lt 8 c_23.1 c_23.2.2 (by decide)
          | exact fIx_le 7 (rr0 c_8).1.1 (rr0 c_8).1.2 (by decide)
          | exact fIx_le 7 (rr0 c_23).1.1 (rr0 c_23).1.2 (by decide)
          | (refine fIx_lt 8 ?_ ?_ (by decide) <;> (simp only [Int32.lt_iff_toInt_lt, Int32.le_iff_toInt_le, Int32.not_lt, Int32.not_le, ← Int32.toInt_inj] at *; omega))
      have hlt_1 := hix_1.2.2
      refine f_aald X hP (t := 12) (d := 3) (n := 8) (r := t.toNatClampNeg) rfl rfl (.inr (.inl ⟨rfl, rfl⟩)) hix_1 (22 + t.toNatClampNeg) (by omega) dX7_met_41 ?_
      refine lv_iload_n hx hb dX7_met_42 rfl (lv_at hl 2 rfl) ?_
      refine lv_iconst (v := 1) hx hb dX7_met_43 (by decide) ?_
      refine lv_icmp_ne (tgt := 51) hx hb dX7_met_44 (by decide) (fun c_44 => ?_) (fun c_44 => ?_)
      · refine lv_iconst (v := 0) hx hb dX7_met_51 (by decide) ?_
        refine f_iV (n := 1) X hP hS [.int 0] [] (c_X5_isMet l E M L (22 + t.toNatClampNeg) 0 (sh_gt (g := 18) rfl (by omega))) m_4_4 wi_X5_isMet (sh_gt (g := 18) rfl (by omega)) rfl (by decide) (by decide +kernel) ⟨Nat.le_of_ble_eq_true rfl, Nat.le_of_ble_eq_true rfl⟩ rfl hl rfl (Nat.le_of_ble_eq_true rfl) ⟨Nat.zero_le _, Nat.zero_le _⟩ dX7_met_52 (fun H locs hP hS => ?_)
        refine lv_if_eq (tgt := 62) hx hb dX7_met_55 (by decide) (fun c_55 => ?_) (fun c_55 => ?_)
        · have c_55 := bI0 c_55
          refine lv_iconst (v := 0) hx hb dX7_met_62 (by decide) ?_
          refine f_ir X hlk hr (v := 0) rfl hP hS ?_ dX7_met_63
          unfold a_X7_met
          (first | rw [if_pos c_8] | rw [if_neg c_8] | rw [if_neg (Bool.eq_false_iff.mp c_8)] | skip)
          (first | rw [if_pos c_23] | rw [if_neg c_23] | rw [if_neg (Bool.eq_false_iff.mp c_23)] | skip)
          (first | rw [if_pos c_44] | rw [if_neg c_44] | rw [if_neg (Bool.eq_false_iff.mp c_44)] | skip)
          (first | rw [if_pos c_55] | rw [if_neg c_55] | rw [if_neg (Bool.eq_false_iff.mp c_55)] | skip)
          (try dsimp only)
          first
            | done
            | exact ⟨rfl, rfl⟩
            | rfl
            | (simp only [c_8, c_23, c_44, c_55, if_true, if_false, and_self, and_true, true_and, not_true_eq_false, not_false_eq_true, and_false, false_and, or_true, true_or, or_false, false_or, or_self, Bool.false_eq_true, reduceCtorEq, nl10, nl20, nl30, nl40, nl50, nl60, nl70, nl12, nl13, nl21, nl23, nl31, nl32]; first | done | exact ⟨rfl, rfl⟩ | rfl)
            | contradiction
            | (simp only [c_8, c_23, c_44, c_55, if_true, if_false, and_self, and_true, true_and, not_true_eq_false, not_false_eq_true, and_false, false_and, or_true, true_or, or_false, false_or, or_self, Bool.false_eq_true, reduceCtorEq, nl10, nl20, nl30, nl40, nl50, nl60, nl70, nl12, nl13, nl21, nl23, nl31, nl32]; contradiction)
            | (exfalso; simp_all; done)
            | simp_all
        · have c_55 := bI1 c_55
          refine lv_iconst (v := 1) hx hb dX7_met_58 (by decide) ?_
          refine lv_goto (tgt := 63) hx hb dX7_met_59 (by decide) ?_
          refine f_ir X hlk hr (v := 1) rfl hP hS ?_ dX7_met_63
          unfold a_X7_met
          (first | rw [if_pos c_8] | rw [if_neg c_8] | rw [if_neg (Bool.eq_false_iff.mp c_8)] | skip)
          (first | rw [if_pos c_23] | rw [if_neg c_23] | rw [if_neg (Bool.eq_false_iff.mp c_23)] | skip)
          (first | rw [if_pos c_44] | rw [if_neg c_44] | rw [if_neg (Bool.eq_false_iff.mp c_44)] | skip)
          (first | rw [if_pos c_55] | rw [if_neg c_55] | rw [if_neg (Bool.eq_false_iff.mp c_55)] | skip)
          (try dsimp only)
          first
            | done
            | exact ⟨rfl, rfl⟩
            | rfl
            | (simp only [c_8, c_23, c_44, c_55, if_true, if_false, and_self, and_true, true_and, not_true_eq_false, not_false_eq_true, and_false, false_and, or_true, true_or, or_false, false_or, or_self, Bool.false_eq_true, reduceCtorEq, nl10, nl20, nl30, nl40, nl50, nl60, nl70, nl12, nl13, nl21, nl23, nl31, nl32]; first | done | exact ⟨rfl, rfl⟩ | rfl)
            | contradiction
            | (simp only [c_8, c_23, c_44, c_55, if_true, if_false, and_self, and_true, true_and, not_true_eq_false, not_false_eq_true, and_false, false_and, or_true, true_or, or_false, false_or, or_self, Bool.false_eq_true, reduceCtorEq, nl10, nl20, nl30, nl40, nl50, nl60, nl70, nl12, nl13, nl21, nl23, nl31, nl32]; contradiction)
            | (exfalso; simp_all; done)
            | simp_all
      · refine lv_iconst (v := 1) hx hb dX7_met_47 (by decide) ?_
        refine lv_goto (tgt := 52) hx hb dX7_met_48 (by decide) ?_
        refine f_iV (n := 1) X hP hS [.int 1] [] (c_X5_isMet l E M L (22 + t.toNatClampNeg) 1 (sh_gt (g := 18) rfl (by omega))) m_4_4 wi_X5_isMet (sh_gt (g := 18) rfl (by omega)) rfl (by decide) (by decide +kernel) ⟨Nat.le_of_ble_eq_true rfl, Nat.le_of_ble_eq_true rfl⟩ rfl hl rfl (Nat.le_of_ble_eq_true rfl) ⟨Nat.zero_le _, Nat.zero_le _⟩ dX7_met_52 (fun H locs hP hS => ?_)
        refine lv_if_eq (tgt := 62) hx hb dX7_met_55 (by decide) (fun c_55 => ?_) (fun c_55 => ?_)
        · have c_55 := bI0 c_55
          refine lv_iconst (v := 0) hx hb dX7_met_62 (by decide) ?_
          refine f_ir X hlk hr (v := 0) rfl hP hS ?_ dX7_met_63
          unfold a_X7_met
          (first | rw [if_pos c_8] | rw [if_neg c_8] | rw [if_neg (Bool.eq_false_iff.mp c_8)] | skip)
          (first | rw [if_pos c_23] | rw [if_neg c_23] | rw [if_neg (Bool.eq_false_iff.mp c_23)] | skip)
          (first | rw [if_pos c_44] | rw [if_neg c_44] | rw [if_neg (Bool.eq_false_iff.mp c_44)] | skip)
          (first | rw [if_pos c_55] | rw [if_neg c_55] | rw [if_neg (Bool.eq_false_iff.mp c_55)] | skip)
          (try dsimp only)
          first
            | done
            | exact ⟨rfl, rfl⟩
            | rfl
            | (simp only [c_8, c_23, c_44, c_55, if_true, if_false, and_self, and_true, true_and, not_true_eq_false, not_false_eq_true, and_false, false_and, or_true, true_or, or_false, false_or, or_self, Bool.false_eq_true, reduceCtorEq, nl10, nl20, nl30, nl40, nl50, nl60, nl70, nl12, nl13, nl21, nl23, nl31, nl32]; first | done | exact ⟨rfl, rfl⟩ | rfl)
            | contradiction
            | (simp only [c_8, c_23, c_44, c_55, if_true, if_false, and_self, and_true, true_and, not_true_eq_false, not_false_eq_true, and_false, false_and, or_true, true_or, or_false, false_or, or_self, Bool.false_eq_true, reduceCtorEq, nl10, nl20, nl30, nl40, nl50, nl60, nl70, nl12, nl13, nl21, nl23, nl31, nl32]; contradiction)
            | (exfalso; simp_all; done)
            | simp_all
        · have c_55 := bI1 c_55
          refine lv_iconst (v := 1) hx hb dX7_met_58 (by decide) ?_
          refine lv_goto (tgt := 63) hx hb dX7_met_59 (by decide) ?_
          refine f_ir X hlk hr (v := 1) rfl hP hS ?_ dX7_met_63
          unfold a_X7_met
          (first | rw [if_pos c_8] | rw [if_neg c_8] | rw [if_neg (Bool.eq_false_iff.mp c_8)] | skip)
          (first | rw [if_pos c_23] | rw [if_neg c_23] | rw [if_neg (Bool.eq_false_iff.mp c_23)] | skip)
          (first | rw [if_pos c_44] | rw [if_neg c_44] | rw [if_neg (Bool.eq_false_iff.mp c_44)] | skip)
          (first | rw [if_pos c_55] | rw [if_neg c_55] | rw [if_neg (Bool.eq_false_iff.mp c_55)] | skip)
          (try dsimp only)
          first
            | done
            | exact ⟨rfl, rfl⟩
            | rfl
            | (simp only [c_8, c_23, c_44, c_55, if_true, if_false, and_self, and_true, true_and, not_true_eq_false, not_false_eq_true, and_false, false_and, or_true, true_or, or_false, false_or, or_self, Bool.false_eq_true, reduceCtorEq, nl10, nl20, nl30, nl40, nl50, nl60, nl70, nl12, nl13, nl21, nl23, nl31, nl32]; first | done | exact ⟨rfl, rfl⟩ | rfl)
            | contradiction
            | (simp only [c_8, c_23, c_44, c_55, if_true, if_false, and_self, and_true, true_and, not_true_eq_false, not_false_eq_true, and_false, false_and, or_true, true_or, or_false, false_or, or_self, Bool.false_eq_true, reduceCtorEq, nl10, nl20, nl30, nl40, nl50, nl60, nl70, nl12, nl13, nl21, nl23, nl31, nl32]; contradiction)
            | (exfalso; simp_all; done)
            | simp_all
    · have c_23 := bI0 c_23
      refine lv_aload_n hx hb dX7_met_26 rfl (lv_at hl 0 rfl) ?_
      refine lv_bipush (v := (-5)) hx hb dX7_met_27 (by decide) ?_
      refine f_iV (n := 1) X hP hS [.int (-5)] [] (c_X7_refuse l E M L (-5)) m_2_29 wi_X7_refuse rfl rfl (by decide) (by decide +kernel) ⟨Nat.le_of_ble_eq_true rfl, Nat.le_of_ble_eq_true rfl⟩ rfl hl rfl (Nat.le_of_ble_eq_true rfl) ⟨Nat.zero_le _, Nat.zero_le _⟩ dX7_met_29 (fun H locs hP hS => ?_)
      refine f_ir X hlk hr (v := (-5)) rfl hP hS ?_ dX7_met_32
      unfold a_X7_met
      (first | rw [if_pos c_8] | rw [if_neg c_8] | rw [if_neg (Bool.eq_false_iff.mp c_8)] | skip)
      (first | rw [if_pos c_23] | rw [if_neg c_23] | rw [if_neg (Bool.eq_false_iff.mp c_23)] | skip)
      (try dsimp only)
      first
        | done
        | exact ⟨rfl, rfl⟩
        | rfl
        | (simp only [c_8, c_23, if_true, if_false, and_self, and_true, true_and, not_true_eq_false, not_false_eq_true, and_false, false_and, or_true, true_or, or_false, false_or, or_self, Bool.false_eq_true, reduceCtorEq, nl10, nl20, nl30, nl40, nl50, nl60, nl70, nl12, nl13, nl21, nl23, nl31, nl32]; first | done | exact ⟨rfl, rfl⟩ | rfl)
        | contradiction
        | (simp only [c_8, c_23, if_true, if_false, and_self, and_true, true_and, not_true_eq_false, not_false_eq_true, and_false, false_and, or_true, true_or, or_false, false_or, or_self, Bool.false_eq_true, reduceCtorEq, nl10, nl20, nl30, nl40, nl50, nl60, nl70, nl12, nl13, nl21, nl23, nl31, nl32]; contradiction)
        | (exfalso; simp_all; done)
        | simp_all
  · have c_8 := bI0 c_8
    refine lv_aload_n hx hb dX7_met_11 rfl (lv_at hl 0 rfl) ?_
    refine lv_iconst (v := (-1)) hx hb dX7_met_12 (by decide) ?_
    refine f_iV (n := 1) X hP hS [.int (-1)] [] (c_X7_refuse l E M L (-1)) m_2_29 wi_X7_refuse rfl rfl (by decide) (by decide +kernel) ⟨Nat.le_of_ble_eq_true rfl, Nat.le_of_ble_eq_true rfl⟩ rfl hl rfl (Nat.le_of_ble_eq_true rfl) ⟨Nat.zero_le _, Nat.zero_le _⟩ dX7_met_13 (fun H locs hP hS => ?_)
    refine f_ir X hlk hr (v := (-1)) rfl hP hS ?_ dX7_met_16
    unfold a_X7_met
    (first | rw [if_pos c_8] | rw [if_neg c_8] | rw [if_neg (Bool.eq_false_iff.mp c_8)] | skip)
    (try dsimp only)
    first
      | done
      | exact ⟨rfl, rfl⟩
      | rfl
      | (simp only [c_8, if_true, if_false, and_self, and_true, true_and, not_true_eq_false, not_false_eq_true, and_false, false_and, or_true, true_or, or_false, false_or, or_self, Bool.false_eq_true, reduceCtorEq, nl10, nl20, nl30, nl40, nl50, nl60, nl70, nl12, nl13, nl21, nl23, nl31, nl32]; first | done | exact ⟨rfl, rfl⟩ | rfl)
      | contradiction
      | (simp only [c_8, if_true, if_false, and_self, and_true, true_and, not_true_eq_false, not_false_eq_true, and_false, false_and, or_true, true_or, or_false, false_or, or_self, Bool.false_eq_true, reduceCtorEq, nl10, nl20, nl30, nl40, nl50, nl60, nl70, nl12, nl13, nl21, nl23, nl31, nl32]; contradiction)
      | (exfalso; simp_all; done)
      | simp_all

def a_X7_await (M : Nat → Nat → Int32) (L : Nat → Nat → Int64) (q : Int32) (tc : Nat) : fR := (if q = (-1) then (((bestI (fun q => bitc (inI (fun t => (M (18 + 4 + t) 1)) (fun t => (M (18 + 4 + t) 2)) (nI q) tc)) nI 0 24).2), M, L) else (if (0 ≤ q ∧ q ≤ 23) then ((bitc (inI (fun t => (M (18 + 4 + t) 1)) (fun t => (M (18 + 4 + t) 2)) q tc)), M, L) else ((-6), (rfM M (-6)), L)))
set_option maxHeartbeats 1000000 in
set_option maxRecDepth 100000 in
theorem c_X7_await (l : Launch) (E : fE) (M : Nat → Nat → Int32) (L : Nat → Nat → Int64) (q : Int32) (tc : Nat) (htc : M 18 3 = nI tc) (htc8 : tc ≤ 8) : Met l yX7_await (wl yX7_await cX7_await 2 (some .int)) (fRm 4 90) (va_Pc [.ref (fad E 0), .int q] (fPre E M L)) (fQi E (fun r u => u = ((a_X7_await M L q tc).2.1, (a_X7_await M L q tc).2.2) ∧ r = (a_X7_await M L q tc).1)) 0 0 (fA E) := by
  refine f_head (by decide) (Nat.le_of_ble_eq_true rfl) ?_
  intro pg ev s mi below meth cd ls X hr hlk hP hS hl
  have hx := X.1.1
  have hb := X.1.2.1
  have hl : lv_has ls 2 [(0, .ref (fad E 0)), (1, .int q)] := hl
  refine lv_iload_n hx hb dX7_await_0 rfl (lv_at hl 1 rfl) ?_
  refine lv_iconst (v := (-1)) hx hb dX7_await_1 (by decide) ?_
  refine lv_icmp_ne (tgt := 13) hx hb dX7_await_2 (by decide) (fun c_2 => ?_) (fun c_2 => ?_)
  · refine lv_iload_n hx hb dX7_await_13 rfl (lv_at hl 1 rfl) ?_
    refine f_iS (n := 1) X hP hS [.int q] [] (c_X7_isQuarter l E M L q) m_3_117 wi_X7_isQuarter (by decide +kernel) ⟨Nat.le_of_ble_eq_true rfl, Nat.le_of_ble_eq_true rfl⟩ rfl hl rfl (Nat.le_of_ble_eq_true rfl) ⟨Nat.zero_le _, Nat.zero_le _⟩ dX7_await_14 (fun H locs hP hS => ?_)
    refine lv_if_ne (tgt := 27) hx hb dX7_await_17 (by decide) (fun c_17 => ?_) (fun c_17 => ?_)
    · have c_17 := bI1 c_17
      refine lv_aload_n hx hb dX7_await_27 rfl (lv_at hl 0 rfl) ?_
      refine f_get X hP (T := TX7) (ci := 7) (k := 0) rfl inX7 rfl 1 (by decide) m_1_232 rfl (v := .ref (fad E 18)) rfl dX7_await_28 ?_
      refine lv_iload_n hx hb dX7_await_31 rfl (lv_at hl 1 rfl) ?_
      refine f_iV (n := 1) X hP hS [.int q] [] (c_X1_thingsIn l E M L 18 q tc rfl htc htc8) m_4_39 wi_X1_thingsIn rfl rfl (by decide) (by decide +kernel) ⟨Nat.le_of_ble_eq_true rfl, Nat.le_of_ble_eq_true rfl⟩ rfl hl rfl (Nat.le_of_ble_eq_true rfl) ⟨Nat.zero_le _, Nat.zero_le _⟩ dX7_await_32 (fun H locs hP hS => ?_)
      refine f_iS (n := 1) X hP hS [.int (inI (fun t => (M (18 + 4 + t) 1)) (fun t => (M (18 + 4 + t) 2)) q tc)] [] (c_J6_bitCount_0f7a4 l E M L (inI (fun t => (M (18 + 4 + t) 1)) (fun t => (M (18 + 4 + t) 2)) q tc)) m_3_226 wi_J6_bitCount_0f7a4 (by decide +kernel) ⟨Nat.le_of_ble_eq_true rfl, Nat.le_of_ble_eq_true rfl⟩ rfl hl rfl (Nat.le_of_ble_eq_true rfl) ⟨Nat.zero_le _, Nat.zero_le _⟩ dX7_await_35 (fun H locs hP hS => ?_)
      refine f_ir X hlk hr (v := (bitc (inI (fun t => (M (18 + 4 + t) 1)) (fun t => (M (18 + 4 + t) 2)) q tc))) rfl hP hS ?_ dX7_await_38
      unfold a_X7_await
      (first | rw [if_pos c_2] | rw [if_neg c_2] | rw [if_neg (Bool.eq_false_iff.mp c_2)] | skip)
      (first | rw [if_pos c_17] | rw [if_neg c_17] | rw [if_neg (Bool.eq_false_iff.mp c_17)] | skip)
      (try dsimp only)
      first
        | done
        | exact ⟨rfl, rfl⟩
        | rfl
        | (simp only [c_2, c_17, if_true, if_false, and_self, and_true, true_and, not_true_eq_false, not_false_eq_true, and_false, false_and, or_true, true_or, or_false, false_or, or_self, Bool.false_eq_true, reduceCtorEq, nl10, nl20, nl30, nl40, nl50, nl60, nl70, nl12, nl13, nl21, nl23, nl31, nl32]; first | done | exact ⟨rfl, rfl⟩ | rfl)
        | contradiction
        | (simp only [c_2, c_17, if_true, if_false, and_self, and_true, true_and, not_true_eq_false, not_false_eq_true, and_false, false_and, or_true, true_or, or_false, false_or, or_self, Bool.false_eq_true, reduceCtorEq, nl10, nl20, nl30, nl40, nl50, nl60, nl70, nl12, nl13, nl21, nl23, nl31, nl32]; contradiction)
        | (exfalso; simp_all; done)
        | simp_all
    · have c_17 := bI0 c_17
      refine lv_aload_n hx hb dX7_await_20 rfl (lv_at hl 0 rfl) ?_
      refine lv_bipush (v := (-6)) hx hb dX7_await_21 (by decide) ?_
      refine f_iV (n := 1) X hP hS [.int (-6)] [] (c_X7_refuse l E M L (-6)) m_2_29 wi_X7_refuse rfl rfl (by decide) (by decide +kernel) ⟨Nat.le_of_ble_eq_true rfl, Nat.le_of_ble_eq_true rfl⟩ rfl hl rfl (Nat.le_of_ble_eq_true rfl) ⟨Nat.zero_le _, Nat.zero_le _⟩ dX7_await_23 (fun H locs hP hS => ?_)
      refine f_ir X hlk hr (v := (-6)) rfl hP hS ?_ dX7_await_26
      unfold a_X7_await
      (first | rw [if_pos c_2] | rw [if_neg c_2] | rw [if_neg (Bool.eq_false_iff.mp c_2)] | skip)
      (first | rw [if_pos c_17] | rw [if_neg c_17] | rw [if_neg (Bool.eq_false_iff.mp c_17)] | skip)
      (try dsimp only)
      first
        | done
        | exact ⟨rfl, rfl⟩
        | rfl
        | (simp only [c_2, c_17, if_true, if_false, and_self, and_true, true_and, not_true_eq_false, not_false_eq_true, and_false, false_and, or_true, true_or, or_false, false_or, or_self, Bool.false_eq_true, reduceCtorEq, nl10, nl20, nl30, nl40, nl50, nl60, nl70, nl12, nl13, nl21, nl23, nl31, nl32]; first | done | exact ⟨rfl, rfl⟩ | rfl)
        | contradiction
        | (simp only [c_2, c_17, if_true, if_false, and_self, and_true, true_and, not_true_eq_false, not_false_eq_true, and_false, false_and, or_true, true_or, or_false, false_or, or_self, Bool.false_eq_true, reduceCtorEq, nl10, nl20, nl30, nl40, nl50, nl60, nl70, nl12, nl13, nl21, nl23, nl31, nl32]; contradiction)
        | (exfalso; simp_all; done)
        | simp_all
  · refine lv_aload_n hx hb dX7_await_5 rfl (lv_at hl 0 rfl) ?_
    refine f_get X hP (T := TX7) (ci := 7) (k := 0) rfl inX7 rfl 1 (by decide) m_1_232 rfl (v := .ref (fad E 18)) rfl dX7_await_6 ?_
    refine f_iV (n := 0) X hP hS [] [] (c_X1_fullestQuarter l E M L 18 tc rfl htc htc8) m_4_52 wi_X1_fullestQuarter rfl rfl (by decide) (by decide +kernel) ⟨Nat.le_of_ble_eq_true rfl, Nat.le_of_ble_eq_true rfl⟩ rfl hl rfl (Nat.le_of_ble_eq_true rfl) ⟨Nat.zero_le _, Nat.zero_le _⟩ dX7_await_9 (fun H locs hP hS => ?_)
    refine f_ir X hlk hr (v := ((bestI (fun q => bitc (inI (fun t => (M (18 + 4 + t) 1)) (fun t => (M (18 + 4 + t) 2)) (nI q) tc)) nI 0 24).2)) rfl hP hS ?_ dX7_await_12
    unfold a_X7_await
    (first | rw [if_pos c_2] | rw [if_neg c_2] | rw [if_neg (Bool.eq_false_iff.mp c_2)] | skip)
    (try dsimp only)
    first
      | done
      | exact ⟨rfl, rfl⟩
      | rfl
      | (simp only [c_2, if_true, if_false, and_self, and_true, true_and, not_true_eq_false, not_false_eq_true, and_false, false_and, or_true, true_or, or_false, false_or, or_self, Bool.false_eq_true, reduceCtorEq, nl10, nl20, nl30, nl40, nl50, nl60, nl70, nl12, nl13, nl21, nl23, nl31, nl32]; first | done | exact ⟨rfl, rfl⟩ | rfl)
      | contradiction
      | (simp only [c_2, if_true, if_false, and_self, and_true, true_and, not_true_eq_false, not_false_eq_true, and_false, false_and, or_true, true_or, or_false, false_or, or_self, Bool.false_eq_true, reduceCtorEq, nl10, nl20, nl30, nl40, nl50, nl60, nl70, nl12, nl13, nl21, nl23, nl31, nl32]; contradiction)
      | (exfalso; simp_all; done)
      | simp_all

def a_X7_seed (M : Nat → Nat → Int32) (L : Nat → Nat → Int64) (v : Int32) : fR := ((M 18 9), (up2 M 18 9 v), L)
set_option maxHeartbeats 1000000 in
set_option maxRecDepth 100000 in
theorem c_X7_seed (l : Launch) (E : fE) (M : Nat → Nat → Int32) (L : Nat → Nat → Int64) (v : Int32) : Met l yX7_seed (wl yX7_seed cX7_seed 3 (some .int)) (fRm 0 0) (va_Pc [.ref (fad E 0), .int v] (fPre E M L)) (fQi E (fun r u => u = ((a_X7_seed M L v).2.1, (a_X7_seed M L v).2.2) ∧ r = (a_X7_seed M L v).1)) 0 0 (fA E) := by
  refine f_head (by decide) (Nat.le_of_ble_eq_true rfl) ?_
  intro pg ev s mi below meth cd ls X hr hlk hP hS hl
  have hx := X.1.1
  have hb := X.1.2.1
  have hl : lv_has ls 3 [(0, .ref (fad E 0)), (1, .int v)] := hl
  refine lv_aload_n hx hb dX7_seed_0 rfl (lv_at hl 0 rfl) ?_
  refine f_get X hP (T := TX7) (ci := 7) (k := 0) rfl inX7 rfl 1 (by decide) m_1_232 rfl (v := .ref (fad E 18)) rfl dX7_seed_1 ?_
  refine f_get X hP (T := TX1) (ci := 1) (k := 18) rfl inX1 rfl 9 (by decide) m_1_131 rfl (v := .int (M 18 9)) rfl dX7_seed_4 ?_
  refine lv_istore_n (lv' := [(2, .int (M 18 9)), (0, .ref (fad E 0)), (1, .int v)]) hx hb dX7_seed_7 rfl hl (by decide) rfl (fun ls hl => ?_)
  refine lv_aload_n hx hb dX7_seed_8 rfl (lv_at hl 1 rfl) ?_
  refine f_get X hP (T := TX7) (ci := 7) (k := 0) rfl inX7 rfl 1 (by decide) m_1_232 rfl (v := .ref (fad E 18)) rfl dX7_seed_9 ?_
  refine lv_iload_n hx hb dX7_seed_12 rfl (lv_at hl 2 rfl) ?_
  refine f_put X hP hS (T := TX1) (ci := 1) (k := 18) rfl inX1 rfl tyX1 tyX1_ok nmX1 9 (by decide) m_1_131 ⟨rfl, rfl⟩ rfl (v := v) rfl rfl dX7_seed_13 (fun H locs hP hS => ?_)
  refine lv_iload_n hx hb dX7_seed_16 rfl (lv_at hl 0 rfl) ?_
  refine f_ir X hlk hr (v := (M 18 9)) rfl hP hS ?_ dX7_seed_17
  unfold a_X7_seed
  (try dsimp only)
  first
    | done
    | exact ⟨rfl, rfl⟩
    | rfl
    | (simp only [if_true, if_false, and_self, and_true, true_and, not_true_eq_false, not_false_eq_true, and_false, false_and, or_true, true_or, or_false, false_or, or_self, Bool.false_eq_true, reduceCtorEq, nl10, nl20, nl30, nl40, nl50, nl60, nl70, nl12, nl13, nl21, nl23, nl31, nl32]; first | done | exact ⟨rfl, rfl⟩ | rfl)
    | contradiction
    | (simp only [if_true, if_false, and_self, and_true, true_and, not_true_eq_false, not_false_eq_true, and_false, false_and, or_true, true_or, or_false, false_or, or_self, Bool.false_eq_true, reduceCtorEq, nl10, nl20, nl30, nl40, nl50, nl60, nl70, nl12, nl13, nl21, nl23, nl31, nl32]; contradiction)
    | (exfalso; simp_all; done)
    | simp_all

def a_X7_act (M : Nat → Nat → Int32) (L : Nat → Nat → Int64) (w : Int32) (mv : Int32) (x : Int32) : fR := (if (0 ≤ w ∧ w < (M 18 4) ∧ w < 6) then (if (0 ≤ mv ∧ mv ≤ 2) then (((runV (M (30 + w.toNatClampNeg) 0) (M (30 + w.toNatClampNeg) 2) (M (30 + w.toNatClampNeg) 1) 13 mv (M (30 + w.toNatClampNeg) 1) x (up2 M 83 1 0)).1), (runV (M (30 + w.toNatClampNeg) 0) (M (30 + w.toNatClampNeg) 2) (M (30 + w.toNatClampNeg) 1) 13 mv (M (30 + w.toNatClampNeg) 1) x (up2 M 83 1 0)).2, L) else (0, (up2 M 83 1 0), L)) else (0, (up2 M 83 1 0), L))
set_option maxHeartbeats 1000000 in
set_option maxRecDepth 100000 in
theorem c_X7_act (l : Launch) (E : fE) (M : Nat → Nat → Int32) (L : Nat → Nat → Int64) (w : Int32) (mv : Int32) (x : Int32) : Met l yX7_act (wl yX7_act cX7_act 4 (some .int)) (fRm 32 852) (va_Pc [.ref (fad E 0), .int w, .int mv, .int x] (fPre E M L)) (fQi E (fun r u => u = ((a_X7_act M L w mv x).2.1, (a_X7_act M L w mv x).2.2) ∧ r = (a_X7_act M L w mv x).1)) 0 0 (fA E) := by
  refine f_head (by decide) (Nat.le_of_ble_eq_true rfl) ?_
  intro pg ev s mi below meth cd ls X hr hlk hP hS hl
  have hx := X.1.1
  have hb := X.1.2.1
  have hl : lv_has ls 4 [(0, .ref (fad E 0)), (1, .int w), (2, .int mv), (3, .int x)] := hl
  refine lv_aload_n hx hb dX7_act_0 rfl (lv_at hl 0 rfl) ?_
  refine f_get X hP (T := TX7) (ci := 7) (k := 0) rfl inX7 rfl 5 (by decide) m_1_236 rfl (v := .ref (fad E 83)) rfl dX7_act_1 ?_
  refine f_vV (n := 0) X hP hS [] [] (c_X0_forget l E M L ) m_4_117 wi_X0_forget rfl rfl (by decide) (by decide +kernel) ⟨Nat.le_of_ble_eq_true rfl, Nat.le_of_ble_eq_true rfl⟩ rfl hl rfl (Nat.le_of_ble_eq_true rfl) ⟨Nat.zero_le _, Nat.zero_le _⟩ dX7_act_4 (fun H locs hP hS => ?_)
  refine lv_aload_n hx hb dX7_act_7 rfl (lv_at hl 0 rfl) ?_
  refine f_get X hP (T := TX7) (ci := 7) (k := 0) rfl inX7 rfl 1 (by decide) m_1_232 rfl (v := .ref (fad E 18)) rfl dX7_act_8 ?_
  refine lv_iload_n hx hb dX7_act_11 rfl (lv_at hl 1 rfl) ?_
  refine f_iV (n := 1) X hP hS [.int w] [] (c_X1_hasWaiter l E (up2 M 83 1 0) L 18 w rfl) m_2_89 wi_X1_hasWaiter rfl rfl (by decide) (by decide +kernel) ⟨Nat.le_of_ble_eq_true rfl, Nat.le_of_ble_eq_true rfl⟩ rfl hl rfl (Nat.le_of_ble_eq_true rfl) ⟨Nat.zero_le _, Nat.zero_le _⟩ dX7_act_12 (fun H locs hP hS => ?_)
  refine f_topI (v := (bI (decide (0 ≤ w ∧ w < (M 18 4) ∧ w < 6)))) (by rw [show ((up2 M 83 1 0) 18 4) = (M 18 4) from (up2_o _ _ (Or.inr (by decide)))] <;> rfl) ?_
  refine lv_if_eq (tgt := 27) hx hb dX7_act_15 (by decide) (fun c_15 => ?_) (fun c_15 => ?_)
  · have c_15 := bI0 c_15
    refine lv_iconst (v := 0) hx hb dX7_act_27 (by decide) ?_
    refine f_ir X hlk hr (v := 0) rfl hP hS ?_ dX7_act_28
    unfold a_X7_act
    (first | rw [if_pos c_15] | rw [if_neg c_15] | rw [if_neg (Bool.eq_false_iff.mp c_15)] | skip)
    (try dsimp only)
    first
      | done
      | exact ⟨rfl, rfl⟩
      | rfl
      | (simp only [c_15, if_true, if_false, and_self, and_true, true_and, not_true_eq_false, not_false_eq_true, and_false, false_and, or_true, true_or, or_false, false_or, or_self, Bool.false_eq_true, reduceCtorEq, nl10, nl20, nl30, nl40, nl50, nl60, nl70, nl12, nl13, nl21, nl23, nl31, nl32]; first | done | exact ⟨rfl, rfl⟩ | rfl)
      | contradiction
      | (simp only [c_15, if_true, if_false, and_self, and_true, true_and, not_true_eq_false, not_false_eq_true, and_false, false_and, or_true, true_or, or_false, false_or, or_self, Bool.false_eq_true, reduceCtorEq, nl10, nl20, nl30, nl40, nl50, nl60, nl70, nl12, nl13, nl21, nl23, nl31, nl32]; contradiction)
      | (exfalso; simp_all; done)
      | simp_all
  · have c_15 := bI1 c_15
    refine lv_iload_n hx hb dX7_act_18 rfl (lv_at hl 2 rfl) ?_
    refine lv_iconst (v := 0) hx hb dX7_act_19 (by decide) ?_
    refine lv_iconst (v := 2) hx hb dX7_act_20 (by decide) ?_
    refine f_iS (n := 3) X hP hS [.int mv, .int 0, .int 2] [] (c_X7_within l E (up2 M 83 1 0) L mv 0 2) m_2_26 wi_X7_within (by decide +kernel) ⟨Nat.le_of_ble_eq_true rfl, Nat.le_of_ble_eq_true rfl⟩ rfl hl rfl (Nat.le_of_ble_eq_true rfl) ⟨Nat.zero_le _, Nat.zero_le _⟩ dX7_act_21 (fun H locs hP hS => ?_)
    refine lv_if_ne (tgt := 29) hx hb dX7_act_24 (by decide) (fun c_24 => ?_) (fun c_24 => ?_)
    · have c_24 := bI1 c_24
      refine lv_aload_n hx hb dX7_act_29 rfl (lv_at hl 0 rfl) ?_
      refine f_get X hP (T := TX7) (ci := 7) (k := 0) rfl inX7 rfl 5 (by decide) m_1_236 rfl (v := .ref (fad E 83)) rfl dX7_act_30 ?_
      refine lv_aload_n hx hb dX7_act_33 rfl (lv_at hl 0 rfl) ?_
      refine f_get X hP (T := TX7) (ci := 7) (k := 0) rfl inX7 rfl 1 (by decide) m_1_232 rfl (v := .ref (fad E 18)) rfl dX7_act_34 ?_
      refine f_get X hP (T := TX1) (ci := 1) (k := 18) rfl inX1 rfl 1 (by decide) m_1_112 rfl (v := .ref (fad E 20)) rfl dX7_act_37 ?_
      refine lv_iload_n hx hb dX7_act_40 rfl (lv_at hl 1 rfl) ?_
      have hix_1 : fIx w 6 w.toNatClampNeg := by
        first
          | exact fIx_le 5 c_15.1 c_15.2 (by decide)
          | exact fIx_le 5 c_24.1 c_24.2 (by decide)
          | exact fIx_lt 6 c_15.1 c_15.2.2 (by decide)
          | exact fIx_lt 6 c_24.1 c_24.2.2 (by decide)
          | exact fIx_le 5 (rr0 c_15).1.1 (rr0 c_15).1.2 (by decide)
          | exact fIx_le 5 (rr0 c_24).1.1 (rr0 c_24).1.2 (by decide)
          | (refine fIx_lt 6 ?_ ?_ (by decide) <;> (simp only [Int32.lt_iff_toInt_lt, Int32.le_iff_toInt_le, Int32.not_lt, Int32.not_le, ← Int32.toInt_inj] at *; omega))
      have hlt_1 := hix_1.2.2
      refine f_aald X hP (t := 13) (d := 10) (n := 6) (r := w.toNatClampNeg) rfl rfl (.inr (.inr (.inl ⟨rfl, rfl⟩))) hix_1 (30 + w.toNatClampNeg) (by omega) dX7_act_41 ?_
      refine lv_iload_n hx hb dX7_act_42 rfl (lv_at hl 2 rfl) ?_
      refine lv_iload_n hx hb dX7_act_43 rfl (lv_at hl 3 rfl) ?_
      refine f_iV (n := 3) X hP hS [.ref (fad E (30 + w.toNatClampNeg)), .int mv, .int x] [] (c_X0_start l E (up2 M 83 1 0) L (30 + w.toNatClampNeg) mv x (sh_gw (g := 18) rfl (by omega))) m_4_121 wi_X0_start rfl rfl (by decide) (by decide +kernel) ⟨Nat.le_of_ble_eq_true rfl, Nat.le_of_ble_eq_true rfl⟩ rfl hl rfl (Nat.le_of_ble_eq_true rfl) ⟨Nat.zero_le _, Nat.zero_le _⟩ dX7_act_44 (fun H locs hP hS => ?_)
      have hP := fP_eq (show (runV (M (30 + w.toNatClampNeg) 0) (M (30 + w.toNatClampNeg) 2) (M (30 + w.toNatClampNeg) 1) 13 mv (M (30 + w.toNatClampNeg) 1) x (up2 M 83 1 0)).2 = (runV ((up2 M 83 1 0) (30 + w.toNatClampNeg) 0) ((up2 M 83 1 0) (30 + w.toNatClampNeg) 2) ((up2 M 83 1 0) (30 + w.toNatClampNeg) 1) 13 mv ((up2 M 83 1 0) (30 + w.toNatClampNeg) 1) x (up2 M 83 1 0)).2 from by rw [show ((up2 M 83 1 0) (30 + w.toNatClampNeg) 0) = (M (30 + w.toNatClampNeg) 0) from (up2_o _ _ (Or.inr (by decide))), show ((up2 M 83 1 0) (30 + w.toNatClampNeg) 2) = (M (30 + w.toNatClampNeg) 2) from (up2_o _ _ (Or.inr (by decide))), show ((up2 M 83 1 0) (30 + w.toNatClampNeg) 1) = (M (30 + w.toNatClampNeg) 1) from (up2_o _ _ (Or.inl (by omega)))]) hP
      refine f_topI (v := ((runV (M (30 + w.toNatClampNeg) 0) (M (30 + w.toNatClampNeg) 2) (M (30 + w.toNatClampNeg) 1) 13 mv (M (30 + w.toNatClampNeg) 1) x (up2 M 83 1 0)).1)) (by rw [show ((up2 M 83 1 0) (30 + w.toNatClampNeg) 0) = (M (30 + w.toNatClampNeg) 0) from (up2_o _ _ (Or.inr (by decide))), show ((up2 M 83 1 0) (30 + w.toNatClampNeg) 2) = (M (30 + w.toNatClampNeg) 2) from (up2_o _ _ (Or.inr (by decide))), show ((up2 M 83 1 0) (30 + w.toNatClampNeg) 1) = (M (30 + w.toNatClampNeg) 1) from (up2_o _ _ (Or.inl (by omega)))] <;> rfl) ?_
      refine f_ir X hlk hr (v := ((runV (M (30 + w.toNatClampNeg) 0) (M (30 + w.toNatClampNeg) 2) (M (30 + w.toNatClampNeg) 1) 13 mv (M (30 + w.toNatClampNeg) 1) x (up2 M 83 1 0)).1)) rfl hP hS ?_ dX7_act_47
      unfold a_X7_act
      (first | rw [if_pos c_15] | rw [if_neg c_15] | rw [if_neg (Bool.eq_false_iff.mp c_15)] | skip)
      (first | rw [if_pos c_24] | rw [if_neg c_24] | rw [if_neg (Bool.eq_false_iff.mp c_24)] | skip)
      (try dsimp only)
      first
        | done
        | exact ⟨rfl, rfl⟩
        | rfl
        | (simp only [c_15, c_24, if_true, if_false, and_self, and_true, true_and, not_true_eq_false, not_false_eq_true, and_false, false_and, or_true, true_or, or_false, false_or, or_self, Bool.false_eq_true, reduceCtorEq, nl10, nl20, nl30, nl40, nl50, nl60, nl70, nl12, nl13, nl21, nl23, nl31, nl32]; first | done | exact ⟨rfl, rfl⟩ | rfl)
        | contradiction
        | (simp only [c_15, c_24, if_true, if_false, and_self, and_true, true_and, not_true_eq_false, not_false_eq_true, and_false, false_and, or_true, true_or, or_false, false_or, or_self, Bool.false_eq_true, reduceCtorEq, nl10, nl20, nl30, nl40, nl50, nl60, nl70, nl12, nl13, nl21, nl23, nl31, nl32]; contradiction)
        | (exfalso; simp_all; done)
        | simp_all
    · have c_24 := bI0 c_24
      refine lv_iconst (v := 0) hx hb dX7_act_27 (by decide) ?_
      refine f_ir X hlk hr (v := 0) rfl hP hS ?_ dX7_act_28
      unfold a_X7_act
      (first | rw [if_pos c_15] | rw [if_neg c_15] | rw [if_neg (Bool.eq_false_iff.mp c_15)] | skip)
      (first | rw [if_pos c_24] | rw [if_neg c_24] | rw [if_neg (Bool.eq_false_iff.mp c_24)] | skip)
      (try dsimp only)
      first
        | done
        | exact ⟨rfl, rfl⟩
        | rfl
        | (simp only [c_15, c_24, if_true, if_false, and_self, and_true, true_and, not_true_eq_false, not_false_eq_true, and_false, false_and, or_true, true_or, or_false, false_or, or_self, Bool.false_eq_true, reduceCtorEq, nl10, nl20, nl30, nl40, nl50, nl60, nl70, nl12, nl13, nl21, nl23, nl31, nl32]; first | done | exact ⟨rfl, rfl⟩ | rfl)
        | contradiction
        | (simp only [c_15, c_24, if_true, if_false, and_self, and_true, true_and, not_true_eq_false, not_false_eq_true, and_false, false_and, or_true, true_or, or_false, false_or, or_self, Bool.false_eq_true, reduceCtorEq, nl10, nl20, nl30, nl40, nl50, nl60, nl70, nl12, nl13, nl21, nl23, nl31, nl32]; contradiction)
        | (exfalso; simp_all; done)
        | simp_all

def a_X7_trace (M : Nat → Nat → Int32) (L : Nat → Nat → Int64) (i : Int32) : fR := ((if 0 ≤ i ∧ i < (M 83 1) ∧ i < 20 then (M 84 i.toNatClampNeg) else -1), M, L)
set_option maxHeartbeats 1000000 in
set_option maxRecDepth 100000 in
theorem c_X7_trace (l : Launch) (E : fE) (M : Nat → Nat → Int32) (L : Nat → Nat → Int64) (i : Int32) : Met l yX7_trace (wl yX7_trace cX7_trace 2 (some .int)) (fRm 1 21) (va_Pc [.ref (fad E 0), .int i] (fPre E M L)) (fQi E (fun r u => u = ((a_X7_trace M L i).2.1, (a_X7_trace M L i).2.2) ∧ r = (a_X7_trace M L i).1)) 0 0 (fA E) := by
  refine f_head (by decide) (Nat.le_of_ble_eq_true rfl) ?_
  intro pg ev s mi below meth cd ls X hr hlk hP hS hl
  have hx := X.1.1
  have hb := X.1.2.1
  have hl : lv_has ls 2 [(0, .ref (fad E 0)), (1, .int i)] := hl
  refine lv_aload_n hx hb dX7_trace_0 rfl (lv_at hl 0 rfl) ?_
  refine f_get X hP (T := TX7) (ci := 7) (k := 0) rfl inX7 rfl 5 (by decide) m_1_236 rfl (v := .ref (fad E 83)) rfl dX7_trace_1 ?_
  refine lv_iload_n hx hb dX7_trace_4 rfl (lv_at hl 1 rfl) ?_
  refine f_iV (n := 1) X hP hS [.int i] [] (c_X0_tell l E M L i) m_4_152 wi_X0_tell rfl rfl (by decide) (by decide +kernel) ⟨Nat.le_of_ble_eq_true rfl, Nat.le_of_ble_eq_true rfl⟩ rfl hl rfl (Nat.le_of_ble_eq_true rfl) ⟨Nat.zero_le _, Nat.zero_le _⟩ dX7_trace_5 (fun H locs hP hS => ?_)
  refine f_ir X hlk hr (v := (if 0 ≤ i ∧ i < (M 83 1) ∧ i < 20 then (M 84 i.toNatClampNeg) else -1)) rfl hP hS ?_ dX7_trace_8
  unfold a_X7_trace
  (try dsimp only)
  first
    | done
    | exact ⟨rfl, rfl⟩
    | rfl
    | (simp only [if_true, if_false, and_self, and_true, true_and, not_true_eq_false, not_false_eq_true, and_false, false_and, or_true, true_or, or_false, false_or, or_self, Bool.false_eq_true, reduceCtorEq, nl10, nl20, nl30, nl40, nl50, nl60, nl70, nl12, nl13, nl21, nl23, nl31, nl32]; first | done | exact ⟨rfl, rfl⟩ | rfl)
    | contradiction
    | (simp only [if_true, if_false, and_self, and_true, true_and, not_true_eq_false, not_false_eq_true, and_false, false_and, or_true, true_or, or_false, false_or, or_self, Bool.false_eq_true, reduceCtorEq, nl10, nl20, nl30, nl40, nl50, nl60, nl70, nl12, nl13, nl21, nl23, nl31, nl32]; contradiction)
    | (exfalso; simp_all; done)
    | simp_all

def a_X7_image (M : Nat → Nat → Int32) (L : Nat → Nat → Int64) : fR := (((cpG M 36 18) 18 4), (up2 (cpG M 36 18) 0 7 1), L)
set_option maxHeartbeats 1000000 in
set_option maxRecDepth 100000 in
theorem c_X7_image (l : Launch) (E : fE) (M : Nat → Nat → Int32) (L : Nat → Nat → Int64) : Met l yX7_image (wl yX7_image cX7_image 1 (some .int)) (fRm 2 43) (va_Pc [.ref (fad E 0)] (fPre E M L)) (fQi E (fun r u => u = ((a_X7_image M L).2.1, (a_X7_image M L).2.2) ∧ r = (a_X7_image M L).1)) 0 0 (fA E) := by
  refine f_head (by decide) (Nat.le_of_ble_eq_true rfl) ?_
  intro pg ev s mi below meth cd ls X hr hlk hP hS hl
  have hx := X.1.1
  have hb := X.1.2.1
  have hl : lv_has ls 1 [(0, .ref (fad E 0))] := hl
  refine lv_aload_n hx hb dX7_image_0 rfl (lv_at hl 0 rfl) ?_
  refine f_get X hP (T := TX7) (ci := 7) (k := 0) rfl inX7 rfl 2 (by decide) m_1_233 rfl (v := .ref (fad E 36)) rfl dX7_image_1 ?_
  refine lv_aload_n hx hb dX7_image_4 rfl (lv_at hl 0 rfl) ?_
  refine f_get X hP (T := TX7) (ci := 7) (k := 0) rfl inX7 rfl 1 (by decide) m_1_232 rfl (v := .ref (fad E 18)) rfl dX7_image_5 ?_
  refine f_vV (n := 1) X hP hS [.ref (fad E 18)] [] (c_X1_become l E M L 36 18 rfl rfl (by omega)) m_3_107 wi_X1_become rfl rfl (by decide) (by decide +kernel) ⟨Nat.le_of_ble_eq_true rfl, Nat.le_of_ble_eq_true rfl⟩ rfl hl rfl (Nat.le_of_ble_eq_true rfl) ⟨Nat.zero_le _, Nat.zero_le _⟩ dX7_image_8 (fun H locs hP hS => ?_)
  refine lv_aload_n hx hb dX7_image_11 rfl (lv_at hl 0 rfl) ?_
  refine lv_iconst (v := 1) hx hb dX7_image_12 (by decide) ?_
  refine f_put X hP hS (T := TX7) (ci := 7) (k := 0) rfl inX7 rfl tyX7 tyX7_ok nmX7 7 (by decide) m_1_238 ⟨rfl, rfl⟩ rfl (v := 1) rfl rfl dX7_image_13 (fun H locs hP hS => ?_)
  refine lv_aload_n hx hb dX7_image_16 rfl (lv_at hl 0 rfl) ?_
  refine f_get X hP (T := TX7) (ci := 7) (k := 0) rfl inX7 rfl 1 (by decide) m_1_232 rfl (v := .ref (fad E 18)) rfl dX7_image_17 ?_
  refine f_get X hP (T := TX1) (ci := 1) (k := 18) rfl inX1 rfl 4 (by decide) m_1_119 rfl (v := .int ((cpG M 36 18) 18 4)) (congrArg Value.int (up2_o _ _ (Or.inr (by decide)))) dX7_image_20 ?_
  refine f_ir X hlk hr (v := ((cpG M 36 18) 18 4)) rfl hP hS ?_ dX7_image_23
  unfold a_X7_image
  (try dsimp only)
  first
    | done
    | exact ⟨rfl, rfl⟩
    | rfl
    | (simp only [if_true, if_false, and_self, and_true, true_and, not_true_eq_false, not_false_eq_true, and_false, false_and, or_true, true_or, or_false, false_or, or_self, Bool.false_eq_true, reduceCtorEq, nl10, nl20, nl30, nl40, nl50, nl60, nl70, nl12, nl13, nl21, nl23, nl31, nl32]; first | done | exact ⟨rfl, rfl⟩ | rfl)
    | contradiction
    | (simp only [if_true, if_false, and_self, and_true, true_and, not_true_eq_false, not_false_eq_true, and_false, false_and, or_true, true_or, or_false, false_or, or_self, Bool.false_eq_true, reduceCtorEq, nl10, nl20, nl30, nl40, nl50, nl60, nl70, nl12, nl13, nl21, nl23, nl31, nl32]; contradiction)
    | (exfalso; simp_all; done)
    | simp_all

def a_X7_status (M : Nat → Nat → Int32) (L : Nat → Nat → Int64) (what : Int32) : fR := (if (11 ≤ what ∧ what ≤ 17) then ((M 85 ((what - 10).toNatClampNeg)), M, L) else (if what = 0 then ((M 18 4), M, L) else (if what = 1 then ((M 18 3), M, L) else (if what = 2 then ((M 18 5), M, L) else (if what = 3 then ((M 18 6), M, L) else (if what = 4 then ((M 18 7), M, L) else (if what = 5 then ((M 18 8), M, L) else (if what = 6 then ((M 18 9), M, L) else (if what = 7 then ((M 83 1), M, L) else ((-1), M, L))))))))))
set_option maxHeartbeats 1000000 in
set_option maxRecDepth 100000 in
theorem c_X7_status (l : Launch) (E : fE) (M : Nat → Nat → Int32) (L : Nat → Nat → Int64) (what : Int32) : Met l yX7_status (wl yX7_status cX7_status 2 (some .int)) (fRm 1 22) (va_Pc [.ref (fad E 0), .int what] (fPre E M L)) (fQi E (fun r u => u = ((a_X7_status M L what).2.1, (a_X7_status M L what).2.2) ∧ r = (a_X7_status M L what).1)) 0 0 (fA E) := by
  refine f_head (by decide) (Nat.le_of_ble_eq_true rfl) ?_
  intro pg ev s mi below meth cd ls X hr hlk hP hS hl
  have hx := X.1.1
  have hb := X.1.2.1
  have hl : lv_has ls 2 [(0, .ref (fad E 0)), (1, .int what)] := hl
  refine lv_iload_n hx hb dX7_status_0 rfl (lv_at hl 1 rfl) ?_
  refine lv_bipush (v := 11) hx hb dX7_status_1 (by decide) ?_
  refine lv_bipush (v := 17) hx hb dX7_status_3 (by decide) ?_
  refine f_iS (n := 3) X hP hS [.int what, .int 11, .int 17] [] (c_X7_within l E M L what 11 17) m_2_26 wi_X7_within (by decide +kernel) ⟨Nat.le_of_ble_eq_true rfl, Nat.le_of_ble_eq_true rfl⟩ rfl hl rfl (Nat.le_of_ble_eq_true rfl) ⟨Nat.zero_le _, Nat.zero_le _⟩ dX7_status_5 (fun H locs hP hS => ?_)
  refine lv_if_eq (tgt := 21) hx hb dX7_status_8 (by decide) (fun c_8 => ?_) (fun c_8 => ?_)
  · have c_8 := bI0 c_8
    refine lv_iload_n hx hb dX7_status_21 rfl (lv_at hl 1 rfl) ?_
    by_cases s_22_0 : what = 0
    · refine lv_tableIn (tgt := 68) hx hb dX7_status_22 (by rw [s_22_0]; decide) (by rw [s_22_0]; decide) (by rw [s_22_0]; rfl) (by decide) ?_
      refine lv_aload_n hx hb dX7_status_68 rfl (lv_at hl 0 rfl) ?_
      refine f_get X hP (T := TX7) (ci := 7) (k := 0) rfl inX7 rfl 1 (by decide) m_1_232 rfl (v := .ref (fad E 18)) rfl dX7_status_69 ?_
      refine f_get X hP (T := TX1) (ci := 1) (k := 18) rfl inX1 rfl 4 (by decide) m_1_119 rfl (v := .int (M 18 4)) rfl dX7_status_72 ?_
      refine f_ir X hlk hr (v := (M 18 4)) rfl hP hS ?_ dX7_status_75
      unfold a_X7_status
      (first | rw [if_pos c_8] | rw [if_neg c_8] | rw [if_neg (Bool.eq_false_iff.mp c_8)] | skip)
      (first | rw [if_pos s_22_0] | rw [if_neg s_22_0] | rw [if_neg (Bool.eq_false_iff.mp s_22_0)] | skip)
      (try dsimp only)
      first
        | done
        | exact ⟨rfl, rfl⟩
        | rfl
        | (simp only [c_8, s_22_0, if_true, if_false, and_self, and_true, true_and, not_true_eq_false, not_false_eq_true, and_false, false_and, or_true, true_or, or_false, false_or, or_self, Bool.false_eq_true, reduceCtorEq, nl10, nl20, nl30, nl40, nl50, nl60, nl70, nl12, nl13, nl21, nl23, nl31, nl32]; first | done | exact ⟨rfl, rfl⟩ | rfl)
        | contradiction
        | (simp only [c_8, s_22_0, if_true, if_false, and_self, and_true, true_and, not_true_eq_false, not_false_eq_true, and_false, false_and, or_true, true_or, or_false, false_or, or_self, Bool.false_eq_true, reduceCtorEq, nl10, nl20, nl30, nl40, nl50, nl60, nl70, nl12, nl13, nl21, nl23, nl31, nl32]; contradiction)
        | (exfalso; simp_all; done)
        | simp_all
    by_cases s_22_1 : what = 1
    · refine lv_tableIn (tgt := 76) hx hb dX7_status_22 (by rw [s_22_1]; decide) (by rw [s_22_1]; decide) (by rw [s_22_1]; rfl) (by decide) ?_
      refine lv_aload_n hx hb dX7_status_76 rfl (lv_at hl 0 rfl) ?_
      refine f_get X hP (T := TX7) (ci := 7) (k := 0) rfl inX7 rfl 1 (by decide) m_1_232 rfl (v := .ref (fad E 18)) rfl dX7_status_77 ?_
      refine f_get X hP (T := TX1) (ci := 1) (k := 18) rfl inX1 rfl 3 (by decide) m_1_115 rfl (v := .int (M 18 3)) rfl dX7_status_80 ?_
      refine f_ir X hlk hr (v := (M 18 3)) rfl hP hS ?_ dX7_status_83
      unfold a_X7_status
      (first | rw [if_pos c_8] | rw [if_neg c_8] | rw [if_neg (Bool.eq_false_iff.mp c_8)] | skip)
      (first | rw [if_pos s_22_0] | rw [if_neg s_22_0] | rw [if_neg (Bool.eq_false_iff.mp s_22_0)] | skip)
      (first | rw [if_pos s_22_1] | rw [if_neg s_22_1] | rw [if_neg (Bool.eq_false_iff.mp s_22_1)] | skip)
      (try dsimp only)
      first
        | done
        | exact ⟨rfl, rfl⟩
        | rfl
        | (simp only [c_8, s_22_0, s_22_1, if_true, if_false, and_self, and_true, true_and, not_true_eq_false, not_false_eq_true, and_false, false_and, or_true, true_or, or_false, false_or, or_self, Bool.false_eq_true, reduceCtorEq, nl10, nl20, nl30, nl40, nl50, nl60, nl70, nl12, nl13, nl21, nl23, nl31, nl32]; first | done | exact ⟨rfl, rfl⟩ | rfl)
        | contradiction
        | (simp only [c_8, s_22_0, s_22_1, if_true, if_false, and_self, and_true, true_and, not_true_eq_false, not_false_eq_true, and_false, false_and, or_true, true_or, or_false, false_or, or_self, Bool.false_eq_true, reduceCtorEq, nl10, nl20, nl30, nl40, nl50, nl60, nl70, nl12, nl13, nl21, nl23, nl31, nl32]; contradiction)
        | (exfalso; simp_all; done)
        | simp_all
    by_cases s_22_2 : what = 2
    · refine lv_tableIn (tgt := 84) hx hb dX7_status_22 (by rw [s_22_2]; decide) (by rw [s_22_2]; decide) (by rw [s_22_2]; rfl) (by decide) ?_
      refine lv_aload_n hx hb dX7_status_84 rfl (lv_at hl 0 rfl) ?_
      refine f_get X hP (T := TX7) (ci := 7) (k := 0) rfl inX7 rfl 1 (by decide) m_1_232 rfl (v := .ref (fad E 18)) rfl dX7_status_85 ?_
      refine f_get X hP (T := TX1) (ci := 1) (k := 18) rfl inX1 rfl 5 (by decide) m_1_123 rfl (v := .int (M 18 5)) rfl dX7_status_88 ?_
      refine f_ir X hlk hr (v := (M 18 5)) rfl hP hS ?_ dX7_status_91
      unfold a_X7_status
      (first | rw [if_pos c_8] | rw [if_neg c_8] | rw [if_neg (Bool.eq_false_iff.mp c_8)] | skip)
      (first | rw [if_pos s_22_0] | rw [if_neg s_22_0] | rw [if_neg (Bool.eq_false_iff.mp s_22_0)] | skip)
      (first | rw [if_pos s_22_1] | rw [if_neg s_22_1] | rw [if_neg (Bool.eq_false_iff.mp s_22_1)] | skip)
      (first | rw [if_pos s_22_2] | rw [if_neg s_22_2] | rw [if_neg (Bool.eq_false_iff.mp s_22_2)] | skip)
      (try dsimp only)
      first
        | done
        | exact ⟨rfl, rfl⟩
        | rfl
        | (simp only [c_8, s_22_0, s_22_1, s_22_2, if_true, if_false, and_self, and_true, true_and, not_true_eq_false, not_false_eq_true, and_false, false_and, or_true, true_or, or_false, false_or, or_self, Bool.false_eq_true, reduceCtorEq, nl10, nl20, nl30, nl40, nl50, nl60, nl70, nl12, nl13, nl21, nl23, nl31, nl32]; first | done | exact ⟨rfl, rfl⟩ | rfl)
        | contradiction
        | (simp only [c_8, s_22_0, s_22_1, s_22_2, if_true, if_false, and_self, and_true, true_and, not_true_eq_false, not_false_eq_true, and_false, false_and, or_true, true_or, or_false, false_or, or_self, Bool.false_eq_true, reduceCtorEq, nl10, nl20, nl30, nl40, nl50, nl60, nl70, nl12, nl13, nl21, nl23, nl31, nl32]; contradiction)
        | (exfalso; simp_all; done)
        | simp_all
    by_cases s_22_3 : what = 3
    · refine lv_tableIn (tgt := 92) hx hb dX7_status_22 (by rw [s_22_3]; decide) (by rw [s_22_3]; decide) (by rw [s_22_3]; rfl) (by decide) ?_
      refine lv_aload_n hx hb dX7_status_92 rfl (lv_at hl 0 rfl) ?_
      refine f_get X hP (T := TX7) (ci := 7) (k := 0) rfl inX7 rfl 1 (by decide) m_1_232 rfl (v := .ref (fad E 18)) rfl dX7_status_93 ?_
      refine f_get X hP (T := TX1) (ci := 1) (k := 18) rfl inX1 rfl 6 (by decide) m_1_125 rfl (v := .int (M 18 6)) rfl dX7_status_96 ?_
      refine f_ir X hlk hr (v := (M 18 6)) rfl hP hS ?_ dX7_status_99
      unfold a_X7_status
      (first | rw [if_pos c_8] | rw [if_neg c_8] | rw [if_neg (Bool.eq_false_iff.mp c_8)] | skip)
      (first | rw [if_pos s_22_0] | rw [if_neg s_22_0] | rw [if_neg (Bool.eq_false_iff.mp s_22_0)] | skip)
      (first | rw [if_pos s_22_1] | rw [if_neg s_22_1] | rw [if_neg (Bool.eq_false_iff.mp s_22_1)] | skip)
      (first | rw [if_pos s_22_2] | rw [if_neg s_22_2] | rw [if_neg (Bool.eq_false_iff.mp s_22_2)] | skip)
      (first | rw [if_pos s_22_3] | rw [if_neg s_22_3] | rw [if_neg (Bool.eq_false_iff.mp s_22_3)] | skip)
      (try dsimp only)
      first
        | done
        | exact ⟨rfl, rfl⟩
        | rfl
        | (simp only [c_8, s_22_0, s_22_1, s_22_2, s_22_3, if_true, if_false, and_self, and_true, true_and, not_true_eq_false, not_false_eq_true, and_false, false_and, or_true, true_or, or_false, false_or, or_self, Bool.false_eq_true, reduceCtorEq, nl10, nl20, nl30, nl40, nl50, nl60, nl70, nl12, nl13, nl21, nl23, nl31, nl32]; first | done | exact ⟨rfl, rfl⟩ | rfl)
        | contradiction
        | (simp only [c_8, s_22_0, s_22_1, s_22_2, s_22_3, if_true, if_false, and_self, and_true, true_and, not_true_eq_false, not_false_eq_true, and_false, false_and, or_true, true_or, or_false, false_or, or_self, Bool.false_eq_true, reduceCtorEq, nl10, nl20, nl30, nl40, nl50, nl60, nl70, nl12, nl13, nl21, nl23, nl31, nl32]; contradiction)
        | (exfalso; simp_all; done)
        | simp_all
    by_cases s_22_4 : what = 4
    · refine lv_tableIn (tgt := 100) hx hb dX7_status_22 (by rw [s_22_4]; decide) (by rw [s_22_4]; decide) (by rw [s_22_4]; rfl) (by decide) ?_
      refine lv_aload_n hx hb dX7_status_100 rfl (lv_at hl 0 rfl) ?_
      refine f_get X hP (T := TX7) (ci := 7) (k := 0) rfl inX7 rfl 1 (by decide) m_1_232 rfl (v := .ref (fad E 18)) rfl dX7_status_101 ?_
      refine f_get X hP (T := TX1) (ci := 1) (k := 18) rfl inX1 rfl 7 (by decide) m_1_127 rfl (v := .int (M 18 7)) rfl dX7_status_104 ?_
      refine f_ir X hlk hr (v := (M 18 7)) rfl hP hS ?_ dX7_status_107
      unfold a_X7_status
      (first | rw [if_pos c_8] | rw [if_neg c_8] | rw [if_neg (Bool.eq_false_iff.mp c_8)] | skip)
      (first | rw [if_pos s_22_0] | rw [if_neg s_22_0] | rw [if_neg (Bool.eq_false_iff.mp s_22_0)] | skip)
      (first | rw [if_pos s_22_1] | rw [if_neg s_22_1] | rw [if_neg (Bool.eq_false_iff.mp s_22_1)] | skip)
      (first | rw [if_pos s_22_2] | rw [if_neg s_22_2] | rw [if_neg (Bool.eq_false_iff.mp s_22_2)] | skip)
      (first | rw [if_pos s_22_3] | rw [if_neg s_22_3] | rw [if_neg (Bool.eq_false_iff.mp s_22_3)] | skip)
      (first | rw [if_pos s_22_4] | rw [if_neg s_22_4] | rw [if_neg (Bool.eq_false_iff.mp s_22_4)] | skip)
      (try dsimp only)
      first
        | done
        | exact ⟨rfl, rfl⟩
        | rfl
        | (simp only [c_8, s_22_0, s_22_1, s_22_2, s_22_3, s_22_4, if_true, if_false, and_self, and_true, true_and, not_true_eq_false, not_false_eq_true, and_false, false_and, or_true, true_or, or_false, false_or, or_self, Bool.false_eq_true, reduceCtorEq, nl10, nl20, nl30, nl40, nl50, nl60, nl70, nl12, nl13, nl21, nl23, nl31, nl32]; first | done | exact ⟨rfl, rfl⟩ | rfl)
        | contradiction
        | (simp only [c_8, s_22_0, s_22_1, s_22_2, s_22_3, s_22_4, if_true, if_false, and_self, and_true, true_and, not_true_eq_false, not_false_eq_true, and_false, false_and, or_true, true_or, or_false, false_or, or_self, Bool.false_eq_true, reduceCtorEq, nl10, nl20, nl30, nl40, nl50, nl60, nl70, nl12, nl13, nl21, nl23, nl31, nl32]; contradiction)
        | (exfalso; simp_all; done)
        | simp_all
    by_cases s_22_5 : what = 5
    · refine lv_tableIn (tgt := 108) hx hb dX7_status_22 (by rw [s_22_5]; decide) (by rw [s_22_5]; decide) (by rw [s_22_5]; rfl) (by decide) ?_
      refine lv_aload_n hx hb dX7_status_108 rfl (lv_at hl 0 rfl) ?_
      refine f_get X hP (T := TX7) (ci := 7) (k := 0) rfl inX7 rfl 1 (by decide) m_1_232 rfl (v := .ref (fad E 18)) rfl dX7_status_109 ?_
      refine f_get X hP (T := TX1) (ci := 1) (k := 18) rfl inX1 rfl 8 (by decide) m_1_129 rfl (v := .int (M 18 8)) rfl dX7_status_112 ?_
      refine f_ir X hlk hr (v := (M 18 8)) rfl hP hS ?_ dX7_status_115
      unfold a_X7_status
      (first | rw [if_pos c_8] | rw [if_neg c_8] | rw [if_neg (Bool.eq_false_iff.mp c_8)] | skip)
      (first | rw [if_pos s_22_0] | rw [if_neg s_22_0] | rw [if_neg (Bool.eq_false_iff.mp s_22_0)] | skip)
      (first | rw [if_pos s_22_1] | rw [if_neg s_22_1] | rw [if_neg (Bool.eq_false_iff.mp s_22_1)] | skip)
      (first | rw [if_pos s_22_2] | rw [if_neg s_22_2] | rw [if_neg (Bool.eq_false_iff.mp s_22_2)] | skip)
      (first | rw [if_pos s_22_3] | rw [if_neg s_22_3] | rw [if_neg (Bool.eq_false_iff.mp s_22_3)] | skip)
      (first | rw [if_pos s_22_4] | rw [if_neg s_22_4] | rw [if_neg (Bool.eq_false_iff.mp s_22_4)] | skip)
      (first | rw [if_pos s_22_5] | rw [if_neg s_22_5] | rw [if_neg (Bool.eq_false_iff.mp s_22_5)] | skip)
      (try dsimp only)
      first
        | done
        | exact ⟨rfl, rfl⟩
        | rfl
        | (simp only [c_8, s_22_0, s_22_1, s_22_2, s_22_3, s_22_4, s_22_5, if_true, if_false, and_self, and_true, true_and, not_true_eq_false, not_false_eq_true, and_false, false_and, or_true, true_or, or_false, false_or, or_self, Bool.false_eq_true, reduceCtorEq, nl10, nl20, nl30, nl40, nl50, nl60, nl70, nl12, nl13, nl21, nl23, nl31, nl32]; first | done | exact ⟨rfl, rfl⟩ | rfl)
        | contradiction
        | (simp only [c_8, s_22_0, s_22_1, s_22_2, s_22_3, s_22_4, s_22_5, if_true, if_false, and_self, and_true, true_and, not_true_eq_false, not_false_eq_true, and_false, false_and, or_true, true_or, or_false, false_or, or_self, Bool.false_eq_true, reduceCtorEq, nl10, nl20, nl30, nl40, nl50, nl60, nl70, nl12, nl13, nl21, nl23, nl31, nl32]; contradiction)
        | (exfalso; simp_all; done)
        | simp_all
    by_cases s_22_6 : what = 6
    · refine lv_tableIn (tgt := 116) hx hb dX7_status_22 (by rw [s_22_6]; decide) (by rw [s_22_6]; decide) (by rw [s_22_6]; rfl) (by decide) ?_
      refine lv_aload_n hx hb dX7_status_116 rfl (lv_at hl 0 rfl) ?_
      refine f_get X hP (T := TX7) (ci := 7) (k := 0) rfl inX7 rfl 1 (by decide) m_1_232 rfl (v := .ref (fad E 18)) rfl dX7_status_117 ?_
      refine f_get X hP (T := TX1) (ci := 1) (k := 18) rfl inX1 rfl 9 (by decide) m_1_131 rfl (v := .int (M 18 9)) rfl dX7_status_120 ?_
      refine f_ir X hlk hr (v := (M 18 9)) rfl hP hS ?_ dX7_status_123
      unfold a_X7_status
      (first | rw [if_pos c_8] | rw [if_neg c_8] | rw [if_neg (Bool.eq_false_iff.mp c_8)] | skip)
      (first | rw [if_pos s_22_0] | rw [if_neg s_22_0] | rw [if_neg (Bool.eq_false_iff.mp s_22_0)] | skip)
      (first | rw [if_pos s_22_1] | rw [if_neg s_22_1] | rw [if_neg (Bool.eq_false_iff.mp s_22_1)] | skip)
      (first | rw [if_pos s_22_2] | rw [if_neg s_22_2] | rw [if_neg (Bool.eq_false_iff.mp s_22_2)] | skip)
      (first | rw [if_pos s_22_3] | rw [if_neg s_22_3] | rw [if_neg (Bool.eq_false_iff.mp s_22_3)] | skip)
      (first | rw [if_pos s_22_4] | rw [if_neg s_22_4] | rw [if_neg (Bool.eq_false_iff.mp s_22_4)] | skip)
      (first | rw [if_pos s_22_5] | rw [if_neg s_22_5] | rw [if_neg (Bool.eq_false_iff.mp s_22_5)] | skip)
      (first | rw [if_pos s_22_6] | rw [if_neg s_22_6] | rw [if_neg (Bool.eq_false_iff.mp s_22_6)] | skip)
      (try dsimp only)
      first
        | done
        | exact ⟨rfl, rfl⟩
        | rfl
        | (simp only [c_8, s_22_0, s_22_1, s_22_2, s_22_3, s_22_4, s_22_5, s_22_6, if_true, if_false, and_self, and_true, true_and, not_true_eq_false, not_false_eq_true, and_false, false_and, or_true, true_or, or_false, false_or, or_self, Bool.false_eq_true, reduceCtorEq, nl10, nl20, nl30, nl40, nl50, nl60, nl70, nl12, nl13, nl21, nl23, nl31, nl32]; first | done | exact ⟨rfl, rfl⟩ | rfl)
        | contradiction
        | (simp only [c_8, s_22_0, s_22_1, s_22_2, s_22_3, s_22_4, s_22_5, s_22_6, if_true, if_false, and_self, and_true, true_and, not_true_eq_false, not_false_eq_true, and_false, false_and, or_true, true_or, or_false, false_or, or_self, Bool.false_eq_true, reduceCtorEq, nl10, nl20, nl30, nl40, nl50, nl60, nl70, nl12, nl13, nl21, nl23, nl31, nl32]; contradiction)
        | (exfalso; simp_all; done)
        | simp_all
    by_cases s_22_7 : what = 7
    · refine lv_tableIn (tgt := 124) hx hb dX7_status_22 (by rw [s_22_7]; decide) (by rw [s_22_7]; decide) (by rw [s_22_7]; rfl) (by decide) ?_
      refine lv_aload_n hx hb dX7_status_124 rfl (lv_at hl 0 rfl) ?_
      refine f_get X hP (T := TX7) (ci := 7) (k := 0) rfl inX7 rfl 5 (by decide) m_1_236 rfl (v := .ref (fad E 83)) rfl dX7_status_125 ?_
      refine f_get X hP (T := TX0) (ci := 0) (k := 83) rfl inX0 rfl 1 (by decide) m_1_205 rfl (v := .int (M 83 1)) rfl dX7_status_128 ?_
      refine f_ir X hlk hr (v := (M 83 1)) rfl hP hS ?_ dX7_status_131
      unfold a_X7_status
      (first | rw [if_pos c_8] | rw [if_neg c_8] | rw [if_neg (Bool.eq_false_iff.mp c_8)] | skip)
      (first | rw [if_pos s_22_0] | rw [if_neg s_22_0] | rw [if_neg (Bool.eq_false_iff.mp s_22_0)] | skip)
      (first | rw [if_pos s_22_1] | rw [if_neg s_22_1] | rw [if_neg (Bool.eq_false_iff.mp s_22_1)] | skip)
      (first | rw [if_pos s_22_2] | rw [if_neg s_22_2] | rw [if_neg (Bool.eq_false_iff.mp s_22_2)] | skip)
      (first | rw [if_pos s_22_3] | rw [if_neg s_22_3] | rw [if_neg (Bool.eq_false_iff.mp s_22_3)] | skip)
      (first | rw [if_pos s_22_4] | rw [if_neg s_22_4] | rw [if_neg (Bool.eq_false_iff.mp s_22_4)] | skip)
      (first | rw [if_pos s_22_5] | rw [if_neg s_22_5] | rw [if_neg (Bool.eq_false_iff.mp s_22_5)] | skip)
      (first | rw [if_pos s_22_6] | rw [if_neg s_22_6] | rw [if_neg (Bool.eq_false_iff.mp s_22_6)] | skip)
      (first | rw [if_pos s_22_7] | rw [if_neg s_22_7] | rw [if_neg (Bool.eq_false_iff.mp s_22_7)] | skip)
      (try dsimp only)
      first
        | done
        | exact ⟨rfl, rfl⟩
        | rfl
        | (simp only [c_8, s_22_0, s_22_1, s_22_2, s_22_3, s_22_4, s_22_5, s_22_6, s_22_7, if_true, if_false, and_self, and_true, true_and, not_true_eq_false, not_false_eq_true, and_false, false_and, or_true, true_or, or_false, false_or, or_self, Bool.false_eq_true, reduceCtorEq, nl10, nl20, nl30, nl40, nl50, nl60, nl70, nl12, nl13, nl21, nl23, nl31, nl32]; first | done | exact ⟨rfl, rfl⟩ | rfl)
        | contradiction
        | (simp only [c_8, s_22_0, s_22_1, s_22_2, s_22_3, s_22_4, s_22_5, s_22_6, s_22_7, if_true, if_false, and_self, and_true, true_and, not_true_eq_false, not_false_eq_true, and_false, false_and, or_true, true_or, or_false, false_or, or_self, Bool.false_eq_true, reduceCtorEq, nl10, nl20, nl30, nl40, nl50, nl60, nl70, nl12, nl13, nl21, nl23, nl31, nl32]; contradiction)
        | (exfalso; simp_all; done)
        | simp_all
    refine lv_tableOut (tgt := 132) hx hb dX7_status_22 (by have q0 := lv_neT s_22_0 (a := 0) rfl; have q1 := lv_neT s_22_1 (a := 1) rfl; have q2 := lv_neT s_22_2 (a := 2) rfl; have q3 := lv_neT s_22_3 (a := 3) rfl; have q4 := lv_neT s_22_4 (a := 4) rfl; have q5 := lv_neT s_22_5 (a := 5) rfl; have q6 := lv_neT s_22_6 (a := 6) rfl; have q7 := lv_neT s_22_7 (a := 7) rfl; omega) (by decide) ?_
    refine lv_iconst (v := (-1)) hx hb dX7_status_132 (by decide) ?_
    refine f_ir X hlk hr (v := (-1)) rfl hP hS ?_ dX7_status_133
    unfold a_X7_status
    (first | rw [if_pos c_8] | rw [if_neg c_8] | rw [if_neg (Bool.eq_false_iff.mp c_8)] | skip)
    (first | rw [if_pos s_22_0] | rw [if_neg s_22_0] | rw [if_neg (Bool.eq_false_iff.mp s_22_0)] | skip)
    (first | rw [if_pos s_22_1] | rw [if_neg s_22_1] | rw [if_neg (Bool.eq_false_iff.mp s_22_1)] | skip)
    (first | rw [if_pos s_22_2] | rw [if_neg s_22_2] | rw [if_neg (Bool.eq_false_iff.mp s_22_2)] | skip)
    (first | rw [if_pos s_22_3] | rw [if_neg s_22_3] | rw [if_neg (Bool.eq_false_iff.mp s_22_3)] | skip)
    (first | rw [if_pos s_22_4] | rw [if_neg s_22_4] | rw [if_neg (Bool.eq_false_iff.mp s_22_4)] | skip)
    (first | rw [if_pos s_22_5] | rw [if_neg s_22_5] | rw [if_neg (Bool.eq_false_iff.mp s_22_5)] | skip)
    (first | rw [if_pos s_22_6] | rw [if_neg s_22_6] | rw [if_neg (Bool.eq_false_iff.mp s_22_6)] | skip)
    (first | rw [if_pos s_22_7] | rw [if_neg s_22_7] | rw [if_neg (Bool.eq_false_iff.mp s_22_7)] | skip)
    (try dsimp only)
    first
      | done
      | exact ⟨rfl, rfl⟩
      | rfl
      | (simp only [c_8, s_22_0, s_22_1, s_22_2, s_22_3, s_22_4, s_22_5, s_22_6, s_22_7, if_true, if_false, and_self, and_true, true_and, not_true_eq_false, not_false_eq_true, and_false, false_and, or_true, true_or, or_false, false_or, or_self, Bool.false_eq_true, reduceCtorEq, nl10, nl20, nl30, nl40, nl50, nl60, nl70, nl12, nl13, nl21, nl23, nl31, nl32]; first | done | exact ⟨rfl, rfl⟩ | rfl)
      | contradiction
      | (simp only [c_8, s_22_0, s_22_1, s_22_2, s_22_3, s_22_4, s_22_5, s_22_6, s_22_7, if_true, if_false, and_self, and_true, true_and, not_true_eq_false, not_false_eq_true, and_false, false_and, or_true, true_or, or_false, false_or, or_self, Bool.false_eq_true, reduceCtorEq, nl10, nl20, nl30, nl40, nl50, nl60, nl70, nl12, nl13, nl21, nl23, nl31, nl32]; contradiction)
      | (exfalso; simp_all; done)
      | simp_all
  · have c_8 := bI1 c_8
    refine lv_aload_n hx hb dX7_status_11 rfl (lv_at hl 0 rfl) ?_
    refine f_get X hP (T := TX7) (ci := 7) (k := 0) rfl inX7 rfl 6 (by decide) m_1_237 rfl (v := .ref (fad E 85)) rfl dX7_status_12 ?_
    refine lv_iload_n hx hb dX7_status_15 rfl (lv_at hl 1 rfl) ?_
    refine lv_bipush (v := 10) hx hb dX7_status_16 (by decide) ?_
    refine lv_isub hx hb dX7_status_18 ?_
    refine f_iald X hP (k := 85) (n := 8) (q := (what - 10).toNatClampNeg) rfl rfl (ix_w c_8) dX7_status_19 ?_
    refine f_ir X hlk hr (v := (M 85 ((what - 10).toNatClampNeg))) rfl hP hS ?_ dX7_status_20
    unfold a_X7_status
    (first | rw [if_pos c_8] | rw [if_neg c_8] | rw [if_neg (Bool.eq_false_iff.mp c_8)] | skip)
    (try dsimp only)
    first
      | done
      | exact ⟨rfl, rfl⟩
      | rfl
      | (simp only [c_8, if_true, if_false, and_self, and_true, true_and, not_true_eq_false, not_false_eq_true, and_false, false_and, or_true, true_or, or_false, false_or, or_self, Bool.false_eq_true, reduceCtorEq, nl10, nl20, nl30, nl40, nl50, nl60, nl70, nl12, nl13, nl21, nl23, nl31, nl32]; first | done | exact ⟨rfl, rfl⟩ | rfl)
      | contradiction
      | (simp only [c_8, if_true, if_false, and_self, and_true, true_and, not_true_eq_false, not_false_eq_true, and_false, false_and, or_true, true_or, or_false, false_or, or_self, Bool.false_eq_true, reduceCtorEq, nl10, nl20, nl30, nl40, nl50, nl60, nl70, nl12, nl13, nl21, nl23, nl31, nl32]; contradiction)
      | (exfalso; simp_all; done)
      | simp_all
