def lp_X8_item_57 (M : Nat → Nat → Int32) (L : Nat → Nat → Int64) (tc : Nat) (wc : Nat) (s0 : Nat) (pl : Nat) (en : Nat) : Nat → Nat → (Nat → Nat → Int32) → fR
  | 0, i, D => (if (wdx M L s0 pl en) = 0 then (1, (a_X8_addsThing D L (D 110 0) (D 110 1) (D 110 2) (D 110 3) (D 110 4) (D 110 5) (D 110 6) tc).2.1, L) else (if (wdx M L s0 pl en) = 1 then (1, (a_X8_addsWaiter D L (D 110 0) (D 110 1) (D 110 2) (D 110 3) (D 110 4) wc).2.1, L) else (if (wdx M L s0 pl en) = 2 then (1, (up2 D 92 ((D 110 0).toNatClampNeg) (D 110 1)), L) else (1, (up2 D 86 2 (D 110 0)), L))))
  | f9 + 1, i, D => (if i ≤ 0 then (if ((a_X8_reads D L s0 (pN D) en).1) = 0 then (0, (a_X8_reads D L s0 (pN D) en).2.1, L) else (if (a_X8_isSo (a_X8_reads D L s0 (pN D) en).2.1 L (nI (wdx M L s0 pl en)) (nI i) i) = 0 then (0, (up2 (a_X8_reads D L s0 (pN D) en).2.1 86 36 (nI (pN D))), L) else (lp_X8_item_57 M L tc wc s0 pl en f9 (i + 1) (up2 (a_X8_reads D L s0 (pN D) en).2.1 110 i ((a_X8_reads D L s0 (pN D) en).2.1 86 35))))) else (if en ≤ (pN D) then (0, (up2 D 86 36 (nI (pN D))), L) else (if ((L 104 ((160 * s0) + (pN D))).toInt32) = 32 then (if ((a_X8_reads (up2 D 86 33 (nI ((pN D) + 1))) L s0 ((pN D) + 1) en).1) = 0 then (0, (a_X8_reads (up2 D 86 33 (nI ((pN D) + 1))) L s0 ((pN D) + 1) en).2.1, L) else (if (a_X8_isSo (a_X8_reads (up2 D 86 33 (nI ((pN D) + 1))) L s0 ((pN D) + 1) en).2.1 L (nI (wdx M L s0 pl en)) (nI i) i) = 0 then (0, (up2 (a_X8_reads (up2 D 86 33 (nI ((pN D) + 1))) L s0 ((pN D) + 1) en).2.1 86 36 (nI ((pN D) + 1))), L) else (lp_X8_item_57 M L tc wc s0 pl en f9 (i + 1) (up2 (a_X8_reads (up2 D 86 33 (nI ((pN D) + 1))) L s0 ((pN D) + 1) en).2.1 110 i ((a_X8_reads (up2 D 86 33 (nI ((pN D) + 1))) L s0 ((pN D) + 1) en).2.1 86 35))))) else (0, (up2 D 86 36 (nI (pN D))), L))))
theorem lp_X8_item_57_0 (M : Nat → Nat → Int32) (L : Nat → Nat → Int64) (tc : Nat) (wc : Nat) (s0 : Nat) (pl : Nat) (en : Nat) (i : Nat) (D : (Nat → Nat → Int32)) : (lp_X8_item_57 M L tc wc s0 pl en 0 i D) = (if (wdx M L s0 pl en) = 0 then (1, (a_X8_addsThing D L (D 110 0) (D 110 1) (D 110 2) (D 110 3) (D 110 4) (D 110 5) (D 110 6) tc).2.1, L) else (if (wdx M L s0 pl en) = 1 then (1, (a_X8_addsWaiter D L (D 110 0) (D 110 1) (D 110 2) (D 110 3) (D 110 4) wc).2.1, L) else (if (wdx M L s0 pl en) = 2 then (1, (up2 D 92 ((D 110 0).toNatClampNeg) (D 110 1)), L) else (1, (up2 D 86 2 (D 110 0)), L)))) := rfl
theorem lp_X8_item_57_s (M : Nat → Nat → Int32) (L : Nat → Nat → Int64) (tc : Nat) (wc : Nat) (s0 : Nat) (pl : Nat) (en : Nat) (f9 i : Nat) (D : (Nat → Nat → Int32)) : (lp_X8_item_57 M L tc wc s0 pl en (f9 + 1) i D) = (if i ≤ 0 then (if ((a_X8_reads D L s0 (pN D) en).1) = 0 then (0, (a_X8_reads D L s0 (pN D) en).2.1, L) else (if (a_X8_isSo (a_X8_reads D L s0 (pN D) en).2.1 L (nI (wdx M L s0 pl en)) (nI i) i) = 0 then (0, (up2 (a_X8_reads D L s0 (pN D) en).2.1 86 36 (nI (pN D))), L) else (lp_X8_item_57 M L tc wc s0 pl en f9 (i + 1) (up2 (a_X8_reads D L s0 (pN D) en).2.1 110 i ((a_X8_reads D L s0 (pN D) en).2.1 86 35))))) else (if en ≤ (pN D) then (0, (up2 D 86 36 (nI (pN D))), L) else (if ((L 104 ((160 * s0) + (pN D))).toInt32) = 32 then (if ((a_X8_reads (up2 D 86 33 (nI ((pN D) + 1))) L s0 ((pN D) + 1) en).1) = 0 then (0, (a_X8_reads (up2 D 86 33 (nI ((pN D) + 1))) L s0 ((pN D) + 1) en).2.1, L) else (if (a_X8_isSo (a_X8_reads (up2 D 86 33 (nI ((pN D) + 1))) L s0 ((pN D) + 1) en).2.1 L (nI (wdx M L s0 pl en)) (nI i) i) = 0 then (0, (up2 (a_X8_reads (up2 D 86 33 (nI ((pN D) + 1))) L s0 ((pN D) + 1) en).2.1 86 36 (nI ((pN D) + 1))), L) else (lp_X8_item_57 M L tc wc s0 pl en f9 (i + 1) (up2 (a_X8_reads (up2 D 86 33 (nI ((pN D) + 1))) L s0 ((pN D) + 1) en).2.1 110 i ((a_X8_reads (up2 D 86 33 (nI ((pN D) + 1))) L s0 ((pN D) + 1) en).2.1 86 35))))) else (0, (up2 D 86 36 (nI (pN D))), L)))) := rfl
def itemR (M : Nat → Nat → Int32) (L : Nat → Nat → Int64) (tc wc s0 pl en : Nat) : fR := if (¬ a_X8_stands M L 0 s0 pl en 0 = 0 ∧ tc = 8) ∨ (¬ a_X8_stands M L 1 s0 pl en 1 = 0 ∧ wc = 6) then (0, up2 M 86 36 (nI pl), L) else if (wordV M L s0 pl en).1 = -1 then (0, (wordV M L s0 pl en).2, L) else lp_X8_item_57 M L tc wc s0 pl en (nmN (wdx M L s0 pl en)) 0 (up2 M 86 33 (nI (pl + (wdL (wdx M L s0 pl en)))))
set_option maxHeartbeats 4000000 in
set_option maxRecDepth 100000 in
theorem c_X8_item (l : Launch) (E : fE) (M : Nat → Nat → Int32) (L : Nat → Nat → Int64) (tc wc s0 pl en : Nat) (htc : M 86 1 = nI tc) (htc8 : tc ≤ 8) (hwc : M 86 0 = nI wc) (hwc6 : wc ≤ 6) (hba : M 86 32 = nI (160 * s0)) (hs08 : s0 < 8) (hpl : M 86 33 = nI pl) (hen : M 86 34 = nI en) (hen1 : en ≤ 160) (hpe : pl ≤ en) (hwd : ∀ k, k < 28 → M 106 k = wdA k) (hnm : ∀ w, w < 4 → M 107 w = nI (nmN w)) : Met l yX8_item (wl yX8_item cX8_item 4 (some .boolean)) (fRm 2 42) (va_Pc [.ref (fad E 86)] (fPre E M L)) (fQi E (fun r u => u = ((itemR M L tc wc s0 pl en).2.1, L) ∧ r = (itemR M L tc wc s0 pl en).1)) 0 0 (fA E) := by
  refine f_head (by decide) (Nat.le_of_ble_eq_true rfl) ?_
  intro pg ev s mi below meth cd ls X hr hlk hP hS hl
  have hx := X.1.1
  have hb := X.1.2.1
  have hl : lv_has ls 4 [(0, .ref (fad E 86))] := hl
  refine f_join (α := Unit) (fun (_ : Unit) H locs ls => fP E M L H ∧ va_S (fA E) s.heap H locs ∧ lv_has ls 4 [(0, .ref (fad E 86))] ∧ (¬ ((¬ a_X8_stands M L 0 s0 pl en 0 = 0 ∧ tc = 8) ∨ (¬ a_X8_stands M L 1 s0 pl en 1 = 0 ∧ wc = 6)))) (pc0 := 43) (st := fun (_ : Unit) => []) ?_ ?_
  · rintro _ H locs ls ⟨hP, hS, hl, hj43⟩
    refine lv_aload_n hx hb dX8_item_43 rfl (lv_at hl 0 rfl) ?_
    refine f_iV (n := 0) X hP hS [] [] (c_X8_word l E M L s0 pl en hba hs08 hpl hen hen1 hpe hwd) m_5_196 wi_X8_word rfl rfl (by decide) (by decide +kernel) ⟨Nat.le_of_ble_eq_true rfl, Nat.le_of_ble_eq_true rfl⟩ rfl hl rfl (Nat.le_of_ble_eq_true rfl) ⟨Nat.zero_le _, Nat.zero_le _⟩ dX8_item_44 (fun H locs hP hS => ?_)
    refine lv_istore_n (lv' := [(1, .int ((wordV M L s0 pl en).1)), (0, .ref (fad E 86))]) hx hb dX8_item_47 rfl hl (by decide) rfl (fun ls hl => ?_)
    refine lv_iload_n hx hb dX8_item_48 rfl (lv_at hl 0 rfl) ?_
    refine lv_iconst (v := (-1)) hx hb dX8_item_49 (by decide) ?_
    refine lv_icmp_ne (tgt := 55) hx hb dX8_item_50 (by decide) (fun c_50 => ?_) (fun c_50 => ?_)
    · have hw9 := wordV_w hpe c_50
      have hn7 := nmN_le (wdx M L s0 pl en)
      have hl : lv_has ls 4 [(1, .int (nI (wdx M L s0 pl en))), (0, .ref (fad E 86))] := by rw [← hw9.1]; exact hl
      have hP := fP_eq (show (up2 M 86 33 (nI (pl + wdL (wdx M L s0 pl en)))) = (wordV M L s0 pl en).2 from by
          exact hw9.2.2.2.1.symm) hP
      refine lv_iconst (v := 0) hx hb dX8_item_55 (by decide) ?_
      refine lv_istore_n (lv' := [(2, .int 0), (1, .int (nI (wdx M L s0 pl en))), (0, .ref (fad E 86))]) hx hb dX8_item_56 rfl hl (by decide) rfl (fun ls hl => ?_)
      refine f_loop (α := Nat × (Nat → Nat → Int32)) (fun (a : Nat × (Nat → Nat → Int32)) H locs ls => match a with | (i, D) => fP E D L H ∧ va_S (fA E) s.heap H locs ∧ lv_has ls 4 [(2, .int (nI i)), (1, .int (nI (wdx M L s0 pl en))), (0, .ref (fad E 86))] ∧ (i ≤ (nmN (wdx M L s0 pl en))) ∧ ((lp_X8_item_57 M L tc wc s0 pl en (nmN (wdx M L s0 pl en)) 0 (up2 M 86 33 (nI (pl + wdL (wdx M L s0 pl en))))) = (lp_X8_item_57 M L tc wc s0 pl en ((nmN (wdx M L s0 pl en)) - i) i D)) ∧ (D 86 32 = nI (160 * s0)) ∧ (D 86 34 = nI en) ∧ (D 86 33 = nI (pN D)) ∧ (pN D ≤ en) ∧ (D 86 0 = nI wc) ∧ (D 86 1 = nI tc) ∧ (D 107 (wdx M L s0 pl en) = nI (nmN (wdx M L s0 pl en))) ∧ ((wdx M L s0 pl en) = 2 → 1 ≤ i → 0 ≤ D 110 0 ∧ D 110 0 < D 86 0)) (fun (a : Nat × (Nat → Nat → Int32)) => match a with | (i, D) => (nmN (wdx M L s0 pl en)) - i) (pc0 := 57) (st := fun _ => []) ?_ (0, (up2 M 86 33 (nI (pl + wdL (wdx M L s0 pl en))))) _ _ _ ⟨hP, hS, lv_sub hl [0, 1, 2] rfl, (Nat.zero_le _), (by rw [Nat.sub_zero]), ((up2_o _ _ (Or.inr (by decide))).trans hba), ((up2_o _ _ (Or.inr (by decide))).trans hen), (pN_up (by omega)), (by rw [pN_at (by omega)]; exact hw9.2.2.2.2), ((up2_o _ _ (Or.inr (by decide))).trans hwc), ((up2_o _ _ (Or.inr (by decide))).trans htc), ((up2_o _ _ (Or.inl (by decide))).trans (hnm _ hw9.2.1)), (fun _ h9 => absurd h9 (by omega))⟩
      rintro ⟨i, D⟩ H locs ls ⟨hP, hS, hl, ht_57, hbt_57, hDb, hDe, hDp, hDl, hD0, hD1, hDn, hDt⟩ ih_57
      refine lv_iload_n hx hb dX8_item_57 rfl (lv_at hl 0 rfl) ?_
      refine lv_aload_n hx hb dX8_item_58 rfl (lv_at hl 2 rfl) ?_
      refine f_get X hP (T := TX8) (ci := 8) (k := 86) rfl inX8 rfl 28 (by decide) m_4_202 rfl (v := .ref (fad E 107)) rfl dX8_item_59 ?_
      refine lv_iload_n hx hb dX8_item_62 rfl (lv_at hl 1 rfl) ?_
      refine f_iald X hP (k := 107) (n := 4) (q := (wdx M L s0 pl en)) rfl rfl (fIx_nI (by omega) (by decide)) dX8_item_63 ?_
      refine f_topI hDn ?_
      refine lv_icmp_ge (tgt := 166) hx hb dX8_item_64 (by decide) (fun c_64 => ?_) (fun c_64 => ?_)
      · have c_64 := (nI_le_iff (a := (nmN (wdx M L s0 pl en))) (b := i) (by omega) (by omega)).mp c_64
        have hz_57 : (nmN (wdx M L s0 pl en)) - i = 0 := by omega
        have hbt_57 := hbt_57.trans ((congrArg (fun f9 => (lp_X8_item_57 M L tc wc s0 pl en f9 i D)) hz_57).trans (lp_X8_item_57_0 M L tc wc s0 pl en i D))
        refine lv_iload_n hx hb dX8_item_166 rfl (lv_at hl 1 rfl) ?_
        refine lv_if_ne (tgt := 221) hx hb dX8_item_167 (by decide) (fun c_167 => ?_) (fun c_167 => ?_)
        · have c_167 := (not_congr (nI_eq (a := (wdx M L s0 pl en)) (b := 0) (by omega) (by omega))).mp c_167
          refine lv_iload_n hx hb dX8_item_221 rfl (lv_at hl 1 rfl) ?_
          refine lv_iconst (v := 1) hx hb dX8_item_222 (by decide) ?_
          refine lv_icmp_ne (tgt := 264) hx hb dX8_item_223 (by decide) (fun c_223 => ?_) (fun c_223 => ?_)
          · have c_223 := (not_congr (nI_eq (a := (wdx M L s0 pl en)) (b := 1) (by omega) (by omega))).mp c_223
            refine lv_iload_n hx hb dX8_item_264 rfl (lv_at hl 1 rfl) ?_
            refine lv_iconst (v := 2) hx hb dX8_item_265 (by decide) ?_
            refine lv_icmp_ne (tgt := 289) hx hb dX8_item_266 (by decide) (fun c_266 => ?_) (fun c_266 => ?_)
            · have c_266 := (not_congr (nI_eq (a := (wdx M L s0 pl en)) (b := 2) (by omega) (by omega))).mp c_266
              refine lv_aload_n hx hb dX8_item_289 rfl (lv_at hl 2 rfl) ?_
              refine lv_aload_n hx hb dX8_item_290 rfl (lv_at hl 2 rfl) ?_
              refine f_get X hP (T := TX8) (ci := 8) (k := 86) rfl inX8 rfl 31 (by decide) m_4_205 rfl (v := .ref (fad E 110)) rfl dX8_item_291 ?_
              refine lv_iconst (v := 0) hx hb dX8_item_294 (by decide) ?_
              refine f_iald X hP (k := 110) (n := 7) (q := 0) rfl rfl ⟨by decide, rfl, by decide⟩ dX8_item_295 ?_
              refine f_put X hP hS (T := TX8) (ci := 8) (k := 86) rfl inX8 rfl tyX8 tyX8_ok nmX8 2 (by decide) m_4_176 ⟨rfl, rfl⟩ rfl (v := (D 110 0)) rfl rfl dX8_item_296 (fun H locs hP hS => ?_)
              refine lv_iconst (v := 1) hx hb dX8_item_299 (by decide) ?_
              refine f_ir X hlk hr (v := 1) rfl hP hS ?_ dX8_item_300
              unfold itemR
              (first | rw [if_pos hj43] | rw [if_neg hj43] | rw [if_neg (Bool.eq_false_iff.mp hj43)] | skip)
              (first | rw [if_pos c_50] | rw [if_neg c_50] | rw [if_neg (Bool.eq_false_iff.mp c_50)] | skip)
              rw [hbt_57]
              (first | rw [if_pos c_167] | rw [if_neg c_167] | rw [if_neg (Bool.eq_false_iff.mp c_167)] | skip)
              (first | rw [if_pos c_223] | rw [if_neg c_223] | rw [if_neg (Bool.eq_false_iff.mp c_223)] | skip)
              (first | rw [if_pos c_266] | rw [if_neg c_266] | rw [if_neg (Bool.eq_false_iff.mp c_266)] | skip)
              (try dsimp only)
              first
                | done
                | exact ⟨rfl, rfl⟩
                | rfl
                | (simp only [c_167, c_223, c_266, if_true, if_false, and_self, and_true, true_and, not_true_eq_false, not_false_eq_true, and_false, false_and, or_true, true_or, or_false, false_or, or_self, Bool.false_eq_true, reduceCtorEq, nl10, nl20, nl30, nl40, nl50, nl60, nl70, nl12, nl13, nl21, nl23, nl31, nl32]; first | done | exact ⟨rfl, rfl⟩ | rfl)
                | contradiction
                | (simp only [c_167, c_223, c_266, if_true, if_false, and_self, and_true, true_and, not_true_eq_false, not_false_eq_true, and_false, false_and, or_true, true_or, or_false, false_or, or_self, Bool.false_eq_true, reduceCtorEq, nl10, nl20, nl30, nl40, nl50, nl60, nl70, nl12, nl13, nl21, nl23, nl31, nl32]; contradiction)
                | (exfalso; simp_all; done)
                | simp_all
            · have c_266 := (nI_eq (a := (wdx M L s0 pl en)) (b := 2) (by omega) (by omega)).mp c_266
              have hn2 : nmN (wdx M L s0 pl en) = 2 := by rw [c_266]; rfl
              have hi9 : fIx (D 110 0) 6 (D 110 0).toNatClampNeg := fIx_cnt 6 (hDt c_266 (by omega)).1 (hDt c_266 (by omega)).2 hD0 hwc6 (by decide)
              refine lv_aload_n hx hb dX8_item_269 rfl (lv_at hl 2 rfl) ?_
              refine f_get X hP (T := TX8) (ci := 8) (k := 86) rfl inX8 rfl 13 (by decide) m_4_187 rfl (v := .ref (fad E 92)) rfl dX8_item_270 ?_
              refine lv_aload_n hx hb dX8_item_273 rfl (lv_at hl 2 rfl) ?_
              refine f_get X hP (T := TX8) (ci := 8) (k := 86) rfl inX8 rfl 31 (by decide) m_4_205 rfl (v := .ref (fad E 110)) rfl dX8_item_274 ?_
              refine lv_iconst (v := 0) hx hb dX8_item_277 (by decide) ?_
              refine f_iald X hP (k := 110) (n := 7) (q := 0) rfl rfl ⟨by decide, rfl, by decide⟩ dX8_item_278 ?_
              refine lv_aload_n hx hb dX8_item_279 rfl (lv_at hl 2 rfl) ?_
              refine f_get X hP (T := TX8) (ci := 8) (k := 86) rfl inX8 rfl 31 (by decide) m_4_205 rfl (v := .ref (fad E 110)) rfl dX8_item_280 ?_
              refine lv_iconst (v := 1) hx hb dX8_item_283 (by decide) ?_
              refine f_iald X hP (k := 110) (n := 7) (q := 1) rfl rfl ⟨by decide, rfl, by decide⟩ dX8_item_284 ?_
              refine f_iast X hP hS (k := 92) (n := 6) (q := (D 110 0).toNatClampNeg) rfl rfl (v := (D 110 1)) hi9 dX8_item_285 (fun H locs hP hS => ?_)
              refine lv_goto (tgt := 299) hx hb dX8_item_286 (by decide) ?_
              refine lv_iconst (v := 1) hx hb dX8_item_299 (by decide) ?_
              refine f_ir X hlk hr (v := 1) rfl hP hS ?_ dX8_item_300
              unfold itemR
              (first | rw [if_pos hj43] | rw [if_neg hj43] | rw [if_neg (Bool.eq_false_iff.mp hj43)] | skip)
              (first | rw [if_pos c_50] | rw [if_neg c_50] | rw [if_neg (Bool.eq_false_iff.mp c_50)] | skip)
              rw [hbt_57]
              (first | rw [if_pos c_167] | rw [if_neg c_167] | rw [if_neg (Bool.eq_false_iff.mp c_167)] | skip)
              (first | rw [if_pos c_223] | rw [if_neg c_223] | rw [if_neg (Bool.eq_false_iff.mp c_223)] | skip)
              (first | rw [if_pos c_266] | rw [if_neg c_266] | rw [if_neg (Bool.eq_false_iff.mp c_266)] | skip)
              (try dsimp only)
              first
                | done
                | exact ⟨rfl, rfl⟩
                | rfl
                | (simp only [c_167, c_223, c_266, if_true, if_false, and_self, and_true, true_and, not_true_eq_false, not_false_eq_true, and_false, false_and, or_true, true_or, or_false, false_or, or_self, Bool.false_eq_true, reduceCtorEq, nl10, nl20, nl30, nl40, nl50, nl60, nl70, nl12, nl13, nl21, nl23, nl31, nl32]; first | done | exact ⟨rfl, rfl⟩ | rfl)
                | contradiction
                | (simp only [c_167, c_223, c_266, if_true, if_false, and_self, and_true, true_and, not_true_eq_false, not_false_eq_true, and_false, false_and, or_true, true_or, or_false, false_or, or_self, Bool.false_eq_true, reduceCtorEq, nl10, nl20, nl30, nl40, nl50, nl60, nl70, nl12, nl13, nl21, nl23, nl31, nl32]; contradiction)
                | (exfalso; simp_all; done)
                | simp_all
          · have c_223 := (nI_eq (a := (wdx M L s0 pl en)) (b := 1) (by omega) (by omega)).mp c_223
            refine lv_aload_n hx hb dX8_item_226 rfl (lv_at hl 2 rfl) ?_
            refine lv_aload_n hx hb dX8_item_227 rfl (lv_at hl 2 rfl) ?_
            refine f_get X hP (T := TX8) (ci := 8) (k := 86) rfl inX8 rfl 31 (by decide) m_4_205 rfl (v := .ref (fad E 110)) rfl dX8_item_228 ?_
            refine lv_iconst (v := 0) hx hb dX8_item_231 (by decide) ?_
            refine f_iald X hP (k := 110) (n := 7) (q := 0) rfl rfl ⟨by decide, rfl, by decide⟩ dX8_item_232 ?_
            refine lv_aload_n hx hb dX8_item_233 rfl (lv_at hl 2 rfl) ?_
            refine f_get X hP (T := TX8) (ci := 8) (k := 86) rfl inX8 rfl 31 (by decide) m_4_205 rfl (v := .ref (fad E 110)) rfl dX8_item_234 ?_
            refine lv_iconst (v := 1) hx hb dX8_item_237 (by decide) ?_
            refine f_iald X hP (k := 110) (n := 7) (q := 1) rfl rfl ⟨by decide, rfl, by decide⟩ dX8_item_238 ?_
            refine lv_aload_n hx hb dX8_item_239 rfl (lv_at hl 2 rfl) ?_
            refine f_get X hP (T := TX8) (ci := 8) (k := 86) rfl inX8 rfl 31 (by decide) m_4_205 rfl (v := .ref (fad E 110)) rfl dX8_item_240 ?_
            refine lv_iconst (v := 2) hx hb dX8_item_243 (by decide) ?_
            refine f_iald X hP (k := 110) (n := 7) (q := 2) rfl rfl ⟨by decide, rfl, by decide⟩ dX8_item_244 ?_
            refine lv_aload_n hx hb dX8_item_245 rfl (lv_at hl 2 rfl) ?_
            refine f_get X hP (T := TX8) (ci := 8) (k := 86) rfl inX8 rfl 31 (by decide) m_4_205 rfl (v := .ref (fad E 110)) rfl dX8_item_246 ?_
            refine lv_iconst (v := 3) hx hb dX8_item_249 (by decide) ?_
            refine f_iald X hP (k := 110) (n := 7) (q := 3) rfl rfl ⟨by decide, rfl, by decide⟩ dX8_item_250 ?_
            refine lv_aload_n hx hb dX8_item_251 rfl (lv_at hl 2 rfl) ?_
            refine f_get X hP (T := TX8) (ci := 8) (k := 86) rfl inX8 rfl 31 (by decide) m_4_205 rfl (v := .ref (fad E 110)) rfl dX8_item_252 ?_
            refine lv_iconst (v := 4) hx hb dX8_item_255 (by decide) ?_
            refine f_iald X hP (k := 110) (n := 7) (q := 4) rfl rfl ⟨by decide, rfl, by decide⟩ dX8_item_256 ?_
            refine f_iV (n := 5) X hP hS [.int (D 110 0), .int (D 110 1), .int (D 110 2), .int (D 110 3), .int (D 110 4)] [] (c_X8_addsWaiter l E D L (D 110 0) (D 110 1) (D 110 2) (D 110 3) (D 110 4) wc hD0 (by first | omega | exact (st_add1 hj43 hwd hw9 c_223 hwc6))) m_5_132 wi_X8_addsWaiter rfl rfl (by decide) (by decide +kernel) ⟨Nat.le_of_ble_eq_true rfl, Nat.le_of_ble_eq_true rfl⟩ rfl hl rfl (Nat.le_of_ble_eq_true rfl) ⟨Nat.zero_le _, Nat.zero_le _⟩ dX8_item_257 (fun H locs hP hS => ?_)
            refine lv_pop hx hb dX8_item_260 rfl ?_
            refine lv_goto (tgt := 299) hx hb dX8_item_261 (by decide) ?_
            refine lv_iconst (v := 1) hx hb dX8_item_299 (by decide) ?_
            refine f_ir X hlk hr (v := 1) rfl hP hS ?_ dX8_item_300
            unfold itemR
            (first | rw [if_pos hj43] | rw [if_neg hj43] | rw [if_neg (Bool.eq_false_iff.mp hj43)] | skip)
            (first | rw [if_pos c_50] | rw [if_neg c_50] | rw [if_neg (Bool.eq_false_iff.mp c_50)] | skip)
            rw [hbt_57]
            (first | rw [if_pos c_167] | rw [if_neg c_167] | rw [if_neg (Bool.eq_false_iff.mp c_167)] | skip)
            (first | rw [if_pos c_223] | rw [if_neg c_223] | rw [if_neg (Bool.eq_false_iff.mp c_223)] | skip)
            (try dsimp only)
            first
              | done
              | exact ⟨rfl, rfl⟩
              | rfl
              | (simp only [c_167, c_223, if_true, if_false, and_self, and_true, true_and, not_true_eq_false, not_false_eq_true, and_false, false_and, or_true, true_or, or_false, false_or, or_self, Bool.false_eq_true, reduceCtorEq, nl10, nl20, nl30, nl40, nl50, nl60, nl70, nl12, nl13, nl21, nl23, nl31, nl32]; first | done | exact ⟨rfl, rfl⟩ | rfl)
              | contradiction
              | (simp only [c_167, c_223, if_true, if_false, and_self, and_true, true_and, not_true_eq_false, not_false_eq_true, and_false, false_and, or_true, true_or, or_false, false_or, or_self, Bool.false_eq_true, reduceCtorEq, nl10, nl20, nl30, nl40, nl50, nl60, nl70, nl12, nl13, nl21, nl23, nl31, nl32]; contradiction)
              | (exfalso; simp_all; done)
              | simp_all
        · have c_167 := (nI_eq (a := (wdx M L s0 pl en)) (b := 0) (by omega) (by omega)).mp c_167
          refine lv_aload_n hx hb dX8_item_170 rfl (lv_at hl 2 rfl) ?_
          refine lv_aload_n hx hb dX8_item_171 rfl (lv_at hl 2 rfl) ?_
          refine f_get X hP (T := TX8) (ci := 8) (k := 86) rfl inX8 rfl 31 (by decide) m_4_205 rfl (v := .ref (fad E 110)) rfl dX8_item_172 ?_
          refine lv_iconst (v := 0) hx hb dX8_item_175 (by decide) ?_
          refine f_iald X hP (k := 110) (n := 7) (q := 0) rfl rfl ⟨by decide, rfl, by decide⟩ dX8_item_176 ?_
          refine lv_aload_n hx hb dX8_item_177 rfl (lv_at hl 2 rfl) ?_
          refine f_get X hP (T := TX8) (ci := 8) (k := 86) rfl inX8 rfl 31 (by decide) m_4_205 rfl (v := .ref (fad E 110)) rfl dX8_item_178 ?_
          refine lv_iconst (v := 1) hx hb dX8_item_181 (by decide) ?_
          refine f_iald X hP (k := 110) (n := 7) (q := 1) rfl rfl ⟨by decide, rfl, by decide⟩ dX8_item_182 ?_
          refine lv_aload_n hx hb dX8_item_183 rfl (lv_at hl 2 rfl) ?_
          refine f_get X hP (T := TX8) (ci := 8) (k := 86) rfl inX8 rfl 31 (by decide) m_4_205 rfl (v := .ref (fad E 110)) rfl dX8_item_184 ?_
          refine lv_iconst (v := 2) hx hb dX8_item_187 (by decide) ?_
          refine f_iald X hP (k := 110) (n := 7) (q := 2) rfl rfl ⟨by decide, rfl, by decide⟩ dX8_item_188 ?_
          refine lv_aload_n hx hb dX8_item_189 rfl (lv_at hl 2 rfl) ?_
          refine f_get X hP (T := TX8) (ci := 8) (k := 86) rfl inX8 rfl 31 (by decide) m_4_205 rfl (v := .ref (fad E 110)) rfl dX8_item_190 ?_
          refine lv_iconst (v := 3) hx hb dX8_item_193 (by decide) ?_
          refine f_iald X hP (k := 110) (n := 7) (q := 3) rfl rfl ⟨by decide, rfl, by decide⟩ dX8_item_194 ?_
          refine lv_aload_n hx hb dX8_item_195 rfl (lv_at hl 2 rfl) ?_
          refine f_get X hP (T := TX8) (ci := 8) (k := 86) rfl inX8 rfl 31 (by decide) m_4_205 rfl (v := .ref (fad E 110)) rfl dX8_item_196 ?_
          refine lv_iconst (v := 4) hx hb dX8_item_199 (by decide) ?_
          refine f_iald X hP (k := 110) (n := 7) (q := 4) rfl rfl ⟨by decide, rfl, by decide⟩ dX8_item_200 ?_
          refine lv_aload_n hx hb dX8_item_201 rfl (lv_at hl 2 rfl) ?_
          refine f_get X hP (T := TX8) (ci := 8) (k := 86) rfl inX8 rfl 31 (by decide) m_4_205 rfl (v := .ref (fad E 110)) rfl dX8_item_202 ?_
          refine lv_iconst (v := 5) hx hb dX8_item_205 (by decide) ?_
          refine f_iald X hP (k := 110) (n := 7) (q := 5) rfl rfl ⟨by decide, rfl, by decide⟩ dX8_item_206 ?_
          refine lv_aload_n hx hb dX8_item_207 rfl (lv_at hl 2 rfl) ?_
          refine f_get X hP (T := TX8) (ci := 8) (k := 86) rfl inX8 rfl 31 (by decide) m_4_205 rfl (v := .ref (fad E 110)) rfl dX8_item_208 ?_
          refine lv_bipush (v := 6) hx hb dX8_item_211 (by decide) ?_
          refine f_iald X hP (k := 110) (n := 7) (q := 6) rfl rfl ⟨by decide, rfl, by decide⟩ dX8_item_213 ?_
          refine f_iV (n := 7) X hP hS [.int (D 110 0), .int (D 110 1), .int (D 110 2), .int (D 110 3), .int (D 110 4), .int (D 110 5), .int (D 110 6)] [] (c_X8_addsThing l E D L (D 110 0) (D 110 1) (D 110 2) (D 110 3) (D 110 4) (D 110 5) (D 110 6) tc hD1 (by first | omega | exact (st_add0 hj43 hwd hw9 c_167 htc8))) m_5_124 wi_X8_addsThing rfl rfl (by decide) (by decide +kernel) ⟨Nat.le_of_ble_eq_true rfl, Nat.le_of_ble_eq_true rfl⟩ rfl hl rfl (Nat.le_of_ble_eq_true rfl) ⟨Nat.zero_le _, Nat.zero_le _⟩ dX8_item_214 (fun H locs hP hS => ?_)
          refine lv_pop hx hb dX8_item_217 rfl ?_
          refine lv_goto (tgt := 299) hx hb dX8_item_218 (by decide) ?_
          refine lv_iconst (v := 1) hx hb dX8_item_299 (by decide) ?_
          refine f_ir X hlk hr (v := 1) rfl hP hS ?_ dX8_item_300
          unfold itemR
          (first | rw [if_pos hj43] | rw [if_neg hj43] | rw [if_neg (Bool.eq_false_iff.mp hj43)] | skip)
          (first | rw [if_pos c_50] | rw [if_neg c_50] | rw [if_neg (Bool.eq_false_iff.mp c_50)] | skip)
          rw [hbt_57]
          (first | rw [if_pos c_167] | rw [if_neg c_167] | rw [if_neg (Bool.eq_false_iff.mp c_167)] | skip)
          (try dsimp only)
          first
            | done
            | exact ⟨rfl, rfl⟩
            | rfl
            | (simp only [c_167, if_true, if_false, and_self, and_true, true_and, not_true_eq_false, not_false_eq_true, and_false, false_and, or_true, true_or, or_false, false_or, or_self, Bool.false_eq_true, reduceCtorEq, nl10, nl20, nl30, nl40, nl50, nl60, nl70, nl12, nl13, nl21, nl23, nl31, nl32]; first | done | exact ⟨rfl, rfl⟩ | rfl)
            | contradiction
            | (simp only [c_167, if_true, if_false, and_self, and_true, true_and, not_true_eq_false, not_false_eq_true, and_false, false_and, or_true, true_or, or_false, false_or, or_self, Bool.false_eq_true, reduceCtorEq, nl10, nl20, nl30, nl40, nl50, nl60, nl70, nl12, nl13, nl21, nl23, nl31, nl32]; contradiction)
            | (exfalso; simp_all; done)
            | simp_all
      · have c_64 := (not_congr (nI_le_iff (a := (nmN (wdx M L s0 pl en))) (b := i) (by omega) (by omega))).mp c_64
        have hs_57 : (nmN (wdx M L s0 pl en)) - i = (nmN (wdx M L s0 pl en)) - (i + 1) + 1 := by omega
        have hbt_57 := hbt_57.trans ((congrArg (fun f9 => (lp_X8_item_57 M L tc wc s0 pl en f9 i D)) hs_57).trans (lp_X8_item_57_s M L tc wc s0 pl en ((nmN (wdx M L s0 pl en)) - (i + 1)) i D))
        refine lv_iload_n hx hb dX8_item_67 rfl (lv_at hl 0 rfl) ?_
        refine lv_if_le (tgt := 121) hx hb dX8_item_68 (by decide) (fun c_68 => ?_) (fun c_68 => ?_)
        · have c_68 := (nI_le_iff (a := i) (b := 0) (by omega) (by omega)).mp c_68
          refine lv_aload_n hx hb dX8_item_121 rfl (lv_at hl 2 rfl) ?_
          refine f_get X hP (T := TX8) (ci := 8) (k := 86) rfl inX8 rfl 33 (by decide) m_4_207 rfl (v := .int (nI (pN D))) (congrArg Value.int hDp) dX8_item_122 ?_
          refine lv_istore_n (lv' := [(3, .int (nI (pN D))), (2, .int (nI i)), (1, .int (nI (wdx M L s0 pl en))), (0, .ref (fad E 86))]) hx hb dX8_item_125 rfl hl (by decide) rfl (fun ls hl => ?_)
          refine lv_aload_n hx hb dX8_item_126 rfl (lv_at hl 3 rfl) ?_
          refine f_iV (n := 0) X hP hS [] [] (c_X8_reads l E D L s0 (pN D) en (by first | exact hDb | exact (up2_o _ _ (Or.inr (by decide))).trans hDb) hs08 (by first | exact hDp | exact up2_s _ _ _ _) (by first | exact hDe | exact (up2_o _ _ (Or.inr (by decide))).trans hDe) hen1 (by omega)) m_5_200 wi_X8_reads rfl rfl (by decide) (by decide +kernel) ⟨Nat.le_of_ble_eq_true rfl, Nat.le_of_ble_eq_true rfl⟩ rfl hl rfl (Nat.le_of_ble_eq_true rfl) ⟨Nat.zero_le _, Nat.zero_le _⟩ dX8_item_127 (fun H locs hP hS => ?_)
          refine lv_if_ne (tgt := 135) hx hb dX8_item_130 (by decide) (fun c_130 => ?_) (fun c_130 => ?_)
          · have hrd := rd_sp (by first | exact hDp | exact up2_s _ _ _ _) hen1 (by omega) c_130
            refine lv_aload_n hx hb dX8_item_135 rfl (lv_at hl 3 rfl) ?_
            refine lv_iload_n hx hb dX8_item_136 rfl (lv_at hl 2 rfl) ?_
            refine lv_iload_n hx hb dX8_item_137 rfl (lv_at hl 1 rfl) ?_
            refine f_iV (n := 2) X hP hS [.int (nI (wdx M L s0 pl en)), .int (nI i)] [] (c_X8_isSo l E (a_X8_reads D L s0 (pN D) en).2.1 L (nI (wdx M L s0 pl en)) (nI i) i (fIx_nI (by omega) (by decide)) (so5 hw9.2.1 c_64)) m_5_208 wi_X8_isSo rfl rfl (by decide) (by decide +kernel) ⟨Nat.le_of_ble_eq_true rfl, Nat.le_of_ble_eq_true rfl⟩ rfl hl rfl (Nat.le_of_ble_eq_true rfl) ⟨Nat.zero_le _, Nat.zero_le _⟩ dX8_item_138 (fun H locs hP hS => ?_)
            refine lv_if_ne (tgt := 150) hx hb dX8_item_141 (by decide) (fun c_141 => ?_) (fun c_141 => ?_)
            · refine lv_aload_n hx hb dX8_item_150 rfl (lv_at hl 3 rfl) ?_
              refine f_get X hP (T := TX8) (ci := 8) (k := 86) rfl inX8 rfl 31 (by decide) m_4_205 rfl (v := .ref (fad E 110)) rfl dX8_item_151 ?_
              refine lv_iload_n hx hb dX8_item_154 rfl (lv_at hl 1 rfl) ?_
              refine lv_aload_n hx hb dX8_item_155 rfl (lv_at hl 3 rfl) ?_
              refine f_get X hP (T := TX8) (ci := 8) (k := 86) rfl inX8 rfl 35 (by decide) m_4_209 rfl (v := .int ((a_X8_reads D L s0 (pN D) en).2.1 86 35)) rfl dX8_item_156 ?_
              refine f_iast X hP hS (k := 110) (n := 7) (q := i) rfl rfl (v := ((a_X8_reads D L s0 (pN D) en).2.1 86 35)) (fIx_nI (by omega) (by decide)) dX8_item_159 (fun H locs hP hS => ?_)
              refine lv_iinc (v := (nI (i + 1))) (lv' := [(2, .int (nI (i + 1))), (3, .int (nI (pN D))), (1, .int (nI (wdx M L s0 pl en))), (0, .ref (fad E 86))]) hx hb dX8_item_160 hl (k := 1) rfl (nI_1 _) (by decide) rfl (fun ls hl => ?_)
              refine lv_goto (tgt := 57) hx hb dX8_item_163 (by decide) ?_
              exact ih_57 ((i + 1), (up2 (a_X8_reads D L s0 (pN D) en).2.1 110 i ((a_X8_reads D L s0 (pN D) en).2.1 86 35))) _ _ _ (by show (nmN (wdx M L s0 pl en)) - (i + 1) < (nmN (wdx M L s0 pl en)) - i; omega) ⟨hP, hS, lv_sub hl [0, 2, 3] rfl, (by omega), (by
                refine hbt_57.trans ?_
                (first | rw [if_pos c_68] | rw [if_neg c_68] | rw [if_neg (Bool.eq_false_iff.mp c_68)] | skip)
                (first | rw [if_pos c_130] | rw [if_neg c_130] | rw [if_neg (Bool.eq_false_iff.mp c_130)] | skip)
                (first | rw [if_pos c_141] | rw [if_neg c_141] | rw [if_neg (Bool.eq_false_iff.mp c_141)] | skip)
                first | done | rfl), ((up2_o _ _ (Or.inl (by decide))).trans ((rd_fr (by decide)).trans (by first | exact hDb | exact (up2_o _ _ (Or.inr (by decide))).trans hDb))), ((up2_o _ _ (Or.inl (by decide))).trans ((rd_fr (by decide)).trans (by first | exact hDe | exact (up2_o _ _ (Or.inr (by decide))).trans hDe))), ((up2_o _ _ (Or.inl (by decide))).trans (hrd.1.trans (congrArg nI (pN_o (Or.inl (by decide))).symm))), (by rw [pN_o (Or.inl (by decide))]; exact hrd.2.1), ((up2_o _ _ (Or.inl (by decide))).trans ((rd_fr (by decide)).trans (by first | exact hD0 | exact (up2_o _ _ (Or.inr (by decide))).trans hD0))), ((up2_o _ _ (Or.inl (by decide))).trans ((rd_fr (by decide)).trans (by first | exact hD1 | exact (up2_o _ _ (Or.inr (by decide))).trans hD1))), ((up2_o _ _ (Or.inl (by decide))).trans ((rd_fr (Or.inl (by decide))).trans (by first | exact hDn | exact (up2_o _ _ (Or.inl (by decide))).trans hDn))), (fun h9 _ => dt_s h9 c_141 hrd.2.2.2 (fun q9 => hDt h9 q9) (by first | exact rd_fr (by decide) | exact (rd_fr (by decide)).trans (up2_o _ _ (Or.inr (by decide)))) (by first | exact rd_fr (by decide) | exact (rd_fr (by decide)).trans (up2_o _ _ (Or.inl (by decide)))))⟩
            · refine lv_aload_n hx hb dX8_item_144 rfl (lv_at hl 3 rfl) ?_
              refine lv_iload_n hx hb dX8_item_145 rfl (lv_at hl 0 rfl) ?_
              refine f_iV (n := 1) X hP hS [.int (nI (pN D))] [] (c_X8_wrong l E (a_X8_reads D L s0 (pN D) en).2.1 L (nI (pN D))) m_5_192 wi_X8_wrong rfl rfl (by decide) (by decide +kernel) ⟨Nat.le_of_ble_eq_true rfl, Nat.le_of_ble_eq_true rfl⟩ rfl hl rfl (Nat.le_of_ble_eq_true rfl) ⟨Nat.zero_le _, Nat.zero_le _⟩ dX8_item_146 (fun H locs hP hS => ?_)
              refine f_ir X hlk hr (v := 0) rfl hP hS ?_ dX8_item_149
              unfold itemR
              (first | rw [if_pos hj43] | rw [if_neg hj43] | rw [if_neg (Bool.eq_false_iff.mp hj43)] | skip)
              (first | rw [if_pos c_50] | rw [if_neg c_50] | rw [if_neg (Bool.eq_false_iff.mp c_50)] | skip)
              rw [hbt_57]
              (first | rw [if_pos c_68] | rw [if_neg c_68] | rw [if_neg (Bool.eq_false_iff.mp c_68)] | skip)
              (first | rw [if_pos c_130] | rw [if_neg c_130] | rw [if_neg (Bool.eq_false_iff.mp c_130)] | skip)
              (first | rw [if_pos c_141] | rw [if_neg c_141] | rw [if_neg (Bool.eq_false_iff.mp c_141)] | skip)
              (try dsimp only)
              first
                | done
                | exact ⟨rfl, rfl⟩
                | rfl
                | (simp only [c_68, c_130, c_141, if_true, if_false, and_self, and_true, true_and, not_true_eq_false, not_false_eq_true, and_false, false_and, or_true, true_or, or_false, false_or, or_self, Bool.false_eq_true, reduceCtorEq, nl10, nl20, nl30, nl40, nl50, nl60, nl70, nl12, nl13, nl21, nl23, nl31, nl32]; first | done | exact ⟨rfl, rfl⟩ | rfl)
                | contradiction
                | (simp only [c_68, c_130, c_141, if_true, if_false, and_self, and_true, true_and, not_true_eq_false, not_false_eq_true, and_false, false_and, or_true, true_or, or_false, false_or, or_self, Bool.false_eq_true, reduceCtorEq, nl10, nl20, nl30, nl40, nl50, nl60, nl70, nl12, nl13, nl21, nl23, nl31, nl32]; contradiction)
                | (exfalso; simp_all; done)
                | simp_all
          · refine lv_iconst (v := 0) hx hb dX8_item_133 (by decide) ?_
            refine f_ir X hlk hr (v := 0) rfl hP hS ?_ dX8_item_134
            unfold itemR
            (first | rw [if_pos hj43] | rw [if_neg hj43] | rw [if_neg (Bool.eq_false_iff.mp hj43)] | skip)
            (first | rw [if_pos c_50] | rw [if_neg c_50] | rw [if_neg (Bool.eq_false_iff.mp c_50)] | skip)
            rw [hbt_57]
            (first | rw [if_pos c_68] | rw [if_neg c_68] | rw [if_neg (Bool.eq_false_iff.mp c_68)] | skip)
            (first | rw [if_pos c_130] | rw [if_neg c_130] | rw [if_neg (Bool.eq_false_iff.mp c_130)] | skip)
            (try dsimp only)
            first
              | done
              | exact ⟨rfl, rfl⟩
              | rfl
              | (simp only [c_68, c_130, if_true, if_false, and_self, and_true, true_and, not_true_eq_false, not_false_eq_true, and_false, false_and, or_true, true_or, or_false, false_or, or_self, Bool.false_eq_true, reduceCtorEq, nl10, nl20, nl30, nl40, nl50, nl60, nl70, nl12, nl13, nl21, nl23, nl31, nl32]; first | done | exact ⟨rfl, rfl⟩ | rfl)
              | contradiction
              | (simp only [c_68, c_130, if_true, if_false, and_self, and_true, true_and, not_true_eq_false, not_false_eq_true, and_false, false_and, or_true, true_or, or_false, false_or, or_self, Bool.false_eq_true, reduceCtorEq, nl10, nl20, nl30, nl40, nl50, nl60, nl70, nl12, nl13, nl21, nl23, nl31, nl32]; contradiction)
              | (exfalso; simp_all; done)
              | simp_all
        · have c_68 := (not_congr (nI_le_iff (a := i) (b := 0) (by omega) (by omega))).mp c_68
          refine lv_aload_n hx hb dX8_item_71 rfl (lv_at hl 2 rfl) ?_
          refine f_get X hP (T := TX8) (ci := 8) (k := 86) rfl inX8 rfl 33 (by decide) m_4_207 rfl (v := .int (nI (pN D))) (congrArg Value.int hDp) dX8_item_72 ?_
          refine lv_aload_n hx hb dX8_item_75 rfl (lv_at hl 2 rfl) ?_
          refine f_get X hP (T := TX8) (ci := 8) (k := 86) rfl inX8 rfl 34 (by decide) m_4_208 rfl (v := .int (nI en)) (congrArg Value.int hDe) dX8_item_76 ?_
          refine lv_icmp_ge (tgt := 102) hx hb dX8_item_79 (by decide) (fun c_79 => ?_) (fun c_79 => ?_)
          · have c_79 := (nI_le_iff (a := en) (b := (pN D)) (by omega) (by omega)).mp c_79
            refine lv_aload_n hx hb dX8_item_102 rfl (lv_at hl 2 rfl) ?_
            refine lv_aload_n hx hb dX8_item_103 rfl (lv_at hl 2 rfl) ?_
            refine f_get X hP (T := TX8) (ci := 8) (k := 86) rfl inX8 rfl 33 (by decide) m_4_207 rfl (v := .int (nI (pN D))) (congrArg Value.int hDp) dX8_item_104 ?_
            refine f_iV (n := 1) X hP hS [.int (nI (pN D))] [] (c_X8_wrong l E D L (nI (pN D))) m_5_192 wi_X8_wrong rfl rfl (by decide) (by decide +kernel) ⟨Nat.le_of_ble_eq_true rfl, Nat.le_of_ble_eq_true rfl⟩ rfl hl rfl (Nat.le_of_ble_eq_true rfl) ⟨Nat.zero_le _, Nat.zero_le _⟩ dX8_item_107 (fun H locs hP hS => ?_)
            refine f_ir X hlk hr (v := 0) rfl hP hS ?_ dX8_item_110
            unfold itemR
            (first | rw [if_pos hj43] | rw [if_neg hj43] | rw [if_neg (Bool.eq_false_iff.mp hj43)] | skip)
            (first | rw [if_pos c_50] | rw [if_neg c_50] | rw [if_neg (Bool.eq_false_iff.mp c_50)] | skip)
            rw [hbt_57]
            (first | rw [if_pos c_68] | rw [if_neg c_68] | rw [if_neg (Bool.eq_false_iff.mp c_68)] | skip)
            (first | rw [if_pos c_79] | rw [if_neg c_79] | rw [if_neg (Bool.eq_false_iff.mp c_79)] | skip)
            (try dsimp only)
            first
              | done
              | exact ⟨rfl, rfl⟩
              | rfl
              | (simp only [c_68, c_79, if_true, if_false, and_self, and_true, true_and, not_true_eq_false, not_false_eq_true, and_false, false_and, or_true, true_or, or_false, false_or, or_self, Bool.false_eq_true, reduceCtorEq, nl10, nl20, nl30, nl40, nl50, nl60, nl70, nl12, nl13, nl21, nl23, nl31, nl32]; first | done | exact ⟨rfl, rfl⟩ | rfl)
              | contradiction
              | (simp only [c_68, c_79, if_true, if_false, and_self, and_true, true_and, not_true_eq_false, not_false_eq_true, and_false, false_and, or_true, true_or, or_false, false_or, or_self, Bool.false_eq_true, reduceCtorEq, nl10, nl20, nl30, nl40, nl50, nl60, nl70, nl12, nl13, nl21, nl23, nl31, nl32]; contradiction)
              | (exfalso; simp_all; done)
              | simp_all
          · have c_79 := (not_congr (nI_le_iff (a := en) (b := (pN D)) (by omega) (by omega))).mp c_79
            refine lv_aload_n hx hb dX8_item_82 rfl (lv_at hl 2 rfl) ?_
            refine f_get X hP (T := TX8) (ci := 8) (k := 86) rfl inX8 rfl 25 (by decide) m_4_199 rfl (v := .ref (fad E 104)) rfl dX8_item_83 ?_
            refine lv_aload_n hx hb dX8_item_86 rfl (lv_at hl 2 rfl) ?_
            refine f_get X hP (T := TX8) (ci := 8) (k := 86) rfl inX8 rfl 32 (by decide) m_4_206 rfl (v := .int (nI (160 * s0))) (congrArg Value.int hDb) dX8_item_87 ?_
            refine lv_aload_n hx hb dX8_item_90 rfl (lv_at hl 2 rfl) ?_
            refine f_get X hP (T := TX8) (ci := 8) (k := 86) rfl inX8 rfl 33 (by decide) m_4_207 rfl (v := .int (nI (pN D))) (congrArg Value.int hDp) dX8_item_91 ?_
            refine lv_iadd hx hb dX8_item_94 ?_
            refine f_topI (nI_add (160 * s0) (pN D)) ?_
            refine f_lald X hP (k := 104) (n := 1280) (q := ((160 * s0) + (pN D))) rfl rfl (fIx_nI (by omega) (by decide)) dX8_item_95 ?_
            refine lv_l2i (v := ((L 104 ((160 * s0) + (pN D))).toInt32)) hx hb dX8_item_96 rfl ?_
            refine lv_bipush (v := 32) hx hb dX8_item_97 (by decide) ?_
            refine lv_icmp_eq (tgt := 111) hx hb dX8_item_99 (by decide) (fun c_99 => ?_) (fun c_99 => ?_)
            · refine lv_aload_n hx hb dX8_item_111 rfl (lv_at hl 2 rfl) ?_
              refine lv_dup hx hb dX8_item_112 rfl ?_
              refine f_get X hP (T := TX8) (ci := 8) (k := 86) rfl inX8 rfl 33 (by decide) m_4_207 rfl (v := .int (nI (pN D))) (congrArg Value.int hDp) dX8_item_113 ?_
              refine lv_iconst (v := 1) hx hb dX8_item_116 (by decide) ?_
              refine lv_iadd hx hb dX8_item_117 ?_
              refine f_topI (nI_add (pN D) 1) ?_
              refine f_put X hP hS (T := TX8) (ci := 8) (k := 86) rfl inX8 rfl tyX8 tyX8_ok nmX8 33 (by decide) m_4_207 ⟨rfl, rfl⟩ rfl (v := (nI ((pN D) + 1))) rfl rfl dX8_item_118 (fun H locs hP hS => ?_)
              refine lv_aload_n hx hb dX8_item_121 rfl (lv_at hl 2 rfl) ?_
              refine f_get X hP (T := TX8) (ci := 8) (k := 86) rfl inX8 rfl 33 (by decide) m_4_207 rfl (v := .int (nI ((pN D) + 1))) (congrArg Value.int (up2_s _ _ _ _)) dX8_item_122 ?_
              refine lv_istore_n (lv' := [(3, .int (nI ((pN D) + 1))), (2, .int (nI i)), (1, .int (nI (wdx M L s0 pl en))), (0, .ref (fad E 86))]) hx hb dX8_item_125 rfl hl (by decide) rfl (fun ls hl => ?_)
              refine lv_aload_n hx hb dX8_item_126 rfl (lv_at hl 3 rfl) ?_
              refine f_iV (n := 0) X hP hS [] [] (c_X8_reads l E (up2 D 86 33 (nI ((pN D) + 1))) L s0 ((pN D) + 1) en (by first | exact hDb | exact (up2_o _ _ (Or.inr (by decide))).trans hDb) hs08 (by first | exact hDp | exact up2_s _ _ _ _) (by first | exact hDe | exact (up2_o _ _ (Or.inr (by decide))).trans hDe) hen1 (by omega)) m_5_200 wi_X8_reads rfl rfl (by decide) (by decide +kernel) ⟨Nat.le_of_ble_eq_true rfl, Nat.le_of_ble_eq_true rfl⟩ rfl hl rfl (Nat.le_of_ble_eq_true rfl) ⟨Nat.zero_le _, Nat.zero_le _⟩ dX8_item_127 (fun H locs hP hS => ?_)
              refine lv_if_ne (tgt := 135) hx hb dX8_item_130 (by decide) (fun c_130 => ?_) (fun c_130 => ?_)
              · have hrd := rd_sp (by first | exact hDp | exact up2_s _ _ _ _) hen1 (by omega) c_130
                refine lv_aload_n hx hb dX8_item_135 rfl (lv_at hl 3 rfl) ?_
                refine lv_iload_n hx hb dX8_item_136 rfl (lv_at hl 2 rfl) ?_
                refine lv_iload_n hx hb dX8_item_137 rfl (lv_at hl 1 rfl) ?_
                refine f_iV (n := 2) X hP hS [.int (nI (wdx M L s0 pl en)), .int (nI i)] [] (c_X8_isSo l E (a_X8_reads (up2 D 86 33 (nI ((pN D) + 1))) L s0 ((pN D) + 1) en).2.1 L (nI (wdx M L s0 pl en)) (nI i) i (fIx_nI (by omega) (by decide)) (so5 hw9.2.1 c_64)) m_5_208 wi_X8_isSo rfl rfl (by decide) (by decide +kernel) ⟨Nat.le_of_ble_eq_true rfl, Nat.le_of_ble_eq_true rfl⟩ rfl hl rfl (Nat.le_of_ble_eq_true rfl) ⟨Nat.zero_le _, Nat.zero_le _⟩ dX8_item_138 (fun H locs hP hS => ?_)
                refine lv_if_ne (tgt := 150) hx hb dX8_item_141 (by decide) (fun c_141 => ?_) (fun c_141 => ?_)
                · refine lv_aload_n hx hb dX8_item_150 rfl (lv_at hl 3 rfl) ?_
                  refine f_get X hP (T := TX8) (ci := 8) (k := 86) rfl inX8 rfl 31 (by decide) m_4_205 rfl (v := .ref (fad E 110)) rfl dX8_item_151 ?_
                  refine lv_iload_n hx hb dX8_item_154 rfl (lv_at hl 1 rfl) ?_
                  refine lv_aload_n hx hb dX8_item_155 rfl (lv_at hl 3 rfl) ?_
                  refine f_get X hP (T := TX8) (ci := 8) (k := 86) rfl inX8 rfl 35 (by decide) m_4_209 rfl (v := .int ((a_X8_reads (up2 D 86 33 (nI ((pN D) + 1))) L s0 ((pN D) + 1) en).2.1 86 35)) rfl dX8_item_156 ?_
                  refine f_iast X hP hS (k := 110) (n := 7) (q := i) rfl rfl (v := ((a_X8_reads (up2 D 86 33 (nI ((pN D) + 1))) L s0 ((pN D) + 1) en).2.1 86 35)) (fIx_nI (by omega) (by decide)) dX8_item_159 (fun H locs hP hS => ?_)
                  refine lv_iinc (v := (nI (i + 1))) (lv' := [(2, .int (nI (i + 1))), (3, .int (nI ((pN D) + 1))), (1, .int (nI (wdx M L s0 pl en))), (0, .ref (fad E 86))]) hx hb dX8_item_160 hl (k := 1) rfl (nI_1 _) (by decide) rfl (fun ls hl => ?_)
                  refine lv_goto (tgt := 57) hx hb dX8_item_163 (by decide) ?_
                  exact ih_57 ((i + 1), (up2 (a_X8_reads (up2 D 86 33 (nI ((pN D) + 1))) L s0 ((pN D) + 1) en).2.1 110 i ((a_X8_reads (up2 D 86 33 (nI ((pN D) + 1))) L s0 ((pN D) + 1) en).2.1 86 35))) _ _ _ (by show (nmN (wdx M L s0 pl en)) - (i + 1) < (nmN (wdx M L s0 pl en)) - i; omega) ⟨hP, hS, lv_sub hl [0, 2, 3] rfl, (by omega), (by
                    refine hbt_57.trans ?_
                    (first | rw [if_pos c_68] | rw [if_neg c_68] | rw [if_neg (Bool.eq_false_iff.mp c_68)] | skip)
                    (first | rw [if_pos c_79] | rw [if_neg c_79] | rw [if_neg (Bool.eq_false_iff.mp c_79)] | skip)
                    (first | rw [if_pos c_99] | rw [if_neg c_99] | rw [if_neg (Bool.eq_false_iff.mp c_99)] | skip)
                    (first | rw [if_pos c_130] | rw [if_neg c_130] | rw [if_neg (Bool.eq_false_iff.mp c_130)] | skip)
                    (first | rw [if_pos c_141] | rw [if_neg c_141] | rw [if_neg (Bool.eq_false_iff.mp c_141)] | skip)
                    first | done | rfl), ((up2_o _ _ (Or.inl (by decide))).trans ((rd_fr (by decide)).trans (by first | exact hDb | exact (up2_o _ _ (Or.inr (by decide))).trans hDb))), ((up2_o _ _ (Or.inl (by decide))).trans ((rd_fr (by decide)).trans (by first | exact hDe | exact (up2_o _ _ (Or.inr (by decide))).trans hDe))), ((up2_o _ _ (Or.inl (by decide))).trans (hrd.1.trans (congrArg nI (pN_o (Or.inl (by decide))).symm))), (by rw [pN_o (Or.inl (by decide))]; exact hrd.2.1), ((up2_o _ _ (Or.inl (by decide))).trans ((rd_fr (by decide)).trans (by first | exact hD0 | exact (up2_o _ _ (Or.inr (by decide))).trans hD0))), ((up2_o _ _ (Or.inl (by decide))).trans ((rd_fr (by decide)).trans (by first | exact hD1 | exact (up2_o _ _ (Or.inr (by decide))).trans hD1))), ((up2_o _ _ (Or.inl (by decide))).trans ((rd_fr (Or.inl (by decide))).trans (by first | exact hDn | exact (up2_o _ _ (Or.inl (by decide))).trans hDn))), (fun h9 _ => dt_s h9 c_141 hrd.2.2.2 (fun q9 => hDt h9 q9) (by first | exact rd_fr (by decide) | exact (rd_fr (by decide)).trans (up2_o _ _ (Or.inr (by decide)))) (by first | exact rd_fr (by decide) | exact (rd_fr (by decide)).trans (up2_o _ _ (Or.inl (by decide)))))⟩
                · refine lv_aload_n hx hb dX8_item_144 rfl (lv_at hl 3 rfl) ?_
                  refine lv_iload_n hx hb dX8_item_145 rfl (lv_at hl 0 rfl) ?_
                  refine f_iV (n := 1) X hP hS [.int (nI ((pN D) + 1))] [] (c_X8_wrong l E (a_X8_reads (up2 D 86 33 (nI ((pN D) + 1))) L s0 ((pN D) + 1) en).2.1 L (nI ((pN D) + 1))) m_5_192 wi_X8_wrong rfl rfl (by decide) (by decide +kernel) ⟨Nat.le_of_ble_eq_true rfl, Nat.le_of_ble_eq_true rfl⟩ rfl hl rfl (Nat.le_of_ble_eq_true rfl) ⟨Nat.zero_le _, Nat.zero_le _⟩ dX8_item_146 (fun H locs hP hS => ?_)
                  refine f_ir X hlk hr (v := 0) rfl hP hS ?_ dX8_item_149
                  unfold itemR
                  (first | rw [if_pos hj43] | rw [if_neg hj43] | rw [if_neg (Bool.eq_false_iff.mp hj43)] | skip)
                  (first | rw [if_pos c_50] | rw [if_neg c_50] | rw [if_neg (Bool.eq_false_iff.mp c_50)] | skip)
                  rw [hbt_57]
                  (first | rw [if_pos c_68] | rw [if_neg c_68] | rw [if_neg (Bool.eq_false_iff.mp c_68)] | skip)
                  (first | rw [if_pos c_79] | rw [if_neg c_79] | rw [if_neg (Bool.eq_false_iff.mp c_79)] | skip)
                  (first | rw [if_pos c_99] | rw [if_neg c_99] | rw [if_neg (Bool.eq_false_iff.mp c_99)] | skip)
                  (first | rw [if_pos c_130] | rw [if_neg c_130] | rw [if_neg (Bool.eq_false_iff.mp c_130)] | skip)
                  (first | rw [if_pos c_141] | rw [if_neg c_141] | rw [if_neg (Bool.eq_false_iff.mp c_141)] | skip)
                  (try dsimp only)
                  first
                    | done
                    | exact ⟨rfl, rfl⟩
                    | rfl
                    | (simp only [c_68, c_79, c_99, c_130, c_141, if_true, if_false, and_self, and_true, true_and, not_true_eq_false, not_false_eq_true, and_false, false_and, or_true, true_or, or_false, false_or, or_self, Bool.false_eq_true, reduceCtorEq, nl10, nl20, nl30, nl40, nl50, nl60, nl70, nl12, nl13, nl21, nl23, nl31, nl32]; first | done | exact ⟨rfl, rfl⟩ | rfl)
                    | contradiction
                    | (simp only [c_68, c_79, c_99, c_130, c_141, if_true, if_false, and_self, and_true, true_and, not_true_eq_false, not_false_eq_true, and_false, false_and, or_true, true_or, or_false, false_or, or_self, Bool.false_eq_true, reduceCtorEq, nl10, nl20, nl30, nl40, nl50, nl60, nl70, nl12, nl13, nl21, nl23, nl31, nl32]; contradiction)
                    | (exfalso; simp_all; done)
                    | simp_all
              · refine lv_iconst (v := 0) hx hb dX8_item_133 (by decide) ?_
                refine f_ir X hlk hr (v := 0) rfl hP hS ?_ dX8_item_134
                unfold itemR
                (first | rw [if_pos hj43] | rw [if_neg hj43] | rw [if_neg (Bool.eq_false_iff.mp hj43)] | skip)
                (first | rw [if_pos c_50] | rw [if_neg c_50] | rw [if_neg (Bool.eq_false_iff.mp c_50)] | skip)
                rw [hbt_57]
                (first | rw [if_pos c_68] | rw [if_neg c_68] | rw [if_neg (Bool.eq_false_iff.mp c_68)] | skip)
                (first | rw [if_pos c_79] | rw [if_neg c_79] | rw [if_neg (Bool.eq_false_iff.mp c_79)] | skip)
                (first | rw [if_pos c_99] | rw [if_neg c_99] | rw [if_neg (Bool.eq_false_iff.mp c_99)] | skip)
                (first | rw [if_pos c_130] | rw [if_neg c_130] | rw [if_neg (Bool.eq_false_iff.mp c_130)] | skip)
                (try dsimp only)
                first
                  | done
                  | exact ⟨rfl, rfl⟩
                  | rfl
                  | (simp only [c_68, c_79, c_99, c_130, if_true, if_false, and_self, and_true, true_and, not_true_eq_false, not_false_eq_true, and_false, false_and, or_true, true_or, or_false, false_or, or_self, Bool.false_eq_true, reduceCtorEq, nl10, nl20, nl30, nl40, nl50, nl60, nl70, nl12, nl13, nl21, nl23, nl31, nl32]; first | done | exact ⟨rfl, rfl⟩ | rfl)
                  | contradiction
                  | (simp only [c_68, c_79, c_99, c_130, if_true, if_false, and_self, and_true, true_and, not_true_eq_false, not_false_eq_true, and_false, false_and, or_true, true_or, or_false, false_or, or_self, Bool.false_eq_true, reduceCtorEq, nl10, nl20, nl30, nl40, nl50, nl60, nl70, nl12, nl13, nl21, nl23, nl31, nl32]; contradiction)
                  | (exfalso; simp_all; done)
                  | simp_all
            · refine lv_aload_n hx hb dX8_item_102 rfl (lv_at hl 2 rfl) ?_
              refine lv_aload_n hx hb dX8_item_103 rfl (lv_at hl 2 rfl) ?_
              refine f_get X hP (T := TX8) (ci := 8) (k := 86) rfl inX8 rfl 33 (by decide) m_4_207 rfl (v := .int (nI (pN D))) (congrArg Value.int hDp) dX8_item_104 ?_
              refine f_iV (n := 1) X hP hS [.int (nI (pN D))] [] (c_X8_wrong l E D L (nI (pN D))) m_5_192 wi_X8_wrong rfl rfl (by decide) (by decide +kernel) ⟨Nat.le_of_ble_eq_true rfl, Nat.le_of_ble_eq_true rfl⟩ rfl hl rfl (Nat.le_of_ble_eq_true rfl) ⟨Nat.zero_le _, Nat.zero_le _⟩ dX8_item_107 (fun H locs hP hS => ?_)
              refine f_ir X hlk hr (v := 0) rfl hP hS ?_ dX8_item_110
              unfold itemR
              (first | rw [if_pos hj43] | rw [if_neg hj43] | rw [if_neg (Bool.eq_false_iff.mp hj43)] | skip)
              (first | rw [if_pos c_50] | rw [if_neg c_50] | rw [if_neg (Bool.eq_false_iff.mp c_50)] | skip)
              rw [hbt_57]
              (first | rw [if_pos c_68] | rw [if_neg c_68] | rw [if_neg (Bool.eq_false_iff.mp c_68)] | skip)
              (first | rw [if_pos c_79] | rw [if_neg c_79] | rw [if_neg (Bool.eq_false_iff.mp c_79)] | skip)
              (first | rw [if_pos c_99] | rw [if_neg c_99] | rw [if_neg (Bool.eq_false_iff.mp c_99)] | skip)
              (try dsimp only)
              first
                | done
                | exact ⟨rfl, rfl⟩
                | rfl
                | (simp only [c_68, c_79, c_99, if_true, if_false, and_self, and_true, true_and, not_true_eq_false, not_false_eq_true, and_false, false_and, or_true, true_or, or_false, false_or, or_self, Bool.false_eq_true, reduceCtorEq, nl10, nl20, nl30, nl40, nl50, nl60, nl70, nl12, nl13, nl21, nl23, nl31, nl32]; first | done | exact ⟨rfl, rfl⟩ | rfl)
                | contradiction
                | (simp only [c_68, c_79, c_99, if_true, if_false, and_self, and_true, true_and, not_true_eq_false, not_false_eq_true, and_false, false_and, or_true, true_or, or_false, false_or, or_self, Bool.false_eq_true, reduceCtorEq, nl10, nl20, nl30, nl40, nl50, nl60, nl70, nl12, nl13, nl21, nl23, nl31, nl32]; contradiction)
                | (exfalso; simp_all; done)
                | simp_all
    · refine lv_iconst (v := 0) hx hb dX8_item_53 (by decide) ?_
      refine f_ir X hlk hr (v := 0) rfl hP hS ?_ dX8_item_54
      unfold itemR
      (first | rw [if_pos hj43] | rw [if_neg hj43] | rw [if_neg (Bool.eq_false_iff.mp hj43)] | skip)
      (first | rw [if_pos c_50] | rw [if_neg c_50] | rw [if_neg (Bool.eq_false_iff.mp c_50)] | skip)
      (try dsimp only)
      first
        | done
        | exact ⟨rfl, rfl⟩
        | rfl
        | (simp only [hj43, c_50, if_true, if_false, and_self, and_true, true_and, not_true_eq_false, not_false_eq_true, and_false, false_and, or_true, true_or, or_false, false_or, or_self, Bool.false_eq_true, reduceCtorEq, nl10, nl20, nl30, nl40, nl50, nl60, nl70, nl12, nl13, nl21, nl23, nl31, nl32]; first | done | exact ⟨rfl, rfl⟩ | rfl)
        | contradiction
        | (simp only [hj43, c_50, if_true, if_false, and_self, and_true, true_and, not_true_eq_false, not_false_eq_true, and_false, false_and, or_true, true_or, or_false, false_or, or_self, Bool.false_eq_true, reduceCtorEq, nl10, nl20, nl30, nl40, nl50, nl60, nl70, nl12, nl13, nl21, nl23, nl31, nl32]; contradiction)
        | (exfalso; simp_all; done)
        | simp_all
  intro jn_43
  refine lv_aload_n hx hb dX8_item_0 rfl (lv_at hl 0 rfl) ?_
  refine lv_iconst (v := 0) hx hb dX8_item_1 (by decide) ?_
  refine f_iV (n := 1) X hP hS [.int 0] [] (c_X8_stands l E M L 0 s0 pl en 0 hba hs08 hpl hen hen1 hpe hwd nI_0.symm (by decide)) m_5_188 wi_X8_stands rfl rfl (by decide) (by decide +kernel) ⟨Nat.le_of_ble_eq_true rfl, Nat.le_of_ble_eq_true rfl⟩ rfl hl rfl (Nat.le_of_ble_eq_true rfl) ⟨Nat.zero_le _, Nat.zero_le _⟩ dX8_item_2 (fun H locs hP hS => ?_)
  refine lv_if_eq (tgt := 17) hx hb dX8_item_5 (by decide) (fun c_5 => ?_) (fun c_5 => ?_)
  · refine lv_aload_n hx hb dX8_item_17 rfl (lv_at hl 0 rfl) ?_
    refine lv_iconst (v := 1) hx hb dX8_item_18 (by decide) ?_
    refine f_iV (n := 1) X hP hS [.int 1] [] (c_X8_stands l E M L 1 s0 pl en 1 hba hs08 hpl hen hen1 hpe hwd rfl (by decide)) m_5_188 wi_X8_stands rfl rfl (by decide) (by decide +kernel) ⟨Nat.le_of_ble_eq_true rfl, Nat.le_of_ble_eq_true rfl⟩ rfl hl rfl (Nat.le_of_ble_eq_true rfl) ⟨Nat.zero_le _, Nat.zero_le _⟩ dX8_item_19 (fun H locs hP hS => ?_)
    refine lv_if_eq (tgt := 43) hx hb dX8_item_22 (by decide) (fun c_22 => ?_) (fun c_22 => ?_)
    · exact jn_43 () _ _ _ ⟨hP, hS, lv_sub hl [0] rfl, (by rintro (⟨h1, h2⟩ | ⟨h1, h2⟩) <;> first | exact h1 c_5 | exact c_14 h2 | exact h1 c_22 | exact c_31 h2)⟩
    · refine lv_aload_n hx hb dX8_item_25 rfl (lv_at hl 0 rfl) ?_
      refine f_get X hP (T := TX8) (ci := 8) (k := 86) rfl inX8 rfl 0 (by decide) m_4_174 rfl (v := .int (nI wc)) (congrArg Value.int hwc) dX8_item_26 ?_
      refine lv_bipush (v := 6) hx hb dX8_item_29 (by decide) ?_
      refine lv_icmp_ne (tgt := 43) hx hb dX8_item_31 (by decide) (fun c_31 => ?_) (fun c_31 => ?_)
      · have c_31 := (not_congr (nI_eq (a := wc) (b := 6) (by omega) (by omega))).mp c_31
        exact jn_43 () _ _ _ ⟨hP, hS, lv_sub hl [0] rfl, (by rintro (⟨h1, h2⟩ | ⟨h1, h2⟩) <;> first | exact h1 c_5 | exact c_14 h2 | exact h1 c_22 | exact c_31 h2)⟩
      · have c_31 := (nI_eq (a := wc) (b := 6) (by omega) (by omega)).mp c_31
        refine lv_aload_n hx hb dX8_item_34 rfl (lv_at hl 0 rfl) ?_
        refine lv_aload_n hx hb dX8_item_35 rfl (lv_at hl 0 rfl) ?_
        refine f_get X hP (T := TX8) (ci := 8) (k := 86) rfl inX8 rfl 33 (by decide) m_4_207 rfl (v := .int (nI pl)) (congrArg Value.int hpl) dX8_item_36 ?_
        refine f_iV (n := 1) X hP hS [.int (nI pl)] [] (c_X8_wrong l E M L (nI pl)) m_5_192 wi_X8_wrong rfl rfl (by decide) (by decide +kernel) ⟨Nat.le_of_ble_eq_true rfl, Nat.le_of_ble_eq_true rfl⟩ rfl hl rfl (Nat.le_of_ble_eq_true rfl) ⟨Nat.zero_le _, Nat.zero_le _⟩ dX8_item_39 (fun H locs hP hS => ?_)
        refine f_ir X hlk hr (v := 0) rfl hP hS ?_ dX8_item_42
        unfold itemR; rw [if_pos (by first | exact Or.inl ⟨c_5, c_14⟩ | exact Or.inr ⟨c_22, c_31⟩)]; exact ⟨rfl, rfl⟩
  · refine lv_aload_n hx hb dX8_item_8 rfl (lv_at hl 0 rfl) ?_
    refine f_get X hP (T := TX8) (ci := 8) (k := 86) rfl inX8 rfl 1 (by decide) m_4_175 rfl (v := .int (nI tc)) (congrArg Value.int htc) dX8_item_9 ?_
    refine lv_bipush (v := 8) hx hb dX8_item_12 (by decide) ?_
    refine lv_icmp_eq (tgt := 34) hx hb dX8_item_14 (by decide) (fun c_14 => ?_) (fun c_14 => ?_)
    · have c_14 := (nI_eq (a := tc) (b := 8) (by omega) (by omega)).mp c_14
      refine lv_aload_n hx hb dX8_item_34 rfl (lv_at hl 0 rfl) ?_
      refine lv_aload_n hx hb dX8_item_35 rfl (lv_at hl 0 rfl) ?_
      refine f_get X hP (T := TX8) (ci := 8) (k := 86) rfl inX8 rfl 33 (by decide) m_4_207 rfl (v := .int (nI pl)) (congrArg Value.int hpl) dX8_item_36 ?_
      refine f_iV (n := 1) X hP hS [.int (nI pl)] [] (c_X8_wrong l E M L (nI pl)) m_5_192 wi_X8_wrong rfl rfl (by decide) (by decide +kernel) ⟨Nat.le_of_ble_eq_true rfl, Nat.le_of_ble_eq_true rfl⟩ rfl hl rfl (Nat.le_of_ble_eq_true rfl) ⟨Nat.zero_le _, Nat.zero_le _⟩ dX8_item_39 (fun H locs hP hS => ?_)
      refine f_ir X hlk hr (v := 0) rfl hP hS ?_ dX8_item_42
      unfold itemR; rw [if_pos (by first | exact Or.inl ⟨c_5, c_14⟩ | exact Or.inr ⟨c_22, c_31⟩)]; exact ⟨rfl, rfl⟩
    · have c_14 := (not_congr (nI_eq (a := tc) (b := 8) (by omega) (by omega))).mp c_14
      refine lv_aload_n hx hb dX8_item_17 rfl (lv_at hl 0 rfl) ?_
      refine lv_iconst (v := 1) hx hb dX8_item_18 (by decide) ?_
      refine f_iV (n := 1) X hP hS [.int 1] [] (c_X8_stands l E M L 1 s0 pl en 1 hba hs08 hpl hen hen1 hpe hwd rfl (by decide)) m_5_188 wi_X8_stands rfl rfl (by decide) (by decide +kernel) ⟨Nat.le_of_ble_eq_true rfl, Nat.le_of_ble_eq_true rfl⟩ rfl hl rfl (Nat.le_of_ble_eq_true rfl) ⟨Nat.zero_le _, Nat.zero_le _⟩ dX8_item_19 (fun H locs hP hS => ?_)
      refine lv_if_eq (tgt := 43) hx hb dX8_item_22 (by decide) (fun c_22 => ?_) (fun c_22 => ?_)
      · exact jn_43 () _ _ _ ⟨hP, hS, lv_sub hl [0] rfl, (by rintro (⟨h1, h2⟩ | ⟨h1, h2⟩) <;> first | exact h1 c_5 | exact c_14 h2 | exact h1 c_22 | exact c_31 h2)⟩
      · refine lv_aload_n hx hb dX8_item_25 rfl (lv_at hl 0 rfl) ?_
        refine f_get X hP (T := TX8) (ci := 8) (k := 86) rfl inX8 rfl 0 (by decide) m_4_174 rfl (v := .int (nI wc)) (congrArg Value.int hwc) dX8_item_26 ?_
        refine lv_bipush (v := 6) hx hb dX8_item_29 (by decide) ?_
        refine lv_icmp_ne (tgt := 43) hx hb dX8_item_31 (by decide) (fun c_31 => ?_) (fun c_31 => ?_)
        · have c_31 := (not_congr (nI_eq (a := wc) (b := 6) (by omega) (by omega))).mp c_31
          exact jn_43 () _ _ _ ⟨hP, hS, lv_sub hl [0] rfl, (by rintro (⟨h1, h2⟩ | ⟨h1, h2⟩) <;> first | exact h1 c_5 | exact c_14 h2 | exact h1 c_22 | exact c_31 h2)⟩
        · have c_31 := (nI_eq (a := wc) (b := 6) (by omega) (by omega)).mp c_31
          refine lv_aload_n hx hb dX8_item_34 rfl (lv_at hl 0 rfl) ?_
          refine lv_aload_n hx hb dX8_item_35 rfl (lv_at hl 0 rfl) ?_
          refine f_get X hP (T := TX8) (ci := 8) (k := 86) rfl inX8 rfl 33 (by decide) m_4_207 rfl (v := .int (nI pl)) (congrArg Value.int hpl) dX8_item_36 ?_
          refine f_iV (n := 1) X hP hS [.int (nI pl)] [] (c_X8_wrong l E M L (nI pl)) m_5_192 wi_X8_wrong rfl rfl (by decide) (by decide +kernel) ⟨Nat.le_of_ble_eq_true rfl, Nat.le_of_ble_eq_true rfl⟩ rfl hl rfl (Nat.le_of_ble_eq_true rfl) ⟨Nat.zero_le _, Nat.zero_le _⟩ dX8_item_39 (fun H locs hP hS => ?_)
          refine f_ir X hlk hr (v := 0) rfl hP hS ?_ dX8_item_42
          unfold itemR; rw [if_pos (by first | exact Or.inl ⟨c_5, c_14⟩ | exact Or.inr ⟨c_22, c_31⟩)]; exact ⟨rfl, rfl⟩
