set_option maxHeartbeats 4000000 in
set_option maxRecDepth 100000 in
theorem c_X8_lays (l : Launch) (E : fE) (M : Nat → Nat → Int32) (L : Nat → Nat → Int64) (q1 : Int32) (wc q0 : Nat) (hwc : M 86 0 = nI wc) (hwc6 : wc ≤ 6) (eq1 : q1 = nI q0) (hq : q0 ≤ 24) (hHd : ∀ w, w < wc → 0 ≤ a_X8_holding M L (nI w) w) : Met l yX8_lays (wl yX8_lays cX8_lays 7 none) (fRm 1 25) (va_Pc [.ref (fad E 86), .int q1] (fPre E M L)) (fQv E (fun u => u.2 = L ∧ frL M u.1 ∧ ∀ w, w ≤ wc → ∀ q, q ≤ q0 → u.1 113 (25 * w + q) = rtF M L wc (wc - w) q)) 0 0 (fA E) := by
  refine f_head (by decide) (Nat.le_of_ble_eq_true rfl) ?_
  intro pg ev s mi below meth cd ls X hr hlk hP hS hl
  have hx := X.1.1
  have hb := X.1.2.1
  have hl : lv_has ls 7 [(0, .ref (fad E 86)), (1, .int q1)] := hl
  subst eq1
  refine lv_iconst (v := 0) hx hb dX8_lays_0 (by decide) ?_
  refine lv_istore_n (lv' := [(2, .int 0), (0, .ref (fad E 86)), (1, .int (nI q0))]) hx hb dX8_lays_1 rfl hl (by decide) rfl (fun ls hl => ?_)
  refine f_loop (α := Nat × (Nat → Nat → Int32)) (fun (a : Nat × (Nat → Nat → Int32)) H locs ls => match a with | (i, D) => fP E D L H ∧ va_S (fA E) s.heap H locs ∧ lv_has ls 7 [(2, .int (nI i)), (0, .ref (fad E 86)), (1, .int (nI q0))] ∧ (i ≤ q0 + 1) ∧ (frL M D) ∧ (∀ q, q < i → D 113 (25 * wc + q) = rtF M L wc 0 q)) (fun (a : Nat × (Nat → Nat → Int32)) => match a with | (i, D) => q0 + 1 - i) (pc0 := 2) (st := fun _ => []) ?_ (0, M) _ _ _ ⟨hP, hS, lv_sub hl [0, 1, 2] rfl, (by omega), frL.rf, (fun q hq => absurd hq (by omega))⟩
  rintro ⟨i, D⟩ H locs ls ⟨hP, hS, hl, hi, hfr, hrow⟩ ih_2
  refine lv_iload_n hx hb dX8_lays_2 rfl (lv_at hl 0 rfl) ?_
  refine lv_iload_n hx hb dX8_lays_3 rfl (lv_at hl 2 rfl) ?_
  refine lv_icmp_gt (tgt := 36) hx hb dX8_lays_4 (by decide) (fun c_4 => ?_) (fun c_4 => ?_)
  · have c_4 := (nI_lt_iff (a := q0) (b := i) (by omega) (by omega)).mp c_4
    have hrow0 : ∀ q, q ≤ q0 → D 113 (25 * wc + q) = rtF M L wc 0 q := fun q hq => hrow q (by omega)
    refine lv_aload_n hx hb dX8_lays_36 rfl (lv_at hl 1 rfl) ?_
    refine f_get X hP (T := TX8) (ci := 8) (k := 86) rfl inX8 rfl 0 (by decide) m_4_174 rfl (v := .int (nI wc)) (congrArg Value.int ((hfr 86 0 (by decide)).trans hwc)) dX8_lays_37 ?_
    refine lv_iconst (v := 1) hx hb dX8_lays_40 (by decide) ?_
    refine lv_isub hx hb dX8_lays_41 ?_
    refine lv_istore_n (lv' := [(2, .int ((nI wc) - 1)), (0, .ref (fad E 86)), (1, .int (nI q0))]) hx hb dX8_lays_42 rfl hl (by decide) rfl (fun ls hl => ?_)
    refine f_loop (α := Nat × (Nat → Nat → Int32)) (fun (a : Nat × (Nat → Nat → Int32)) H locs ls => match a with | (v, D2) => fP E D2 L H ∧ va_S (fA E) s.heap H locs ∧ lv_has ls 7 [(2, .int ((nI v) - 1)), (0, .ref (fad E 86)), (1, .int (nI q0))] ∧ (v ≤ wc) ∧ (frL M D2) ∧ (∀ w, v ≤ w → w ≤ wc → ∀ q, q ≤ q0 → D2 113 (25 * w + q) = rtF M L wc (wc - w) q)) (fun (a : Nat × (Nat → Nat → Int32)) => match a with | (v, D2) => v) (pc0 := 43) (st := fun _ => []) ?_ (wc, D) _ _ _ ⟨hP, hS, lv_sub hl [0, 1, 2] rfl, (by omega), hfr, (tab_0X hrow0)⟩
    rintro ⟨v, D2⟩ H locs ls ⟨hP, hS, hl, hv, hfr2, htab⟩ ih_43
    refine lv_iload_n hx hb dX8_lays_43 rfl (lv_at hl 0 rfl) ?_
    refine lv_if_lt (tgt := 164) hx hb dX8_lays_44 (by decide) (fun c_44 => ?_) (fun c_44 => ?_)
    · obtain rfl : v = 0 := (vm1 (by omega)).mp c_44
      refine f_vr X hlk hr hP hS ?_ dX8_lays_164
      skip
      exact ⟨rfl, hfr2, fun w hw q hq => htab w (Nat.zero_le _) hw q hq⟩
    · have hv0 : ¬ v = 0 := fun h9 => c_44 ((vm1 (by omega)).mpr h9)
      obtain ⟨w, rfl⟩ : ∃ w, v = w + 1 := ⟨v - 1, by omega⟩
      have hl : lv_has ls 7 [(2, .int (nI w)), (0, .ref (fad E 86)), (1, .int (nI q0))] := by rw [← nI_pred w]; exact hl
      have hh24 := rh_le (M := M) (L := L) w
      refine lv_iconst (v := 0) hx hb dX8_lays_47 (by decide) ?_
      refine lv_istore_n (lv' := [(3, .int 0), (2, .int (nI w)), (0, .ref (fad E 86)), (1, .int (nI q0))]) hx hb dX8_lays_48 rfl hl (by decide) rfl (fun ls hl => ?_)
      refine f_loop (α := Nat × (Nat → Nat → Int32)) (fun (a : Nat × (Nat → Nat → Int32)) H locs ls => match a with | (q, D3) => fP E D3 L H ∧ va_S (fA E) s.heap H locs ∧ lv_has ls 7 [(3, .int (nI q)), (2, .int (nI w)), (0, .ref (fad E 86)), (1, .int (nI q0))] ∧ (q ≤ q0 + 1) ∧ (frL M D3) ∧ (∀ w1, w + 1 ≤ w1 → w1 ≤ wc → ∀ q, q ≤ q0 → D3 113 (25 * w1 + q) = rtF M L wc (wc - w1) q) ∧ (∀ q1, q1 < q → D3 113 (25 * w + q1) = rtF M L wc (wc - w) q1)) (fun (a : Nat × (Nat → Nat → Int32)) => match a with | (q, D3) => q0 + 1 - q) (pc0 := 49) (st := fun _ => []) ?_ (0, D2) _ _ _ ⟨hP, hS, lv_sub hl [0, 1, 2, 3] rfl, (by omega), hfr2, htab, (fun q hq => absurd hq (by omega))⟩
      rintro ⟨q, D3⟩ H locs ls ⟨hP, hS, hl, hq3, hfr3, htab3, hrow3⟩ ih_49
      refine lv_iload_n hx hb dX8_lays_49 rfl (lv_at hl 0 rfl) ?_
      refine lv_iload_n hx hb dX8_lays_50 rfl (lv_at hl 3 rfl) ?_
      refine lv_icmp_gt (tgt := 158) hx hb dX8_lays_51 (by decide) (fun c_51 => ?_) (fun c_51 => ?_)
      · have c_51 := (nI_lt_iff (a := q0) (b := q) (by omega) (by omega)).mp c_51
        refine lv_iinc (v := ((nI w) + (-1))) (lv' := [(2, .int ((nI w) + (-1))), (3, .int (nI q)), (0, .ref (fad E 86)), (1, .int (nI q0))]) hx hb dX8_lays_158 hl (k := 1) rfl rfl (by decide) rfl (fun ls hl => ?_)
        have hl : lv_has ls 7 [(2, .int ((nI w) - 1)), (3, .int (nI q)), (0, .ref (fad E 86)), (1, .int (nI q0))] := by rw [im1]; exact hl
        refine lv_goto (tgt := 43) hx hb dX8_lays_161 (by decide) ?_
        exact ih_43 (w, D3) _ _ _ (by show w < w + 1; omega) ⟨hP, hS, lv_sub hl [0, 2, 3] rfl, (by omega), hfr3, (tab_nX htab3 hrow3 c_51)⟩
      · have c_51 := (not_congr (nI_lt_iff (a := q0) (b := q) (by omega) (by omega))).mp c_51
        refine lv_iconst (v := (-1)) hx hb dX8_lays_54 (by decide) ?_
        refine lv_istore (lv' := [(4, .int (-1)), (3, .int (nI q)), (2, .int (nI w)), (0, .ref (fad E 86)), (1, .int (nI q0))]) hx hb dX8_lays_55 hl (by decide) rfl (fun ls hl => ?_)
        refine lv_iconst (v := 0) hx hb dX8_lays_57 (by decide) ?_
        refine lv_istore (lv' := [(5, .int 0), (4, .int (-1)), (3, .int (nI q)), (2, .int (nI w)), (0, .ref (fad E 86)), (1, .int (nI q0))]) hx hb dX8_lays_58 hl (by decide) rfl (fun ls hl => ?_)
        refine f_loop (α := Nat × Int32) (fun (a : Nat × Int32) H locs ls => match a with | (n, iz) => fP E D3 L H ∧ va_S (fA E) s.heap H locs ∧ lv_has ls 7 [(5, .int (nI n)), (4, .int iz), (3, .int (nI q)), (2, .int (nI w)), (0, .ref (fad E 86)), (1, .int (nI q0))] ∧ (n ≤ q + 1) ∧ (n ≤ rhF M L w + 1) ∧ (iz = rtI (rcF M L w) (rtF M L wc (wc - (w + 1))) q n)) (fun (a : Nat × Int32) => match a with | (n, iz) => q + 1 - n) (pc0 := 60) (st := fun _ => []) ?_ (0, (-1)) _ _ _ ⟨hP, hS, lv_sub hl [0, 1, 2, 3, 4, 5] rfl, (by omega), (by omega), rfl⟩
        rintro ⟨n, iz⟩ H locs ls ⟨hP, hS, hl, hn1, hn2, his⟩ ih_60
        refine lv_iload hx hb dX8_lays_60 (lv_at hl 0 rfl) ?_
        refine lv_iload_n hx hb dX8_lays_62 rfl (lv_at hl 2 rfl) ?_
        refine lv_icmp_gt (tgt := 139) hx hb dX8_lays_63 (by decide) (fun c_63 => ?_) (fun c_63 => ?_)
        · have c_63 := (nI_lt_iff (a := q) (b := n) (by omega) (by omega)).mp c_63
          have hiz9 : iz = rtF M L wc (wc - w) q := by rw [rtF_w (by omega), his]; congr 1; omega
          refine lv_aload_n hx hb dX8_lays_139 rfl (lv_at hl 4 rfl) ?_
          refine f_get X hP (T := TX8) (ci := 8) (k := 86) rfl inX8 rfl 40 (by decide) m_4_214 rfl (v := .ref (fad E 113)) rfl dX8_lays_140 ?_
          refine lv_bipush (v := 25) hx hb dX8_lays_143 (by decide) ?_
          refine lv_iload_n hx hb dX8_lays_145 rfl (lv_at hl 3 rfl) ?_
          refine lv_imul hx hb dX8_lays_146 ?_
          refine lv_iload_n hx hb dX8_lays_147 rfl (lv_at hl 2 rfl) ?_
          refine lv_iadd hx hb dX8_lays_148 ?_
          refine lv_iload hx hb dX8_lays_149 (lv_at hl 1 rfl) ?_
          refine f_iast X hP hS (k := 113) (n := 175) (q := (25 * w + q)) rfl rfl (v := iz) (fIx_25 (by omega)) dX8_lays_151 (fun H locs hP hS => ?_)
          refine lv_iinc (v := (nI (q + 1))) (lv' := [(3, .int (nI (q + 1))), (5, .int (nI n)), (4, .int iz), (2, .int (nI w)), (0, .ref (fad E 86)), (1, .int (nI q0))]) hx hb dX8_lays_152 hl (k := 2) rfl (nI_1 _) (by decide) rfl (fun ls hl => ?_)
          refine lv_goto (tgt := 49) hx hb dX8_lays_155 (by decide) ?_
          exact ih_49 ((q + 1), (up2 D3 113 (25 * w + q) iz)) _ _ _ (by show q0 + 1 - (q + 1) < q0 + 1 - q; omega) ⟨hP, hS, lv_sub hl [0, 3, 4, 5] rfl, (by omega), hfr3.up, (tab_oX htab3 (by omega)), (row_sX hrow3 hiz9)⟩
        · have c_63 := (not_congr (nI_lt_iff (a := q) (b := n) (by omega) (by omega))).mp c_63
          refine lv_iload hx hb dX8_lays_66 (lv_at hl 0 rfl) ?_
          refine lv_aload_n hx hb dX8_lays_68 rfl (lv_at hl 4 rfl) ?_
          refine lv_iload_n hx hb dX8_lays_69 rfl (lv_at hl 3 rfl) ?_
          refine f_iV (n := 1) X hP hS [.int (nI w)] [.int (nI n)] (c_X8_holding l E D3 L (nI w) w (fIx_nI (by omega) (by decide))) m_5_160 wi_X8_holding rfl rfl (by decide) (by decide +kernel) ⟨Nat.le_of_ble_eq_true rfl, Nat.le_of_ble_eq_true rfl⟩ rfl hl rfl (Nat.le_of_ble_eq_true rfl) ⟨Nat.zero_le _, Nat.zero_le _⟩ dX8_lays_70 (fun H locs hP hS => ?_)
          refine f_topI (v := (nI (rhF M L w))) (hold_nI hfr3 (hHd w (by omega))) ?_
          refine lv_icmp_gt (tgt := 139) hx hb dX8_lays_73 (by decide) (fun c_73 => ?_) (fun c_73 => ?_)
          · have c_73 := (nI_lt_iff (a := (rhF M L w)) (b := n) (by omega) (by omega)).mp c_73
            have hiz9 : iz = rtF M L wc (wc - w) q := by rw [rtF_w (by omega), his]; congr 1; omega
            refine lv_aload_n hx hb dX8_lays_139 rfl (lv_at hl 4 rfl) ?_
            refine f_get X hP (T := TX8) (ci := 8) (k := 86) rfl inX8 rfl 40 (by decide) m_4_214 rfl (v := .ref (fad E 113)) rfl dX8_lays_140 ?_
            refine lv_bipush (v := 25) hx hb dX8_lays_143 (by decide) ?_
            refine lv_iload_n hx hb dX8_lays_145 rfl (lv_at hl 3 rfl) ?_
            refine lv_imul hx hb dX8_lays_146 ?_
            refine lv_iload_n hx hb dX8_lays_147 rfl (lv_at hl 2 rfl) ?_
            refine lv_iadd hx hb dX8_lays_148 ?_
            refine lv_iload hx hb dX8_lays_149 (lv_at hl 1 rfl) ?_
            refine f_iast X hP hS (k := 113) (n := 175) (q := (25 * w + q)) rfl rfl (v := iz) (fIx_25 (by omega)) dX8_lays_151 (fun H locs hP hS => ?_)
            refine lv_iinc (v := (nI (q + 1))) (lv' := [(3, .int (nI (q + 1))), (5, .int (nI n)), (4, .int iz), (2, .int (nI w)), (0, .ref (fad E 86)), (1, .int (nI q0))]) hx hb dX8_lays_152 hl (k := 2) rfl (nI_1 _) (by decide) rfl (fun ls hl => ?_)
            refine lv_goto (tgt := 49) hx hb dX8_lays_155 (by decide) ?_
            exact ih_49 ((q + 1), (up2 D3 113 (25 * w + q) iz)) _ _ _ (by show q0 + 1 - (q + 1) < q0 + 1 - q; omega) ⟨hP, hS, lv_sub hl [0, 3, 4, 5] rfl, (by omega), hfr3.up, (tab_oX htab3 (by omega)), (row_sX hrow3 hiz9)⟩
          · have c_73 := (not_congr (nI_lt_iff (a := (rhF M L w)) (b := n) (by omega) (by omega))).mp c_73
            refine lv_aload_n hx hb dX8_lays_76 rfl (lv_at hl 4 rfl) ?_
            refine f_get X hP (T := TX8) (ci := 8) (k := 86) rfl inX8 rfl 40 (by decide) m_4_214 rfl (v := .ref (fad E 113)) rfl dX8_lays_77 ?_
            refine lv_bipush (v := 25) hx hb dX8_lays_80 (by decide) ?_
            refine lv_iload_n hx hb dX8_lays_82 rfl (lv_at hl 3 rfl) ?_
            refine lv_iconst (v := 1) hx hb dX8_lays_83 (by decide) ?_
            refine lv_iadd hx hb dX8_lays_84 ?_
            refine f_topI (nI_add w 1) ?_
            refine lv_imul hx hb dX8_lays_85 ?_
            refine lv_iload_n hx hb dX8_lays_86 rfl (lv_at hl 2 rfl) ?_
            refine lv_iadd hx hb dX8_lays_87 ?_
            refine lv_iload hx hb dX8_lays_88 (lv_at hl 0 rfl) ?_
            refine lv_isub hx hb dX8_lays_90 ?_
            refine f_iald X hP (k := 113) (n := 175) (q := (25 * (w + 1) + (q - n))) rfl rfl (fIx_25s (by omega) (by omega)) dX8_lays_91 ?_
            refine f_topI (htab3 (w + 1) (Nat.le_refl _) (by omega) (q - n) (by omega)) ?_
            refine lv_istore (lv' := [(6, .int (rtF M L wc (wc - (w + 1)) (q - n))), (5, .int (nI n)), (4, .int iz), (3, .int (nI q)), (2, .int (nI w)), (0, .ref (fad E 86)), (1, .int (nI q0))]) hx hb dX8_lays_92 hl (by decide) rfl (fun ls hl => ?_)
            refine lv_iload hx hb dX8_lays_94 (lv_at hl 0 rfl) ?_
            refine lv_iconst (v := (-1)) hx hb dX8_lays_96 (by decide) ?_
            refine lv_icmp_eq (tgt := 133) hx hb dX8_lays_97 (by decide) (fun c_97 => ?_) (fun c_97 => ?_)
            · refine lv_iinc (v := (nI (n + 1))) (lv' := [(5, .int (nI (n + 1))), (6, .int (rtF M L wc (wc - (w + 1)) (q - n))), (4, .int iz), (3, .int (nI q)), (2, .int (nI w)), (0, .ref (fad E 86)), (1, .int (nI q0))]) hx hb dX8_lays_133 hl (k := 1) rfl (nI_1 _) (by decide) rfl (fun ls hl => ?_)
              refine lv_goto (tgt := 60) hx hb dX8_lays_136 (by decide) ?_
              exact ih_60 ((n + 1), iz) _ _ _ (by show q + 1 - (n + 1) < q + 1 - n; omega) ⟨hP, hS, lv_sub hl [0, 2, 3, 4, 5, 6] rfl, (by omega), (by omega), (by rw [rtI_s, ← his]; first | exact (if_pos c_97).symm | (refine Eq.trans ?_ (if_neg c_97).symm; first | exact (if_pos (Or.inl c_103)).symm | exact (if_pos (Or.inr (Int32.not_le.mp c_118))).symm | exact (if_neg (fun h => h.elim c_103 (fun h => absurd c_118 (Int32.not_le.mpr h)))).symm))⟩
            · refine lv_iload hx hb dX8_lays_100 (lv_at hl 2 rfl) ?_
              refine lv_iconst (v := (-1)) hx hb dX8_lays_102 (by decide) ?_
              refine lv_icmp_eq (tgt := 121) hx hb dX8_lays_103 (by decide) (fun c_103 => ?_) (fun c_103 => ?_)
              · refine lv_iload hx hb dX8_lays_121 (lv_at hl 0 rfl) ?_
                refine lv_aload_n hx hb dX8_lays_123 rfl (lv_at hl 5 rfl) ?_
                refine lv_iload_n hx hb dX8_lays_124 rfl (lv_at hl 4 rfl) ?_
                refine lv_iload hx hb dX8_lays_125 (lv_at hl 1 rfl) ?_
                refine f_iV (n := 2) X hP hS [.int (nI w), .int (nI n)] [.int (rtF M L wc (wc - (w + 1)) (q - n))] (c_X8_costs l E D3 L (nI w) (nI n) w (fIx_nI (by omega) (by decide))) m_5_220 wi_X8_costs rfl rfl (by decide) (by decide +kernel) ⟨Nat.le_of_ble_eq_true rfl, Nat.le_of_ble_eq_true rfl⟩ rfl hl rfl (Nat.le_of_ble_eq_true rfl) ⟨Nat.zero_le _, Nat.zero_le _⟩ dX8_lays_127 (fun H locs hP hS => ?_)
                refine f_topI (v := (rcF M L w n)) (cost_fr hfr3) ?_
                refine lv_iadd hx hb dX8_lays_130 ?_
                refine lv_istore (lv' := [(4, .int ((rtF M L wc (wc - (w + 1)) (q - n)) + (rcF M L w n))), (6, .int (rtF M L wc (wc - (w + 1)) (q - n))), (5, .int (nI n)), (3, .int (nI q)), (2, .int (nI w)), (0, .ref (fad E 86)), (1, .int (nI q0))]) hx hb dX8_lays_131 hl (by decide) rfl (fun ls hl => ?_)
                refine lv_iinc (v := (nI (n + 1))) (lv' := [(5, .int (nI (n + 1))), (4, .int ((rtF M L wc (wc - (w + 1)) (q - n)) + (rcF M L w n))), (6, .int (rtF M L wc (wc - (w + 1)) (q - n))), (3, .int (nI q)), (2, .int (nI w)), (0, .ref (fad E 86)), (1, .int (nI q0))]) hx hb dX8_lays_133 hl (k := 2) rfl (nI_1 _) (by decide) rfl (fun ls hl => ?_)
                refine lv_goto (tgt := 60) hx hb dX8_lays_136 (by decide) ?_
                exact ih_60 ((n + 1), ((rtF M L wc (wc - (w + 1)) (q - n)) + (rcF M L w n))) _ _ _ (by show q + 1 - (n + 1) < q + 1 - n; omega) ⟨hP, hS, lv_sub hl [0, 1, 3, 4, 5, 6] rfl, (by omega), (by omega), (by rw [rtI_s, ← his]; first | exact (if_pos c_97).symm | (refine Eq.trans ?_ (if_neg c_97).symm; first | exact (if_pos (Or.inl c_103)).symm | exact (if_pos (Or.inr (Int32.not_le.mp c_118))).symm | exact (if_neg (fun h => h.elim c_103 (fun h => absurd c_118 (Int32.not_le.mpr h)))).symm))⟩
              · refine lv_iload hx hb dX8_lays_106 (lv_at hl 0 rfl) ?_
                refine lv_aload_n hx hb dX8_lays_108 rfl (lv_at hl 5 rfl) ?_
                refine lv_iload_n hx hb dX8_lays_109 rfl (lv_at hl 4 rfl) ?_
                refine lv_iload hx hb dX8_lays_110 (lv_at hl 1 rfl) ?_
                refine f_iV (n := 2) X hP hS [.int (nI w), .int (nI n)] [.int (rtF M L wc (wc - (w + 1)) (q - n))] (c_X8_costs l E D3 L (nI w) (nI n) w (fIx_nI (by omega) (by decide))) m_5_220 wi_X8_costs rfl rfl (by decide) (by decide +kernel) ⟨Nat.le_of_ble_eq_true rfl, Nat.le_of_ble_eq_true rfl⟩ rfl hl rfl (Nat.le_of_ble_eq_true rfl) ⟨Nat.zero_le _, Nat.zero_le _⟩ dX8_lays_112 (fun H locs hP hS => ?_)
                refine f_topI (v := (rcF M L w n)) (cost_fr hfr3) ?_
                refine lv_iadd hx hb dX8_lays_115 ?_
                refine lv_iload hx hb dX8_lays_116 (lv_at hl 2 rfl) ?_
                refine lv_icmp_ge (tgt := 133) hx hb dX8_lays_118 (by decide) (fun c_118 => ?_) (fun c_118 => ?_)
                · refine lv_iinc (v := (nI (n + 1))) (lv' := [(5, .int (nI (n + 1))), (6, .int (rtF M L wc (wc - (w + 1)) (q - n))), (4, .int iz), (3, .int (nI q)), (2, .int (nI w)), (0, .ref (fad E 86)), (1, .int (nI q0))]) hx hb dX8_lays_133 hl (k := 1) rfl (nI_1 _) (by decide) rfl (fun ls hl => ?_)
                  refine lv_goto (tgt := 60) hx hb dX8_lays_136 (by decide) ?_
                  exact ih_60 ((n + 1), iz) _ _ _ (by show q + 1 - (n + 1) < q + 1 - n; omega) ⟨hP, hS, lv_sub hl [0, 2, 3, 4, 5, 6] rfl, (by omega), (by omega), (by rw [rtI_s, ← his]; first | exact (if_pos c_97).symm | (refine Eq.trans ?_ (if_neg c_97).symm; first | exact (if_pos (Or.inl c_103)).symm | exact (if_pos (Or.inr (Int32.not_le.mp c_118))).symm | exact (if_neg (fun h => h.elim c_103 (fun h => absurd c_118 (Int32.not_le.mpr h)))).symm))⟩
                · refine lv_iload hx hb dX8_lays_121 (lv_at hl 0 rfl) ?_
                  refine lv_aload_n hx hb dX8_lays_123 rfl (lv_at hl 5 rfl) ?_
                  refine lv_iload_n hx hb dX8_lays_124 rfl (lv_at hl 4 rfl) ?_
                  refine lv_iload hx hb dX8_lays_125 (lv_at hl 1 rfl) ?_
                  refine f_iV (n := 2) X hP hS [.int (nI w), .int (nI n)] [.int (rtF M L wc (wc - (w + 1)) (q - n))] (c_X8_costs l E D3 L (nI w) (nI n) w (fIx_nI (by omega) (by decide))) m_5_220 wi_X8_costs rfl rfl (by decide) (by decide +kernel) ⟨Nat.le_of_ble_eq_true rfl, Nat.le_of_ble_eq_true rfl⟩ rfl hl rfl (Nat.le_of_ble_eq_true rfl) ⟨Nat.zero_le _, Nat.zero_le _⟩ dX8_lays_127 (fun H locs hP hS => ?_)
                  refine f_topI (v := (rcF M L w n)) (cost_fr hfr3) ?_
                  refine lv_iadd hx hb dX8_lays_130 ?_
                  refine lv_istore (lv' := [(4, .int ((rtF M L wc (wc - (w + 1)) (q - n)) + (rcF M L w n))), (6, .int (rtF M L wc (wc - (w + 1)) (q - n))), (5, .int (nI n)), (3, .int (nI q)), (2, .int (nI w)), (0, .ref (fad E 86)), (1, .int (nI q0))]) hx hb dX8_lays_131 hl (by decide) rfl (fun ls hl => ?_)
                  refine lv_iinc (v := (nI (n + 1))) (lv' := [(5, .int (nI (n + 1))), (4, .int ((rtF M L wc (wc - (w + 1)) (q - n)) + (rcF M L w n))), (6, .int (rtF M L wc (wc - (w + 1)) (q - n))), (3, .int (nI q)), (2, .int (nI w)), (0, .ref (fad E 86)), (1, .int (nI q0))]) hx hb dX8_lays_133 hl (k := 2) rfl (nI_1 _) (by decide) rfl (fun ls hl => ?_)
                  refine lv_goto (tgt := 60) hx hb dX8_lays_136 (by decide) ?_
                  exact ih_60 ((n + 1), ((rtF M L wc (wc - (w + 1)) (q - n)) + (rcF M L w n))) _ _ _ (by show q + 1 - (n + 1) < q + 1 - n; omega) ⟨hP, hS, lv_sub hl [0, 1, 3, 4, 5, 6] rfl, (by omega), (by omega), (by rw [rtI_s, ← his]; first | exact (if_pos c_97).symm | (refine Eq.trans ?_ (if_neg c_97).symm; first | exact (if_pos (Or.inl c_103)).symm | exact (if_pos (Or.inr (Int32.not_le.mp c_118))).symm | exact (if_neg (fun h => h.elim c_103 (fun h => absurd c_118 (Int32.not_le.mpr h)))).symm))⟩
  · have c_4 := (not_congr (nI_lt_iff (a := q0) (b := i) (by omega) (by omega))).mp c_4
    refine lv_aload_n hx hb dX8_lays_7 rfl (lv_at hl 1 rfl) ?_
    refine f_get X hP (T := TX8) (ci := 8) (k := 86) rfl inX8 rfl 40 (by decide) m_4_214 rfl (v := .ref (fad E 113)) rfl dX8_lays_8 ?_
    refine lv_bipush (v := 25) hx hb dX8_lays_11 (by decide) ?_
    refine lv_aload_n hx hb dX8_lays_13 rfl (lv_at hl 1 rfl) ?_
    refine f_get X hP (T := TX8) (ci := 8) (k := 86) rfl inX8 rfl 0 (by decide) m_4_174 rfl (v := .int (nI wc)) (congrArg Value.int ((hfr 86 0 (by decide)).trans hwc)) dX8_lays_14 ?_
    refine lv_imul hx hb dX8_lays_17 ?_
    refine lv_iload_n hx hb dX8_lays_18 rfl (lv_at hl 0 rfl) ?_
    refine lv_iadd hx hb dX8_lays_19 ?_
    refine lv_iload_n hx hb dX8_lays_20 rfl (lv_at hl 0 rfl) ?_
    refine lv_if_ne (tgt := 28) hx hb dX8_lays_21 (by decide) (fun c_21 => ?_) (fun c_21 => ?_)
    · have c_21 := (not_congr (nI_eq (a := i) (b := 0) (by omega) (by omega))).mp c_21
      refine lv_iconst (v := (-1)) hx hb dX8_lays_28 (by decide) ?_
      refine f_iast X hP hS (k := 113) (n := 175) (q := (25 * wc + i)) rfl rfl (v := (-1)) (fIx_25 (by omega)) dX8_lays_29 (fun H locs hP hS => ?_)
      refine lv_iinc (v := (nI (i + 1))) (lv' := [(2, .int (nI (i + 1))), (0, .ref (fad E 86)), (1, .int (nI q0))]) hx hb dX8_lays_30 hl (k := 0) rfl (nI_1 _) (by decide) rfl (fun ls hl => ?_)
      refine lv_goto (tgt := 2) hx hb dX8_lays_33 (by decide) ?_
      exact ih_2 ((i + 1), (up2 D 113 (25 * wc + i) (-1))) _ _ _ (by show q0 + 1 - (i + 1) < q0 + 1 - i; omega) ⟨hP, hS, lv_sub hl [0, 1, 2] rfl, (by omega), hfr.up, (row_sX hrow (by show _ = if i = 0 then _ else _; first | exact (if_pos c_21).symm | exact (if_neg c_21).symm))⟩
    · have c_21 := (nI_eq (a := i) (b := 0) (by omega) (by omega)).mp c_21
      refine lv_iconst (v := 0) hx hb dX8_lays_24 (by decide) ?_
      refine lv_goto (tgt := 29) hx hb dX8_lays_25 (by decide) ?_
      refine f_iast X hP hS (k := 113) (n := 175) (q := (25 * wc + i)) rfl rfl (v := 0) (fIx_25 (by omega)) dX8_lays_29 (fun H locs hP hS => ?_)
      refine lv_iinc (v := (nI (i + 1))) (lv' := [(2, .int (nI (i + 1))), (0, .ref (fad E 86)), (1, .int (nI q0))]) hx hb dX8_lays_30 hl (k := 0) rfl (nI_1 _) (by decide) rfl (fun ls hl => ?_)
      refine lv_goto (tgt := 2) hx hb dX8_lays_33 (by decide) ?_
      exact ih_2 ((i + 1), (up2 D 113 (25 * wc + i) 0)) _ _ _ (by show q0 + 1 - (i + 1) < q0 + 1 - i; omega) ⟨hP, hS, lv_sub hl [0, 1, 2] rfl, (by omega), hfr.up, (row_sX hrow (by show _ = if i = 0 then _ else _; first | exact (if_pos c_21).symm | exact (if_neg c_21).symm))⟩
