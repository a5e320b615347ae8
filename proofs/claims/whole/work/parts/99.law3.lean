/-! THE LAW's loop -/
theorem nI_plus (i : Nat) (j : Nat) : nI i + Int32.ofNat j = nI (i + j) := (Int32.ofNat_add i j).symm
set_option maxHeartbeats 4000000 in
set_option maxRecDepth 100000 in
theorem law_loop {p : Program} {l : Launch} {e : Env} {s : State} {m : MethodId} {below : List Frame} {meth : Method} {c : Code} {b L0 cells slots : Nat} {xs : Nat → Int32} {E : fE} (hL : L0 ≤ 4096) (C0 : lw_At p s m meth c b L0 xs) (X : lX E s) (hc6 : cells ≤ 600000) (hs7 : slots ≤ 7302250) : ∀ (n i : Nat) (x : Int32), i ≤ L0 → L0 < i + 8 * n → x = nI i → ∀ (H : Heap) (locs : List Loc) (ls : Array Slot), lInv E s b x H locs ls → W p l e room_1 s m #[Value.ref b] below meth c H locs cells slots (lw_Z below #[Value.ref b] s) (F0 m 18 ls []) := by
  obtain ⟨hx, hb, hr, hml, hown, hts, hX, hbl, hlocks, hgv⟩ := id C0
  have hbA : ¬ (fun q : Nat => s.heap.size ≤ q) b := Nat.not_le.mpr hbl
  intro n
  induction n with
  | zero => intro i x h1 h2; exact absurd h2 (by omega)
  | succ n ih =>
    intro i x hi hin ex H locs ls hI
    obtain ⟨tc, wc, M, L, r, hP, hS, hl⟩ := id hI
    refine lv_iload_n hx hb dL_law_18 rfl (lv_at hl 3 rfl) ?_
    refine lv_aload_n hx hb dL_law_19 rfl (lv_at hl 0 rfl) ?_
    refine va_slen hx hb hX hbl hbA hS dL_law_20 ?_
    refine lv_bipush (v := 8) hx hb dL_law_21 (by decide) ?_
    refine lv_isub hx hb dL_law_23 ?_
    have e8 : (nI L0 - 8).toInt = (L0 : Int) - 8 := by
      have e1 : (nI L0).toInt = L0 := nI_toInt (by omega)
      have e2 : (8 : Int32).toInt = 8 := rfl
      rw [ti_sub (by rw [e1, e2]; omega), e1, e2]
    have ei : x.toInt = i := by rw [ex]; exact nI_toInt (by omega)
    refine lv_icmp_gt (tgt := 1448) hx hb dL_law_24 (by decide) (fun c_1 => ?_) (fun c_1 => ?_)
    · refine lv_iconst (v := 1) hx hb dL_law_1448 (by decide) ?_
      refine va_forget (fun q hq => hS.2.2 q hq) ?_
      refine W.widen (k := 600000) (n := 7302250) hc6 hs7 ?_
      exact lw_ret hx hb hr hlocks dL_law_1449
    · have hlt : i + 8 ≤ L0 := by
        have : x.toInt ≤ (nI L0 - 8).toInt := Int32.le_iff_toInt_le.mp (Int32.not_lt.mp c_1)
        rw [e8, ei] at this
        omega
      have h0 : vp_in x L0 := by rw [ex]; exact vp_in_nI (by omega) (by omega)
      have h1 : vp_in (x + 1) L0 := by
        have z : x + 1 = nI (i + 1) := by rw [ex]; exact nI_plus i 1
        rw [z]; exact vp_in_nI (by omega) (by omega)
      have h2 : vp_in (x + 2) L0 := by
        have z : x + 2 = nI (i + 2) := by rw [ex]; exact nI_plus i 2
        rw [z]; exact vp_in_nI (by omega) (by omega)
      have h3 : vp_in (x + 3) L0 := by
        have z : x + 3 = nI (i + 3) := by rw [ex]; exact nI_plus i 3
        rw [z]; exact vp_in_nI (by omega) (by omega)
      have h4 : vp_in (x + 4) L0 := by
        have z : x + 4 = nI (i + 4) := by rw [ex]; exact nI_plus i 4
        rw [z]; exact vp_in_nI (by omega) (by omega)
      have h5 : vp_in (x + 5) L0 := by
        have z : x + 5 = nI (i + 5) := by rw [ex]; exact nI_plus i 5
        rw [z]; exact vp_in_nI (by omega) (by omega)
      have h6 : vp_in (x + 6) L0 := by
        have z : x + 6 = nI (i + 6) := by rw [ex]; exact nI_plus i 6
        rw [z]; exact vp_in_nI (by omega) (by omega)
      have h7 : vp_in (x + 7) L0 := by
        have z : x + 7 = nI (i + 7) := by rw [ex]; exact nI_plus i 7
        rw [z]; exact vp_in_nI (by omega) (by omega)
      have kk : ∀ (H : Heap) (locs : List Loc) (ls : Array Slot), lInv E s b x H locs ls → W p l e room_1 s m #[Value.ref b] below meth c H locs cells slots (lw_Z below #[Value.ref b] s) (F0 m 1442 ls []) := by
        intro H locs ls hI
        obtain ⟨tc, wc, M, L, r, hP, hS, hl⟩ := hI
        obtain ⟨x', ex'⟩ : ∃ y : Int32, y = x + 8 := ⟨_, rfl⟩
        refine lv_iinc (v := x') (lv' := [(3, .int x'), (0, .ref b), (1, .ref (fad E 0)), (2, .ref (fad E 86))]) hx hb dL_law_1442 hl (k := 3) rfl (by rw [ex']; rfl) (by decide) rfl (fun ls hl => ?_)
        refine lv_goto (tgt := 18) hx hb dL_law_1445 (by decide) ?_
        exact ih (i + 8) x' hlt (by omega) (by rw [ex', ex]; exact nI_plus i 8) _ _ _ ⟨tc, wc, M, L, r, hP, hS, lv_sub hl [1, 2, 3, 0] rfl⟩
      have hcs : cells ≤ room_1.cells ∧ slots ≤ room_1.slots := ⟨hc6, hs7⟩
      refine lv_aload_n hx hb dL_law_27 rfl (lv_at hl 0 rfl) ?_
      refine lv_iload_n hx hb dL_law_28 rfl (lv_at hl 3 rfl) ?_
      refine va_sld hx hb hX hbl hbA hS h0 dL_law_29 ?_
      refine lv_bipush (v := 63) hx hb dL_law_30 (by decide) ?_
      refine lv_iand hx hb dL_law_32 ?_
      generalize xs x.toNatClampNeg &&& 63 = v
      by_cases s_0 : v = 0
      · refine lv_tableIn (tgt := 196) hx hb dL_law_33 (by rw [s_0]; decide) (by rw [s_0]; decide) (by rw [s_0]; rfl) (by decide) ?_
        exact lw_c0 C0 X hcs h1 h2 h3 h4 h5 h6 h7 hI kk
      by_cases s_1 : v = 1
      · refine lv_tableIn (tgt := 239) hx hb dL_law_33 (by rw [s_1]; decide) (by rw [s_1]; decide) (by rw [s_1]; rfl) (by decide) ?_
        exact lw_c1 C0 X hcs h1 h2 h3 h4 h5 h6 h7 hI kk
      by_cases s_2 : v = 2
      · refine lv_tableIn (tgt := 312) hx hb dL_law_33 (by rw [s_2]; decide) (by rw [s_2]; decide) (by rw [s_2]; rfl) (by decide) ?_
        exact lw_c2 C0 X hcs h1 h2 h3 h4 h5 h6 h7 hI kk
      by_cases s_3 : v = 3
      · refine lv_tableIn (tgt := 375) hx hb dL_law_33 (by rw [s_3]; decide) (by rw [s_3]; decide) (by rw [s_3]; rfl) (by decide) ?_
        exact lw_c3 C0 X hcs h1 h2 h3 h4 h5 h6 h7 hI kk
      by_cases s_4 : v = 4
      · refine lv_tableIn (tgt := 409) hx hb dL_law_33 (by rw [s_4]; decide) (by rw [s_4]; decide) (by rw [s_4]; rfl) (by decide) ?_
        exact lw_c4 C0 X hcs h1 h2 h3 h4 h5 h6 h7 hI kk
      by_cases s_5 : v = 5
      · refine lv_tableIn (tgt := 442) hx hb dL_law_33 (by rw [s_5]; decide) (by rw [s_5]; decide) (by rw [s_5]; rfl) (by decide) ?_
        exact lw_c5 C0 X hcs h1 h2 h3 h4 h5 h6 h7 hI kk
      by_cases s_6 : v = 6
      · refine lv_tableIn (tgt := 465) hx hb dL_law_33 (by rw [s_6]; decide) (by rw [s_6]; decide) (by rw [s_6]; rfl) (by decide) ?_
        exact lw_c6 C0 X hcs h1 h2 h3 h4 h5 h6 h7 hI kk
      by_cases s_7 : v = 7
      · refine lv_tableIn (tgt := 498) hx hb dL_law_33 (by rw [s_7]; decide) (by rw [s_7]; decide) (by rw [s_7]; rfl) (by decide) ?_
        exact lw_c7 C0 X hcs h1 h2 h3 h4 h5 h6 h7 hI kk
      by_cases s_8 : v = 8
      · refine lv_tableIn (tgt := 585) hx hb dL_law_33 (by rw [s_8]; decide) (by rw [s_8]; decide) (by rw [s_8]; rfl) (by decide) ?_
        exact lw_c8 C0 X hcs h1 h2 h3 h4 h5 h6 h7 hI kk
      by_cases s_9 : v = 9
      · refine lv_tableIn (tgt := 648) hx hb dL_law_33 (by rw [s_9]; decide) (by rw [s_9]; decide) (by rw [s_9]; rfl) (by decide) ?_
        exact lw_c9 C0 X hcs h1 h2 h3 h4 h5 h6 h7 hI kk
      by_cases s_10 : v = 10
      · refine lv_tableIn (tgt := 681) hx hb dL_law_33 (by rw [s_10]; decide) (by rw [s_10]; decide) (by rw [s_10]; rfl) (by decide) ?_
        exact lw_c10 C0 X hcs h1 h2 h3 h4 h5 h6 h7 hI kk
      by_cases s_11 : v = 11
      · refine lv_tableIn (tgt := 704) hx hb dL_law_33 (by rw [s_11]; decide) (by rw [s_11]; decide) (by rw [s_11]; rfl) (by decide) ?_
        exact lw_c11 C0 X hcs h1 h2 h3 h4 h5 h6 h7 hI kk
      by_cases s_12 : v = 12
      · refine lv_tableIn (tgt := 737) hx hb dL_law_33 (by rw [s_12]; decide) (by rw [s_12]; decide) (by rw [s_12]; rfl) (by decide) ?_
        exact lw_c12 C0 X hcs h1 h2 h3 h4 h5 h6 h7 hI kk
      by_cases s_13 : v = 13
      · refine lv_tableIn (tgt := 770) hx hb dL_law_33 (by rw [s_13]; decide) (by rw [s_13]; decide) (by rw [s_13]; rfl) (by decide) ?_
        exact lw_c13 C0 X hcs h1 h2 h3 h4 h5 h6 h7 hI kk
      by_cases s_14 : v = 14
      · refine lv_tableIn (tgt := 803) hx hb dL_law_33 (by rw [s_14]; decide) (by rw [s_14]; decide) (by rw [s_14]; rfl) (by decide) ?_
        exact lw_c14 C0 X hcs h1 h2 h3 h4 h5 h6 h7 hI kk
      by_cases s_15 : v = 15
      · refine lv_tableIn (tgt := 826) hx hb dL_law_33 (by rw [s_15]; decide) (by rw [s_15]; decide) (by rw [s_15]; rfl) (by decide) ?_
        exact lw_c15 C0 X hcs h1 h2 h3 h4 h5 h6 h7 hI kk
      by_cases s_16 : v = 16
      · refine lv_tableIn (tgt := 839) hx hb dL_law_33 (by rw [s_16]; decide) (by rw [s_16]; decide) (by rw [s_16]; rfl) (by decide) ?_
        exact lw_c16 C0 X hcs h1 h2 h3 h4 h5 h6 h7 hI kk
      by_cases s_17 : v = 17
      · refine lv_tableIn (tgt := 872) hx hb dL_law_33 (by rw [s_17]; decide) (by rw [s_17]; decide) (by rw [s_17]; rfl) (by decide) ?_
        exact lw_c17 C0 X hcs h1 h2 h3 h4 h5 h6 h7 hI kk
      by_cases s_18 : v = 18
      · refine lv_tableIn (tgt := 915) hx hb dL_law_33 (by rw [s_18]; decide) (by rw [s_18]; decide) (by rw [s_18]; rfl) (by decide) ?_
        exact lw_c18 C0 X hcs h1 h2 h3 h4 h5 h6 h7 hI kk
      by_cases s_19 : v = 19
      · refine lv_tableIn (tgt := 938) hx hb dL_law_33 (by rw [s_19]; decide) (by rw [s_19]; decide) (by rw [s_19]; rfl) (by decide) ?_
        exact lw_c19 C0 X hcs h1 h2 h3 h4 h5 h6 h7 hI kk
      by_cases s_20 : v = 20
      · refine lv_tableIn (tgt := 961) hx hb dL_law_33 (by rw [s_20]; decide) (by rw [s_20]; decide) (by rw [s_20]; rfl) (by decide) ?_
        exact lw_c20 C0 X hcs h1 h2 h3 h4 h5 h6 h7 hI kk
      by_cases s_21 : v = 21
      · refine lv_tableIn (tgt := 994) hx hb dL_law_33 (by rw [s_21]; decide) (by rw [s_21]; decide) (by rw [s_21]; rfl) (by decide) ?_
        exact lw_c21 C0 X hcs h1 h2 h3 h4 h5 h6 h7 hI kk
      by_cases s_22 : v = 22
      · refine lv_tableIn (tgt := 1017) hx hb dL_law_33 (by rw [s_22]; decide) (by rw [s_22]; decide) (by rw [s_22]; rfl) (by decide) ?_
        exact lw_c22 C0 X hcs h1 h2 h3 h4 h5 h6 h7 hI kk
      by_cases s_23 : v = 23
      · refine lv_tableIn (tgt := 1050) hx hb dL_law_33 (by rw [s_23]; decide) (by rw [s_23]; decide) (by rw [s_23]; rfl) (by decide) ?_
        exact lw_c23 C0 X hcs h1 h2 h3 h4 h5 h6 h7 hI kk
      by_cases s_24 : v = 24
      · refine lv_tableIn (tgt := 1083) hx hb dL_law_33 (by rw [s_24]; decide) (by rw [s_24]; decide) (by rw [s_24]; rfl) (by decide) ?_
        exact lw_c24 C0 X hcs h1 h2 h3 h4 h5 h6 h7 hI kk
      by_cases s_25 : v = 25
      · refine lv_tableIn (tgt := 1116) hx hb dL_law_33 (by rw [s_25]; decide) (by rw [s_25]; decide) (by rw [s_25]; rfl) (by decide) ?_
        exact lw_c25 C0 X hcs h1 h2 h3 h4 h5 h6 h7 hI kk
      by_cases s_26 : v = 26
      · refine lv_tableIn (tgt := 1149) hx hb dL_law_33 (by rw [s_26]; decide) (by rw [s_26]; decide) (by rw [s_26]; rfl) (by decide) ?_
        exact lw_c26 C0 X hcs h1 h2 h3 h4 h5 h6 h7 hI kk
      by_cases s_27 : v = 27
      · refine lv_tableIn (tgt := 1172) hx hb dL_law_33 (by rw [s_27]; decide) (by rw [s_27]; decide) (by rw [s_27]; rfl) (by decide) ?_
        exact lw_c27 C0 X hcs h1 h2 h3 h4 h5 h6 h7 hI kk
      by_cases s_28 : v = 28
      · refine lv_tableIn (tgt := 1205) hx hb dL_law_33 (by rw [s_28]; decide) (by rw [s_28]; decide) (by rw [s_28]; rfl) (by decide) ?_
        exact lw_c28 C0 X hcs h1 h2 h3 h4 h5 h6 h7 hI kk
      by_cases s_29 : v = 29
      · refine lv_tableIn (tgt := 1248) hx hb dL_law_33 (by rw [s_29]; decide) (by rw [s_29]; decide) (by rw [s_29]; rfl) (by decide) ?_
        exact lw_c29 C0 X hcs h1 h2 h3 h4 h5 h6 h7 hI kk
      by_cases s_30 : v = 30
      · refine lv_tableIn (tgt := 1281) hx hb dL_law_33 (by rw [s_30]; decide) (by rw [s_30]; decide) (by rw [s_30]; rfl) (by decide) ?_
        exact lw_c30 C0 X hcs h1 h2 h3 h4 h5 h6 h7 hI kk
      by_cases s_31 : v = 31
      · refine lv_tableIn (tgt := 1304) hx hb dL_law_33 (by rw [s_31]; decide) (by rw [s_31]; decide) (by rw [s_31]; rfl) (by decide) ?_
        exact lw_c31 C0 X hcs h1 h2 h3 h4 h5 h6 h7 hI kk
      by_cases s_32 : v = 32
      · refine lv_tableIn (tgt := 1327) hx hb dL_law_33 (by rw [s_32]; decide) (by rw [s_32]; decide) (by rw [s_32]; rfl) (by decide) ?_
        exact lw_c32 C0 X hcs h1 h2 h3 h4 h5 h6 h7 hI kk
      by_cases s_33 : v = 33
      · refine lv_tableIn (tgt := 1370) hx hb dL_law_33 (by rw [s_33]; decide) (by rw [s_33]; decide) (by rw [s_33]; rfl) (by decide) ?_
        exact lw_c33 C0 X hcs h1 h2 h3 h4 h5 h6 h7 hI kk
      by_cases s_34 : v = 34
      · refine lv_tableIn (tgt := 1393) hx hb dL_law_33 (by rw [s_34]; decide) (by rw [s_34]; decide) (by rw [s_34]; rfl) (by decide) ?_
        exact lw_c34 C0 X hcs h1 h2 h3 h4 h5 h6 h7 hI kk
      by_cases s_35 : v = 35
      · refine lv_tableIn (tgt := 1406) hx hb dL_law_33 (by rw [s_35]; decide) (by rw [s_35]; decide) (by rw [s_35]; rfl) (by decide) ?_
        exact lw_c35 C0 X hcs h1 h2 h3 h4 h5 h6 h7 hI kk
      by_cases s_36 : v = 36
      · refine lv_tableIn (tgt := 1419) hx hb dL_law_33 (by rw [s_36]; decide) (by rw [s_36]; decide) (by rw [s_36]; rfl) (by decide) ?_
        exact lw_c36 C0 X hcs h1 h2 h3 h4 h5 h6 h7 hI kk
      refine lv_tableOut (tgt := 1442) hx hb dL_law_33 (by have q0 := lv_neT s_0 (a := 0) rfl; have q1 := lv_neT s_1 (a := 1) rfl; have q2 := lv_neT s_2 (a := 2) rfl; have q3 := lv_neT s_3 (a := 3) rfl; have q4 := lv_neT s_4 (a := 4) rfl; have q5 := lv_neT s_5 (a := 5) rfl; have q6 := lv_neT s_6 (a := 6) rfl; have q7 := lv_neT s_7 (a := 7) rfl; have q8 := lv_neT s_8 (a := 8) rfl; have q9 := lv_neT s_9 (a := 9) rfl; have q10 := lv_neT s_10 (a := 10) rfl; have q11 := lv_neT s_11 (a := 11) rfl; have q12 := lv_neT s_12 (a := 12) rfl; have q13 := lv_neT s_13 (a := 13) rfl; have q14 := lv_neT s_14 (a := 14) rfl; have q15 := lv_neT s_15 (a := 15) rfl; have q16 := lv_neT s_16 (a := 16) rfl; have q17 := lv_neT s_17 (a := 17) rfl; have q18 := lv_neT s_18 (a := 18) rfl; have q19 := lv_neT s_19 (a := 19) rfl; have q20 := lv_neT s_20 (a := 20) rfl; have q21 := lv_neT s_21 (a := 21) rfl; have q22 := lv_neT s_22 (a := 22) rfl; have q23 := lv_neT s_23 (a := 23) rfl; have q24 := lv_neT s_24 (a := 24) rfl; have q25 := lv_neT s_25 (a := 25) rfl; have q26 := lv_neT s_26 (a := 26) rfl; have q27 := lv_neT s_27 (a := 27) rfl; have q28 := lv_neT s_28 (a := 28) rfl; have q29 := lv_neT s_29 (a := 29) rfl; have q30 := lv_neT s_30 (a := 30) rfl; have q31 := lv_neT s_31 (a := 31) rfl; have q32 := lv_neT s_32 (a := 32) rfl; have q33 := lv_neT s_33 (a := 33) rfl; have q34 := lv_neT s_34 (a := 34) rfl; have q35 := lv_neT s_35 (a := 35) rfl; have q36 := lv_neT s_36 (a := 36) rfl; omega) (by decide) ?_
      exact kk _ _ _ hI
/-! THE FIRST WORLD: what the constructors leave, and that class and reference agree in it -/
theorem arrV_cg {cA : ClassId} {n : Nat} {f g : Nat → Value} (h : ∀ j, j < n → f j = g j) : arrV cA n f = arrV cA n g := by
  unfold arrV
  have e : (fun j : Fin n => f j.val) = (fun j : Fin n => g j.val) := funext (fun j => h j.val j.isLt)
  rw [e]
/-- cells alike as far as they reach -/
def wR (x y : Nat × va_E) : Prop := x = y ∨ ∃ cA z w, x = (y.1, .inl (cA, z)) ∧ y.2 = .inl (cA, w) ∧ vp_cell cA z = vp_cell cA w
theorem wR.at {D : va_G} {cl : List vw_C} {x y : Nat × va_E} {H : Heap} (h : wR x y) (h1 : va_at D cl x H) : va_at D cl y H := by
  rcases h with rfl | ⟨cA, z, w, e1, e2, e3⟩
  · exact h1
  · obtain ⟨a, b⟩ := y
    dsimp only at e1 e2
    subst e1
    subst e2
    have h2 : H[a]? = some (vp_cell cA z) := h1
    show H[a]? = some (vp_cell cA w)
    rw [h2, e3]
theorem wR.i {a : Nat} {cA : ClassId} {n : Nat} {f g : Nat → Int32} (h : ∀ j, j < n → f j = g j) : wR (a, .inl (cA, n, .inl f)) (a, .inl (cA, n, .inl g)) :=
  Or.inr ⟨cA, (n, .inl f), (n, .inl g), rfl, rfl, by rw [vp_cell_i, vp_cell_i]; exact arrV_cg (fun j hj => congrArg Value.int (h j hj))⟩
theorem wR.l {a : Nat} {cA : ClassId} {n : Nat} {f g : Nat → Int64} (h : ∀ j, j < n → f j = g j) : wR (a, .inl (cA, n, .inr (.inl f))) (a, .inl (cA, n, .inr (.inl g))) :=
  Or.inr ⟨cA, (n, .inr (.inl f)), (n, .inr (.inl g)), rfl, rfl, by rw [vp_cell_l, vp_cell_l]; exact arrV_cg (fun j hj => congrArg Value.long (h j hj))⟩
theorem wR.q {a : Nat} {cA : ClassId} {n : Nat} {f g : Nat → Option Nat} (h : ∀ j, j < n → f j = g j) : wR (a, .inl (cA, n, .inr (.inr (.inr (.inr f))))) (a, .inl (cA, n, .inr (.inr (.inr (.inr g))))) :=
  Or.inr ⟨cA, (n, .inr (.inr (.inr (.inr f)))), (n, .inr (.inr (.inr (.inr g)))), rfl, rfl, by rw [vp_cell_q, vp_cell_q]; exact arrV_cg (fun j hj => congrArg va_rf (h j hj))⟩
def wRs : va_W → va_W → Prop
  | [], [] => True
  | x :: l, y :: l' => wR x y ∧ wRs l l'
  | _, _ => False
theorem wRs.P {D : va_G} {cl : List vw_C} {H : Heap} : ∀ {l l' : va_W}, wRs l l' → va_P D cl l H → va_P D cl l' H
  | [], [], _, h => h
  | x :: l, y :: l', ⟨h1, h2⟩, h => by
    intro k q hq
    cases k with
    | zero =>
      cases hq
      exact h1.at (h 0 x rfl)
    | succ k => exact wRs.P h2 (fun k q hq => h (k + 1) q hq) k q hq
/-- the numbers of the first world -/
def mI : List (List Int32) := [[0, 0, 0, 0, 0, 0, 0, 0, -1], [], [0, -1], [0, -1], [0, -1], [0, -1], [0, -1], [0, -1], [0, -1], [0, -1], [], [], [], [], [], [], [], [],
  [0, 0, 0, 0, 0, 1, 0, 0, 0, 1], [], [], [], [], [], [], [], [], [], [], [], [0], [1], [2], [3], [4], [5],
  [0, 0, 0, 0, 0, 1, 0, 0, 0, 1], [], [], [], [], [], [], [], [], [], [], [], [0], [1], [2], [3], [4], [5],
  [0, 0, 0, 0, 0, 1, 0, 0, 0, 1], [], [], [], [], [], [], [], [], [], [], [], [0], [1], [2], [3], [4], [5],
  [0, 0, 0, 0, 0, -1], [], [], [], [], [], [], [], [], [], [], [], [], [], [0, 0, 1, 0, 0, 0, 1, -1],
  [], [], [], [], [], [], [], [], [], [], [], [], [], [], [], [], [], [], [],
  [116, 104, 105, 110, 103, 32, 0, 119, 97, 105, 116, 101, 114, 32, 0, 109, 111, 118, 101, 115, 32, 0, 104, 111, 112, 101, 32, 0], [7, 5, 2, 1], [9, 23, 23, 9, 99, 9, 20], [6, 9, 9, 24, 9], [], [], [], [], []]
def M0 (k j : Nat) : Int32 := (mI.getD k []).getD j 0
def L0 (_ _ : Nat) : Int64 := 0
theorem rl_0 : Rl 0 0 M0 L0 M0 L0 := by
  refine ⟨⟨by decide, by decide, by decide, by decide, by decide, by decide⟩, ?_, ?_, ?_, ⟨?_, ?_, by decide, fun w h => absurd h (Nat.not_lt_zero w)⟩, ⟨by decide, ?_⟩, ?_, ⟨by decide, ⟨0, by decide, by decide⟩, ?_⟩, ⟨by decide, fun h => absurd (show M0 0 7 = 0 by decide) h⟩, ⟨?_, ?_, ?_, ?_⟩, fun _ _ _ _ => rfl⟩
  · exact show ∀ t, t < 8 → ∀ j, j < 7 → M0 (22 + t) j = M0 (93 + j) t by decide +kernel
  · exact fun w hw => ⟨(show ∀ w, w < 6 → M0 (30 + w) 0 = nI w by decide +kernel) w hw, fun j h1 h5 => (show ∀ w, w < 6 → ∀ j, j < 6 → 1 ≤ j → M0 (30 + w) j = M0 (87 + j) w by decide +kernel) w hw j (by omega) h1⟩
  · exact fun j h5 h9 => (show ∀ j, j < 10 → 5 ≤ j → M0 18 j = M0 86 (j - 3) by decide +kernel) j (by omega) h5
  · intro t ht
    unfold okT
    revert t
    decide +kernel
  · intro t ht
    unfold okW
    revert t
    decide +kernel
  · exact fun k h1 h7 => (show ∀ k, k < 8 → M0 85 k = M0 87 k by decide +kernel) k (by omega)
  · intro s hs
    unfold RlH
    revert s
    decide +kernel
  · exact show ∀ i, i < 20 → M0 84 i = M0 114 i by decide +kernel
  · exact show ∀ k, k < 28 → M0 106 k = wdA k by decide +kernel
  · exact show ∀ w, w < 4 → M0 107 w = nI (nmN w) by decide +kernel
  · exact show ∀ i, i < 7 → M0 108 i = moA i by decide +kernel
  · exact show ∀ i, i < 5 → M0 109 i = otA i by decide +kernel
def alW (h0 h1 : Nat) (ad ad' : Nat → Nat) : List Nat := [h0, (ad 1), (ad 70), (ad 72), (ad 74), (ad 76), (ad 78), (ad 80), (ad 82), (ad 84), (ad 71), (ad 73), (ad 75), (ad 77), (ad 79), (ad 81), (ad 83), (ad 85), (ad 2), (ad 3), (ad 4), (ad 5), (ad 6), (ad 7), (ad 8), (ad 9), (ad 10), (ad 11), (ad 12), (ad 13), (ad 14), (ad 15), (ad 16), (ad 17), (ad 18), (ad 19), (ad 20), (ad 21), (ad 22), (ad 23), (ad 24), (ad 25), (ad 26), (ad 27), (ad 28), (ad 29), (ad 30), (ad 31), (ad 32), (ad 33), (ad 34), (ad 35), (ad 36), (ad 37), (ad 39), (ad 40), (ad 41), (ad 42), (ad 43), (ad 44), (ad 45), (ad 46), (ad 47), (ad 48), (ad 49), (ad 50), (ad 51), (ad 52), (ad 53), (ad 54), (ad 55), (ad 56), (ad 38), (ad 57), (ad 58), (ad 59), (ad 60), (ad 61), (ad 62), (ad 63), (ad 64), (ad 65), (ad 66), (ad 67), (ad 68), (ad 69), h1, (ad' 1), (ad' 2), (ad' 3), (ad' 4), (ad' 5), (ad' 6), (ad' 7), (ad' 8), (ad' 9), (ad' 10), (ad' 11), (ad' 12), (ad' 13), (ad' 14), (ad' 15), (ad' 16), (ad' 17), (ad' 18), (ad' 19), (ad' 20), (ad' 21), (ad' 22), (ad' 23), (ad' 24), (ad' 25), (ad' 26), (ad' 27), (ad' 28)]
def eW (D : va_G) (cy : Nat → ClassId) (sa : Nat → Nat) (h0 h1 : Nat) (ad ad' : Nat → Nat) : fE := (D.1, D.2, fun k => (alW h0 h1 ad ad').getD k 0, cy, sa)
def lW (cy : Nat → ClassId) (h0 h1 : Nat) (ad ad' : Nat → Nat) : va_W := [(h0, .inr (7, [.ref (ad 1), .ref (ad 2), .ref (ad 20), .ref (ad 38), .ref (ad 58), .ref (ad 67), .ref (ad 69), .int 0, .int (-1)])), ((ad 1), .inl (cy 2, 8, .inr (.inr (.inr (.inr (va_up (va_up (va_up (va_up (va_up (va_up (va_up (va_up (fun _ => none) 0 (some (ad 70))) 1 (some (ad 72))) 2 (some (ad 74))) 3 (some (ad 76))) 4 (some (ad 78))) 5 (some (ad 80))) 6 (some (ad 82))) 7 (some (ad 84)))))))), ((ad 70), .inr (4, [.ref (ad 71), .int (-1), .int 0])), ((ad 72), .inr (4, [.ref (ad 73), .int (-1), .int 0])), ((ad 74), .inr (4, [.ref (ad 75), .int (-1), .int 0])), ((ad 76), .inr (4, [.ref (ad 77), .int (-1), .int 0])), ((ad 78), .inr (4, [.ref (ad 79), .int (-1), .int 0])), ((ad 80), .inr (4, [.ref (ad 81), .int (-1), .int 0])), ((ad 82), .inr (4, [.ref (ad 83), .int (-1), .int 0])), ((ad 84), .inr (4, [.ref (ad 85), .int (-1), .int 0])), ((ad 71), .inl (cy 1, 160, .inr (.inl (fun _ => 0)))), ((ad 73), .inl (cy 1, 160, .inr (.inl (fun _ => 0)))), ((ad 75), .inl (cy 1, 160, .inr (.inl (fun _ => 0)))), ((ad 77), .inl (cy 1, 160, .inr (.inl (fun _ => 0)))), ((ad 79), .inl (cy 1, 160, .inr (.inl (fun _ => 0)))), ((ad 81), .inl (cy 1, 160, .inr (.inl (fun _ => 0)))), ((ad 83), .inl (cy 1, 160, .inr (.inl (fun _ => 0)))), ((ad 85), .inl (cy 1, 160, .inr (.inl (fun _ => 0)))), ((ad 2), .inr (1, [.ref (ad 3), .ref (ad 4), .ref (ad 5), .int 0, .int 0, .int 1, .int 0, .int 0, .int 0, .int 1])), ((ad 3), .inl (cy 3, 8, .inr (.inr (.inr (.inr (va_up (va_up (va_up (va_up (va_up (va_up (va_up (va_up (fun _ => none) 0 (some (ad 6))) 1 (some (ad 7))) 2 (some (ad 8))) 3 (some (ad 9))) 4 (some (ad 10))) 5 (some (ad 11))) 6 (some (ad 12))) 7 (some (ad 13)))))))), ((ad 4), .inl (cy 4, 6, .inr (.inr (.inr (.inr (va_up (va_up (va_up (va_up (va_up (va_up (fun _ => none) 0 (some (ad 14))) 1 (some (ad 15))) 2 (some (ad 16))) 3 (some (ad 17))) 4 (some (ad 18))) 5 (some (ad 19)))))))), ((ad 5), .inl (cy 0, 6, .inl (fun _ => 0))), ((ad 6), .inr (5, [.int 0, .int 0, .int 0, .int 0, .int 0, .int 0, .int 0])), ((ad 7), .inr (5, [.int 0, .int 0, .int 0, .int 0, .int 0, .int 0, .int 0])), ((ad 8), .inr (5, [.int 0, .int 0, .int 0, .int 0, .int 0, .int 0, .int 0])), ((ad 9), .inr (5, [.int 0, .int 0, .int 0, .int 0, .int 0, .int 0, .int 0])), ((ad 10), .inr (5, [.int 0, .int 0, .int 0, .int 0, .int 0, .int 0, .int 0])), ((ad 11), .inr (5, [.int 0, .int 0, .int 0, .int 0, .int 0, .int 0, .int 0])), ((ad 12), .inr (5, [.int 0, .int 0, .int 0, .int 0, .int 0, .int 0, .int 0])), ((ad 13), .inr (5, [.int 0, .int 0, .int 0, .int 0, .int 0, .int 0, .int 0])), ((ad 14), .inr (6, [.int 0, .int 0, .int 0, .int 0, .int 0, .int 0])), ((ad 15), .inr (6, [.int 1, .int 0, .int 0, .int 0, .int 0, .int 0])), ((ad 16), .inr (6, [.int 2, .int 0, .int 0, .int 0, .int 0, .int 0])), ((ad 17), .inr (6, [.int 3, .int 0, .int 0, .int 0, .int 0, .int 0])), ((ad 18), .inr (6, [.int 4, .int 0, .int 0, .int 0, .int 0, .int 0])), ((ad 19), .inr (6, [.int 5, .int 0, .int 0, .int 0, .int 0, .int 0])), ((ad 20), .inr (1, [.ref (ad 21), .ref (ad 22), .ref (ad 23), .int 0, .int 0, .int 1, .int 0, .int 0, .int 0, .int 1])), ((ad 21), .inl (cy 3, 8, .inr (.inr (.inr (.inr (va_up (va_up (va_up (va_up (va_up (va_up (va_up (va_up (fun _ => none) 0 (some (ad 24))) 1 (some (ad 25))) 2 (some (ad 26))) 3 (some (ad 27))) 4 (some (ad 28))) 5 (some (ad 29))) 6 (some (ad 30))) 7 (some (ad 31)))))))), ((ad 22), .inl (cy 4, 6, .inr (.inr (.inr (.inr (va_up (va_up (va_up (va_up (va_up (va_up (fun _ => none) 0 (some (ad 32))) 1 (some (ad 33))) 2 (some (ad 34))) 3 (some (ad 35))) 4 (some (ad 36))) 5 (some (ad 37)))))))), ((ad 23), .inl (cy 0, 6, .inl (fun _ => 0))), ((ad 24), .inr (5, [.int 0, .int 0, .int 0, .int 0, .int 0, .int 0, .int 0])), ((ad 25), .inr (5, [.int 0, .int 0, .int 0, .int 0, .int 0, .int 0, .int 0])), ((ad 26), .inr (5, [.int 0, .int 0, .int 0, .int 0, .int 0, .int 0, .int 0])), ((ad 27), .inr (5, [.int 0, .int 0, .int 0, .int 0, .int 0, .int 0, .int 0])), ((ad 28), .inr (5, [.int 0, .int 0, .int 0, .int 0, .int 0, .int 0, .int 0])), ((ad 29), .inr (5, [.int 0, .int 0, .int 0, .int 0, .int 0, .int 0, .int 0])), ((ad 30), .inr (5, [.int 0, .int 0, .int 0, .int 0, .int 0, .int 0, .int 0])), ((ad 31), .inr (5, [.int 0, .int 0, .int 0, .int 0, .int 0, .int 0, .int 0])), ((ad 32), .inr (6, [.int 0, .int 0, .int 0, .int 0, .int 0, .int 0])), ((ad 33), .inr (6, [.int 1, .int 0, .int 0, .int 0, .int 0, .int 0])), ((ad 34), .inr (6, [.int 2, .int 0, .int 0, .int 0, .int 0, .int 0])), ((ad 35), .inr (6, [.int 3, .int 0, .int 0, .int 0, .int 0, .int 0])), ((ad 36), .inr (6, [.int 4, .int 0, .int 0, .int 0, .int 0, .int 0])), ((ad 37), .inr (6, [.int 5, .int 0, .int 0, .int 0, .int 0, .int 0])), ((ad 39), .inr (1, [.ref (ad 40), .ref (ad 41), .ref (ad 42), .int 0, .int 0, .int 1, .int 0, .int 0, .int 0, .int 1])), ((ad 40), .inl (cy 3, 8, .inr (.inr (.inr (.inr (va_up (va_up (va_up (va_up (va_up (va_up (va_up (va_up (fun _ => none) 0 (some (ad 43))) 1 (some (ad 44))) 2 (some (ad 45))) 3 (some (ad 46))) 4 (some (ad 47))) 5 (some (ad 48))) 6 (some (ad 49))) 7 (some (ad 50)))))))), ((ad 41), .inl (cy 4, 6, .inr (.inr (.inr (.inr (va_up (va_up (va_up (va_up (va_up (va_up (fun _ => none) 0 (some (ad 51))) 1 (some (ad 52))) 2 (some (ad 53))) 3 (some (ad 54))) 4 (some (ad 55))) 5 (some (ad 56)))))))), ((ad 42), .inl (cy 0, 6, .inl (fun _ => 0))), ((ad 43), .inr (5, [.int 0, .int 0, .int 0, .int 0, .int 0, .int 0, .int 0])), ((ad 44), .inr (5, [.int 0, .int 0, .int 0, .int 0, .int 0, .int 0, .int 0])), ((ad 45), .inr (5, [.int 0, .int 0, .int 0, .int 0, .int 0, .int 0, .int 0])), ((ad 46), .inr (5, [.int 0, .int 0, .int 0, .int 0, .int 0, .int 0, .int 0])), ((ad 47), .inr (5, [.int 0, .int 0, .int 0, .int 0, .int 0, .int 0, .int 0])), ((ad 48), .inr (5, [.int 0, .int 0, .int 0, .int 0, .int 0, .int 0, .int 0])), ((ad 49), .inr (5, [.int 0, .int 0, .int 0, .int 0, .int 0, .int 0, .int 0])), ((ad 50), .inr (5, [.int 0, .int 0, .int 0, .int 0, .int 0, .int 0, .int 0])), ((ad 51), .inr (6, [.int 0, .int 0, .int 0, .int 0, .int 0, .int 0])), ((ad 52), .inr (6, [.int 1, .int 0, .int 0, .int 0, .int 0, .int 0])), ((ad 53), .inr (6, [.int 2, .int 0, .int 0, .int 0, .int 0, .int 0])), ((ad 54), .inr (6, [.int 3, .int 0, .int 0, .int 0, .int 0, .int 0])), ((ad 55), .inr (6, [.int 4, .int 0, .int 0, .int 0, .int 0, .int 0])), ((ad 56), .inr (6, [.int 5, .int 0, .int 0, .int 0, .int 0, .int 0])), ((ad 38), .inr (2, [.ref (ad 39), .int 0, .ref (ad 57), .int 0, .int 0, .int (-1)])), ((ad 57), .inl (cy 0, 160, .inl (fun _ => 0))), ((ad 58), .inr (3, [.ref (ad 59), .int 0])), ((ad 59), .inl (cy 5, 7, .inr (.inr (.inr (.inr (fun i => ([(ad 60), (ad 61), (ad 62), (ad 63), (ad 64), (ad 65), (ad 66)] : List Nat)[i]?)))))), ((ad 60), .inl (cy 0, 25, .inl (fun _ => 0))), ((ad 61), .inl (cy 0, 25, .inl (fun _ => 0))), ((ad 62), .inl (cy 0, 25, .inl (fun _ => 0))), ((ad 63), .inl (cy 0, 25, .inl (fun _ => 0))), ((ad 64), .inl (cy 0, 25, .inl (fun _ => 0))), ((ad 65), .inl (cy 0, 25, .inl (fun _ => 0))), ((ad 66), .inl (cy 0, 25, .inl (fun _ => 0))), ((ad 67), .inr (0, [.ref (ad 68), .int 0])), ((ad 68), .inl (cy 0, 20, .inl (fun _ => 0))), ((ad 69), .inl (cy 0, 8, .inl (fun _ => 0))), (h1, .inr (8, [.int 0, .int 0, .int 1, .int 0, .int 0, .int 0, .int 1, .int (-1), .ref (ad' 1), .ref (ad' 2), .ref (ad' 3), .ref (ad' 4), .ref (ad' 5), .ref (ad' 6), .ref (ad' 7), .ref (ad' 8), .ref (ad' 9), .ref (ad' 10), .ref (ad' 11), .ref (ad' 12), .ref (ad' 13), .ref (ad' 14), .ref (ad' 15), .ref (ad' 16), .ref (ad' 17), .ref (ad' 18), .ref (ad' 19), .ref (ad' 20), .ref (ad' 21), .ref (ad' 22), .ref (ad' 23), .ref (ad' 24), .int 0, .int 0, .int 0, .int 0, .int 0, .ref (ad' 25), .ref (ad' 26), .int 0, .ref (ad' 27), .int 0, .int 0, .int 0, .ref (ad' 28), .int 0, .int 0])), ((ad' 1), .inl (cy 0, 8, .inl (fun _ => 0))), ((ad' 2), .inl (cy 0, 6, .inl (fun _ => 0))), ((ad' 3), .inl (cy 0, 6, .inl (fun _ => 0))), ((ad' 4), .inl (cy 0, 6, .inl (fun _ => 0))), ((ad' 5), .inl (cy 0, 6, .inl (fun _ => 0))), ((ad' 6), .inl (cy 0, 6, .inl (fun _ => 0))), ((ad' 7), .inl (cy 0, 8, .inl (fun _ => 0))), ((ad' 8), .inl (cy 0, 8, .inl (fun _ => 0))), ((ad' 9), .inl (cy 0, 8, .inl (fun _ => 0))), ((ad' 10), .inl (cy 0, 8, .inl (fun _ => 0))), ((ad' 11), .inl (cy 0, 8, .inl (fun _ => 0))), ((ad' 12), .inl (cy 0, 8, .inl (fun _ => 0))), ((ad' 13), .inl (cy 0, 8, .inl (fun _ => 0))), ((ad' 14), .inl (cy 0, 8, .inl (fun _ => 0))), ((ad' 15), .inl (cy 0, 8, .inl (fun _ => 0))), ((ad' 16), .inl (cy 0, 8, .inl (fun _ => 0))), ((ad' 17), .inl (cy 0, 8, .inl (fun _ => 0))), ((ad' 18), .inl (cy 1, 1280, .inr (.inl (fun _ => 0)))), ((ad' 19), .inl (cy 1, 160, .inr (.inl (fun _ => 0)))), ((ad' 20), .inl (cy 0, 28, .inl (upd (upd (upd (upd (upd (upd (upd (upd (upd (upd (upd (upd (upd (upd (upd (upd (upd (upd (upd (upd (upd (upd (upd (upd (upd (upd (upd (upd (fun _ => 0) 0 (116)) 1 (104)) 2 (105)) 3 (110)) 4 (103)) 5 (32)) 6 (0)) 7 (119)) 8 (97)) 9 (105)) 10 (116)) 11 (101)) 12 (114)) 13 (32)) 14 (0)) 15 (109)) 16 (111)) 17 (118)) 18 (101)) 19 (115)) 20 (32)) 21 (0)) 22 (104)) 23 (111)) 24 (112)) 25 (101)) 26 (32)) 27 (0)))), ((ad' 21), .inl (cy 0, 4, .inl (upd (upd (upd (upd (fun _ => 0) 0 (7)) 1 (5)) 2 (2)) 3 (1)))), ((ad' 22), .inl (cy 0, 7, .inl (upd (upd (upd (upd (upd (upd (upd (fun _ => 0) 0 (9)) 1 (23)) 2 (23)) 3 (9)) 4 (99)) 5 (9)) 6 (20)))), ((ad' 23), .inl (cy 0, 5, .inl (upd (upd (upd (upd (upd (fun _ => 0) 0 (6)) 1 (9)) 2 (9)) 3 (24)) 4 (9)))), ((ad' 24), .inl (cy 0, 7, .inl (fun _ => 0))), ((ad' 25), .inl (cy 0, 100, .inl (fun _ => 0))), ((ad' 26), .inl (cy 0, 100, .inl (fun _ => 0))), ((ad' 27), .inl (cy 0, 175, .inl (fun _ => 0))), ((ad' 28), .inl (cy 0, 20, .inl (fun _ => 0)))]
theorem wRs.c {x y : Nat × va_E} {l l' : va_W} (h : wR x y) (t : wRs l l') : wRs (x :: l) (y :: l') := ⟨h, t⟩
set_option maxRecDepth 100000 in
theorem w_0 (D : va_G) (cy : Nat → ClassId) (sa : Nat → Nat) (h0 h1 : Nat) (ad ad' : Nat → Nat) : wRs (lW cy h0 h1 ad ad') (fW (eW D cy sa h0 h1 ad ad') M0 L0) := by
  show wRs (lW cy h0 h1 ad ad') [(fad (eW D cy sa h0 h1 ad ad') 0, fcell (eW D cy sa h0 h1 ad ad') M0 L0 0), (fad (eW D cy sa h0 h1 ad ad') 1, fcell (eW D cy sa h0 h1 ad ad') M0 L0 1), (fad (eW D cy sa h0 h1 ad ad') 2, fcell (eW D cy sa h0 h1 ad ad') M0 L0 2), (fad (eW D cy sa h0 h1 ad ad') 3, fcell (eW D cy sa h0 h1 ad ad') M0 L0 3), (fad (eW D cy sa h0 h1 ad ad') 4, fcell (eW D cy sa h0 h1 ad ad') M0 L0 4), (fad (eW D cy sa h0 h1 ad ad') 5, fcell (eW D cy sa h0 h1 ad ad') M0 L0 5), (fad (eW D cy sa h0 h1 ad ad') 6, fcell (eW D cy sa h0 h1 ad ad') M0 L0 6), (fad (eW D cy sa h0 h1 ad ad') 7, fcell (eW D cy sa h0 h1 ad ad') M0 L0 7), (fad (eW D cy sa h0 h1 ad ad') 8, fcell (eW D cy sa h0 h1 ad ad') M0 L0 8), (fad (eW D cy sa h0 h1 ad ad') 9, fcell (eW D cy sa h0 h1 ad ad') M0 L0 9), (fad (eW D cy sa h0 h1 ad ad') 10, fcell (eW D cy sa h0 h1 ad ad') M0 L0 10), (fad (eW D cy sa h0 h1 ad ad') 11, fcell (eW D cy sa h0 h1 ad ad') M0 L0 11), (fad (eW D cy sa h0 h1 ad ad') 12, fcell (eW D cy sa h0 h1 ad ad') M0 L0 12), (fad (eW D cy sa h0 h1 ad ad') 13, fcell (eW D cy sa h0 h1 ad ad') M0 L0 13), (fad (eW D cy sa h0 h1 ad ad') 14, fcell (eW D cy sa h0 h1 ad ad') M0 L0 14), (fad (eW D cy sa h0 h1 ad ad') 15, fcell (eW D cy sa h0 h1 ad ad') M0 L0 15), (fad (eW D cy sa h0 h1 ad ad') 16, fcell (eW D cy sa h0 h1 ad ad') M0 L0 16), (fad (eW D cy sa h0 h1 ad ad') 17, fcell (eW D cy sa h0 h1 ad ad') M0 L0 17), (fad (eW D cy sa h0 h1 ad ad') 18, fcell (eW D cy sa h0 h1 ad ad') M0 L0 18), (fad (eW D cy sa h0 h1 ad ad') 19, fcell (eW D cy sa h0 h1 ad ad') M0 L0 19), (fad (eW D cy sa h0 h1 ad ad') 20, fcell (eW D cy sa h0 h1 ad ad') M0 L0 20), (fad (eW D cy sa h0 h1 ad ad') 21, fcell (eW D cy sa h0 h1 ad ad') M0 L0 21), (fad (eW D cy sa h0 h1 ad ad') 22, fcell (eW D cy sa h0 h1 ad ad') M0 L0 22), (fad (eW D cy sa h0 h1 ad ad') 23, fcell (eW D cy sa h0 h1 ad ad') M0 L0 23), (fad (eW D cy sa h0 h1 ad ad') 24, fcell (eW D cy sa h0 h1 ad ad') M0 L0 24), (fad (eW D cy sa h0 h1 ad ad') 25, fcell (eW D cy sa h0 h1 ad ad') M0 L0 25), (fad (eW D cy sa h0 h1 ad ad') 26, fcell (eW D cy sa h0 h1 ad ad') M0 L0 26), (fad (eW D cy sa h0 h1 ad ad') 27, fcell (eW D cy sa h0 h1 ad ad') M0 L0 27), (fad (eW D cy sa h0 h1 ad ad') 28, fcell (eW D cy sa h0 h1 ad ad') M0 L0 28), (fad (eW D cy sa h0 h1 ad ad') 29, fcell (eW D cy sa h0 h1 ad ad') M0 L0 29), (fad (eW D cy sa h0 h1 ad ad') 30, fcell (eW D cy sa h0 h1 ad ad') M0 L0 30), (fad (eW D cy sa h0 h1 ad ad') 31, fcell (eW D cy sa h0 h1 ad ad') M0 L0 31), (fad (eW D cy sa h0 h1 ad ad') 32, fcell (eW D cy sa h0 h1 ad ad') M0 L0 32), (fad (eW D cy sa h0 h1 ad ad') 33, fcell (eW D cy sa h0 h1 ad ad') M0 L0 33), (fad (eW D cy sa h0 h1 ad ad') 34, fcell (eW D cy sa h0 h1 ad ad') M0 L0 34), (fad (eW D cy sa h0 h1 ad ad') 35, fcell (eW D cy sa h0 h1 ad ad') M0 L0 35), (fad (eW D cy sa h0 h1 ad ad') 36, fcell (eW D cy sa h0 h1 ad ad') M0 L0 36), (fad (eW D cy sa h0 h1 ad ad') 37, fcell (eW D cy sa h0 h1 ad ad') M0 L0 37), (fad (eW D cy sa h0 h1 ad ad') 38, fcell (eW D cy sa h0 h1 ad ad') M0 L0 38), (fad (eW D cy sa h0 h1 ad ad') 39, fcell (eW D cy sa h0 h1 ad ad') M0 L0 39), (fad (eW D cy sa h0 h1 ad ad') 40, fcell (eW D cy sa h0 h1 ad ad') M0 L0 40), (fad (eW D cy sa h0 h1 ad ad') 41, fcell (eW D cy sa h0 h1 ad ad') M0 L0 41), (fad (eW D cy sa h0 h1 ad ad') 42, fcell (eW D cy sa h0 h1 ad ad') M0 L0 42), (fad (eW D cy sa h0 h1 ad ad') 43, fcell (eW D cy sa h0 h1 ad ad') M0 L0 43), (fad (eW D cy sa h0 h1 ad ad') 44, fcell (eW D cy sa h0 h1 ad ad') M0 L0 44), (fad (eW D cy sa h0 h1 ad ad') 45, fcell (eW D cy sa h0 h1 ad ad') M0 L0 45), (fad (eW D cy sa h0 h1 ad ad') 46, fcell (eW D cy sa h0 h1 ad ad') M0 L0 46), (fad (eW D cy sa h0 h1 ad ad') 47, fcell (eW D cy sa h0 h1 ad ad') M0 L0 47), (fad (eW D cy sa h0 h1 ad ad') 48, fcell (eW D cy sa h0 h1 ad ad') M0 L0 48), (fad (eW D cy sa h0 h1 ad ad') 49, fcell (eW D cy sa h0 h1 ad ad') M0 L0 49), (fad (eW D cy sa h0 h1 ad ad') 50, fcell (eW D cy sa h0 h1 ad ad') M0 L0 50), (fad (eW D cy sa h0 h1 ad ad') 51, fcell (eW D cy sa h0 h1 ad ad') M0 L0 51), (fad (eW D cy sa h0 h1 ad ad') 52, fcell (eW D cy sa h0 h1 ad ad') M0 L0 52), (fad (eW D cy sa h0 h1 ad ad') 53, fcell (eW D cy sa h0 h1 ad ad') M0 L0 53), (fad (eW D cy sa h0 h1 ad ad') 54, fcell (eW D cy sa h0 h1 ad ad') M0 L0 54), (fad (eW D cy sa h0 h1 ad ad') 55, fcell (eW D cy sa h0 h1 ad ad') M0 L0 55), (fad (eW D cy sa h0 h1 ad ad') 56, fcell (eW D cy sa h0 h1 ad ad') M0 L0 56), (fad (eW D cy sa h0 h1 ad ad') 57, fcell (eW D cy sa h0 h1 ad ad') M0 L0 57), (fad (eW D cy sa h0 h1 ad ad') 58, fcell (eW D cy sa h0 h1 ad ad') M0 L0 58), (fad (eW D cy sa h0 h1 ad ad') 59, fcell (eW D cy sa h0 h1 ad ad') M0 L0 59), (fad (eW D cy sa h0 h1 ad ad') 60, fcell (eW D cy sa h0 h1 ad ad') M0 L0 60), (fad (eW D cy sa h0 h1 ad ad') 61, fcell (eW D cy sa h0 h1 ad ad') M0 L0 61), (fad (eW D cy sa h0 h1 ad ad') 62, fcell (eW D cy sa h0 h1 ad ad') M0 L0 62), (fad (eW D cy sa h0 h1 ad ad') 63, fcell (eW D cy sa h0 h1 ad ad') M0 L0 63), (fad (eW D cy sa h0 h1 ad ad') 64, fcell (eW D cy sa h0 h1 ad ad') M0 L0 64), (fad (eW D cy sa h0 h1 ad ad') 65, fcell (eW D cy sa h0 h1 ad ad') M0 L0 65), (fad (eW D cy sa h0 h1 ad ad') 66, fcell (eW D cy sa h0 h1 ad ad') M0 L0 66), (fad (eW D cy sa h0 h1 ad ad') 67, fcell (eW D cy sa h0 h1 ad ad') M0 L0 67), (fad (eW D cy sa h0 h1 ad ad') 68, fcell (eW D cy sa h0 h1 ad ad') M0 L0 68), (fad (eW D cy sa h0 h1 ad ad') 69, fcell (eW D cy sa h0 h1 ad ad') M0 L0 69), (fad (eW D cy sa h0 h1 ad ad') 70, fcell (eW D cy sa h0 h1 ad ad') M0 L0 70), (fad (eW D cy sa h0 h1 ad ad') 71, fcell (eW D cy sa h0 h1 ad ad') M0 L0 71), (fad (eW D cy sa h0 h1 ad ad') 72, fcell (eW D cy sa h0 h1 ad ad') M0 L0 72), (fad (eW D cy sa h0 h1 ad ad') 73, fcell (eW D cy sa h0 h1 ad ad') M0 L0 73), (fad (eW D cy sa h0 h1 ad ad') 74, fcell (eW D cy sa h0 h1 ad ad') M0 L0 74), (fad (eW D cy sa h0 h1 ad ad') 75, fcell (eW D cy sa h0 h1 ad ad') M0 L0 75), (fad (eW D cy sa h0 h1 ad ad') 76, fcell (eW D cy sa h0 h1 ad ad') M0 L0 76), (fad (eW D cy sa h0 h1 ad ad') 77, fcell (eW D cy sa h0 h1 ad ad') M0 L0 77), (fad (eW D cy sa h0 h1 ad ad') 78, fcell (eW D cy sa h0 h1 ad ad') M0 L0 78), (fad (eW D cy sa h0 h1 ad ad') 79, fcell (eW D cy sa h0 h1 ad ad') M0 L0 79), (fad (eW D cy sa h0 h1 ad ad') 80, fcell (eW D cy sa h0 h1 ad ad') M0 L0 80), (fad (eW D cy sa h0 h1 ad ad') 81, fcell (eW D cy sa h0 h1 ad ad') M0 L0 81), (fad (eW D cy sa h0 h1 ad ad') 82, fcell (eW D cy sa h0 h1 ad ad') M0 L0 82), (fad (eW D cy sa h0 h1 ad ad') 83, fcell (eW D cy sa h0 h1 ad ad') M0 L0 83), (fad (eW D cy sa h0 h1 ad ad') 84, fcell (eW D cy sa h0 h1 ad ad') M0 L0 84), (fad (eW D cy sa h0 h1 ad ad') 85, fcell (eW D cy sa h0 h1 ad ad') M0 L0 85), (fad (eW D cy sa h0 h1 ad ad') 86, fcell (eW D cy sa h0 h1 ad ad') M0 L0 86), (fad (eW D cy sa h0 h1 ad ad') 87, fcell (eW D cy sa h0 h1 ad ad') M0 L0 87), (fad (eW D cy sa h0 h1 ad ad') 88, fcell (eW D cy sa h0 h1 ad ad') M0 L0 88), (fad (eW D cy sa h0 h1 ad ad') 89, fcell (eW D cy sa h0 h1 ad ad') M0 L0 89), (fad (eW D cy sa h0 h1 ad ad') 90, fcell (eW D cy sa h0 h1 ad ad') M0 L0 90), (fad (eW D cy sa h0 h1 ad ad') 91, fcell (eW D cy sa h0 h1 ad ad') M0 L0 91), (fad (eW D cy sa h0 h1 ad ad') 92, fcell (eW D cy sa h0 h1 ad ad') M0 L0 92), (fad (eW D cy sa h0 h1 ad ad') 93, fcell (eW D cy sa h0 h1 ad ad') M0 L0 93), (fad (eW D cy sa h0 h1 ad ad') 94, fcell (eW D cy sa h0 h1 ad ad') M0 L0 94), (fad (eW D cy sa h0 h1 ad ad') 95, fcell (eW D cy sa h0 h1 ad ad') M0 L0 95), (fad (eW D cy sa h0 h1 ad ad') 96, fcell (eW D cy sa h0 h1 ad ad') M0 L0 96), (fad (eW D cy sa h0 h1 ad ad') 97, fcell (eW D cy sa h0 h1 ad ad') M0 L0 97), (fad (eW D cy sa h0 h1 ad ad') 98, fcell (eW D cy sa h0 h1 ad ad') M0 L0 98), (fad (eW D cy sa h0 h1 ad ad') 99, fcell (eW D cy sa h0 h1 ad ad') M0 L0 99), (fad (eW D cy sa h0 h1 ad ad') 100, fcell (eW D cy sa h0 h1 ad ad') M0 L0 100), (fad (eW D cy sa h0 h1 ad ad') 101, fcell (eW D cy sa h0 h1 ad ad') M0 L0 101), (fad (eW D cy sa h0 h1 ad ad') 102, fcell (eW D cy sa h0 h1 ad ad') M0 L0 102), (fad (eW D cy sa h0 h1 ad ad') 103, fcell (eW D cy sa h0 h1 ad ad') M0 L0 103), (fad (eW D cy sa h0 h1 ad ad') 104, fcell (eW D cy sa h0 h1 ad ad') M0 L0 104), (fad (eW D cy sa h0 h1 ad ad') 105, fcell (eW D cy sa h0 h1 ad ad') M0 L0 105), (fad (eW D cy sa h0 h1 ad ad') 106, fcell (eW D cy sa h0 h1 ad ad') M0 L0 106), (fad (eW D cy sa h0 h1 ad ad') 107, fcell (eW D cy sa h0 h1 ad ad') M0 L0 107), (fad (eW D cy sa h0 h1 ad ad') 108, fcell (eW D cy sa h0 h1 ad ad') M0 L0 108), (fad (eW D cy sa h0 h1 ad ad') 109, fcell (eW D cy sa h0 h1 ad ad') M0 L0 109), (fad (eW D cy sa h0 h1 ad ad') 110, fcell (eW D cy sa h0 h1 ad ad') M0 L0 110), (fad (eW D cy sa h0 h1 ad ad') 111, fcell (eW D cy sa h0 h1 ad ad') M0 L0 111), (fad (eW D cy sa h0 h1 ad ad') 112, fcell (eW D cy sa h0 h1 ad ad') M0 L0 112), (fad (eW D cy sa h0 h1 ad ad') 113, fcell (eW D cy sa h0 h1 ad ad') M0 L0 113), (fad (eW D cy sa h0 h1 ad ad') 114, fcell (eW D cy sa h0 h1 ad ad') M0 L0 114)]
  refine .c (Or.inl rfl) ?_
  refine .c (wR.q (fun j hj => by rcases (show j = 0 ∨ j = 1 ∨ j = 2 ∨ j = 3 ∨ j = 4 ∨ j = 5 ∨ j = 6 ∨ j = 7 by omega) with rfl | rfl | rfl | rfl | rfl | rfl | rfl | rfl <;> rfl)) ?_
  refine .c (Or.inl rfl) ?_
  refine .c (Or.inl rfl) ?_
  refine .c (Or.inl rfl) ?_
  refine .c (Or.inl rfl) ?_
  refine .c (Or.inl rfl) ?_
  refine .c (Or.inl rfl) ?_
  refine .c (Or.inl rfl) ?_
  refine .c (Or.inl rfl) ?_
  refine .c (wR.l (fun _ _ => rfl)) ?_
  refine .c (wR.l (fun _ _ => rfl)) ?_
  refine .c (wR.l (fun _ _ => rfl)) ?_
  refine .c (wR.l (fun _ _ => rfl)) ?_
  refine .c (wR.l (fun _ _ => rfl)) ?_
  refine .c (wR.l (fun _ _ => rfl)) ?_
  refine .c (wR.l (fun _ _ => rfl)) ?_
  refine .c (wR.l (fun _ _ => rfl)) ?_
  refine .c (Or.inl rfl) ?_
  refine .c (wR.q (fun j hj => by rcases (show j = 0 ∨ j = 1 ∨ j = 2 ∨ j = 3 ∨ j = 4 ∨ j = 5 ∨ j = 6 ∨ j = 7 by omega) with rfl | rfl | rfl | rfl | rfl | rfl | rfl | rfl <;> rfl)) ?_
  refine .c (wR.q (fun j hj => by rcases (show j = 0 ∨ j = 1 ∨ j = 2 ∨ j = 3 ∨ j = 4 ∨ j = 5 by omega) with rfl | rfl | rfl | rfl | rfl | rfl <;> rfl)) ?_
  refine .c (wR.i (fun _ _ => rfl)) ?_
  refine .c (Or.inl rfl) ?_
  refine .c (Or.inl rfl) ?_
  refine .c (Or.inl rfl) ?_
  refine .c (Or.inl rfl) ?_
  refine .c (Or.inl rfl) ?_
  refine .c (Or.inl rfl) ?_
  refine .c (Or.inl rfl) ?_
  refine .c (Or.inl rfl) ?_
  refine .c (Or.inl rfl) ?_
  refine .c (Or.inl rfl) ?_
  refine .c (Or.inl rfl) ?_
  refine .c (Or.inl rfl) ?_
  refine .c (Or.inl rfl) ?_
  refine .c (Or.inl rfl) ?_
  refine .c (Or.inl rfl) ?_
  refine .c (wR.q (fun j hj => by rcases (show j = 0 ∨ j = 1 ∨ j = 2 ∨ j = 3 ∨ j = 4 ∨ j = 5 ∨ j = 6 ∨ j = 7 by omega) with rfl | rfl | rfl | rfl | rfl | rfl | rfl | rfl <;> rfl)) ?_
  refine .c (wR.q (fun j hj => by rcases (show j = 0 ∨ j = 1 ∨ j = 2 ∨ j = 3 ∨ j = 4 ∨ j = 5 by omega) with rfl | rfl | rfl | rfl | rfl | rfl <;> rfl)) ?_
  refine .c (wR.i (fun _ _ => rfl)) ?_
  refine .c (Or.inl rfl) ?_
  refine .c (Or.inl rfl) ?_
  refine .c (Or.inl rfl) ?_
  refine .c (Or.inl rfl) ?_
  refine .c (Or.inl rfl) ?_
  refine .c (Or.inl rfl) ?_
  refine .c (Or.inl rfl) ?_
  refine .c (Or.inl rfl) ?_
  refine .c (Or.inl rfl) ?_
  refine .c (Or.inl rfl) ?_
  refine .c (Or.inl rfl) ?_
  refine .c (Or.inl rfl) ?_
  refine .c (Or.inl rfl) ?_
  refine .c (Or.inl rfl) ?_
  refine .c (Or.inl rfl) ?_
  refine .c (wR.q (fun j hj => by rcases (show j = 0 ∨ j = 1 ∨ j = 2 ∨ j = 3 ∨ j = 4 ∨ j = 5 ∨ j = 6 ∨ j = 7 by omega) with rfl | rfl | rfl | rfl | rfl | rfl | rfl | rfl <;> rfl)) ?_
  refine .c (wR.q (fun j hj => by rcases (show j = 0 ∨ j = 1 ∨ j = 2 ∨ j = 3 ∨ j = 4 ∨ j = 5 by omega) with rfl | rfl | rfl | rfl | rfl | rfl <;> rfl)) ?_
  refine .c (wR.i (fun _ _ => rfl)) ?_
  refine .c (Or.inl rfl) ?_
  refine .c (Or.inl rfl) ?_
  refine .c (Or.inl rfl) ?_
  refine .c (Or.inl rfl) ?_
  refine .c (Or.inl rfl) ?_
  refine .c (Or.inl rfl) ?_
  refine .c (Or.inl rfl) ?_
  refine .c (Or.inl rfl) ?_
  refine .c (Or.inl rfl) ?_
  refine .c (Or.inl rfl) ?_
  refine .c (Or.inl rfl) ?_
  refine .c (Or.inl rfl) ?_
  refine .c (Or.inl rfl) ?_
  refine .c (Or.inl rfl) ?_
  refine .c (Or.inl rfl) ?_
  refine .c (wR.i (fun _ _ => rfl)) ?_
  refine .c (Or.inl rfl) ?_
  refine .c (wR.q (fun j hj => by rcases (show j = 0 ∨ j = 1 ∨ j = 2 ∨ j = 3 ∨ j = 4 ∨ j = 5 ∨ j = 6 by omega) with rfl | rfl | rfl | rfl | rfl | rfl | rfl <;> rfl)) ?_
  refine .c (wR.i (fun _ _ => rfl)) ?_
  refine .c (wR.i (fun _ _ => rfl)) ?_
  refine .c (wR.i (fun _ _ => rfl)) ?_
  refine .c (wR.i (fun _ _ => rfl)) ?_
  refine .c (wR.i (fun _ _ => rfl)) ?_
  refine .c (wR.i (fun _ _ => rfl)) ?_
  refine .c (wR.i (fun _ _ => rfl)) ?_
  refine .c (Or.inl rfl) ?_
  refine .c (wR.i (fun _ _ => rfl)) ?_
  refine .c (wR.i (fun _ _ => rfl)) ?_
  refine .c (Or.inl rfl) ?_
  refine .c (wR.i (fun _ _ => rfl)) ?_
  refine .c (wR.i (fun _ _ => rfl)) ?_
  refine .c (wR.i (fun _ _ => rfl)) ?_
  refine .c (wR.i (fun _ _ => rfl)) ?_
  refine .c (wR.i (fun _ _ => rfl)) ?_
  refine .c (wR.i (fun _ _ => rfl)) ?_
  refine .c (wR.i (fun _ _ => rfl)) ?_
  refine .c (wR.i (fun _ _ => rfl)) ?_
  refine .c (wR.i (fun _ _ => rfl)) ?_
  refine .c (wR.i (fun _ _ => rfl)) ?_
  refine .c (wR.i (fun _ _ => rfl)) ?_
  refine .c (wR.i (fun _ _ => rfl)) ?_
  refine .c (wR.i (fun _ _ => rfl)) ?_
  refine .c (wR.i (fun _ _ => rfl)) ?_
  refine .c (wR.i (fun _ _ => rfl)) ?_
  refine .c (wR.i (fun _ _ => rfl)) ?_
  refine .c (wR.i (fun _ _ => rfl)) ?_
  refine .c (wR.l (fun _ _ => rfl)) ?_
  refine .c (wR.l (fun _ _ => rfl)) ?_
  refine .c (wR.i (show ∀ j, j < 28 → (upd (upd (upd (upd (upd (upd (upd (upd (upd (upd (upd (upd (upd (upd (upd (upd (upd (upd (upd (upd (upd (upd (upd (upd (upd (upd (upd (upd (fun _ => 0) 0 (116)) 1 (104)) 2 (105)) 3 (110)) 4 (103)) 5 (32)) 6 (0)) 7 (119)) 8 (97)) 9 (105)) 10 (116)) 11 (101)) 12 (114)) 13 (32)) 14 (0)) 15 (109)) 16 (111)) 17 (118)) 18 (101)) 19 (115)) 20 (32)) 21 (0)) 22 (104)) 23 (111)) 24 (112)) 25 (101)) 26 (32)) 27 (0)) j = M0 106 j by decide +kernel)) ?_
  refine .c (wR.i (show ∀ j, j < 4 → (upd (upd (upd (upd (fun _ => 0) 0 (7)) 1 (5)) 2 (2)) 3 (1)) j = M0 107 j by decide +kernel)) ?_
  refine .c (wR.i (show ∀ j, j < 7 → (upd (upd (upd (upd (upd (upd (upd (fun _ => 0) 0 (9)) 1 (23)) 2 (23)) 3 (9)) 4 (99)) 5 (9)) 6 (20)) j = M0 108 j by decide +kernel)) ?_
  refine .c (wR.i (show ∀ j, j < 5 → (upd (upd (upd (upd (upd (fun _ => 0) 0 (6)) 1 (9)) 2 (9)) 3 (24)) 4 (9)) j = M0 109 j by decide +kernel)) ?_
  refine .c (wR.i (fun _ _ => rfl)) ?_
  refine .c (wR.i (fun _ _ => rfl)) ?_
  refine .c (wR.i (fun _ _ => rfl)) ?_
  refine .c (wR.i (fun _ _ => rfl)) ?_
  refine .c (wR.i (fun _ _ => rfl)) ?_
  exact trivial
theorem w_P {D : va_G} {cy : Nat → ClassId} (sa : Nat → Nat) {h0 h1 : Nat} {ad ad' : Nat → Nat} {H : Heap} (hP : va_P D vwCl (bX7 cy h0 ad ++ bX8 cy h1 ad') H) : fP (eW D cy sa h0 h1 ad ad') M0 L0 H :=
  (w_0 D cy sa h0 h1 ad ad').P (hP.sub (ws' := lW cy h0 h1 ad ad') [0, 1, 70, 72, 74, 76, 78, 80, 82, 84, 71, 73, 75, 77, 79, 81, 83, 85, 2, 3, 4, 5, 6, 7, 8, 9, 10, 11, 12, 13, 14, 15, 16, 17, 18, 19, 20, 21, 22, 23, 24, 25, 26, 27, 28, 29, 30, 31, 32, 33, 34, 35, 36, 37, 39, 40, 41, 42, 43, 44, 45, 46, 47, 48, 49, 50, 51, 52, 53, 54, 55, 56, 38, 57, 58, 59, 60, 61, 62, 63, 64, 65, 66, 67, 68, 69, 86, 87, 88, 89, 90, 91, 92, 93, 94, 95, 96, 97, 98, 99, 100, 101, 102, 103, 104, 105, 106, 107, 108, 109, 110, 111, 112, 113, 114] rfl)
theorem w_I {D : va_G} {cy : Nat → ClassId} (sa : Nat → Nat) {h0 h1 : Nat} {ad ad' : Nat → Nat} {A : Nat → Prop} (hD : va_D A (bX7 cy h0 ad ++ bX8 cy h1 ad')) : fInj (eW D cy sa h0 h1 ad ad') ∧ ∀ q, fA (eW D cy sa h0 h1 ad ad') q → A q := by
  have hD' : va_D A (lW cy h0 h1 ad ad') := hD.sub (ws' := lW cy h0 h1 ad ad') [0, 1, 70, 72, 74, 76, 78, 80, 82, 84, 71, 73, 75, 77, 79, 81, 83, 85, 2, 3, 4, 5, 6, 7, 8, 9, 10, 11, 12, 13, 14, 15, 16, 17, 18, 19, 20, 21, 22, 23, 24, 25, 26, 27, 28, 29, 30, 31, 32, 33, 34, 35, 36, 37, 39, 40, 41, 42, 43, 44, 45, 46, 47, 48, 49, 50, 51, 52, 53, 54, 55, 56, 38, 57, 58, 59, 60, 61, 62, 63, 64, 65, 66, 67, 68, 69, 86, 87, 88, 89, 90, 91, 92, 93, 94, 95, 96, 97, 98, 99, 100, 101, 102, 103, 104, 105, 106, 107, 108, 109, 110, 111, 112, 113, 114] (by decide +kernel) rfl
  have hm : (lW cy h0 h1 ad ad').map Prod.fst = alW h0 h1 ad ad' := rfl
  have hg : ∀ i, i < 115 → ∃ z, (lW cy h0 h1 ad ad')[i]? = some z ∧ z.1 = fad (eW D cy sa h0 h1 ad ad') i := fun i hi => by
    have hl : i < (lW cy h0 h1 ad ad').length := hi
    refine ⟨(lW cy h0 h1 ad ad')[i], List.getElem?_eq_getElem hl, ?_⟩
    show _ = (alW h0 h1 ad ad').getD i 0
    rw [← hm, List.getD_eq_getElem?_getD, List.getElem?_map, List.getElem?_eq_getElem hl]
    rfl
  refine ⟨fun i j hi hj h => ?_, fun q hq => ?_⟩
  · obtain ⟨z, z1, z2⟩ := hg i hi
    obtain ⟨y, y1, y2⟩ := hg j hj
    exact hD'.1 i j z y z1 y1 (z2.trans (h.trans y2.symm))
  · obtain ⟨k, hk, rfl⟩ := hq
    obtain ⟨z, z1, z2⟩ := hg k hk
    rw [← z2]
    exact hD'.2 k z z1
/-- the six classes of arrays, out of the start's words -/
theorem t6_start {D : va_G} {cl : List vw_C} {s : State} {args : Array Value} (hK : va_K D cl [] s) (h0 : (Cond.arrayClass .int).before args s = true) (h1 : (Cond.arrayClass .long).before args s = true) (h2 : (Cond.arrayOver (.object "HiredToWait$Shelf")).before args s = true) (h3 : (Cond.arrayOver (.object "HiredToWait$Thing")).before args s = true) (h4 : (Cond.arrayOver (.object "HiredToWait$Waiter")).before args s = true) (h5 : (Cond.arrayOver (.array .int)).before args s = true) : ∃ cy : Nat → ClassId, va_K D cl (t6 cy) s := by
  obtain ⟨c0, k0, p0, a0, b0, d0⟩ := Cond.arrayClass_spec h0
  obtain ⟨c1, k1, p1, a1, b1, d1⟩ := Cond.arrayClass_spec h1
  obtain ⟨p2, c2, k2, f2, -, b2, d2, a2⟩ := Cond.arrayOver_spec h2
  obtain ⟨p3, c3, k3, f3, -, b3, d3, a3⟩ := Cond.arrayOver_spec h3
  obtain ⟨p4, c4, k4, f4, -, b4, d4, a4⟩ := Cond.arrayOver_spec h4
  obtain ⟨p5, c5, k5, -, -, b5, d5, a5⟩ := arrayOverA_spec h5
  refine ⟨fun i => ([c0, c1, c2, c3, c4, c5] : List ClassId).getD i 0, hK.1, fun k q hq => ?_⟩
  rcases k with _ | _ | _ | _ | _ | _ | k
  · cases hq; exact ⟨fun N z => ⟨(fun k h => by cases h), k0, b0, p0, d0⟩, a0⟩
  · cases hq; exact ⟨fun N z => ⟨(fun k h => by cases h), k1, b1, p1, d1⟩, a1⟩
  · cases hq; exact ⟨fun N z => ⟨(fun k h => by cases h), k2, b2, p2, d2⟩, k2, p2, b2, d2, f2, a2⟩
  · cases hq; exact ⟨fun N z => ⟨(fun k h => by cases h), k3, b3, p3, d3⟩, k3, p3, b3, d3, f3, a3⟩
  · cases hq; exact ⟨fun N z => ⟨(fun k h => by cases h), k4, b4, p4, d4⟩, k4, p4, b4, d4, f4, a4⟩
  · cases hq; exact ⟨fun N z => ⟨(fun k h => by cases h), k5, b5, p5, d5⟩, a5⟩
  · cases hq
/-! THE LAW'S START: classes, arrays, statics, texts, the two objects -/
theorem lwt1 {i : Nat} {w : Cond} (h : tables_1_1[i]? = some w) : w ∈ lw_tbl := List.mem_append_right _ (List.mem_append_left _ (List.mem_of_getElem? h))
theorem lwt2 {i : Nat} {w : Cond} (h : tables_1_2[i]? = some w) : w ∈ lw_tbl := List.mem_append_right _ (List.mem_append_right _ (List.mem_append_left _ (List.mem_of_getElem? h)))
theorem lwt3 {i : Nat} {w : Cond} (h : tables_1_3[i]? = some w) : w ∈ lw_tbl := List.mem_append_right _ (List.mem_append_right _ (List.mem_append_right _ (List.mem_append_left _ (List.mem_of_getElem? h))))
theorem lwt4 {i : Nat} {w : Cond} (h : tables_1_4[i]? = some w) : w ∈ lw_tbl := List.mem_append_right _ (List.mem_append_right _ (List.mem_append_right _ (List.mem_append_right _ (List.mem_append_left _ (List.mem_of_getElem? h)))))
theorem k_start {s : State} {args : Array Value} (hts : ∀ w ∈ tb, w.before args s = true) : ∃ D : va_G, va_K D vwCl [] s := by
  obtain ⟨d0, i0, k0⟩ := u_known (C := RX0) (T := TX0) (N := 2) (n := 2) hts inX0 (hts _ m_1_198)
  obtain ⟨d1, i1, k1⟩ := u_known (C := RX1) (T := TX1) (N := 10) (n := 10) hts inX1 (hts _ m_1_28)
  obtain ⟨d2, i2, k2⟩ := u_known (C := RX2) (T := TX2) (N := 6) (n := 6) hts inX2 (hts _ m_1_154)
  obtain ⟨d3, i3, k3⟩ := u_known (C := RX3) (T := TX3) (N := 2) (n := 2) hts inX3 (hts _ m_1_183)
  obtain ⟨d4, i4, k4⟩ := u_known (C := RX4) (T := TX4) (N := 3) (n := 3) hts inX4 (hts _ m_1_211)
  obtain ⟨d5, i5, k5⟩ := u_known (C := RX5) (T := TX5) (N := 7) (n := 7) hts inX5 (hts _ m_1_37)
  obtain ⟨d6, i6, k6⟩ := u_known (C := RX6) (T := TX6) (N := 6) (n := 6) hts inX6 (hts _ m_1_72)
  obtain ⟨d7, i7, k7⟩ := u_known (C := RX7) (T := TX7) (N := 9) (n := 9) hts inX7 (hts _ m_1_18)
  obtain ⟨d8, i8, k8⟩ := u_known (C := RX8) (T := TX8) (N := 47) (n := 47) hts inX8 (hts _ m_4_169)
  refine ⟨(fun k => match k with | 0 => d0 | 1 => d1 | 2 => d2 | 3 => d3 | 4 => d4 | 5 => d5 | 6 => d6 | 7 => d7 | _ => d8, fun k => match k with | 0 => i0 | 1 => i1 | 2 => i2 | 3 => i3 | 4 => i4 | 5 => i5 | 6 => i6 | 7 => i7 | _ => i8), fun k q hq => ?_, fun k q h => by simp at h⟩
  rcases k with _ | _ | _ | _ | _ | _ | _ | _ | _ | k
  · cases hq; exact k0
  · cases hq; exact k1
  · cases hq; exact k2
  · cases hq; exact k3
  · cases hq; exact k4
  · cases hq; exact k5
  · cases hq; exact k6
  · cases hq; exact k7
  · cases hq; exact k8
  · cases hq
theorem iN_start {s : State} {args : Array Value} (hts : ∀ w ∈ lw_tbl, w.before args s = true) : iN s :=
  ⟨⟨va_AO.of (hts _ (lwt1 (i := 26) rfl)), va_AO.of (hts _ (lwt1 (i := 34) rfl)), va_AO.of (hts _ (lwt1 (i := 36) rfl)), (show (Cond.arrayOver (.array .int)).before args s = true from hts _ (lwt1 (i := 189) rfl))⟩,
    va_Nw.of rfl (hts _ (lwt1 (i := 38) rfl)), va_Nw.of rfl (hts _ (lwt1 (i := 155) rfl)), va_Nw.of rfl (hts _ (lwt1 (i := 184) rfl)), va_Nw.of rfl (hts _ (lwt1 (i := 199) rfl)), va_Nw.of rfl (hts _ (lwt1 (i := 212) rfl))⟩
theorem vk_S.congr {N : Nat} {len : List Nat} {byt : List (List Int32)} {aK aV bK bV : Nat → Nat} {A : Nat → Prop} {U : State} {H : Heap} (h : vk_S N len byt aK aV A U H) (e : ∀ i, i < N → bK i = aK i ∧ bV i = aV i) : vk_S N len byt bK bV A U H :=
  ⟨fun i hi => by rw [(e i hi).1, (e i hi).2]; exact h.1 i hi, fun i j hi hj hh => h.2 i j hi hj (by rw [← (e i hi).1, ← (e j hj).1]; exact hh)⟩
def tmA : Term := .static "HiredToWait" "ABOVE" "[I"
def tmN : Term := .static "HiredToWait$Bodies" "NUMBERS" "[I"
def tmW (i : Nat) : Term := .string RX2 (([72, 90, 99, 117] : List Nat).getD i 0)
def gvF : List Cond := flatC (Jvm.Cond.and given_1 narrow_1)
theorem gv_a : Cond.arrayOf tmA .int ∈ gvF ∧ Cond.eq (.length tmA) (.int (Int32.ofNat 7)) ∈ gvF ∧ ∀ j, j < 7 → Cond.eq (.elem tmA (.int (Int32.ofNat j))) (.int (fab j)) ∈ gvF := by decide +kernel
theorem gv_n : Cond.arrayOf tmN .int ∈ gvF ∧ Cond.eq (.length tmN) (.int (Int32.ofNat 21)) ∈ gvF ∧ ∀ j, j < 21 → Cond.eq (.elem tmN (.int (Int32.ofNat j))) (.int (fnu j)) ∈ gvF := by decide +kernel
theorem gv_c : Cond.eq (.static "java/lang/String" "COMPACT_STRINGS" "Z") (.int 1) ∈ gvF ∧ Cond.isRef (.static "jdk/internal/util/Preconditions" "SIOOBE_FORMATTER" "Ljava/util/function/BiFunction;") ∈ gvF := by decide +kernel
theorem gv_w : ∀ i, i < 4 → Cond.exactly (tmW i) "java/lang/String" ∈ gvF ∧ Cond.eq (.field (tmW i) "java/lang/String" "coder" "B") (.int 0) ∈ gvF ∧ Cond.arrayOf (.field (tmW i) "java/lang/String" "value" "[B") .byte ∈ gvF ∧ Cond.eq (.length (.field (tmW i) "java/lang/String" "value" "[B")) (.int (Int32.ofNat (fwl.getD i 0))) ∈ gvF := by decide +kernel
theorem gv_b : ∀ i, i < 4 → ∀ j, j < fwl.getD i 0 → Cond.eq (.elem (.field (tmW i) "java/lang/String" "value" "[B") (.int (Int32.ofNat j))) (.int ((fwb.getD i []).getD j 0)) ∈ gvF := by decide +kernel
theorem gv_d : ∀ i, i < 4 → ∀ j, j < 4 → i ≠ j → Cond.not (Cond.eq (tmW i) (tmW j)) ∈ gvF ∨ Cond.not (Cond.eq (tmW j) (tmW i)) ∈ gvF := by decide +kernel
theorem st_start {s : State} {args : Array Value} (hts : ∀ w ∈ lw_tbl, w.before args s = true) (hgv : (Jvm.Cond.and given_1 narrow_1).before args s = true) : ∃ sa : Nat → Nat, ∀ E : fE, (∀ k, fsa E k = sa k) → (∀ q, fA E q → s.heap.size ≤ q) → fSt E s s.heap := by
  have hs : ∀ w ∈ gvF, w.before args s = true := flat_of_before _ hgv
  have hi : ∀ w ∈ tb, w.before args s = true := fun w hw => hts w (tb_in hw)
  have hA : ∀ a : Nat, a < s.heap.size → ¬ (fun q : Nat => s.heap.size ≤ q) a := fun a h h2 => absurd h (Nat.not_lt.mpr h2)
  obtain ⟨ta, ta1, ta2⟩ := va_Tof (N := 7) (f := fun j => .int (fab j)) (by decide) (hs _ gv_a.1) (va_eqt (hs _ gv_a.2.1)) (fun j hj => va_eqt (hs _ (gv_a.2.2 j hj))) hA
  obtain ⟨tn, tn1, tn2⟩ := va_Tof (N := 21) (f := fun j => .int (fnu j)) (by decide) (hs _ gv_n.1) (va_eqt (hs _ gv_n.2.1)) (fun j hj => va_eqt (hs _ (gv_n.2.2 j hj))) hA
  obtain ⟨aK, aV, w1, w2⟩ := vk_Sof (N := 4) (tm := tmW) (len := fwl) (byt := fwb) (by decide) (fun i h => hs _ (gv_w i h).1) (fun i h => hs _ (gv_w i h).2.1) (fun i h => hs _ (gv_w i h).2.2.1) (fun i h => hs _ (gv_w i h).2.2.2) (fun i h j hj => hs _ (gv_b i h j hj)) (fun i j h hj hn => (gv_d i h j hj hn).imp (fun h => hs _ h) (fun h => hs _ h)) hA
  have za := va_Zref (C := "HiredToWait") (n := "ABOVE") (d := "[I") (t := ta) (hts _ (lwt2 (i := 112) rfl)) (hi _ m_1_1) ta1 hA
  have zn := va_Zref (C := "HiredToWait$Bodies") (n := "NUMBERS") (d := "[I") (t := tn) (hts _ (lwt4 (i := 137) rfl)) (hi _ m_1_7) tn1 hA
  have zc := va_Zof (C := "java/lang/String") (n := "COMPACT_STRINGS") (d := "Z") (hts _ (lwt3 (i := 28) rfl)) (hi _ m_1_12) (va_eqt (hs _ gv_c.1)) hA
  have zf := va_Zqof (C := "jdk/internal/util/Preconditions") (n := "SIOOBE_FORMATTER") (d := "Ljava/util/function/BiFunction;") (hts _ (lwt3 (i := 44) rfl)) (hi _ m_1_14) (hs _ gv_c.2) hA
  refine ⟨fun k => match k with | 0 => ta | 1 => tn | 2 => aK 0 | 3 => aK 1 | 4 => aK 2 | 5 => aK 3 | 6 => aV 0 | 7 => aV 1 | 8 => aV 2 | _ => aV 3, fun E hE hF => ?_⟩
  have e0 : fsa E 0 = ta := hE 0
  have e1 : fsa E 1 = tn := hE 1
  have e2 : fsa E 2 = aK 0 := hE 2
  have e3 : fsa E 3 = aK 1 := hE 3
  have e4 : fsa E 4 = aK 2 := hE 4
  have e5 : fsa E 5 = aK 3 := hE 5
  refine ⟨by rw [e0]; exact za.narrow hF, by rw [e0]; exact ta2.narrow hF, by rw [e1]; exact zn.narrow hF, by rw [e1]; exact tn2.narrow hF, zc.narrow hF, zf.narrow hF,
    (w1.congr (fun i h => ?_)).narrow hF, ⟨?_, ?_, ?_, ?_⟩,
    va_Nw.of rfl (hts _ (lwt4 (i := 132) rfl)), va_Nw.of rfl (hts _ (lwt4 (i := 138) rfl)), va_Nw.of rfl (hts _ (lwt3 (i := 83) rfl)), va_Nw.of rfl (hts _ (lwt4 (i := 47) rfl)), va_Nw.of rfl (hts _ (lwt4 (i := 139) rfl))⟩
  · rcases (show i = 0 ∨ i = 1 ∨ i = 2 ∨ i = 3 by omega) with rfl | rfl | rfl | rfl <;> exact ⟨hE _, hE _⟩
  · exact vk_R.of (hts _ (lwt3 (i := 13) rfl)) (by rw [show fsa E (2 + 0) = aK 0 from e2]; exact w2 0 (by decide))
  · exact vk_R.of (hts _ (lwt3 (i := 93) rfl)) (by rw [show fsa E (2 + 1) = aK 1 from e3]; exact w2 1 (by decide))
  · exact vk_R.of (hts _ (lwt3 (i := 100) rfl)) (by rw [show fsa E (2 + 2) = aK 2 from e4]; exact w2 2 (by decide))
  · exact vk_R.of (hts _ (lwt3 (i := 106) rfl)) (by rw [show fsa E (2 + 3) = aK 3 from e5]; exact w2 3 (by decide))
theorem dv8 : ∀ j, j < 47 → defaultValue (tyX8 j) = vp_V [.int 0, .int 0, .int 0, .int 0, .int 0, .int 0, .int 0, .int 0, .null, .null, .null, .null, .null, .null, .null, .null, .null, .null, .null, .null, .null, .null, .null, .null, .null, .null, .null, .null, .null, .null, .null, .null, .int 0, .int 0, .int 0, .int 0, .int 0, .null, .null, .int 0, .null, .int 0, .int 0, .int 0, .null, .int 0, .int 0] j := fun j hj => by
  iterate 47 (rcases j with _ | j; · rfl)
  omega
set_option maxHeartbeats 4000000 in
set_option maxRecDepth 100000 in
/-- THE LAW, from its entry -/
theorem whole_start {p : Program} {e : Env} {s : State} {m : MethodId} {below : List Frame} {meth : Method} {c : Code} (l : Launch) (hflags : l.flags = flags0) {b L : Nat} {xs : Nat → Int32} (hL : L ≤ 4096) (C0 : lw_At p s m meth c b L xs) : W p l e room_1 s m #[Value.ref b] below meth c s.heap [] 0 0 (lw_Z below #[Value.ref b] s) (entryFrame m ([Value.ref b] : List Value).toArray 4) := by
  obtain ⟨hx, hb, hr, hml, hown, hts, hX, hbl, hlocks, hgv⟩ := id C0
  have F : CallFix p m c cL_law 4 s #[Value.ref b] tb R_law := ⟨hx, hb, hml, hown, fun w hw => hts w (tb_in hw)⟩
  have hA : ∀ q : Nat, s.heap.size ≤ q → (fun q : Nat => s.heap.size ≤ q) q := fun _ h => h
  obtain ⟨sa, hst⟩ := st_start hts hgv
  obtain ⟨D, hK0⟩ := k_start F.2.2.2.2
  obtain ⟨cy, hK⟩ := t6_start hK0 (F.2.2.2.2 _ m_1_71) (F.2.2.2.2 _ m_1_230) (hts _ (lwt1 (i := 26) rfl)) (hts _ (lwt1 (i := 34) rfl)) (hts _ (lwt1 (i := 36) rfl)) (hts _ (lwt1 (i := 189) rfl))
  have hN : iN s := iN_start hts
  have hS : va_S (fun q : Nat => s.heap.size ≤ q) s.heap s.heap [] := va_S.rf
  have hP : va_P D vwCl [] s.heap := fun k q h => by simp at h
  have hD : va_D (fun q : Nat => s.heap.size ≤ q) [] := ⟨fun i j p q h => by simp at h, fun k q h => by simp at h⟩
  have hl := lv_entry ([.ref b]) (n := 4) (Nat.le_of_ble_eq_true rfl)
  rw [lg_entry_eq]
  generalize (lg_sl ([.ref b]) ++ List.replicate (4 - (lg_sl ([.ref b])).length) Slot.unset).toArray = ls at hl ⊢
  have hl : lv_has ls 4 [(0, .ref b)] := hl
  refine va_new (ci := 7) (fs := [.null, .null, .null, .null, .null, .null, .null, .int 0, .int 0]) (C := RX7) (T := TX7) (N := 9) hx hb F.2.2.2.2 inX7 tyX7 tyX7_ok hown (F.2.2.2.2 _ m_1_17) (F.2.2.2.2 _ m_1_18) (F.2.2.2.2 _ m_1_1) hK hP hD hS hA rfl (fun j hj => by rcases (show j = 0 ∨ j = 1 ∨ j = 2 ∨ j = 3 ∨ j = 4 ∨ j = 5 ∨ j = 6 ∨ j = 7 ∨ j = 8 by omega) with rfl | rfl | rfl | rfl | rfl | rfl | rfl | rfl | rfl <;> rfl) (Nat.le_of_ble_eq_true rfl) (Nat.le_of_ble_eq_true rfl) dL_law_0 (fun q0 H hP hD hS => ?_)
  refine lv_dup hx hb dL_law_3 rfl ?_
  refine n_I (n := 0) (blk := bX7 cy q0) F hK hN hP hD hS hA [] [.ref q0] (c_X7_init l D cy H.size q0) m_1_19 m_1_1 m_1_20 m_1_21 rfl (by decide +kernel) ⟨Nat.le_of_ble_eq_true rfl, Nat.le_of_ble_eq_true rfl⟩ rfl hl rfl (Nat.le_of_ble_eq_true rfl) ⟨Nat.le_of_ble_eq_true rfl, Nat.le_of_ble_eq_true rfl⟩ dL_law_4 (fun ad H locs hP hD hS => ?_)
  rw [List.nil_append] at hP hD
  refine lv_astore_n (lv' := [(1, .ref q0), (0, .ref b)]) hx hb dL_law_7 rfl hl (by decide) rfl (fun ls hl => ?_)
  refine W.widen (k := 86) (n := 2067) (Nat.le_of_ble_eq_true rfl) (Nat.le_of_ble_eq_true rfl) ?_
  refine va_new (ci := 8) (fs := [.int 0, .int 0, .int 0, .int 0, .int 0, .int 0, .int 0, .int 0, .null, .null, .null, .null, .null, .null, .null, .null, .null, .null, .null, .null, .null, .null, .null, .null, .null, .null, .null, .null, .null, .null, .null, .null, .int 0, .int 0, .int 0, .int 0, .int 0, .null, .null, .int 0, .null, .int 0, .int 0, .int 0, .null, .int 0, .int 0]) (C := RX8) (T := TX8) (N := 47) hx hb F.2.2.2.2 inX8 tyX8 tyX8_ok hown (F.2.2.2.2 _ m_4_168) (F.2.2.2.2 _ m_4_169) (F.2.2.2.2 _ m_1_9) hK hP hD hS hA rfl dv8 (Nat.le_of_ble_eq_true rfl) (Nat.le_of_ble_eq_true rfl) dL_law_8 (fun q1 H hP hD hS => ?_)
  refine lv_dup hx hb dL_law_11 rfl ?_
  refine n_I (n := 0) (blk := bX8 cy q1) F hK hN hP hD hS hA [] [.ref q1] (c_X8_init l D cy H.size q1) m_4_170 m_1_9 m_4_171 m_4_172 rfl (by decide +kernel) ⟨Nat.le_of_ble_eq_true rfl, Nat.le_of_ble_eq_true rfl⟩ rfl hl rfl (Nat.le_of_ble_eq_true rfl) ⟨Nat.le_of_ble_eq_true rfl, Nat.le_of_ble_eq_true rfl⟩ dL_law_12 (fun ad' H locs hP hD hS => ?_)
  refine lv_astore_n (lv' := [(2, .ref q1), (1, .ref q0), (0, .ref b)]) hx hb dL_law_15 rfl hl (by decide) rfl (fun ls hl => ?_)
  refine lv_iconst (v := 0) hx hb dL_law_16 (by decide) ?_
  refine lv_istore_n (lv' := [(3, .int 0), (2, .ref q1), (1, .ref q0), (0, .ref b)]) hx hb dL_law_17 rfl hl (by decide) rfl (fun ls hl => ?_)
  obtain ⟨hI, hF⟩ := w_I sa hD
  have hP0 := w_P sa hP
  have hX0 : lX (eW D cy sa q0 q1 ad ad') s := ⟨hK, hI, hst _ (fun _ => rfl) hF, hF⟩
  exact law_loop hL C0 hX0 (Nat.le_of_ble_eq_true rfl) (Nat.le_of_ble_eq_true rfl) (L + 1) 0 0 (Nat.zero_le L) (by omega) nI_0.symm _ _ ls ⟨0, 0, M0, L0, rl_0, hP0, hS, lv_sub hl [3, 2, 1, 0] rfl⟩
set_option maxHeartbeats 4000000 in
theorem lw_walk (l : Launch) (hflags : l.flags = flags0) (b : Addr) (xs : List Int32) : MetFree l x (headSpec (Jvm.Cond.code x code maxLocals ret :: tables_1) room_1) (lw_P b xs) (fun _ _ _ _ _ => True) lw_Q := by
  refine MetFree.of_bodyS (code := code) (maxLocals := maxLocals) (ret := ret) (by decide) ?_ ?_
  · intro args s m h hn
    obtain ⟨meth, c, h1, h2, h3, h4, h5, h6, -, -⟩ := Cond.code_spec hn (atoms_spec (ws := Jvm.Cond.code x code maxLocals ret :: tables_1) h _ List.mem_cons_self)
    exact ⟨meth, c, h1, h2, h3, h4, h5, h6⟩
  · intro p e s m args below meth c s₁ B hml0 hP _
    obtain ⟨rfl, hx, hbd, hgv⟩ := hP
    obtain ⟨scr, harrAt, hlist, hof, hsmall⟩ := hx
    obtain ⟨hcb, hkn, -, -⟩ := State.arrayAt?_spec harrAt
    have hown : s.vm.findClass R_law = some m.cls := findClass_of_methodNamed B.named
    have hts0 : ∀ c ∈ (Jvm.Cond.code x code maxLocals ret :: tables_1), c.before #[Value.ref b] s = true := atoms_spec (ws := Jvm.Cond.code x code maxLocals ret :: tables_1) B.pre
    have hts : ∀ w ∈ lw_tbl, w.before #[Value.ref b] s = true := k2_hts_sels lw_privs (fun w hw => hts0 w (List.mem_cons_of_mem _ hw)) lw_privs_ok
    have hml : c.maxLocals = 4 := B.maxLocals_eq (hts0 _ List.mem_cons_self)
    have X₀ : Stand p l e room_1 s m #[Value.ref b] below meth c s₁ [] 0 0 := Stand.of_body B
    have hh0 : s₁.heap = s.heap := by rw [B.state]; rfl
    have hsz : scr.slots.size = xs.length := by rw [← Array.length_toList, hlist, List.length_map]
    have hval : ∀ j : Nat, j < xs.length → scr.slots[j]? = some (.int (xs.getD j 0)) := fun j hj => by
      rw [← Array.getElem?_toList, hlist]
      simp [hj]
    have hbl : b < s.heap.size := (Array.getElem?_eq_some_iff.mp hcb).1
    have hX : va_X b xs.length (fun j => xs.getD j 0) s s.heap := ⟨scr, hcb, hof, hkn, hsz, hval⟩
    have K : W p l e room_1 s m #[Value.ref b] below meth c s₁.heap [] 0 0 (lw_Z below #[Value.ref b] s) (entryFrame m ([Value.ref b] : List Value).toArray 4) := by
      rw [hh0]
      exact whole_start l hflags hbd ⟨B.exec, B.bytes, B.returns, hml, hown, hts, hX, hbl, B.notSynchronized, hgv⟩
    obtain ⟨t, a1, o, b1, b2, b3⟩ := K s₁ rfl X₀
    exact ⟨t, o, a1, b1, b2, b3⟩
theorem lw_pre_spec {args : Array Value} {s : State} (h : (Jvm.Cond.and given_1 narrow_1).before args s = true) (hr : rest_1_c.before args s = true) : ∃ (b : Addr) (xs : List Int32), lw_P b xs args s := by
  have hs := flat_of_before _ h
  have hq := flat_of_before _ hr
  have hc : (Cond.count 1).before args s = true := hs _ (by decide +kernel)
  have harr : (Cond.arrayOf (.arg 0) .int).before args s = true := hs _ (by decide +kernel)
  have hle : (Cond.le (.length (.arg 0)) (.int 4096)).before args s = true := hs _ (by decide +kernel)
  have hlen : (Cond.isInt (.length (.arg 0))).before args s = true := hq _ (by decide +kernel)
  have hall : (Cond.all (.arg 0) (.isInt (.elem (.arg 0) (.index 0)))).before args s = true := hq _ (by decide +kernel)
  obtain ⟨b, xs, hb, hx⟩ := State.ints_of_pre rfl harr hlen hall
  have hsm : xs.length < 2 ^ 31 := hx.choose_spec.2.2.2
  have hev : (Term.length (.arg 0)).eval args s none [] s = some (.int xs.length.toInt32) := hx.length_eval hb
  have hv := Cond.le_ints hev (show (Term.int 4096).eval args s none [] s = some (.int 4096) from rfl)
  have hd : xs.length.toInt32 ≤ 4096 := by
    simpa [Cond.before, Cond.holds, hv] using hle
  have hN : xs.length ≤ 4096 := (Int32.ofNat_le_ofNat hsm (by decide)).mp (show Int32.ofNat xs.length ≤ Int32.ofNat 4096 from hd)
  exact ⟨b, xs, Cond.one_arg hc (show args[0]? = some (.ref b) from hb), hx, hN, h⟩
theorem lw_comes (l : Launch) (hflags : l.flags = flags0) : Comes l x (Jvm.Cond.code x code maxLocals ret :: tables_1) room_1 (fun tb e args s => Calls_1 tb e args s ∧ rest_1 tb e args s ∧ Pre_1 tb e args s)
    (fun _ _ args s o t => lw_Q args s o t) := by
  intro p e ha hc hk s m args below hf hfit hheap happ hpre
  obtain ⟨b, xs, hP⟩ := lw_pre_spec hpre.2.2 hpre.2.1
  obtain ⟨k, o, h1, h2, h3, hQ⟩ := lw_walk l hflags b xs p e ha hc hk s m args below hf ((Spec.applies_iff_loose hf).mp happ).1 hP trivial
  exact ⟨k, o, h1, h2, h3, hQ⟩
theorem lw_frame {s t : State} {o : Outcome} {args : Array Value} (h : Framed s o t [] 600000 7302250) :
    Framed s o t (fieldLocs frame_1_writes args s ++ arrayLocs frame_1_arrays args s ++ staticLocs frame_1_statics s) 600000 7302250 := h
theorem lw_limb (L : Cond) (hL : ∀ (args : Array Value) (s t : State), L.after args s (.returned (some (.int 1))) t = true) :
    ArmFor flags0 classFile x code maxLocals ret World_1 tables_1 room_1 Calls_1 rest_1 Pre_1
      (fun tb e a s o t => postC L tb e a s o t ∧ Framed s o t (fieldLocs frame_1_writes a s ++ arrayLocs frame_1_arrays a s ++ staticLocs frame_1_statics s) 600000 7302250) := by
  intro l hflags _ _ p e ha hc hk s m args below hf hfit hheap happ hpre
  obtain ⟨k, o, h1, h2, h3, rfl, hF⟩ := lw_comes l hflags p e ha hc hk s m args below hf hfit hheap happ hpre
  exact ⟨k, _, h1, h2, h3, hL args s _, lw_frame hF⟩
theorem i_vc : Claimed_1_1 ∧ Claimed_1_2 := ⟨lw_limb limb_1_1 (fun args s t => by simp [limb_1_1, Cond.after, Cond.holds, Cond.value]), lw_limb limb_1_2 (fun args s t => Cond.after_iff.mpr (by
  first | (rw [show limb_1_2 = Cond.eq .result (.int 1) from rfl, Cond.eq_ints (x := 1) (y := 1) rfl rfl]; simp; done) | (simp [limb_1_2, Cond.value, Term.eval]; done)))⟩
