/-! THE CLAIM OUT OF ONE WALK OF THE LAW'S BODY. Your part is whole_start (and what it stands on); all else here is the same for every law, but numbers. -/
def R_law : String := "HiredToWaitLaw"
def lw_P (b : Addr) (xs : List Int32) (args : Array Value) (s : State) : Prop := args = #[.ref b] ∧ s.IntsAt b xs ∧ xs.length ≤ 4096 ∧ (Jvm.Cond.and given_1 narrow_1).before args s = true
def lw_Q (_ : Array Value) (s : State) (o : Outcome) (t : State) : Prop := o = .returned (some (.int 1)) ∧ Framed s o t [] 600000 7302250
def lw_Z (below : List Frame) (a : Array Value) (s : State) : State → Prop := fun t => ∃ o, t.status = .running ∧ Ended t below o ∧ lw_Q a s o t
/-- the law's own end, with 1 on the stack, nothing written that was there before, its room as the claim has it -/
theorem lw_ret {p : Program} {l : Launch} {e : Env} {s : State} {m : MethodId} {below : List Frame} {meth : Method} {c : Code} {b : Nat} (hx : p.tables.exec = Jvm.exec) (hb : c.code = code) (hr : meth.sig.returnType = ret) (hlocks : meth.locks = false) {pc : Nat} {H : Heap} {ls : Array Slot} (hdg : decode code pc = .ok (.ireturn, 1)) : W p l e room_1 s m #[Value.ref b] below meth c H [] 600000 7302250 (lw_Z below #[Value.ref b] s) (F0 m pc ls [.int 1]) := by
  intro T hT X
  obtain ⟨fs, hret, hrun, hended, hW, hframe⟩ := X.leave (v := some (.int 1)) (hlocks := hlocks) (fun h => by rw [hr] at h; cases h)
  have hmeth' : T.vm.method? m = some meth := X.method'
  refine ⟨T.setFrames fs, ?_, .returned (some (.int 1)), hrun, hended, rfl, ⟨_, rfl⟩, hW, hframe⟩
  jvm_step X.here [X.here.top, hx, hb, hdg, hmeth', hr, ret, narrow_b1]
  (try refine ⟨rfl, ?_⟩); (try refine ⟨rfl, ?_⟩)
  first | (intro acts; rw [hret _ acts rfl rfl rfl]) | rw [hret _ _ rfl rfl rfl]
  exact Steps.refl _
/-- what holds at the law's entry: the machine, the code, the tables' words (any of lw_tbl by 'hts w (by decide +kernel)'), the script of L ints xs at the cell b, what the Statement gives of the start (any of its parts by flat_of_before) -/
def lw_At (p : Program) (s : State) (m : MethodId) (meth : Method) (c : Code) (b L : Nat) (xs : Nat → Int32) : Prop :=
  p.tables.exec = Jvm.exec ∧ c.code = code ∧ meth.sig.returnType = ret ∧ c.maxLocals = 4 ∧ s.vm.findClass R_law = some m.cls ∧ (∀ w ∈ lw_tbl, w.before #[Value.ref b] s = true) ∧ va_X b L xs s s.heap ∧ b < s.heap.size ∧ meth.locks = false ∧ (Jvm.Cond.and given_1 narrow_1).before #[Value.ref b] s = true
/-! THE LAW: its cases -/
theorem cs_hcs {tc wc : Nat} {M N : Nat → Nat → Int32} {L K : Nat → Nat → Int64} (r : Rl tc wc M L N K) : ∀ t, t < 8 → N 95 t - N 94 t + 1 + N 96 t ≠ 0 := fun t ht => by
  obtain ⟨f, l, c, h1, h2, h3, h4, h5, h6, h7⟩ := cases_at r ht
  rw [h5]
  intro z
  have := (nI_eq (a := c) (b := 0) (by omega) (by omega)).mp z
  omega
theorem rota_r1 {tc wc : Nat} {M : Nat → Nat → Int32} {L : Nat → Nat → Int64} (r : Rl tc wc M L M L) {t i y : Int32} {M1 : Nat → Nat → Int32} {L1 : Nat → Nat → Int64} (h : rotaR M L wc t i y (M1, L1)) : Rl tc wc M L M1 L1 := by
  have k : (∀ a j, 86 ≤ a → M1 a j = M a j) ∧ L1 = L := by
    unfold rotaR at h
    split at h
    · split at h
      · obtain ⟨M2, h1, h2, -⟩ := h
        cases h1
        exact ⟨fun a j q => h2 a j (by omega) (by omega), rfl⟩
      · obtain ⟨h1, -⟩ := h
        cases h1
        exact ⟨fun a j q => rfM_o (by omega), rfl⟩
    · obtain ⟨h1, -⟩ := h
      cases h1
      exact ⟨fun a j q => rfM_o (by omega), rfl⟩
  obtain ⟨k1, rfl⟩ := k
  exact r.right k1 (fun _ _ _ => rfl)
theorem kl_show {M : Nat → Nat → Int32} {L : Nat → Nat → Int64} {s1 : Int32} {w : Int32} : (a_X8_show M L s1 w).2.2 = L := by
  unfold a_X8_show
  repeat' (first | with_reducible rfl | apply ite22)
theorem kl_says {M : Nat → Nat → Int32} {L : Nat → Nat → Int64} {s1 : Int32} {k : Int32} {wc : Nat} : (a_X8_says M L s1 k wc).2.2 = L := by
  unfold a_X8_says
  repeat' (first | with_reducible rfl | apply ite22)
theorem kl_thing {M : Nat → Nat → Int32} {L : Nat → Nat → Int64} {c1 : Int32} {f : Int32} {l1 : Int32} {n : Int32} {w : Int32} {st : Int32} {a : Int32} {tc : Nat} : (a_X8_thing M L c1 f l1 n w st a tc).2.2 = L := by
  unfold a_X8_thing
  repeat' (first | with_reducible rfl | apply ite22)
theorem kl_waiter {M : Nat → Nat → Int32} {L : Nat → Nat → Int64} {k : Int32} {a : Int32} {p1 : Int32} {q1 : Int32} {c1 : Int32} {wc : Nat} : (a_X8_waiter M L k a p1 q1 c1 wc).2.2 = L := by
  unfold a_X8_waiter
  repeat' (first | with_reducible rfl | apply ite22)
theorem kl_move {M : Nat → Nat → Int32} {L : Nat → Nat → Int64} {w : Int32} {c1 : Int32} {wc : Nat} : (a_X8_move M L w c1 wc).2.2 = L := by
  unfold a_X8_move
  repeat' (first | with_reducible rfl | apply ite22)
theorem kl_ask {M : Nat → Nat → Int32} {L : Nat → Nat → Int64} {v : Int32} : (a_X8_ask M L v).2.2 = L := by
  unfold a_X8_ask
  repeat' (first | with_reducible rfl | apply ite22)
theorem kl_thingOf {M : Nat → Nat → Int32} {L : Nat → Nat → Int64} {t : Int32} {what : Int32} {tc : Nat} : (a_X8_thingOf M L t what tc).2.2 = L := by
  unfold a_X8_thingOf
  repeat' (first | with_reducible rfl | apply ite22)
theorem kl_waiterOf {M : Nat → Nat → Int32} {L : Nat → Nat → Int64} {w : Int32} {what : Int32} {wc : Nat} : (a_X8_waiterOf M L w what wc).2.2 = L := by
  unfold a_X8_waiterOf
  repeat' (first | with_reducible rfl | apply ite22)
theorem kl_cost {M : Nat → Nat → Int32} {L : Nat → Nat → Int64} {w : Int32} {n : Int32} {wc : Nat} : (a_X8_cost M L w n wc).2.2 = L := by
  unfold a_X8_cost
  repeat' (first | with_reducible rfl | apply ite22)
theorem kl_guild {M : Nat → Nat → Int32} {L : Nat → Nat → Int64} {s1 : Int32} {tc : Nat} {wc : Nat} : (guildR M L s1 tc wc).2.2 = L := by
  unfold guildR
  repeat' (first | with_reducible rfl | apply ite22)
theorem kl_by {M : Nat → Nat → Int32} {L : Nat → Nat → Int64} {t : Int32} {q1 : Int32} {tc : Nat} : (a_X8_by M L t q1 tc).2.2 = L := by
  unfold a_X8_by
  repeat' (first | with_reducible rfl | apply ite22)
theorem kl_stop {M : Nat → Nat → Int32} {L : Nat → Nat → Int64} {t : Int32} {w : Int32} {what : Int32} {tc : Nat} {wc : Nat} : (a_X8_stop M L t w what tc wc).2.2 = L := by
  unfold a_X8_stop
  repeat' (first | with_reducible rfl | apply ite22)
theorem kl_best {M : Nat → Nat → Int32} {L : Nat → Nat → Int64} {t : Int32} {tc : Nat} {wc : Nat} : (a_X8_best M L t tc wc).2.2 = L := by
  unfold a_X8_best
  repeat' (first | with_reducible rfl | apply ite22)
theorem kl_lookouts {M : Nat → Nat → Int32} {L : Nat → Nat → Int64} {w : Int32} {tc : Nat} {wc : Nat} : (a_X8_lookouts M L w tc wc).2.2 = L := by
  unfold a_X8_lookouts
  repeat' (first | with_reducible rfl | apply ite22)
theorem kl_posts {M : Nat → Nat → Int32} {L : Nat → Nat → Int64} {what : Int32} {tc : Nat} {wc : Nat} : (a_X8_posts M L what tc wc).2.2 = L := by
  unfold a_X8_posts
  repeat' (first | with_reducible rfl | apply ite22)
theorem kl_seen {M : Nat → Nat → Int32} {L : Nat → Nat → Int64} {w : Int32} {what : Int32} {tc : Nat} {wc : Nat} : (a_X8_seen M L w what tc wc).2.2 = L := by
  unfold a_X8_seen
  repeat' (first | with_reducible rfl | apply ite22)
theorem kl_met {M : Nat → Nat → Int32} {L : Nat → Nat → Int64} {t : Int32} {what : Int32} {tc : Nat} : (a_X8_met M L t what tc).2.2 = L := by
  unfold a_X8_met
  repeat' (first | with_reducible rfl | apply ite22)
theorem kl_runners {M : Nat → Nat → Int32} {L : Nat → Nat → Int64} {k : Int32} {what : Int32} {tc : Nat} : (a_X8_runners M L k what tc).2.2 = L := by
  unfold a_X8_runners
  repeat' (first | with_reducible rfl | apply ite22)
theorem kl_left {M : Nat → Nat → Int32} {L : Nat → Nat → Int64} {s1 : Int32} {n : Int32} {tc : Nat} : (leftR M L s1 n tc).2.2 = L := by
  unfold leftR
  repeat' (first | with_reducible rfl | apply ite22)
theorem kl_await {M : Nat → Nat → Int32} {L : Nat → Nat → Int64} {q1 : Int32} {tc : Nat} : (a_X8_await M L q1 tc).2.2 = L := by
  unfold a_X8_await
  repeat' (first | with_reducible rfl | apply ite22)
theorem kl_judge {M : Nat → Nat → Int32} {L : Nat → Nat → Int64} {s1 : Int32} {n : Int32} {tc : Nat} : (a_X8_judge M L s1 n tc).2.2 = L := by
  unfold a_X8_judge
  repeat' (first | with_reducible rfl | apply ite22)
theorem kl_behind {M : Nat → Nat → Int32} {L : Nat → Nat → Int64} {s1 : Int32} {n : Int32} {what : Int32} {tc : Nat} : (a_X8_behind M L s1 n what tc).2.2 = L := by
  unfold a_X8_behind
  repeat' (first | with_reducible rfl | apply ite22)
theorem kl_done {M : Nat → Nat → Int32} {L : Nat → Nat → Int64} {s1 : Int32} {n : Int32} {tc : Nat} : (a_X8_done M L s1 n tc).2.2 = L := by
  unfold a_X8_done
  repeat' (first | with_reducible rfl | apply ite22)
theorem kl_days {M : Nat → Nat → Int32} {L : Nat → Nat → Int64} {n : Int32} {tc : Nat} {wc : Nat} : (a_X8_days M L n tc wc).2.2 = L := by
  unfold a_X8_days
  repeat' (first | with_reducible rfl | apply ite22)
theorem kl_seed {M : Nat → Nat → Int32} {L : Nat → Nat → Int64} {v : Int32} : (a_X8_seed M L v).2.2 = L := by
  unfold a_X8_seed
  repeat' (first | with_reducible rfl | apply ite22)
theorem kl_act {M : Nat → Nat → Int32} {L : Nat → Nat → Int64} {w : Int32} {mv : Int32} {x : Int32} {wc : Nat} : (a_X8_act M L w mv x wc).2.2 = L := by
  unfold a_X8_act
  repeat' (first | with_reducible rfl | apply ite22)
theorem kl_image {M : Nat → Nat → Int32} {L : Nat → Nat → Int64}  : (a_X8_image M L).2.2 = L := by
  unfold a_X8_image
  repeat' (first | with_reducible rfl | apply ite22)
theorem kl_restore {M : Nat → Nat → Int32} {L : Nat → Nat → Int64}  : (a_X8_restore M L).2.2 = L := by
  unfold a_X8_restore
  repeat' (first | with_reducible rfl | apply ite22)
/-! THE LAW: its cases, one by one -/
set_option maxHeartbeats 1000000 in
theorem lw_c0 {p : Program} {l : Launch} {e : Env} {s : State} {m : MethodId} {below : List Frame} {meth : Method} {c : Code} {b L0 cells slots : Nat} {xs : Nat → Int32} {E : fE} {H : Heap} {locs : List Loc} {ls : Array Slot} {Q : State → Prop} (C0 : lw_At p s m meth c b L0 xs) (X : lX E s) (hcs : cells ≤ room_1.cells ∧ slots ≤ room_1.slots) {x : Int32} (h1 : vp_in (x + 1) L0) (h2 : vp_in (x + 2) L0) (h3 : vp_in (x + 3) L0) (h4 : vp_in (x + 4) L0) (h5 : vp_in (x + 5) L0) (h6 : vp_in (x + 6) L0) (h7 : vp_in (x + 7) L0) (hI : lInv E s b x H locs ls)
    (kk : ∀ (H : Heap) (locs : List Loc) (ls : Array Slot), lInv E s b x H locs ls → W p l e room_1 s m #[Value.ref b] below meth c H locs cells slots Q (F0 m 1442 ls [])) : W p l e room_1 s m #[Value.ref b] below meth c H locs cells slots Q (F0 m 196 ls []) := by
  obtain ⟨hx, hb, hr, hml, hown, hts, hX, hbl, hlocks, hgv⟩ := C0
  have hbA : ¬ (fun q : Nat => s.heap.size ≤ q) b := Nat.not_le.mpr hbl
  have F : CallFix p m c cL_law 4 s #[Value.ref b] tb R_law := ⟨hx, hb, hml, hown, fun w hw => hts w (List.mem_filter.mp hw).1⟩
  obtain ⟨tc, wc, M, L, r, hP, hS, hl⟩ := hI
  have h0 := e_row r (xs (x + 1).toNatClampNeg) (xs (x + 2).toNatClampNeg) (xs (x + 3).toNatClampNeg)
  have r1 := r.right h0.2.2.1 h0.2.2.2.1
  obtain ⟨he, tc1, wc1, r2⟩ := (e_row r1 (xs (x + 1).toNatClampNeg) (xs (x + 2).toNatClampNeg) (xs (x + 3).toNatClampNeg)).fin
  refine lv_aload_n hx hb dL_law_196 rfl (lv_at hl 1 rfl) ?_
  refine lv_aload_n hx hb dL_law_197 rfl (lv_at hl 0 rfl) ?_
  refine lv_iload_n hx hb dL_law_198 rfl (lv_at hl 3 rfl) ?_
  refine lv_iconst (v := 1) hx hb dL_law_199 (by decide) ?_
  refine lv_iadd hx hb dL_law_200 ?_
  refine va_sld hx hb hX hbl hbA hS h1 dL_law_201 ?_
  refine lv_aload_n hx hb dL_law_202 rfl (lv_at hl 0 rfl) ?_
  refine lv_iload_n hx hb dL_law_203 rfl (lv_at hl 3 rfl) ?_
  refine lv_iconst (v := 2) hx hb dL_law_204 (by decide) ?_
  refine lv_iadd hx hb dL_law_205 ?_
  refine va_sld hx hb hX hbl hbA hS h2 dL_law_206 ?_
  refine lv_aload_n hx hb dL_law_207 rfl (lv_at hl 0 rfl) ?_
  refine lv_iload_n hx hb dL_law_208 rfl (lv_at hl 3 rfl) ?_
  refine lv_iconst (v := 3) hx hb dL_law_209 (by decide) ?_
  refine lv_iadd hx hb dL_law_210 ?_
  refine va_sld hx hb hX hbl hbA hS h3 dL_law_211 ?_
  refine l_iV (n := 3) F X hP hS [.int (xs (x + 1).toNatClampNeg), .int (xs (x + 2).toNatClampNeg), .int (xs (x + 3).toNatClampNeg)] [] (c_X7_row l E M L (xs (x + 1).toNatClampNeg) (xs (x + 2).toNatClampNeg) (xs (x + 3).toNatClampNeg)) m_2_19 wi_X7_row rfl rfl (by decide) (by decide +kernel) ⟨Nat.le_of_ble_eq_true rfl, Nat.le_of_ble_eq_true rfl⟩ rfl hl rfl (Nat.le_of_ble_eq_true rfl) hcs dL_law_212 (fun H locs hP hS => ?_)
  refine lv_aload_n hx hb dL_law_215 rfl (lv_at hl 2 rfl) ?_
  refine lv_aload_n hx hb dL_law_216 rfl (lv_at hl 0 rfl) ?_
  refine lv_iload_n hx hb dL_law_217 rfl (lv_at hl 3 rfl) ?_
  refine lv_iconst (v := 1) hx hb dL_law_218 (by decide) ?_
  refine lv_iadd hx hb dL_law_219 ?_
  refine va_sld hx hb hX hbl hbA hS h1 dL_law_220 ?_
  refine lv_aload_n hx hb dL_law_221 rfl (lv_at hl 0 rfl) ?_
  refine lv_iload_n hx hb dL_law_222 rfl (lv_at hl 3 rfl) ?_
  refine lv_iconst (v := 2) hx hb dL_law_223 (by decide) ?_
  refine lv_iadd hx hb dL_law_224 ?_
  refine va_sld hx hb hX hbl hbA hS h2 dL_law_225 ?_
  refine lv_aload_n hx hb dL_law_226 rfl (lv_at hl 0 rfl) ?_
  refine lv_iload_n hx hb dL_law_227 rfl (lv_at hl 3 rfl) ?_
  refine lv_iconst (v := 3) hx hb dL_law_228 (by decide) ?_
  refine lv_iadd hx hb dL_law_229 ?_
  refine va_sld hx hb hX hbl hbA hS h3 dL_law_230 ?_
  refine l_iV (n := 3) F X hP hS [.int (xs (x + 1).toNatClampNeg), .int (xs (x + 2).toNatClampNeg), .int (xs (x + 3).toNatClampNeg)] [_] (c_X8_row l E _ _ (xs (x + 1).toNatClampNeg) (xs (x + 2).toNatClampNeg) (xs (x + 3).toNatClampNeg)) m_5_76 wi_X8_row rfl rfl (by decide) (by decide +kernel) ⟨Nat.le_of_ble_eq_true rfl, Nat.le_of_ble_eq_true rfl⟩ rfl hl rfl (Nat.le_of_ble_eq_true rfl) hcs dL_law_231 (fun H locs hP hS => ?_)
  exact lv_icmp_eq (tgt := 1442) hx hb dL_law_234 (by decide) (fun c9 => kk _ _ _ ⟨tc1, wc1, _, _, r2, hP, hS, hl⟩) (fun c9 => absurd he c9)
set_option maxHeartbeats 1000000 in
theorem lw_c1 {p : Program} {l : Launch} {e : Env} {s : State} {m : MethodId} {below : List Frame} {meth : Method} {c : Code} {b L0 cells slots : Nat} {xs : Nat → Int32} {E : fE} {H : Heap} {locs : List Loc} {ls : Array Slot} {Q : State → Prop} (C0 : lw_At p s m meth c b L0 xs) (X : lX E s) (hcs : cells ≤ room_1.cells ∧ slots ≤ room_1.slots) {x : Int32} (h1 : vp_in (x + 1) L0) (h2 : vp_in (x + 2) L0) (h3 : vp_in (x + 3) L0) (h4 : vp_in (x + 4) L0) (h5 : vp_in (x + 5) L0) (h6 : vp_in (x + 6) L0) (h7 : vp_in (x + 7) L0) (hI : lInv E s b x H locs ls)
    (kk : ∀ (H : Heap) (locs : List Loc) (ls : Array Slot), lInv E s b x H locs ls → W p l e room_1 s m #[Value.ref b] below meth c H locs cells slots Q (F0 m 1442 ls [])) : W p l e room_1 s m #[Value.ref b] below meth c H locs cells slots Q (F0 m 239 ls []) := by
  obtain ⟨hx, hb, hr, hml, hown, hts, hX, hbl, hlocks, hgv⟩ := C0
  have hbA : ¬ (fun q : Nat => s.heap.size ≤ q) b := Nat.not_le.mpr hbl
  have F : CallFix p m c cL_law 4 s #[Value.ref b] tb R_law := ⟨hx, hb, hml, hown, fun w hw => hts w (List.mem_filter.mp hw).1⟩
  obtain ⟨tc, wc, M, L, r, hP, hS, hl⟩ := hI
  have h0 := e_set r (xs (x + 1).toNatClampNeg) (xs (x + 2).toNatClampNeg) ((((xs (x + 3).toNatClampNeg).toInt64) <<< ((32 : Int32).toInt64 &&& 63)) ||| (((xs (x + 4).toNatClampNeg).toInt64) &&& 4294967295))
  have r1 := r.right h0.2.2.1 h0.2.2.2.1
  obtain ⟨he, tc1, wc1, r2⟩ := (e_set r1 (xs (x + 1).toNatClampNeg) (xs (x + 2).toNatClampNeg) ((((xs (x + 3).toNatClampNeg).toInt64) <<< ((32 : Int32).toInt64 &&& 63)) ||| (((xs (x + 4).toNatClampNeg).toInt64) &&& 4294967295))).fin
  refine lv_aload_n hx hb dL_law_239 rfl (lv_at hl 1 rfl) ?_
  refine lv_aload_n hx hb dL_law_240 rfl (lv_at hl 0 rfl) ?_
  refine lv_iload_n hx hb dL_law_241 rfl (lv_at hl 3 rfl) ?_
  refine lv_iconst (v := 1) hx hb dL_law_242 (by decide) ?_
  refine lv_iadd hx hb dL_law_243 ?_
  refine va_sld hx hb hX hbl hbA hS h1 dL_law_244 ?_
  refine lv_aload_n hx hb dL_law_245 rfl (lv_at hl 0 rfl) ?_
  refine lv_iload_n hx hb dL_law_246 rfl (lv_at hl 3 rfl) ?_
  refine lv_iconst (v := 2) hx hb dL_law_247 (by decide) ?_
  refine lv_iadd hx hb dL_law_248 ?_
  refine va_sld hx hb hX hbl hbA hS h2 dL_law_249 ?_
  refine lv_aload_n hx hb dL_law_250 rfl (lv_at hl 0 rfl) ?_
  refine lv_iload_n hx hb dL_law_251 rfl (lv_at hl 3 rfl) ?_
  refine lv_iconst (v := 3) hx hb dL_law_252 (by decide) ?_
  refine lv_iadd hx hb dL_law_253 ?_
  refine va_sld hx hb hX hbl hbA hS h3 dL_law_254 ?_
  refine lv_i2l (v := ((xs (x + 3).toNatClampNeg).toInt64)) hx hb dL_law_255 rfl ?_
  refine lv_bipush (v := 32) hx hb dL_law_256 (by decide) ?_
  refine lv_lshl (v := (((xs (x + 3).toNatClampNeg).toInt64) <<< ((32 : Int32).toInt64 &&& 63))) hx hb dL_law_258 rfl ?_
  refine lv_aload_n hx hb dL_law_259 rfl (lv_at hl 0 rfl) ?_
  refine lv_iload_n hx hb dL_law_260 rfl (lv_at hl 3 rfl) ?_
  refine lv_iconst (v := 4) hx hb dL_law_261 (by decide) ?_
  refine lv_iadd hx hb dL_law_262 ?_
  refine va_sld hx hb hX hbl hbA hS h4 dL_law_263 ?_
  refine lv_i2l (v := ((xs (x + 4).toNatClampNeg).toInt64)) hx hb dL_law_264 rfl ?_
  refine lv_ldc2 (v := 4294967295) hx hb hown (F.2.2.2.2 _ m_6_141) dL_law_265 ?_
  refine lv_land hx hb dL_law_268 ?_
  refine lv_lor hx hb dL_law_269 ?_
  refine l_iV (n := 3) F X hP hS [.int (xs (x + 1).toNatClampNeg), .int (xs (x + 2).toNatClampNeg), .long ((((xs (x + 3).toNatClampNeg).toInt64) <<< ((32 : Int32).toInt64 &&& 63)) ||| (((xs (x + 4).toNatClampNeg).toInt64) &&& 4294967295))] [] (c_X7_set l E M L (xs (x + 1).toNatClampNeg) (xs (x + 2).toNatClampNeg) ((((xs (x + 3).toNatClampNeg).toInt64) <<< ((32 : Int32).toInt64 &&& 63)) ||| (((xs (x + 4).toNatClampNeg).toInt64) &&& 4294967295))) m_2_37 wi_X7_set rfl rfl (by decide) (by decide +kernel) ⟨Nat.le_of_ble_eq_true rfl, Nat.le_of_ble_eq_true rfl⟩ rfl hl rfl (Nat.le_of_ble_eq_true rfl) hcs dL_law_270 (fun H locs hP hS => ?_)
  refine lv_aload_n hx hb dL_law_273 rfl (lv_at hl 2 rfl) ?_
  refine lv_aload_n hx hb dL_law_274 rfl (lv_at hl 0 rfl) ?_
  refine lv_iload_n hx hb dL_law_275 rfl (lv_at hl 3 rfl) ?_
  refine lv_iconst (v := 1) hx hb dL_law_276 (by decide) ?_
  refine lv_iadd hx hb dL_law_277 ?_
  refine va_sld hx hb hX hbl hbA hS h1 dL_law_278 ?_
  refine lv_aload_n hx hb dL_law_279 rfl (lv_at hl 0 rfl) ?_
  refine lv_iload_n hx hb dL_law_280 rfl (lv_at hl 3 rfl) ?_
  refine lv_iconst (v := 2) hx hb dL_law_281 (by decide) ?_
  refine lv_iadd hx hb dL_law_282 ?_
  refine va_sld hx hb hX hbl hbA hS h2 dL_law_283 ?_
  refine lv_aload_n hx hb dL_law_284 rfl (lv_at hl 0 rfl) ?_
  refine lv_iload_n hx hb dL_law_285 rfl (lv_at hl 3 rfl) ?_
  refine lv_iconst (v := 3) hx hb dL_law_286 (by decide) ?_
  refine lv_iadd hx hb dL_law_287 ?_
  refine va_sld hx hb hX hbl hbA hS h3 dL_law_288 ?_
  refine lv_i2l (v := ((xs (x + 3).toNatClampNeg).toInt64)) hx hb dL_law_289 rfl ?_
  refine lv_bipush (v := 32) hx hb dL_law_290 (by decide) ?_
  refine lv_lshl (v := (((xs (x + 3).toNatClampNeg).toInt64) <<< ((32 : Int32).toInt64 &&& 63))) hx hb dL_law_292 rfl ?_
  refine lv_aload_n hx hb dL_law_293 rfl (lv_at hl 0 rfl) ?_
  refine lv_iload_n hx hb dL_law_294 rfl (lv_at hl 3 rfl) ?_
  refine lv_iconst (v := 4) hx hb dL_law_295 (by decide) ?_
  refine lv_iadd hx hb dL_law_296 ?_
  refine va_sld hx hb hX hbl hbA hS h4 dL_law_297 ?_
  refine lv_i2l (v := ((xs (x + 4).toNatClampNeg).toInt64)) hx hb dL_law_298 rfl ?_
  refine lv_ldc2 (v := 4294967295) hx hb hown (F.2.2.2.2 _ m_6_141) dL_law_299 ?_
  refine lv_land hx hb dL_law_302 ?_
  refine lv_lor hx hb dL_law_303 ?_
  refine l_iV (n := 3) F X hP hS [.int (xs (x + 1).toNatClampNeg), .int (xs (x + 2).toNatClampNeg), .long ((((xs (x + 3).toNatClampNeg).toInt64) <<< ((32 : Int32).toInt64 &&& 63)) ||| (((xs (x + 4).toNatClampNeg).toInt64) &&& 4294967295))] [_] (c_X8_set l E _ _ (xs (x + 1).toNatClampNeg) (xs (x + 2).toNatClampNeg) ((((xs (x + 3).toNatClampNeg).toInt64) <<< ((32 : Int32).toInt64 &&& 63)) ||| (((xs (x + 4).toNatClampNeg).toInt64) &&& 4294967295)) (cs_hzz r1)) m_5_88 wi_X8_set rfl rfl (by decide) (by decide +kernel) ⟨Nat.le_of_ble_eq_true rfl, Nat.le_of_ble_eq_true rfl⟩ rfl hl rfl (Nat.le_of_ble_eq_true rfl) hcs dL_law_304 (fun H locs hP hS => ?_)
  exact lv_icmp_eq (tgt := 1442) hx hb dL_law_307 (by decide) (fun c9 => kk _ _ _ ⟨tc1, wc1, _, _, r2, hP, hS, hl⟩) (fun c9 => absurd he c9)
set_option maxHeartbeats 1000000 in
theorem lw_c2 {p : Program} {l : Launch} {e : Env} {s : State} {m : MethodId} {below : List Frame} {meth : Method} {c : Code} {b L0 cells slots : Nat} {xs : Nat → Int32} {E : fE} {H : Heap} {locs : List Loc} {ls : Array Slot} {Q : State → Prop} (C0 : lw_At p s m meth c b L0 xs) (X : lX E s) (hcs : cells ≤ room_1.cells ∧ slots ≤ room_1.slots) {x : Int32} (h1 : vp_in (x + 1) L0) (h2 : vp_in (x + 2) L0) (h3 : vp_in (x + 3) L0) (h4 : vp_in (x + 4) L0) (h5 : vp_in (x + 5) L0) (h6 : vp_in (x + 6) L0) (h7 : vp_in (x + 7) L0) (hI : lInv E s b x H locs ls)
    (kk : ∀ (H : Heap) (locs : List Loc) (ls : Array Slot), lInv E s b x H locs ls → W p l e room_1 s m #[Value.ref b] below meth c H locs cells slots Q (F0 m 1442 ls [])) : W p l e room_1 s m #[Value.ref b] below meth c H locs cells slots Q (F0 m 312 ls []) := by
  obtain ⟨hx, hb, hr, hml, hown, hts, hX, hbl, hlocks, hgv⟩ := C0
  have hbA : ¬ (fun q : Nat => s.heap.size ≤ q) b := Nat.not_le.mpr hbl
  have F : CallFix p m c cL_law 4 s #[Value.ref b] tb R_law := ⟨hx, hb, hml, hown, fun w hw => hts w (List.mem_filter.mp hw).1⟩
  obtain ⟨tc, wc, M, L, r, hP, hS, hl⟩ := hI
  have h0 := e_copy r (xs (x + 1).toNatClampNeg) (xs (x + 2).toNatClampNeg) (xs (x + 3).toNatClampNeg) (xs (x + 4).toNatClampNeg) (xs (x + 5).toNatClampNeg)
  have r1 := r.right h0.2.2.1 h0.2.2.2.1
  obtain ⟨he, tc1, wc1, r2⟩ := (e_copy r1 (xs (x + 1).toNatClampNeg) (xs (x + 2).toNatClampNeg) (xs (x + 3).toNatClampNeg) (xs (x + 4).toNatClampNeg) (xs (x + 5).toNatClampNeg)).fin
  refine lv_aload_n hx hb dL_law_312 rfl (lv_at hl 1 rfl) ?_
  refine lv_aload_n hx hb dL_law_313 rfl (lv_at hl 0 rfl) ?_
  refine lv_iload_n hx hb dL_law_314 rfl (lv_at hl 3 rfl) ?_
  refine lv_iconst (v := 1) hx hb dL_law_315 (by decide) ?_
  refine lv_iadd hx hb dL_law_316 ?_
  refine va_sld hx hb hX hbl hbA hS h1 dL_law_317 ?_
  refine lv_aload_n hx hb dL_law_318 rfl (lv_at hl 0 rfl) ?_
  refine lv_iload_n hx hb dL_law_319 rfl (lv_at hl 3 rfl) ?_
  refine lv_iconst (v := 2) hx hb dL_law_320 (by decide) ?_
  refine lv_iadd hx hb dL_law_321 ?_
  refine va_sld hx hb hX hbl hbA hS h2 dL_law_322 ?_
  refine lv_aload_n hx hb dL_law_323 rfl (lv_at hl 0 rfl) ?_
  refine lv_iload_n hx hb dL_law_324 rfl (lv_at hl 3 rfl) ?_
  refine lv_iconst (v := 3) hx hb dL_law_325 (by decide) ?_
  refine lv_iadd hx hb dL_law_326 ?_
  refine va_sld hx hb hX hbl hbA hS h3 dL_law_327 ?_
  refine lv_aload_n hx hb dL_law_328 rfl (lv_at hl 0 rfl) ?_
  refine lv_iload_n hx hb dL_law_329 rfl (lv_at hl 3 rfl) ?_
  refine lv_iconst (v := 4) hx hb dL_law_330 (by decide) ?_
  refine lv_iadd hx hb dL_law_331 ?_
  refine va_sld hx hb hX hbl hbA hS h4 dL_law_332 ?_
  refine lv_aload_n hx hb dL_law_333 rfl (lv_at hl 0 rfl) ?_
  refine lv_iload_n hx hb dL_law_334 rfl (lv_at hl 3 rfl) ?_
  refine lv_iconst (v := 5) hx hb dL_law_335 (by decide) ?_
  refine lv_iadd hx hb dL_law_336 ?_
  refine va_sld hx hb hX hbl hbA hS h5 dL_law_337 ?_
  refine l_iV (n := 5) F X hP hS [.int (xs (x + 1).toNatClampNeg), .int (xs (x + 2).toNatClampNeg), .int (xs (x + 3).toNatClampNeg), .int (xs (x + 4).toNatClampNeg), .int (xs (x + 5).toNatClampNeg)] [] (c_X7_copy l E M L (xs (x + 1).toNatClampNeg) (xs (x + 2).toNatClampNeg) (xs (x + 3).toNatClampNeg) (xs (x + 4).toNatClampNeg) (xs (x + 5).toNatClampNeg) (cs_szOK r)) m_2_62 wi_X7_copy rfl rfl (by decide) (by decide +kernel) ⟨Nat.le_of_ble_eq_true rfl, Nat.le_of_ble_eq_true rfl⟩ rfl hl rfl (Nat.le_of_ble_eq_true rfl) hcs dL_law_338 (fun H locs hP hS => ?_)
  refine lv_aload_n hx hb dL_law_341 rfl (lv_at hl 2 rfl) ?_
  refine lv_aload_n hx hb dL_law_342 rfl (lv_at hl 0 rfl) ?_
  refine lv_iload_n hx hb dL_law_343 rfl (lv_at hl 3 rfl) ?_
  refine lv_iconst (v := 1) hx hb dL_law_344 (by decide) ?_
  refine lv_iadd hx hb dL_law_345 ?_
  refine va_sld hx hb hX hbl hbA hS h1 dL_law_346 ?_
  refine lv_aload_n hx hb dL_law_347 rfl (lv_at hl 0 rfl) ?_
  refine lv_iload_n hx hb dL_law_348 rfl (lv_at hl 3 rfl) ?_
  refine lv_iconst (v := 2) hx hb dL_law_349 (by decide) ?_
  refine lv_iadd hx hb dL_law_350 ?_
  refine va_sld hx hb hX hbl hbA hS h2 dL_law_351 ?_
  refine lv_aload_n hx hb dL_law_352 rfl (lv_at hl 0 rfl) ?_
  refine lv_iload_n hx hb dL_law_353 rfl (lv_at hl 3 rfl) ?_
  refine lv_iconst (v := 3) hx hb dL_law_354 (by decide) ?_
  refine lv_iadd hx hb dL_law_355 ?_
  refine va_sld hx hb hX hbl hbA hS h3 dL_law_356 ?_
  refine lv_aload_n hx hb dL_law_357 rfl (lv_at hl 0 rfl) ?_
  refine lv_iload_n hx hb dL_law_358 rfl (lv_at hl 3 rfl) ?_
  refine lv_iconst (v := 4) hx hb dL_law_359 (by decide) ?_
  refine lv_iadd hx hb dL_law_360 ?_
  refine va_sld hx hb hX hbl hbA hS h4 dL_law_361 ?_
  refine lv_aload_n hx hb dL_law_362 rfl (lv_at hl 0 rfl) ?_
  refine lv_iload_n hx hb dL_law_363 rfl (lv_at hl 3 rfl) ?_
  refine lv_iconst (v := 5) hx hb dL_law_364 (by decide) ?_
  refine lv_iadd hx hb dL_law_365 ?_
  refine va_sld hx hb hX hbl hbA hS h5 dL_law_366 ?_
  refine l_iV (n := 5) F X hP hS [.int (xs (x + 1).toNatClampNeg), .int (xs (x + 2).toNatClampNeg), .int (xs (x + 3).toNatClampNeg), .int (xs (x + 4).toNatClampNeg), .int (xs (x + 5).toNatClampNeg)] [_] (c_X8_copy l E _ _ (xs (x + 1).toNatClampNeg) (xs (x + 2).toNatClampNeg) (xs (x + 3).toNatClampNeg) (xs (x + 4).toNatClampNeg) (xs (x + 5).toNatClampNeg) (cs_hzz r1)) m_5_92 wi_X8_copy rfl rfl (by decide) (by decide +kernel) ⟨Nat.le_of_ble_eq_true rfl, Nat.le_of_ble_eq_true rfl⟩ rfl hl rfl (Nat.le_of_ble_eq_true rfl) hcs dL_law_367 (fun H locs hP hS => ?_)
  exact lv_icmp_eq (tgt := 1442) hx hb dL_law_370 (by decide) (fun c9 => kk _ _ _ ⟨tc1, wc1, _, _, r2, hP, hS, hl⟩) (fun c9 => absurd he c9)
set_option maxHeartbeats 1000000 in
theorem lw_c3 {p : Program} {l : Launch} {e : Env} {s : State} {m : MethodId} {below : List Frame} {meth : Method} {c : Code} {b L0 cells slots : Nat} {xs : Nat → Int32} {E : fE} {H : Heap} {locs : List Loc} {ls : Array Slot} {Q : State → Prop} (C0 : lw_At p s m meth c b L0 xs) (X : lX E s) (hcs : cells ≤ room_1.cells ∧ slots ≤ room_1.slots) {x : Int32} (h1 : vp_in (x + 1) L0) (h2 : vp_in (x + 2) L0) (h3 : vp_in (x + 3) L0) (h4 : vp_in (x + 4) L0) (h5 : vp_in (x + 5) L0) (h6 : vp_in (x + 6) L0) (h7 : vp_in (x + 7) L0) (hI : lInv E s b x H locs ls)
    (kk : ∀ (H : Heap) (locs : List Loc) (ls : Array Slot), lInv E s b x H locs ls → W p l e room_1 s m #[Value.ref b] below meth c H locs cells slots Q (F0 m 1442 ls [])) : W p l e room_1 s m #[Value.ref b] below meth c H locs cells slots Q (F0 m 375 ls []) := by
  obtain ⟨hx, hb, hr, hml, hown, hts, hX, hbl, hlocks, hgv⟩ := C0
  have hbA : ¬ (fun q : Nat => s.heap.size ≤ q) b := Nat.not_le.mpr hbl
  have F : CallFix p m c cL_law 4 s #[Value.ref b] tb R_law := ⟨hx, hb, hml, hown, fun w hw => hts w (List.mem_filter.mp hw).1⟩
  obtain ⟨tc, wc, M, L, r, hP, hS, hl⟩ := hI
  have h0 := e_element r (xs (x + 1).toNatClampNeg) (xs (x + 2).toNatClampNeg)
  have r1 := r.right h0.2.2.1 h0.2.2.2.1
  obtain ⟨he, tc1, wc1, r2⟩ := (e_element r1 (xs (x + 1).toNatClampNeg) (xs (x + 2).toNatClampNeg)).fin
  refine lv_aload_n hx hb dL_law_375 rfl (lv_at hl 1 rfl) ?_
  refine lv_aload_n hx hb dL_law_376 rfl (lv_at hl 0 rfl) ?_
  refine lv_iload_n hx hb dL_law_377 rfl (lv_at hl 3 rfl) ?_
  refine lv_iconst (v := 1) hx hb dL_law_378 (by decide) ?_
  refine lv_iadd hx hb dL_law_379 ?_
  refine va_sld hx hb hX hbl hbA hS h1 dL_law_380 ?_
  refine lv_aload_n hx hb dL_law_381 rfl (lv_at hl 0 rfl) ?_
  refine lv_iload_n hx hb dL_law_382 rfl (lv_at hl 3 rfl) ?_
  refine lv_iconst (v := 2) hx hb dL_law_383 (by decide) ?_
  refine lv_iadd hx hb dL_law_384 ?_
  refine va_sld hx hb hX hbl hbA hS h2 dL_law_385 ?_
  refine l_lV (n := 2) F X hP hS [.int (xs (x + 1).toNatClampNeg), .int (xs (x + 2).toNatClampNeg)] [] (c_X7_element l E M L (xs (x + 1).toNatClampNeg) (xs (x + 2).toNatClampNeg)) m_2_77 wi_X7_element rfl rfl (by decide) (by decide +kernel) ⟨Nat.le_of_ble_eq_true rfl, Nat.le_of_ble_eq_true rfl⟩ rfl hl rfl (Nat.le_of_ble_eq_true rfl) hcs dL_law_386 (fun H locs hP hS => ?_)
  refine lv_aload_n hx hb dL_law_389 rfl (lv_at hl 2 rfl) ?_
  refine lv_aload_n hx hb dL_law_390 rfl (lv_at hl 0 rfl) ?_
  refine lv_iload_n hx hb dL_law_391 rfl (lv_at hl 3 rfl) ?_
  refine lv_iconst (v := 1) hx hb dL_law_392 (by decide) ?_
  refine lv_iadd hx hb dL_law_393 ?_
  refine va_sld hx hb hX hbl hbA hS h1 dL_law_394 ?_
  refine lv_aload_n hx hb dL_law_395 rfl (lv_at hl 0 rfl) ?_
  refine lv_iload_n hx hb dL_law_396 rfl (lv_at hl 3 rfl) ?_
  refine lv_iconst (v := 2) hx hb dL_law_397 (by decide) ?_
  refine lv_iadd hx hb dL_law_398 ?_
  refine va_sld hx hb hX hbl hbA hS h2 dL_law_399 ?_
  refine l_lV (n := 2) F X hP hS [.int (xs (x + 1).toNatClampNeg), .int (xs (x + 2).toNatClampNeg)] [_] (c_X8_element l E _ _ (xs (x + 1).toNatClampNeg) (xs (x + 2).toNatClampNeg) (cs_hzz r1)) m_5_96 wi_X8_element rfl rfl (by decide) (by decide +kernel) ⟨Nat.le_of_ble_eq_true rfl, Nat.le_of_ble_eq_true rfl⟩ rfl hl rfl (Nat.le_of_ble_eq_true rfl) hcs dL_law_400 (fun H locs hP hS => ?_)
  refine W.lcmp hx hb dL_law_403 ?_
  refine lv_if_eq (tgt := 1442) hx hb dL_law_404 (by decide) (fun c9 => kk _ _ _ ⟨tc1, wc1, _, _, r2, hP, hS, hl⟩) (fun c9 => absurd ((lg_cmp_eq _ _).mpr he) c9)
set_option maxHeartbeats 1000000 in
theorem lw_c4 {p : Program} {l : Launch} {e : Env} {s : State} {m : MethodId} {below : List Frame} {meth : Method} {c : Code} {b L0 cells slots : Nat} {xs : Nat → Int32} {E : fE} {H : Heap} {locs : List Loc} {ls : Array Slot} {Q : State → Prop} (C0 : lw_At p s m meth c b L0 xs) (X : lX E s) (hcs : cells ≤ room_1.cells ∧ slots ≤ room_1.slots) {x : Int32} (h1 : vp_in (x + 1) L0) (h2 : vp_in (x + 2) L0) (h3 : vp_in (x + 3) L0) (h4 : vp_in (x + 4) L0) (h5 : vp_in (x + 5) L0) (h6 : vp_in (x + 6) L0) (h7 : vp_in (x + 7) L0) (hI : lInv E s b x H locs ls)
    (kk : ∀ (H : Heap) (locs : List Loc) (ls : Array Slot), lInv E s b x H locs ls → W p l e room_1 s m #[Value.ref b] below meth c H locs cells slots Q (F0 m 1442 ls [])) : W p l e room_1 s m #[Value.ref b] below meth c H locs cells slots Q (F0 m 409 ls []) := by
  obtain ⟨hx, hb, hr, hml, hown, hts, hX, hbl, hlocks, hgv⟩ := C0
  have hbA : ¬ (fun q : Nat => s.heap.size ≤ q) b := Nat.not_le.mpr hbl
  have F : CallFix p m c cL_law 4 s #[Value.ref b] tb R_law := ⟨hx, hb, hml, hown, fun w hw => hts w (List.mem_filter.mp hw).1⟩
  obtain ⟨tc, wc, M, L, r, hP, hS, hl⟩ := hI
  have h0 := e_show r (xs (x + 1).toNatClampNeg) (xs (x + 2).toNatClampNeg)
  have r1 := r.right h0.2.2.1 h0.2.2.2.1
  obtain ⟨he, tc1, wc1, r2⟩ := (e_show r1 (xs (x + 1).toNatClampNeg) (xs (x + 2).toNatClampNeg)).fin
  rw [kl_show] at r2
  refine lv_aload_n hx hb dL_law_409 rfl (lv_at hl 1 rfl) ?_
  refine lv_aload_n hx hb dL_law_410 rfl (lv_at hl 0 rfl) ?_
  refine lv_iload_n hx hb dL_law_411 rfl (lv_at hl 3 rfl) ?_
  refine lv_iconst (v := 1) hx hb dL_law_412 (by decide) ?_
  refine lv_iadd hx hb dL_law_413 ?_
  refine va_sld hx hb hX hbl hbA hS h1 dL_law_414 ?_
  refine lv_aload_n hx hb dL_law_415 rfl (lv_at hl 0 rfl) ?_
  refine lv_iload_n hx hb dL_law_416 rfl (lv_at hl 3 rfl) ?_
  refine lv_iconst (v := 2) hx hb dL_law_417 (by decide) ?_
  refine lv_iadd hx hb dL_law_418 ?_
  refine va_sld hx hb hX hbl hbA hS h2 dL_law_419 ?_
  refine l_iV (n := 2) F X hP hS [.int (xs (x + 1).toNatClampNeg), .int (xs (x + 2).toNatClampNeg)] [] (c_X7_show l E M L (xs (x + 1).toNatClampNeg) (xs (x + 2).toNatClampNeg)) m_2_85 wi_X7_show rfl rfl (by decide) (by decide +kernel) ⟨Nat.le_of_ble_eq_true rfl, Nat.le_of_ble_eq_true rfl⟩ rfl hl rfl (Nat.le_of_ble_eq_true rfl) hcs dL_law_420 (fun H locs hP hS => ?_)
  refine lv_aload_n hx hb dL_law_423 rfl (lv_at hl 2 rfl) ?_
  refine lv_aload_n hx hb dL_law_424 rfl (lv_at hl 0 rfl) ?_
  refine lv_iload_n hx hb dL_law_425 rfl (lv_at hl 3 rfl) ?_
  refine lv_iconst (v := 1) hx hb dL_law_426 (by decide) ?_
  refine lv_iadd hx hb dL_law_427 ?_
  refine va_sld hx hb hX hbl hbA hS h1 dL_law_428 ?_
  refine lv_aload_n hx hb dL_law_429 rfl (lv_at hl 0 rfl) ?_
  refine lv_iload_n hx hb dL_law_430 rfl (lv_at hl 3 rfl) ?_
  refine lv_iconst (v := 2) hx hb dL_law_431 (by decide) ?_
  refine lv_iadd hx hb dL_law_432 ?_
  refine va_sld hx hb hX hbl hbA hS h2 dL_law_433 ?_
  refine l_iV (n := 2) F X hP hS [.int (xs (x + 1).toNatClampNeg), .int (xs (x + 2).toNatClampNeg)] [_] (c_X8_show l E _ _ (xs (x + 1).toNatClampNeg) (xs (x + 2).toNatClampNeg)) m_5_100 wi_X8_show rfl rfl (by decide) (by decide +kernel) ⟨Nat.le_of_ble_eq_true rfl, Nat.le_of_ble_eq_true rfl⟩ rfl hl rfl (Nat.le_of_ble_eq_true rfl) hcs dL_law_434 (fun H locs hP hS => ?_)
  exact lv_icmp_eq (tgt := 1442) hx hb dL_law_437 (by decide) (fun c9 => kk _ _ _ ⟨tc1, wc1, _, _, r2, hP, hS, hl⟩) (fun c9 => absurd he c9)
set_option maxHeartbeats 1000000 in
theorem lw_c5 {p : Program} {l : Launch} {e : Env} {s : State} {m : MethodId} {below : List Frame} {meth : Method} {c : Code} {b L0 cells slots : Nat} {xs : Nat → Int32} {E : fE} {H : Heap} {locs : List Loc} {ls : Array Slot} {Q : State → Prop} (C0 : lw_At p s m meth c b L0 xs) (X : lX E s) (hcs : cells ≤ room_1.cells ∧ slots ≤ room_1.slots) {x : Int32} (h1 : vp_in (x + 1) L0) (h2 : vp_in (x + 2) L0) (h3 : vp_in (x + 3) L0) (h4 : vp_in (x + 4) L0) (h5 : vp_in (x + 5) L0) (h6 : vp_in (x + 6) L0) (h7 : vp_in (x + 7) L0) (hI : lInv E s b x H locs ls)
    (kk : ∀ (H : Heap) (locs : List Loc) (ls : Array Slot), lInv E s b x H locs ls → W p l e room_1 s m #[Value.ref b] below meth c H locs cells slots Q (F0 m 1442 ls [])) : W p l e room_1 s m #[Value.ref b] below meth c H locs cells slots Q (F0 m 442 ls []) := by
  obtain ⟨hx, hb, hr, hml, hown, hts, hX, hbl, hlocks, hgv⟩ := C0
  have hbA : ¬ (fun q : Nat => s.heap.size ≤ q) b := Nat.not_le.mpr hbl
  have F : CallFix p m c cL_law 4 s #[Value.ref b] tb R_law := ⟨hx, hb, hml, hown, fun w hw => hts w (List.mem_filter.mp hw).1⟩
  obtain ⟨tc, wc, M, L, r, hP, hS, hl⟩ := hI
  have h0 := e_holds r (xs (x + 1).toNatClampNeg)
  have r1 := r.right h0.2.2.1 h0.2.2.2.1
  obtain ⟨he, tc1, wc1, r2⟩ := (e_holds r1 (xs (x + 1).toNatClampNeg)).fin
  refine lv_aload_n hx hb dL_law_442 rfl (lv_at hl 1 rfl) ?_
  refine lv_aload_n hx hb dL_law_443 rfl (lv_at hl 0 rfl) ?_
  refine lv_iload_n hx hb dL_law_444 rfl (lv_at hl 3 rfl) ?_
  refine lv_iconst (v := 1) hx hb dL_law_445 (by decide) ?_
  refine lv_iadd hx hb dL_law_446 ?_
  refine va_sld hx hb hX hbl hbA hS h1 dL_law_447 ?_
  refine l_iV (n := 1) F X hP hS [.int (xs (x + 1).toNatClampNeg)] [] (c_X7_holds l E M L (xs (x + 1).toNatClampNeg)) m_2_97 wi_X7_holds rfl rfl (by decide) (by decide +kernel) ⟨Nat.le_of_ble_eq_true rfl, Nat.le_of_ble_eq_true rfl⟩ rfl hl rfl (Nat.le_of_ble_eq_true rfl) hcs dL_law_448 (fun H locs hP hS => ?_)
  refine lv_aload_n hx hb dL_law_451 rfl (lv_at hl 2 rfl) ?_
  refine lv_aload_n hx hb dL_law_452 rfl (lv_at hl 0 rfl) ?_
  refine lv_iload_n hx hb dL_law_453 rfl (lv_at hl 3 rfl) ?_
  refine lv_iconst (v := 1) hx hb dL_law_454 (by decide) ?_
  refine lv_iadd hx hb dL_law_455 ?_
  refine va_sld hx hb hX hbl hbA hS h1 dL_law_456 ?_
  refine l_iV (n := 1) F X hP hS [.int (xs (x + 1).toNatClampNeg)] [_] (c_X8_holds l E _ _ (xs (x + 1).toNatClampNeg)) m_5_108 wi_X8_holds rfl rfl (by decide) (by decide +kernel) ⟨Nat.le_of_ble_eq_true rfl, Nat.le_of_ble_eq_true rfl⟩ rfl hl rfl (Nat.le_of_ble_eq_true rfl) hcs dL_law_457 (fun H locs hP hS => ?_)
  exact lv_icmp_eq (tgt := 1442) hx hb dL_law_460 (by decide) (fun c9 => kk _ _ _ ⟨tc1, wc1, _, _, r2, hP, hS, hl⟩) (fun c9 => absurd he c9)
set_option maxHeartbeats 1000000 in
theorem lw_c6 {p : Program} {l : Launch} {e : Env} {s : State} {m : MethodId} {below : List Frame} {meth : Method} {c : Code} {b L0 cells slots : Nat} {xs : Nat → Int32} {E : fE} {H : Heap} {locs : List Loc} {ls : Array Slot} {Q : State → Prop} (C0 : lw_At p s m meth c b L0 xs) (X : lX E s) (hcs : cells ≤ room_1.cells ∧ slots ≤ room_1.slots) {x : Int32} (h1 : vp_in (x + 1) L0) (h2 : vp_in (x + 2) L0) (h3 : vp_in (x + 3) L0) (h4 : vp_in (x + 4) L0) (h5 : vp_in (x + 5) L0) (h6 : vp_in (x + 6) L0) (h7 : vp_in (x + 7) L0) (hI : lInv E s b x H locs ls)
    (kk : ∀ (H : Heap) (locs : List Loc) (ls : Array Slot), lInv E s b x H locs ls → W p l e room_1 s m #[Value.ref b] below meth c H locs cells slots Q (F0 m 1442 ls [])) : W p l e room_1 s m #[Value.ref b] below meth c H locs cells slots Q (F0 m 465 ls []) := by
  obtain ⟨hx, hb, hr, hml, hown, hts, hX, hbl, hlocks, hgv⟩ := C0
  have hbA : ¬ (fun q : Nat => s.heap.size ≤ q) b := Nat.not_le.mpr hbl
  have F : CallFix p m c cL_law 4 s #[Value.ref b] tb R_law := ⟨hx, hb, hml, hown, fun w hw => hts w (List.mem_filter.mp hw).1⟩
  obtain ⟨tc, wc, M, L, r, hP, hS, hl⟩ := hI
  have h0 := e_says r (xs (x + 1).toNatClampNeg) (xs (x + 2).toNatClampNeg)
  have r1 := r.right h0.2.2.1 h0.2.2.2.1
  obtain ⟨he, tc1, wc1, r2⟩ := (e_says r1 (xs (x + 1).toNatClampNeg) (xs (x + 2).toNatClampNeg)).fin
  rw [kl_says] at r2
  refine lv_aload_n hx hb dL_law_465 rfl (lv_at hl 1 rfl) ?_
  refine lv_aload_n hx hb dL_law_466 rfl (lv_at hl 0 rfl) ?_
  refine lv_iload_n hx hb dL_law_467 rfl (lv_at hl 3 rfl) ?_
  refine lv_iconst (v := 1) hx hb dL_law_468 (by decide) ?_
  refine lv_iadd hx hb dL_law_469 ?_
  refine va_sld hx hb hX hbl hbA hS h1 dL_law_470 ?_
  refine lv_aload_n hx hb dL_law_471 rfl (lv_at hl 0 rfl) ?_
  refine lv_iload_n hx hb dL_law_472 rfl (lv_at hl 3 rfl) ?_
  refine lv_iconst (v := 2) hx hb dL_law_473 (by decide) ?_
  refine lv_iadd hx hb dL_law_474 ?_
  refine va_sld hx hb hX hbl hbA hS h2 dL_law_475 ?_
  refine l_iV (n := 2) F X hP hS [.int (xs (x + 1).toNatClampNeg), .int (xs (x + 2).toNatClampNeg)] [] (c_X7_says l E M L (xs (x + 1).toNatClampNeg) (xs (x + 2).toNatClampNeg)) m_2_101 wi_X7_says rfl rfl (by decide) (by decide +kernel) ⟨Nat.le_of_ble_eq_true rfl, Nat.le_of_ble_eq_true rfl⟩ rfl hl rfl (Nat.le_of_ble_eq_true rfl) hcs dL_law_476 (fun H locs hP hS => ?_)
  refine lv_aload_n hx hb dL_law_479 rfl (lv_at hl 2 rfl) ?_
  refine lv_aload_n hx hb dL_law_480 rfl (lv_at hl 0 rfl) ?_
  refine lv_iload_n hx hb dL_law_481 rfl (lv_at hl 3 rfl) ?_
  refine lv_iconst (v := 1) hx hb dL_law_482 (by decide) ?_
  refine lv_iadd hx hb dL_law_483 ?_
  refine va_sld hx hb hX hbl hbA hS h1 dL_law_484 ?_
  refine lv_aload_n hx hb dL_law_485 rfl (lv_at hl 0 rfl) ?_
  refine lv_iload_n hx hb dL_law_486 rfl (lv_at hl 3 rfl) ?_
  refine lv_iconst (v := 2) hx hb dL_law_487 (by decide) ?_
  refine lv_iadd hx hb dL_law_488 ?_
  refine va_sld hx hb hX hbl hbA hS h2 dL_law_489 ?_
  refine l_iV (n := 2) F X hP hS [.int (xs (x + 1).toNatClampNeg), .int (xs (x + 2).toNatClampNeg)] [_] (c_X8_says l E _ _ (xs (x + 1).toNatClampNeg) (xs (x + 2).toNatClampNeg) wc r1.n.2.2.2.2.1 r1.n.2.2.2.2.2 (cs_hsh r1)) m_5_112 wi_X8_says rfl rfl (by decide) (by decide +kernel) ⟨Nat.le_of_ble_eq_true rfl, Nat.le_of_ble_eq_true rfl⟩ rfl hl rfl (Nat.le_of_ble_eq_true rfl) hcs dL_law_490 (fun H locs hP hS => ?_)
  exact lv_icmp_eq (tgt := 1442) hx hb dL_law_493 (by decide) (fun c9 => kk _ _ _ ⟨tc1, wc1, _, _, r2, hP, hS, hl⟩) (fun c9 => absurd he c9)
set_option maxHeartbeats 1000000 in
theorem lw_c7 {p : Program} {l : Launch} {e : Env} {s : State} {m : MethodId} {below : List Frame} {meth : Method} {c : Code} {b L0 cells slots : Nat} {xs : Nat → Int32} {E : fE} {H : Heap} {locs : List Loc} {ls : Array Slot} {Q : State → Prop} (C0 : lw_At p s m meth c b L0 xs) (X : lX E s) (hcs : cells ≤ room_1.cells ∧ slots ≤ room_1.slots) {x : Int32} (h1 : vp_in (x + 1) L0) (h2 : vp_in (x + 2) L0) (h3 : vp_in (x + 3) L0) (h4 : vp_in (x + 4) L0) (h5 : vp_in (x + 5) L0) (h6 : vp_in (x + 6) L0) (h7 : vp_in (x + 7) L0) (hI : lInv E s b x H locs ls)
    (kk : ∀ (H : Heap) (locs : List Loc) (ls : Array Slot), lInv E s b x H locs ls → W p l e room_1 s m #[Value.ref b] below meth c H locs cells slots Q (F0 m 1442 ls [])) : W p l e room_1 s m #[Value.ref b] below meth c H locs cells slots Q (F0 m 498 ls []) := by
  obtain ⟨hx, hb, hr, hml, hown, hts, hX, hbl, hlocks, hgv⟩ := C0
  have hbA : ¬ (fun q : Nat => s.heap.size ≤ q) b := Nat.not_le.mpr hbl
  have F : CallFix p m c cL_law 4 s #[Value.ref b] tb R_law := ⟨hx, hb, hml, hown, fun w hw => hts w (List.mem_filter.mp hw).1⟩
  obtain ⟨tc, wc, M, L, r, hP, hS, hl⟩ := hI
  have h0 := e_thing r (xs (x + 1).toNatClampNeg) (xs (x + 2).toNatClampNeg) (xs (x + 3).toNatClampNeg) (xs (x + 4).toNatClampNeg) (xs (x + 5).toNatClampNeg) (xs (x + 6).toNatClampNeg) (xs (x + 7).toNatClampNeg)
  have r1 := r.right h0.2.2.1 h0.2.2.2.1
  obtain ⟨he, tc1, wc1, r2⟩ := (e_thing r1 (xs (x + 1).toNatClampNeg) (xs (x + 2).toNatClampNeg) (xs (x + 3).toNatClampNeg) (xs (x + 4).toNatClampNeg) (xs (x + 5).toNatClampNeg) (xs (x + 6).toNatClampNeg) (xs (x + 7).toNatClampNeg)).fin
  rw [kl_thing] at r2
  refine lv_aload_n hx hb dL_law_498 rfl (lv_at hl 1 rfl) ?_
  refine lv_aload_n hx hb dL_law_499 rfl (lv_at hl 0 rfl) ?_
  refine lv_iload_n hx hb dL_law_500 rfl (lv_at hl 3 rfl) ?_
  refine lv_iconst (v := 1) hx hb dL_law_501 (by decide) ?_
  refine lv_iadd hx hb dL_law_502 ?_
  refine va_sld hx hb hX hbl hbA hS h1 dL_law_503 ?_
  refine lv_aload_n hx hb dL_law_504 rfl (lv_at hl 0 rfl) ?_
  refine lv_iload_n hx hb dL_law_505 rfl (lv_at hl 3 rfl) ?_
  refine lv_iconst (v := 2) hx hb dL_law_506 (by decide) ?_
  refine lv_iadd hx hb dL_law_507 ?_
  refine va_sld hx hb hX hbl hbA hS h2 dL_law_508 ?_
  refine lv_aload_n hx hb dL_law_509 rfl (lv_at hl 0 rfl) ?_
  refine lv_iload_n hx hb dL_law_510 rfl (lv_at hl 3 rfl) ?_
  refine lv_iconst (v := 3) hx hb dL_law_511 (by decide) ?_
  refine lv_iadd hx hb dL_law_512 ?_
  refine va_sld hx hb hX hbl hbA hS h3 dL_law_513 ?_
  refine lv_aload_n hx hb dL_law_514 rfl (lv_at hl 0 rfl) ?_
  refine lv_iload_n hx hb dL_law_515 rfl (lv_at hl 3 rfl) ?_
  refine lv_iconst (v := 4) hx hb dL_law_516 (by decide) ?_
  refine lv_iadd hx hb dL_law_517 ?_
  refine va_sld hx hb hX hbl hbA hS h4 dL_law_518 ?_
  refine lv_aload_n hx hb dL_law_519 rfl (lv_at hl 0 rfl) ?_
  refine lv_iload_n hx hb dL_law_520 rfl (lv_at hl 3 rfl) ?_
  refine lv_iconst (v := 5) hx hb dL_law_521 (by decide) ?_
  refine lv_iadd hx hb dL_law_522 ?_
  refine va_sld hx hb hX hbl hbA hS h5 dL_law_523 ?_
  refine lv_aload_n hx hb dL_law_524 rfl (lv_at hl 0 rfl) ?_
  refine lv_iload_n hx hb dL_law_525 rfl (lv_at hl 3 rfl) ?_
  refine lv_bipush (v := 6) hx hb dL_law_526 (by decide) ?_
  refine lv_iadd hx hb dL_law_528 ?_
  refine va_sld hx hb hX hbl hbA hS h6 dL_law_529 ?_
  refine lv_aload_n hx hb dL_law_530 rfl (lv_at hl 0 rfl) ?_
  refine lv_iload_n hx hb dL_law_531 rfl (lv_at hl 3 rfl) ?_
  refine lv_bipush (v := 7) hx hb dL_law_532 (by decide) ?_
  refine lv_iadd hx hb dL_law_534 ?_
  refine va_sld hx hb hX hbl hbA hS h7 dL_law_535 ?_
  refine l_iV (n := 7) F X hP hS [.int (xs (x + 1).toNatClampNeg), .int (xs (x + 2).toNatClampNeg), .int (xs (x + 3).toNatClampNeg), .int (xs (x + 4).toNatClampNeg), .int (xs (x + 5).toNatClampNeg), .int (xs (x + 6).toNatClampNeg), .int (xs (x + 7).toNatClampNeg)] [] (c_X7_thing l E M L (xs (x + 1).toNatClampNeg) (xs (x + 2).toNatClampNeg) (xs (x + 3).toNatClampNeg) (xs (x + 4).toNatClampNeg) (xs (x + 5).toNatClampNeg) (xs (x + 6).toNatClampNeg) (xs (x + 7).toNatClampNeg) tc r.n.1 r.n.2.2.1) m_2_117 wi_X7_thing rfl rfl (by decide) (by decide +kernel) ⟨Nat.le_of_ble_eq_true rfl, Nat.le_of_ble_eq_true rfl⟩ rfl hl rfl (Nat.le_of_ble_eq_true rfl) hcs dL_law_536 (fun H locs hP hS => ?_)
  refine lv_aload_n hx hb dL_law_539 rfl (lv_at hl 2 rfl) ?_
  refine lv_aload_n hx hb dL_law_540 rfl (lv_at hl 0 rfl) ?_
  refine lv_iload_n hx hb dL_law_541 rfl (lv_at hl 3 rfl) ?_
  refine lv_iconst (v := 1) hx hb dL_law_542 (by decide) ?_
  refine lv_iadd hx hb dL_law_543 ?_
  refine va_sld hx hb hX hbl hbA hS h1 dL_law_544 ?_
  refine lv_aload_n hx hb dL_law_545 rfl (lv_at hl 0 rfl) ?_
  refine lv_iload_n hx hb dL_law_546 rfl (lv_at hl 3 rfl) ?_
  refine lv_iconst (v := 2) hx hb dL_law_547 (by decide) ?_
  refine lv_iadd hx hb dL_law_548 ?_
  refine va_sld hx hb hX hbl hbA hS h2 dL_law_549 ?_
  refine lv_aload_n hx hb dL_law_550 rfl (lv_at hl 0 rfl) ?_
  refine lv_iload_n hx hb dL_law_551 rfl (lv_at hl 3 rfl) ?_
  refine lv_iconst (v := 3) hx hb dL_law_552 (by decide) ?_
  refine lv_iadd hx hb dL_law_553 ?_
  refine va_sld hx hb hX hbl hbA hS h3 dL_law_554 ?_
  refine lv_aload_n hx hb dL_law_555 rfl (lv_at hl 0 rfl) ?_
  refine lv_iload_n hx hb dL_law_556 rfl (lv_at hl 3 rfl) ?_
  refine lv_iconst (v := 4) hx hb dL_law_557 (by decide) ?_
  refine lv_iadd hx hb dL_law_558 ?_
  refine va_sld hx hb hX hbl hbA hS h4 dL_law_559 ?_
  refine lv_aload_n hx hb dL_law_560 rfl (lv_at hl 0 rfl) ?_
  refine lv_iload_n hx hb dL_law_561 rfl (lv_at hl 3 rfl) ?_
  refine lv_iconst (v := 5) hx hb dL_law_562 (by decide) ?_
  refine lv_iadd hx hb dL_law_563 ?_
  refine va_sld hx hb hX hbl hbA hS h5 dL_law_564 ?_
  refine lv_aload_n hx hb dL_law_565 rfl (lv_at hl 0 rfl) ?_
  refine lv_iload_n hx hb dL_law_566 rfl (lv_at hl 3 rfl) ?_
  refine lv_bipush (v := 6) hx hb dL_law_567 (by decide) ?_
  refine lv_iadd hx hb dL_law_569 ?_
  refine va_sld hx hb hX hbl hbA hS h6 dL_law_570 ?_
  refine lv_aload_n hx hb dL_law_571 rfl (lv_at hl 0 rfl) ?_
  refine lv_iload_n hx hb dL_law_572 rfl (lv_at hl 3 rfl) ?_
  refine lv_bipush (v := 7) hx hb dL_law_573 (by decide) ?_
  refine lv_iadd hx hb dL_law_575 ?_
  refine va_sld hx hb hX hbl hbA hS h7 dL_law_576 ?_
  refine l_iV (n := 7) F X hP hS [.int (xs (x + 1).toNatClampNeg), .int (xs (x + 2).toNatClampNeg), .int (xs (x + 3).toNatClampNeg), .int (xs (x + 4).toNatClampNeg), .int (xs (x + 5).toNatClampNeg), .int (xs (x + 6).toNatClampNeg), .int (xs (x + 7).toNatClampNeg)] [_] (c_X8_thing l E _ _ (xs (x + 1).toNatClampNeg) (xs (x + 2).toNatClampNeg) (xs (x + 3).toNatClampNeg) (xs (x + 4).toNatClampNeg) (xs (x + 5).toNatClampNeg) (xs (x + 6).toNatClampNeg) (xs (x + 7).toNatClampNeg) tc r1.n.2.1 r1.n.2.2.1) m_5_116 wi_X8_thing rfl rfl (by decide) (by decide +kernel) ⟨Nat.le_of_ble_eq_true rfl, Nat.le_of_ble_eq_true rfl⟩ rfl hl rfl (Nat.le_of_ble_eq_true rfl) hcs dL_law_577 (fun H locs hP hS => ?_)
  exact lv_icmp_eq (tgt := 1442) hx hb dL_law_580 (by decide) (fun c9 => kk _ _ _ ⟨tc1, wc1, _, _, r2, hP, hS, hl⟩) (fun c9 => absurd he c9)
set_option maxHeartbeats 1000000 in
theorem lw_c8 {p : Program} {l : Launch} {e : Env} {s : State} {m : MethodId} {below : List Frame} {meth : Method} {c : Code} {b L0 cells slots : Nat} {xs : Nat → Int32} {E : fE} {H : Heap} {locs : List Loc} {ls : Array Slot} {Q : State → Prop} (C0 : lw_At p s m meth c b L0 xs) (X : lX E s) (hcs : cells ≤ room_1.cells ∧ slots ≤ room_1.slots) {x : Int32} (h1 : vp_in (x + 1) L0) (h2 : vp_in (x + 2) L0) (h3 : vp_in (x + 3) L0) (h4 : vp_in (x + 4) L0) (h5 : vp_in (x + 5) L0) (h6 : vp_in (x + 6) L0) (h7 : vp_in (x + 7) L0) (hI : lInv E s b x H locs ls)
    (kk : ∀ (H : Heap) (locs : List Loc) (ls : Array Slot), lInv E s b x H locs ls → W p l e room_1 s m #[Value.ref b] below meth c H locs cells slots Q (F0 m 1442 ls [])) : W p l e room_1 s m #[Value.ref b] below meth c H locs cells slots Q (F0 m 585 ls []) := by
  obtain ⟨hx, hb, hr, hml, hown, hts, hX, hbl, hlocks, hgv⟩ := C0
  have hbA : ¬ (fun q : Nat => s.heap.size ≤ q) b := Nat.not_le.mpr hbl
  have F : CallFix p m c cL_law 4 s #[Value.ref b] tb R_law := ⟨hx, hb, hml, hown, fun w hw => hts w (List.mem_filter.mp hw).1⟩
  obtain ⟨tc, wc, M, L, r, hP, hS, hl⟩ := hI
  have h0 := e_waiter r (xs (x + 1).toNatClampNeg) (xs (x + 2).toNatClampNeg) (xs (x + 3).toNatClampNeg) (xs (x + 4).toNatClampNeg) (xs (x + 5).toNatClampNeg)
  have r1 := r.right h0.2.2.1 h0.2.2.2.1
  obtain ⟨he, tc1, wc1, r2⟩ := (e_waiter r1 (xs (x + 1).toNatClampNeg) (xs (x + 2).toNatClampNeg) (xs (x + 3).toNatClampNeg) (xs (x + 4).toNatClampNeg) (xs (x + 5).toNatClampNeg)).fin
  rw [kl_waiter] at r2
  refine lv_aload_n hx hb dL_law_585 rfl (lv_at hl 1 rfl) ?_
  refine lv_aload_n hx hb dL_law_586 rfl (lv_at hl 0 rfl) ?_
  refine lv_iload_n hx hb dL_law_587 rfl (lv_at hl 3 rfl) ?_
  refine lv_iconst (v := 1) hx hb dL_law_588 (by decide) ?_
  refine lv_iadd hx hb dL_law_589 ?_
  refine va_sld hx hb hX hbl hbA hS h1 dL_law_590 ?_
  refine lv_aload_n hx hb dL_law_591 rfl (lv_at hl 0 rfl) ?_
  refine lv_iload_n hx hb dL_law_592 rfl (lv_at hl 3 rfl) ?_
  refine lv_iconst (v := 2) hx hb dL_law_593 (by decide) ?_
  refine lv_iadd hx hb dL_law_594 ?_
  refine va_sld hx hb hX hbl hbA hS h2 dL_law_595 ?_
  refine lv_aload_n hx hb dL_law_596 rfl (lv_at hl 0 rfl) ?_
  refine lv_iload_n hx hb dL_law_597 rfl (lv_at hl 3 rfl) ?_
  refine lv_iconst (v := 3) hx hb dL_law_598 (by decide) ?_
  refine lv_iadd hx hb dL_law_599 ?_
  refine va_sld hx hb hX hbl hbA hS h3 dL_law_600 ?_
  refine lv_aload_n hx hb dL_law_601 rfl (lv_at hl 0 rfl) ?_
  refine lv_iload_n hx hb dL_law_602 rfl (lv_at hl 3 rfl) ?_
  refine lv_iconst (v := 4) hx hb dL_law_603 (by decide) ?_
  refine lv_iadd hx hb dL_law_604 ?_
  refine va_sld hx hb hX hbl hbA hS h4 dL_law_605 ?_
  refine lv_aload_n hx hb dL_law_606 rfl (lv_at hl 0 rfl) ?_
  refine lv_iload_n hx hb dL_law_607 rfl (lv_at hl 3 rfl) ?_
  refine lv_iconst (v := 5) hx hb dL_law_608 (by decide) ?_
  refine lv_iadd hx hb dL_law_609 ?_
  refine va_sld hx hb hX hbl hbA hS h5 dL_law_610 ?_
  refine l_iV (n := 5) F X hP hS [.int (xs (x + 1).toNatClampNeg), .int (xs (x + 2).toNatClampNeg), .int (xs (x + 3).toNatClampNeg), .int (xs (x + 4).toNatClampNeg), .int (xs (x + 5).toNatClampNeg)] [] (c_X7_waiter l E M L (xs (x + 1).toNatClampNeg) (xs (x + 2).toNatClampNeg) (xs (x + 3).toNatClampNeg) (xs (x + 4).toNatClampNeg) (xs (x + 5).toNatClampNeg) wc r.n.2.2.2.1 r.n.2.2.2.2.2) m_2_133 wi_X7_waiter rfl rfl (by decide) (by decide +kernel) ⟨Nat.le_of_ble_eq_true rfl, Nat.le_of_ble_eq_true rfl⟩ rfl hl rfl (Nat.le_of_ble_eq_true rfl) hcs dL_law_611 (fun H locs hP hS => ?_)
  refine lv_aload_n hx hb dL_law_614 rfl (lv_at hl 2 rfl) ?_
  refine lv_aload_n hx hb dL_law_615 rfl (lv_at hl 0 rfl) ?_
  refine lv_iload_n hx hb dL_law_616 rfl (lv_at hl 3 rfl) ?_
  refine lv_iconst (v := 1) hx hb dL_law_617 (by decide) ?_
  refine lv_iadd hx hb dL_law_618 ?_
  refine va_sld hx hb hX hbl hbA hS h1 dL_law_619 ?_
  refine lv_aload_n hx hb dL_law_620 rfl (lv_at hl 0 rfl) ?_
  refine lv_iload_n hx hb dL_law_621 rfl (lv_at hl 3 rfl) ?_
  refine lv_iconst (v := 2) hx hb dL_law_622 (by decide) ?_
  refine lv_iadd hx hb dL_law_623 ?_
  refine va_sld hx hb hX hbl hbA hS h2 dL_law_624 ?_
  refine lv_aload_n hx hb dL_law_625 rfl (lv_at hl 0 rfl) ?_
  refine lv_iload_n hx hb dL_law_626 rfl (lv_at hl 3 rfl) ?_
  refine lv_iconst (v := 3) hx hb dL_law_627 (by decide) ?_
  refine lv_iadd hx hb dL_law_628 ?_
  refine va_sld hx hb hX hbl hbA hS h3 dL_law_629 ?_
  refine lv_aload_n hx hb dL_law_630 rfl (lv_at hl 0 rfl) ?_
  refine lv_iload_n hx hb dL_law_631 rfl (lv_at hl 3 rfl) ?_
  refine lv_iconst (v := 4) hx hb dL_law_632 (by decide) ?_
  refine lv_iadd hx hb dL_law_633 ?_
  refine va_sld hx hb hX hbl hbA hS h4 dL_law_634 ?_
  refine lv_aload_n hx hb dL_law_635 rfl (lv_at hl 0 rfl) ?_
  refine lv_iload_n hx hb dL_law_636 rfl (lv_at hl 3 rfl) ?_
  refine lv_iconst (v := 5) hx hb dL_law_637 (by decide) ?_
  refine lv_iadd hx hb dL_law_638 ?_
  refine va_sld hx hb hX hbl hbA hS h5 dL_law_639 ?_
  refine l_iV (n := 5) F X hP hS [.int (xs (x + 1).toNatClampNeg), .int (xs (x + 2).toNatClampNeg), .int (xs (x + 3).toNatClampNeg), .int (xs (x + 4).toNatClampNeg), .int (xs (x + 5).toNatClampNeg)] [_] (c_X8_waiter l E _ _ (xs (x + 1).toNatClampNeg) (xs (x + 2).toNatClampNeg) (xs (x + 3).toNatClampNeg) (xs (x + 4).toNatClampNeg) (xs (x + 5).toNatClampNeg) wc r1.n.2.2.2.2.1 r1.n.2.2.2.2.2) m_5_128 wi_X8_waiter rfl rfl (by decide) (by decide +kernel) ⟨Nat.le_of_ble_eq_true rfl, Nat.le_of_ble_eq_true rfl⟩ rfl hl rfl (Nat.le_of_ble_eq_true rfl) hcs dL_law_640 (fun H locs hP hS => ?_)
  exact lv_icmp_eq (tgt := 1442) hx hb dL_law_643 (by decide) (fun c9 => kk _ _ _ ⟨tc1, wc1, _, _, r2, hP, hS, hl⟩) (fun c9 => absurd he c9)
set_option maxHeartbeats 1000000 in
theorem lw_c9 {p : Program} {l : Launch} {e : Env} {s : State} {m : MethodId} {below : List Frame} {meth : Method} {c : Code} {b L0 cells slots : Nat} {xs : Nat → Int32} {E : fE} {H : Heap} {locs : List Loc} {ls : Array Slot} {Q : State → Prop} (C0 : lw_At p s m meth c b L0 xs) (X : lX E s) (hcs : cells ≤ room_1.cells ∧ slots ≤ room_1.slots) {x : Int32} (h1 : vp_in (x + 1) L0) (h2 : vp_in (x + 2) L0) (h3 : vp_in (x + 3) L0) (h4 : vp_in (x + 4) L0) (h5 : vp_in (x + 5) L0) (h6 : vp_in (x + 6) L0) (h7 : vp_in (x + 7) L0) (hI : lInv E s b x H locs ls)
    (kk : ∀ (H : Heap) (locs : List Loc) (ls : Array Slot), lInv E s b x H locs ls → W p l e room_1 s m #[Value.ref b] below meth c H locs cells slots Q (F0 m 1442 ls [])) : W p l e room_1 s m #[Value.ref b] below meth c H locs cells slots Q (F0 m 648 ls []) := by
  obtain ⟨hx, hb, hr, hml, hown, hts, hX, hbl, hlocks, hgv⟩ := C0
  have hbA : ¬ (fun q : Nat => s.heap.size ≤ q) b := Nat.not_le.mpr hbl
  have F : CallFix p m c cL_law 4 s #[Value.ref b] tb R_law := ⟨hx, hb, hml, hown, fun w hw => hts w (List.mem_filter.mp hw).1⟩
  obtain ⟨tc, wc, M, L, r, hP, hS, hl⟩ := hI
  have h0 := e_move r (xs (x + 1).toNatClampNeg) (xs (x + 2).toNatClampNeg)
  have r1 := r.right h0.2.2.1 h0.2.2.2.1
  obtain ⟨he, tc1, wc1, r2⟩ := (e_move r1 (xs (x + 1).toNatClampNeg) (xs (x + 2).toNatClampNeg)).fin
  rw [kl_move] at r2
  refine lv_aload_n hx hb dL_law_648 rfl (lv_at hl 1 rfl) ?_
  refine lv_aload_n hx hb dL_law_649 rfl (lv_at hl 0 rfl) ?_
  refine lv_iload_n hx hb dL_law_650 rfl (lv_at hl 3 rfl) ?_
  refine lv_iconst (v := 1) hx hb dL_law_651 (by decide) ?_
  refine lv_iadd hx hb dL_law_652 ?_
  refine va_sld hx hb hX hbl hbA hS h1 dL_law_653 ?_
  refine lv_aload_n hx hb dL_law_654 rfl (lv_at hl 0 rfl) ?_
  refine lv_iload_n hx hb dL_law_655 rfl (lv_at hl 3 rfl) ?_
  refine lv_iconst (v := 2) hx hb dL_law_656 (by decide) ?_
  refine lv_iadd hx hb dL_law_657 ?_
  refine va_sld hx hb hX hbl hbA hS h2 dL_law_658 ?_
  refine l_iV (n := 2) F X hP hS [.int (xs (x + 1).toNatClampNeg), .int (xs (x + 2).toNatClampNeg)] [] (c_X7_move l E M L (xs (x + 1).toNatClampNeg) (xs (x + 2).toNatClampNeg)) m_2_146 wi_X7_move rfl rfl (by decide) (by decide +kernel) ⟨Nat.le_of_ble_eq_true rfl, Nat.le_of_ble_eq_true rfl⟩ rfl hl rfl (Nat.le_of_ble_eq_true rfl) hcs dL_law_659 (fun H locs hP hS => ?_)
  refine lv_aload_n hx hb dL_law_662 rfl (lv_at hl 2 rfl) ?_
  refine lv_aload_n hx hb dL_law_663 rfl (lv_at hl 0 rfl) ?_
  refine lv_iload_n hx hb dL_law_664 rfl (lv_at hl 3 rfl) ?_
  refine lv_iconst (v := 1) hx hb dL_law_665 (by decide) ?_
  refine lv_iadd hx hb dL_law_666 ?_
  refine va_sld hx hb hX hbl hbA hS h1 dL_law_667 ?_
  refine lv_aload_n hx hb dL_law_668 rfl (lv_at hl 0 rfl) ?_
  refine lv_iload_n hx hb dL_law_669 rfl (lv_at hl 3 rfl) ?_
  refine lv_iconst (v := 2) hx hb dL_law_670 (by decide) ?_
  refine lv_iadd hx hb dL_law_671 ?_
  refine va_sld hx hb hX hbl hbA hS h2 dL_law_672 ?_
  refine l_iV (n := 2) F X hP hS [.int (xs (x + 1).toNatClampNeg), .int (xs (x + 2).toNatClampNeg)] [_] (c_X8_move l E _ _ (xs (x + 1).toNatClampNeg) (xs (x + 2).toNatClampNeg) wc r1.n.2.2.2.2.1 r1.n.2.2.2.2.2) m_5_136 wi_X8_move rfl rfl (by decide) (by decide +kernel) ⟨Nat.le_of_ble_eq_true rfl, Nat.le_of_ble_eq_true rfl⟩ rfl hl rfl (Nat.le_of_ble_eq_true rfl) hcs dL_law_673 (fun H locs hP hS => ?_)
  exact lv_icmp_eq (tgt := 1442) hx hb dL_law_676 (by decide) (fun c9 => kk _ _ _ ⟨tc1, wc1, _, _, r2, hP, hS, hl⟩) (fun c9 => absurd he c9)
set_option maxHeartbeats 1000000 in
theorem lw_c10 {p : Program} {l : Launch} {e : Env} {s : State} {m : MethodId} {below : List Frame} {meth : Method} {c : Code} {b L0 cells slots : Nat} {xs : Nat → Int32} {E : fE} {H : Heap} {locs : List Loc} {ls : Array Slot} {Q : State → Prop} (C0 : lw_At p s m meth c b L0 xs) (X : lX E s) (hcs : cells ≤ room_1.cells ∧ slots ≤ room_1.slots) {x : Int32} (h1 : vp_in (x + 1) L0) (h2 : vp_in (x + 2) L0) (h3 : vp_in (x + 3) L0) (h4 : vp_in (x + 4) L0) (h5 : vp_in (x + 5) L0) (h6 : vp_in (x + 6) L0) (h7 : vp_in (x + 7) L0) (hI : lInv E s b x H locs ls)
    (kk : ∀ (H : Heap) (locs : List Loc) (ls : Array Slot), lInv E s b x H locs ls → W p l e room_1 s m #[Value.ref b] below meth c H locs cells slots Q (F0 m 1442 ls [])) : W p l e room_1 s m #[Value.ref b] below meth c H locs cells slots Q (F0 m 681 ls []) := by
  obtain ⟨hx, hb, hr, hml, hown, hts, hX, hbl, hlocks, hgv⟩ := C0
  have hbA : ¬ (fun q : Nat => s.heap.size ≤ q) b := Nat.not_le.mpr hbl
  have F : CallFix p m c cL_law 4 s #[Value.ref b] tb R_law := ⟨hx, hb, hml, hown, fun w hw => hts w (List.mem_filter.mp hw).1⟩
  obtain ⟨tc, wc, M, L, r, hP, hS, hl⟩ := hI
  have h0 := e_ask r (xs (x + 1).toNatClampNeg)
  have r1 := r.right h0.2.2.1 h0.2.2.2.1
  obtain ⟨he, tc1, wc1, r2⟩ := (e_ask r1 (xs (x + 1).toNatClampNeg)).fin
  rw [kl_ask] at r2
  refine lv_aload_n hx hb dL_law_681 rfl (lv_at hl 1 rfl) ?_
  refine lv_aload_n hx hb dL_law_682 rfl (lv_at hl 0 rfl) ?_
  refine lv_iload_n hx hb dL_law_683 rfl (lv_at hl 3 rfl) ?_
  refine lv_iconst (v := 1) hx hb dL_law_684 (by decide) ?_
  refine lv_iadd hx hb dL_law_685 ?_
  refine va_sld hx hb hX hbl hbA hS h1 dL_law_686 ?_
  refine l_iV (n := 1) F X hP hS [.int (xs (x + 1).toNatClampNeg)] [] (c_X7_ask l E M L (xs (x + 1).toNatClampNeg)) m_2_150 wi_X7_ask rfl rfl (by decide) (by decide +kernel) ⟨Nat.le_of_ble_eq_true rfl, Nat.le_of_ble_eq_true rfl⟩ rfl hl rfl (Nat.le_of_ble_eq_true rfl) hcs dL_law_687 (fun H locs hP hS => ?_)
  refine lv_aload_n hx hb dL_law_690 rfl (lv_at hl 2 rfl) ?_
  refine lv_aload_n hx hb dL_law_691 rfl (lv_at hl 0 rfl) ?_
  refine lv_iload_n hx hb dL_law_692 rfl (lv_at hl 3 rfl) ?_
  refine lv_iconst (v := 1) hx hb dL_law_693 (by decide) ?_
  refine lv_iadd hx hb dL_law_694 ?_
  refine va_sld hx hb hX hbl hbA hS h1 dL_law_695 ?_
  refine l_iV (n := 1) F X hP hS [.int (xs (x + 1).toNatClampNeg)] [_] (c_X8_ask l E _ _ (xs (x + 1).toNatClampNeg)) m_5_140 wi_X8_ask rfl rfl (by decide) (by decide +kernel) ⟨Nat.le_of_ble_eq_true rfl, Nat.le_of_ble_eq_true rfl⟩ rfl hl rfl (Nat.le_of_ble_eq_true rfl) hcs dL_law_696 (fun H locs hP hS => ?_)
  exact lv_icmp_eq (tgt := 1442) hx hb dL_law_699 (by decide) (fun c9 => kk _ _ _ ⟨tc1, wc1, _, _, r2, hP, hS, hl⟩) (fun c9 => absurd he c9)
set_option maxHeartbeats 1000000 in
theorem lw_c11 {p : Program} {l : Launch} {e : Env} {s : State} {m : MethodId} {below : List Frame} {meth : Method} {c : Code} {b L0 cells slots : Nat} {xs : Nat → Int32} {E : fE} {H : Heap} {locs : List Loc} {ls : Array Slot} {Q : State → Prop} (C0 : lw_At p s m meth c b L0 xs) (X : lX E s) (hcs : cells ≤ room_1.cells ∧ slots ≤ room_1.slots) {x : Int32} (h1 : vp_in (x + 1) L0) (h2 : vp_in (x + 2) L0) (h3 : vp_in (x + 3) L0) (h4 : vp_in (x + 4) L0) (h5 : vp_in (x + 5) L0) (h6 : vp_in (x + 6) L0) (h7 : vp_in (x + 7) L0) (hI : lInv E s b x H locs ls)
    (kk : ∀ (H : Heap) (locs : List Loc) (ls : Array Slot), lInv E s b x H locs ls → W p l e room_1 s m #[Value.ref b] below meth c H locs cells slots Q (F0 m 1442 ls [])) : W p l e room_1 s m #[Value.ref b] below meth c H locs cells slots Q (F0 m 704 ls []) := by
  obtain ⟨hx, hb, hr, hml, hown, hts, hX, hbl, hlocks, hgv⟩ := C0
  have hbA : ¬ (fun q : Nat => s.heap.size ≤ q) b := Nat.not_le.mpr hbl
  have F : CallFix p m c cL_law 4 s #[Value.ref b] tb R_law := ⟨hx, hb, hml, hown, fun w hw => hts w (List.mem_filter.mp hw).1⟩
  obtain ⟨tc, wc, M, L, r, hP, hS, hl⟩ := hI
  have h0 := e_thingOf r (xs (x + 1).toNatClampNeg) (xs (x + 2).toNatClampNeg)
  have r1 := r.right h0.2.2.1 h0.2.2.2.1
  obtain ⟨he, tc1, wc1, r2⟩ := (e_thingOf r1 (xs (x + 1).toNatClampNeg) (xs (x + 2).toNatClampNeg)).fin
  rw [kl_thingOf] at r2
  refine lv_aload_n hx hb dL_law_704 rfl (lv_at hl 1 rfl) ?_
  refine lv_aload_n hx hb dL_law_705 rfl (lv_at hl 0 rfl) ?_
  refine lv_iload_n hx hb dL_law_706 rfl (lv_at hl 3 rfl) ?_
  refine lv_iconst (v := 1) hx hb dL_law_707 (by decide) ?_
  refine lv_iadd hx hb dL_law_708 ?_
  refine va_sld hx hb hX hbl hbA hS h1 dL_law_709 ?_
  refine lv_aload_n hx hb dL_law_710 rfl (lv_at hl 0 rfl) ?_
  refine lv_iload_n hx hb dL_law_711 rfl (lv_at hl 3 rfl) ?_
  refine lv_iconst (v := 2) hx hb dL_law_712 (by decide) ?_
  refine lv_iadd hx hb dL_law_713 ?_
  refine va_sld hx hb hX hbl hbA hS h2 dL_law_714 ?_
  refine l_iV (n := 2) F X hP hS [.int (xs (x + 1).toNatClampNeg), .int (xs (x + 2).toNatClampNeg)] [] (c_X7_thingOf l E M L (xs (x + 1).toNatClampNeg) (xs (x + 2).toNatClampNeg)) m_2_154 wi_X7_thingOf rfl rfl (by decide) (by decide +kernel) ⟨Nat.le_of_ble_eq_true rfl, Nat.le_of_ble_eq_true rfl⟩ rfl hl rfl (Nat.le_of_ble_eq_true rfl) hcs dL_law_715 (fun H locs hP hS => ?_)
  refine lv_aload_n hx hb dL_law_718 rfl (lv_at hl 2 rfl) ?_
  refine lv_aload_n hx hb dL_law_719 rfl (lv_at hl 0 rfl) ?_
  refine lv_iload_n hx hb dL_law_720 rfl (lv_at hl 3 rfl) ?_
  refine lv_iconst (v := 1) hx hb dL_law_721 (by decide) ?_
  refine lv_iadd hx hb dL_law_722 ?_
  refine va_sld hx hb hX hbl hbA hS h1 dL_law_723 ?_
  refine lv_aload_n hx hb dL_law_724 rfl (lv_at hl 0 rfl) ?_
  refine lv_iload_n hx hb dL_law_725 rfl (lv_at hl 3 rfl) ?_
  refine lv_iconst (v := 2) hx hb dL_law_726 (by decide) ?_
  refine lv_iadd hx hb dL_law_727 ?_
  refine va_sld hx hb hX hbl hbA hS h2 dL_law_728 ?_
  refine l_iV (n := 2) F X hP hS [.int (xs (x + 1).toNatClampNeg), .int (xs (x + 2).toNatClampNeg)] [_] (c_X8_thingOf l E _ _ (xs (x + 1).toNatClampNeg) (xs (x + 2).toNatClampNeg) tc r1.n.2.1 r1.n.2.2.1) m_5_144 wi_X8_thingOf rfl rfl (by decide) (by decide +kernel) ⟨Nat.le_of_ble_eq_true rfl, Nat.le_of_ble_eq_true rfl⟩ rfl hl rfl (Nat.le_of_ble_eq_true rfl) hcs dL_law_729 (fun H locs hP hS => ?_)
  exact lv_icmp_eq (tgt := 1442) hx hb dL_law_732 (by decide) (fun c9 => kk _ _ _ ⟨tc1, wc1, _, _, r2, hP, hS, hl⟩) (fun c9 => absurd he c9)
set_option maxHeartbeats 1000000 in
theorem lw_c12 {p : Program} {l : Launch} {e : Env} {s : State} {m : MethodId} {below : List Frame} {meth : Method} {c : Code} {b L0 cells slots : Nat} {xs : Nat → Int32} {E : fE} {H : Heap} {locs : List Loc} {ls : Array Slot} {Q : State → Prop} (C0 : lw_At p s m meth c b L0 xs) (X : lX E s) (hcs : cells ≤ room_1.cells ∧ slots ≤ room_1.slots) {x : Int32} (h1 : vp_in (x + 1) L0) (h2 : vp_in (x + 2) L0) (h3 : vp_in (x + 3) L0) (h4 : vp_in (x + 4) L0) (h5 : vp_in (x + 5) L0) (h6 : vp_in (x + 6) L0) (h7 : vp_in (x + 7) L0) (hI : lInv E s b x H locs ls)
    (kk : ∀ (H : Heap) (locs : List Loc) (ls : Array Slot), lInv E s b x H locs ls → W p l e room_1 s m #[Value.ref b] below meth c H locs cells slots Q (F0 m 1442 ls [])) : W p l e room_1 s m #[Value.ref b] below meth c H locs cells slots Q (F0 m 737 ls []) := by
  obtain ⟨hx, hb, hr, hml, hown, hts, hX, hbl, hlocks, hgv⟩ := C0
  have hbA : ¬ (fun q : Nat => s.heap.size ≤ q) b := Nat.not_le.mpr hbl
  have F : CallFix p m c cL_law 4 s #[Value.ref b] tb R_law := ⟨hx, hb, hml, hown, fun w hw => hts w (List.mem_filter.mp hw).1⟩
  obtain ⟨tc, wc, M, L, r, hP, hS, hl⟩ := hI
  have h0 := e_waiterOf r (xs (x + 1).toNatClampNeg) (xs (x + 2).toNatClampNeg)
  have r1 := r.right h0.2.2.1 h0.2.2.2.1
  obtain ⟨he, tc1, wc1, r2⟩ := (e_waiterOf r1 (xs (x + 1).toNatClampNeg) (xs (x + 2).toNatClampNeg)).fin
  rw [kl_waiterOf] at r2
  refine lv_aload_n hx hb dL_law_737 rfl (lv_at hl 1 rfl) ?_
  refine lv_aload_n hx hb dL_law_738 rfl (lv_at hl 0 rfl) ?_
  refine lv_iload_n hx hb dL_law_739 rfl (lv_at hl 3 rfl) ?_
  refine lv_iconst (v := 1) hx hb dL_law_740 (by decide) ?_
  refine lv_iadd hx hb dL_law_741 ?_
  refine va_sld hx hb hX hbl hbA hS h1 dL_law_742 ?_
  refine lv_aload_n hx hb dL_law_743 rfl (lv_at hl 0 rfl) ?_
  refine lv_iload_n hx hb dL_law_744 rfl (lv_at hl 3 rfl) ?_
  refine lv_iconst (v := 2) hx hb dL_law_745 (by decide) ?_
  refine lv_iadd hx hb dL_law_746 ?_
  refine va_sld hx hb hX hbl hbA hS h2 dL_law_747 ?_
  refine l_iV (n := 2) F X hP hS [.int (xs (x + 1).toNatClampNeg), .int (xs (x + 2).toNatClampNeg)] [] (c_X7_waiterOf l E M L (xs (x + 1).toNatClampNeg) (xs (x + 2).toNatClampNeg)) m_2_174 wi_X7_waiterOf rfl rfl (by decide) (by decide +kernel) ⟨Nat.le_of_ble_eq_true rfl, Nat.le_of_ble_eq_true rfl⟩ rfl hl rfl (Nat.le_of_ble_eq_true rfl) hcs dL_law_748 (fun H locs hP hS => ?_)
  refine lv_aload_n hx hb dL_law_751 rfl (lv_at hl 2 rfl) ?_
  refine lv_aload_n hx hb dL_law_752 rfl (lv_at hl 0 rfl) ?_
  refine lv_iload_n hx hb dL_law_753 rfl (lv_at hl 3 rfl) ?_
  refine lv_iconst (v := 1) hx hb dL_law_754 (by decide) ?_
  refine lv_iadd hx hb dL_law_755 ?_
  refine va_sld hx hb hX hbl hbA hS h1 dL_law_756 ?_
  refine lv_aload_n hx hb dL_law_757 rfl (lv_at hl 0 rfl) ?_
  refine lv_iload_n hx hb dL_law_758 rfl (lv_at hl 3 rfl) ?_
  refine lv_iconst (v := 2) hx hb dL_law_759 (by decide) ?_
  refine lv_iadd hx hb dL_law_760 ?_
  refine va_sld hx hb hX hbl hbA hS h2 dL_law_761 ?_
  refine l_iV (n := 2) F X hP hS [.int (xs (x + 1).toNatClampNeg), .int (xs (x + 2).toNatClampNeg)] [_] (c_X8_waiterOf l E _ _ (xs (x + 1).toNatClampNeg) (xs (x + 2).toNatClampNeg) wc r1.n.2.2.2.2.1 r1.n.2.2.2.2.2) m_5_156 wi_X8_waiterOf rfl rfl (by decide) (by decide +kernel) ⟨Nat.le_of_ble_eq_true rfl, Nat.le_of_ble_eq_true rfl⟩ rfl hl rfl (Nat.le_of_ble_eq_true rfl) hcs dL_law_762 (fun H locs hP hS => ?_)
  exact lv_icmp_eq (tgt := 1442) hx hb dL_law_765 (by decide) (fun c9 => kk _ _ _ ⟨tc1, wc1, _, _, r2, hP, hS, hl⟩) (fun c9 => absurd he c9)
set_option maxHeartbeats 1000000 in
theorem lw_c13 {p : Program} {l : Launch} {e : Env} {s : State} {m : MethodId} {below : List Frame} {meth : Method} {c : Code} {b L0 cells slots : Nat} {xs : Nat → Int32} {E : fE} {H : Heap} {locs : List Loc} {ls : Array Slot} {Q : State → Prop} (C0 : lw_At p s m meth c b L0 xs) (X : lX E s) (hcs : cells ≤ room_1.cells ∧ slots ≤ room_1.slots) {x : Int32} (h1 : vp_in (x + 1) L0) (h2 : vp_in (x + 2) L0) (h3 : vp_in (x + 3) L0) (h4 : vp_in (x + 4) L0) (h5 : vp_in (x + 5) L0) (h6 : vp_in (x + 6) L0) (h7 : vp_in (x + 7) L0) (hI : lInv E s b x H locs ls)
    (kk : ∀ (H : Heap) (locs : List Loc) (ls : Array Slot), lInv E s b x H locs ls → W p l e room_1 s m #[Value.ref b] below meth c H locs cells slots Q (F0 m 1442 ls [])) : W p l e room_1 s m #[Value.ref b] below meth c H locs cells slots Q (F0 m 770 ls []) := by
  obtain ⟨hx, hb, hr, hml, hown, hts, hX, hbl, hlocks, hgv⟩ := C0
  have hbA : ¬ (fun q : Nat => s.heap.size ≤ q) b := Nat.not_le.mpr hbl
  have F : CallFix p m c cL_law 4 s #[Value.ref b] tb R_law := ⟨hx, hb, hml, hown, fun w hw => hts w (List.mem_filter.mp hw).1⟩
  obtain ⟨tc, wc, M, L, r, hP, hS, hl⟩ := hI
  have h0 := e_cost r (xs (x + 1).toNatClampNeg) (xs (x + 2).toNatClampNeg)
  have r1 := r.right h0.2.2.1 h0.2.2.2.1
  obtain ⟨he, tc1, wc1, r2⟩ := (e_cost r1 (xs (x + 1).toNatClampNeg) (xs (x + 2).toNatClampNeg)).fin
  rw [kl_cost] at r2
  refine lv_aload_n hx hb dL_law_770 rfl (lv_at hl 1 rfl) ?_
  refine lv_aload_n hx hb dL_law_771 rfl (lv_at hl 0 rfl) ?_
  refine lv_iload_n hx hb dL_law_772 rfl (lv_at hl 3 rfl) ?_
  refine lv_iconst (v := 1) hx hb dL_law_773 (by decide) ?_
  refine lv_iadd hx hb dL_law_774 ?_
  refine va_sld hx hb hX hbl hbA hS h1 dL_law_775 ?_
  refine lv_aload_n hx hb dL_law_776 rfl (lv_at hl 0 rfl) ?_
  refine lv_iload_n hx hb dL_law_777 rfl (lv_at hl 3 rfl) ?_
  refine lv_iconst (v := 2) hx hb dL_law_778 (by decide) ?_
  refine lv_iadd hx hb dL_law_779 ?_
  refine va_sld hx hb hX hbl hbA hS h2 dL_law_780 ?_
  refine l_iV (n := 2) F X hP hS [.int (xs (x + 1).toNatClampNeg), .int (xs (x + 2).toNatClampNeg)] [] (c_X7_cost l E M L (xs (x + 1).toNatClampNeg) (xs (x + 2).toNatClampNeg)) m_2_200 wi_X7_cost rfl rfl (by decide) (by decide +kernel) ⟨Nat.le_of_ble_eq_true rfl, Nat.le_of_ble_eq_true rfl⟩ rfl hl rfl (Nat.le_of_ble_eq_true rfl) hcs dL_law_781 (fun H locs hP hS => ?_)
  refine lv_aload_n hx hb dL_law_784 rfl (lv_at hl 2 rfl) ?_
  refine lv_aload_n hx hb dL_law_785 rfl (lv_at hl 0 rfl) ?_
  refine lv_iload_n hx hb dL_law_786 rfl (lv_at hl 3 rfl) ?_
  refine lv_iconst (v := 1) hx hb dL_law_787 (by decide) ?_
  refine lv_iadd hx hb dL_law_788 ?_
  refine va_sld hx hb hX hbl hbA hS h1 dL_law_789 ?_
  refine lv_aload_n hx hb dL_law_790 rfl (lv_at hl 0 rfl) ?_
  refine lv_iload_n hx hb dL_law_791 rfl (lv_at hl 3 rfl) ?_
  refine lv_iconst (v := 2) hx hb dL_law_792 (by decide) ?_
  refine lv_iadd hx hb dL_law_793 ?_
  refine va_sld hx hb hX hbl hbA hS h2 dL_law_794 ?_
  refine l_iV (n := 2) F X hP hS [.int (xs (x + 1).toNatClampNeg), .int (xs (x + 2).toNatClampNeg)] [_] (c_X8_cost l E _ _ (xs (x + 1).toNatClampNeg) (xs (x + 2).toNatClampNeg) wc r1.n.2.2.2.2.1 r1.n.2.2.2.2.2) m_5_216 wi_X8_cost rfl rfl (by decide) (by decide +kernel) ⟨Nat.le_of_ble_eq_true rfl, Nat.le_of_ble_eq_true rfl⟩ rfl hl rfl (Nat.le_of_ble_eq_true rfl) hcs dL_law_795 (fun H locs hP hS => ?_)
  exact lv_icmp_eq (tgt := 1442) hx hb dL_law_798 (by decide) (fun c9 => kk _ _ _ ⟨tc1, wc1, _, _, r2, hP, hS, hl⟩) (fun c9 => absurd he c9)
set_option maxHeartbeats 1000000 in
theorem lw_c14 {p : Program} {l : Launch} {e : Env} {s : State} {m : MethodId} {below : List Frame} {meth : Method} {c : Code} {b L0 cells slots : Nat} {xs : Nat → Int32} {E : fE} {H : Heap} {locs : List Loc} {ls : Array Slot} {Q : State → Prop} (C0 : lw_At p s m meth c b L0 xs) (X : lX E s) (hcs : cells ≤ room_1.cells ∧ slots ≤ room_1.slots) {x : Int32} (h1 : vp_in (x + 1) L0) (h2 : vp_in (x + 2) L0) (h3 : vp_in (x + 3) L0) (h4 : vp_in (x + 4) L0) (h5 : vp_in (x + 5) L0) (h6 : vp_in (x + 6) L0) (h7 : vp_in (x + 7) L0) (hI : lInv E s b x H locs ls)
    (kk : ∀ (H : Heap) (locs : List Loc) (ls : Array Slot), lInv E s b x H locs ls → W p l e room_1 s m #[Value.ref b] below meth c H locs cells slots Q (F0 m 1442 ls [])) : W p l e room_1 s m #[Value.ref b] below meth c H locs cells slots Q (F0 m 803 ls []) := by
  obtain ⟨hx, hb, hr, hml, hown, hts, hX, hbl, hlocks, hgv⟩ := C0
  have hbA : ¬ (fun q : Nat => s.heap.size ≤ q) b := Nat.not_le.mpr hbl
  have F : CallFix p m c cL_law 4 s #[Value.ref b] tb R_law := ⟨hx, hb, hml, hown, fun w hw => hts w (List.mem_filter.mp hw).1⟩
  obtain ⟨tc, wc, M, L, r, hP, hS, hl⟩ := hI
  have h0 := e_guild r (xs (x + 1).toNatClampNeg)
  have r1 := r.right h0.2.2.1 h0.2.2.2.1
  obtain ⟨he, tc1, wc1, r2⟩ := (e_guild r1 (xs (x + 1).toNatClampNeg)).fin
  rw [kl_guild] at r2
  refine lv_aload_n hx hb dL_law_803 rfl (lv_at hl 1 rfl) ?_
  refine lv_aload_n hx hb dL_law_804 rfl (lv_at hl 0 rfl) ?_
  refine lv_iload_n hx hb dL_law_805 rfl (lv_at hl 3 rfl) ?_
  refine lv_iconst (v := 1) hx hb dL_law_806 (by decide) ?_
  refine lv_iadd hx hb dL_law_807 ?_
  refine va_sld hx hb hX hbl hbA hS h1 dL_law_808 ?_
  refine l_iV (n := 1) F X hP hS [.int (xs (x + 1).toNatClampNeg)] [] (c_X7_guild l E M L (xs (x + 1).toNatClampNeg) tc wc r.n.1 r.n.2.2.1 r.n.2.2.2.1 r.n.2.2.2.2.2 (cs_szOK r)) m_2_216 wi_X7_guild rfl rfl (by decide) (by decide +kernel) ⟨Nat.le_of_ble_eq_true rfl, Nat.le_of_ble_eq_true rfl⟩ rfl hl rfl (Nat.le_of_ble_eq_true rfl) hcs dL_law_809 (fun H locs hP hS => ?_)
  refine lv_aload_n hx hb dL_law_812 rfl (lv_at hl 2 rfl) ?_
  refine lv_aload_n hx hb dL_law_813 rfl (lv_at hl 0 rfl) ?_
  refine lv_iload_n hx hb dL_law_814 rfl (lv_at hl 3 rfl) ?_
  refine lv_iconst (v := 1) hx hb dL_law_815 (by decide) ?_
  refine lv_iadd hx hb dL_law_816 ?_
  refine va_sld hx hb hX hbl hbA hS h1 dL_law_817 ?_
  refine l_iV (n := 1) F X hP hS [.int (xs (x + 1).toNatClampNeg)] [_] (c_X8_guild l E _ _ (xs (x + 1).toNatClampNeg) tc wc r1.n.2.1 r1.n.2.2.1 r1.n.2.2.2.2.1 r1.n.2.2.2.2.2 r1.c.1 r1.c.2.1 (cs_hzz r1)) m_5_168 wi_X8_guild rfl rfl (by decide) (by decide +kernel) ⟨Nat.le_of_ble_eq_true rfl, Nat.le_of_ble_eq_true rfl⟩ rfl hl rfl (Nat.le_of_ble_eq_true rfl) hcs dL_law_818 (fun H locs hP hS => ?_)
  exact lv_icmp_eq (tgt := 1442) hx hb dL_law_821 (by decide) (fun c9 => kk _ _ _ ⟨tc1, wc1, _, _, r2, hP, hS, hl⟩) (fun c9 => absurd he c9)
set_option maxHeartbeats 1000000 in
theorem lw_c15 {p : Program} {l : Launch} {e : Env} {s : State} {m : MethodId} {below : List Frame} {meth : Method} {c : Code} {b L0 cells slots : Nat} {xs : Nat → Int32} {E : fE} {H : Heap} {locs : List Loc} {ls : Array Slot} {Q : State → Prop} (C0 : lw_At p s m meth c b L0 xs) (X : lX E s) (hcs : cells ≤ room_1.cells ∧ slots ≤ room_1.slots) {x : Int32} (h1 : vp_in (x + 1) L0) (h2 : vp_in (x + 2) L0) (h3 : vp_in (x + 3) L0) (h4 : vp_in (x + 4) L0) (h5 : vp_in (x + 5) L0) (h6 : vp_in (x + 6) L0) (h7 : vp_in (x + 7) L0) (hI : lInv E s b x H locs ls)
    (kk : ∀ (H : Heap) (locs : List Loc) (ls : Array Slot), lInv E s b x H locs ls → W p l e room_1 s m #[Value.ref b] below meth c H locs cells slots Q (F0 m 1442 ls [])) : W p l e room_1 s m #[Value.ref b] below meth c H locs cells slots Q (F0 m 826 ls []) := by
  obtain ⟨hx, hb, hr, hml, hown, hts, hX, hbl, hlocks, hgv⟩ := C0
  have hbA : ¬ (fun q : Nat => s.heap.size ≤ q) b := Nat.not_le.mpr hbl
  have F : CallFix p m c cL_law 4 s #[Value.ref b] tb R_law := ⟨hx, hb, hml, hown, fun w hw => hts w (List.mem_filter.mp hw).1⟩
  obtain ⟨tc, wc, M, L, r, hP, hS, hl⟩ := hI
  have h0 := e_fault r 
  have r1 := r.right h0.2.2.1 h0.2.2.2.1
  obtain ⟨he, tc1, wc1, r2⟩ := (e_fault r1 ).fin
  refine lv_aload_n hx hb dL_law_826 rfl (lv_at hl 1 rfl) ?_
  refine l_iV (n := 0) F X hP hS [] [] (c_X7_fault l E M L ) m_3_109 wi_X7_fault rfl rfl (by decide) (by decide +kernel) ⟨Nat.le_of_ble_eq_true rfl, Nat.le_of_ble_eq_true rfl⟩ rfl hl rfl (Nat.le_of_ble_eq_true rfl) hcs dL_law_827 (fun H locs hP hS => ?_)
  refine lv_aload_n hx hb dL_law_830 rfl (lv_at hl 2 rfl) ?_
  refine l_iV (n := 0) F X hP hS [] [_] (c_X8_fault l E _ _ ) m_5_212 wi_X8_fault rfl rfl (by decide) (by decide +kernel) ⟨Nat.le_of_ble_eq_true rfl, Nat.le_of_ble_eq_true rfl⟩ rfl hl rfl (Nat.le_of_ble_eq_true rfl) hcs dL_law_831 (fun H locs hP hS => ?_)
  exact lv_icmp_eq (tgt := 1442) hx hb dL_law_834 (by decide) (fun c9 => kk _ _ _ ⟨tc1, wc1, _, _, r2, hP, hS, hl⟩) (fun c9 => absurd he c9)
set_option maxHeartbeats 1000000 in
theorem lw_c16 {p : Program} {l : Launch} {e : Env} {s : State} {m : MethodId} {below : List Frame} {meth : Method} {c : Code} {b L0 cells slots : Nat} {xs : Nat → Int32} {E : fE} {H : Heap} {locs : List Loc} {ls : Array Slot} {Q : State → Prop} (C0 : lw_At p s m meth c b L0 xs) (X : lX E s) (hcs : cells ≤ room_1.cells ∧ slots ≤ room_1.slots) {x : Int32} (h1 : vp_in (x + 1) L0) (h2 : vp_in (x + 2) L0) (h3 : vp_in (x + 3) L0) (h4 : vp_in (x + 4) L0) (h5 : vp_in (x + 5) L0) (h6 : vp_in (x + 6) L0) (h7 : vp_in (x + 7) L0) (hI : lInv E s b x H locs ls)
    (kk : ∀ (H : Heap) (locs : List Loc) (ls : Array Slot), lInv E s b x H locs ls → W p l e room_1 s m #[Value.ref b] below meth c H locs cells slots Q (F0 m 1442 ls [])) : W p l e room_1 s m #[Value.ref b] below meth c H locs cells slots Q (F0 m 839 ls []) := by
  obtain ⟨hx, hb, hr, hml, hown, hts, hX, hbl, hlocks, hgv⟩ := C0
  have hbA : ¬ (fun q : Nat => s.heap.size ≤ q) b := Nat.not_le.mpr hbl
  have F : CallFix p m c cL_law 4 s #[Value.ref b] tb R_law := ⟨hx, hb, hml, hown, fun w hw => hts w (List.mem_filter.mp hw).1⟩
  obtain ⟨tc, wc, M, L, r, hP, hS, hl⟩ := hI
  have h0 := e_by r (xs (x + 1).toNatClampNeg) (xs (x + 2).toNatClampNeg)
  have r1 := r.right h0.2.2.1 h0.2.2.2.1
  obtain ⟨he, tc1, wc1, r2⟩ := (e_by r1 (xs (x + 1).toNatClampNeg) (xs (x + 2).toNatClampNeg)).fin
  rw [kl_by] at r2
  refine lv_aload_n hx hb dL_law_839 rfl (lv_at hl 1 rfl) ?_
  refine lv_aload_n hx hb dL_law_840 rfl (lv_at hl 0 rfl) ?_
  refine lv_iload_n hx hb dL_law_841 rfl (lv_at hl 3 rfl) ?_
  refine lv_iconst (v := 1) hx hb dL_law_842 (by decide) ?_
  refine lv_iadd hx hb dL_law_843 ?_
  refine va_sld hx hb hX hbl hbA hS h1 dL_law_844 ?_
  refine lv_aload_n hx hb dL_law_845 rfl (lv_at hl 0 rfl) ?_
  refine lv_iload_n hx hb dL_law_846 rfl (lv_at hl 3 rfl) ?_
  refine lv_iconst (v := 2) hx hb dL_law_847 (by decide) ?_
  refine lv_iadd hx hb dL_law_848 ?_
  refine va_sld hx hb hX hbl hbA hS h2 dL_law_849 ?_
  refine l_iV (n := 2) F X hP hS [.int (xs (x + 1).toNatClampNeg), .int (xs (x + 2).toNatClampNeg)] [] (c_X7_by l E M L (xs (x + 1).toNatClampNeg) (xs (x + 2).toNatClampNeg)) m_3_113 wi_X7_by rfl rfl (by decide) (by decide +kernel) ⟨Nat.le_of_ble_eq_true rfl, Nat.le_of_ble_eq_true rfl⟩ rfl hl rfl (Nat.le_of_ble_eq_true rfl) hcs dL_law_850 (fun H locs hP hS => ?_)
  refine lv_aload_n hx hb dL_law_853 rfl (lv_at hl 2 rfl) ?_
  refine lv_aload_n hx hb dL_law_854 rfl (lv_at hl 0 rfl) ?_
  refine lv_iload_n hx hb dL_law_855 rfl (lv_at hl 3 rfl) ?_
  refine lv_iconst (v := 1) hx hb dL_law_856 (by decide) ?_
  refine lv_iadd hx hb dL_law_857 ?_
  refine va_sld hx hb hX hbl hbA hS h1 dL_law_858 ?_
  refine lv_aload_n hx hb dL_law_859 rfl (lv_at hl 0 rfl) ?_
  refine lv_iload_n hx hb dL_law_860 rfl (lv_at hl 3 rfl) ?_
  refine lv_iconst (v := 2) hx hb dL_law_861 (by decide) ?_
  refine lv_iadd hx hb dL_law_862 ?_
  refine va_sld hx hb hX hbl hbA hS h2 dL_law_863 ?_
  refine l_iV (n := 2) F X hP hS [.int (xs (x + 1).toNatClampNeg), .int (xs (x + 2).toNatClampNeg)] [_] (c_X8_by l E _ _ (xs (x + 1).toNatClampNeg) (xs (x + 2).toNatClampNeg) tc r1.n.2.1 r1.n.2.2.1) m_5_224 wi_X8_by rfl rfl (by decide) (by decide +kernel) ⟨Nat.le_of_ble_eq_true rfl, Nat.le_of_ble_eq_true rfl⟩ rfl hl rfl (Nat.le_of_ble_eq_true rfl) hcs dL_law_864 (fun H locs hP hS => ?_)
  exact lv_icmp_eq (tgt := 1442) hx hb dL_law_867 (by decide) (fun c9 => kk _ _ _ ⟨tc1, wc1, _, _, r2, hP, hS, hl⟩) (fun c9 => absurd he c9)
set_option maxHeartbeats 1000000 in
theorem lw_c17 {p : Program} {l : Launch} {e : Env} {s : State} {m : MethodId} {below : List Frame} {meth : Method} {c : Code} {b L0 cells slots : Nat} {xs : Nat → Int32} {E : fE} {H : Heap} {locs : List Loc} {ls : Array Slot} {Q : State → Prop} (C0 : lw_At p s m meth c b L0 xs) (X : lX E s) (hcs : cells ≤ room_1.cells ∧ slots ≤ room_1.slots) {x : Int32} (h1 : vp_in (x + 1) L0) (h2 : vp_in (x + 2) L0) (h3 : vp_in (x + 3) L0) (h4 : vp_in (x + 4) L0) (h5 : vp_in (x + 5) L0) (h6 : vp_in (x + 6) L0) (h7 : vp_in (x + 7) L0) (hI : lInv E s b x H locs ls)
    (kk : ∀ (H : Heap) (locs : List Loc) (ls : Array Slot), lInv E s b x H locs ls → W p l e room_1 s m #[Value.ref b] below meth c H locs cells slots Q (F0 m 1442 ls [])) : W p l e room_1 s m #[Value.ref b] below meth c H locs cells slots Q (F0 m 872 ls []) := by
  obtain ⟨hx, hb, hr, hml, hown, hts, hX, hbl, hlocks, hgv⟩ := C0
  have hbA : ¬ (fun q : Nat => s.heap.size ≤ q) b := Nat.not_le.mpr hbl
  have F : CallFix p m c cL_law 4 s #[Value.ref b] tb R_law := ⟨hx, hb, hml, hown, fun w hw => hts w (List.mem_filter.mp hw).1⟩
  obtain ⟨tc, wc, M, L, r, hP, hS, hl⟩ := hI
  have h0 := e_stop r (xs (x + 1).toNatClampNeg) (xs (x + 2).toNatClampNeg) (xs (x + 3).toNatClampNeg)
  have r1 := r.right h0.2.2.1 h0.2.2.2.1
  obtain ⟨he, tc1, wc1, r2⟩ := (e_stop r1 (xs (x + 1).toNatClampNeg) (xs (x + 2).toNatClampNeg) (xs (x + 3).toNatClampNeg)).fin
  rw [kl_stop] at r2
  refine lv_aload_n hx hb dL_law_872 rfl (lv_at hl 1 rfl) ?_
  refine lv_aload_n hx hb dL_law_873 rfl (lv_at hl 0 rfl) ?_
  refine lv_iload_n hx hb dL_law_874 rfl (lv_at hl 3 rfl) ?_
  refine lv_iconst (v := 1) hx hb dL_law_875 (by decide) ?_
  refine lv_iadd hx hb dL_law_876 ?_
  refine va_sld hx hb hX hbl hbA hS h1 dL_law_877 ?_
  refine lv_aload_n hx hb dL_law_878 rfl (lv_at hl 0 rfl) ?_
  refine lv_iload_n hx hb dL_law_879 rfl (lv_at hl 3 rfl) ?_
  refine lv_iconst (v := 2) hx hb dL_law_880 (by decide) ?_
  refine lv_iadd hx hb dL_law_881 ?_
  refine va_sld hx hb hX hbl hbA hS h2 dL_law_882 ?_
  refine lv_aload_n hx hb dL_law_883 rfl (lv_at hl 0 rfl) ?_
  refine lv_iload_n hx hb dL_law_884 rfl (lv_at hl 3 rfl) ?_
  refine lv_iconst (v := 3) hx hb dL_law_885 (by decide) ?_
  refine lv_iadd hx hb dL_law_886 ?_
  refine va_sld hx hb hX hbl hbA hS h3 dL_law_887 ?_
  refine l_iV (n := 3) F X hP hS [.int (xs (x + 1).toNatClampNeg), .int (xs (x + 2).toNatClampNeg), .int (xs (x + 3).toNatClampNeg)] [] (c_X7_stop l E M L (xs (x + 1).toNatClampNeg) (xs (x + 2).toNatClampNeg) (xs (x + 3).toNatClampNeg) (fun t ht => r.o.1 t ht) (fun w hw => r.o.2.1 w hw) r.o.2.2.1) m_3_126 wi_X7_stop rfl rfl (by decide) (by decide +kernel) ⟨Nat.le_of_ble_eq_true rfl, Nat.le_of_ble_eq_true rfl⟩ rfl hl rfl (Nat.le_of_ble_eq_true rfl) hcs dL_law_888 (fun H locs hP hS => ?_)
  refine lv_aload_n hx hb dL_law_891 rfl (lv_at hl 2 rfl) ?_
  refine lv_aload_n hx hb dL_law_892 rfl (lv_at hl 0 rfl) ?_
  refine lv_iload_n hx hb dL_law_893 rfl (lv_at hl 3 rfl) ?_
  refine lv_iconst (v := 1) hx hb dL_law_894 (by decide) ?_
  refine lv_iadd hx hb dL_law_895 ?_
  refine va_sld hx hb hX hbl hbA hS h1 dL_law_896 ?_
  refine lv_aload_n hx hb dL_law_897 rfl (lv_at hl 0 rfl) ?_
  refine lv_iload_n hx hb dL_law_898 rfl (lv_at hl 3 rfl) ?_
  refine lv_iconst (v := 2) hx hb dL_law_899 (by decide) ?_
  refine lv_iadd hx hb dL_law_900 ?_
  refine va_sld hx hb hX hbl hbA hS h2 dL_law_901 ?_
  refine lv_aload_n hx hb dL_law_902 rfl (lv_at hl 0 rfl) ?_
  refine lv_iload_n hx hb dL_law_903 rfl (lv_at hl 3 rfl) ?_
  refine lv_iconst (v := 3) hx hb dL_law_904 (by decide) ?_
  refine lv_iadd hx hb dL_law_905 ?_
  refine va_sld hx hb hX hbl hbA hS h3 dL_law_906 ?_
  refine l_iV (n := 3) F X hP hS [.int (xs (x + 1).toNatClampNeg), .int (xs (x + 2).toNatClampNeg), .int (xs (x + 3).toNatClampNeg)] [_] (c_X8_stop l E _ _ (xs (x + 1).toNatClampNeg) (xs (x + 2).toNatClampNeg) (xs (x + 3).toNatClampNeg) tc wc r1.n.2.1 r1.n.2.2.1 r1.n.2.2.2.2.1 r1.n.2.2.2.2.2) m_5_232 wi_X8_stop rfl rfl (by decide) (by decide +kernel) ⟨Nat.le_of_ble_eq_true rfl, Nat.le_of_ble_eq_true rfl⟩ rfl hl rfl (Nat.le_of_ble_eq_true rfl) hcs dL_law_907 (fun H locs hP hS => ?_)
  exact lv_icmp_eq (tgt := 1442) hx hb dL_law_910 (by decide) (fun c9 => kk _ _ _ ⟨tc1, wc1, _, _, r2, hP, hS, hl⟩) (fun c9 => absurd he c9)
set_option maxHeartbeats 1000000 in
theorem lw_c18 {p : Program} {l : Launch} {e : Env} {s : State} {m : MethodId} {below : List Frame} {meth : Method} {c : Code} {b L0 cells slots : Nat} {xs : Nat → Int32} {E : fE} {H : Heap} {locs : List Loc} {ls : Array Slot} {Q : State → Prop} (C0 : lw_At p s m meth c b L0 xs) (X : lX E s) (hcs : cells ≤ room_1.cells ∧ slots ≤ room_1.slots) {x : Int32} (h1 : vp_in (x + 1) L0) (h2 : vp_in (x + 2) L0) (h3 : vp_in (x + 3) L0) (h4 : vp_in (x + 4) L0) (h5 : vp_in (x + 5) L0) (h6 : vp_in (x + 6) L0) (h7 : vp_in (x + 7) L0) (hI : lInv E s b x H locs ls)
    (kk : ∀ (H : Heap) (locs : List Loc) (ls : Array Slot), lInv E s b x H locs ls → W p l e room_1 s m #[Value.ref b] below meth c H locs cells slots Q (F0 m 1442 ls [])) : W p l e room_1 s m #[Value.ref b] below meth c H locs cells slots Q (F0 m 915 ls []) := by
  obtain ⟨hx, hb, hr, hml, hown, hts, hX, hbl, hlocks, hgv⟩ := C0
  have hbA : ¬ (fun q : Nat => s.heap.size ≤ q) b := Nat.not_le.mpr hbl
  have F : CallFix p m c cL_law 4 s #[Value.ref b] tb R_law := ⟨hx, hb, hml, hown, fun w hw => hts w (List.mem_filter.mp hw).1⟩
  obtain ⟨tc, wc, M, L, r, hP, hS, hl⟩ := hI
  have h0 := e_best r (xs (x + 1).toNatClampNeg)
  have r1 := r.right h0.2.2.1 h0.2.2.2.1
  obtain ⟨he, tc1, wc1, r2⟩ := (e_best r1 (xs (x + 1).toNatClampNeg)).fin
  rw [kl_best] at r2
  refine lv_aload_n hx hb dL_law_915 rfl (lv_at hl 1 rfl) ?_
  refine lv_aload_n hx hb dL_law_916 rfl (lv_at hl 0 rfl) ?_
  refine lv_iload_n hx hb dL_law_917 rfl (lv_at hl 3 rfl) ?_
  refine lv_iconst (v := 1) hx hb dL_law_918 (by decide) ?_
  refine lv_iadd hx hb dL_law_919 ?_
  refine va_sld hx hb hX hbl hbA hS h1 dL_law_920 ?_
  refine l_iV (n := 1) F X hP hS [.int (xs (x + 1).toNatClampNeg)] [] (c_X7_best l E M L (xs (x + 1).toNatClampNeg) wc r.n.2.2.2.1 r.n.2.2.2.2.2 (fun t ht => r.o.1 t ht) (fun w hw => r.o.2.1 w hw) r.o.2.2.1) m_3_152 wi_X7_best rfl rfl (by decide) (by decide +kernel) ⟨Nat.le_of_ble_eq_true rfl, Nat.le_of_ble_eq_true rfl⟩ rfl hl rfl (Nat.le_of_ble_eq_true rfl) hcs dL_law_921 (fun H locs hP hS => ?_)
  refine lv_aload_n hx hb dL_law_924 rfl (lv_at hl 2 rfl) ?_
  refine lv_aload_n hx hb dL_law_925 rfl (lv_at hl 0 rfl) ?_
  refine lv_iload_n hx hb dL_law_926 rfl (lv_at hl 3 rfl) ?_
  refine lv_iconst (v := 1) hx hb dL_law_927 (by decide) ?_
  refine lv_iadd hx hb dL_law_928 ?_
  refine va_sld hx hb hX hbl hbA hS h1 dL_law_929 ?_
  refine l_iV (n := 1) F X hP hS [.int (xs (x + 1).toNatClampNeg)] [_] (c_X8_best l E _ _ (xs (x + 1).toNatClampNeg) tc wc r1.n.2.1 r1.n.2.2.1 r1.n.2.2.2.2.1 r1.n.2.2.2.2.2) m_6_4 wi_X8_best rfl rfl (by decide) (by decide +kernel) ⟨Nat.le_of_ble_eq_true rfl, Nat.le_of_ble_eq_true rfl⟩ rfl hl rfl (Nat.le_of_ble_eq_true rfl) hcs dL_law_930 (fun H locs hP hS => ?_)
  exact lv_icmp_eq (tgt := 1442) hx hb dL_law_933 (by decide) (fun c9 => kk _ _ _ ⟨tc1, wc1, _, _, r2, hP, hS, hl⟩) (fun c9 => absurd he c9)
/-! THE LAW: its cases, one by one, the rest -/
set_option maxHeartbeats 1000000 in
theorem lw_c19 {p : Program} {l : Launch} {e : Env} {s : State} {m : MethodId} {below : List Frame} {meth : Method} {c : Code} {b L0 cells slots : Nat} {xs : Nat → Int32} {E : fE} {H : Heap} {locs : List Loc} {ls : Array Slot} {Q : State → Prop} (C0 : lw_At p s m meth c b L0 xs) (X : lX E s) (hcs : cells ≤ room_1.cells ∧ slots ≤ room_1.slots) {x : Int32} (h1 : vp_in (x + 1) L0) (h2 : vp_in (x + 2) L0) (h3 : vp_in (x + 3) L0) (h4 : vp_in (x + 4) L0) (h5 : vp_in (x + 5) L0) (h6 : vp_in (x + 6) L0) (h7 : vp_in (x + 7) L0) (hI : lInv E s b x H locs ls)
    (kk : ∀ (H : Heap) (locs : List Loc) (ls : Array Slot), lInv E s b x H locs ls → W p l e room_1 s m #[Value.ref b] below meth c H locs cells slots Q (F0 m 1442 ls [])) : W p l e room_1 s m #[Value.ref b] below meth c H locs cells slots Q (F0 m 938 ls []) := by
  obtain ⟨hx, hb, hr, hml, hown, hts, hX, hbl, hlocks, hgv⟩ := C0
  have hbA : ¬ (fun q : Nat => s.heap.size ≤ q) b := Nat.not_le.mpr hbl
  have F : CallFix p m c cL_law 4 s #[Value.ref b] tb R_law := ⟨hx, hb, hml, hown, fun w hw => hts w (List.mem_filter.mp hw).1⟩
  obtain ⟨tc, wc, M, L, r, hP, hS, hl⟩ := hI
  have h0 := e_lookouts r (xs (x + 1).toNatClampNeg)
  have r1 := r.right h0.2.2.1 h0.2.2.2.1
  obtain ⟨he, tc1, wc1, r2⟩ := (e_lookouts r1 (xs (x + 1).toNatClampNeg)).fin
  rw [kl_lookouts] at r2
  refine lv_aload_n hx hb dL_law_938 rfl (lv_at hl 1 rfl) ?_
  refine lv_aload_n hx hb dL_law_939 rfl (lv_at hl 0 rfl) ?_
  refine lv_iload_n hx hb dL_law_940 rfl (lv_at hl 3 rfl) ?_
  refine lv_iconst (v := 1) hx hb dL_law_941 (by decide) ?_
  refine lv_iadd hx hb dL_law_942 ?_
  refine va_sld hx hb hX hbl hbA hS h1 dL_law_943 ?_
  refine l_iV (n := 1) F X hP hS [.int (xs (x + 1).toNatClampNeg)] [] (c_X7_lookouts l E M L (xs (x + 1).toNatClampNeg) tc r.n.1 r.n.2.2.1) m_3_161 wi_X7_lookouts rfl rfl (by decide) (by decide +kernel) ⟨Nat.le_of_ble_eq_true rfl, Nat.le_of_ble_eq_true rfl⟩ rfl hl rfl (Nat.le_of_ble_eq_true rfl) hcs dL_law_944 (fun H locs hP hS => ?_)
  refine lv_aload_n hx hb dL_law_947 rfl (lv_at hl 2 rfl) ?_
  refine lv_aload_n hx hb dL_law_948 rfl (lv_at hl 0 rfl) ?_
  refine lv_iload_n hx hb dL_law_949 rfl (lv_at hl 3 rfl) ?_
  refine lv_iconst (v := 1) hx hb dL_law_950 (by decide) ?_
  refine lv_iadd hx hb dL_law_951 ?_
  refine va_sld hx hb hX hbl hbA hS h1 dL_law_952 ?_
  refine l_iV (n := 1) F X hP hS [.int (xs (x + 1).toNatClampNeg)] [_] (c_X8_lookouts l E _ _ (xs (x + 1).toNatClampNeg) tc wc r1.n.2.1 r1.n.2.2.1 r1.n.2.2.2.2.1 r1.n.2.2.2.2.2) m_6_36 wi_X8_lookouts rfl rfl (by decide) (by decide +kernel) ⟨Nat.le_of_ble_eq_true rfl, Nat.le_of_ble_eq_true rfl⟩ rfl hl rfl (Nat.le_of_ble_eq_true rfl) hcs dL_law_953 (fun H locs hP hS => ?_)
  exact lv_icmp_eq (tgt := 1442) hx hb dL_law_956 (by decide) (fun c9 => kk _ _ _ ⟨tc1, wc1, _, _, r2, hP, hS, hl⟩) (fun c9 => absurd he c9)
set_option maxHeartbeats 1000000 in
theorem lw_c20 {p : Program} {l : Launch} {e : Env} {s : State} {m : MethodId} {below : List Frame} {meth : Method} {c : Code} {b L0 cells slots : Nat} {xs : Nat → Int32} {E : fE} {H : Heap} {locs : List Loc} {ls : Array Slot} {Q : State → Prop} (C0 : lw_At p s m meth c b L0 xs) (X : lX E s) (hcs : cells ≤ room_1.cells ∧ slots ≤ room_1.slots) {x : Int32} (h1 : vp_in (x + 1) L0) (h2 : vp_in (x + 2) L0) (h3 : vp_in (x + 3) L0) (h4 : vp_in (x + 4) L0) (h5 : vp_in (x + 5) L0) (h6 : vp_in (x + 6) L0) (h7 : vp_in (x + 7) L0) (hI : lInv E s b x H locs ls)
    (kk : ∀ (H : Heap) (locs : List Loc) (ls : Array Slot), lInv E s b x H locs ls → W p l e room_1 s m #[Value.ref b] below meth c H locs cells slots Q (F0 m 1442 ls [])) : W p l e room_1 s m #[Value.ref b] below meth c H locs cells slots Q (F0 m 961 ls []) := by
  obtain ⟨hx, hb, hr, hml, hown, hts, hX, hbl, hlocks, hgv⟩ := C0
  have hbA : ¬ (fun q : Nat => s.heap.size ≤ q) b := Nat.not_le.mpr hbl
  have F : CallFix p m c cL_law 4 s #[Value.ref b] tb R_law := ⟨hx, hb, hml, hown, fun w hw => hts w (List.mem_filter.mp hw).1⟩
  obtain ⟨tc, wc, M, L, r, hP, hS, hl⟩ := hI
  refine lv_aload_n hx hb dL_law_961 rfl (lv_at hl 1 rfl) ?_
  refine lv_aload_n hx hb dL_law_962 rfl (lv_at hl 0 rfl) ?_
  refine lv_iload_n hx hb dL_law_963 rfl (lv_at hl 3 rfl) ?_
  refine lv_iconst (v := 1) hx hb dL_law_964 (by decide) ?_
  refine lv_iadd hx hb dL_law_965 ?_
  refine va_sld hx hb hX hbl hbA hS h1 dL_law_966 ?_
  refine lv_aload_n hx hb dL_law_967 rfl (lv_at hl 0 rfl) ?_
  refine lv_iload_n hx hb dL_law_968 rfl (lv_at hl 3 rfl) ?_
  refine lv_iconst (v := 2) hx hb dL_law_969 (by decide) ?_
  refine lv_iadd hx hb dL_law_970 ?_
  refine va_sld hx hb hX hbl hbA hS h2 dL_law_971 ?_
  refine l_iG (n := 2) F X hP hS [.int (xs (x + 1).toNatClampNeg), .int (xs (x + 2).toNatClampNeg)] [] (c_X7_rota l E M L (xs (x + 1).toNatClampNeg) (xs (x + 2).toNatClampNeg) tc wc r.n.1 r.n.2.2.1 r.n.2.2.2.1 r.n.2.2.2.2.2 (fun t ht => r.o.1 t ht) (fun w hw => r.o.2.1 w hw) r.o.2.2.1) m_3_177 wi_X7_rota rfl rfl (by decide) (by decide +kernel) ⟨Nat.le_of_ble_eq_true rfl, Nat.le_of_ble_eq_true rfl⟩ rfl hl rfl (Nat.le_of_ble_eq_true rfl) hcs dL_law_972 (fun y0 N0 K0 H locs hq0 hP hS => ?_)
  have r1 := rota_r1 r hq0
  refine lv_aload_n hx hb dL_law_975 rfl (lv_at hl 2 rfl) ?_
  refine lv_aload_n hx hb dL_law_976 rfl (lv_at hl 0 rfl) ?_
  refine lv_iload_n hx hb dL_law_977 rfl (lv_at hl 3 rfl) ?_
  refine lv_iconst (v := 1) hx hb dL_law_978 (by decide) ?_
  refine lv_iadd hx hb dL_law_979 ?_
  refine va_sld hx hb hX hbl hbA hS h1 dL_law_980 ?_
  refine lv_aload_n hx hb dL_law_981 rfl (lv_at hl 0 rfl) ?_
  refine lv_iload_n hx hb dL_law_982 rfl (lv_at hl 3 rfl) ?_
  refine lv_iconst (v := 2) hx hb dL_law_983 (by decide) ?_
  refine lv_iadd hx hb dL_law_984 ?_
  refine va_sld hx hb hX hbl hbA hS h2 dL_law_985 ?_
  refine l_iG (n := 2) F X hP hS [.int (xs (x + 1).toNatClampNeg), .int (xs (x + 2).toNatClampNeg)] [_] (c_X8_rota l E N0 K0 (xs (x + 1).toNatClampNeg) (xs (x + 2).toNatClampNeg) tc wc r1.n.2.1 r1.n.2.2.1 r1.n.2.2.2.2.1 r1.n.2.2.2.2.2 (fun w hw => (hold_rg r1 (Nat.lt_of_lt_of_le hw r1.n.2.2.2.2.2)).1) (fun t ht => (r1.tok ht).2.1)) m_6_8 wi_X8_rota rfl rfl (by decide) (by decide +kernel) ⟨Nat.le_of_ble_eq_true rfl, Nat.le_of_ble_eq_true rfl⟩ rfl hl rfl (Nat.le_of_ble_eq_true rfl) hcs dL_law_986 (fun y1 N1 K1 H locs hq1 hP hS => ?_)
  obtain ⟨he, tc1, wc1, r2⟩ := (e_rota r1 hq0 hq1).fin
  exact lv_icmp_eq (tgt := 1442) hx hb dL_law_989 (by decide) (fun c9 => kk _ _ _ ⟨tc1, wc1, _, _, r2, hP, hS, hl⟩) (fun c9 => absurd he c9)
set_option maxHeartbeats 1000000 in
theorem lw_c21 {p : Program} {l : Launch} {e : Env} {s : State} {m : MethodId} {below : List Frame} {meth : Method} {c : Code} {b L0 cells slots : Nat} {xs : Nat → Int32} {E : fE} {H : Heap} {locs : List Loc} {ls : Array Slot} {Q : State → Prop} (C0 : lw_At p s m meth c b L0 xs) (X : lX E s) (hcs : cells ≤ room_1.cells ∧ slots ≤ room_1.slots) {x : Int32} (h1 : vp_in (x + 1) L0) (h2 : vp_in (x + 2) L0) (h3 : vp_in (x + 3) L0) (h4 : vp_in (x + 4) L0) (h5 : vp_in (x + 5) L0) (h6 : vp_in (x + 6) L0) (h7 : vp_in (x + 7) L0) (hI : lInv E s b x H locs ls)
    (kk : ∀ (H : Heap) (locs : List Loc) (ls : Array Slot), lInv E s b x H locs ls → W p l e room_1 s m #[Value.ref b] below meth c H locs cells slots Q (F0 m 1442 ls [])) : W p l e room_1 s m #[Value.ref b] below meth c H locs cells slots Q (F0 m 994 ls []) := by
  obtain ⟨hx, hb, hr, hml, hown, hts, hX, hbl, hlocks, hgv⟩ := C0
  have hbA : ¬ (fun q : Nat => s.heap.size ≤ q) b := Nat.not_le.mpr hbl
  have F : CallFix p m c cL_law 4 s #[Value.ref b] tb R_law := ⟨hx, hb, hml, hown, fun w hw => hts w (List.mem_filter.mp hw).1⟩
  obtain ⟨tc, wc, M, L, r, hP, hS, hl⟩ := hI
  have h0 := e_posts r (xs (x + 1).toNatClampNeg)
  have r1 := r.right h0.2.2.1 h0.2.2.2.1
  obtain ⟨he, tc1, wc1, r2⟩ := (e_posts r1 (xs (x + 1).toNatClampNeg)).fin
  rw [kl_posts] at r2
  refine lv_aload_n hx hb dL_law_994 rfl (lv_at hl 1 rfl) ?_
  refine lv_aload_n hx hb dL_law_995 rfl (lv_at hl 0 rfl) ?_
  refine lv_iload_n hx hb dL_law_996 rfl (lv_at hl 3 rfl) ?_
  refine lv_iconst (v := 1) hx hb dL_law_997 (by decide) ?_
  refine lv_iadd hx hb dL_law_998 ?_
  refine va_sld hx hb hX hbl hbA hS h1 dL_law_999 ?_
  refine l_iV (n := 1) F X hP hS [.int (xs (x + 1).toNatClampNeg)] [] (c_X7_posts l E M L (xs (x + 1).toNatClampNeg) tc wc r.n.1 r.n.2.2.1 r.n.2.2.2.1 r.n.2.2.2.2.2) m_3_208 wi_X7_posts rfl rfl (by decide) (by decide +kernel) ⟨Nat.le_of_ble_eq_true rfl, Nat.le_of_ble_eq_true rfl⟩ rfl hl rfl (Nat.le_of_ble_eq_true rfl) hcs dL_law_1000 (fun H locs hP hS => ?_)
  refine lv_aload_n hx hb dL_law_1003 rfl (lv_at hl 2 rfl) ?_
  refine lv_aload_n hx hb dL_law_1004 rfl (lv_at hl 0 rfl) ?_
  refine lv_iload_n hx hb dL_law_1005 rfl (lv_at hl 3 rfl) ?_
  refine lv_iconst (v := 1) hx hb dL_law_1006 (by decide) ?_
  refine lv_iadd hx hb dL_law_1007 ?_
  refine va_sld hx hb hX hbl hbA hS h1 dL_law_1008 ?_
  refine l_iV (n := 1) F X hP hS [.int (xs (x + 1).toNatClampNeg)] [_] (c_X8_posts l E _ _ (xs (x + 1).toNatClampNeg) tc wc r1.n.2.1 r1.n.2.2.1 r1.n.2.2.2.2.1 r1.n.2.2.2.2.2) m_6_16 wi_X8_posts rfl rfl (by decide) (by decide +kernel) ⟨Nat.le_of_ble_eq_true rfl, Nat.le_of_ble_eq_true rfl⟩ rfl hl rfl (Nat.le_of_ble_eq_true rfl) hcs dL_law_1009 (fun H locs hP hS => ?_)
  exact lv_icmp_eq (tgt := 1442) hx hb dL_law_1012 (by decide) (fun c9 => kk _ _ _ ⟨tc1, wc1, _, _, r2, hP, hS, hl⟩) (fun c9 => absurd he c9)
set_option maxHeartbeats 1000000 in
theorem lw_c22 {p : Program} {l : Launch} {e : Env} {s : State} {m : MethodId} {below : List Frame} {meth : Method} {c : Code} {b L0 cells slots : Nat} {xs : Nat → Int32} {E : fE} {H : Heap} {locs : List Loc} {ls : Array Slot} {Q : State → Prop} (C0 : lw_At p s m meth c b L0 xs) (X : lX E s) (hcs : cells ≤ room_1.cells ∧ slots ≤ room_1.slots) {x : Int32} (h1 : vp_in (x + 1) L0) (h2 : vp_in (x + 2) L0) (h3 : vp_in (x + 3) L0) (h4 : vp_in (x + 4) L0) (h5 : vp_in (x + 5) L0) (h6 : vp_in (x + 6) L0) (h7 : vp_in (x + 7) L0) (hI : lInv E s b x H locs ls)
    (kk : ∀ (H : Heap) (locs : List Loc) (ls : Array Slot), lInv E s b x H locs ls → W p l e room_1 s m #[Value.ref b] below meth c H locs cells slots Q (F0 m 1442 ls [])) : W p l e room_1 s m #[Value.ref b] below meth c H locs cells slots Q (F0 m 1017 ls []) := by
  obtain ⟨hx, hb, hr, hml, hown, hts, hX, hbl, hlocks, hgv⟩ := C0
  have hbA : ¬ (fun q : Nat => s.heap.size ≤ q) b := Nat.not_le.mpr hbl
  have F : CallFix p m c cL_law 4 s #[Value.ref b] tb R_law := ⟨hx, hb, hml, hown, fun w hw => hts w (List.mem_filter.mp hw).1⟩
  obtain ⟨tc, wc, M, L, r, hP, hS, hl⟩ := hI
  have h0 := e_seen r (xs (x + 1).toNatClampNeg) (xs (x + 2).toNatClampNeg)
  have r1 := r.right h0.2.2.1 h0.2.2.2.1
  obtain ⟨he, tc1, wc1, r2⟩ := (e_seen r1 (xs (x + 1).toNatClampNeg) (xs (x + 2).toNatClampNeg)).fin
  rw [kl_seen] at r2
  refine lv_aload_n hx hb dL_law_1017 rfl (lv_at hl 1 rfl) ?_
  refine lv_aload_n hx hb dL_law_1018 rfl (lv_at hl 0 rfl) ?_
  refine lv_iload_n hx hb dL_law_1019 rfl (lv_at hl 3 rfl) ?_
  refine lv_iconst (v := 1) hx hb dL_law_1020 (by decide) ?_
  refine lv_iadd hx hb dL_law_1021 ?_
  refine va_sld hx hb hX hbl hbA hS h1 dL_law_1022 ?_
  refine lv_aload_n hx hb dL_law_1023 rfl (lv_at hl 0 rfl) ?_
  refine lv_iload_n hx hb dL_law_1024 rfl (lv_at hl 3 rfl) ?_
  refine lv_iconst (v := 2) hx hb dL_law_1025 (by decide) ?_
  refine lv_iadd hx hb dL_law_1026 ?_
  refine va_sld hx hb hX hbl hbA hS h2 dL_law_1027 ?_
  refine l_iV (n := 2) F X hP hS [.int (xs (x + 1).toNatClampNeg), .int (xs (x + 2).toNatClampNeg)] [] (c_X7_seen l E M L (xs (x + 1).toNatClampNeg) (xs (x + 2).toNatClampNeg) tc r.n.1 r.n.2.2.1) m_3_227 wi_X7_seen rfl rfl (by decide) (by decide +kernel) ⟨Nat.le_of_ble_eq_true rfl, Nat.le_of_ble_eq_true rfl⟩ rfl hl rfl (Nat.le_of_ble_eq_true rfl) hcs dL_law_1028 (fun H locs hP hS => ?_)
  refine lv_aload_n hx hb dL_law_1031 rfl (lv_at hl 2 rfl) ?_
  refine lv_aload_n hx hb dL_law_1032 rfl (lv_at hl 0 rfl) ?_
  refine lv_iload_n hx hb dL_law_1033 rfl (lv_at hl 3 rfl) ?_
  refine lv_iconst (v := 1) hx hb dL_law_1034 (by decide) ?_
  refine lv_iadd hx hb dL_law_1035 ?_
  refine va_sld hx hb hX hbl hbA hS h1 dL_law_1036 ?_
  refine lv_aload_n hx hb dL_law_1037 rfl (lv_at hl 0 rfl) ?_
  refine lv_iload_n hx hb dL_law_1038 rfl (lv_at hl 3 rfl) ?_
  refine lv_iconst (v := 2) hx hb dL_law_1039 (by decide) ?_
  refine lv_iadd hx hb dL_law_1040 ?_
  refine va_sld hx hb hX hbl hbA hS h2 dL_law_1041 ?_
  refine l_iV (n := 2) F X hP hS [.int (xs (x + 1).toNatClampNeg), .int (xs (x + 2).toNatClampNeg)] [_] (c_X8_seen l E _ _ (xs (x + 1).toNatClampNeg) (xs (x + 2).toNatClampNeg) tc wc r1.n.2.1 r1.n.2.2.1 r1.n.2.2.2.2.1 r1.n.2.2.2.2.2) m_6_28 wi_X8_seen rfl rfl (by decide) (by decide +kernel) ⟨Nat.le_of_ble_eq_true rfl, Nat.le_of_ble_eq_true rfl⟩ rfl hl rfl (Nat.le_of_ble_eq_true rfl) hcs dL_law_1042 (fun H locs hP hS => ?_)
  exact lv_icmp_eq (tgt := 1442) hx hb dL_law_1045 (by decide) (fun c9 => kk _ _ _ ⟨tc1, wc1, _, _, r2, hP, hS, hl⟩) (fun c9 => absurd he c9)
set_option maxHeartbeats 1000000 in
theorem lw_c23 {p : Program} {l : Launch} {e : Env} {s : State} {m : MethodId} {below : List Frame} {meth : Method} {c : Code} {b L0 cells slots : Nat} {xs : Nat → Int32} {E : fE} {H : Heap} {locs : List Loc} {ls : Array Slot} {Q : State → Prop} (C0 : lw_At p s m meth c b L0 xs) (X : lX E s) (hcs : cells ≤ room_1.cells ∧ slots ≤ room_1.slots) {x : Int32} (h1 : vp_in (x + 1) L0) (h2 : vp_in (x + 2) L0) (h3 : vp_in (x + 3) L0) (h4 : vp_in (x + 4) L0) (h5 : vp_in (x + 5) L0) (h6 : vp_in (x + 6) L0) (h7 : vp_in (x + 7) L0) (hI : lInv E s b x H locs ls)
    (kk : ∀ (H : Heap) (locs : List Loc) (ls : Array Slot), lInv E s b x H locs ls → W p l e room_1 s m #[Value.ref b] below meth c H locs cells slots Q (F0 m 1442 ls [])) : W p l e room_1 s m #[Value.ref b] below meth c H locs cells slots Q (F0 m 1050 ls []) := by
  obtain ⟨hx, hb, hr, hml, hown, hts, hX, hbl, hlocks, hgv⟩ := C0
  have hbA : ¬ (fun q : Nat => s.heap.size ≤ q) b := Nat.not_le.mpr hbl
  have F : CallFix p m c cL_law 4 s #[Value.ref b] tb R_law := ⟨hx, hb, hml, hown, fun w hw => hts w (List.mem_filter.mp hw).1⟩
  obtain ⟨tc, wc, M, L, r, hP, hS, hl⟩ := hI
  have h0 := e_met r (xs (x + 1).toNatClampNeg) (xs (x + 2).toNatClampNeg)
  have r1 := r.right h0.2.2.1 h0.2.2.2.1
  obtain ⟨he, tc1, wc1, r2⟩ := (e_met r1 (xs (x + 1).toNatClampNeg) (xs (x + 2).toNatClampNeg)).fin
  rw [kl_met] at r2
  refine lv_aload_n hx hb dL_law_1050 rfl (lv_at hl 1 rfl) ?_
  refine lv_aload_n hx hb dL_law_1051 rfl (lv_at hl 0 rfl) ?_
  refine lv_iload_n hx hb dL_law_1052 rfl (lv_at hl 3 rfl) ?_
  refine lv_iconst (v := 1) hx hb dL_law_1053 (by decide) ?_
  refine lv_iadd hx hb dL_law_1054 ?_
  refine va_sld hx hb hX hbl hbA hS h1 dL_law_1055 ?_
  refine lv_aload_n hx hb dL_law_1056 rfl (lv_at hl 0 rfl) ?_
  refine lv_iload_n hx hb dL_law_1057 rfl (lv_at hl 3 rfl) ?_
  refine lv_iconst (v := 2) hx hb dL_law_1058 (by decide) ?_
  refine lv_iadd hx hb dL_law_1059 ?_
  refine va_sld hx hb hX hbl hbA hS h2 dL_law_1060 ?_
  refine l_iV (n := 2) F X hP hS [.int (xs (x + 1).toNatClampNeg), .int (xs (x + 2).toNatClampNeg)] [] (c_X7_met l E M L (xs (x + 1).toNatClampNeg) (xs (x + 2).toNatClampNeg)) m_4_0 wi_X7_met rfl rfl (by decide) (by decide +kernel) ⟨Nat.le_of_ble_eq_true rfl, Nat.le_of_ble_eq_true rfl⟩ rfl hl rfl (Nat.le_of_ble_eq_true rfl) hcs dL_law_1061 (fun H locs hP hS => ?_)
  refine lv_aload_n hx hb dL_law_1064 rfl (lv_at hl 2 rfl) ?_
  refine lv_aload_n hx hb dL_law_1065 rfl (lv_at hl 0 rfl) ?_
  refine lv_iload_n hx hb dL_law_1066 rfl (lv_at hl 3 rfl) ?_
  refine lv_iconst (v := 1) hx hb dL_law_1067 (by decide) ?_
  refine lv_iadd hx hb dL_law_1068 ?_
  refine va_sld hx hb hX hbl hbA hS h1 dL_law_1069 ?_
  refine lv_aload_n hx hb dL_law_1070 rfl (lv_at hl 0 rfl) ?_
  refine lv_iload_n hx hb dL_law_1071 rfl (lv_at hl 3 rfl) ?_
  refine lv_iconst (v := 2) hx hb dL_law_1072 (by decide) ?_
  refine lv_iadd hx hb dL_law_1073 ?_
  refine va_sld hx hb hX hbl hbA hS h2 dL_law_1074 ?_
  refine l_iV (n := 2) F X hP hS [.int (xs (x + 1).toNatClampNeg), .int (xs (x + 2).toNatClampNeg)] [_] (c_X8_met l E _ _ (xs (x + 1).toNatClampNeg) (xs (x + 2).toNatClampNeg) tc r1.n.2.1 r1.n.2.2.1) m_6_40 wi_X8_met rfl rfl (by decide) (by decide +kernel) ⟨Nat.le_of_ble_eq_true rfl, Nat.le_of_ble_eq_true rfl⟩ rfl hl rfl (Nat.le_of_ble_eq_true rfl) hcs dL_law_1075 (fun H locs hP hS => ?_)
  exact lv_icmp_eq (tgt := 1442) hx hb dL_law_1078 (by decide) (fun c9 => kk _ _ _ ⟨tc1, wc1, _, _, r2, hP, hS, hl⟩) (fun c9 => absurd he c9)
set_option maxHeartbeats 1000000 in
theorem lw_c24 {p : Program} {l : Launch} {e : Env} {s : State} {m : MethodId} {below : List Frame} {meth : Method} {c : Code} {b L0 cells slots : Nat} {xs : Nat → Int32} {E : fE} {H : Heap} {locs : List Loc} {ls : Array Slot} {Q : State → Prop} (C0 : lw_At p s m meth c b L0 xs) (X : lX E s) (hcs : cells ≤ room_1.cells ∧ slots ≤ room_1.slots) {x : Int32} (h1 : vp_in (x + 1) L0) (h2 : vp_in (x + 2) L0) (h3 : vp_in (x + 3) L0) (h4 : vp_in (x + 4) L0) (h5 : vp_in (x + 5) L0) (h6 : vp_in (x + 6) L0) (h7 : vp_in (x + 7) L0) (hI : lInv E s b x H locs ls)
    (kk : ∀ (H : Heap) (locs : List Loc) (ls : Array Slot), lInv E s b x H locs ls → W p l e room_1 s m #[Value.ref b] below meth c H locs cells slots Q (F0 m 1442 ls [])) : W p l e room_1 s m #[Value.ref b] below meth c H locs cells slots Q (F0 m 1083 ls []) := by
  obtain ⟨hx, hb, hr, hml, hown, hts, hX, hbl, hlocks, hgv⟩ := C0
  have hbA : ¬ (fun q : Nat => s.heap.size ≤ q) b := Nat.not_le.mpr hbl
  have F : CallFix p m c cL_law 4 s #[Value.ref b] tb R_law := ⟨hx, hb, hml, hown, fun w hw => hts w (List.mem_filter.mp hw).1⟩
  obtain ⟨tc, wc, M, L, r, hP, hS, hl⟩ := hI
  have h0 := e_runners r (xs (x + 1).toNatClampNeg) (xs (x + 2).toNatClampNeg)
  have r1 := r.right h0.2.2.1 h0.2.2.2.1
  obtain ⟨he, tc1, wc1, r2⟩ := (e_runners r1 (xs (x + 1).toNatClampNeg) (xs (x + 2).toNatClampNeg)).fin
  rw [kl_runners] at r2
  refine lv_aload_n hx hb dL_law_1083 rfl (lv_at hl 1 rfl) ?_
  refine lv_aload_n hx hb dL_law_1084 rfl (lv_at hl 0 rfl) ?_
  refine lv_iload_n hx hb dL_law_1085 rfl (lv_at hl 3 rfl) ?_
  refine lv_iconst (v := 1) hx hb dL_law_1086 (by decide) ?_
  refine lv_iadd hx hb dL_law_1087 ?_
  refine va_sld hx hb hX hbl hbA hS h1 dL_law_1088 ?_
  refine lv_aload_n hx hb dL_law_1089 rfl (lv_at hl 0 rfl) ?_
  refine lv_iload_n hx hb dL_law_1090 rfl (lv_at hl 3 rfl) ?_
  refine lv_iconst (v := 2) hx hb dL_law_1091 (by decide) ?_
  refine lv_iadd hx hb dL_law_1092 ?_
  refine va_sld hx hb hX hbl hbA hS h2 dL_law_1093 ?_
  refine l_iV (n := 2) F X hP hS [.int (xs (x + 1).toNatClampNeg), .int (xs (x + 2).toNatClampNeg)] [] (c_X7_runners l E M L (xs (x + 1).toNatClampNeg) (xs (x + 2).toNatClampNeg) tc r.n.1 r.n.2.2.1) m_4_8 wi_X7_runners rfl rfl (by decide) (by decide +kernel) ⟨Nat.le_of_ble_eq_true rfl, Nat.le_of_ble_eq_true rfl⟩ rfl hl rfl (Nat.le_of_ble_eq_true rfl) hcs dL_law_1094 (fun H locs hP hS => ?_)
  refine lv_aload_n hx hb dL_law_1097 rfl (lv_at hl 2 rfl) ?_
  refine lv_aload_n hx hb dL_law_1098 rfl (lv_at hl 0 rfl) ?_
  refine lv_iload_n hx hb dL_law_1099 rfl (lv_at hl 3 rfl) ?_
  refine lv_iconst (v := 1) hx hb dL_law_1100 (by decide) ?_
  refine lv_iadd hx hb dL_law_1101 ?_
  refine va_sld hx hb hX hbl hbA hS h1 dL_law_1102 ?_
  refine lv_aload_n hx hb dL_law_1103 rfl (lv_at hl 0 rfl) ?_
  refine lv_iload_n hx hb dL_law_1104 rfl (lv_at hl 3 rfl) ?_
  refine lv_iconst (v := 2) hx hb dL_law_1105 (by decide) ?_
  refine lv_iadd hx hb dL_law_1106 ?_
  refine va_sld hx hb hX hbl hbA hS h2 dL_law_1107 ?_
  refine l_iV (n := 2) F X hP hS [.int (xs (x + 1).toNatClampNeg), .int (xs (x + 2).toNatClampNeg)] [_] (c_X8_runners l E _ _ (xs (x + 1).toNatClampNeg) (xs (x + 2).toNatClampNeg) tc r1.n.2.1 r1.n.2.2.1) m_6_48 wi_X8_runners rfl rfl (by decide) (by decide +kernel) ⟨Nat.le_of_ble_eq_true rfl, Nat.le_of_ble_eq_true rfl⟩ rfl hl rfl (Nat.le_of_ble_eq_true rfl) hcs dL_law_1108 (fun H locs hP hS => ?_)
  exact lv_icmp_eq (tgt := 1442) hx hb dL_law_1111 (by decide) (fun c9 => kk _ _ _ ⟨tc1, wc1, _, _, r2, hP, hS, hl⟩) (fun c9 => absurd he c9)
set_option maxHeartbeats 1000000 in
theorem lw_c25 {p : Program} {l : Launch} {e : Env} {s : State} {m : MethodId} {below : List Frame} {meth : Method} {c : Code} {b L0 cells slots : Nat} {xs : Nat → Int32} {E : fE} {H : Heap} {locs : List Loc} {ls : Array Slot} {Q : State → Prop} (C0 : lw_At p s m meth c b L0 xs) (X : lX E s) (hcs : cells ≤ room_1.cells ∧ slots ≤ room_1.slots) {x : Int32} (h1 : vp_in (x + 1) L0) (h2 : vp_in (x + 2) L0) (h3 : vp_in (x + 3) L0) (h4 : vp_in (x + 4) L0) (h5 : vp_in (x + 5) L0) (h6 : vp_in (x + 6) L0) (h7 : vp_in (x + 7) L0) (hI : lInv E s b x H locs ls)
    (kk : ∀ (H : Heap) (locs : List Loc) (ls : Array Slot), lInv E s b x H locs ls → W p l e room_1 s m #[Value.ref b] below meth c H locs cells slots Q (F0 m 1442 ls [])) : W p l e room_1 s m #[Value.ref b] below meth c H locs cells slots Q (F0 m 1116 ls []) := by
  obtain ⟨hx, hb, hr, hml, hown, hts, hX, hbl, hlocks, hgv⟩ := C0
  have hbA : ¬ (fun q : Nat => s.heap.size ≤ q) b := Nat.not_le.mpr hbl
  have F : CallFix p m c cL_law 4 s #[Value.ref b] tb R_law := ⟨hx, hb, hml, hown, fun w hw => hts w (List.mem_filter.mp hw).1⟩
  obtain ⟨tc, wc, M, L, r, hP, hS, hl⟩ := hI
  have h0 := e_left r (xs (x + 1).toNatClampNeg) (xs (x + 2).toNatClampNeg)
  have r1 := r.right h0.2.2.1 h0.2.2.2.1
  obtain ⟨he, tc1, wc1, r2⟩ := (e_left r1 (xs (x + 1).toNatClampNeg) (xs (x + 2).toNatClampNeg)).fin
  rw [kl_left] at r2
  refine lv_aload_n hx hb dL_law_1116 rfl (lv_at hl 1 rfl) ?_
  refine lv_aload_n hx hb dL_law_1117 rfl (lv_at hl 0 rfl) ?_
  refine lv_iload_n hx hb dL_law_1118 rfl (lv_at hl 3 rfl) ?_
  refine lv_iconst (v := 1) hx hb dL_law_1119 (by decide) ?_
  refine lv_iadd hx hb dL_law_1120 ?_
  refine va_sld hx hb hX hbl hbA hS h1 dL_law_1121 ?_
  refine lv_aload_n hx hb dL_law_1122 rfl (lv_at hl 0 rfl) ?_
  refine lv_iload_n hx hb dL_law_1123 rfl (lv_at hl 3 rfl) ?_
  refine lv_iconst (v := 2) hx hb dL_law_1124 (by decide) ?_
  refine lv_iadd hx hb dL_law_1125 ?_
  refine va_sld hx hb hX hbl hbA hS h2 dL_law_1126 ?_
  refine l_iV (n := 2) F X hP hS [.int (xs (x + 1).toNatClampNeg), .int (xs (x + 2).toNatClampNeg)] [] (c_X7_left l E M L (xs (x + 1).toNatClampNeg) (xs (x + 2).toNatClampNeg) tc r.n.1 r.n.2.2.1) m_4_30 wi_X7_left rfl rfl (by decide) (by decide +kernel) ⟨Nat.le_of_ble_eq_true rfl, Nat.le_of_ble_eq_true rfl⟩ rfl hl rfl (Nat.le_of_ble_eq_true rfl) hcs dL_law_1127 (fun H locs hP hS => ?_)
  refine lv_aload_n hx hb dL_law_1130 rfl (lv_at hl 2 rfl) ?_
  refine lv_aload_n hx hb dL_law_1131 rfl (lv_at hl 0 rfl) ?_
  refine lv_iload_n hx hb dL_law_1132 rfl (lv_at hl 3 rfl) ?_
  refine lv_iconst (v := 1) hx hb dL_law_1133 (by decide) ?_
  refine lv_iadd hx hb dL_law_1134 ?_
  refine va_sld hx hb hX hbl hbA hS h1 dL_law_1135 ?_
  refine lv_aload_n hx hb dL_law_1136 rfl (lv_at hl 0 rfl) ?_
  refine lv_iload_n hx hb dL_law_1137 rfl (lv_at hl 3 rfl) ?_
  refine lv_iconst (v := 2) hx hb dL_law_1138 (by decide) ?_
  refine lv_iadd hx hb dL_law_1139 ?_
  refine va_sld hx hb hX hbl hbA hS h2 dL_law_1140 ?_
  refine l_iV (n := 2) F X hP hS [.int (xs (x + 1).toNatClampNeg), .int (xs (x + 2).toNatClampNeg)] [_] (c_X8_left l E _ _ (xs (x + 1).toNatClampNeg) (xs (x + 2).toNatClampNeg) tc r1.n.2.1 r1.n.2.2.1) m_6_52 wi_X8_left rfl rfl (by decide) (by decide +kernel) ⟨Nat.le_of_ble_eq_true rfl, Nat.le_of_ble_eq_true rfl⟩ rfl hl rfl (Nat.le_of_ble_eq_true rfl) hcs dL_law_1141 (fun H locs hP hS => ?_)
  exact lv_icmp_eq (tgt := 1442) hx hb dL_law_1144 (by decide) (fun c9 => kk _ _ _ ⟨tc1, wc1, _, _, r2, hP, hS, hl⟩) (fun c9 => absurd he c9)
set_option maxHeartbeats 1000000 in
theorem lw_c26 {p : Program} {l : Launch} {e : Env} {s : State} {m : MethodId} {below : List Frame} {meth : Method} {c : Code} {b L0 cells slots : Nat} {xs : Nat → Int32} {E : fE} {H : Heap} {locs : List Loc} {ls : Array Slot} {Q : State → Prop} (C0 : lw_At p s m meth c b L0 xs) (X : lX E s) (hcs : cells ≤ room_1.cells ∧ slots ≤ room_1.slots) {x : Int32} (h1 : vp_in (x + 1) L0) (h2 : vp_in (x + 2) L0) (h3 : vp_in (x + 3) L0) (h4 : vp_in (x + 4) L0) (h5 : vp_in (x + 5) L0) (h6 : vp_in (x + 6) L0) (h7 : vp_in (x + 7) L0) (hI : lInv E s b x H locs ls)
    (kk : ∀ (H : Heap) (locs : List Loc) (ls : Array Slot), lInv E s b x H locs ls → W p l e room_1 s m #[Value.ref b] below meth c H locs cells slots Q (F0 m 1442 ls [])) : W p l e room_1 s m #[Value.ref b] below meth c H locs cells slots Q (F0 m 1149 ls []) := by
  obtain ⟨hx, hb, hr, hml, hown, hts, hX, hbl, hlocks, hgv⟩ := C0
  have hbA : ¬ (fun q : Nat => s.heap.size ≤ q) b := Nat.not_le.mpr hbl
  have F : CallFix p m c cL_law 4 s #[Value.ref b] tb R_law := ⟨hx, hb, hml, hown, fun w hw => hts w (List.mem_filter.mp hw).1⟩
  obtain ⟨tc, wc, M, L, r, hP, hS, hl⟩ := hI
  have h0 := e_await r (xs (x + 1).toNatClampNeg)
  have r1 := r.right h0.2.2.1 h0.2.2.2.1
  obtain ⟨he, tc1, wc1, r2⟩ := (e_await r1 (xs (x + 1).toNatClampNeg)).fin
  rw [kl_await] at r2
  refine lv_aload_n hx hb dL_law_1149 rfl (lv_at hl 1 rfl) ?_
  refine lv_aload_n hx hb dL_law_1150 rfl (lv_at hl 0 rfl) ?_
  refine lv_iload_n hx hb dL_law_1151 rfl (lv_at hl 3 rfl) ?_
  refine lv_iconst (v := 1) hx hb dL_law_1152 (by decide) ?_
  refine lv_iadd hx hb dL_law_1153 ?_
  refine va_sld hx hb hX hbl hbA hS h1 dL_law_1154 ?_
  refine l_iV (n := 1) F X hP hS [.int (xs (x + 1).toNatClampNeg)] [] (c_X7_await l E M L (xs (x + 1).toNatClampNeg) tc r.n.1 r.n.2.2.1) m_4_48 wi_X7_await rfl rfl (by decide) (by decide +kernel) ⟨Nat.le_of_ble_eq_true rfl, Nat.le_of_ble_eq_true rfl⟩ rfl hl rfl (Nat.le_of_ble_eq_true rfl) hcs dL_law_1155 (fun H locs hP hS => ?_)
  refine lv_aload_n hx hb dL_law_1158 rfl (lv_at hl 2 rfl) ?_
  refine lv_aload_n hx hb dL_law_1159 rfl (lv_at hl 0 rfl) ?_
  refine lv_iload_n hx hb dL_law_1160 rfl (lv_at hl 3 rfl) ?_
  refine lv_iconst (v := 1) hx hb dL_law_1161 (by decide) ?_
  refine lv_iadd hx hb dL_law_1162 ?_
  refine va_sld hx hb hX hbl hbA hS h1 dL_law_1163 ?_
  refine l_iV (n := 1) F X hP hS [.int (xs (x + 1).toNatClampNeg)] [_] (c_X8_await l E _ _ (xs (x + 1).toNatClampNeg) tc r1.n.2.1 r1.n.2.2.1) m_6_64 wi_X8_await rfl rfl (by decide) (by decide +kernel) ⟨Nat.le_of_ble_eq_true rfl, Nat.le_of_ble_eq_true rfl⟩ rfl hl rfl (Nat.le_of_ble_eq_true rfl) hcs dL_law_1164 (fun H locs hP hS => ?_)
  exact lv_icmp_eq (tgt := 1442) hx hb dL_law_1167 (by decide) (fun c9 => kk _ _ _ ⟨tc1, wc1, _, _, r2, hP, hS, hl⟩) (fun c9 => absurd he c9)
set_option maxHeartbeats 1000000 in
theorem lw_c27 {p : Program} {l : Launch} {e : Env} {s : State} {m : MethodId} {below : List Frame} {meth : Method} {c : Code} {b L0 cells slots : Nat} {xs : Nat → Int32} {E : fE} {H : Heap} {locs : List Loc} {ls : Array Slot} {Q : State → Prop} (C0 : lw_At p s m meth c b L0 xs) (X : lX E s) (hcs : cells ≤ room_1.cells ∧ slots ≤ room_1.slots) {x : Int32} (h1 : vp_in (x + 1) L0) (h2 : vp_in (x + 2) L0) (h3 : vp_in (x + 3) L0) (h4 : vp_in (x + 4) L0) (h5 : vp_in (x + 5) L0) (h6 : vp_in (x + 6) L0) (h7 : vp_in (x + 7) L0) (hI : lInv E s b x H locs ls)
    (kk : ∀ (H : Heap) (locs : List Loc) (ls : Array Slot), lInv E s b x H locs ls → W p l e room_1 s m #[Value.ref b] below meth c H locs cells slots Q (F0 m 1442 ls [])) : W p l e room_1 s m #[Value.ref b] below meth c H locs cells slots Q (F0 m 1172 ls []) := by
  obtain ⟨hx, hb, hr, hml, hown, hts, hX, hbl, hlocks, hgv⟩ := C0
  have hbA : ¬ (fun q : Nat => s.heap.size ≤ q) b := Nat.not_le.mpr hbl
  have F : CallFix p m c cL_law 4 s #[Value.ref b] tb R_law := ⟨hx, hb, hml, hown, fun w hw => hts w (List.mem_filter.mp hw).1⟩
  obtain ⟨tc, wc, M, L, r, hP, hS, hl⟩ := hI
  have h0 := e_judge r (xs (x + 1).toNatClampNeg) (xs (x + 2).toNatClampNeg)
  have r1 := r.right h0.2.2.1 h0.2.2.2.1
  obtain ⟨he, tc1, wc1, r2⟩ := (e_judge r1 (xs (x + 1).toNatClampNeg) (xs (x + 2).toNatClampNeg)).fin
  rw [kl_judge] at r2
  refine lv_aload_n hx hb dL_law_1172 rfl (lv_at hl 1 rfl) ?_
  refine lv_aload_n hx hb dL_law_1173 rfl (lv_at hl 0 rfl) ?_
  refine lv_iload_n hx hb dL_law_1174 rfl (lv_at hl 3 rfl) ?_
  refine lv_iconst (v := 1) hx hb dL_law_1175 (by decide) ?_
  refine lv_iadd hx hb dL_law_1176 ?_
  refine va_sld hx hb hX hbl hbA hS h1 dL_law_1177 ?_
  refine lv_aload_n hx hb dL_law_1178 rfl (lv_at hl 0 rfl) ?_
  refine lv_iload_n hx hb dL_law_1179 rfl (lv_at hl 3 rfl) ?_
  refine lv_iconst (v := 2) hx hb dL_law_1180 (by decide) ?_
  refine lv_iadd hx hb dL_law_1181 ?_
  refine va_sld hx hb hX hbl hbA hS h2 dL_law_1182 ?_
  refine l_iV (n := 2) F X hP hS [.int (xs (x + 1).toNatClampNeg), .int (xs (x + 2).toNatClampNeg)] [] (c_X7_judge l E M L (xs (x + 1).toNatClampNeg) (xs (x + 2).toNatClampNeg)) m_4_57 wi_X7_judge rfl rfl (by decide) (by decide +kernel) ⟨Nat.le_of_ble_eq_true rfl, Nat.le_of_ble_eq_true rfl⟩ rfl hl rfl (Nat.le_of_ble_eq_true rfl) hcs dL_law_1183 (fun H locs hP hS => ?_)
  refine lv_aload_n hx hb dL_law_1186 rfl (lv_at hl 2 rfl) ?_
  refine lv_aload_n hx hb dL_law_1187 rfl (lv_at hl 0 rfl) ?_
  refine lv_iload_n hx hb dL_law_1188 rfl (lv_at hl 3 rfl) ?_
  refine lv_iconst (v := 1) hx hb dL_law_1189 (by decide) ?_
  refine lv_iadd hx hb dL_law_1190 ?_
  refine va_sld hx hb hX hbl hbA hS h1 dL_law_1191 ?_
  refine lv_aload_n hx hb dL_law_1192 rfl (lv_at hl 0 rfl) ?_
  refine lv_iload_n hx hb dL_law_1193 rfl (lv_at hl 3 rfl) ?_
  refine lv_iconst (v := 2) hx hb dL_law_1194 (by decide) ?_
  refine lv_iadd hx hb dL_law_1195 ?_
  refine va_sld hx hb hX hbl hbA hS h2 dL_law_1196 ?_
  refine l_iV (n := 2) F X hP hS [.int (xs (x + 1).toNatClampNeg), .int (xs (x + 2).toNatClampNeg)] [_] (c_X8_judge l E _ _ (xs (x + 1).toNatClampNeg) (xs (x + 2).toNatClampNeg) tc r1.n.2.1 r1.n.2.2.1) m_6_72 wi_X8_judge rfl rfl (by decide) (by decide +kernel) ⟨Nat.le_of_ble_eq_true rfl, Nat.le_of_ble_eq_true rfl⟩ rfl hl rfl (Nat.le_of_ble_eq_true rfl) hcs dL_law_1197 (fun H locs hP hS => ?_)
  exact lv_icmp_eq (tgt := 1442) hx hb dL_law_1200 (by decide) (fun c9 => kk _ _ _ ⟨tc1, wc1, _, _, r2, hP, hS, hl⟩) (fun c9 => absurd he c9)
set_option maxHeartbeats 1000000 in
theorem lw_c28 {p : Program} {l : Launch} {e : Env} {s : State} {m : MethodId} {below : List Frame} {meth : Method} {c : Code} {b L0 cells slots : Nat} {xs : Nat → Int32} {E : fE} {H : Heap} {locs : List Loc} {ls : Array Slot} {Q : State → Prop} (C0 : lw_At p s m meth c b L0 xs) (X : lX E s) (hcs : cells ≤ room_1.cells ∧ slots ≤ room_1.slots) {x : Int32} (h1 : vp_in (x + 1) L0) (h2 : vp_in (x + 2) L0) (h3 : vp_in (x + 3) L0) (h4 : vp_in (x + 4) L0) (h5 : vp_in (x + 5) L0) (h6 : vp_in (x + 6) L0) (h7 : vp_in (x + 7) L0) (hI : lInv E s b x H locs ls)
    (kk : ∀ (H : Heap) (locs : List Loc) (ls : Array Slot), lInv E s b x H locs ls → W p l e room_1 s m #[Value.ref b] below meth c H locs cells slots Q (F0 m 1442 ls [])) : W p l e room_1 s m #[Value.ref b] below meth c H locs cells slots Q (F0 m 1205 ls []) := by
  obtain ⟨hx, hb, hr, hml, hown, hts, hX, hbl, hlocks, hgv⟩ := C0
  have hbA : ¬ (fun q : Nat => s.heap.size ≤ q) b := Nat.not_le.mpr hbl
  have F : CallFix p m c cL_law 4 s #[Value.ref b] tb R_law := ⟨hx, hb, hml, hown, fun w hw => hts w (List.mem_filter.mp hw).1⟩
  obtain ⟨tc, wc, M, L, r, hP, hS, hl⟩ := hI
  have h0 := e_behind r (xs (x + 1).toNatClampNeg) (xs (x + 2).toNatClampNeg) (xs (x + 3).toNatClampNeg)
  have r1 := r.right h0.2.2.1 h0.2.2.2.1
  obtain ⟨he, tc1, wc1, r2⟩ := (e_behind r1 (xs (x + 1).toNatClampNeg) (xs (x + 2).toNatClampNeg) (xs (x + 3).toNatClampNeg)).fin
  rw [kl_behind] at r2
  refine lv_aload_n hx hb dL_law_1205 rfl (lv_at hl 1 rfl) ?_
  refine lv_aload_n hx hb dL_law_1206 rfl (lv_at hl 0 rfl) ?_
  refine lv_iload_n hx hb dL_law_1207 rfl (lv_at hl 3 rfl) ?_
  refine lv_iconst (v := 1) hx hb dL_law_1208 (by decide) ?_
  refine lv_iadd hx hb dL_law_1209 ?_
  refine va_sld hx hb hX hbl hbA hS h1 dL_law_1210 ?_
  refine lv_aload_n hx hb dL_law_1211 rfl (lv_at hl 0 rfl) ?_
  refine lv_iload_n hx hb dL_law_1212 rfl (lv_at hl 3 rfl) ?_
  refine lv_iconst (v := 2) hx hb dL_law_1213 (by decide) ?_
  refine lv_iadd hx hb dL_law_1214 ?_
  refine va_sld hx hb hX hbl hbA hS h2 dL_law_1215 ?_
  refine lv_aload_n hx hb dL_law_1216 rfl (lv_at hl 0 rfl) ?_
  refine lv_iload_n hx hb dL_law_1217 rfl (lv_at hl 3 rfl) ?_
  refine lv_iconst (v := 3) hx hb dL_law_1218 (by decide) ?_
  refine lv_iadd hx hb dL_law_1219 ?_
  refine va_sld hx hb hX hbl hbA hS h3 dL_law_1220 ?_
  refine l_iV (n := 3) F X hP hS [.int (xs (x + 1).toNatClampNeg), .int (xs (x + 2).toNatClampNeg), .int (xs (x + 3).toNatClampNeg)] [] (c_X7_behind l E M L (xs (x + 1).toNatClampNeg) (xs (x + 2).toNatClampNeg) (xs (x + 3).toNatClampNeg)) m_4_75 wi_X7_behind rfl rfl (by decide) (by decide +kernel) ⟨Nat.le_of_ble_eq_true rfl, Nat.le_of_ble_eq_true rfl⟩ rfl hl rfl (Nat.le_of_ble_eq_true rfl) hcs dL_law_1221 (fun H locs hP hS => ?_)
  refine lv_aload_n hx hb dL_law_1224 rfl (lv_at hl 2 rfl) ?_
  refine lv_aload_n hx hb dL_law_1225 rfl (lv_at hl 0 rfl) ?_
  refine lv_iload_n hx hb dL_law_1226 rfl (lv_at hl 3 rfl) ?_
  refine lv_iconst (v := 1) hx hb dL_law_1227 (by decide) ?_
  refine lv_iadd hx hb dL_law_1228 ?_
  refine va_sld hx hb hX hbl hbA hS h1 dL_law_1229 ?_
  refine lv_aload_n hx hb dL_law_1230 rfl (lv_at hl 0 rfl) ?_
  refine lv_iload_n hx hb dL_law_1231 rfl (lv_at hl 3 rfl) ?_
  refine lv_iconst (v := 2) hx hb dL_law_1232 (by decide) ?_
  refine lv_iadd hx hb dL_law_1233 ?_
  refine va_sld hx hb hX hbl hbA hS h2 dL_law_1234 ?_
  refine lv_aload_n hx hb dL_law_1235 rfl (lv_at hl 0 rfl) ?_
  refine lv_iload_n hx hb dL_law_1236 rfl (lv_at hl 3 rfl) ?_
  refine lv_iconst (v := 3) hx hb dL_law_1237 (by decide) ?_
  refine lv_iadd hx hb dL_law_1238 ?_
  refine va_sld hx hb hX hbl hbA hS h3 dL_law_1239 ?_
  refine l_iV (n := 3) F X hP hS [.int (xs (x + 1).toNatClampNeg), .int (xs (x + 2).toNatClampNeg), .int (xs (x + 3).toNatClampNeg)] [_] (c_X8_behind l E _ _ (xs (x + 1).toNatClampNeg) (xs (x + 2).toNatClampNeg) (xs (x + 3).toNatClampNeg) tc r1.n.2.1 r1.n.2.2.1) m_6_84 wi_X8_behind rfl rfl (by decide) (by decide +kernel) ⟨Nat.le_of_ble_eq_true rfl, Nat.le_of_ble_eq_true rfl⟩ rfl hl rfl (Nat.le_of_ble_eq_true rfl) hcs dL_law_1240 (fun H locs hP hS => ?_)
  exact lv_icmp_eq (tgt := 1442) hx hb dL_law_1243 (by decide) (fun c9 => kk _ _ _ ⟨tc1, wc1, _, _, r2, hP, hS, hl⟩) (fun c9 => absurd he c9)
set_option maxHeartbeats 1000000 in
theorem lw_c29 {p : Program} {l : Launch} {e : Env} {s : State} {m : MethodId} {below : List Frame} {meth : Method} {c : Code} {b L0 cells slots : Nat} {xs : Nat → Int32} {E : fE} {H : Heap} {locs : List Loc} {ls : Array Slot} {Q : State → Prop} (C0 : lw_At p s m meth c b L0 xs) (X : lX E s) (hcs : cells ≤ room_1.cells ∧ slots ≤ room_1.slots) {x : Int32} (h1 : vp_in (x + 1) L0) (h2 : vp_in (x + 2) L0) (h3 : vp_in (x + 3) L0) (h4 : vp_in (x + 4) L0) (h5 : vp_in (x + 5) L0) (h6 : vp_in (x + 6) L0) (h7 : vp_in (x + 7) L0) (hI : lInv E s b x H locs ls)
    (kk : ∀ (H : Heap) (locs : List Loc) (ls : Array Slot), lInv E s b x H locs ls → W p l e room_1 s m #[Value.ref b] below meth c H locs cells slots Q (F0 m 1442 ls [])) : W p l e room_1 s m #[Value.ref b] below meth c H locs cells slots Q (F0 m 1248 ls []) := by
  obtain ⟨hx, hb, hr, hml, hown, hts, hX, hbl, hlocks, hgv⟩ := C0
  have hbA : ¬ (fun q : Nat => s.heap.size ≤ q) b := Nat.not_le.mpr hbl
  have F : CallFix p m c cL_law 4 s #[Value.ref b] tb R_law := ⟨hx, hb, hml, hown, fun w hw => hts w (List.mem_filter.mp hw).1⟩
  obtain ⟨tc, wc, M, L, r, hP, hS, hl⟩ := hI
  have h0 := e_done r (xs (x + 1).toNatClampNeg) (xs (x + 2).toNatClampNeg)
  have r1 := r.right h0.2.2.1 h0.2.2.2.1
  obtain ⟨he, tc1, wc1, r2⟩ := (e_done r1 (xs (x + 1).toNatClampNeg) (xs (x + 2).toNatClampNeg)).fin
  rw [kl_done] at r2
  refine lv_aload_n hx hb dL_law_1248 rfl (lv_at hl 1 rfl) ?_
  refine lv_aload_n hx hb dL_law_1249 rfl (lv_at hl 0 rfl) ?_
  refine lv_iload_n hx hb dL_law_1250 rfl (lv_at hl 3 rfl) ?_
  refine lv_iconst (v := 1) hx hb dL_law_1251 (by decide) ?_
  refine lv_iadd hx hb dL_law_1252 ?_
  refine va_sld hx hb hX hbl hbA hS h1 dL_law_1253 ?_
  refine lv_aload_n hx hb dL_law_1254 rfl (lv_at hl 0 rfl) ?_
  refine lv_iload_n hx hb dL_law_1255 rfl (lv_at hl 3 rfl) ?_
  refine lv_iconst (v := 2) hx hb dL_law_1256 (by decide) ?_
  refine lv_iadd hx hb dL_law_1257 ?_
  refine va_sld hx hb hX hbl hbA hS h2 dL_law_1258 ?_
  refine l_iV (n := 2) F X hP hS [.int (xs (x + 1).toNatClampNeg), .int (xs (x + 2).toNatClampNeg)] [] (c_X7_done l E M L (xs (x + 1).toNatClampNeg) (xs (x + 2).toNatClampNeg)) m_4_92 wi_X7_done rfl rfl (by decide) (by decide +kernel) ⟨Nat.le_of_ble_eq_true rfl, Nat.le_of_ble_eq_true rfl⟩ rfl hl rfl (Nat.le_of_ble_eq_true rfl) hcs dL_law_1259 (fun H locs hP hS => ?_)
  refine lv_aload_n hx hb dL_law_1262 rfl (lv_at hl 2 rfl) ?_
  refine lv_aload_n hx hb dL_law_1263 rfl (lv_at hl 0 rfl) ?_
  refine lv_iload_n hx hb dL_law_1264 rfl (lv_at hl 3 rfl) ?_
  refine lv_iconst (v := 1) hx hb dL_law_1265 (by decide) ?_
  refine lv_iadd hx hb dL_law_1266 ?_
  refine va_sld hx hb hX hbl hbA hS h1 dL_law_1267 ?_
  refine lv_aload_n hx hb dL_law_1268 rfl (lv_at hl 0 rfl) ?_
  refine lv_iload_n hx hb dL_law_1269 rfl (lv_at hl 3 rfl) ?_
  refine lv_iconst (v := 2) hx hb dL_law_1270 (by decide) ?_
  refine lv_iadd hx hb dL_law_1271 ?_
  refine va_sld hx hb hX hbl hbA hS h2 dL_law_1272 ?_
  refine l_iV (n := 2) F X hP hS [.int (xs (x + 1).toNatClampNeg), .int (xs (x + 2).toNatClampNeg)] [_] (c_X8_done l E _ _ (xs (x + 1).toNatClampNeg) (xs (x + 2).toNatClampNeg) tc r1.n.2.1 r1.n.2.2.1) m_6_88 wi_X8_done rfl rfl (by decide) (by decide +kernel) ⟨Nat.le_of_ble_eq_true rfl, Nat.le_of_ble_eq_true rfl⟩ rfl hl rfl (Nat.le_of_ble_eq_true rfl) hcs dL_law_1273 (fun H locs hP hS => ?_)
  exact lv_icmp_eq (tgt := 1442) hx hb dL_law_1276 (by decide) (fun c9 => kk _ _ _ ⟨tc1, wc1, _, _, r2, hP, hS, hl⟩) (fun c9 => absurd he c9)
set_option maxHeartbeats 1000000 in
theorem lw_c30 {p : Program} {l : Launch} {e : Env} {s : State} {m : MethodId} {below : List Frame} {meth : Method} {c : Code} {b L0 cells slots : Nat} {xs : Nat → Int32} {E : fE} {H : Heap} {locs : List Loc} {ls : Array Slot} {Q : State → Prop} (C0 : lw_At p s m meth c b L0 xs) (X : lX E s) (hcs : cells ≤ room_1.cells ∧ slots ≤ room_1.slots) {x : Int32} (h1 : vp_in (x + 1) L0) (h2 : vp_in (x + 2) L0) (h3 : vp_in (x + 3) L0) (h4 : vp_in (x + 4) L0) (h5 : vp_in (x + 5) L0) (h6 : vp_in (x + 6) L0) (h7 : vp_in (x + 7) L0) (hI : lInv E s b x H locs ls)
    (kk : ∀ (H : Heap) (locs : List Loc) (ls : Array Slot), lInv E s b x H locs ls → W p l e room_1 s m #[Value.ref b] below meth c H locs cells slots Q (F0 m 1442 ls [])) : W p l e room_1 s m #[Value.ref b] below meth c H locs cells slots Q (F0 m 1281 ls []) := by
  obtain ⟨hx, hb, hr, hml, hown, hts, hX, hbl, hlocks, hgv⟩ := C0
  have hbA : ¬ (fun q : Nat => s.heap.size ≤ q) b := Nat.not_le.mpr hbl
  have F : CallFix p m c cL_law 4 s #[Value.ref b] tb R_law := ⟨hx, hb, hml, hown, fun w hw => hts w (List.mem_filter.mp hw).1⟩
  obtain ⟨tc, wc, M, L, r, hP, hS, hl⟩ := hI
  have h0 := e_days r (xs (x + 1).toNatClampNeg)
  have r1 := r.right h0.2.2.1 h0.2.2.2.1
  obtain ⟨he, tc1, wc1, r2⟩ := (e_days r1 (xs (x + 1).toNatClampNeg)).fin
  rw [kl_days] at r2
  refine lv_aload_n hx hb dL_law_1281 rfl (lv_at hl 1 rfl) ?_
  refine lv_aload_n hx hb dL_law_1282 rfl (lv_at hl 0 rfl) ?_
  refine lv_iload_n hx hb dL_law_1283 rfl (lv_at hl 3 rfl) ?_
  refine lv_iconst (v := 1) hx hb dL_law_1284 (by decide) ?_
  refine lv_iadd hx hb dL_law_1285 ?_
  refine va_sld hx hb hX hbl hbA hS h1 dL_law_1286 ?_
  refine l_iV (n := 1) F X hP hS [.int (xs (x + 1).toNatClampNeg)] [] (c_X7_days l E M L (xs (x + 1).toNatClampNeg) tc wc r.n.1 r.n.2.2.1 r.n.2.2.2.1 r.n.2.2.2.2.2) m_4_96 wi_X7_days rfl rfl (by decide) (by decide +kernel) ⟨Nat.le_of_ble_eq_true rfl, Nat.le_of_ble_eq_true rfl⟩ rfl hl rfl (Nat.le_of_ble_eq_true rfl) hcs dL_law_1287 (fun H locs hP hS => ?_)
  refine lv_aload_n hx hb dL_law_1290 rfl (lv_at hl 2 rfl) ?_
  refine lv_aload_n hx hb dL_law_1291 rfl (lv_at hl 0 rfl) ?_
  refine lv_iload_n hx hb dL_law_1292 rfl (lv_at hl 3 rfl) ?_
  refine lv_iconst (v := 1) hx hb dL_law_1293 (by decide) ?_
  refine lv_iadd hx hb dL_law_1294 ?_
  refine va_sld hx hb hX hbl hbA hS h1 dL_law_1295 ?_
  refine l_iV (n := 1) F X hP hS [.int (xs (x + 1).toNatClampNeg)] [_] (c_X8_days l E _ _ (xs (x + 1).toNatClampNeg) tc wc r1.n.2.1 r1.n.2.2.1 r1.n.2.2.2.2.1 r1.n.2.2.2.2.2 (cs_hcs r1)) m_6_92 wi_X8_days rfl rfl (by decide) (by decide +kernel) ⟨Nat.le_of_ble_eq_true rfl, Nat.le_of_ble_eq_true rfl⟩ rfl hl rfl (Nat.le_of_ble_eq_true rfl) hcs dL_law_1296 (fun H locs hP hS => ?_)
  exact lv_icmp_eq (tgt := 1442) hx hb dL_law_1299 (by decide) (fun c9 => kk _ _ _ ⟨tc1, wc1, _, _, r2, hP, hS, hl⟩) (fun c9 => absurd he c9)
set_option maxHeartbeats 1000000 in
theorem lw_c31 {p : Program} {l : Launch} {e : Env} {s : State} {m : MethodId} {below : List Frame} {meth : Method} {c : Code} {b L0 cells slots : Nat} {xs : Nat → Int32} {E : fE} {H : Heap} {locs : List Loc} {ls : Array Slot} {Q : State → Prop} (C0 : lw_At p s m meth c b L0 xs) (X : lX E s) (hcs : cells ≤ room_1.cells ∧ slots ≤ room_1.slots) {x : Int32} (h1 : vp_in (x + 1) L0) (h2 : vp_in (x + 2) L0) (h3 : vp_in (x + 3) L0) (h4 : vp_in (x + 4) L0) (h5 : vp_in (x + 5) L0) (h6 : vp_in (x + 6) L0) (h7 : vp_in (x + 7) L0) (hI : lInv E s b x H locs ls)
    (kk : ∀ (H : Heap) (locs : List Loc) (ls : Array Slot), lInv E s b x H locs ls → W p l e room_1 s m #[Value.ref b] below meth c H locs cells slots Q (F0 m 1442 ls [])) : W p l e room_1 s m #[Value.ref b] below meth c H locs cells slots Q (F0 m 1304 ls []) := by
  obtain ⟨hx, hb, hr, hml, hown, hts, hX, hbl, hlocks, hgv⟩ := C0
  have hbA : ¬ (fun q : Nat => s.heap.size ≤ q) b := Nat.not_le.mpr hbl
  have F : CallFix p m c cL_law 4 s #[Value.ref b] tb R_law := ⟨hx, hb, hml, hown, fun w hw => hts w (List.mem_filter.mp hw).1⟩
  obtain ⟨tc, wc, M, L, r, hP, hS, hl⟩ := hI
  have h0 := e_seed r (xs (x + 1).toNatClampNeg)
  have r1 := r.right h0.2.2.1 h0.2.2.2.1
  obtain ⟨he, tc1, wc1, r2⟩ := (e_seed r1 (xs (x + 1).toNatClampNeg)).fin
  rw [kl_seed] at r2
  refine lv_aload_n hx hb dL_law_1304 rfl (lv_at hl 1 rfl) ?_
  refine lv_aload_n hx hb dL_law_1305 rfl (lv_at hl 0 rfl) ?_
  refine lv_iload_n hx hb dL_law_1306 rfl (lv_at hl 3 rfl) ?_
  refine lv_iconst (v := 1) hx hb dL_law_1307 (by decide) ?_
  refine lv_iadd hx hb dL_law_1308 ?_
  refine va_sld hx hb hX hbl hbA hS h1 dL_law_1309 ?_
  refine l_iV (n := 1) F X hP hS [.int (xs (x + 1).toNatClampNeg)] [] (c_X7_seed l E M L (xs (x + 1).toNatClampNeg)) m_4_109 wi_X7_seed rfl rfl (by decide) (by decide +kernel) ⟨Nat.le_of_ble_eq_true rfl, Nat.le_of_ble_eq_true rfl⟩ rfl hl rfl (Nat.le_of_ble_eq_true rfl) hcs dL_law_1310 (fun H locs hP hS => ?_)
  refine lv_aload_n hx hb dL_law_1313 rfl (lv_at hl 2 rfl) ?_
  refine lv_aload_n hx hb dL_law_1314 rfl (lv_at hl 0 rfl) ?_
  refine lv_iload_n hx hb dL_law_1315 rfl (lv_at hl 3 rfl) ?_
  refine lv_iconst (v := 1) hx hb dL_law_1316 (by decide) ?_
  refine lv_iadd hx hb dL_law_1317 ?_
  refine va_sld hx hb hX hbl hbA hS h1 dL_law_1318 ?_
  refine l_iV (n := 1) F X hP hS [.int (xs (x + 1).toNatClampNeg)] [_] (c_X8_seed l E _ _ (xs (x + 1).toNatClampNeg)) m_6_101 wi_X8_seed rfl rfl (by decide) (by decide +kernel) ⟨Nat.le_of_ble_eq_true rfl, Nat.le_of_ble_eq_true rfl⟩ rfl hl rfl (Nat.le_of_ble_eq_true rfl) hcs dL_law_1319 (fun H locs hP hS => ?_)
  exact lv_icmp_eq (tgt := 1442) hx hb dL_law_1322 (by decide) (fun c9 => kk _ _ _ ⟨tc1, wc1, _, _, r2, hP, hS, hl⟩) (fun c9 => absurd he c9)
set_option maxHeartbeats 1000000 in
theorem lw_c32 {p : Program} {l : Launch} {e : Env} {s : State} {m : MethodId} {below : List Frame} {meth : Method} {c : Code} {b L0 cells slots : Nat} {xs : Nat → Int32} {E : fE} {H : Heap} {locs : List Loc} {ls : Array Slot} {Q : State → Prop} (C0 : lw_At p s m meth c b L0 xs) (X : lX E s) (hcs : cells ≤ room_1.cells ∧ slots ≤ room_1.slots) {x : Int32} (h1 : vp_in (x + 1) L0) (h2 : vp_in (x + 2) L0) (h3 : vp_in (x + 3) L0) (h4 : vp_in (x + 4) L0) (h5 : vp_in (x + 5) L0) (h6 : vp_in (x + 6) L0) (h7 : vp_in (x + 7) L0) (hI : lInv E s b x H locs ls)
    (kk : ∀ (H : Heap) (locs : List Loc) (ls : Array Slot), lInv E s b x H locs ls → W p l e room_1 s m #[Value.ref b] below meth c H locs cells slots Q (F0 m 1442 ls [])) : W p l e room_1 s m #[Value.ref b] below meth c H locs cells slots Q (F0 m 1327 ls []) := by
  obtain ⟨hx, hb, hr, hml, hown, hts, hX, hbl, hlocks, hgv⟩ := C0
  have hbA : ¬ (fun q : Nat => s.heap.size ≤ q) b := Nat.not_le.mpr hbl
  have F : CallFix p m c cL_law 4 s #[Value.ref b] tb R_law := ⟨hx, hb, hml, hown, fun w hw => hts w (List.mem_filter.mp hw).1⟩
  obtain ⟨tc, wc, M, L, r, hP, hS, hl⟩ := hI
  have h0 := e_act r (xs (x + 1).toNatClampNeg) (xs (x + 2).toNatClampNeg) (xs (x + 3).toNatClampNeg)
  have r1 := r.right h0.2.2.1 h0.2.2.2.1
  obtain ⟨he, tc1, wc1, r2⟩ := (e_act r1 (xs (x + 1).toNatClampNeg) (xs (x + 2).toNatClampNeg) (xs (x + 3).toNatClampNeg)).fin
  rw [kl_act] at r2
  refine lv_aload_n hx hb dL_law_1327 rfl (lv_at hl 1 rfl) ?_
  refine lv_aload_n hx hb dL_law_1328 rfl (lv_at hl 0 rfl) ?_
  refine lv_iload_n hx hb dL_law_1329 rfl (lv_at hl 3 rfl) ?_
  refine lv_iconst (v := 1) hx hb dL_law_1330 (by decide) ?_
  refine lv_iadd hx hb dL_law_1331 ?_
  refine va_sld hx hb hX hbl hbA hS h1 dL_law_1332 ?_
  refine lv_aload_n hx hb dL_law_1333 rfl (lv_at hl 0 rfl) ?_
  refine lv_iload_n hx hb dL_law_1334 rfl (lv_at hl 3 rfl) ?_
  refine lv_iconst (v := 2) hx hb dL_law_1335 (by decide) ?_
  refine lv_iadd hx hb dL_law_1336 ?_
  refine va_sld hx hb hX hbl hbA hS h2 dL_law_1337 ?_
  refine lv_aload_n hx hb dL_law_1338 rfl (lv_at hl 0 rfl) ?_
  refine lv_iload_n hx hb dL_law_1339 rfl (lv_at hl 3 rfl) ?_
  refine lv_iconst (v := 3) hx hb dL_law_1340 (by decide) ?_
  refine lv_iadd hx hb dL_law_1341 ?_
  refine va_sld hx hb hX hbl hbA hS h3 dL_law_1342 ?_
  refine l_iV (n := 3) F X hP hS [.int (xs (x + 1).toNatClampNeg), .int (xs (x + 2).toNatClampNeg), .int (xs (x + 3).toNatClampNeg)] [] (c_X7_act l E M L (xs (x + 1).toNatClampNeg) (xs (x + 2).toNatClampNeg) (xs (x + 3).toNatClampNeg)) m_4_113 wi_X7_act rfl rfl (by decide) (by decide +kernel) ⟨Nat.le_of_ble_eq_true rfl, Nat.le_of_ble_eq_true rfl⟩ rfl hl rfl (Nat.le_of_ble_eq_true rfl) hcs dL_law_1343 (fun H locs hP hS => ?_)
  refine lv_aload_n hx hb dL_law_1346 rfl (lv_at hl 2 rfl) ?_
  refine lv_aload_n hx hb dL_law_1347 rfl (lv_at hl 0 rfl) ?_
  refine lv_iload_n hx hb dL_law_1348 rfl (lv_at hl 3 rfl) ?_
  refine lv_iconst (v := 1) hx hb dL_law_1349 (by decide) ?_
  refine lv_iadd hx hb dL_law_1350 ?_
  refine va_sld hx hb hX hbl hbA hS h1 dL_law_1351 ?_
  refine lv_aload_n hx hb dL_law_1352 rfl (lv_at hl 0 rfl) ?_
  refine lv_iload_n hx hb dL_law_1353 rfl (lv_at hl 3 rfl) ?_
  refine lv_iconst (v := 2) hx hb dL_law_1354 (by decide) ?_
  refine lv_iadd hx hb dL_law_1355 ?_
  refine va_sld hx hb hX hbl hbA hS h2 dL_law_1356 ?_
  refine lv_aload_n hx hb dL_law_1357 rfl (lv_at hl 0 rfl) ?_
  refine lv_iload_n hx hb dL_law_1358 rfl (lv_at hl 3 rfl) ?_
  refine lv_iconst (v := 3) hx hb dL_law_1359 (by decide) ?_
  refine lv_iadd hx hb dL_law_1360 ?_
  refine va_sld hx hb hX hbl hbA hS h3 dL_law_1361 ?_
  refine l_iV (n := 3) F X hP hS [.int (xs (x + 1).toNatClampNeg), .int (xs (x + 2).toNatClampNeg), .int (xs (x + 3).toNatClampNeg)] [_] (c_X8_act l E _ _ (xs (x + 1).toNatClampNeg) (xs (x + 2).toNatClampNeg) (xs (x + 3).toNatClampNeg) wc r1.n.2.2.2.2.1 r1.n.2.2.2.2.2) m_6_105 wi_X8_act rfl rfl (by decide) (by decide +kernel) ⟨Nat.le_of_ble_eq_true rfl, Nat.le_of_ble_eq_true rfl⟩ rfl hl rfl (Nat.le_of_ble_eq_true rfl) hcs dL_law_1362 (fun H locs hP hS => ?_)
  exact lv_icmp_eq (tgt := 1442) hx hb dL_law_1365 (by decide) (fun c9 => kk _ _ _ ⟨tc1, wc1, _, _, r2, hP, hS, hl⟩) (fun c9 => absurd he c9)
set_option maxHeartbeats 1000000 in
theorem lw_c33 {p : Program} {l : Launch} {e : Env} {s : State} {m : MethodId} {below : List Frame} {meth : Method} {c : Code} {b L0 cells slots : Nat} {xs : Nat → Int32} {E : fE} {H : Heap} {locs : List Loc} {ls : Array Slot} {Q : State → Prop} (C0 : lw_At p s m meth c b L0 xs) (X : lX E s) (hcs : cells ≤ room_1.cells ∧ slots ≤ room_1.slots) {x : Int32} (h1 : vp_in (x + 1) L0) (h2 : vp_in (x + 2) L0) (h3 : vp_in (x + 3) L0) (h4 : vp_in (x + 4) L0) (h5 : vp_in (x + 5) L0) (h6 : vp_in (x + 6) L0) (h7 : vp_in (x + 7) L0) (hI : lInv E s b x H locs ls)
    (kk : ∀ (H : Heap) (locs : List Loc) (ls : Array Slot), lInv E s b x H locs ls → W p l e room_1 s m #[Value.ref b] below meth c H locs cells slots Q (F0 m 1442 ls [])) : W p l e room_1 s m #[Value.ref b] below meth c H locs cells slots Q (F0 m 1370 ls []) := by
  obtain ⟨hx, hb, hr, hml, hown, hts, hX, hbl, hlocks, hgv⟩ := C0
  have hbA : ¬ (fun q : Nat => s.heap.size ≤ q) b := Nat.not_le.mpr hbl
  have F : CallFix p m c cL_law 4 s #[Value.ref b] tb R_law := ⟨hx, hb, hml, hown, fun w hw => hts w (List.mem_filter.mp hw).1⟩
  obtain ⟨tc, wc, M, L, r, hP, hS, hl⟩ := hI
  have h0 := e_trace r (xs (x + 1).toNatClampNeg)
  have r1 := r.right h0.2.2.1 h0.2.2.2.1
  obtain ⟨he, tc1, wc1, r2⟩ := (e_trace r1 (xs (x + 1).toNatClampNeg)).fin
  refine lv_aload_n hx hb dL_law_1370 rfl (lv_at hl 1 rfl) ?_
  refine lv_aload_n hx hb dL_law_1371 rfl (lv_at hl 0 rfl) ?_
  refine lv_iload_n hx hb dL_law_1372 rfl (lv_at hl 3 rfl) ?_
  refine lv_iconst (v := 1) hx hb dL_law_1373 (by decide) ?_
  refine lv_iadd hx hb dL_law_1374 ?_
  refine va_sld hx hb hX hbl hbA hS h1 dL_law_1375 ?_
  refine l_iV (n := 1) F X hP hS [.int (xs (x + 1).toNatClampNeg)] [] (c_X7_trace l E M L (xs (x + 1).toNatClampNeg)) m_4_148 wi_X7_trace rfl rfl (by decide) (by decide +kernel) ⟨Nat.le_of_ble_eq_true rfl, Nat.le_of_ble_eq_true rfl⟩ rfl hl rfl (Nat.le_of_ble_eq_true rfl) hcs dL_law_1376 (fun H locs hP hS => ?_)
  refine lv_aload_n hx hb dL_law_1379 rfl (lv_at hl 2 rfl) ?_
  refine lv_aload_n hx hb dL_law_1380 rfl (lv_at hl 0 rfl) ?_
  refine lv_iload_n hx hb dL_law_1381 rfl (lv_at hl 3 rfl) ?_
  refine lv_iconst (v := 1) hx hb dL_law_1382 (by decide) ?_
  refine lv_iadd hx hb dL_law_1383 ?_
  refine va_sld hx hb hX hbl hbA hS h1 dL_law_1384 ?_
  refine l_iV (n := 1) F X hP hS [.int (xs (x + 1).toNatClampNeg)] [_] (c_X8_trace l E _ _ (xs (x + 1).toNatClampNeg)) m_6_125 wi_X8_trace rfl rfl (by decide) (by decide +kernel) ⟨Nat.le_of_ble_eq_true rfl, Nat.le_of_ble_eq_true rfl⟩ rfl hl rfl (Nat.le_of_ble_eq_true rfl) hcs dL_law_1385 (fun H locs hP hS => ?_)
  exact lv_icmp_eq (tgt := 1442) hx hb dL_law_1388 (by decide) (fun c9 => kk _ _ _ ⟨tc1, wc1, _, _, r2, hP, hS, hl⟩) (fun c9 => absurd he c9)
set_option maxHeartbeats 1000000 in
theorem lw_c34 {p : Program} {l : Launch} {e : Env} {s : State} {m : MethodId} {below : List Frame} {meth : Method} {c : Code} {b L0 cells slots : Nat} {xs : Nat → Int32} {E : fE} {H : Heap} {locs : List Loc} {ls : Array Slot} {Q : State → Prop} (C0 : lw_At p s m meth c b L0 xs) (X : lX E s) (hcs : cells ≤ room_1.cells ∧ slots ≤ room_1.slots) {x : Int32} (h1 : vp_in (x + 1) L0) (h2 : vp_in (x + 2) L0) (h3 : vp_in (x + 3) L0) (h4 : vp_in (x + 4) L0) (h5 : vp_in (x + 5) L0) (h6 : vp_in (x + 6) L0) (h7 : vp_in (x + 7) L0) (hI : lInv E s b x H locs ls)
    (kk : ∀ (H : Heap) (locs : List Loc) (ls : Array Slot), lInv E s b x H locs ls → W p l e room_1 s m #[Value.ref b] below meth c H locs cells slots Q (F0 m 1442 ls [])) : W p l e room_1 s m #[Value.ref b] below meth c H locs cells slots Q (F0 m 1393 ls []) := by
  obtain ⟨hx, hb, hr, hml, hown, hts, hX, hbl, hlocks, hgv⟩ := C0
  have hbA : ¬ (fun q : Nat => s.heap.size ≤ q) b := Nat.not_le.mpr hbl
  have F : CallFix p m c cL_law 4 s #[Value.ref b] tb R_law := ⟨hx, hb, hml, hown, fun w hw => hts w (List.mem_filter.mp hw).1⟩
  obtain ⟨tc, wc, M, L, r, hP, hS, hl⟩ := hI
  have h0 := e_image r 
  have r1 := r.right h0.2.2.1 h0.2.2.2.1
  obtain ⟨he, tc1, wc1, r2⟩ := (e_image r1 ).fin
  rw [kl_image] at r2
  refine lv_aload_n hx hb dL_law_1393 rfl (lv_at hl 1 rfl) ?_
  refine l_iV (n := 0) F X hP hS [] [] (c_X7_image l E M L ) m_4_156 wi_X7_image rfl rfl (by decide) (by decide +kernel) ⟨Nat.le_of_ble_eq_true rfl, Nat.le_of_ble_eq_true rfl⟩ rfl hl rfl (Nat.le_of_ble_eq_true rfl) hcs dL_law_1394 (fun H locs hP hS => ?_)
  refine lv_aload_n hx hb dL_law_1397 rfl (lv_at hl 2 rfl) ?_
  refine l_iV (n := 0) F X hP hS [] [_] (c_X8_image l E _ _ ) m_6_129 wi_X8_image rfl rfl (by decide) (by decide +kernel) ⟨Nat.le_of_ble_eq_true rfl, Nat.le_of_ble_eq_true rfl⟩ rfl hl rfl (Nat.le_of_ble_eq_true rfl) hcs dL_law_1398 (fun H locs hP hS => ?_)
  exact lv_icmp_eq (tgt := 1442) hx hb dL_law_1401 (by decide) (fun c9 => kk _ _ _ ⟨tc1, wc1, _, _, r2, hP, hS, hl⟩) (fun c9 => absurd he c9)
set_option maxHeartbeats 1000000 in
theorem lw_c35 {p : Program} {l : Launch} {e : Env} {s : State} {m : MethodId} {below : List Frame} {meth : Method} {c : Code} {b L0 cells slots : Nat} {xs : Nat → Int32} {E : fE} {H : Heap} {locs : List Loc} {ls : Array Slot} {Q : State → Prop} (C0 : lw_At p s m meth c b L0 xs) (X : lX E s) (hcs : cells ≤ room_1.cells ∧ slots ≤ room_1.slots) {x : Int32} (h1 : vp_in (x + 1) L0) (h2 : vp_in (x + 2) L0) (h3 : vp_in (x + 3) L0) (h4 : vp_in (x + 4) L0) (h5 : vp_in (x + 5) L0) (h6 : vp_in (x + 6) L0) (h7 : vp_in (x + 7) L0) (hI : lInv E s b x H locs ls)
    (kk : ∀ (H : Heap) (locs : List Loc) (ls : Array Slot), lInv E s b x H locs ls → W p l e room_1 s m #[Value.ref b] below meth c H locs cells slots Q (F0 m 1442 ls [])) : W p l e room_1 s m #[Value.ref b] below meth c H locs cells slots Q (F0 m 1406 ls []) := by
  obtain ⟨hx, hb, hr, hml, hown, hts, hX, hbl, hlocks, hgv⟩ := C0
  have hbA : ¬ (fun q : Nat => s.heap.size ≤ q) b := Nat.not_le.mpr hbl
  have F : CallFix p m c cL_law 4 s #[Value.ref b] tb R_law := ⟨hx, hb, hml, hown, fun w hw => hts w (List.mem_filter.mp hw).1⟩
  obtain ⟨tc, wc, M, L, r, hP, hS, hl⟩ := hI
  have h0 := e_restore r 
  have r1 := r.right h0.2.2.1 h0.2.2.2.1
  obtain ⟨he, tc1, wc1, r2⟩ := (e_restore r1 ).fin
  rw [kl_restore] at r2
  refine lv_aload_n hx hb dL_law_1406 rfl (lv_at hl 1 rfl) ?_
  refine l_iV (n := 0) F X hP hS [] [] (c_X7_restore l E M L ) m_4_160 wi_X7_restore rfl rfl (by decide) (by decide +kernel) ⟨Nat.le_of_ble_eq_true rfl, Nat.le_of_ble_eq_true rfl⟩ rfl hl rfl (Nat.le_of_ble_eq_true rfl) hcs dL_law_1407 (fun H locs hP hS => ?_)
  refine lv_aload_n hx hb dL_law_1410 rfl (lv_at hl 2 rfl) ?_
  refine l_iV (n := 0) F X hP hS [] [_] (c_X8_restore l E _ _ ) m_6_133 wi_X8_restore rfl rfl (by decide) (by decide +kernel) ⟨Nat.le_of_ble_eq_true rfl, Nat.le_of_ble_eq_true rfl⟩ rfl hl rfl (Nat.le_of_ble_eq_true rfl) hcs dL_law_1411 (fun H locs hP hS => ?_)
  exact lv_icmp_eq (tgt := 1442) hx hb dL_law_1414 (by decide) (fun c9 => kk _ _ _ ⟨tc1, wc1, _, _, r2, hP, hS, hl⟩) (fun c9 => absurd he c9)
set_option maxHeartbeats 1000000 in
theorem lw_c36 {p : Program} {l : Launch} {e : Env} {s : State} {m : MethodId} {below : List Frame} {meth : Method} {c : Code} {b L0 cells slots : Nat} {xs : Nat → Int32} {E : fE} {H : Heap} {locs : List Loc} {ls : Array Slot} {Q : State → Prop} (C0 : lw_At p s m meth c b L0 xs) (X : lX E s) (hcs : cells ≤ room_1.cells ∧ slots ≤ room_1.slots) {x : Int32} (h1 : vp_in (x + 1) L0) (h2 : vp_in (x + 2) L0) (h3 : vp_in (x + 3) L0) (h4 : vp_in (x + 4) L0) (h5 : vp_in (x + 5) L0) (h6 : vp_in (x + 6) L0) (h7 : vp_in (x + 7) L0) (hI : lInv E s b x H locs ls)
    (kk : ∀ (H : Heap) (locs : List Loc) (ls : Array Slot), lInv E s b x H locs ls → W p l e room_1 s m #[Value.ref b] below meth c H locs cells slots Q (F0 m 1442 ls [])) : W p l e room_1 s m #[Value.ref b] below meth c H locs cells slots Q (F0 m 1419 ls []) := by
  obtain ⟨hx, hb, hr, hml, hown, hts, hX, hbl, hlocks, hgv⟩ := C0
  have hbA : ¬ (fun q : Nat => s.heap.size ≤ q) b := Nat.not_le.mpr hbl
  have F : CallFix p m c cL_law 4 s #[Value.ref b] tb R_law := ⟨hx, hb, hml, hown, fun w hw => hts w (List.mem_filter.mp hw).1⟩
  obtain ⟨tc, wc, M, L, r, hP, hS, hl⟩ := hI
  have h0 := e_status r (xs (x + 1).toNatClampNeg)
  have r1 := r.right h0.2.2.1 h0.2.2.2.1
  obtain ⟨he, tc1, wc1, r2⟩ := (e_status r1 (xs (x + 1).toNatClampNeg)).fin
  refine lv_aload_n hx hb dL_law_1419 rfl (lv_at hl 1 rfl) ?_
  refine lv_aload_n hx hb dL_law_1420 rfl (lv_at hl 0 rfl) ?_
  refine lv_iload_n hx hb dL_law_1421 rfl (lv_at hl 3 rfl) ?_
  refine lv_iconst (v := 1) hx hb dL_law_1422 (by decide) ?_
  refine lv_iadd hx hb dL_law_1423 ?_
  refine va_sld hx hb hX hbl hbA hS h1 dL_law_1424 ?_
  refine l_iV (n := 1) F X hP hS [.int (xs (x + 1).toNatClampNeg)] [] (c_X7_status l E M L (xs (x + 1).toNatClampNeg)) m_4_164 wi_X7_status rfl rfl (by decide) (by decide +kernel) ⟨Nat.le_of_ble_eq_true rfl, Nat.le_of_ble_eq_true rfl⟩ rfl hl rfl (Nat.le_of_ble_eq_true rfl) hcs dL_law_1425 (fun H locs hP hS => ?_)
  refine lv_aload_n hx hb dL_law_1428 rfl (lv_at hl 2 rfl) ?_
  refine lv_aload_n hx hb dL_law_1429 rfl (lv_at hl 0 rfl) ?_
  refine lv_iload_n hx hb dL_law_1430 rfl (lv_at hl 3 rfl) ?_
  refine lv_iconst (v := 1) hx hb dL_law_1431 (by decide) ?_
  refine lv_iadd hx hb dL_law_1432 ?_
  refine va_sld hx hb hX hbl hbA hS h1 dL_law_1433 ?_
  refine l_iV (n := 1) F X hP hS [.int (xs (x + 1).toNatClampNeg)] [_] (c_X8_status l E _ _ (xs (x + 1).toNatClampNeg)) m_6_137 wi_X8_status rfl rfl (by decide) (by decide +kernel) ⟨Nat.le_of_ble_eq_true rfl, Nat.le_of_ble_eq_true rfl⟩ rfl hl rfl (Nat.le_of_ble_eq_true rfl) hcs dL_law_1434 (fun H locs hP hS => ?_)
  exact lv_icmp_eq (tgt := 1442) hx hb dL_law_1437 (by decide) (fun c9 => kk _ _ _ ⟨tc1, wc1, _, _, r2, hP, hS, hl⟩) (fun c9 => absurd he c9)
