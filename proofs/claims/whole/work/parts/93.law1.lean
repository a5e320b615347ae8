/-! THE LAW: class and reference side by side; a call out of the law's body -/
section LW
variable {p : Program} {l : Launch} {e : Env} {R : Room} {s : State} {m : MethodId} {args : Array Value} {below : List Frame} {meth : Method} {c : Code} {H : Heap} {locs : List Loc} {cells slots : Nat} {Q : State → Prop}
variable {cc : ByteArray} {pc nL : Nat} {ls : Array Slot} {rest : List Value} {own : String} {E : fE} {M : Nat → Nat → Int32} {L : Nat → Nat → Int64}
/-- class and reference are made: their cells stand behind all that was there at the law's start -/
def lX (E : fE) (s : State) : Prop := fK E s ∧ fInj E ∧ fSt E s s.heap ∧ ∀ q, fA E q → s.heap.size ≤ q
theorem fSt.warmL {U : State} (h : fSt E s s.heap) (hS : va_S (fun q : Nat => s.heap.size ≤ q) s.heap H locs) (hU : U.heap = H) (hW : s.WarmedH U.vm) : fSt E U U.heap := by
  obtain ⟨h1, h2, h3, h4, h5, h6, h7, ⟨g1, g2, g3, g4⟩, n1, n2, n3, n4, n5⟩ := h
  have ha := hW.alike
  rw [hU]
  exact ⟨(va_Z.moved ha h1).kept (fun q hq _ => hS.2.1 q hq (Nat.not_le.mpr hq)), (va_T.moved ha h2).kept (fun q hq _ => hS.2.1 q hq (Nat.not_le.mpr hq)), (va_Z.moved ha h3).kept (fun q hq _ => hS.2.1 q hq (Nat.not_le.mpr hq)), (va_T.moved ha h4).kept (fun q hq _ => hS.2.1 q hq (Nat.not_le.mpr hq)), (va_Z.moved ha h5).kept (fun q hq _ => hS.2.1 q hq (Nat.not_le.mpr hq)), (va_Zq.moved ha h6).kept (fun q hq _ => hS.2.1 q hq (Nat.not_le.mpr hq)), (vk_S.moved ha h7).kept (fun q hq _ => hS.2.1 q hq (Nat.not_le.mpr hq)), ⟨g1.warm hW, g2.warm hW, g3.warm hW, g4.warm hW⟩, va_Nw.warmM hW n1, va_Nw.warmM hW n2, va_Nw.warmM hW n3, va_Nw.warmM hW n4, va_Nw.warmF hW n5⟩
theorem lPreV (X : lX E s) (hP : fP E M L H) (hS : va_S (fun q : Nat => s.heap.size ≤ q) s.heap H locs) {C : String} {T : u_T} {N ci k : Nat} (hk : fsh k = ci) (hc : vwCl[ci]? = some (C, T, N)) (hci : ci < 9) (As : List Value) : PreV s H C (fad E k) (va_Pc (.ref (fad E k) :: As) (fPre E M L)) As :=
  ⟨fBlind _, va_recv X.1 hP hc (q0 := k) (fs := fobj E M ci k) (by rw [fW_at E M L (fsh_lt hk (by omega)), fcell_obj E M L hk hci]), fun U hU hW => ⟨rfl, by rw [hU]; exact hP, va_K.moved hW.alike X.1, X.2.1, X.2.2.1.warmL hS hU hW⟩⟩
theorem l_iG (F : CallFix p m c cc nL s args tb own) (X : lX E s) (hP : fP E M L H) (hS : va_S (fun q : Nat => s.heap.size ≤ q) s.heap H locs) {y : MethodName} {bytes : ByteArray} {maxL lo fr n index ci k : Nat} {ret : Option FieldType} {C : String} {TT : u_T} {N : Nat} (As rest : List Value) {st : List Value} {post : Int32 → fM → Prop} {lv : List (Nat × Value)}
    (hM : Met l y (wl y bytes maxL ret) (fRm fr lo) (va_Pc (.ref (fad E k) :: As) (fPre E M L)) (fQi E post) 0 0 (fA E)) (hl : Cond.methodLink own index y ∈ tb) (hw : fWI y bytes maxL ret) (hk : fsh k = ci) (hc : vwCl[ci]? = some (C, TT, N)) (hci : ci < 9)
    (hd : y.cls = C ∧ y.cls ≠ "java/lang/invoke/MethodHandle" ∧ y.cls ≠ "java/lang/invoke/VarHandle" ∧ (parseMethodDescriptor y.desc).map (fun d => d.parameters.length) = some n) (hR : fr + 1 ≤ R.frames ∧ 8 + (maxL + 11) + lo ≤ R.locals) (hn : As.length = n) (hls : lv_has ls nL lv) (hst : st = As.reverse ++ .ref (fad E k) :: rest) (hrm : (rest.map fun v => v.category).sum ≤ 8) (hcs : cells ≤ R.cells ∧ slots ≤ R.slots) (hdg : decode cc pc = .ok (.invokevirtual index, 3))
    (kk : ∀ (r : Int32) (M1 : Nat → Nat → Int32) (L1 : Nat → Nat → Int64) (H1 : Heap) (locs1 : List Loc), post r (M1, L1) → fP E M1 L1 H1 → va_S (fun q : Nat => s.heap.size ≤ q) s.heap H1 locs1 → W p l e R s m args below meth c H1 locs1 cells slots Q (F0 m (pc + 3) ls (.int r :: rest))) : W p l e R s m args below meth c H locs cells slots Q (F0 m pc ls st) :=
  va_calli (va_runV (As := As) (rest := rest) F hM (cwV n F.2.2.2.2 (hd.1 ▸ gV hl hw) rfl rfl rfl hd hR) (lPreV X hP hS hk hc hci As) rfl hn hls.1 hst (lv_room hrm) hdg hcs) hS (fun q _ h => X.2.2.2 q h) (fun q h => X.2.2.2 q h) (fun r u t H1 locs1 ht _ hp hb _ _ hS1 => kk r u.1 u.2 H1 locs1 hp (ht ▸ hb) hS1)
theorem l_iV (F : CallFix p m c cc nL s args tb own) (X : lX E s) (hP : fP E M L H) (hS : va_S (fun q : Nat => s.heap.size ≤ q) s.heap H locs) {y : MethodName} {bytes : ByteArray} {maxL lo fr n index ci k : Nat} {ret : Option FieldType} {C : String} {TT : u_T} {N : Nat} (As rest : List Value) {st : List Value} {v : Int32} {M1 : Nat → Nat → Int32} {L1 : Nat → Nat → Int64} {lv : List (Nat × Value)}
    (hM : Met l y (wl y bytes maxL ret) (fRm fr lo) (va_Pc (.ref (fad E k) :: As) (fPre E M L)) (fQi E (fun r u => u = (M1, L1) ∧ r = v)) 0 0 (fA E)) (hl : Cond.methodLink own index y ∈ tb) (hw : fWI y bytes maxL ret) (hk : fsh k = ci) (hc : vwCl[ci]? = some (C, TT, N)) (hci : ci < 9)
    (hd : y.cls = C ∧ y.cls ≠ "java/lang/invoke/MethodHandle" ∧ y.cls ≠ "java/lang/invoke/VarHandle" ∧ (parseMethodDescriptor y.desc).map (fun d => d.parameters.length) = some n) (hR : fr + 1 ≤ R.frames ∧ 8 + (maxL + 11) + lo ≤ R.locals) (hn : As.length = n) (hls : lv_has ls nL lv) (hst : st = As.reverse ++ .ref (fad E k) :: rest) (hrm : (rest.map fun v => v.category).sum ≤ 8) (hcs : cells ≤ R.cells ∧ slots ≤ R.slots) (hdg : decode cc pc = .ok (.invokevirtual index, 3))
    (kk : ∀ (H1 : Heap) (locs1 : List Loc), fP E M1 L1 H1 → va_S (fun q : Nat => s.heap.size ≤ q) s.heap H1 locs1 → W p l e R s m args below meth c H1 locs1 cells slots Q (F0 m (pc + 3) ls (.int v :: rest))) : W p l e R s m args below meth c H locs cells slots Q (F0 m pc ls st) :=
  l_iG F X hP hS As rest hM hl hw hk hc hci hd hR hn hls hst hrm hcs hdg (fun r M2 L2 H1 locs1 hp hP1 hS1 => by
    obtain ⟨h1, rfl⟩ := hp
    cases h1
    exact kk H1 locs1 hP1 hS1)
theorem l_lV (F : CallFix p m c cc nL s args tb own) (X : lX E s) (hP : fP E M L H) (hS : va_S (fun q : Nat => s.heap.size ≤ q) s.heap H locs) {y : MethodName} {bytes : ByteArray} {maxL lo fr n index ci k : Nat} {ret : Option FieldType} {C : String} {TT : u_T} {N : Nat} (As rest : List Value) {st : List Value} {v : Int64} {M1 : Nat → Nat → Int32} {L1 : Nat → Nat → Int64} {lv : List (Nat × Value)}
    (hM : Met l y (wl y bytes maxL ret) (fRm fr lo) (va_Pc (.ref (fad E k) :: As) (fPre E M L)) (fQl E (fun r u => u = (M1, L1) ∧ r = v)) 0 0 (fA E)) (hl : Cond.methodLink own index y ∈ tb) (hw : fWI y bytes maxL ret) (hk : fsh k = ci) (hc : vwCl[ci]? = some (C, TT, N)) (hci : ci < 9)
    (hd : y.cls = C ∧ y.cls ≠ "java/lang/invoke/MethodHandle" ∧ y.cls ≠ "java/lang/invoke/VarHandle" ∧ (parseMethodDescriptor y.desc).map (fun d => d.parameters.length) = some n) (hR : fr + 1 ≤ R.frames ∧ 8 + (maxL + 11) + lo ≤ R.locals) (hn : As.length = n) (hls : lv_has ls nL lv) (hst : st = As.reverse ++ .ref (fad E k) :: rest) (hrm : (rest.map fun v => v.category).sum ≤ 8) (hcs : cells ≤ R.cells ∧ slots ≤ R.slots) (hdg : decode cc pc = .ok (.invokevirtual index, 3))
    (kk : ∀ (H1 : Heap) (locs1 : List Loc), fP E M1 L1 H1 → va_S (fun q : Nat => s.heap.size ≤ q) s.heap H1 locs1 → W p l e R s m args below meth c H1 locs1 cells slots Q (F0 m (pc + 3) ls (.long v :: rest))) : W p l e R s m args below meth c H locs cells slots Q (F0 m pc ls st) :=
  va_calll (va_runV (As := As) (rest := rest) F hM (cwV n F.2.2.2.2 (hd.1 ▸ gV hl hw) rfl rfl rfl hd hR) (lPreV X hP hS hk hc hci As) rfl hn hls.1 hst (lv_room hrm) hdg hcs) hS (fun q _ h => X.2.2.2 q h) (fun q h => X.2.2.2 q h) (fun r u t H1 locs1 ht _ hp hb _ _ hS1 => by
    obtain ⟨h1, rfl⟩ := hp
    obtain ⟨u1, u2⟩ := u
    cases h1
    exact kk H1 locs1 (ht ▸ hb) hS1)
/-- both have answered: what holds behind -/
theorem Ok.fin {R : Type} {x y : R × fM} (h : Ok M L x.2.1 x.2.2 x y) : x.1 = y.1 ∧ ∃ tc wc, Rl tc wc y.2.1 y.2.2 y.2.1 y.2.2 := by
  obtain ⟨h1, ⟨tc, wc, rl⟩, -, -, h5, h6⟩ := h
  exact ⟨h1, tc, wc, rl.left h5 h6⟩
theorem ite22 {P : Prop} [Decidable P] {a b : fR} {K : Nat → Nat → Int64} (ha : a.2.2 = K) (hb : b.2.2 = K) : (if P then a else b).2.2 = K := by
  split
  · exact ha
  · exact hb
/-- the law's loop stands at its head, class and reference alike -/
def lInv (E : fE) (s : State) (b : Nat) (x : Int32) (H : Heap) (locs : List Loc) (ls : Array Slot) : Prop :=
  ∃ tc wc, ∃ (M : Nat → Nat → Int32) (L : Nat → Nat → Int64), Rl tc wc M L M L ∧ fP E M L H ∧ va_S (fun q : Nat => s.heap.size ≤ q) s.heap H locs ∧ lv_has ls 4 [(0, .ref b), (1, .ref (fad E 0)), (2, .ref (fad E 86)), (3, .int x)]
theorem cs_hzz {tc wc : Nat} {N : Nat → Nat → Int32} {K : Nat → Nat → Int64} (r : Rl tc wc M L N K) : ∀ s, s < 8 → 0 ≤ N 102 s ∧ N 102 s ≤ 160 := fun s hs => (r.h s hs).2.1
theorem cs_szOK {tc wc : Nat} {N : Nat → Nat → Int32} {K : Nat → Nat → Int64} (r : Rl tc wc M L N K) : szOK M := fun s hs => (r.h s hs).1
theorem cs_hsh {tc wc : Nat} {N : Nat → Nat → Int32} {K : Nat → Nat → Int64} (r : Rl tc wc M L N K) : ∀ s, s < 8 → N 100 s = 0 ∨ N 100 s = 1 ∨ (0 ≤ N 103 s ∧ N 103 s < N 86 0) := fun s hs => by
  obtain ⟨-, -, ⟨-, e, -⟩ | ⟨e, -⟩ | ⟨-, e, h0, h1, -⟩⟩ := r.h s hs
  · exact Or.inl e
  · exact Or.inr (Or.inl e)
  · refine Or.inr (Or.inr ?_)
    rw [e, r.n.2.2.2.2.1]
    exact ⟨h0, h1⟩
end LW
