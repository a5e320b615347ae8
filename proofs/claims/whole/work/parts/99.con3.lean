/-! THE CONSTRUCTORS, on -/
def bX3 (cy : Nat → ClassId) (h0 : Nat) (ad : Nat → Nat) : va_W := [(h0, .inr (3, [.ref (ad 1), .int 0])), ((ad 1), .inl (cy 5, 7, .inr (.inr (.inr (.inr (fun i => ([(ad 2), (ad 3), (ad 4), (ad 5), (ad 6), (ad 7), (ad 8)] : List Nat)[i]?)))))), ((ad 2), .inl (cy 0, 25, .inl (fun _ => 0))), ((ad 3), .inl (cy 0, 25, .inl (fun _ => 0))), ((ad 4), .inl (cy 0, 25, .inl (fun _ => 0))), ((ad 5), .inl (cy 0, 25, .inl (fun _ => 0))), ((ad 6), .inl (cy 0, 25, .inl (fun _ => 0))), ((ad 7), .inl (cy 0, 25, .inl (fun _ => 0))), ((ad 8), .inl (cy 0, 25, .inl (fun _ => 0)))]
set_option maxHeartbeats 4000000 in
set_option maxRecDepth 100000 in
theorem c_X3_init (l : Launch) (D : va_G) (cy : Nat → ClassId) (sz h0 : Nat) : Met l yX3_init (wl yX3_init cX3_init 1 none) { frames := 1, cells := 8, slots := 182, locals := 12 } (va_Pc [.ref h0] (iPre D cy sz h0 (.inr (3, [.null, .int 0])))) (iQ D sz h0 (.inr (3, [.null, .int 0])) (bX3 cy h0)) 8 182 (va_A [(h0, .inr (3, [.null, .int 0]))] sz) := by
  refine Met.ofW (cc := cX3_init) (maxL := 1) (ret := none) (by decide) rfl ?_
  intro p e s m args below meth c s₁ B hml hv
  obtain ⟨rfl, hsz, hP, hK, hD0, hN⟩ := hv
  have hx := B.exec
  have hb := B.bytes
  have hr := B.returns
  have hts := atoms_spec (ws := wl yX3_init cX3_init 1 none) B.pre
  have hown : s.vm.findClass RX3 = some m.cls := findClass_of_methodNamed B.named
  have hin : meth.name = "<init>" := (name_of_methodNamed B.named B.method).1
  have F : CallFix p m c cX3_init 1 s ([.ref h0] : List Value).toArray tb RX3 := ⟨hx, hb, hml, hown, fun w hw => hts w (List.mem_cons_of_mem _ hw)⟩
  subst hsz
  have hD := hD0.self (sz := s.heap.size)
  generalize hAe : va_A [(h0, .inr (3, [.null, .int 0]))] s.heap.size = A at hD ⊢
  have hA : ∀ q : Nat, s.heap.size ≤ q → A q := fun q h => by rw [← hAe]; exact Or.inr h
  have hS : va_S A s.heap s.heap [] := va_S.rf
  have hP : va_P D vwCl [(h0, .inr (3, [.null, .int 0]))] s.heap := hP
  have hl := lv_entry ([.ref h0]) (n := 1) (Nat.le_of_ble_eq_true rfl)
  rw [lg_entry_eq]
  generalize (lg_sl ([.ref h0]) ++ List.replicate (1 - (lg_sl ([.ref h0])).length) Slot.unset).toArray = ls at hl ⊢
  have hl : lv_has ls 1 [(0, .ref h0)] := hl
  refine lv_aload_n hx hb dX3_init_0 rfl (lv_at hl 0 rfl) ?_
  refine W.objInit hx hb hown (F.2.2.2.2 _ m_1_187) (F.2.2.2.2 _ m_1_23) (F.2.2.2.2 _ m_1_24) rfl (by rw [hml]; exact hl.1) rfl dX3_init_1 (Nat.le_of_ble_eq_true rfl) (Nat.le_of_ble_eq_true rfl) ?_
  refine W.eq (g2 := F0 m 4 ls []) rfl ?_
  refine lv_aload_n hx hb dX3_init_4 rfl (lv_at hl 0 rfl) ?_
  refine lv_bipush (v := 7) hx hb dX3_init_5 (by decide) ?_
  refine lv_bipush (v := 25) hx hb dX3_init_7 (by decide) ?_
  refine n_mna (index := 9) hx hb hown (F.2.2.2.2 _ m_1_188) hN.1.2.2.2 (F.2.2.2.2 _ m_1_71) hK hP hD hS hA (Nat.le_of_ble_eq_true rfl) (Nat.le_of_ble_eq_true rfl) dX3_init_9 (fun q1 ad2 H hP hD hS => ?_)
  refine W.widen (k := 8) (n := 182) (by omega) (by omega) ?_
  have hP : va_P D vwCl [(h0, .inr (3, [.null, .int 0])), (q1, .inl (cy 5, 7, .inr (.inr (.inr (.inr (fun i => ([(ad2 0), (ad2 1), (ad2 2), (ad2 3), (ad2 4), (ad2 5), (ad2 6)] : List Nat)[i]?)))))), ((ad2 0), .inl (cy 0, 25, .inl (fun _ => 0))), ((ad2 1), .inl (cy 0, 25, .inl (fun _ => 0))), ((ad2 2), .inl (cy 0, 25, .inl (fun _ => 0))), ((ad2 3), .inl (cy 0, 25, .inl (fun _ => 0))), ((ad2 4), .inl (cy 0, 25, .inl (fun _ => 0))), ((ad2 5), .inl (cy 0, 25, .inl (fun _ => 0))), ((ad2 6), .inl (cy 0, 25, .inl (fun _ => 0)))] H := hP
  have hD : va_D A [(h0, .inr (3, [.null, .int 0])), (q1, .inl (cy 5, 7, .inr (.inr (.inr (.inr (fun i => ([(ad2 0), (ad2 1), (ad2 2), (ad2 3), (ad2 4), (ad2 5), (ad2 6)] : List Nat)[i]?)))))), ((ad2 0), .inl (cy 0, 25, .inl (fun _ => 0))), ((ad2 1), .inl (cy 0, 25, .inl (fun _ => 0))), ((ad2 2), .inl (cy 0, 25, .inl (fun _ => 0))), ((ad2 3), .inl (cy 0, 25, .inl (fun _ => 0))), ((ad2 4), .inl (cy 0, 25, .inl (fun _ => 0))), ((ad2 5), .inl (cy 0, 25, .inl (fun _ => 0))), ((ad2 6), .inl (cy 0, 25, .inl (fun _ => 0)))] := hD
  refine va_putF (D := D) (ci := 3) (v := .ref q1) (ty := .array (.array .int)) (C := RX3) (T := TX3) (N := 2) hx hb F.2.2.2.2 inX3 tyX3 tyX3_ok nmX3 hown hK hP hD hS 0 rfl rfl 0 (by decide) (F.2.2.2.2 _ m_1_190) (fun _ h9 => h9) rfl hin rfl rfl rfl rfl (Nat.le_of_ble_eq_true rfl) dX3_init_13 (fun H locs hP hD hS => ?_)
  have hP : va_P D vwCl [(h0, .inr (3, [.ref q1, .int 0])), (q1, .inl (cy 5, 7, .inr (.inr (.inr (.inr (fun i => ([(ad2 0), (ad2 1), (ad2 2), (ad2 3), (ad2 4), (ad2 5), (ad2 6)] : List Nat)[i]?)))))), ((ad2 0), .inl (cy 0, 25, .inl (fun _ => 0))), ((ad2 1), .inl (cy 0, 25, .inl (fun _ => 0))), ((ad2 2), .inl (cy 0, 25, .inl (fun _ => 0))), ((ad2 3), .inl (cy 0, 25, .inl (fun _ => 0))), ((ad2 4), .inl (cy 0, 25, .inl (fun _ => 0))), ((ad2 5), .inl (cy 0, 25, .inl (fun _ => 0))), ((ad2 6), .inl (cy 0, 25, .inl (fun _ => 0)))] H := hP
  have hD : va_D A [(h0, .inr (3, [.ref q1, .int 0])), (q1, .inl (cy 5, 7, .inr (.inr (.inr (.inr (fun i => ([(ad2 0), (ad2 1), (ad2 2), (ad2 3), (ad2 4), (ad2 5), (ad2 6)] : List Nat)[i]?)))))), ((ad2 0), .inl (cy 0, 25, .inl (fun _ => 0))), ((ad2 1), .inl (cy 0, 25, .inl (fun _ => 0))), ((ad2 2), .inl (cy 0, 25, .inl (fun _ => 0))), ((ad2 3), .inl (cy 0, 25, .inl (fun _ => 0))), ((ad2 4), .inl (cy 0, 25, .inl (fun _ => 0))), ((ad2 5), .inl (cy 0, 25, .inl (fun _ => 0))), ((ad2 6), .inl (cy 0, 25, .inl (fun _ => 0)))] := hD
  refine lv_aload_n hx hb dX3_init_16 rfl (lv_at hl 0 rfl) ?_
  refine lv_iconst (v := 0) hx hb dX3_init_17 (by decide) ?_
  refine va_put (D := D) (ci := 3) (v := .int 0) (ty := .int) (C := RX3) (T := TX3) (N := 2) hx hb F.2.2.2.2 inX3 tyX3 tyX3_ok nmX3 hown hK hP hD hS 0 rfl rfl 1 (by decide) (F.2.2.2.2 _ m_1_191) (fun _ h9 => h9) rfl rfl rfl rfl (Nat.le_of_ble_eq_true rfl) dX3_init_18 (fun H locs hP hD hS => ?_)
  have hP : va_P D vwCl [(h0, .inr (3, [.ref q1, .int 0])), (q1, .inl (cy 5, 7, .inr (.inr (.inr (.inr (fun i => ([(ad2 0), (ad2 1), (ad2 2), (ad2 3), (ad2 4), (ad2 5), (ad2 6)] : List Nat)[i]?)))))), ((ad2 0), .inl (cy 0, 25, .inl (fun _ => 0))), ((ad2 1), .inl (cy 0, 25, .inl (fun _ => 0))), ((ad2 2), .inl (cy 0, 25, .inl (fun _ => 0))), ((ad2 3), .inl (cy 0, 25, .inl (fun _ => 0))), ((ad2 4), .inl (cy 0, 25, .inl (fun _ => 0))), ((ad2 5), .inl (cy 0, 25, .inl (fun _ => 0))), ((ad2 6), .inl (cy 0, 25, .inl (fun _ => 0)))] H := hP
  have hD : va_D A [(h0, .inr (3, [.ref q1, .int 0])), (q1, .inl (cy 5, 7, .inr (.inr (.inr (.inr (fun i => ([(ad2 0), (ad2 1), (ad2 2), (ad2 3), (ad2 4), (ad2 5), (ad2 6)] : List Nat)[i]?)))))), ((ad2 0), .inl (cy 0, 25, .inl (fun _ => 0))), ((ad2 1), .inl (cy 0, 25, .inl (fun _ => 0))), ((ad2 2), .inl (cy 0, 25, .inl (fun _ => 0))), ((ad2 3), .inl (cy 0, 25, .inl (fun _ => 0))), ((ad2 4), .inl (cy 0, 25, .inl (fun _ => 0))), ((ad2 5), .inl (cy 0, 25, .inl (fun _ => 0))), ((ad2 6), .inl (cy 0, 25, .inl (fun _ => 0)))] := hD
  refine W.widen (k := 8) (n := 182) (by omega) (by omega) ?_
  exact W.vret hx hb hr (fun t ht hW => ⟨⟨(), rfl, trivial, fun k => ([h0, q1, (ad2 0), (ad2 1), (ad2 2), (ad2 3), (ad2 4), (ad2 5), (ad2 6)] : List Nat).getD k 0, by rw [ht]; exact hP, by rw [hAe]; exact hD⟩, by rw [hAe]; exact hS.F ht⟩) hS.2.2 dX3_init_21
