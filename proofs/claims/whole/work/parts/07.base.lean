theorem goodIn_app' {big a b : List Cond} (ha : GoodIn big a) (hb : GoodIn big b) : GoodIn big (a ++ b) := fun w h => (List.mem_append.mp h).elim (ha w) (hb w)
/-- the words of any method: its code, and the tables' good words -/
def wl (y : MethodName) (cc : ByteArray) (maxL : Nat) (ret : Option FieldType) : List Cond := Cond.code y cc maxL ret :: tb
/-- what the tables say of a method that is called -/
def fWI (y : MethodName) (cc : ByteArray) (maxL : Nat) (ret : Option FieldType) : Prop := Cond.instanceMethod y ∈ tb ∧ Cond.selects y.cls y y ∈ tb ∧ Cond.initialized y.cls ∈ tb ∧ Cond.code y cc maxL ret ∈ tb
def fWS (y : MethodName) (cc : ByteArray) (maxL : Nat) (ret : Option FieldType) : Prop := Cond.static y ∈ tb ∧ Cond.initialized y.cls ∈ tb ∧ Cond.code y cc maxL ret ∈ tb
theorem tb_good {w : Cond} (h : w ∈ tb) : w ∈ tb ∧ ((w.onTables && w.keeps) = true ∨ ∃ ty, w = .arrayClass ty) := ⟨h, good_of_word (List.mem_filter.mp h).2⟩
theorem wl_good {y : MethodName} {cc : ByteArray} {maxL : Nat} {ret : Option FieldType} (h : Cond.code y cc maxL ret ∈ tb) : GoodIn tb (wl y cc maxL ret) := fun w hw => (List.mem_cons.mp hw).elim (fun e => e ▸ tb_good h) tb_good
theorem gV {own : String} {idx : Nat} {y : MethodName} {cc : ByteArray} {maxL : Nat} {ret : Option FieldType} (hl : Cond.methodLink own idx y ∈ tb) (h : fWI y cc maxL ret) : GoodIn tb (wsV own idx y.cls y (wl y cc maxL ret)) :=
  goodIn_app' (fun w hw => by
    simp only [List.mem_cons, List.not_mem_nil, or_false] at hw
    rcases hw with rfl | rfl | rfl | rfl
    · exact tb_good hl
    · exact tb_good h.1
    · exact tb_good h.2.1
    · exact tb_good h.2.2.1) (wl_good h.2.2.2)
theorem gS {own : String} {idx : Nat} {y : MethodName} {cc : ByteArray} {maxL : Nat} {ret : Option FieldType} (hl : Cond.methodLink own idx y ∈ tb) (h : fWS y cc maxL ret) : GoodIn tb (va_wsS own idx y (wl y cc maxL ret)) :=
  goodIn_app' (fun w hw => by
    simp only [List.mem_cons, List.not_mem_nil, or_false] at hw
    rcases hw with rfl | rfl | rfl
    · exact tb_good hl
    · exact tb_good h.1
    · exact tb_good h.2.1) (wl_good h.2.2)
/-! THE WORLD: all cells of the class and of the reference, by numbers 0 .. 114; ints by (number, slot), longs by (number, slot) -/
abbrev fM : Type := (Nat → Nat → Int32) × (Nat → Nat → Int64)
/-- dC, dI, addresses of the cells, numbers of the array kinds, addresses of what lies outside (tables, texts) -/
abbrev fE : Type := (Nat → ClassId) × (Nat → Nat → Nat) × (Nat → Nat) × (Nat → ClassId) × (Nat → Nat)
def fN : Nat := 115
def fkd : List Nat := [7, 11, 4, 4, 4, 4, 4, 4, 4, 4, 10, 10, 10, 10, 10, 10, 10, 10,
  1, 12, 13, 9, 5, 5, 5, 5, 5, 5, 5, 5, 6, 6, 6, 6, 6, 6,
  1, 12, 13, 9, 5, 5, 5, 5, 5, 5, 5, 5, 6, 6, 6, 6, 6, 6,
  1, 12, 13, 9, 5, 5, 5, 5, 5, 5, 5, 5, 6, 6, 6, 6, 6, 6,
  2, 9, 3, 14, 9, 9, 9, 9, 9, 9, 9, 0, 9, 9, 8,
  9, 9, 9, 9, 9, 9, 9, 9, 9, 9, 9, 9, 9, 9, 9, 9, 9, 10, 10, 9, 9, 9, 9, 9, 9, 9, 9, 9]
def fsh (k : Nat) : Nat := fkd.getD k 99
/-- lengths of the arrays of numbers -/
def flens : List Nat := [0, 8, 0, 0, 0, 0, 0, 0, 0, 0, 160, 160, 160, 160, 160, 160, 160, 160,
  0, 8, 6, 6, 0, 0, 0, 0, 0, 0, 0, 0, 0, 0, 0, 0, 0, 0,
  0, 8, 6, 6, 0, 0, 0, 0, 0, 0, 0, 0, 0, 0, 0, 0, 0, 0,
  0, 8, 6, 6, 0, 0, 0, 0, 0, 0, 0, 0, 0, 0, 0, 0, 0, 0,
  0, 160, 0, 7, 25, 25, 25, 25, 25, 25, 25, 0, 20, 8, 0,
  8, 6, 6, 6, 6, 6, 8, 8, 8, 8, 8, 8, 8, 8, 8, 8, 8, 1280, 160, 28, 4, 7, 5, 7, 100, 100, 175, 20]
def fln (k : Nat) : Nat := flens.getD k 0
/-- the fields that refer, and to what -/
def frf : Nat → Nat → Nat → Option Nat
  | 0, k, 0 => some (k + 1)
  | 1, k, 0 => some (k + 1)
  | 1, k, 1 => some (k + 2)
  | 1, k, 2 => some (k + 3)
  | 2, _, 0 => some 54
  | 2, _, 2 => some 73
  | 3, _, 0 => some 75
  | 4, k, 0 => some (k + 8)
  | 7, _, 0 => some 1
  | 7, _, 1 => some 18
  | 7, _, 2 => some 36
  | 7, _, 3 => some 72
  | 7, _, 4 => some 74
  | 7, _, 5 => some 83
  | 7, _, 6 => some 85
  | 8, _, 8 => some 87
  | 8, _, 9 => some 88
  | 8, _, 10 => some 89
  | 8, _, 11 => some 90
  | 8, _, 12 => some 91
  | 8, _, 13 => some 92
  | 8, _, 14 => some 93
  | 8, _, 15 => some 94
  | 8, _, 16 => some 95
  | 8, _, 17 => some 96
  | 8, _, 18 => some 97
  | 8, _, 19 => some 98
  | 8, _, 20 => some 99
  | 8, _, 21 => some 100
  | 8, _, 22 => some 101
  | 8, _, 23 => some 102
  | 8, _, 24 => some 103
  | 8, _, 25 => some 104
  | 8, _, 26 => some 105
  | 8, _, 27 => some 106
  | 8, _, 28 => some 107
  | 8, _, 29 => some 108
  | 8, _, 30 => some 109
  | 8, _, 31 => some 110
  | 8, _, 37 => some 111
  | 8, _, 38 => some 112
  | 8, _, 40 => some 113
  | 8, _, 44 => some 114
  | _, _, _ => none
def fnf : Nat → Nat
  | 0 => 2
  | 1 => 10
  | 2 => 6
  | 3 => 2
  | 4 => 3
  | 5 => 7
  | 6 => 6
  | 7 => 9
  | 8 => 47
  | _ => 0
def fad (E : fE) (k : Nat) : Nat := E.2.2.1 k
def fca (E : fE) (k : Nat) : ClassId := E.2.2.2.1 k
def fsa (E : fE) (k : Nat) : Nat := E.2.2.2.2 k
def fval (E : fE) (M : Nat → Nat → Int32) (c k j : Nat) : Value := match frf c k j with
  | some q => .ref (fad E q)
  | none => .int (M k j)
def fobj (E : fE) (M : Nat → Nat → Int32) (c k : Nat) : List Value := (List.range (fnf c)).map (fval E M c k)
def fcell (E : fE) (M : Nat → Nat → Int32) (L : Nat → Nat → Int64) (k : Nat) : va_E := match fsh k with
  | 9 => .inl (fca E 0, fln k, .inl (M k))
  | 10 => .inl (fca E 1, fln k, .inr (.inl (L k)))
  | 11 => .inl (fca E 2, fln k, .inr (.inr (.inr (.inr (fun i => some (fad E (k + 1 + i)))))))
  | 12 => .inl (fca E 3, fln k, .inr (.inr (.inr (.inr (fun i => some (fad E (k + 3 + i)))))))
  | 13 => .inl (fca E 4, fln k, .inr (.inr (.inr (.inr (fun i => some (fad E (k + 10 + i)))))))
  | 14 => .inl (fca E 5, fln k, .inr (.inr (.inr (.inr (fun i => some (fad E (k + 1 + i)))))))
  | c => .inr (c, fobj E M c k)
def fW (E : fE) (M : Nat → Nat → Int32) (L : Nat → Nat → Int64) : va_W := (List.range fN).map (fun k => (fad E k, fcell E M L k))
def ftys (E : fE) : List (ClassId × FieldType) := [(fca E 0, .int), (fca E 1, .long), (fca E 2, .object "HiredToWait$Shelf"), (fca E 3, .object "HiredToWait$Thing"), (fca E 4, .object "HiredToWait$Waiter"), (fca E 5, .array .int)]
def fInj (E : fE) : Prop := ∀ i j : Nat, i < fN → j < fN → fad E i = fad E j → i = j
def fA (E : fE) : Nat → Prop := fun q => ∃ k : Nat, k < fN ∧ q = fad E k
def fP (E : fE) (M : Nat → Nat → Int32) (L : Nat → Nat → Int64) (H : Heap) : Prop := va_P (E.1, E.2.1) vwCl (fW E M L) H
def fK (E : fE) (U : State) : Prop := va_K (E.1, E.2.1) vwCl (ftys E) U
theorem fsh_lt {k c : Nat} (h : fsh k = c) (hc : c < 99) : k < fN := by
  apply Nat.not_le.mp
  intro hk
  have h2 : fsh k = 99 := by
    unfold fsh
    rw [List.getD_eq_getElem?_getD, List.getElem?_eq_none (by exact hk)]
    rfl
  omega
theorem fW_at (E : fE) (M : Nat → Nat → Int32) (L : Nat → Nat → Int64) {k : Nat} (h : k < fN) : (fW E M L)[k]? = some (fad E k, fcell E M L k) := by
  unfold fW
  rw [List.getElem?_map, List.getElem?_range h]
  rfl
theorem fW_inv {E : fE} {M : Nat → Nat → Int32} {L : Nat → Nat → Int64} {k : Nat} {q : Nat × va_E} (h : (fW E M L)[k]? = some q) : k < fN ∧ q = (fad E k, fcell E M L k) := by
  have hk : k < fN := by
    have := (List.getElem?_eq_some_iff.mp h).1
    simpa [fW] using this
  rw [fW_at E M L hk] at h
  exact ⟨hk, (Option.some.inj h).symm⟩
theorem fW_set (E : fE) (M M' : Nat → Nat → Int32) (L L' : Nat → Nat → Int64) {k : Nat} (h : ∀ j, j ≠ k → fcell E M' L' j = fcell E M L j) : (fW E M L).set k (fad E k, fcell E M' L' k) = fW E M' L' := by
  apply List.ext_getElem?
  intro j
  by_cases hj : j = k
  · subst hj
    by_cases hl : j < fN
    · rw [List.getElem?_set_self (by simpa [fW] using hl), fW_at E M' L' hl]
    · rw [List.getElem?_eq_none (by simp [fW]; omega), List.getElem?_eq_none (by simp [fW]; omega)]
  · rw [List.getElem?_set_ne (Ne.symm hj)]
    by_cases hl : j < fN
    · rw [fW_at E M L hl, fW_at E M' L' hl, h j hj]
    · rw [List.getElem?_eq_none (by simp [fW]; omega), List.getElem?_eq_none (by simp [fW]; omega)]
theorem fD (E : fE) (M : Nat → Nat → Int32) (L : Nat → Nat → Int64) (hI : fInj E) : va_D (fA E) (fW E M L) := by
  refine ⟨fun i j p q hi hj e => ?_, fun k q hk => ?_⟩
  · obtain ⟨h1, rfl⟩ := fW_inv hi
    obtain ⟨h2, rfl⟩ := fW_inv hj
    exact hI i j h1 h2 e
  · obtain ⟨h1, rfl⟩ := fW_inv hk
    exact ⟨k, h1, rfl⟩
theorem fcell_obj (E : fE) (M : Nat → Nat → Int32) (L : Nat → Nat → Int64) {k c : Nat} (h : fsh k = c) (hc : c < 9) : fcell E M L k = .inr (c, fobj E M c k) := by
  unfold fcell
  rw [h]
  have : c = 0 ∨ c = 1 ∨ c = 2 ∨ c = 3 ∨ c = 4 ∨ c = 5 ∨ c = 6 ∨ c = 7 ∨ c = 8 := by omega
  rcases this with rfl | rfl | rfl | rfl | rfl | rfl | rfl | rfl | rfl <;> rfl
theorem fobj_at (E : fE) (M : Nat → Nat → Int32) {c k j : Nat} (h : j < fnf c) : (fobj E M c k)[j]? = some (fval E M c k j) := by
  unfold fobj
  rw [List.getElem?_map, List.getElem?_range h]
  rfl
/-- one slot changed -/
def up2 (M : Nat → Nat → Int32) (k j : Nat) (v : Int32) : Nat → Nat → Int32 := fun a => if a = k then upd (M k) j v else M a
def upL (L : Nat → Nat → Int64) (k j : Nat) (v : Int64) : Nat → Nat → Int64 := fun a => if a = k then vp_updL (L k) j v else L a
def upA {α : Type} (M : Nat → α) (k : Nat) (f : α) : Nat → α := fun a => if a = k then f else M a
theorem up2_self (M : Nat → Nat → Int32) (k j : Nat) (v : Int32) : up2 M k j v k = upd (M k) j v := if_pos rfl
theorem up2_ne (M : Nat → Nat → Int32) {k a : Nat} (h : a ≠ k) (j : Nat) (v : Int32) : up2 M k j v a = M a := if_neg h
theorem upL_self (M : Nat → Nat → Int64) (k j : Nat) (v : Int64) : upL M k j v k = vp_updL (M k) j v := if_pos rfl
theorem upL_ne (M : Nat → Nat → Int64) {k a : Nat} (h : a ≠ k) (j : Nat) (v : Int64) : upL M k j v a = M a := if_neg h
theorem up2_at (M : Nat → Nat → Int32) (k j : Nat) (v : Int32) (a b : Nat) : up2 M k j v a b = if a = k ∧ b = j then v else M a b := by
  by_cases h : a = k
  · subst h
    simp [up2, upd]
  · simp [up2, h]
theorem up2_s (M : Nat → Nat → Int32) (k j : Nat) (v : Int32) : up2 M k j v k j = v := by simp [up2_at]
theorem up2_o (M : Nat → Nat → Int32) (v : Int32) {k j a b : Nat} (h : a ≠ k ∨ b ≠ j) : up2 M k j v a b = M a b := by
  rw [up2_at]
  exact if_neg (fun q => h.elim (fun z => z q.1) (fun z => z q.2))
theorem upL_at (M : Nat → Nat → Int64) (k j : Nat) (v : Int64) (a b : Nat) : upL M k j v a b = if a = k ∧ b = j then v else M a b := by
  by_cases h : a = k
  · subst h
    simp [upL, vp_updL]
  · simp [upL, h]
theorem upL_s (M : Nat → Nat → Int64) (k j : Nat) (v : Int64) : upL M k j v k j = v := by simp [upL_at]
theorem upL_o (M : Nat → Nat → Int64) (v : Int64) {k j a b : Nat} (h : a ≠ k ∨ b ≠ j) : upL M k j v a b = M a b := by
  rw [upL_at]
  exact if_neg (fun q => h.elim (fun z => z q.1) (fun z => z q.2))
theorem fcell_up2 (E : fE) (M : Nat → Nat → Int32) (L : Nat → Nat → Int64) (k j : Nat) (v : Int32) {a : Nat} (h : a ≠ k) : fcell E (up2 M k j v) L a = fcell E M L a := by
  have hm : up2 M k j v a = M a := up2_ne M h j v
  have hf : ∀ c, fobj E (up2 M k j v) c a = fobj E M c a := fun c => by
    unfold fobj
    apply List.map_congr_left
    intro x _
    unfold fval
    rw [hm]
  unfold fcell
  simp only [hm, hf]
theorem fcell_upL (E : fE) (M : Nat → Nat → Int32) (L : Nat → Nat → Int64) (k j : Nat) (v : Int64) {a : Nat} (h : a ≠ k) : fcell E M (upL L k j v) a = fcell E M L a := by
  unfold fcell
  simp only [upL_ne L h j v]
theorem fcell_upA (E : fE) (M : Nat → Nat → Int32) (L : Nat → Nat → Int64) (k : Nat) (f : Nat → Int64) {a : Nat} (h : a ≠ k) : fcell E M (upA L k f) a = fcell E M L a := by
  unfold fcell
  simp only [show upA L k f a = L a from if_neg h]
theorem fobj_up2 (E : fE) (M : Nat → Nat → Int32) {c k j : Nat} (hj : j < fnf c) (hr : frf c k j = none) (v : Int32) : fobj E (up2 M k j v) c k = (fobj E M c k).set j (.int v) := by
  apply List.ext_getElem?
  intro i
  by_cases hi : i = j
  · subst hi
    rw [fobj_at E _ hj, List.getElem?_set_self (by simpa [fobj] using hj)]
    unfold fval
    rw [hr]
    simp [up2, upd]
  · rw [List.getElem?_set_ne (Ne.symm hi)]
    by_cases hl : i < fnf c
    · rw [fobj_at E _ hl, fobj_at E _ hl]
      have e : up2 M k j v k i = M k i := by simp [up2, upd, hi]
      unfold fval
      rw [e]
    · rw [List.getElem?_eq_none (by simp [fobj]; omega), List.getElem?_eq_none (by simp [fobj]; omega)]

/-- what lies outside the world: the class's two tables, the four words of the texts, statics of String -/
def fab (j : Nat) : Int32 := ([-1, 0, 0, 1, 0, 2, 4] : List Int32).getD j 0
def fnu (j : Nat) : Int32 := ([10, 20, 0, 40, 51, 0, 70, 11, 0, 30, 0, 0, 0, 71, 12, 0, 0, 0, 50, 60, 0] : List Int32).getD j 0
def fwl : List Nat := [5, 6, 5, 4]
def fwb : List (List Int32) := [[116, 104, 105, 110, 103], [119, 97, 105, 116, 101, 114], [109, 111, 118, 101, 115], [104, 111, 112, 101]]
def fSt (E : fE) (U : State) (H : Heap) : Prop :=
  va_Z "HiredToWait" "ABOVE" "[I" (.ref (fsa E 0)) (fA E) U H ∧ va_T .int (fsa E 0) 7 (fun j => .int (fab j)) (fA E) U H ∧
  va_Z "HiredToWait$Bodies" "NUMBERS" "[I" (.ref (fsa E 1)) (fA E) U H ∧ va_T .int (fsa E 1) 21 (fun j => .int (fnu j)) (fA E) U H ∧
  va_Z "java/lang/String" "COMPACT_STRINGS" "Z" (.int 1) (fA E) U H ∧
  va_Zq "jdk/internal/util/Preconditions" "SIOOBE_FORMATTER" "Ljava/util/function/BiFunction;" (fA E) U H ∧
  vk_S 4 fwl fwb (fun i => fsa E (2 + i)) (fun i => fsa E (6 + i)) (fA E) U H ∧
  (vk_R RX2 72 "thing" (fsa E (2 + 0)) U ∧ vk_R RX2 90 "waiter" (fsa E (2 + 1)) U ∧ vk_R RX2 99 "moves" (fsa E (2 + 2)) U ∧ vk_R RX2 117 "hope" (fsa E (2 + 3)) U) ∧
  va_Nw (.methodLinkNest RX0 52 yX7_isKind "HiredToWait") U ∧ va_Nw (.methodLinkNest RX0 59 yX7_within "HiredToWait") U ∧ va_Nw (.methodLinkNest RX2 136 yX7_within "HiredToWait") U ∧ va_Nw (.methodLinkNest RX5 46 yX7_within "HiredToWait") U ∧
  va_Nw (.fieldLinkNest RX0 39 "HiredToWait" "ABOVE" "[I" "HiredToWait") U
theorem fSt.warm {E : fE} {s U : State} {H : Heap} {locs : List Loc} (h : fSt E s s.heap) (hS : va_S (fA E) s.heap H locs) (hU : U.heap = H) (hW : s.WarmedH U.vm) : fSt E U U.heap := by
  obtain ⟨h1, h2, h3, h4, h5, h6, h7, ⟨g1, g2, g3, g4⟩, n1, n2, n3, n4, n5⟩ := h
  have ha := hW.alike
  rw [hU]
  exact ⟨(va_Z.moved ha h1).kept hS.2.1, (va_T.moved ha h2).kept hS.2.1, (va_Z.moved ha h3).kept hS.2.1, (va_T.moved ha h4).kept hS.2.1, (va_Z.moved ha h5).kept hS.2.1, (va_Zq.moved ha h6).kept hS.2.1, (vk_S.moved ha h7).kept hS.2.1, ⟨g1.warm hW, g2.warm hW, g3.warm hW, g4.warm hW⟩, va_Nw.warmM hW n1, va_Nw.warmM hW n2, va_Nw.warmM hW n3, va_Nw.warmM hW n4, va_Nw.warmF hW n5⟩
/-- a method's start: the world as M, L have it -/
def fPre (E : fE) (M : Nat → Nat → Int32) (L : Nat → Nat → Int64) (U : State) : Prop := fP E M L U.heap ∧ fK E U ∧ fInj E ∧ fSt E U U.heap
def fQi (E : fE) (post : Int32 → fM → Prop) : Array Value → State → Outcome → State → Prop := va_Qi post (fun (u : fM) t => fP E u.1 u.2 t.heap) (fA E)
def fQl (E : fE) (post : Int64 → fM → Prop) : Array Value → State → Outcome → State → Prop := va_Ql post (fun (u : fM) t => fP E u.1 u.2 t.heap) (fA E)
def fQv (E : fE) (post : fM → Prop) : Array Value → State → Outcome → State → Prop := va_Qv post (fun (u : fM) t => fP E u.1 u.2 t.heap) (fA E)
/-- what is known inside a method -/
def fX (E : fE) (p : Program) (s : State) (m : MethodId) (c : Code) (args : Array Value) (cc : ByteArray) (nL : Nat) (own : String) : Prop :=
  CallFix p m c cc nL s args tb own ∧ fK E s ∧ fInj E ∧ fSt E s s.heap
/-- an index: not below 0, its number, within -/
def fIx (i : Int32) (n q : Nat) : Prop := ¬ i < 0 ∧ i.toNatClampNeg = q ∧ q < n
theorem fIx.vp {i : Int32} {n q : Nat} (h : fIx i n q) : vp_in i n := by
  obtain ⟨h1, h2, h3⟩ := h
  rintro (h | h)
  · exact h1 h
  · omega
theorem fIx_nI {t n : Nat} (h : t < n) (hn : n < 2 ^ 31) : fIx (nI t) n t := ⟨nI_pos (by omega), nI_clamp (by omega), h⟩
section FX
variable {E : fE} {p : Program} {s : State} {m : MethodId} {c : Code} {args : Array Value} {cc : ByteArray} {nL : Nat} {own : String}
theorem fX.za (X : fX E p s m c args cc nL own) : va_Z "HiredToWait" "ABOVE" "[I" (.ref (fsa E 0)) (fA E) s s.heap := X.2.2.2.1
theorem fX.ta (X : fX E p s m c args cc nL own) : va_T .int (fsa E 0) 7 (fun j => .int (fab j)) (fA E) s s.heap := X.2.2.2.2.1
theorem fX.zn (X : fX E p s m c args cc nL own) : va_Z "HiredToWait$Bodies" "NUMBERS" "[I" (.ref (fsa E 1)) (fA E) s s.heap := X.2.2.2.2.2.1
theorem fX.tn (X : fX E p s m c args cc nL own) : va_T .int (fsa E 1) 21 (fun j => .int (fnu j)) (fA E) s s.heap := X.2.2.2.2.2.2.1
theorem fX.zc (X : fX E p s m c args cc nL own) : va_Z "java/lang/String" "COMPACT_STRINGS" "Z" (.int 1) (fA E) s s.heap := X.2.2.2.2.2.2.2.1
theorem fX.zf (X : fX E p s m c args cc nL own) : va_Zq "jdk/internal/util/Preconditions" "SIOOBE_FORMATTER" "Ljava/util/function/BiFunction;" (fA E) s s.heap := X.2.2.2.2.2.2.2.2.1
theorem fX.sk (X : fX E p s m c args cc nL own) : vk_S 4 fwl fwb (fun i => fsa E (2 + i)) (fun i => fsa E (6 + i)) (fA E) s s.heap := X.2.2.2.2.2.2.2.2.2.1
theorem fX.w0 (X : fX E p s m c args cc nL own) : vk_R RX2 72 "thing" (fsa E (2 + 0)) s := X.2.2.2.2.2.2.2.2.2.2.1.1
theorem fX.w1 (X : fX E p s m c args cc nL own) : vk_R RX2 90 "waiter" (fsa E (2 + 1)) s := X.2.2.2.2.2.2.2.2.2.2.1.2.1
theorem fX.w2 (X : fX E p s m c args cc nL own) : vk_R RX2 99 "moves" (fsa E (2 + 2)) s := X.2.2.2.2.2.2.2.2.2.2.1.2.2.1
theorem fX.w3 (X : fX E p s m c args cc nL own) : vk_R RX2 117 "hope" (fsa E (2 + 3)) s := X.2.2.2.2.2.2.2.2.2.2.1.2.2.2
theorem fX.n1 (X : fX E p s m c args cc nL own) : va_Nw (.methodLinkNest RX0 52 yX7_isKind "HiredToWait") s := X.2.2.2.2.2.2.2.2.2.2.2.1
theorem fX.n2 (X : fX E p s m c args cc nL own) : va_Nw (.methodLinkNest RX0 59 yX7_within "HiredToWait") s := X.2.2.2.2.2.2.2.2.2.2.2.2.1
theorem fX.n3 (X : fX E p s m c args cc nL own) : va_Nw (.methodLinkNest RX2 136 yX7_within "HiredToWait") s := X.2.2.2.2.2.2.2.2.2.2.2.2.2.1
theorem fX.n4 (X : fX E p s m c args cc nL own) : va_Nw (.methodLinkNest RX5 46 yX7_within "HiredToWait") s := X.2.2.2.2.2.2.2.2.2.2.2.2.2.2.1
theorem fX.n5 (X : fX E p s m c args cc nL own) : va_Nw (.fieldLinkNest RX0 39 "HiredToWait" "ABOVE" "[I" "HiredToWait") s := X.2.2.2.2.2.2.2.2.2.2.2.2.2.2.2
theorem fX.ht (X : fX E p s m c args cc nL own) {w : Cond} (h : w ∈ tb) : w.before args s = true := X.1.2.2.2.2 w h
end FX
section FR
variable {p : Program} {l : Launch} {e : Env} {R : Room} {s : State} {m : MethodId} {args : Array Value} {below : List Frame} {meth : Method} {c : Code} {H : Heap} {locs : List Loc} {cells slots : Nat} {Q : State → Prop}
variable {cc : ByteArray} {pc nL : Nat} {ls : Array Slot} {rest : List Value} {own : String} {E : fE} {M : Nat → Nat → Int32} {L : Nat → Nat → Int64}
theorem f_get (X : fX E p s m c args cc nL own) (hP : fP E M L H) {C : String} {T : u_T} {N ci index k : Nat} (hk : fsh k = ci) (hin : ∀ w ∈ u_ws C T N, w ∈ tb) (hc : vwCl[ci]? = some (C, T, N)) (j : Nat) (hj : j < N ∧ j < fnf ci ∧ ci < 9)
    (hlink : (Cond.fieldLink own index C (T j).2.1 (T j).2.2.1) ∈ tb) (hT : (T j).1 = C) {v : Value} (hv : fval E M ci k j = v) (hdg : decode cc pc = .ok (.getfield index, 3))
    (kk : W p l e R s m args below meth c H locs cells slots Q (F0 m (pc + 3) ls (v :: rest))) : W p l e R s m args below meth c H locs cells slots Q (F0 m pc ls (.ref (fad E k) :: rest)) := by
  obtain ⟨⟨hx, hb, hml, ho, hts⟩, hK, hI, hSt⟩ := X
  have he : (fW E M L)[k]? = some (fad E k, .inr (ci, fobj E M ci k)) := by
    rw [fW_at E M L (fsh_lt hk (by omega)), fcell_obj E M L hk hj.2.2]
  exact va_get (ref := C) (index := index) hx hb hts hin ho hK hP k he hc j hj.1 (hts _ hlink) (fun _ h9 => by rw [hT] at h9; exact h9) (by rw [fobj_at E M hj.2.1, hv]) hdg kk
theorem f_put (X : fX E p s m c args cc nL own) (hP : fP E M L H) (hS : va_S (fA E) s.heap H locs) {C : String} {T : u_T} {N ci index k : Nat} (hk : fsh k = ci) (hin : ∀ w ∈ u_ws C T N, w ∈ tb) (hc : vwCl[ci]? = some (C, T, N)) (ty0 : Nat → FieldType) (hty : ∀ k, k < N → parseFieldDescriptor (T k).2.2.1 = some (ty0 k)) (hnm : ∀ a, a < N → ∀ b, b < N → a ≠ b → (T a).2.1 ≠ (T b).2.1) (j : Nat) (hj : j < N ∧ j < fnf ci ∧ ci < 9)
    (hlink : (Cond.fieldLink own index C (T j).2.1 (T j).2.2.1) ∈ tb) (hT : (T j).1 = C ∧ (T j).2.2.2 = false) (hr : frf ci k j = none) {v : Int32} (hn : narrow (ty0 j) (.int v) = .int v) (hfit : fits (ty0 j) (.int v) = true) (hdg : decode cc pc = .ok (.putfield index, 3))
    (kk : ∀ (H1 : Heap) (locs1 : List Loc), fP E (up2 M k j v) L H1 → va_S (fA E) s.heap H1 locs1 → W p l e R s m args below meth c H1 locs1 cells slots Q (F0 m (pc + 3) ls rest)) : W p l e R s m args below meth c H locs cells slots Q (F0 m pc ls (.int v :: .ref (fad E k) :: rest)) := by
  obtain ⟨⟨hx, hb, hml, ho, hts⟩, hK, hI, hSt⟩ := X
  have hkn := fsh_lt hk (show ci < 99 by omega)
  have he : (fW E M L)[k]? = some (fad E k, .inr (ci, fobj E M ci k)) := by
    rw [fW_at E M L hkn, fcell_obj E M L hk hj.2.2]
  have hs2 : (fW E M L).set k (fad E k, .inr (ci, (fobj E M ci k).set j (.int v))) = fW E (up2 M k j v) L := by
    rw [← fobj_up2 E M hj.2.1 hr v, ← fcell_obj E (up2 M k j v) L hk hj.2.2]
    exact fW_set E M (up2 M k j v) L L (fun a ha => fcell_up2 E M L k j v ha)
  refine va_put (ref := C) (index := index) hx hb hts hin ty0 hty hnm ho hK hP (fD E M L hI) hS k he hc j hj.1 (hts _ hlink) (fun _ h9 => by rw [hT.1] at h9; exact h9) hT.2 (hty j hj.1) hn hfit (by simpa [fobj] using hj.2.1) hdg (fun H1 locs1 hP1 _ hS1 => ?_)
  rw [hs2] at hP1
  exact kk H1 locs1 hP1 hS1
theorem fcell_ints (E : fE) (M : Nat → Nat → Int32) (L : Nat → Nat → Int64) {k : Nat} (h : fsh k = 9) : fcell E M L k = .inl (fca E 0, fln k, .inl (M k)) := by
  unfold fcell
  rw [h]
  rfl
theorem fcell_longs (E : fE) (M : Nat → Nat → Int32) (L : Nat → Nat → Int64) {k : Nat} (h : fsh k = 10) : fcell E M L k = .inl (fca E 1, fln k, .inr (.inl (L k))) := by
  unfold fcell
  rw [h]
  rfl
theorem f_iald (X : fX E p s m c args cc nL own) (hP : fP E M L H) {k n q : Nat} (hk : fsh k = 9) (hn : fln k = n) {i : Int32} (hi : fIx i n q) (hdg : decode cc pc = .ok (.iaload, 1))
    (kk : W p l e R s m args below meth c H locs cells slots Q (F0 m (pc + 1) ls (.int (M k q) :: rest))) : W p l e R s m args below meth c H locs cells slots Q (F0 m pc ls (.int i :: .ref (fad E k) :: rest)) := by
  obtain ⟨⟨hx, hb, hml, ho, hts⟩, hK, hI, hSt⟩ := X
  have hin : vp_in i (fln k) := by rw [hn]; exact hi.vp
  obtain ⟨-, rfl, -⟩ := hi
  exact va_iald hx hb hK hP k 0 (by rw [fW_at E M L (fsh_lt hk (by omega)), fcell_ints E M L hk]) rfl hin hdg kk
theorem f_iast (X : fX E p s m c args cc nL own) (hP : fP E M L H) (hS : va_S (fA E) s.heap H locs) {k n q : Nat} (hk : fsh k = 9) (hn : fln k = n) {i : Int32} {v : Int32} (hi : fIx i n q) (hdg : decode cc pc = .ok (.iastore, 1))
    (kk : ∀ (H1 : Heap) (locs1 : List Loc), fP E (up2 M k q v) L H1 → va_S (fA E) s.heap H1 locs1 → W p l e R s m args below meth c H1 locs1 cells slots Q (F0 m (pc + 1) ls rest)) : W p l e R s m args below meth c H locs cells slots Q (F0 m pc ls (.int v :: .int i :: .ref (fad E k) :: rest)) := by
  obtain ⟨⟨hx, hb, hml, ho, hts⟩, hK, hI, hSt⟩ := X
  have hin : vp_in i (fln k) := by rw [hn]; exact hi.vp
  obtain ⟨-, rfl, -⟩ := hi
  have hs2 : (fW E M L).set k (fad E k, .inl (fca E 0, fln k, .inl (upd (M k) i.toNatClampNeg v))) = fW E (up2 M k i.toNatClampNeg v) L := by
    rw [← up2_self M k i.toNatClampNeg v, ← fcell_ints E (up2 M k i.toNatClampNeg v) L hk]
    exact fW_set E M (up2 M k i.toNatClampNeg v) L L (fun a ha => fcell_up2 E M L k i.toNatClampNeg v ha)
  refine va_iast hx hb hK hP (fD E M L hI) hS k 0 (by rw [fW_at E M L (fsh_lt hk (by omega)), fcell_ints E M L hk]) rfl hin hdg (fun H1 locs1 hP1 _ hS1 => ?_)
  rw [hs2] at hP1
  exact kk H1 locs1 hP1 hS1
theorem f_lald (X : fX E p s m c args cc nL own) (hP : fP E M L H) {k n q : Nat} (hk : fsh k = 10) (hn : fln k = n) {i : Int32} (hi : fIx i n q) (hdg : decode cc pc = .ok (.laload, 1))
    (kk : W p l e R s m args below meth c H locs cells slots Q (F0 m (pc + 1) ls (.long (L k q) :: rest))) : W p l e R s m args below meth c H locs cells slots Q (F0 m pc ls (.int i :: .ref (fad E k) :: rest)) := by
  obtain ⟨⟨hx, hb, hml, ho, hts⟩, hK, hI, hSt⟩ := X
  have hin : vp_in i (fln k) := by rw [hn]; exact hi.vp
  obtain ⟨-, rfl, -⟩ := hi
  exact va_lald hx hb hK hP k 1 (by rw [fW_at E M L (fsh_lt hk (by omega)), fcell_longs E M L hk]) rfl hin hdg kk
theorem f_last (X : fX E p s m c args cc nL own) (hP : fP E M L H) (hS : va_S (fA E) s.heap H locs) {k n q : Nat} (hk : fsh k = 10) (hn : fln k = n) {i : Int32} {v : Int64} (hi : fIx i n q) (hdg : decode cc pc = .ok (.lastore, 1))
    (kk : ∀ (H1 : Heap) (locs1 : List Loc), fP E M (upL L k q v) H1 → va_S (fA E) s.heap H1 locs1 → W p l e R s m args below meth c H1 locs1 cells slots Q (F0 m (pc + 1) ls rest)) : W p l e R s m args below meth c H locs cells slots Q (F0 m pc ls (.long v :: .int i :: .ref (fad E k) :: rest)) := by
  obtain ⟨⟨hx, hb, hml, ho, hts⟩, hK, hI, hSt⟩ := X
  have hin : vp_in i (fln k) := by rw [hn]; exact hi.vp
  obtain ⟨-, rfl, -⟩ := hi
  have hs2 : (fW E M L).set k (fad E k, .inl (fca E 1, fln k, .inr (.inl (vp_updL (L k) i.toNatClampNeg v)))) = fW E M (upL L k i.toNatClampNeg v) := by
    rw [← upL_self L k i.toNatClampNeg v, ← fcell_longs E M (upL L k i.toNatClampNeg v) hk]
    exact fW_set E M M L (upL L k i.toNatClampNeg v) (fun a ha => fcell_upL E M L k i.toNatClampNeg v ha)
  refine va_last hx hb hK hP (fD E M L hI) hS k 1 (by rw [fW_at E M L (fsh_lt hk (by omega)), fcell_longs E M L hk]) rfl hin hdg (fun H1 locs1 hP1 _ hS1 => ?_)
  rw [hs2] at hP1
  exact kk H1 locs1 hP1 hS1
/-- a row of references: shelves, things, waiters, the rows of the rota -/
theorem f_aald (X : fX E p s m c args cc nL own) (hP : fP E M L H) {k t d n : Nat} (hk : fsh k = t) (hn : fln k = n) (ht : (t = 11 ∧ d = 1) ∨ (t = 12 ∧ d = 3) ∨ (t = 13 ∧ d = 10) ∨ (t = 14 ∧ d = 1)) {i : Int32} {r : Nat} (hi : fIx i n r) (q : Nat) (hq : k + d + r = q) (hdg : decode cc pc = .ok (.aaload, 1))
    (kk : W p l e R s m args below meth c H locs cells slots Q (F0 m (pc + 1) ls (.ref (fad E q) :: rest))) : W p l e R s m args below meth c H locs cells slots Q (F0 m pc ls (.int i :: .ref (fad E k) :: rest)) := by
  obtain ⟨⟨hx, hb, hml, ho, hts⟩, hK, hI, hSt⟩ := X
  have hin := hi.vp
  obtain ⟨-, rfl, -⟩ := hi
  subst hn
  subst hq
  have hkn := fsh_lt hk (show t < 99 by omega)
  have key : ∀ (x ty) (_ : (ftys E)[x]? = some (fca E x, ty)) (_ : ty.isReference = true) (_ : fcell E M L k = .inl (fca E x, fln k, .inr (.inr (.inr (.inr (fun i => some (fad E (k + d + i)))))))), W p l e R s m args below meth c H locs cells slots Q (F0 m pc ls (.int i :: .ref (fad E k) :: rest)) := by
    intro x ty h1 h2 h3
    have hlt : i.toNatClampNeg < fln k := Nat.not_le.mp fun q => hin (Or.inr q)
    have ha : (fW E M L)[k]? = some (fad E k, .inl (fca E x, fln k, .inr (.inr (.inr (.inr (fun i => some (fad E (k + d + i)))))))) := by
      rw [fW_at E M L hkn, h3]
    exact W.aald (v := .ref (fad E (k + d + i.toNatClampNeg))) (ty := ty) hx hb (hP k _ ha) ((hK.2 x _ h1).1 (fln k) (fun j => va_rf (some (fad E (k + d + j))))) h2 (fun q => by cases q) (by show ¬ (i < 0 ∨ (arrV _ _ _).slots.size ≤ _); rw [arrV_size]; exact hin) (by show (arrV _ _ _).slots[_]? = _; rw [arrV_read _ _ hlt]; rfl) rfl rfl hdg kk
  rcases ht with ⟨rfl, rfl⟩ | ⟨rfl, rfl⟩ | ⟨rfl, rfl⟩ | ⟨rfl, rfl⟩
  · exact key 2 _ rfl rfl (by unfold fcell; rw [hk]; rfl)
  · exact key 3 _ rfl rfl (by unfold fcell; rw [hk]; rfl)
  · exact key 4 _ rfl rfl (by unfold fcell; rw [hk]; rfl)
  · exact key 5 _ rfl rfl (by unfold fcell; rw [hk]; rfl)
theorem f_topI {x v : Int32} (h : x = v) (k : W p l e R s m args below meth c H locs cells slots Q (F0 m pc ls (.int v :: rest))) : W p l e R s m args below meth c H locs cells slots Q (F0 m pc ls (.int x :: rest)) := by subst h; exact k
theorem f_topL {x v : Int64} (h : x = v) (k : W p l e R s m args below meth c H locs cells slots Q (F0 m pc ls (.long v :: rest))) : W p l e R s m args below meth c H locs cells slots Q (F0 m pc ls (.long x :: rest)) := by subst h; exact k
/-- a static table of ints -/
theorem f_sald (X : fX E p s m c args cc nL own) {t N : Nat} {f : Nat → Int32} (hT : va_T .int t N (fun j => .int (f j)) (fA E) s s.heap) (hS : va_S (fA E) s.heap H locs) {i : Int32} {q : Nat} (hi : fIx i N q) (hdg : decode cc pc = .ok (.iaload, 1))
    (kk : W p l e R s m args below meth c H locs cells slots Q (F0 m (pc + 1) ls (.int (f q) :: rest))) : W p l e R s m args below meth c H locs cells slots Q (F0 m pc ls (.int i :: .ref t :: rest)) := by
  obtain ⟨⟨hx, hb, hml, ho, hts⟩, hK, hI, hSt⟩ := X
  have hin := hi.vp
  obtain ⟨-, rfl, -⟩ := hi
  obtain ⟨cell, h1, h2, h3, h4, h5, h6, h7⟩ := hT
  have hlt : i.toNatClampNeg < N := Nat.not_le.mp fun q => hin (Or.inr q)
  refine W.iald (v := .int (f i.toNatClampNeg)) hx hb (by rw [hS.2.1 t (Array.getElem?_eq_some_iff.mp h1).1 h7]; exact h1) h2 h3 (fun q => ?_) (h6 _ hlt) rfl rfl hdg kk
  rcases q with q | q
  · exact hin (Or.inl q)
  · omega
theorem f_sbald (X : fX E p s m c args cc nL own) {t N : Nat} {f : Nat → Int32} (hT : va_T .byte t N (fun j => .int (f j)) (fA E) s s.heap) (hS : va_S (fA E) s.heap H locs) {i : Int32} {q : Nat} (hi : fIx i N q) (hdg : decode cc pc = .ok (.baload, 1))
    (kk : W p l e R s m args below meth c H locs cells slots Q (F0 m (pc + 1) ls (.int (f q) :: rest))) : W p l e R s m args below meth c H locs cells slots Q (F0 m pc ls (.int i :: .ref t :: rest)) := by
  obtain ⟨⟨hx, hb, hml, ho, hts⟩, hK, hI, hSt⟩ := X
  have hin := hi.vp
  obtain ⟨-, rfl, -⟩ := hi
  obtain ⟨cell, h1, h2, h3, h4, h5, h6, h7⟩ := hT
  have hlt : i.toNatClampNeg < N := Nat.not_le.mp fun q => hin (Or.inr q)
  refine W.bald (v := .int (f i.toNatClampNeg)) hx hb (by rw [hS.2.1 t (Array.getElem?_eq_some_iff.mp h1).1 h7]; exact h1) h2 h3 (fun q => ?_) (h6 _ hlt) rfl rfl hdg kk
  rcases q with q | q
  · exact hin (Or.inl q)
  · omega
theorem f_slen (X : fX E p s m c args cc nL own) {t N : Nat} {f : Nat → Value} {ty : FieldType} (hT : va_T ty t N f (fA E) s s.heap) (hS : va_S (fA E) s.heap H locs) {v : Int32} (hv : Int32.ofNat N = v) (hdg : decode cc pc = .ok (.arraylength, 1))
    (kk : W p l e R s m args below meth c H locs cells slots Q (F0 m (pc + 1) ls (.int v :: rest))) : W p l e R s m args below meth c H locs cells slots Q (F0 m pc ls (.ref t :: rest)) := by
  obtain ⟨⟨hx, hb, hml, ho, hts⟩, hK, hI, hSt⟩ := X
  obtain ⟨cell, h1, h2, h3, h4, h5, h6, h7⟩ := hT
  exact W.alen (n := v) hx hb (by rw [hS.2.1 t (Array.getElem?_eq_some_iff.mp h1).1 h7]; exact h1) h2 (h5.trans hv) rfl rfl hdg kk
theorem fRecv (X : fX E p s m c args cc nL own) (hP : fP E M L H) {C : String} {T : u_T} {N ci k : Nat} (hk : fsh k = ci) (hc : vwCl[ci]? = some (C, T, N)) (hci : ci < 9) : ∃ cell : Cell, H[fad E k]? = some cell ∧ cell.vm.isStatics = false ∧ s.vm.findClass C = some cell.cls := by
  obtain ⟨⟨hx, hb, hml, ho, hts⟩, hK, hI, hSt⟩ := X
  exact va_recv hK hP hc (q0 := k) (fs := fobj E M ci k) (by rw [fW_at E M L (fsh_lt hk (by omega)), fcell_obj E M L hk hci])
theorem fBlind (av : List Value) : FrameBlind (va_Pc av (fPre E M L)) := by
  intro a U g mk q
  obtain ⟨q0, q1, q2, q3, q4⟩ := q
  obtain ⟨h1, h2, h3, h4, h5, h6, h7, ⟨g1, g2, g3, g4⟩, n1, n2, n3, n4, n5⟩ := q4
  have ha : U.vm.Alike (U.calling g mk a).vm := Vm.Alike.refl U.vm
  have hv : (U.calling g mk a).vm = U.vm := rfl
  have hv2 : U.vm = (U.calling g mk a).vm := rfl
  exact ⟨q0, q1, va_K.moved ha q2, q3, va_Z.moved ha h1, va_T.moved ha h2, va_Z.moved ha h3, va_T.moved ha h4, va_Z.moved ha h5, va_Zq.moved ha h6, vk_S.moved ha h7, ⟨vk_R.same hv g1, vk_R.same hv g2, vk_R.same hv g3, vk_R.same hv g4⟩, va_Nw.same rfl hv2 n1, va_Nw.same rfl hv2 n2, va_Nw.same rfl hv2 n3, va_Nw.same rfl hv2 n4, va_Nw.same rfl hv2 n5⟩
theorem fGive (X : fX E p s m c args cc nL own) (hP : fP E M L H) (hS : va_S (fA E) s.heap H locs) (av : List Value) : ∀ U : State, U.heap = H → s.WarmedH U.vm → va_Pc av (fPre E M L) av.toArray U := by
  obtain ⟨-, hK, hI, hSt⟩ := X
  intro U hU hW
  exact ⟨rfl, by rw [hU]; exact hP, va_K.moved hW.alike hK, hI, hSt.warm hS hU hW⟩
theorem fPreV (X : fX E p s m c args cc nL own) (hP : fP E M L H) (hS : va_S (fA E) s.heap H locs) {C : String} {T : u_T} {N ci k : Nat} (hk : fsh k = ci) (hc : vwCl[ci]? = some (C, T, N)) (hci : ci < 9) (As : List Value) : PreV s H C (fad E k) (va_Pc (.ref (fad E k) :: As) (fPre E M L)) As :=
  ⟨fBlind _, fRecv X hP hk hc hci, fGive X hP hS _⟩
theorem fPreS (X : fX E p s m c args cc nL own) (hP : fP E M L H) (hS : va_S (fA E) s.heap H locs) (As : List Value) : PreS s H (va_Pc As (fPre E M L)) As :=
  ⟨fBlind _, fGive X hP hS _⟩
/-- behind a call -/
theorem f_ci {st0 : List Value} {a : Array Value} {post : Int32 → fM → Prop} (hr : va_Run p l e R s m args below meth c H locs cells slots 0 0 (F0 m pc ls st0) rest (fQi E post a) (fA E)) (hS : va_S (fA E) s.heap H locs)
    (kk : ∀ (r : Int32) (M1 : Nat → Nat → Int32) (L1 : Nat → Nat → Int64) (H1 : Heap) (locs1 : List Loc), post r (M1, L1) → fP E M1 L1 H1 → va_S (fA E) s.heap H1 locs1 → W p l e R s m args below meth c H1 locs1 cells slots Q (F0 m (pc + 3) ls (.int r :: rest))) : W p l e R s m args below meth c H locs cells slots Q (F0 m pc ls st0) :=
  va_calli hr hS (fun _ _ h => h) (fun _ h => h) (fun r u t H1 locs1 ht _ hp hb _ _ hS1 => kk r u.1 u.2 H1 locs1 hp (ht ▸ hb) hS1)
theorem f_cl {st0 : List Value} {a : Array Value} {post : Int64 → fM → Prop} (hr : va_Run p l e R s m args below meth c H locs cells slots 0 0 (F0 m pc ls st0) rest (fQl E post a) (fA E)) (hS : va_S (fA E) s.heap H locs)
    (kk : ∀ (r : Int64) (M1 : Nat → Nat → Int32) (L1 : Nat → Nat → Int64) (H1 : Heap) (locs1 : List Loc), post r (M1, L1) → fP E M1 L1 H1 → va_S (fA E) s.heap H1 locs1 → W p l e R s m args below meth c H1 locs1 cells slots Q (F0 m (pc + 3) ls (.long r :: rest))) : W p l e R s m args below meth c H locs cells slots Q (F0 m pc ls st0) :=
  va_calll hr hS (fun _ _ h => h) (fun _ h => h) (fun r u t H1 locs1 ht _ hp hb _ _ hS1 => kk r u.1 u.2 H1 locs1 hp (ht ▸ hb) hS1)
theorem f_cv {st0 : List Value} {a : Array Value} {post : fM → Prop} (hr : va_Run p l e R s m args below meth c H locs cells slots 0 0 (F0 m pc ls st0) rest (fQv E post a) (fA E)) (hS : va_S (fA E) s.heap H locs)
    (kk : ∀ (M1 : Nat → Nat → Int32) (L1 : Nat → Nat → Int64) (H1 : Heap) (locs1 : List Loc), post (M1, L1) → fP E M1 L1 H1 → va_S (fA E) s.heap H1 locs1 → W p l e R s m args below meth c H1 locs1 cells slots Q (F0 m (pc + 3) ls rest)) : W p l e R s m args below meth c H locs cells slots Q (F0 m pc ls st0) :=
  va_callv hr hS (fun _ _ h => h) (fun _ h => h) (fun u t H1 locs1 ht _ hp hb _ _ hS1 => kk u.1 u.2 H1 locs1 hp (ht ▸ hb) hS1)
/-- the ends -/
theorem f_ir {post : Int32 → fM → Prop} {v : Int32} (X : fX E p s m c args cc nL own) (hlocks : meth.locks = false) {ty : FieldType} (hr : meth.sig.returnType = some ty) (hn : narrow ty (.int v) = .int v) (hP : fP E M L H) (hS : va_S (fA E) s.heap H locs) (hp : post v (M, L)) (hdg : decode cc pc = .ok (.ireturn, 1)) : W p l e R s m args below meth c H locs cells slots (MQ below (fQi E post) args s cells slots (fA E)) (F0 m pc ls [.int v]) :=
  W.zret X.1.1 X.1.2.1 hr hn (fun t ht _ => ⟨⟨v, (M, L), rfl, hp, by subst ht; exact hP⟩, hS.F ht⟩) hS.2.2 hdg hlocks
theorem f_lr {post : Int64 → fM → Prop} {v : Int64} (X : fX E p s m c args cc nL own) (hlocks : meth.locks = false) (hr : meth.sig.returnType = some .long) (hP : fP E M L H) (hS : va_S (fA E) s.heap H locs) (hp : post v (M, L)) (hdg : decode cc pc = .ok (.lreturn, 1)) : W p l e R s m args below meth c H locs cells slots (MQ below (fQl E post) args s cells slots (fA E)) (F0 m pc ls [.long v]) :=
  W.lret X.1.1 X.1.2.1 hr (fun t ht _ => ⟨⟨v, (M, L), rfl, hp, by subst ht; exact hP⟩, hS.F ht⟩) hS.2.2 hdg hlocks
theorem f_vr {post : fM → Prop} (X : fX E p s m c args cc nL own) (hlocks : meth.locks = false) (hr : meth.sig.returnType = none) (hP : fP E M L H) (hS : va_S (fA E) s.heap H locs) (hp : post (M, L)) (hdg : decode cc pc = .ok (.return_, 1)) : W p l e R s m args below meth c H locs cells slots (MQ below (fQv E post) args s cells slots (fA E)) (F0 m pc ls []) :=
  W.vret X.1.1 X.1.2.1 hr (fun t ht _ => ⟨⟨(M, L), rfl, hp, by subst ht; exact hP⟩, hS.F ht⟩) hS.2.2 hdg hlocks
/-- behind a call whose answer and world are told -/
theorem f_ciV {st0 : List Value} {a : Array Value} {v : Int32} {M1 : Nat → Nat → Int32} {L1 : Nat → Nat → Int64} (hr : va_Run p l e R s m args below meth c H locs cells slots 0 0 (F0 m pc ls st0) rest (fQi E (fun r u => u = (M1, L1) ∧ r = v) a) (fA E)) (hS : va_S (fA E) s.heap H locs)
    (kk : ∀ (H1 : Heap) (locs1 : List Loc), fP E M1 L1 H1 → va_S (fA E) s.heap H1 locs1 → W p l e R s m args below meth c H1 locs1 cells slots Q (F0 m (pc + 3) ls (.int v :: rest))) : W p l e R s m args below meth c H locs cells slots Q (F0 m pc ls st0) :=
  va_calli hr hS (fun _ _ h => h) (fun _ h => h) (fun r u t H1 locs1 ht _ hp hb _ _ hS1 => by obtain ⟨rfl, rfl⟩ := hp; exact kk H1 locs1 (ht ▸ hb) hS1)
theorem f_clV {st0 : List Value} {a : Array Value} {v : Int64} {M1 : Nat → Nat → Int32} {L1 : Nat → Nat → Int64} (hr : va_Run p l e R s m args below meth c H locs cells slots 0 0 (F0 m pc ls st0) rest (fQl E (fun r u => u = (M1, L1) ∧ r = v) a) (fA E)) (hS : va_S (fA E) s.heap H locs)
    (kk : ∀ (H1 : Heap) (locs1 : List Loc), fP E M1 L1 H1 → va_S (fA E) s.heap H1 locs1 → W p l e R s m args below meth c H1 locs1 cells slots Q (F0 m (pc + 3) ls (.long v :: rest))) : W p l e R s m args below meth c H locs cells slots Q (F0 m pc ls st0) :=
  va_calll hr hS (fun _ _ h => h) (fun _ h => h) (fun r u t H1 locs1 ht _ hp hb _ _ hS1 => by obtain ⟨rfl, rfl⟩ := hp; exact kk H1 locs1 (ht ▸ hb) hS1)
theorem f_cvV {st0 : List Value} {a : Array Value} {M1 : Nat → Nat → Int32} {L1 : Nat → Nat → Int64} (hr : va_Run p l e R s m args below meth c H locs cells slots 0 0 (F0 m pc ls st0) rest (fQv E (fun u => u = (M1, L1)) a) (fA E)) (hS : va_S (fA E) s.heap H locs)
    (kk : ∀ (H1 : Heap) (locs1 : List Loc), fP E M1 L1 H1 → va_S (fA E) s.heap H1 locs1 → W p l e R s m args below meth c H1 locs1 cells slots Q (F0 m (pc + 3) ls rest)) : W p l e R s m args below meth c H locs cells slots Q (F0 m pc ls st0) :=
  va_callv hr hS (fun _ _ h => h) (fun _ h => h) (fun u t H1 locs1 ht _ hp hb _ _ hS1 => by have hp2 : u = (M1, L1) := hp; subst hp2; exact kk H1 locs1 (ht ▸ hb) hS1)
abbrev fRm (k lo : Nat) : Room := { frames := k, cells := 0, slots := 0, locals := lo }
/-- a call in one row: a method of an object of the world, its answer and the world behind it told -/
theorem f_iV (X : fX E p s m c args cc nL own) (hP : fP E M L H) (hS : va_S (fA E) s.heap H locs) {y : MethodName} {bytes : ByteArray} {maxL lo fr n index ci k : Nat} {ret : Option FieldType} {C : String} {TT : u_T} {N : Nat} (As rest : List Value) {st : List Value} {v : Int32} {M1 : Nat → Nat → Int32} {L1 : Nat → Nat → Int64} {lv : List (Nat × Value)}
    (hM : Met l y (wl y bytes maxL ret) (fRm fr lo) (va_Pc (.ref (fad E k) :: As) (fPre E M L)) (fQi E (fun r u => u = (M1, L1) ∧ r = v)) 0 0 (fA E)) (hl : Cond.methodLink own index y ∈ tb) (hw : fWI y bytes maxL ret) (hk : fsh k = ci) (hc : vwCl[ci]? = some (C, TT, N)) (hci : ci < 9)
    (hd : y.cls = C ∧ y.cls ≠ "java/lang/invoke/MethodHandle" ∧ y.cls ≠ "java/lang/invoke/VarHandle" ∧ (parseMethodDescriptor y.desc).map (fun d => d.parameters.length) = some n) (hR : fr + 1 ≤ R.frames ∧ 8 + (maxL + 11) + lo ≤ R.locals) (hn : As.length = n) (hls : lv_has ls nL lv) (hst : st = As.reverse ++ .ref (fad E k) :: rest) (hrm : (rest.map fun v => v.category).sum ≤ 8) (hcs : cells ≤ R.cells ∧ slots ≤ R.slots) (hdg : decode cc pc = .ok (.invokevirtual index, 3))
    (kk : ∀ (H1 : Heap) (locs1 : List Loc), fP E M1 L1 H1 → va_S (fA E) s.heap H1 locs1 → W p l e R s m args below meth c H1 locs1 cells slots Q (F0 m (pc + 3) ls (.int v :: rest))) : W p l e R s m args below meth c H locs cells slots Q (F0 m pc ls st) :=
  f_ciV (va_runV (As := As) (rest := rest) X.1 hM (cwV n X.1.2.2.2.2 (hd.1 ▸ gV hl hw) rfl rfl rfl hd hR) (fPreV X hP hS hk hc hci As) rfl hn hls.1 hst (lv_room hrm) hdg hcs) hS kk
theorem f_iVr (X : fX E p s m c args cc nL own) (hP : fP E M L H) (hS : va_S (fA E) s.heap H locs) {y : MethodName} {bytes : ByteArray} {maxL lo fr n index : Nat} {b : Addr} {ret : Option FieldType} {C : String} (As rest : List Value) {st : List Value} {v : Int32} {M1 : Nat → Nat → Int32} {L1 : Nat → Nat → Int64} {lv : List (Nat × Value)}
    (hM : Met l y (wl y bytes maxL ret) (fRm fr lo) (va_Pc (.ref b :: As) (fPre E M L)) (fQi E (fun r u => u = (M1, L1) ∧ r = v)) 0 0 (fA E)) (hl : Cond.methodLink own index y ∈ tb) (hw : fWI y bytes maxL ret) (hrv : ∃ cell : Cell, H[b]? = some cell ∧ cell.vm.isStatics = false ∧ s.vm.findClass C = some cell.cls)
    (hd : y.cls = C ∧ y.cls ≠ "java/lang/invoke/MethodHandle" ∧ y.cls ≠ "java/lang/invoke/VarHandle" ∧ (parseMethodDescriptor y.desc).map (fun d => d.parameters.length) = some n) (hR : fr + 1 ≤ R.frames ∧ 8 + (maxL + 11) + lo ≤ R.locals) (hn : As.length = n) (hls : lv_has ls nL lv) (hst : st = As.reverse ++ .ref b :: rest) (hrm : (rest.map fun v => v.category).sum ≤ 8) (hcs : cells ≤ R.cells ∧ slots ≤ R.slots) (hdg : decode cc pc = .ok (.invokevirtual index, 3))
    (kk : ∀ (H1 : Heap) (locs1 : List Loc), fP E M1 L1 H1 → va_S (fA E) s.heap H1 locs1 → W p l e R s m args below meth c H1 locs1 cells slots Q (F0 m (pc + 3) ls (.int v :: rest))) : W p l e R s m args below meth c H locs cells slots Q (F0 m pc ls st) :=
  f_ciV (va_runV (As := As) (rest := rest) X.1 hM (cwV n X.1.2.2.2.2 (hd.1 ▸ gV hl hw) rfl rfl rfl hd hR) ⟨fBlind _, hrv, fGive X hP hS _⟩ rfl hn hls.1 hst (lv_room hrm) hdg hcs) hS kk
theorem f_lV (X : fX E p s m c args cc nL own) (hP : fP E M L H) (hS : va_S (fA E) s.heap H locs) {y : MethodName} {bytes : ByteArray} {maxL lo fr n index ci k : Nat} {ret : Option FieldType} {C : String} {TT : u_T} {N : Nat} (As rest : List Value) {st : List Value} {v : Int64} {M1 : Nat → Nat → Int32} {L1 : Nat → Nat → Int64} {lv : List (Nat × Value)}
    (hM : Met l y (wl y bytes maxL ret) (fRm fr lo) (va_Pc (.ref (fad E k) :: As) (fPre E M L)) (fQl E (fun r u => u = (M1, L1) ∧ r = v)) 0 0 (fA E)) (hl : Cond.methodLink own index y ∈ tb) (hw : fWI y bytes maxL ret) (hk : fsh k = ci) (hc : vwCl[ci]? = some (C, TT, N)) (hci : ci < 9)
    (hd : y.cls = C ∧ y.cls ≠ "java/lang/invoke/MethodHandle" ∧ y.cls ≠ "java/lang/invoke/VarHandle" ∧ (parseMethodDescriptor y.desc).map (fun d => d.parameters.length) = some n) (hR : fr + 1 ≤ R.frames ∧ 8 + (maxL + 11) + lo ≤ R.locals) (hn : As.length = n) (hls : lv_has ls nL lv) (hst : st = As.reverse ++ .ref (fad E k) :: rest) (hrm : (rest.map fun v => v.category).sum ≤ 8) (hcs : cells ≤ R.cells ∧ slots ≤ R.slots) (hdg : decode cc pc = .ok (.invokevirtual index, 3))
    (kk : ∀ (H1 : Heap) (locs1 : List Loc), fP E M1 L1 H1 → va_S (fA E) s.heap H1 locs1 → W p l e R s m args below meth c H1 locs1 cells slots Q (F0 m (pc + 3) ls (.long v :: rest))) : W p l e R s m args below meth c H locs cells slots Q (F0 m pc ls st) :=
  f_clV (va_runV (As := As) (rest := rest) X.1 hM (cwV n X.1.2.2.2.2 (hd.1 ▸ gV hl hw) rfl rfl rfl hd hR) (fPreV X hP hS hk hc hci As) rfl hn hls.1 hst (lv_room hrm) hdg hcs) hS kk
theorem f_vV (X : fX E p s m c args cc nL own) (hP : fP E M L H) (hS : va_S (fA E) s.heap H locs) {y : MethodName} {bytes : ByteArray} {maxL lo fr n index ci k : Nat} {ret : Option FieldType} {C : String} {TT : u_T} {N : Nat} (As rest : List Value) {st : List Value} {M1 : Nat → Nat → Int32} {L1 : Nat → Nat → Int64} {lv : List (Nat × Value)}
    (hM : Met l y (wl y bytes maxL ret) (fRm fr lo) (va_Pc (.ref (fad E k) :: As) (fPre E M L)) (fQv E (fun u => u = (M1, L1))) 0 0 (fA E)) (hl : Cond.methodLink own index y ∈ tb) (hw : fWI y bytes maxL ret) (hk : fsh k = ci) (hc : vwCl[ci]? = some (C, TT, N)) (hci : ci < 9)
    (hd : y.cls = C ∧ y.cls ≠ "java/lang/invoke/MethodHandle" ∧ y.cls ≠ "java/lang/invoke/VarHandle" ∧ (parseMethodDescriptor y.desc).map (fun d => d.parameters.length) = some n) (hR : fr + 1 ≤ R.frames ∧ 8 + (maxL + 11) + lo ≤ R.locals) (hn : As.length = n) (hls : lv_has ls nL lv) (hst : st = As.reverse ++ .ref (fad E k) :: rest) (hrm : (rest.map fun v => v.category).sum ≤ 8) (hcs : cells ≤ R.cells ∧ slots ≤ R.slots) (hdg : decode cc pc = .ok (.invokevirtual index, 3))
    (kk : ∀ (H1 : Heap) (locs1 : List Loc), fP E M1 L1 H1 → va_S (fA E) s.heap H1 locs1 → W p l e R s m args below meth c H1 locs1 cells slots Q (F0 m (pc + 3) ls rest)) : W p l e R s m args below meth c H locs cells slots Q (F0 m pc ls st) :=
  f_cvV (va_runV (As := As) (rest := rest) X.1 hM (cwV n X.1.2.2.2.2 (hd.1 ▸ gV hl hw) rfl rfl rfl hd hR) (fPreV X hP hS hk hc hci As) rfl hn hls.1 hst (lv_room hrm) hdg hcs) hS kk
/-- .. its answer told by a property -/
theorem f_iG (X : fX E p s m c args cc nL own) (hP : fP E M L H) (hS : va_S (fA E) s.heap H locs) {y : MethodName} {bytes : ByteArray} {maxL lo fr n index ci k : Nat} {ret : Option FieldType} {C : String} {TT : u_T} {N : Nat} (As rest : List Value) {st : List Value} {post : Int32 → fM → Prop} {lv : List (Nat × Value)}
    (hM : Met l y (wl y bytes maxL ret) (fRm fr lo) (va_Pc (.ref (fad E k) :: As) (fPre E M L)) (fQi E post) 0 0 (fA E)) (hl : Cond.methodLink own index y ∈ tb) (hw : fWI y bytes maxL ret) (hk : fsh k = ci) (hc : vwCl[ci]? = some (C, TT, N)) (hci : ci < 9)
    (hd : y.cls = C ∧ y.cls ≠ "java/lang/invoke/MethodHandle" ∧ y.cls ≠ "java/lang/invoke/VarHandle" ∧ (parseMethodDescriptor y.desc).map (fun d => d.parameters.length) = some n) (hR : fr + 1 ≤ R.frames ∧ 8 + (maxL + 11) + lo ≤ R.locals) (hn : As.length = n) (hls : lv_has ls nL lv) (hst : st = As.reverse ++ .ref (fad E k) :: rest) (hrm : (rest.map fun v => v.category).sum ≤ 8) (hcs : cells ≤ R.cells ∧ slots ≤ R.slots) (hdg : decode cc pc = .ok (.invokevirtual index, 3))
    (kk : ∀ (r : Int32) (M1 : Nat → Nat → Int32) (L1 : Nat → Nat → Int64) (H1 : Heap) (locs1 : List Loc), post r (M1, L1) → fP E M1 L1 H1 → va_S (fA E) s.heap H1 locs1 → W p l e R s m args below meth c H1 locs1 cells slots Q (F0 m (pc + 3) ls (.int r :: rest))) : W p l e R s m args below meth c H locs cells slots Q (F0 m pc ls st) :=
  f_ci (va_runV (As := As) (rest := rest) X.1 hM (cwV n X.1.2.2.2.2 (hd.1 ▸ gV hl hw) rfl rfl rfl hd hR) (fPreV X hP hS hk hc hci As) rfl hn hls.1 hst (lv_room hrm) hdg hcs) hS kk
theorem f_vG (X : fX E p s m c args cc nL own) (hP : fP E M L H) (hS : va_S (fA E) s.heap H locs) {y : MethodName} {bytes : ByteArray} {maxL lo fr n index ci k : Nat} {ret : Option FieldType} {C : String} {TT : u_T} {N : Nat} (As rest : List Value) {st : List Value} {post : fM → Prop} {lv : List (Nat × Value)}
    (hM : Met l y (wl y bytes maxL ret) (fRm fr lo) (va_Pc (.ref (fad E k) :: As) (fPre E M L)) (fQv E post) 0 0 (fA E)) (hl : Cond.methodLink own index y ∈ tb) (hw : fWI y bytes maxL ret) (hk : fsh k = ci) (hc : vwCl[ci]? = some (C, TT, N)) (hci : ci < 9)
    (hd : y.cls = C ∧ y.cls ≠ "java/lang/invoke/MethodHandle" ∧ y.cls ≠ "java/lang/invoke/VarHandle" ∧ (parseMethodDescriptor y.desc).map (fun d => d.parameters.length) = some n) (hR : fr + 1 ≤ R.frames ∧ 8 + (maxL + 11) + lo ≤ R.locals) (hn : As.length = n) (hls : lv_has ls nL lv) (hst : st = As.reverse ++ .ref (fad E k) :: rest) (hrm : (rest.map fun v => v.category).sum ≤ 8) (hcs : cells ≤ R.cells ∧ slots ≤ R.slots) (hdg : decode cc pc = .ok (.invokevirtual index, 3))
    (kk : ∀ (M1 : Nat → Nat → Int32) (L1 : Nat → Nat → Int64) (H1 : Heap) (locs1 : List Loc), post (M1, L1) → fP E M1 L1 H1 → va_S (fA E) s.heap H1 locs1 → W p l e R s m args below meth c H1 locs1 cells slots Q (F0 m (pc + 3) ls rest)) : W p l e R s m args below meth c H locs cells slots Q (F0 m pc ls st) :=
  f_cv (va_runV (As := As) (rest := rest) X.1 hM (cwV n X.1.2.2.2.2 (hd.1 ▸ gV hl hw) rfl rfl rfl hd hR) (fPreV X hP hS hk hc hci As) rfl hn hls.1 hst (lv_room hrm) hdg hcs) hS kk
/-- a static method of ours, or of the JDK -/
theorem f_iS (X : fX E p s m c args cc nL own) (hP : fP E M L H) (hS : va_S (fA E) s.heap H locs) {y : MethodName} {bytes : ByteArray} {maxL lo fr n index : Nat} {ret : Option FieldType} (As rest : List Value) {st : List Value} {v : Int32} {M1 : Nat → Nat → Int32} {L1 : Nat → Nat → Int64} {lv : List (Nat × Value)}
    (hM : Met l y (wl y bytes maxL ret) (fRm fr lo) (va_Pc As (fPre E M L)) (fQi E (fun r u => u = (M1, L1) ∧ r = v)) 0 0 (fA E)) (hl : Cond.methodLink own index y ∈ tb) (hw : fWS y bytes maxL ret)
    (hd : y.cls ≠ "java/lang/invoke/MethodHandle" ∧ y.cls ≠ "java/lang/invoke/VarHandle" ∧ (parseMethodDescriptor y.desc).map (fun d => d.parameters.length) = some n) (hR : fr + 1 ≤ R.frames ∧ 8 + (maxL + 11) + lo ≤ R.locals) (hn : As.length = n) (hls : lv_has ls nL lv) (hst : st = As.reverse ++ rest) (hrm : (rest.map fun v => v.category).sum ≤ 8) (hcs : cells ≤ R.cells ∧ slots ≤ R.slots) (hdg : decode cc pc = .ok (.invokestatic index, 3))
    (kk : ∀ (H1 : Heap) (locs1 : List Loc), fP E M1 L1 H1 → va_S (fA E) s.heap H1 locs1 → W p l e R s m args below meth c H1 locs1 cells slots Q (F0 m (pc + 3) ls (.int v :: rest))) : W p l e R s m args below meth c H locs cells slots Q (F0 m pc ls st) :=
  f_ciV (va_runS (As := As) (rest := rest) X.1 hM (va_cwS n X.1.2.2.2.2 (gS hl hw) rfl rfl rfl hd hR) (fPreS X hP hS As) rfl hn hls.1 hst (lv_room hrm) hdg hcs) hS kk
theorem f_vS (X : fX E p s m c args cc nL own) (hP : fP E M L H) (hS : va_S (fA E) s.heap H locs) {y : MethodName} {bytes : ByteArray} {maxL lo fr n index : Nat} {ret : Option FieldType} (As rest : List Value) {st : List Value} {M1 : Nat → Nat → Int32} {L1 : Nat → Nat → Int64} {lv : List (Nat × Value)}
    (hM : Met l y (wl y bytes maxL ret) (fRm fr lo) (va_Pc As (fPre E M L)) (fQv E (fun u => u = (M1, L1))) 0 0 (fA E)) (hl : Cond.methodLink own index y ∈ tb) (hw : fWS y bytes maxL ret)
    (hd : y.cls ≠ "java/lang/invoke/MethodHandle" ∧ y.cls ≠ "java/lang/invoke/VarHandle" ∧ (parseMethodDescriptor y.desc).map (fun d => d.parameters.length) = some n) (hR : fr + 1 ≤ R.frames ∧ 8 + (maxL + 11) + lo ≤ R.locals) (hn : As.length = n) (hls : lv_has ls nL lv) (hst : st = As.reverse ++ rest) (hrm : (rest.map fun v => v.category).sum ≤ 8) (hcs : cells ≤ R.cells ∧ slots ≤ R.slots) (hdg : decode cc pc = .ok (.invokestatic index, 3))
    (kk : ∀ (H1 : Heap) (locs1 : List Loc), fP E M1 L1 H1 → va_S (fA E) s.heap H1 locs1 → W p l e R s m args below meth c H1 locs1 cells slots Q (F0 m (pc + 3) ls rest)) : W p l e R s m args below meth c H locs cells slots Q (F0 m pc ls st) :=
  f_cvV (va_runS (As := As) (rest := rest) X.1 hM (va_cwS n X.1.2.2.2.2 (gS hl hw) rfl rfl rfl hd hR) (fPreS X hP hS As) rfl hn hls.1 hst (lv_room hrm) hdg hcs) hS kk
/-- a private static method of the class around -/
theorem f_iN (X : fX E p s m c args cc nL own) (hP : fP E M L H) (hS : va_S (fA E) s.heap H locs) {y : MethodName} {bytes : ByteArray} {maxL lo fr n index : Nat} {ret : Option FieldType} (As rest : List Value) {st : List Value} {v : Int32} {M1 : Nat → Nat → Int32} {L1 : Nat → Nat → Int64} {lv : List (Nat × Value)} {host : String}
    (hM : Met l y (wl y bytes maxL ret) (fRm fr lo) (va_Pc As (fPre E M L)) (fQi E (fun r u => u = (M1, L1) ∧ r = v)) 0 0 (fA E)) (hl : va_Nw (.methodLinkNest own index y host) s) (hw : fWS y bytes maxL ret)
    (hd : y.cls ≠ "java/lang/invoke/MethodHandle" ∧ y.cls ≠ "java/lang/invoke/VarHandle" ∧ (parseMethodDescriptor y.desc).map (fun d => d.parameters.length) = some n) (hR : fr + 1 ≤ R.frames ∧ 8 + (maxL + 11) + lo ≤ R.locals) (hn : As.length = n) (hls : lv_has ls nL lv) (hst : st = As.reverse ++ rest) (hrm : (rest.map fun v => v.category).sum ≤ 8) (hcs : cells ≤ R.cells ∧ slots ≤ R.slots) (hdg : decode cc pc = .ok (.invokestatic index, 3))
    (kk : ∀ (H1 : Heap) (locs1 : List Loc), fP E M1 L1 H1 → va_S (fA E) s.heap H1 locs1 → W p l e R s m args below meth c H1 locs1 cells slots Q (F0 m (pc + 3) ls (.int v :: rest))) : W p l e R s m args below meth c H locs cells slots Q (F0 m pc ls st) :=
  f_ciV (va_runSN (As := As) (rest := rest) X.1 hM ⟨va_cnB n X.1.2.2.2.2 (wl_good hw.2.2) rfl rfl rfl hl (X.ht hw.2.1) hd hR, X.ht hw.1, trivial⟩ (fPreS X hP hS As) rfl hn hls.1 hst (lv_room hrm) hdg hcs) hS kk
/-- loops and places where ways meet -/
theorem f_loop {α : Type} (Inv : α → Heap → List Loc → Array Slot → Prop) (ms : α → Nat) {pc0 : Nat} {st : α → List Value} (step : ∀ a H locs ls, Inv a H locs ls → (∀ b H1 locs1 ls1, ms b < ms a → Inv b H1 locs1 ls1 → W p l e R s m args below meth c H1 locs1 cells slots Q (F0 m pc0 ls1 (st b))) → W p l e R s m args below meth c H locs cells slots Q (F0 m pc0 ls (st a))) :
    ∀ a H locs ls, Inv a H locs ls → W p l e R s m args below meth c H locs cells slots Q (F0 m pc0 ls (st a)) := by
  have key : ∀ (n : Nat) a H locs ls, ms a ≤ n → Inv a H locs ls → W p l e R s m args below meth c H locs cells slots Q (F0 m pc0 ls (st a)) := by
    intro n
    induction n with
    | zero => exact fun a H locs ls hn hi => step a H locs ls hi (fun b _ _ _ hb _ => absurd hb (by omega))
    | succ n ih => exact fun a H locs ls hn hi => step a H locs ls hi (fun b H1 locs1 ls1 hb hi1 => ih b H1 locs1 ls1 (by omega) hi1)
  exact fun a H locs ls hi => key (ms a) a H locs ls (Nat.le_refl _) hi
theorem f_join {α : Type} (Inv : α → Heap → List Loc → Array Slot → Prop) {pc0 : Nat} {st : α → List Value} {g : JFrame} (k : ∀ a H locs ls, Inv a H locs ls → W p l e R s m args below meth c H locs cells slots Q (F0 m pc0 ls (st a)))
    (h : (∀ a H locs ls, Inv a H locs ls → W p l e R s m args below meth c H locs cells slots Q (F0 m pc0 ls (st a))) → W p l e R s m args below meth c H locs cells slots Q g) : W p l e R s m args below meth c H locs cells slots Q g := h k
end FR
theorem f_head {l : Launch} {y : MethodName} {rm : Room} {Qc : Array Value → State → Outcome → State → Prop} {cc : ByteArray} {maxL : Nat} {ret : Option FieldType} {E : fE} {M : Nat → Nat → Int32} {L : Nat → Nat → Int64} {av : List Value} (hy : plainName y.cls = true) (hlen : (lg_sl av).length ≤ maxL)
    (body : ∀ (p : Program) (e : Env) (s : State) (m : MethodId) (below : List Frame) (meth : Method) (c : Code) (ls : Array Slot), fX E p s m c av.toArray cc maxL y.cls → meth.sig.returnType = ret → meth.locks = false → fP E M L s.heap → va_S (fA E) s.heap s.heap [] → lv_has ls maxL (lv_args 0 av) →
      W p l e rm s m av.toArray below meth c s.heap [] 0 0 (MQ below Qc av.toArray s 0 0 (fA E)) (F0 m 0 ls [])) : Met l y (wl y cc maxL ret) rm (va_Pc av (fPre E M L)) Qc 0 0 (fA E) := by
  refine Met.ofW (cc := cc) (maxL := maxL) (ret := ret) hy rfl ?_
  intro p e s m args below meth c s₁ B hml hv
  obtain ⟨rfl, hP, hK, hI, hSt⟩ := hv
  rw [lg_entry_eq]
  exact body p e s m below meth c _ ⟨⟨B.exec, B.bytes, hml, findClass_of_methodNamed B.named, fun w hw => atoms_spec (ws := wl y cc maxL ret) B.pre w (List.mem_cons_of_mem _ hw)⟩, hK, hI, hSt⟩ B.returns B.notSynchronized hP va_S.rf (lv_entry av hlen)
