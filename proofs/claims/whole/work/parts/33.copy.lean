section CPY
variable {p : Program} {l : Launch} {e : Env} {R : Room} {s : State} {m : MethodId} {args : Array Value} {below : List Frame} {meth : Method} {c : Code} {H : Heap} {locs : List Loc} {cells slots : Nat} {Q : State → Prop}
variable {cc : ByteArray} {pc nL : Nat} {ls : Array Slot} {rest : List Value} {own : String} {E : fE} {M : Nat → Nat → Int32} {L : Nat → Nat → Int64}
theorem f_cpl (X : fX E p s m c args cc nL own) (hP : fP E M L H) (hS : va_S (fA E) s.heap H locs) (hx : p.tables.exec = exec) (hb : c.code = cc) (hml : c.maxLocals = ls.size) {k0 k1 : Nat} (hk0 : fsh k0 = 10) (hn0 : fln k0 = 160) (hk1 : fsh k1 = 10) (hn1 : fln k1 = 160)
    {sp dp n : Int32} {index : Nat} (hh : ¬ sp < 0 ∧ ¬ dp < 0 ∧ ¬ n < 0 ∧ sp.toNatClampNeg + n.toNatClampNeg ≤ 160 ∧ dp.toNatClampNeg + n.toNatClampNeg ≤ 160)
    (hl : Cond.methodLink own index arraycopyName ∈ tb) (hnat : Cond.native arraycopyName ∈ tb) (hstat : Cond.static arraycopyName ∈ tb) (hini : Cond.initialized "java/lang/System" ∈ tb)
    (hframes : 1 ≤ R.frames) (hlocals : (rest.map fun v => v.category).sum + (nativeFrameWords "java/lang/System" "arraycopy" 5 + 11) ≤ R.locals) (hdg : decode cc pc = .ok (.invokestatic index, 3))
    (kk : ∀ (H1 : Heap) (locs1 : List Loc), fP E M (cpL L k0 k1 sp.toNatClampNeg dp.toNatClampNeg n.toNatClampNeg) H1 → va_S (fA E) s.heap H1 locs1 → W p l e R s m args below meth c H1 locs1 cells slots Q (F0 m (pc + 3) ls rest)) :
    W p l e R s m args below meth c H locs cells slots Q (F0 m pc ls (.int n :: .int dp :: .ref (fad E k1) :: .int sp :: .ref (fad E k0) :: rest)) := by
  have hown := X.1.2.2.2.1
  have ht := X.ht (w := Cond.methodLink own index arraycopyName) hl
  have htn := X.ht (w := Cond.native arraycopyName) hnat
  have hts2 := X.ht (w := Cond.static arraycopyName) hstat
  have hti := X.ht (w := Cond.initialized "java/lang/System") hini
  obtain ⟨h1, h2, h3, h4, h5⟩ := hh
  obtain ⟨⟨-, -, -, ho, hts⟩, hK, hI, hSt⟩ := X
  have hs2 : (fW E M L).set k1 (fad E k1, .inl (fca E 1, fln k1, .inr (.inl (va_cpy (L k0) (L k1) sp.toNatClampNeg dp.toNatClampNeg n.toNatClampNeg)))) = fW E M (cpL L k0 k1 sp.toNatClampNeg dp.toNatClampNeg n.toNatClampNeg) := by
    have e1 : cpL L k0 k1 sp.toNatClampNeg dp.toNatClampNeg n.toNatClampNeg k1 = va_cpy (L k0) (L k1) sp.toNatClampNeg dp.toNatClampNeg n.toNatClampNeg := if_pos rfl
    rw [← e1, ← fcell_longs E M (cpL L k0 k1 sp.toNatClampNeg dp.toNatClampNeg n.toNatClampNeg) hk1]
    exact fW_set E M M L (cpL L k0 k1 sp.toNatClampNeg dp.toNatClampNeg n.toNatClampNeg) (fun a ha => fcell_upA E M L k1 _ ha)
  refine va_copyl hx hb hml hown ht htn hts2 hti hK hP (fD E M L hI) hS k0 k1 1 1 (by rw [fW_at E M L (fsh_lt hk0 (by omega)), fcell_longs E M L hk0]) (by rw [fW_at E M L (fsh_lt hk1 (by omega)), fcell_longs E M L hk1]) rfl rfl rfl h1 h2 h3 (by rw [hn0]; exact h4) (by rw [hn1]; exact h5) (fun _ _ => rfl) hframes hlocals hdg (fun H1 locs1 hP1 _ hS1 => ?_)
  rw [hs2] at hP1
  exact kk H1 locs1 hP1 hS1
end CPY
theorem part_ok {i n z : Int32} (h : 0 ≤ i ∧ i ≤ z ∧ 0 ≤ n ∧ n ≤ z - i) (hz : 0 ≤ z ∧ z ≤ 160) : i.toNatClampNeg + n.toNatClampNeg ≤ 160 := by
  obtain ⟨a, ha, rfl⟩ := i_le 160 hz.1 hz.2 (by decide)
  obtain ⟨b, hb, rfl⟩ := i_le a h.1 h.2.1 (by omega)
  have h4 := h.2.2.2
  rw [nI_sub hb] at h4
  obtain ⟨d, hd, rfl⟩ := i_le (a - b) h.2.2.1 h4 (by omega)
  rw [nI_clamp (by omega), nI_clamp (by omega)]
  omega
