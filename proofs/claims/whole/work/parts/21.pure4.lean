theorem letF_lt {lt : Nat → Int32} {sz p : Nat} (h : ¬ letF lt sz p = 0) : p < sz := by
  unfold letF at h
  split at h
  · next q => exact q
  · exact absurd rfl h
theorem signF_le {lt : Nat → Int32} {sz : Nat} {c : Int32} {s : Nat × Int32} (hc : ¬ c = 0) (hs : s.1 ≤ sz) : (signF lt sz c s).1 ≤ sz := by
  unfold signF
  split
  · split
    · next h => exact letF_lt (fun q => hc (h.symm.trans q))
    · exact hs
  · exact hs
def isD (c : Int32) : Prop := 48 ≤ c ∧ c ≤ 57
theorem isD_ne {c : Int32} (h : 48 ≤ c ∧ c ≤ 57) : ¬ c = 0 := by
  rintro rfl
  exact absurd h.1 (by decide)
def numF (lt : Nat → Int32) (sz : Nat) (lo hi : Int32) (s : Nat × Int32) : Int32 × (Nat × Int32) :=
  if ¬ (signF lt sz 32 s).2 = -1 then (-1, signF lt sz 32 s) else
  if ¬ (48 ≤ letF lt sz (signF lt sz 32 s).1 ∧ letF lt sz (signF lt sz 32 s).1 ≤ 57) then (-1, ((signF lt sz 32 s).1, nI (signF lt sz 32 s).1)) else
  if 48 ≤ letF lt sz ((signF lt sz 32 s).1 + 1) ∧ letF lt sz ((signF lt sz 32 s).1 + 1) ≤ 57 then
    (if lo ≤ (letF lt sz (signF lt sz 32 s).1 - 48) * 10 + (letF lt sz ((signF lt sz 32 s).1 + 1) - 48) ∧ (letF lt sz (signF lt sz 32 s).1 - 48) * 10 + (letF lt sz ((signF lt sz 32 s).1 + 1) - 48) ≤ hi then ((letF lt sz (signF lt sz 32 s).1 - 48) * 10 + (letF lt sz ((signF lt sz 32 s).1 + 1) - 48), ((signF lt sz 32 s).1 + 1 + 1, -1)) else (-1, ((signF lt sz 32 s).1 + 1 + 1, nI (signF lt sz 32 s).1)))
  else
    (if lo ≤ letF lt sz (signF lt sz 32 s).1 - 48 ∧ letF lt sz (signF lt sz 32 s).1 - 48 ≤ hi then (letF lt sz (signF lt sz 32 s).1 - 48, ((signF lt sz 32 s).1 + 1, -1)) else (-1, ((signF lt sz 32 s).1 + 1, nI (signF lt sz 32 s).1)))
theorem numF_le {lt : Nat → Int32} {sz : Nat} {lo hi : Int32} {s : Nat × Int32} (hs : s.1 ≤ sz) : (numF lt sz lo hi s).2.1 ≤ sz := by
  have h1 := signF_le (lt := lt) (c := 32) (by decide) hs
  unfold numF
  generalize signF lt sz 32 s = t at h1 ⊢
  split
  · exact h1
  split
  · exact h1
  next h2 =>
  have h2 := Decidable.not_not.mp h2
  have h3 := letF_lt (isD_ne h2)
  split
  · next h4 =>
    have h5 := letF_lt (isD_ne h4)
    split <;> exact h5
  · split <;> exact h3
def chrF (iw i : Nat) : Int32 := (fwb.getD iw []).getD i 0
theorem chrF_ne {iw i : Nat} (h1 : iw < 4) (h2 : i < fwl.getD iw 0) : ¬ chrF iw i = 0 := (show ∀ iw, iw < 4 → ∀ i, i < fwl.getD iw 0 → ¬ chrF iw i = 0 by decide +kernel) iw h1 i h2
def lettersF (lt : Nat → Int32) (sz iw : Nat) (s : Nat × Int32) (n : Nat) : Nat × Int32 := itF (fun i t => signF lt sz (chrF iw i) t) s n
def wordsF (lt : Nat → Int32) (sz iw : Nat) (rm : Int32) (s : Nat × Int32) : Nat × Int32 := if (lettersF lt sz iw s (fwl.getD iw 0)).2 = -1 ∧ rm = 0 then ((lettersF lt sz iw s (fwl.getD iw 0)).1, nI s.1) else lettersF lt sz iw s (fwl.getD iw 0)
theorem lettersF_le {lt : Nat → Int32} {sz iw : Nat} {s : Nat × Int32} (hi : iw < 4) (hs : s.1 ≤ sz) : ∀ n, n ≤ fwl.getD iw 0 → (lettersF lt sz iw s n).1 ≤ sz
  | 0, _ => hs
  | n + 1, h => signF_le (chrF_ne hi h) (lettersF_le hi hs n (by omega))
theorem wordsF_le {lt : Nat → Int32} {sz iw : Nat} {rm : Int32} {s : Nat × Int32} (hi : iw < 4) (hs : s.1 ≤ sz) : (wordsF lt sz iw rm s).1 ≤ sz := by
  unfold wordsF
  split <;> exact lettersF_le hi hs _ (Nat.le_refl _)
/-- the numbers of a draft's things and waiters -/
def tcN (M : Nat → Nat → Int32) : Nat := (M 54 3).toNatClampNeg
def wcN (M : Nat → Nat → Int32) : Nat := (M 54 4).toNatClampNeg
def cntN (M : Nat → Nat → Int32) : Prop := M 54 3 = nI (tcN M) ∧ tcN M ≤ 8 ∧ M 54 4 = nI (wcN M) ∧ wcN M ≤ 6
abbrev fS : Type := (Nat → Nat → Int32) × (Nat × Int32)
def thF (M : Nat → Nat → Int32) (sz : Nat) (s : Nat × Int32) : fS :=
  let s0 := wordsF (M 73) sz 0 (bI (decide (M 54 3 < 8))) s
  let a1 := numF (M 73) sz 0 9 s0
  let a2 := numF (M 73) sz 0 23 a1.2
  let a3 := numF (M 73) sz a2.1 23 a2.2
  let a4 := numF (M 73) sz 0 9 a3.2
  let a5 := numF (M 73) sz 0 99 a4.2
  let a6 := numF (M 73) sz 0 9 a5.2
  let a7 := numF (M 73) sz 0 20 a6.2
  (if a7.2.2 = -1 then (if tcN M < 8 then addT M 54 (tcN M) a1.1 a2.1 a3.1 a4.1 a5.1 a6.1 a7.1 else M) else M, a7.2)
def waF (M : Nat → Nat → Int32) (sz : Nat) (s : Nat × Int32) : fS :=
  let s0 := wordsF (M 73) sz 1 (bI (decide (M 54 4 < 6))) s
  let a1 := numF (M 73) sz 0 6 s0
  let a2 := numF (M 73) sz 0 9 a1.2
  let a3 := numF (M 73) sz 1 9 a2.2
  let a4 := numF (M 73) sz 1 24 a3.2
  let a5 := numF (M 73) sz 0 9 a4.2
  (if a5.2.2 = -1 then (if wcN M < 6 then addW M 54 (wcN M) a1.1 a2.1 a3.1 a4.1 a5.1 else M) else M, a5.2)
def moF (M : Nat → Nat → Int32) (sz : Nat) (s : Nat × Int32) : fS :=
  let s0 := wordsF (M 73) sz 2 1 s
  let a1 := numF (M 73) sz 0 (M 54 4 - 1) s0
  let a2 := numF (M 73) sz 0 9 a1.2
  (if a2.2.2 = -1 then (if 0 ≤ a1.1 ∧ a1.1 < M 54 4 ∧ a1.1 < 6 then up2 M (66 + a1.1.toNatClampNeg) 5 a2.1 else M) else M, a2.2)
def hoF (M : Nat → Nat → Int32) (sz : Nat) (s : Nat × Int32) : fS :=
  let s0 := wordsF (M 73) sz 3 1 s
  let a1 := numF (M 73) sz 0 9 s0
  (if a1.2.2 = -1 then up2 M 54 5 a1.1 else M, a1.2)
def itemF (M : Nat → Nat → Int32) (sz : Nat) (s : Nat × Int32) : fS :=
  if ¬ s.2 = -1 then (M, s) else
  let N := up2 M 72 1 (M 72 1 + 1)
  let c := letF (M 73) sz s.1
  if c = 104 then hoF N sz s else if c = 109 then moF N sz s else if c = 116 then thF N sz s else if c = 119 then waF N sz s else (N, (s.1, nI s.1))
def restF (sz : Nat) : Nat → fS → fS
  | 0, s => s
  | n + 1, s => if s.2.2 = -1 ∧ s.2.1 < sz then restF sz n (itemF s.1 sz (signF (s.1 73) sz 59 s.2)) else s
theorem addT_pM {M : Nat → Nat → Int32} {p : Nat} {f : Int32} {t : Nat} {a1 a2 a3 a4 a5 a6 a7 : Int32} : pM (if t < 8 then addT M 54 t a1 a2 a3 a4 a5 a6 a7 else M) p f = if t < 8 then addT (pM M p f) 54 t a1 a2 a3 a4 a5 a6 a7 else pM M p f := by
  split
  · next h =>
    unfold addT
    repeat rw [pM_wo _ _ _ _ (Or.inl (by omega))]
  · rfl
theorem addW_pM {M : Nat → Nat → Int32} {p : Nat} {f : Int32} {t : Nat} {a1 a2 a3 a4 a5 : Int32} : pM (if t < 6 then addW M 54 t a1 a2 a3 a4 a5 else M) p f = if t < 6 then addW (pM M p f) 54 t a1 a2 a3 a4 a5 else pM M p f := by
  split
  · next h =>
    unfold addW
    repeat rw [pM_wo _ _ _ _ (Or.inl (by omega))]
  · rfl
section NF
variable {lt : Nat → Int32} {sz p1 : Nat} {lo hi : Int32} {s : Nat × Int32} {f1 : Int32}
theorem numF_1 (es : signF lt sz 32 s = (p1, f1)) (h : ¬ f1 = -1) : numF lt sz lo hi s = (-1, (p1, f1)) := by
  unfold numF; rw [es, if_pos h]
theorem numF_2 (es : signF lt sz 32 s = (p1, -1)) (h : ¬ (48 ≤ letF lt sz p1 ∧ letF lt sz p1 ≤ 57)) : numF lt sz lo hi s = (-1, (p1, nI p1)) := by
  unfold numF; rw [es, if_neg (Decidable.not_not.mpr rfl), if_pos h]
theorem numF_3 (es : signF lt sz 32 s = (p1, -1)) (h : 48 ≤ letF lt sz p1 ∧ letF lt sz p1 ≤ 57) (h1 : 48 ≤ letF lt sz (p1 + 1) ∧ letF lt sz (p1 + 1) ≤ 57) (h2 : lo ≤ (letF lt sz p1 - 48) * 10 + (letF lt sz (p1 + 1) - 48) ∧ (letF lt sz p1 - 48) * 10 + (letF lt sz (p1 + 1) - 48) ≤ hi) : numF lt sz lo hi s = ((letF lt sz p1 - 48) * 10 + (letF lt sz (p1 + 1) - 48), (p1 + 1 + 1, -1)) := by
  unfold numF; rw [es, if_neg (Decidable.not_not.mpr rfl), if_neg (Decidable.not_not.mpr h), if_pos h1, if_pos h2]
theorem numF_4 (es : signF lt sz 32 s = (p1, -1)) (h : 48 ≤ letF lt sz p1 ∧ letF lt sz p1 ≤ 57) (h1 : 48 ≤ letF lt sz (p1 + 1) ∧ letF lt sz (p1 + 1) ≤ 57) (h2 : ¬ (lo ≤ (letF lt sz p1 - 48) * 10 + (letF lt sz (p1 + 1) - 48) ∧ (letF lt sz p1 - 48) * 10 + (letF lt sz (p1 + 1) - 48) ≤ hi)) : numF lt sz lo hi s = (-1, (p1 + 1 + 1, nI p1)) := by
  unfold numF; rw [es, if_neg (Decidable.not_not.mpr rfl), if_neg (Decidable.not_not.mpr h), if_pos h1, if_neg h2]
theorem numF_5 (es : signF lt sz 32 s = (p1, -1)) (h : 48 ≤ letF lt sz p1 ∧ letF lt sz p1 ≤ 57) (h1 : ¬ (48 ≤ letF lt sz (p1 + 1) ∧ letF lt sz (p1 + 1) ≤ 57)) (h2 : lo ≤ letF lt sz p1 - 48 ∧ letF lt sz p1 - 48 ≤ hi) : numF lt sz lo hi s = (letF lt sz p1 - 48, (p1 + 1, -1)) := by
  unfold numF; rw [es, if_neg (Decidable.not_not.mpr rfl), if_neg (Decidable.not_not.mpr h), if_neg h1, if_pos h2]
theorem numF_6 (es : signF lt sz 32 s = (p1, -1)) (h : 48 ≤ letF lt sz p1 ∧ letF lt sz p1 ≤ 57) (h1 : ¬ (48 ≤ letF lt sz (p1 + 1) ∧ letF lt sz (p1 + 1) ≤ 57)) (h2 : ¬ (lo ≤ letF lt sz p1 - 48 ∧ letF lt sz p1 - 48 ≤ hi)) : numF lt sz lo hi s = (-1, (p1 + 1, nI p1)) := by
  unfold numF; rw [es, if_neg (Decidable.not_not.mpr rfl), if_neg (Decidable.not_not.mpr h), if_neg h1, if_neg h2]
end NF
theorem ex2 {α β : Type} (x : α × β) : ∃ a b, x = (a, b) := ⟨x.1, x.2, rfl⟩
theorem ex3 {α β γ : Type} (x : α × β × γ) : ∃ v a b, x = (v, (a, b)) := ⟨x.1, x.2.1, x.2.2, rfl⟩
