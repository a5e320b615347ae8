theorem cntN_up {M : Nat → Nat → Int32} {a j : Nat} {v : Int32} (h : cntN M) (ha : ¬ (a = 54 ∧ (j = 3 ∨ j = 4))) : cntN (up2 M a j v) := by
  have e3 : up2 M a j v 54 3 = M 54 3 := up2_o _ _ (by omega)
  have e4 : up2 M a j v 54 4 = M 54 4 := up2_o _ _ (by omega)
  unfold cntN tcN wcN
  rw [e3, e4]
  exact h
theorem addT_cnt {M : Nat → Nat → Int32} {a1 a2 a3 a4 a5 a6 a7 : Int32} (h : cntN M) (ht : tcN M < 8) : cntN (addT M 54 (tcN M) a1 a2 a3 a4 a5 a6 a7) := by
  have e3 : addT M 54 (tcN M) a1 a2 a3 a4 a5 a6 a7 54 3 = nI (tcN M + 1) := by unfold addT; rw [up2_s]
  have e4 : addT M 54 (tcN M) a1 a2 a3 a4 a5 a6 a7 54 4 = M 54 4 := by
    unfold addT
    rw [up2_o _ _ (Or.inr (by decide))]
    repeat rw [up2_o _ _ (Or.inl (by omega))]
  have e : tcN (addT M 54 (tcN M) a1 a2 a3 a4 a5 a6 a7) = tcN M + 1 := by
    show (addT M 54 (tcN M) a1 a2 a3 a4 a5 a6 a7 54 3).toNatClampNeg = _
    rw [e3, nI_clamp (by omega)]
  have e2 : wcN (addT M 54 (tcN M) a1 a2 a3 a4 a5 a6 a7) = wcN M := by
    show (addT M 54 (tcN M) a1 a2 a3 a4 a5 a6 a7 54 4).toNatClampNeg = _
    rw [e4]; rfl
  unfold cntN
  rw [e, e2, e3, e4]
  exact ⟨rfl, by omega, h.2.2⟩
theorem addW_cnt {M : Nat → Nat → Int32} {a1 a2 a3 a4 a5 : Int32} (h : cntN M) (ht : wcN M < 6) : cntN (addW M 54 (wcN M) a1 a2 a3 a4 a5) := by
  have e3 : addW M 54 (wcN M) a1 a2 a3 a4 a5 54 4 = nI (wcN M + 1) := by unfold addW; rw [up2_s]
  have e4 : addW M 54 (wcN M) a1 a2 a3 a4 a5 54 3 = M 54 3 := by
    unfold addW
    rw [up2_o _ _ (Or.inr (by decide))]
    repeat rw [up2_o _ _ (Or.inl (by omega))]
  have e : wcN (addW M 54 (wcN M) a1 a2 a3 a4 a5) = wcN M + 1 := by
    show (addW M 54 (wcN M) a1 a2 a3 a4 a5 54 4).toNatClampNeg = _
    rw [e3, nI_clamp (by omega)]
  have e2 : tcN (addW M 54 (wcN M) a1 a2 a3 a4 a5) = tcN M := by
    show (addW M 54 (wcN M) a1 a2 a3 a4 a5 54 3).toNatClampNeg = _
    rw [e4]; rfl
  unfold cntN
  rw [e, e2, e3, e4]
  exact ⟨h.1, h.2.1, rfl, by omega⟩
/-- what reading leaves alone: all but the draft and the number of items -/
def frI (M M1 : Nat → Nat → Int32) : Prop := ∀ a j, (a < 54 ∨ 72 ≤ a) → ¬ (a = 72 ∧ j = 1) → M1 a j = M a j
theorem frI.rf {M : Nat → Nat → Int32} : frI M M := fun _ _ _ _ => rfl
theorem frI.tr {A B C : Nat → Nat → Int32} (h1 : frI A B) (h2 : frI B C) : frI A C := fun x j q1 q2 => (h2 x j q1 q2).trans (h1 x j q1 q2)
theorem frI.up {M : Nat → Nat → Int32} {a j : Nat} {v : Int32} (h : (54 ≤ a ∧ a < 72) ∨ (a = 72 ∧ j = 1)) : frI M (up2 M a j v) := fun x y q1 q2 => up2_o _ _ (by omega)
theorem frI.addT {M : Nat → Nat → Int32} {t : Nat} {a1 a2 a3 a4 a5 a6 a7 : Int32} (ht : t < 8) : frI M (addT M 54 t a1 a2 a3 a4 a5 a6 a7) := by
  unfold _root_.Jvm.Pilot.CHiredToWaitLaw_law_r6357_502e26.addT
  exact ((((((((frI.rf.tr (frI.up (Or.inl (by omega)))).tr (frI.up (Or.inl (by omega)))).tr (frI.up (Or.inl (by omega)))).tr (frI.up (Or.inl (by omega)))).tr (frI.up (Or.inl (by omega)))).tr (frI.up (Or.inl (by omega)))).tr (frI.up (Or.inl (by omega)))).tr (frI.up (Or.inl (by omega))))
theorem frI.addW {M : Nat → Nat → Int32} {t : Nat} {a1 a2 a3 a4 a5 : Int32} (ht : t < 6) : frI M (addW M 54 t a1 a2 a3 a4 a5) := by
  unfold _root_.Jvm.Pilot.CHiredToWaitLaw_law_r6357_502e26.addW
  exact ((((((frI.rf.tr (frI.up (Or.inl (by omega)))).tr (frI.up (Or.inl (by omega)))).tr (frI.up (Or.inl (by omega)))).tr (frI.up (Or.inl (by omega)))).tr (frI.up (Or.inl (by omega)))).tr (frI.up (Or.inl (by omega))))
def okI (M : Nat → Nat → Int32) (sz : Nat) (r : fS) : Prop := r.2.1 ≤ sz ∧ cntN r.1 ∧ frI M r.1
theorem thF_ok {M : Nat → Nat → Int32} {sz : Nat} {s : Nat × Int32} (hs : s.1 ≤ sz) (hc : cntN M) : okI M sz (thF M sz s) := by
  obtain ⟨p0, f0, e0⟩ := ex2 (wordsF (M 73) sz 0 (bI (decide (M 54 3 < 8))) s)
  have hp0 : p0 ≤ sz := by have := wordsF_le (lt := M 73) (iw := 0) (rm := (bI (decide (M 54 3 < 8)))) (s := s) (by decide) hs; rw [e0] at this; exact this
  obtain ⟨v1, p1, f1, e1⟩ := ex3 (numF (M 73) sz 0 9 (p0, f0))
  have hp1 : p1 ≤ sz := by have := numF_le (lt := M 73) (lo := 0) (hi := 9) (s := (p0, f0)) hp0; rw [e1] at this; exact this
  obtain ⟨v2, p2, f2, e2⟩ := ex3 (numF (M 73) sz 0 23 (p1, f1))
  have hp2 : p2 ≤ sz := by have := numF_le (lt := M 73) (lo := 0) (hi := 23) (s := (p1, f1)) hp1; rw [e2] at this; exact this
  obtain ⟨v3, p3, f3, e3⟩ := ex3 (numF (M 73) sz v2 23 (p2, f2))
  have hp3 : p3 ≤ sz := by have := numF_le (lt := M 73) (lo := v2) (hi := 23) (s := (p2, f2)) hp2; rw [e3] at this; exact this
  obtain ⟨v4, p4, f4, e4⟩ := ex3 (numF (M 73) sz 0 9 (p3, f3))
  have hp4 : p4 ≤ sz := by have := numF_le (lt := M 73) (lo := 0) (hi := 9) (s := (p3, f3)) hp3; rw [e4] at this; exact this
  obtain ⟨v5, p5, f5, e5⟩ := ex3 (numF (M 73) sz 0 99 (p4, f4))
  have hp5 : p5 ≤ sz := by have := numF_le (lt := M 73) (lo := 0) (hi := 99) (s := (p4, f4)) hp4; rw [e5] at this; exact this
  obtain ⟨v6, p6, f6, e6⟩ := ex3 (numF (M 73) sz 0 9 (p5, f5))
  have hp6 : p6 ≤ sz := by have := numF_le (lt := M 73) (lo := 0) (hi := 9) (s := (p5, f5)) hp5; rw [e6] at this; exact this
  obtain ⟨v7, p7, f7, e7⟩ := ex3 (numF (M 73) sz 0 20 (p6, f6))
  have hp7 : p7 ≤ sz := by have := numF_le (lt := M 73) (lo := 0) (hi := 20) (s := (p6, f6)) hp6; rw [e7] at this; exact this
  unfold thF
  simp only [e0, e1, e2, e3, e4, e5, e6, e7]
  unfold okI
  refine ⟨hp7, ?_, ?_⟩
  · dsimp only
    split
    · split
      · next h => exact addT_cnt hc h
      · exact hc
    · exact hc
  · dsimp only
    split
    · split
      · next h => exact frI.addT h
      · exact frI.rf
    · exact frI.rf
theorem waF_ok {M : Nat → Nat → Int32} {sz : Nat} {s : Nat × Int32} (hs : s.1 ≤ sz) (hc : cntN M) : okI M sz (waF M sz s) := by
  obtain ⟨p0, f0, e0⟩ := ex2 (wordsF (M 73) sz 1 (bI (decide (M 54 4 < 6))) s)
  have hp0 : p0 ≤ sz := by have := wordsF_le (lt := M 73) (iw := 1) (rm := (bI (decide (M 54 4 < 6)))) (s := s) (by decide) hs; rw [e0] at this; exact this
  obtain ⟨v1, p1, f1, e1⟩ := ex3 (numF (M 73) sz 0 6 (p0, f0))
  have hp1 : p1 ≤ sz := by have := numF_le (lt := M 73) (lo := 0) (hi := 6) (s := (p0, f0)) hp0; rw [e1] at this; exact this
  obtain ⟨v2, p2, f2, e2⟩ := ex3 (numF (M 73) sz 0 9 (p1, f1))
  have hp2 : p2 ≤ sz := by have := numF_le (lt := M 73) (lo := 0) (hi := 9) (s := (p1, f1)) hp1; rw [e2] at this; exact this
  obtain ⟨v3, p3, f3, e3⟩ := ex3 (numF (M 73) sz 1 9 (p2, f2))
  have hp3 : p3 ≤ sz := by have := numF_le (lt := M 73) (lo := 1) (hi := 9) (s := (p2, f2)) hp2; rw [e3] at this; exact this
  obtain ⟨v4, p4, f4, e4⟩ := ex3 (numF (M 73) sz 1 24 (p3, f3))
  have hp4 : p4 ≤ sz := by have := numF_le (lt := M 73) (lo := 1) (hi := 24) (s := (p3, f3)) hp3; rw [e4] at this; exact this
  obtain ⟨v5, p5, f5, e5⟩ := ex3 (numF (M 73) sz 0 9 (p4, f4))
  have hp5 : p5 ≤ sz := by have := numF_le (lt := M 73) (lo := 0) (hi := 9) (s := (p4, f4)) hp4; rw [e5] at this; exact this
  unfold waF
  simp only [e0, e1, e2, e3, e4, e5]
  unfold okI
  refine ⟨hp5, ?_, ?_⟩
  · dsimp only
    split
    · split
      · next h => exact addW_cnt hc h
      · exact hc
    · exact hc
  · dsimp only
    split
    · split
      · next h => exact frI.addW h
      · exact frI.rf
    · exact frI.rf
theorem moF_ok {M : Nat → Nat → Int32} {sz : Nat} {s : Nat × Int32} (hs : s.1 ≤ sz) (hc : cntN M) : okI M sz (moF M sz s) := by
  obtain ⟨p0, f0, e0⟩ := ex2 (wordsF (M 73) sz 2 1 s)
  have hp0 : p0 ≤ sz := by have := wordsF_le (lt := M 73) (iw := 2) (rm := 1) (s := s) (by decide) hs; rw [e0] at this; exact this
  obtain ⟨v1, p1, f1, e1⟩ := ex3 (numF (M 73) sz 0 (M 54 4 - 1) (p0, f0))
  have hp1 : p1 ≤ sz := by have := numF_le (lt := M 73) (lo := 0) (hi := (M 54 4 - 1)) (s := (p0, f0)) hp0; rw [e1] at this; exact this
  obtain ⟨v2, p2, f2, e2⟩ := ex3 (numF (M 73) sz 0 9 (p1, f1))
  have hp2 : p2 ≤ sz := by have := numF_le (lt := M 73) (lo := 0) (hi := 9) (s := (p1, f1)) hp1; rw [e2] at this; exact this
  unfold moF
  simp only [e0, e1, e2]
  unfold okI
  refine ⟨hp2, ?_, ?_⟩
  · dsimp only
    split
    · split
      · next h => exact cntN_up hc (by omega)
      · exact hc
    · exact hc
  · dsimp only
    split
    · split
      · next h => have hlt := (fIx_lt 6 h.1 h.2.2 (by decide)).2.2; exact frI.up (Or.inl (by omega))
      · exact frI.rf
    · exact frI.rf
theorem hoF_ok {M : Nat → Nat → Int32} {sz : Nat} {s : Nat × Int32} (hs : s.1 ≤ sz) (hc : cntN M) : okI M sz (hoF M sz s) := by
  obtain ⟨p0, f0, e0⟩ := ex2 (wordsF (M 73) sz 3 1 s)
  have hp0 : p0 ≤ sz := by have := wordsF_le (lt := M 73) (iw := 3) (rm := 1) (s := s) (by decide) hs; rw [e0] at this; exact this
  obtain ⟨v1, p1, f1, e1⟩ := ex3 (numF (M 73) sz 0 9 (p0, f0))
  have hp1 : p1 ≤ sz := by have := numF_le (lt := M 73) (lo := 0) (hi := 9) (s := (p0, f0)) hp0; rw [e1] at this; exact this
  unfold hoF
  simp only [e0, e1]
  unfold okI
  refine ⟨hp1, ?_, ?_⟩
  · dsimp only
    split
    · exact cntN_up hc (by omega)
    · exact hc
  · dsimp only
    split
    · exact frI.up (Or.inl (by omega))
    · exact frI.rf
section IT
variable {M : Nat → Nat → Int32} {sz p : Nat} {f : Int32}
theorem itemF_no (h : ¬ f = -1) : itemF M sz (p, f) = (M, (p, f)) := if_pos h
theorem itemF_h (h : letF (M 73) sz p = 104) : itemF M sz (p, -1) = hoF (up2 M 72 1 (M 72 1 + 1)) sz (p, -1) := by
  unfold itemF
  rw [if_neg (Decidable.not_not.mpr rfl)]
  dsimp only
  rw [if_pos h]
theorem itemF_m (h0 : ¬ letF (M 73) sz p = 104) (h : letF (M 73) sz p = 109) : itemF M sz (p, -1) = moF (up2 M 72 1 (M 72 1 + 1)) sz (p, -1) := by
  unfold itemF
  rw [if_neg (Decidable.not_not.mpr rfl)]
  dsimp only
  rw [if_neg h0, if_pos h]
theorem itemF_t (h0 : ¬ letF (M 73) sz p = 104) (h1 : ¬ letF (M 73) sz p = 109) (h : letF (M 73) sz p = 116) : itemF M sz (p, -1) = thF (up2 M 72 1 (M 72 1 + 1)) sz (p, -1) := by
  unfold itemF
  rw [if_neg (Decidable.not_not.mpr rfl)]
  dsimp only
  rw [if_neg h0, if_neg h1, if_pos h]
theorem itemF_w (h0 : ¬ letF (M 73) sz p = 104) (h1 : ¬ letF (M 73) sz p = 109) (h2 : ¬ letF (M 73) sz p = 116) (h : letF (M 73) sz p = 119) : itemF M sz (p, -1) = waF (up2 M 72 1 (M 72 1 + 1)) sz (p, -1) := by
  unfold itemF
  rw [if_neg (Decidable.not_not.mpr rfl)]
  dsimp only
  rw [if_neg h0, if_neg h1, if_neg h2, if_pos h]
theorem itemF_d (h0 : ¬ letF (M 73) sz p = 104) (h1 : ¬ letF (M 73) sz p = 109) (h2 : ¬ letF (M 73) sz p = 116) (h : ¬ letF (M 73) sz p = 119) : itemF M sz (p, -1) = (up2 M 72 1 (M 72 1 + 1), (p, nI p)) := by
  unfold itemF
  rw [if_neg (Decidable.not_not.mpr rfl)]
  dsimp only
  rw [if_neg h0, if_neg h1, if_neg h2, if_neg h]
theorem itemF_ok (hs : p ≤ sz) (hc : cntN M) : okI M sz (itemF M sz (p, f)) := by
  by_cases hf : f = -1
  · subst hf
    have hn : cntN (up2 M 72 1 (M 72 1 + 1)) := cntN_up hc (by omega)
    have hfr : frI M (up2 M 72 1 (M 72 1 + 1)) := frI.up (Or.inr ⟨rfl, rfl⟩)
    have tr : ∀ {r : fS}, okI (up2 M 72 1 (M 72 1 + 1)) sz r → okI M sz r := fun h => ⟨h.1, h.2.1, hfr.tr h.2.2⟩
    by_cases h0 : letF (M 73) sz p = 104
    · rw [itemF_h h0]; exact tr (hoF_ok hs hn)
    by_cases h1 : letF (M 73) sz p = 109
    · rw [itemF_m h0 h1]; exact tr (moF_ok hs hn)
    by_cases h2 : letF (M 73) sz p = 116
    · rw [itemF_t h0 h1 h2]; exact tr (thF_ok hs hn)
    by_cases h3 : letF (M 73) sz p = 119
    · rw [itemF_w h0 h1 h2 h3]; exact tr (waF_ok hs hn)
    · rw [itemF_d h0 h1 h2 h3]; exact ⟨hs, hn, hfr⟩
  · rw [itemF_no hf]
    exact ⟨hs, hc, frI.rf⟩
end IT
/-- the draft and the letters as reading begins, i letters laid -/
def ldM (M : Nat → Nat → Int32) (L : Nat → Nat → Int64) (g k sz i : Nat) : Nat → Nat → Int32 := fun a j => if a = 73 ∧ j < i then (L (k + 8) j).toInt32 else up2 (up2 (cpG M 54 g) 72 1 0) 72 3 (nI sz) a j
theorem ldM_0 (M : Nat → Nat → Int32) (L : Nat → Nat → Int64) (g k sz : Nat) : pM (ldM M L g k sz 0) 0 (-1) = up2 (up2 (up2 (up2 (cpG M 54 g) 72 1 0) 72 4 0) 72 5 (-1)) 72 3 (nI sz) := by
  funext a j
  unfold pM ldM
  simp only [up2_at]
  by_cases h3 : a = 72 ∧ j = 3
  · obtain ⟨rfl, rfl⟩ := h3; simp
  by_cases h5 : a = 72 ∧ j = 5
  · obtain ⟨rfl, rfl⟩ := h5; simp
  by_cases h4 : a = 72 ∧ j = 4
  · obtain ⟨rfl, rfl⟩ := h4; simp; rfl
  simp only [if_neg h3, if_neg h4, if_neg h5, if_neg (show ¬ (a = 73 ∧ j < 0) by omega)]
theorem ldM_s (M : Nat → Nat → Int32) (L : Nat → Nat → Int64) (g k sz i : Nat) : ldM M L g k sz (i + 1) = up2 (ldM M L g k sz i) 73 i (L (k + 8) i).toInt32 := by
  funext a j
  rw [up2_at]
  unfold ldM
  by_cases h : a = 73 ∧ j = i
  · rw [if_pos h, if_pos (by omega), h.2]
  · rw [if_neg h]
    by_cases h2 : a = 73 ∧ j < i
    · rw [if_pos h2, if_pos (by omega)]
    · rw [if_neg h2, if_neg (by omega)]
theorem cpG_o {M : Nat → Nat → Int32} {g a j : Nat} (h : a < 54 ∨ 72 ≤ a) : cpG M 54 g a j = M a j := by
  unfold cpG cpW cpT
  rw [if_neg (by omega), if_neg (by omega), if_neg (by omega)]
theorem ldM_o {M : Nat → Nat → Int32} {L : Nat → Nat → Int64} {g k sz i a j : Nat} (h : a < 54) : ldM M L g k sz i a j = M a j := by
  unfold ldM
  rw [if_neg (by omega), up2_o _ _ (by omega), up2_o _ _ (by omega), cpG_o (by omega)]
theorem ldM_sz {M : Nat → Nat → Int32} {L : Nat → Nat → Int64} {g k sz i : Nat} : ldM M L g k sz i 72 3 = nI sz := by
  unfold ldM
  rw [if_neg (by omega), up2_s]
theorem ldM_cnt {M : Nat → Nat → Int32} {L : Nat → Nat → Int64} {g k sz i tc wc : Nat} (h3 : M g 3 = nI tc) (h4 : M g 4 = nI wc) (ht : tc ≤ 8) (hw : wc ≤ 6) : cntN (ldM M L g k sz i) := by
  have e3 : ldM M L g k sz i 54 3 = nI tc := by
    unfold ldM
    rw [if_neg (by omega), up2_o _ _ (by omega), up2_o _ _ (by omega)]
    unfold cpG
    rw [if_pos (by omega), h3]
  have e4 : ldM M L g k sz i 54 4 = nI wc := by
    unfold ldM
    rw [if_neg (by omega), up2_o _ _ (by omega), up2_o _ _ (by omega)]
    unfold cpG
    rw [if_pos (by omega), h4]
  unfold cntN tcN wcN
  rw [e3, e4, nI_clamp (by omega), nI_clamp (by omega)]
  exact ⟨rfl, ht, rfl, hw⟩
theorem num_eq {L : Nat → Nat → Int64} {k i sz : Nat} {z : Int32} (hz : z = nI sz) (hi : i < sz) (hs : sz ≤ 160) : ((if 0 ≤ nI i ∧ nI i < z ∧ nI i < 160 then L (k + 8) (nI i).toNatClampNeg else 0).toInt32) = (L (k + 8) i).toInt32 := by
  subst hz
  rw [if_pos ⟨nI_pos' (by omega), (nI_lt_iff (by omega) (by omega)).mpr hi, (nI_lt_iff (b := 160) (by omega) (by omega)).mpr (by omega)⟩, nI_clamp (by omega)]
theorem restF_s (sz n : Nat) (s : fS) : restF sz (n + 1) s = if s.2.2 = -1 ∧ s.2.1 < sz then restF sz n (itemF s.1 sz (signF (s.1 73) sz 59 s.2)) else s := rfl
theorem restF_stop {sz n : Nat} {s : fS} (h : ¬ (s.2.2 = -1 ∧ s.2.1 < sz)) : restF sz n s = s := by
  cases n with
  | zero => rfl
  | succ n => rw [restF_s, if_neg h]
theorem sh_4 {k : Nat} (h : fsh k = 4) : 2 ≤ k ∧ k < 10 := (show ∀ k, k < 115 → fsh k = 4 → 2 ≤ k ∧ k < 10 by decide +kernel) k (fsh_lt h (by decide)) h
