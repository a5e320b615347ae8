/-! rows and carried arrays of the reference -/
def zcL (L : Nat → Nat → Int64) (s n : Nat) : Nat → Nat → Int64 := fun a j => if a = 104 ∧ 160 * s ≤ j ∧ j < 160 * s + n then 0 else L a j
theorem zcL_0 {L : Nat → Nat → Int64} {s : Nat} : L = zcL L s 0 := by
  funext a j
  exact (if_neg (by omega)).symm
theorem zcL_s {L : Nat → Nat → Int64} {s n : Nat} : upL (zcL L s n) 104 (160 * s + n) 0 = zcL L s (n + 1) := by
  funext a j
  rw [upL_at]
  unfold zcL
  by_cases h : a = 104 ∧ j = 160 * s + n
  · rw [if_pos h, if_pos (by omega)]
  · rw [if_neg h]
    by_cases h2 : a = 104 ∧ 160 * s ≤ j ∧ j < 160 * s + n
    · rw [if_pos h2, if_pos (by omega)]
    · rw [if_neg h2, if_neg (by omega)]
def cfM (M : Nat → Nat → Int32) (o t f n : Nat) : Nat → Nat → Int32 := fun a j => if a = t ∧ f ≤ j ∧ j < f + n then M o (j - f) else M a j
def cbM (M : Nat → Nat → Int32) (o t f n : Nat) : Nat → Nat → Int32 := fun a j => if a = o ∧ j < n then M t (f + j) else M a j
def cyM (b : Int32) (M : Nat → Nat → Int32) (o t f n : Nat) : Nat → Nat → Int32 := if b = 0 then cfM M o t f n else cbM M o t f n
theorem cyM_0 {b : Int32} {M : Nat → Nat → Int32} {o t f : Nat} : cyM b M o t f 0 = M := by
  funext a j
  unfold cyM cfM cbM
  split
  · exact if_neg (by omega)
  · exact if_neg (by omega)
theorem cyM_f {b : Int32} {M : Nat → Nat → Int32} {o t f n : Nat} (hb : b = 0) (ho : o ≠ t) : up2 (cyM b M o t f n) t (f + n) (cyM b M o t f n o n) = cyM b M o t f (n + 1) := by
  funext a j
  rw [up2_at]
  unfold cyM
  rw [if_pos hb, if_pos hb]
  unfold cfM
  by_cases h : a = t ∧ j = f + n
  · obtain ⟨rfl, rfl⟩ := h
    rw [if_pos ⟨rfl, rfl⟩, if_neg (by omega), if_pos (by omega)]
    congr 1
    omega
  · rw [if_neg h]
    by_cases h2 : a = t ∧ f ≤ j ∧ j < f + n
    · rw [if_pos h2, if_pos (by omega)]
    · rw [if_neg h2, if_neg (by omega)]
theorem cyM_b {b : Int32} {M : Nat → Nat → Int32} {o t f n : Nat} (hb : ¬ b = 0) (ho : o ≠ t) : up2 (cyM b M o t f n) o n (cyM b M o t f n t (f + n)) = cyM b M o t f (n + 1) := by
  funext a j
  rw [up2_at]
  unfold cyM
  rw [if_neg hb, if_neg hb]
  unfold cbM
  by_cases h : a = o ∧ j = n
  · obtain ⟨rfl, rfl⟩ := h
    rw [if_pos ⟨rfl, rfl⟩, if_neg (by omega), if_pos (by omega)]
  · rw [if_neg h]
    by_cases h2 : a = o ∧ j < n
    · rw [if_pos h2, if_pos (by omega)]
    · rw [if_neg h2, if_neg (by omega)]
