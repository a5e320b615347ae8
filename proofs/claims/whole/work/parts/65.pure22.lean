/-- where the reference's words begin, how long they are (blank and all), how many numbers follow -/
def wdS (w : Nat) : Nat := [0, 7, 15, 22, 28].getD w 0
def wdL (w : Nat) : Nat := [6, 7, 6, 5].getD w 0
theorem wd_len {w : Nat} (h : w < 4) : wdS w + wdL w < 28 ∧ wdL w ≤ 7 ∧ wdS (w + 1) = wdS w + wdL w + 1 := (show ∀ w, w < 4 → wdS w + wdL w < 28 ∧ wdL w ≤ 7 ∧ wdS (w + 1) = wdS w + wdL w + 1 by decide) w h
theorem wd_z4 {M : Nat → Nat → Int32} (h : ∀ k, k < 28 → M 106 k = wdA k) {w i : Nat} (hw : w < 4) (hi : i ≤ wdL w) : M 106 (wdS w + i) = 0 ↔ i = wdL w := by
  have hl := wd_len hw
  rw [h _ (by omega)]
  exact (show ∀ w, w < 4 → ∀ i, i < 8 → i ≤ wdL w → (wdA (wdS w + i) = 0 ↔ i = wdL w) by decide) w hw i (by omega) hi
/-- how many letters of the word at c stand from q on -/
def mtF (M : Nat → Nat → Int32) (L : Nat → Nat → Int64) (s0 en c q n : Nat) : Nat := itF (fun i a => if a = i ∧ (q + i < en ∧ ¬ M 106 (c + i) = 0 ∧ (L 104 (160 * s0 + (q + i))).toInt32 = M 106 (c + i)) then i + 1 else a) 0 n
section MT
variable {M : Nat → Nat → Int32} {L : Nat → Nat → Int64} {s0 en c q : Nat}
theorem mt_s (n : Nat) : mtF M L s0 en c q (n + 1) = if mtF M L s0 en c q n = n ∧ (q + n < en ∧ ¬ M 106 (c + n) = 0 ∧ (L 104 (160 * s0 + (q + n))).toInt32 = M 106 (c + n)) then n + 1 else mtF M L s0 en c q n := by
  unfold mtF
  rw [itF_s]
theorem mt_go {i : Nat} (h : mtF M L s0 en c q i = i) (hc : q + i < en ∧ ¬ M 106 (c + i) = 0 ∧ (L 104 (160 * s0 + (q + i))).toInt32 = M 106 (c + i)) : mtF M L s0 en c q (i + 1) = i + 1 := by
  rw [mt_s, if_pos ⟨h, hc⟩]
theorem mt_K {i n : Nat} (h : mtF M L s0 en c q i = i) (hc : ¬ (q + i < en ∧ ¬ M 106 (c + i) = 0 ∧ (L 104 (160 * s0 + (q + i))).toInt32 = M 106 (c + i))) (hn : i ≤ n) : mtF M L s0 en c q n = i := by
  induction n with
  | zero => 
    obtain rfl : i = 0 := by omega
    exact h
  | succ n ih =>
    by_cases hi : i = n + 1
    · rw [← hi]; exact h
    · have ih := ih (by omega)
      rw [mt_s, ih, if_neg]
      rintro ⟨rfl, h2⟩
      exact hc h2
theorem mt_le (n : Nat) : mtF M L s0 en c q n ≤ n := by
  induction n with
  | zero => exact Nat.le_refl 0
  | succ n ih =>
    rw [mt_s]
    split <;> omega
/-- the farthest place that the first w words reach -/
def farN (M : Nat → Nat → Int32) (L : Nat → Nat → Int64) (s0 en p w : Nat) : Nat := itF (fun v a => if p + mtF M L s0 en (wdS v) p 8 ≤ a then a else p + mtF M L s0 en (wdS v) p 8) p w
theorem far_s {p : Nat} (w : Nat) : farN M L s0 en p (w + 1) = if p + mtF M L s0 en (wdS w) p 8 ≤ farN M L s0 en p w then farN M L s0 en p w else p + mtF M L s0 en (wdS w) p 8 := by
  unfold farN
  rw [itF_s]
theorem far_le {p : Nat} (w : Nat) : farN M L s0 en p w ≤ p + 8 := by
  induction w with
  | zero => exact Nat.le_add_right p 8
  | succ w ih =>
    have h := mt_le (M := M) (L := L) (s0 := s0) (en := en) (c := wdS w) (q := p) 8
    rw [far_s]
    split <;> omega
theorem no_s {w : Nat} {f g : Nat → Nat} (h : ∀ v, v < w → ¬ f v = g v) (hw : ¬ f w = g w) : ∀ v, v < w + 1 → ¬ f v = g v := by
  intro v hv
  by_cases e : v = w
  · subst e; exact hw
  · exact h v (by omega)
def wordV (M : Nat → Nat → Int32) (L : Nat → Nat → Int64) (s0 pl en : Nat) : Int32 × (Nat → Nat → Int32) :=
  if mtF M L s0 en (wdS 0) pl 8 = wdL 0 then (nI 0, up2 M 86 33 (nI (pl + wdL 0))) else
  if mtF M L s0 en (wdS 1) pl 8 = wdL 1 then (nI 1, up2 M 86 33 (nI (pl + wdL 1))) else
  if mtF M L s0 en (wdS 2) pl 8 = wdL 2 then (nI 2, up2 M 86 33 (nI (pl + wdL 2))) else
  if mtF M L s0 en (wdS 3) pl 8 = wdL 3 then (nI 3, up2 M 86 33 (nI (pl + wdL 3))) else (-1, up2 M 86 36 (nI (farN M L s0 en pl 4)))
theorem wordV_ok {pl w : Nat} (hw : w < 4) (hno : ∀ v, v < w → ¬ mtF M L s0 en (wdS v) pl 8 = wdL v) (h : mtF M L s0 en (wdS w) pl 8 = wdL w) : wordV M L s0 pl en = (nI w, up2 M 86 33 (nI (pl + wdL w))) := by
  unfold wordV
  rcases (show w = 0 ∨ w = 1 ∨ w = 2 ∨ w = 3 by omega) with rfl | rfl | rfl | rfl
  · rw [if_pos h]
  · rw [if_neg (hno 0 (by omega)), if_pos h]
  · rw [if_neg (hno 0 (by omega)), if_neg (hno 1 (by omega)), if_pos h]
  · rw [if_neg (hno 0 (by omega)), if_neg (hno 1 (by omega)), if_neg (hno 2 (by omega)), if_pos h]
theorem wordV_no {pl : Nat} (hno : ∀ v, v < 4 → ¬ mtF M L s0 en (wdS v) pl 8 = wdL v) : wordV M L s0 pl en = (-1, up2 M 86 36 (nI (farN M L s0 en pl 4))) := by
  unfold wordV
  rw [if_neg (hno 0 (by omega)), if_neg (hno 1 (by omega)), if_neg (hno 2 (by omega)), if_neg (hno 3 (by omega))]
end MT
