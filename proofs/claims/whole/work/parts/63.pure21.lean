/-- the words that the reference reads -/
def wdA (k : Nat) : Int32 := [116, 104, 105, 110, 103, 32, 0, 119, 97, 105, 116, 101, 114, 32, 0, 109, 111, 118, 101, 115, 32, 0, 104, 111, 112, 101, 32, 0].getD k 0
theorem wd_z {M : Nat → Nat → Int32} (h : ∀ k, k < 28 → M 106 k = wdA k) {c : Nat} (hc : c ≤ 6) : M 106 c = 0 ↔ c = 6 := by
  rw [h c (by omega)]
  exact (show ∀ c, c < 7 → (wdA c = 0 ↔ c = 6) by decide) c (by omega)
theorem wd_n {M : Nat → Nat → Int32} (h : ∀ k, k < 28 → M 106 k = wdA k) {w i : Nat} (hw : w ≤ 1) (hi : i < 6 + w) (h2 : ¬ M 106 (7 * w + i) ≤ 32) : i + 1 < 6 + w := by
  rw [h _ (by omega)] at h2
  exact (show ∀ w, w < 2 → ∀ i, i < 7 → i < 6 + w → ¬ wdA (7 * w + i) ≤ 32 → i + 1 < 6 + w by decide) w (by omega) i (by omega) hi h2
