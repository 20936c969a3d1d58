def shM (hf : Nat → Int32) (k : Nat) : Nat → Int32 := fun i => if i + 89 < k then hf (i + 89) else hf i
theorem shM_0 (hf : Nat → Int32) : shM hf 89 = hf := by
  funext i
  exact if_neg (by omega)
theorem shM_s (hf : Nat → Int32) {k : Nat} (h : 89 ≤ k) : upd (shM hf k) (k - 89) (shM hf k k) = shM hf (k + 1) := by
  funext i
  have h1 : shM hf k k = hf k := if_neg (by omega)
  rw [h1]
  by_cases e : i = k - 89
  · subst e
    simp only [upd, shM, if_true]
    rw [if_pos (by omega), show k - 89 + 89 = k by omega]
  · simp only [upd, shM, e, if_false]
    by_cases e2 : i + 89 < k
    · rw [if_pos e2, if_pos (by omega)]
    · rw [if_neg e2, if_neg (by omega)]
def cpM (hf zf : Nat → Int32) (n k : Nat) : Nat → Int32 := fun i => if 89 * n ≤ i ∧ i < 89 * n + k then zf (i - 89 * n) else hf i
theorem cpM_0 (hf zf : Nat → Int32) (n : Nat) : cpM hf zf n 0 = hf := by
  funext i
  exact if_neg (by omega)
theorem cpM_s (hf zf : Nat → Int32) (n k : Nat) : upd (cpM hf zf n k) (89 * n + k) (zf k) = cpM hf zf n (k + 1) := by
  funext i
  by_cases e : i = 89 * n + k
  · subst e
    simp only [upd, cpM, if_true]
    rw [if_pos (by omega), show 89 * n + k - 89 * n = k by omega]
  · simp only [upd, cpM, e, if_false]
    by_cases e2 : 89 * n ≤ i ∧ i < 89 * n + k
    · rw [if_pos e2, if_pos (by omega)]
    · rw [if_neg e2, if_neg (by omega)]
def svM (n : Nat) (hf zf : Nat → Int32) : Nat × (Nat → Int32) := if n = 6 then (6, cpM (shM hf 534) zf 5 89) else (n + 1, cpM hf zf n 89)
