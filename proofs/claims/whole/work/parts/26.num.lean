theorem s_all_eq {k : Nat} (h : k ≤ 6) : s_all k = nI (2 ^ k - 1) := by
  rcases (show k = 0 ∨ k = 1 ∨ k = 2 ∨ k = 3 ∨ k = 4 ∨ k = 5 ∨ k = 6 by omega) with rfl | rfl | rfl | rfl | rfl | rfl | rfl <;> decide +kernel
theorem pow6 {k : Nat} (h : k ≤ 6) : 0 < 2 ^ k ∧ 2 ^ k ≤ 64 := by
  rcases (show k = 0 ∨ k = 1 ∨ k = 2 ∨ k = 3 ∨ k = 4 ∨ k = 5 ∨ k = 6 by omega) with rfl | rfl | rfl | rfl | rfl | rfl | rfl <;> decide
theorem s_all_lt {k N1 : Nat} (h : k ≤ 6) (hN : 2 ^ k = N1) : s_all k < nI N1 := by
  have hp := pow6 h
  rw [s_all_eq h, hN]
  exact nI_lt (by omega) (by omega)
theorem s_all_nlt {k N1 i : Nat} (h : k ≤ 6) (hN : 2 ^ k = N1) (hi : i < N1) : ¬ s_all k < nI i := by
  have hp := pow6 h
  rw [s_all_eq h, hN]
  exact nI_nlt (by omega) (by omega)
theorem pw2 (i : Nat) (h : i < 6) : 0 < 2 ^ i ∧ 2 ^ i ≤ 32 := by
  rcases (show i = 0 ∨ i = 1 ∨ i = 2 ∨ i = 3 ∨ i = 4 ∨ i = 5 by omega) with rfl | rfl | rfl | rfl | rfl | rfl <;> decide
theorem pw5 (i : Nat) (h : i < 6) : 0 < 5 ^ i ∧ 5 ^ i ≤ 3125 := by
  rcases (show i = 0 ∨ i = 1 ∨ i = 2 ∨ i = 3 ∨ i = 4 ∨ i = 5 by omega) with rfl | rfl | rfl | rfl | rfl | rfl <;> decide
