theorem x_b01 {n : Nat} (h : n ≤ 1) : nI n = 0 ∨ nI n = 1 := by
  have h9 : n = 0 ∨ n = 1 := by omega
  rcases h9 with h | h
  · rw [h]; exact Or.inl rfl
  · rw [h]; exact Or.inr rfl
theorem x_bn {n : Nat} (h : n ≤ 1) : narrow .boolean (.int (nI n)) = .int (nI n) := by
  rcases x_b01 h with h | h <;> rw [h] <;> rfl
