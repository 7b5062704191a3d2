/-! like: as many pulses as both have STATES are enough -/
theorem pw_ch (A B : Nat → Int) (k i : Nat) (hi : i < 3) : pw A B (k + 3) i = -(cf A 1) * pw A B (k + 2) i - cf A 2 * pw A B (k + 1) i - cf A 3 * pw A B k i := by
  obtain ⟨x, hx⟩ : ∃ x, x = pw A B k := ⟨_, rfl⟩
  rcases (by omega : i = 0 ∨ i = 1 ∨ i = 2) with rfl | rfl | rfl
  all_goals
    simp only [pw, ← hx]
    simp [mv, cf]
    grind
theorem pl_ch (A B K : Nat → Int) (k : Nat) : pl A B K (k + 3) = -(cf A 1) * pl A B K (k + 2) - cf A 2 * pl A B K (k + 1) - cf A 3 * pl A B K k := by
  unfold pl
  rw [pw_ch A B k 0 (by omega), pw_ch A B k 1 (by omega), pw_ch A B k 2 (by omega)]
  grind
