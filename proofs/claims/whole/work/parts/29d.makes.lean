set_option maxRecDepth 100000 in
set_option maxHeartbeats 4000000 in
/-- makes -/
def mkI (I : Nat → Nat → Int32) (M : Nat) (kd st u : Int32) : Nat → Nat → Int32 := fun i k => if i = 74 ∧ k = 0 then nI (M + 1) else if i = 75 ∧ k = M then kd else if i = 76 ∧ k = M then st else if i = 77 ∧ k = M then u else if i = 78 ∧ k = M then 0 else if i = 79 ∧ 9 * M ≤ k ∧ k < 9 * M + 9 then 0 else if (i = 80 ∨ i = 81) ∧ 3 * M ≤ k ∧ k < 3 * M + 3 then 0 else I i k
set_option maxRecDepth 100000 in
set_option maxHeartbeats 4000000 in
theorem m_makes {n sl : Nat} {C Z : Nat → Nat} {I : Nat → Nat → Int32} {L : Nat → Nat → Int64} {R : Nat → Nat → Nat} {M : Nat} (hM : LayM C Z R) (hm : M < 12) (e2 : I 74 0 = nI M) (kd s u : Int32) (k pc : Nat) (ls : Lo) (st : List Value) (Q : Option Value → Hp → Prop) : Call 108 [some (.ref 74), some (.int kd), some (.int s), some (.int u), none, none] (n, sl, C, Z, I, L, R) k pc ls st Q ↔ Wp k pc ls (.int (nI M) :: st) (n, sl, C, Z, mkI I M kd s u, L, R) Q := by
  unfold LayM at hM
  have p3 : inb (nI M) 12 = true := by rw [inb_nI (by omega)]; simp; omega
  have p4 := ix_nI (show M < 2 ^ 31 by omega)
  have ia : ∀ k, k < 9 → inb (nI (9 * M + k)) 108 = true ∧ ix (nI (9 * M + k)) = 9 * M + k := fun k hk => ⟨by rw [inb_nI (by omega)]; simp; omega, ix_nI (by omega)⟩
  have ia0 : inb (nI (9 * M)) 108 = true ∧ ix (nI (9 * M)) = 9 * M := ia 0 (by omega)
  have ib : ∀ k, k < 3 → inb (nI (3 * M + k)) 36 = true ∧ ix (nI (3 * M + k)) = 3 * M + k := fun k hk => ⟨by rw [inb_nI (by omega)]; simp; omega, ix_nI (by omega)⟩
  have ib0 : inb (nI (3 * M)) 36 = true ∧ ix (nI (3 * M)) = 3 * M := ib 0 (by omega)
  simp [S108_0, S108_1, S108_2, Call_in, BS, ixs, inbs, hM, e2, p3, p4, mul3, mul9, nIk, ia, ia0, ib, ib0]
  refine iff_of_eq (congrArg (fun J => Wp k pc ls (.int (nI M) :: st) (n, sl, C, Z, J, L, R) Q) ?_)
  funext i k
  simp only [u2_rd, mkI]
  rcases (by omega : i = 74 ∨ i = 75 ∨ i = 76 ∨ i = 77 ∨ i = 78 ∨ i = 79 ∨ i = 80 ∨ i = 81 ∨ (i < 74 ∨ 81 < i)) with rfl | rfl | rfl | rfl | rfl | rfl | rfl | rfl | hi
  · simp
  · simp
  · simp
  · simp
  · simp
  · simp
    by_cases hk : 9 * M ≤ k ∧ k < 9 * M + 9
    · rw [if_pos hk]
      obtain ⟨c, rfl⟩ : ∃ c, k = 9 * M + c := ⟨k - 9 * M, by omega⟩
      rcases i9 (show c < 9 by omega) with rfl | rfl | rfl | rfl | rfl | rfl | rfl | rfl | rfl <;> simp
    · rw [if_neg hk]
      repeat rw [if_neg (by omega)]
  · simp
    by_cases hk : 3 * M ≤ k ∧ k < 3 * M + 3
    · rw [if_pos hk]
      obtain ⟨c, rfl⟩ : ∃ c, k = 3 * M + c := ⟨k - 3 * M, by omega⟩
      rcases i3 (show c < 3 by omega) with rfl | rfl | rfl <;> simp
    · rw [if_neg hk]
      repeat rw [if_neg (by omega)]
  · simp
    by_cases hk : 3 * M ≤ k ∧ k < 3 * M + 3
    · rw [if_pos hk]
      obtain ⟨c, rfl⟩ : ∃ c, k = 3 * M + c := ⟨k - 3 * M, by omega⟩
      rcases i3 (show c < 3 by omega) with rfl | rfl | rfl <;> simp
    · rw [if_neg hk]
      repeat rw [if_neg (by omega)]
  · repeat rw [if_neg (by omega)]

