set_option maxRecDepth 100000 in
set_option maxHeartbeats 8000000 in
theorem m_owns0 {n sl : Nat} {C Z : Nat → Nat} {I : Nat → Nat → Int32} {L : Nat → Nat → Int64} {R : Nat → Nat → Nat} {j : Nat} {u : Int32} {A B K : Nat → Int} {d : Int} (hr : RM C Z I R j 0 u A B K d) {k pc : Nat} {ls : Lo} {st : List Value} {Q : Option Value → Hp → Prop} (go : ∀ L', (∀ c, c ≠ 92 → L' c = L c) → (∀ i, i ≤ 0 → L' 92 i = wL (cf A (0 - i))) → Wp k pc ls st (n, sl, C, Z, I, L', R) Q) : Call 125 [some (.ref 74), some (.int (nI j)), none, none, none, none, none, none, none, none, none, none, none] (n, sl, C, Z, I, L, R) k pc ls st Q := by
  obtain ⟨hM, hj12, hs3, k76, k77, mA, mB, mK, mD, zA, zB⟩ := id hr
  unfold LayM at hM
  have j0 : inb (nI j) 12 = true := by rw [inb_nI (by omega)]; simp; omega
  have jx := ix_nI (show j < 2 ^ 31 by omega)
  have ia : ∀ k, k < 9 → inb (nI (9 * j + k)) 108 = true ∧ ix (nI (9 * j + k)) = 9 * j + k := fun k hk => ⟨by rw [inb_nI (by omega)]; simp; omega, ix_nI (by omega)⟩
  have ia0 : inb (nI (9 * j)) 108 = true ∧ ix (nI (9 * j)) = 9 * j := ia 0 (by omega)
  have ib : ∀ k, k < 3 → inb (nI (3 * j + k)) 36 = true ∧ ix (nI (3 * j + k)) = 3 * j + k := fun k hk => ⟨by rw [inb_nI (by omega)]; simp; omega, ix_nI (by omega)⟩
  have ib0 : inb (nI (3 * j)) 36 = true ∧ ix (nI (3 * j)) = 3 * j := ib 0 (by omega)
  have mA0 : (I 79 (9 * j)).toInt64 = wL (A 0) := mA 0 (by omega)
  have mB0 : (I 80 (3 * j)).toInt64 = wL (B 0) := mB 0 (by omega)
  have mK0 : (I 81 (3 * j)).toInt64 = wL (K 0) := mK 0 (by omega)
  have zA0 : A 0 = 0 := zA 0 0 (by omega) (by omega) (by omega)
  have zA1 : A 1 = 0 := zA 0 1 (by omega) (by omega) (by omega)
  have zA2 : A 2 = 0 := zA 0 2 (by omega) (by omega) (by omega)
  have zA3 : A 3 = 0 := zA 1 0 (by omega) (by omega) (by omega)
  have zA4 : A 4 = 0 := zA 1 1 (by omega) (by omega) (by omega)
  have zA5 : A 5 = 0 := zA 1 2 (by omega) (by omega) (by omega)
  have zA6 : A 6 = 0 := zA 2 0 (by omega) (by omega) (by omega)
  have zA7 : A 7 = 0 := zA 2 1 (by omega) (by omega) (by omega)
  have zA8 : A 8 = 0 := zA 2 2 (by omega) (by omega) (by omega)
  have zB0 : B 0 = 0 := (zB 0 (by omega) (by omega)).1
  have zB1 : B 1 = 0 := (zB 1 (by omega) (by omega)).1
  have zB2 : B 2 = 0 := (zB 2 (by omega) (by omega)).1
  have zK0 : K 0 = 0 := (zB 0 (by omega) (by omega)).2
  have zK1 : K 1 = 0 := (zB 1 (by omega) (by omega)).2
  have zK2 : K 2 = 0 := (zB 2 (by omega) (by omega)).2
  have n0 : nI 0 = 0 := rfl
  simp [S125_0, S125_1, S125_2, S125_3, S125_4, S125_5, S125_6, S125_7, S124_0, S124_1, S104_0, Call_in (k2 := 125), Call_in (k2 := 124), Call_in (k2 := 104), BS, ixs, inbs, wL_mul, wL_add, wL_sub, wL_neg, hM, j0, jx, k76, k77, mA, mA0, mB, mB0, mK, mK0, mD, mul3, mul9, nIk, ia, ia0, ib, ib0, Nat.add_assoc, n0, u2_rd, ← wL_0, ← wL_1]
  refine go _ (fun c h1 => ?_) (fun i hi => ?_)
  · simp only [u2_ne _ _ _ h1]
  · rcases (by omega : i = 0) with rfl <;> simp [u2_rd, cf, zA0, zA1, zA2, zA3, zA4, zA5, zA6, zA7, zA8, zB0, zK0, zB1, zK1, zB2, zK2] <;> grind

set_option maxRecDepth 100000 in
set_option maxHeartbeats 8000000 in
theorem m_owns1 {n sl : Nat} {C Z : Nat → Nat} {I : Nat → Nat → Int32} {L : Nat → Nat → Int64} {R : Nat → Nat → Nat} {j : Nat} {u : Int32} {A B K : Nat → Int} {d : Int} (hr : RM C Z I R j 1 u A B K d) {k pc : Nat} {ls : Lo} {st : List Value} {Q : Option Value → Hp → Prop} (go : ∀ L', (∀ c, c ≠ 92 → L' c = L c) → (∀ i, i ≤ 1 → L' 92 i = wL (cf A (1 - i))) → Wp k pc ls st (n, sl, C, Z, I, L', R) Q) : Call 125 [some (.ref 74), some (.int (nI j)), none, none, none, none, none, none, none, none, none, none, none] (n, sl, C, Z, I, L, R) k pc ls st Q := by
  obtain ⟨hM, hj12, hs3, k76, k77, mA, mB, mK, mD, zA, zB⟩ := id hr
  unfold LayM at hM
  have j0 : inb (nI j) 12 = true := by rw [inb_nI (by omega)]; simp; omega
  have jx := ix_nI (show j < 2 ^ 31 by omega)
  have ia : ∀ k, k < 9 → inb (nI (9 * j + k)) 108 = true ∧ ix (nI (9 * j + k)) = 9 * j + k := fun k hk => ⟨by rw [inb_nI (by omega)]; simp; omega, ix_nI (by omega)⟩
  have ia0 : inb (nI (9 * j)) 108 = true ∧ ix (nI (9 * j)) = 9 * j := ia 0 (by omega)
  have ib : ∀ k, k < 3 → inb (nI (3 * j + k)) 36 = true ∧ ix (nI (3 * j + k)) = 3 * j + k := fun k hk => ⟨by rw [inb_nI (by omega)]; simp; omega, ix_nI (by omega)⟩
  have ib0 : inb (nI (3 * j)) 36 = true ∧ ix (nI (3 * j)) = 3 * j := ib 0 (by omega)
  have mA0 : (I 79 (9 * j)).toInt64 = wL (A 0) := mA 0 (by omega)
  have mB0 : (I 80 (3 * j)).toInt64 = wL (B 0) := mB 0 (by omega)
  have mK0 : (I 81 (3 * j)).toInt64 = wL (K 0) := mK 0 (by omega)
  have zA1 : A 1 = 0 := zA 0 1 (by omega) (by omega) (by omega)
  have zA2 : A 2 = 0 := zA 0 2 (by omega) (by omega) (by omega)
  have zA3 : A 3 = 0 := zA 1 0 (by omega) (by omega) (by omega)
  have zA4 : A 4 = 0 := zA 1 1 (by omega) (by omega) (by omega)
  have zA5 : A 5 = 0 := zA 1 2 (by omega) (by omega) (by omega)
  have zA6 : A 6 = 0 := zA 2 0 (by omega) (by omega) (by omega)
  have zA7 : A 7 = 0 := zA 2 1 (by omega) (by omega) (by omega)
  have zA8 : A 8 = 0 := zA 2 2 (by omega) (by omega) (by omega)
  have zB1 : B 1 = 0 := (zB 1 (by omega) (by omega)).1
  have zB2 : B 2 = 0 := (zB 2 (by omega) (by omega)).1
  have zK1 : K 1 = 0 := (zB 1 (by omega) (by omega)).2
  have zK2 : K 2 = 0 := (zB 2 (by omega) (by omega)).2
  have n0 : nI 1 = 1 := rfl
  simp [S125_0, S125_1, S125_2, S125_3, S125_4, S125_5, S125_6, S125_7, S124_0, S124_1, S104_0, Call_in (k2 := 125), Call_in (k2 := 124), Call_in (k2 := 104), BS, ixs, inbs, wL_mul, wL_add, wL_sub, wL_neg, hM, j0, jx, k76, k77, mA, mA0, mB, mB0, mK, mK0, mD, mul3, mul9, nIk, ia, ia0, ib, ib0, Nat.add_assoc, n0, u2_rd, ← wL_0, ← wL_1]
  refine go _ (fun c h1 => ?_) (fun i hi => ?_)
  · simp only [u2_ne _ _ _ h1]
  · rcases (by omega : i = 0 ∨ i = 1) with rfl | rfl <;> simp [u2_rd, cf, zA1, zA2, zA3, zA4, zA5, zA6, zA7, zA8, zB1, zK1, zB2, zK2] <;> grind

set_option maxRecDepth 100000 in
set_option maxHeartbeats 8000000 in
theorem m_owns2 {n sl : Nat} {C Z : Nat → Nat} {I : Nat → Nat → Int32} {L : Nat → Nat → Int64} {R : Nat → Nat → Nat} {j : Nat} {u : Int32} {A B K : Nat → Int} {d : Int} (hr : RM C Z I R j 2 u A B K d) {k pc : Nat} {ls : Lo} {st : List Value} {Q : Option Value → Hp → Prop} (go : ∀ L', (∀ c, c ≠ 92 → L' c = L c) → (∀ i, i ≤ 2 → L' 92 i = wL (cf A (2 - i))) → Wp k pc ls st (n, sl, C, Z, I, L', R) Q) : Call 125 [some (.ref 74), some (.int (nI j)), none, none, none, none, none, none, none, none, none, none, none] (n, sl, C, Z, I, L, R) k pc ls st Q := by
  obtain ⟨hM, hj12, hs3, k76, k77, mA, mB, mK, mD, zA, zB⟩ := id hr
  unfold LayM at hM
  have j0 : inb (nI j) 12 = true := by rw [inb_nI (by omega)]; simp; omega
  have jx := ix_nI (show j < 2 ^ 31 by omega)
  have ia : ∀ k, k < 9 → inb (nI (9 * j + k)) 108 = true ∧ ix (nI (9 * j + k)) = 9 * j + k := fun k hk => ⟨by rw [inb_nI (by omega)]; simp; omega, ix_nI (by omega)⟩
  have ia0 : inb (nI (9 * j)) 108 = true ∧ ix (nI (9 * j)) = 9 * j := ia 0 (by omega)
  have ib : ∀ k, k < 3 → inb (nI (3 * j + k)) 36 = true ∧ ix (nI (3 * j + k)) = 3 * j + k := fun k hk => ⟨by rw [inb_nI (by omega)]; simp; omega, ix_nI (by omega)⟩
  have ib0 : inb (nI (3 * j)) 36 = true ∧ ix (nI (3 * j)) = 3 * j := ib 0 (by omega)
  have mA0 : (I 79 (9 * j)).toInt64 = wL (A 0) := mA 0 (by omega)
  have mB0 : (I 80 (3 * j)).toInt64 = wL (B 0) := mB 0 (by omega)
  have mK0 : (I 81 (3 * j)).toInt64 = wL (K 0) := mK 0 (by omega)
  have zA2 : A 2 = 0 := zA 0 2 (by omega) (by omega) (by omega)
  have zA5 : A 5 = 0 := zA 1 2 (by omega) (by omega) (by omega)
  have zA6 : A 6 = 0 := zA 2 0 (by omega) (by omega) (by omega)
  have zA7 : A 7 = 0 := zA 2 1 (by omega) (by omega) (by omega)
  have zA8 : A 8 = 0 := zA 2 2 (by omega) (by omega) (by omega)
  have zB2 : B 2 = 0 := (zB 2 (by omega) (by omega)).1
  have zK2 : K 2 = 0 := (zB 2 (by omega) (by omega)).2
  have n0 : nI 2 = 2 := rfl
  simp [S125_0, S125_1, S125_2, S125_3, S125_4, S125_5, S125_6, S125_7, S124_0, S124_1, S104_0, Call_in (k2 := 125), Call_in (k2 := 124), Call_in (k2 := 104), BS, ixs, inbs, wL_mul, wL_add, wL_sub, wL_neg, hM, j0, jx, k76, k77, mA, mA0, mB, mB0, mK, mK0, mD, mul3, mul9, nIk, ia, ia0, ib, ib0, Nat.add_assoc, n0, u2_rd, ← wL_0, ← wL_1]
  refine go _ (fun c h1 => ?_) (fun i hi => ?_)
  · simp only [u2_ne _ _ _ h1]
  · rcases (by omega : i = 0 ∨ i = 1 ∨ i = 2) with rfl | rfl | rfl <;> simp [u2_rd, cf, zA2, zA5, zA6, zA7, zA8, zB2, zK2] <;> grind

set_option maxRecDepth 100000 in
set_option maxHeartbeats 8000000 in
theorem m_owns3 {n sl : Nat} {C Z : Nat → Nat} {I : Nat → Nat → Int32} {L : Nat → Nat → Int64} {R : Nat → Nat → Nat} {j : Nat} {u : Int32} {A B K : Nat → Int} {d : Int} (hr : RM C Z I R j 3 u A B K d) {k pc : Nat} {ls : Lo} {st : List Value} {Q : Option Value → Hp → Prop} (go : ∀ L', (∀ c, c ≠ 92 → L' c = L c) → (∀ i, i ≤ 3 → L' 92 i = wL (cf A (3 - i))) → Wp k pc ls st (n, sl, C, Z, I, L', R) Q) : Call 125 [some (.ref 74), some (.int (nI j)), none, none, none, none, none, none, none, none, none, none, none] (n, sl, C, Z, I, L, R) k pc ls st Q := by
  obtain ⟨hM, hj12, hs3, k76, k77, mA, mB, mK, mD, zA, zB⟩ := id hr
  unfold LayM at hM
  have j0 : inb (nI j) 12 = true := by rw [inb_nI (by omega)]; simp; omega
  have jx := ix_nI (show j < 2 ^ 31 by omega)
  have ia : ∀ k, k < 9 → inb (nI (9 * j + k)) 108 = true ∧ ix (nI (9 * j + k)) = 9 * j + k := fun k hk => ⟨by rw [inb_nI (by omega)]; simp; omega, ix_nI (by omega)⟩
  have ia0 : inb (nI (9 * j)) 108 = true ∧ ix (nI (9 * j)) = 9 * j := ia 0 (by omega)
  have ib : ∀ k, k < 3 → inb (nI (3 * j + k)) 36 = true ∧ ix (nI (3 * j + k)) = 3 * j + k := fun k hk => ⟨by rw [inb_nI (by omega)]; simp; omega, ix_nI (by omega)⟩
  have ib0 : inb (nI (3 * j)) 36 = true ∧ ix (nI (3 * j)) = 3 * j := ib 0 (by omega)
  have mA0 : (I 79 (9 * j)).toInt64 = wL (A 0) := mA 0 (by omega)
  have mB0 : (I 80 (3 * j)).toInt64 = wL (B 0) := mB 0 (by omega)
  have mK0 : (I 81 (3 * j)).toInt64 = wL (K 0) := mK 0 (by omega)
  have n0 : nI 3 = 3 := rfl
  simp [S125_0, S125_1, S125_2, S125_3, S125_4, S125_5, S125_6, S125_7, S124_0, S124_1, S104_0, Call_in (k2 := 125), Call_in (k2 := 124), Call_in (k2 := 104), BS, ixs, inbs, wL_mul, wL_add, wL_sub, wL_neg, hM, j0, jx, k76, k77, mA, mA0, mB, mB0, mK, mK0, mD, mul3, mul9, nIk, ia, ia0, ib, ib0, Nat.add_assoc, n0, u2_rd, ← wL_0, ← wL_1]
  refine go _ (fun c h1 => ?_) (fun i hi => ?_)
  · simp only [u2_ne _ _ _ h1]
  · rcases (by omega : i = 0 ∨ i = 1 ∨ i = 2 ∨ i = 3) with rfl | rfl | rfl | rfl <;> simp [u2_rd, cf] <;> grind

/-- owns -/
theorem m_owns {n sl : Nat} {C Z : Nat → Nat} {I : Nat → Nat → Int32} {L : Nat → Nat → Int64} {R : Nat → Nat → Nat} {j s : Nat} {u : Int32} {A B K : Nat → Int} {d : Int} (hr : RM C Z I R j s u A B K d) {k pc : Nat} {ls : Lo} {st : List Value} {Q : Option Value → Hp → Prop} (go : ∀ L', (∀ c, c ≠ 92 → L' c = L c) → (∀ i, i ≤ s → L' 92 i = wL (cf A (s - i))) → Wp k pc ls st (n, sl, C, Z, I, L', R) Q) : Call 125 [some (.ref 74), some (.int (nI j)), none, none, none, none, none, none, none, none, none, none, none] (n, sl, C, Z, I, L, R) k pc ls st Q := by
  have hs := hr.2.2.1
  rcases (by omega : s = 0 ∨ s = 1 ∨ s = 2 ∨ s = 3) with rfl | rfl | rfl | rfl
  · exact m_owns0 hr go
  · exact m_owns1 hr go
  · exact m_owns2 hr go
  · exact m_owns3 hr go
