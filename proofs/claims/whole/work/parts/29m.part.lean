theorem shr8 : ((0 : Int32) >>> ((0 : Int32) &&& 31)) &&& 1 = 0 ∧ ((0 : Int32) >>> ((1 : Int32) &&& 31)) &&& 1 = 0 ∧ ((0 : Int32) >>> ((2 : Int32) &&& 31)) &&& 1 = 0 ∧ ((1 : Int32) >>> ((0 : Int32) &&& 31)) &&& 1 = 1 ∧ ((1 : Int32) >>> ((1 : Int32) &&& 31)) &&& 1 = 0 ∧ ((1 : Int32) >>> ((2 : Int32) &&& 31)) &&& 1 = 0 ∧ ((2 : Int32) >>> ((0 : Int32) &&& 31)) &&& 1 = 0 ∧ ((2 : Int32) >>> ((1 : Int32) &&& 31)) &&& 1 = 1 ∧ ((2 : Int32) >>> ((2 : Int32) &&& 31)) &&& 1 = 0 ∧ ((3 : Int32) >>> ((0 : Int32) &&& 31)) &&& 1 = 1 ∧ ((3 : Int32) >>> ((1 : Int32) &&& 31)) &&& 1 = 1 ∧ ((3 : Int32) >>> ((2 : Int32) &&& 31)) &&& 1 = 0 ∧ ((4 : Int32) >>> ((0 : Int32) &&& 31)) &&& 1 = 0 ∧ ((4 : Int32) >>> ((1 : Int32) &&& 31)) &&& 1 = 0 ∧ ((4 : Int32) >>> ((2 : Int32) &&& 31)) &&& 1 = 1 ∧ ((5 : Int32) >>> ((0 : Int32) &&& 31)) &&& 1 = 1 ∧ ((5 : Int32) >>> ((1 : Int32) &&& 31)) &&& 1 = 0 ∧ ((5 : Int32) >>> ((2 : Int32) &&& 31)) &&& 1 = 1 ∧ ((6 : Int32) >>> ((0 : Int32) &&& 31)) &&& 1 = 0 ∧ ((6 : Int32) >>> ((1 : Int32) &&& 31)) &&& 1 = 1 ∧ ((6 : Int32) >>> ((2 : Int32) &&& 31)) &&& 1 = 1 ∧ ((7 : Int32) >>> ((0 : Int32) &&& 31)) &&& 1 = 1 ∧ ((7 : Int32) >>> ((1 : Int32) &&& 31)) &&& 1 = 1 ∧ ((7 : Int32) >>> ((2 : Int32) &&& 31)) &&& 1 = 1 ∧ (0 : Int32) &&& 1 = 0 ∧ (1 : Int32) &&& 1 = 1 ∧ (2 : Int32) &&& 1 = 0 ∧ (3 : Int32) &&& 1 = 1 ∧ (4 : Int32) &&& 1 = 0 ∧ (5 : Int32) &&& 1 = 1 ∧ (6 : Int32) &&& 1 = 0 ∧ (7 : Int32) &&& 1 = 1 := by decide +kernel
theorem shl4 : (1 : Int32) <<< ((0 : Int32) &&& 31) = 1 ∧ (1 : Int32) <<< ((1 : Int32) &&& 31) = 2 ∧ (1 : Int32) <<< ((2 : Int32) &&& 31) = 4 ∧ (1 : Int32) <<< ((3 : Int32) &&& 31) = 8 := by decide +kernel
set_option maxRecDepth 100000 in
theorem c_bc0 (h : Hp) (k pc : Nat) (ls : Lo) (st : List Value) (Q : Option Value → Hp → Prop) : Call 167 [some (.int 0)] h k pc ls st Q ↔ Wp k pc ls (.int 0 :: st) h Q := by
  simp [S167_0, S167_1, Call_in, BS]
  try exact iff_of_eq (congrArg (fun v => Wp k pc ls (.int v :: st) h Q) (by decide +kernel))
set_option maxRecDepth 100000 in
theorem c_bc1 (h : Hp) (k pc : Nat) (ls : Lo) (st : List Value) (Q : Option Value → Hp → Prop) : Call 167 [some (.int 1)] h k pc ls st Q ↔ Wp k pc ls (.int 1 :: st) h Q := by
  simp [S167_0, S167_1, Call_in, BS]
  try exact iff_of_eq (congrArg (fun v => Wp k pc ls (.int v :: st) h Q) (by decide +kernel))
set_option maxRecDepth 100000 in
theorem c_bc2 (h : Hp) (k pc : Nat) (ls : Lo) (st : List Value) (Q : Option Value → Hp → Prop) : Call 167 [some (.int 2)] h k pc ls st Q ↔ Wp k pc ls (.int 1 :: st) h Q := by
  simp [S167_0, S167_1, Call_in, BS]
  try exact iff_of_eq (congrArg (fun v => Wp k pc ls (.int v :: st) h Q) (by decide +kernel))
set_option maxRecDepth 100000 in
theorem c_bc3 (h : Hp) (k pc : Nat) (ls : Lo) (st : List Value) (Q : Option Value → Hp → Prop) : Call 167 [some (.int 3)] h k pc ls st Q ↔ Wp k pc ls (.int 2 :: st) h Q := by
  simp [S167_0, S167_1, Call_in, BS]
  try exact iff_of_eq (congrArg (fun v => Wp k pc ls (.int v :: st) h Q) (by decide +kernel))
set_option maxRecDepth 100000 in
theorem c_bc4 (h : Hp) (k pc : Nat) (ls : Lo) (st : List Value) (Q : Option Value → Hp → Prop) : Call 167 [some (.int 4)] h k pc ls st Q ↔ Wp k pc ls (.int 1 :: st) h Q := by
  simp [S167_0, S167_1, Call_in, BS]
  try exact iff_of_eq (congrArg (fun v => Wp k pc ls (.int v :: st) h Q) (by decide +kernel))
set_option maxRecDepth 100000 in
theorem c_bc5 (h : Hp) (k pc : Nat) (ls : Lo) (st : List Value) (Q : Option Value → Hp → Prop) : Call 167 [some (.int 5)] h k pc ls st Q ↔ Wp k pc ls (.int 2 :: st) h Q := by
  simp [S167_0, S167_1, Call_in, BS]
  try exact iff_of_eq (congrArg (fun v => Wp k pc ls (.int v :: st) h Q) (by decide +kernel))
set_option maxRecDepth 100000 in
theorem c_bc6 (h : Hp) (k pc : Nat) (ls : Lo) (st : List Value) (Q : Option Value → Hp → Prop) : Call 167 [some (.int 6)] h k pc ls st Q ↔ Wp k pc ls (.int 2 :: st) h Q := by
  simp [S167_0, S167_1, Call_in, BS]
  try exact iff_of_eq (congrArg (fun v => Wp k pc ls (.int v :: st) h Q) (by decide +kernel))
set_option maxRecDepth 100000 in
theorem c_bc7 (h : Hp) (k pc : Nat) (ls : Lo) (st : List Value) (Q : Option Value → Hp → Prop) : Call 167 [some (.int 7)] h k pc ls st Q ↔ Wp k pc ls (.int 3 :: st) h Q := by
  simp [S167_0, S167_1, Call_in, BS]
  try exact iff_of_eq (congrArg (fun v => Wp k pc ls (.int v :: st) h Q) (by decide +kernel))
set_option maxRecDepth 100000 in
set_option maxHeartbeats 8000000 in
theorem m_part0_0 {n sl : Nat} {C Z : Nat → Nat} {I : Nat → Nat → Int32} {L : Nat → Nat → Int64} {R : Nat → Nat → Nat} {M j : Nat} {Q : Option Value → Hp → Prop} (hM' : LayM C Z R) (hM12 : M ≤ 12) (hj : j < M) (e2 : I 74 0 = nI M) (k1 : ¬ I 75 j = 1) (k4 : I 76 j = nI 0)
    (go : ∀ I4 ls, (∀ i, i ≠ 82 → i ≠ 83 → i ≠ 84 → I4 i = I i) → (True) → Call 115 [some (.ref 74), some (.int 3), some (.int (nI 0)), some (.int (I 77 j)), some (.int (I 78 j)), none, none, none, none] (n, sl, C, Z, I4, L, R) 120 185 ls [] Q) : Wp 120 0 [some (.ref 74), some (.int (nI j)), some (.int 0), none, none, none, none] [] (n, sl, C, Z, I, L, R) Q := by
  have hM := hM'
  unfold LayM at hM
  have n0 : nI 0 = 0 := rfl
  have n2 : nI 0 = 0 := rfl
  have j0 : inb (nI j) 12 = true := by rw [inb_nI (by omega)]; simp; omega
  have jx : ix (nI j) = j := ix_nI (by omega)
  have ia : ∀ k, k < 9 → inb (nI (9 * j + k)) 108 = true ∧ ix (nI (9 * j + k)) = 9 * j + k := fun k hk => ⟨by rw [inb_nI (by omega)]; simp; omega, ix_nI (by omega)⟩
  have ia0 : inb (nI (9 * j)) 108 = true ∧ ix (nI (9 * j)) = 9 * j := ia 0 (by omega)
  have ib : ∀ k, k < 3 → inb (nI (3 * j + k)) 36 = true ∧ ix (nI (3 * j + k)) = 3 * j + k := fun k hk => ⟨by rw [inb_nI (by omega)]; simp; omega, ix_nI (by omega)⟩
  have ib0 : inb (nI (3 * j)) 36 = true ∧ ix (nI (3 * j)) = 3 * j := ib 0 (by omega)
  simp [S120_0, S120_1, S120_2, S120_3, S120_4, S104_0, Call_in (k2 := 104), BS, ixs, inbs, hM, is_yesG hM' hM12 hj, e2, k1, k4, n0, j0, jx, mul3, mul9, nIk, ia, ia0, ib, ib0, shr8, shl4, u2_rd, Nat.add_assoc]
  simp only [n2] at go
  refine go _ _ (fun i h1 h2 h3 => ?_) (by simp [u2_rd])
  simp only [u2_ne _ _ _ h1, u2_ne _ _ _ h2, u2_ne _ _ _ h3]

set_option maxRecDepth 100000 in
set_option maxHeartbeats 8000000 in
theorem m_part1_0 {n sl : Nat} {C Z : Nat → Nat} {I : Nat → Nat → Int32} {L : Nat → Nat → Int64} {R : Nat → Nat → Nat} {M j : Nat} {Q : Option Value → Hp → Prop} (hM' : LayM C Z R) (hM12 : M ≤ 12) (hj : j < M) (e2 : I 74 0 = nI M) (k1 : ¬ I 75 j = 1) (k4 : I 76 j = nI 1)
    (go : ∀ I4 ls, (∀ i, i ≠ 82 → i ≠ 83 → i ≠ 84 → I4 i = I i) → (True) → Call 115 [some (.ref 74), some (.int 3), some (.int (nI 0)), some (.int (I 77 j)), some (.int (I 78 j)), none, none, none, none] (n, sl, C, Z, I4, L, R) 120 185 ls [] Q) : Wp 120 0 [some (.ref 74), some (.int (nI j)), some (.int 0), none, none, none, none] [] (n, sl, C, Z, I, L, R) Q := by
  have hM := hM'
  unfold LayM at hM
  have n0 : nI 1 = 1 := rfl
  have n2 : nI 0 = 0 := rfl
  have j0 : inb (nI j) 12 = true := by rw [inb_nI (by omega)]; simp; omega
  have jx : ix (nI j) = j := ix_nI (by omega)
  have ia : ∀ k, k < 9 → inb (nI (9 * j + k)) 108 = true ∧ ix (nI (9 * j + k)) = 9 * j + k := fun k hk => ⟨by rw [inb_nI (by omega)]; simp; omega, ix_nI (by omega)⟩
  have ia0 : inb (nI (9 * j)) 108 = true ∧ ix (nI (9 * j)) = 9 * j := ia 0 (by omega)
  have ib : ∀ k, k < 3 → inb (nI (3 * j + k)) 36 = true ∧ ix (nI (3 * j + k)) = 3 * j + k := fun k hk => ⟨by rw [inb_nI (by omega)]; simp; omega, ix_nI (by omega)⟩
  have ib0 : inb (nI (3 * j)) 36 = true ∧ ix (nI (3 * j)) = 3 * j := ib 0 (by omega)
  simp [S120_0, S120_1, S120_2, S120_3, S120_4, S104_0, Call_in (k2 := 104), BS, ixs, inbs, hM, is_yesG hM' hM12 hj, e2, k1, k4, n0, j0, jx, mul3, mul9, nIk, ia, ia0, ib, ib0, shr8, shl4, u2_rd, Nat.add_assoc]
  simp only [n2] at go
  refine go _ _ (fun i h1 h2 h3 => ?_) (by simp [u2_rd])
  simp only [u2_ne _ _ _ h1, u2_ne _ _ _ h2, u2_ne _ _ _ h3]

set_option maxRecDepth 100000 in
set_option maxHeartbeats 8000000 in
theorem m_part1_1 {n sl : Nat} {C Z : Nat → Nat} {I : Nat → Nat → Int32} {L : Nat → Nat → Int64} {R : Nat → Nat → Nat} {M j : Nat} {Q : Option Value → Hp → Prop} (hM' : LayM C Z R) (hM12 : M ≤ 12) (hj : j < M) (e2 : I 74 0 = nI M) (k1 : ¬ I 75 j = 1) (k4 : I 76 j = nI 1)
    (go : ∀ I4 ls, (∀ i, i ≠ 82 → i ≠ 83 → i ≠ 84 → I4 i = I i) → (I4 82 0 = I 79 (9 * j) ∧ (I4 83 0 = I 80 (3 * j) ∧ I4 84 0 = I 81 (3 * j))) → Call 115 [some (.ref 74), some (.int 3), some (.int (nI 1)), some (.int (I 77 j)), some (.int (I 78 j)), none, none, none, none] (n, sl, C, Z, I4, L, R) 120 185 ls [] Q) : Wp 120 0 [some (.ref 74), some (.int (nI j)), some (.int 1), none, none, none, none] [] (n, sl, C, Z, I, L, R) Q := by
  have hM := hM'
  unfold LayM at hM
  have n0 : nI 1 = 1 := rfl
  have n2 : nI 1 = 1 := rfl
  have j0 : inb (nI j) 12 = true := by rw [inb_nI (by omega)]; simp; omega
  have jx : ix (nI j) = j := ix_nI (by omega)
  have ia : ∀ k, k < 9 → inb (nI (9 * j + k)) 108 = true ∧ ix (nI (9 * j + k)) = 9 * j + k := fun k hk => ⟨by rw [inb_nI (by omega)]; simp; omega, ix_nI (by omega)⟩
  have ia0 : inb (nI (9 * j)) 108 = true ∧ ix (nI (9 * j)) = 9 * j := ia 0 (by omega)
  have ib : ∀ k, k < 3 → inb (nI (3 * j + k)) 36 = true ∧ ix (nI (3 * j + k)) = 3 * j + k := fun k hk => ⟨by rw [inb_nI (by omega)]; simp; omega, ix_nI (by omega)⟩
  have ib0 : inb (nI (3 * j)) 36 = true ∧ ix (nI (3 * j)) = 3 * j := ib 0 (by omega)
  simp [S120_0, S120_1, S120_2, S120_3, S120_4, S104_0, Call_in (k2 := 104), BS, ixs, inbs, hM, is_yesG hM' hM12 hj, e2, k1, k4, n0, j0, jx, mul3, mul9, nIk, ia, ia0, ib, ib0, shr8, shl4, u2_rd, Nat.add_assoc]
  simp only [n2] at go
  refine go _ _ (fun i h1 h2 h3 => ?_) (by simp [u2_rd])
  simp only [u2_ne _ _ _ h1, u2_ne _ _ _ h2, u2_ne _ _ _ h3]

set_option maxRecDepth 100000 in
set_option maxHeartbeats 8000000 in
theorem m_part2_0 {n sl : Nat} {C Z : Nat → Nat} {I : Nat → Nat → Int32} {L : Nat → Nat → Int64} {R : Nat → Nat → Nat} {M j : Nat} {Q : Option Value → Hp → Prop} (hM' : LayM C Z R) (hM12 : M ≤ 12) (hj : j < M) (e2 : I 74 0 = nI M) (k1 : ¬ I 75 j = 1) (k4 : I 76 j = nI 2)
    (go : ∀ I4 ls, (∀ i, i ≠ 82 → i ≠ 83 → i ≠ 84 → I4 i = I i) → (True) → Call 115 [some (.ref 74), some (.int 3), some (.int (nI 0)), some (.int (I 77 j)), some (.int (I 78 j)), none, none, none, none] (n, sl, C, Z, I4, L, R) 120 185 ls [] Q) : Wp 120 0 [some (.ref 74), some (.int (nI j)), some (.int 0), none, none, none, none] [] (n, sl, C, Z, I, L, R) Q := by
  have hM := hM'
  unfold LayM at hM
  have n0 : nI 2 = 2 := rfl
  have n2 : nI 0 = 0 := rfl
  have j0 : inb (nI j) 12 = true := by rw [inb_nI (by omega)]; simp; omega
  have jx : ix (nI j) = j := ix_nI (by omega)
  have ia : ∀ k, k < 9 → inb (nI (9 * j + k)) 108 = true ∧ ix (nI (9 * j + k)) = 9 * j + k := fun k hk => ⟨by rw [inb_nI (by omega)]; simp; omega, ix_nI (by omega)⟩
  have ia0 : inb (nI (9 * j)) 108 = true ∧ ix (nI (9 * j)) = 9 * j := ia 0 (by omega)
  have ib : ∀ k, k < 3 → inb (nI (3 * j + k)) 36 = true ∧ ix (nI (3 * j + k)) = 3 * j + k := fun k hk => ⟨by rw [inb_nI (by omega)]; simp; omega, ix_nI (by omega)⟩
  have ib0 : inb (nI (3 * j)) 36 = true ∧ ix (nI (3 * j)) = 3 * j := ib 0 (by omega)
  simp [S120_0, S120_1, S120_2, S120_3, S120_4, S104_0, Call_in (k2 := 104), BS, ixs, inbs, hM, is_yesG hM' hM12 hj, e2, k1, k4, n0, j0, jx, mul3, mul9, nIk, ia, ia0, ib, ib0, shr8, shl4, u2_rd, Nat.add_assoc]
  simp only [n2] at go
  refine go _ _ (fun i h1 h2 h3 => ?_) (by simp [u2_rd])
  simp only [u2_ne _ _ _ h1, u2_ne _ _ _ h2, u2_ne _ _ _ h3]

set_option maxRecDepth 100000 in
set_option maxHeartbeats 8000000 in
theorem m_part2_1 {n sl : Nat} {C Z : Nat → Nat} {I : Nat → Nat → Int32} {L : Nat → Nat → Int64} {R : Nat → Nat → Nat} {M j : Nat} {Q : Option Value → Hp → Prop} (hM' : LayM C Z R) (hM12 : M ≤ 12) (hj : j < M) (e2 : I 74 0 = nI M) (k1 : ¬ I 75 j = 1) (k4 : I 76 j = nI 2)
    (go : ∀ I4 ls, (∀ i, i ≠ 82 → i ≠ 83 → i ≠ 84 → I4 i = I i) → (I4 82 0 = I 79 (9 * j) ∧ (I4 83 0 = I 80 (3 * j) ∧ I4 84 0 = I 81 (3 * j))) → Call 115 [some (.ref 74), some (.int 3), some (.int (nI 1)), some (.int (I 77 j)), some (.int (I 78 j)), none, none, none, none] (n, sl, C, Z, I4, L, R) 120 185 ls [] Q) : Wp 120 0 [some (.ref 74), some (.int (nI j)), some (.int 1), none, none, none, none] [] (n, sl, C, Z, I, L, R) Q := by
  have hM := hM'
  unfold LayM at hM
  have n0 : nI 2 = 2 := rfl
  have n2 : nI 1 = 1 := rfl
  have j0 : inb (nI j) 12 = true := by rw [inb_nI (by omega)]; simp; omega
  have jx : ix (nI j) = j := ix_nI (by omega)
  have ia : ∀ k, k < 9 → inb (nI (9 * j + k)) 108 = true ∧ ix (nI (9 * j + k)) = 9 * j + k := fun k hk => ⟨by rw [inb_nI (by omega)]; simp; omega, ix_nI (by omega)⟩
  have ia0 : inb (nI (9 * j)) 108 = true ∧ ix (nI (9 * j)) = 9 * j := ia 0 (by omega)
  have ib : ∀ k, k < 3 → inb (nI (3 * j + k)) 36 = true ∧ ix (nI (3 * j + k)) = 3 * j + k := fun k hk => ⟨by rw [inb_nI (by omega)]; simp; omega, ix_nI (by omega)⟩
  have ib0 : inb (nI (3 * j)) 36 = true ∧ ix (nI (3 * j)) = 3 * j := ib 0 (by omega)
  simp [S120_0, S120_1, S120_2, S120_3, S120_4, S104_0, Call_in (k2 := 104), BS, ixs, inbs, hM, is_yesG hM' hM12 hj, e2, k1, k4, n0, j0, jx, mul3, mul9, nIk, ia, ia0, ib, ib0, shr8, shl4, u2_rd, Nat.add_assoc]
  simp only [n2] at go
  refine go _ _ (fun i h1 h2 h3 => ?_) (by simp [u2_rd])
  simp only [u2_ne _ _ _ h1, u2_ne _ _ _ h2, u2_ne _ _ _ h3]

set_option maxRecDepth 100000 in
set_option maxHeartbeats 8000000 in
theorem m_part2_2 {n sl : Nat} {C Z : Nat → Nat} {I : Nat → Nat → Int32} {L : Nat → Nat → Int64} {R : Nat → Nat → Nat} {M j : Nat} {Q : Option Value → Hp → Prop} (hM' : LayM C Z R) (hM12 : M ≤ 12) (hj : j < M) (e2 : I 74 0 = nI M) (k1 : ¬ I 75 j = 1) (k4 : I 76 j = nI 2)
    (go : ∀ I4 ls, (∀ i, i ≠ 82 → i ≠ 83 → i ≠ 84 → I4 i = I i) → (I4 82 0 = I 79 (9 * j + 4) ∧ (I4 83 0 = I 80 (3 * j + 1) ∧ I4 84 0 = I 81 (3 * j + 1))) → Call 115 [some (.ref 74), some (.int 3), some (.int (nI 1)), some (.int (I 77 j)), some (.int (I 78 j)), none, none, none, none] (n, sl, C, Z, I4, L, R) 120 185 ls [] Q) : Wp 120 0 [some (.ref 74), some (.int (nI j)), some (.int 2), none, none, none, none] [] (n, sl, C, Z, I, L, R) Q := by
  have hM := hM'
  unfold LayM at hM
  have n0 : nI 2 = 2 := rfl
  have n2 : nI 1 = 1 := rfl
  have j0 : inb (nI j) 12 = true := by rw [inb_nI (by omega)]; simp; omega
  have jx : ix (nI j) = j := ix_nI (by omega)
  have ia : ∀ k, k < 9 → inb (nI (9 * j + k)) 108 = true ∧ ix (nI (9 * j + k)) = 9 * j + k := fun k hk => ⟨by rw [inb_nI (by omega)]; simp; omega, ix_nI (by omega)⟩
  have ia0 : inb (nI (9 * j)) 108 = true ∧ ix (nI (9 * j)) = 9 * j := ia 0 (by omega)
  have ib : ∀ k, k < 3 → inb (nI (3 * j + k)) 36 = true ∧ ix (nI (3 * j + k)) = 3 * j + k := fun k hk => ⟨by rw [inb_nI (by omega)]; simp; omega, ix_nI (by omega)⟩
  have ib0 : inb (nI (3 * j)) 36 = true ∧ ix (nI (3 * j)) = 3 * j := ib 0 (by omega)
  simp [S120_0, S120_1, S120_2, S120_3, S120_4, S104_0, Call_in (k2 := 104), BS, ixs, inbs, hM, is_yesG hM' hM12 hj, e2, k1, k4, n0, j0, jx, mul3, mul9, nIk, ia, ia0, ib, ib0, shr8, shl4, u2_rd, Nat.add_assoc]
  simp only [n2] at go
  refine go _ _ (fun i h1 h2 h3 => ?_) (by simp [u2_rd])
  simp only [u2_ne _ _ _ h1, u2_ne _ _ _ h2, u2_ne _ _ _ h3]

set_option maxRecDepth 100000 in
set_option maxHeartbeats 8000000 in
theorem m_part2_3 {n sl : Nat} {C Z : Nat → Nat} {I : Nat → Nat → Int32} {L : Nat → Nat → Int64} {R : Nat → Nat → Nat} {M j : Nat} {Q : Option Value → Hp → Prop} (hM' : LayM C Z R) (hM12 : M ≤ 12) (hj : j < M) (e2 : I 74 0 = nI M) (k1 : ¬ I 75 j = 1) (k4 : I 76 j = nI 2)
    (go : ∀ I4 ls, (∀ i, i ≠ 82 → i ≠ 83 → i ≠ 84 → I4 i = I i) → (I4 82 0 = I 79 (9 * j) ∧ I4 82 1 = I 79 (9 * j + 1) ∧ I4 82 3 = I 79 (9 * j + 3) ∧ I4 82 4 = I 79 (9 * j + 4) ∧ (I4 83 0 = I 80 (3 * j) ∧ I4 84 0 = I 81 (3 * j)) ∧ (I4 83 1 = I 80 (3 * j + 1) ∧ I4 84 1 = I 81 (3 * j + 1))) → Call 115 [some (.ref 74), some (.int 3), some (.int (nI 2)), some (.int (I 77 j)), some (.int (I 78 j)), none, none, none, none] (n, sl, C, Z, I4, L, R) 120 185 ls [] Q) : Wp 120 0 [some (.ref 74), some (.int (nI j)), some (.int 3), none, none, none, none] [] (n, sl, C, Z, I, L, R) Q := by
  have hM := hM'
  unfold LayM at hM
  have n0 : nI 2 = 2 := rfl
  have n2 : nI 2 = 2 := rfl
  have j0 : inb (nI j) 12 = true := by rw [inb_nI (by omega)]; simp; omega
  have jx : ix (nI j) = j := ix_nI (by omega)
  have ia : ∀ k, k < 9 → inb (nI (9 * j + k)) 108 = true ∧ ix (nI (9 * j + k)) = 9 * j + k := fun k hk => ⟨by rw [inb_nI (by omega)]; simp; omega, ix_nI (by omega)⟩
  have ia0 : inb (nI (9 * j)) 108 = true ∧ ix (nI (9 * j)) = 9 * j := ia 0 (by omega)
  have ib : ∀ k, k < 3 → inb (nI (3 * j + k)) 36 = true ∧ ix (nI (3 * j + k)) = 3 * j + k := fun k hk => ⟨by rw [inb_nI (by omega)]; simp; omega, ix_nI (by omega)⟩
  have ib0 : inb (nI (3 * j)) 36 = true ∧ ix (nI (3 * j)) = 3 * j := ib 0 (by omega)
  simp [S120_0, S120_1, S120_2, S120_3, S120_4, S104_0, Call_in (k2 := 104), BS, ixs, inbs, hM, is_yesG hM' hM12 hj, e2, k1, k4, n0, j0, jx, mul3, mul9, nIk, ia, ia0, ib, ib0, shr8, shl4, u2_rd, Nat.add_assoc]
  simp only [n2] at go
  refine go _ _ (fun i h1 h2 h3 => ?_) (by simp [u2_rd])
  simp only [u2_ne _ _ _ h1, u2_ne _ _ _ h2, u2_ne _ _ _ h3]

set_option maxRecDepth 100000 in
set_option maxHeartbeats 8000000 in
theorem m_part3_0 {n sl : Nat} {C Z : Nat → Nat} {I : Nat → Nat → Int32} {L : Nat → Nat → Int64} {R : Nat → Nat → Nat} {M j : Nat} {Q : Option Value → Hp → Prop} (hM' : LayM C Z R) (hM12 : M ≤ 12) (hj : j < M) (e2 : I 74 0 = nI M) (k1 : ¬ I 75 j = 1) (k4 : I 76 j = nI 3)
    (go : ∀ I4 ls, (∀ i, i ≠ 82 → i ≠ 83 → i ≠ 84 → I4 i = I i) → (True) → Call 115 [some (.ref 74), some (.int 3), some (.int (nI 0)), some (.int (I 77 j)), some (.int (I 78 j)), none, none, none, none] (n, sl, C, Z, I4, L, R) 120 185 ls [] Q) : Wp 120 0 [some (.ref 74), some (.int (nI j)), some (.int 0), none, none, none, none] [] (n, sl, C, Z, I, L, R) Q := by
  have hM := hM'
  unfold LayM at hM
  have n0 : nI 3 = 3 := rfl
  have n2 : nI 0 = 0 := rfl
  have j0 : inb (nI j) 12 = true := by rw [inb_nI (by omega)]; simp; omega
  have jx : ix (nI j) = j := ix_nI (by omega)
  have ia : ∀ k, k < 9 → inb (nI (9 * j + k)) 108 = true ∧ ix (nI (9 * j + k)) = 9 * j + k := fun k hk => ⟨by rw [inb_nI (by omega)]; simp; omega, ix_nI (by omega)⟩
  have ia0 : inb (nI (9 * j)) 108 = true ∧ ix (nI (9 * j)) = 9 * j := ia 0 (by omega)
  have ib : ∀ k, k < 3 → inb (nI (3 * j + k)) 36 = true ∧ ix (nI (3 * j + k)) = 3 * j + k := fun k hk => ⟨by rw [inb_nI (by omega)]; simp; omega, ix_nI (by omega)⟩
  have ib0 : inb (nI (3 * j)) 36 = true ∧ ix (nI (3 * j)) = 3 * j := ib 0 (by omega)
  simp [S120_0, S120_1, S120_2, S120_3, S120_4, S104_0, Call_in (k2 := 104), BS, ixs, inbs, hM, is_yesG hM' hM12 hj, e2, k1, k4, n0, j0, jx, mul3, mul9, nIk, ia, ia0, ib, ib0, shr8, shl4, u2_rd, Nat.add_assoc]
  simp only [n2] at go
  refine go _ _ (fun i h1 h2 h3 => ?_) (by simp [u2_rd])
  simp only [u2_ne _ _ _ h1, u2_ne _ _ _ h2, u2_ne _ _ _ h3]

set_option maxRecDepth 100000 in
set_option maxHeartbeats 8000000 in
theorem m_part3_1 {n sl : Nat} {C Z : Nat → Nat} {I : Nat → Nat → Int32} {L : Nat → Nat → Int64} {R : Nat → Nat → Nat} {M j : Nat} {Q : Option Value → Hp → Prop} (hM' : LayM C Z R) (hM12 : M ≤ 12) (hj : j < M) (e2 : I 74 0 = nI M) (k1 : ¬ I 75 j = 1) (k4 : I 76 j = nI 3)
    (go : ∀ I4 ls, (∀ i, i ≠ 82 → i ≠ 83 → i ≠ 84 → I4 i = I i) → (I4 82 0 = I 79 (9 * j) ∧ (I4 83 0 = I 80 (3 * j) ∧ I4 84 0 = I 81 (3 * j))) → Call 115 [some (.ref 74), some (.int 3), some (.int (nI 1)), some (.int (I 77 j)), some (.int (I 78 j)), none, none, none, none] (n, sl, C, Z, I4, L, R) 120 185 ls [] Q) : Wp 120 0 [some (.ref 74), some (.int (nI j)), some (.int 1), none, none, none, none] [] (n, sl, C, Z, I, L, R) Q := by
  have hM := hM'
  unfold LayM at hM
  have n0 : nI 3 = 3 := rfl
  have n2 : nI 1 = 1 := rfl
  have j0 : inb (nI j) 12 = true := by rw [inb_nI (by omega)]; simp; omega
  have jx : ix (nI j) = j := ix_nI (by omega)
  have ia : ∀ k, k < 9 → inb (nI (9 * j + k)) 108 = true ∧ ix (nI (9 * j + k)) = 9 * j + k := fun k hk => ⟨by rw [inb_nI (by omega)]; simp; omega, ix_nI (by omega)⟩
  have ia0 : inb (nI (9 * j)) 108 = true ∧ ix (nI (9 * j)) = 9 * j := ia 0 (by omega)
  have ib : ∀ k, k < 3 → inb (nI (3 * j + k)) 36 = true ∧ ix (nI (3 * j + k)) = 3 * j + k := fun k hk => ⟨by rw [inb_nI (by omega)]; simp; omega, ix_nI (by omega)⟩
  have ib0 : inb (nI (3 * j)) 36 = true ∧ ix (nI (3 * j)) = 3 * j := ib 0 (by omega)
  simp [S120_0, S120_1, S120_2, S120_3, S120_4, S104_0, Call_in (k2 := 104), BS, ixs, inbs, hM, is_yesG hM' hM12 hj, e2, k1, k4, n0, j0, jx, mul3, mul9, nIk, ia, ia0, ib, ib0, shr8, shl4, u2_rd, Nat.add_assoc]
  simp only [n2] at go
  refine go _ _ (fun i h1 h2 h3 => ?_) (by simp [u2_rd])
  simp only [u2_ne _ _ _ h1, u2_ne _ _ _ h2, u2_ne _ _ _ h3]

set_option maxRecDepth 100000 in
set_option maxHeartbeats 8000000 in
theorem m_part3_2 {n sl : Nat} {C Z : Nat → Nat} {I : Nat → Nat → Int32} {L : Nat → Nat → Int64} {R : Nat → Nat → Nat} {M j : Nat} {Q : Option Value → Hp → Prop} (hM' : LayM C Z R) (hM12 : M ≤ 12) (hj : j < M) (e2 : I 74 0 = nI M) (k1 : ¬ I 75 j = 1) (k4 : I 76 j = nI 3)
    (go : ∀ I4 ls, (∀ i, i ≠ 82 → i ≠ 83 → i ≠ 84 → I4 i = I i) → (I4 82 0 = I 79 (9 * j + 4) ∧ (I4 83 0 = I 80 (3 * j + 1) ∧ I4 84 0 = I 81 (3 * j + 1))) → Call 115 [some (.ref 74), some (.int 3), some (.int (nI 1)), some (.int (I 77 j)), some (.int (I 78 j)), none, none, none, none] (n, sl, C, Z, I4, L, R) 120 185 ls [] Q) : Wp 120 0 [some (.ref 74), some (.int (nI j)), some (.int 2), none, none, none, none] [] (n, sl, C, Z, I, L, R) Q := by
  have hM := hM'
  unfold LayM at hM
  have n0 : nI 3 = 3 := rfl
  have n2 : nI 1 = 1 := rfl
  have j0 : inb (nI j) 12 = true := by rw [inb_nI (by omega)]; simp; omega
  have jx : ix (nI j) = j := ix_nI (by omega)
  have ia : ∀ k, k < 9 → inb (nI (9 * j + k)) 108 = true ∧ ix (nI (9 * j + k)) = 9 * j + k := fun k hk => ⟨by rw [inb_nI (by omega)]; simp; omega, ix_nI (by omega)⟩
  have ia0 : inb (nI (9 * j)) 108 = true ∧ ix (nI (9 * j)) = 9 * j := ia 0 (by omega)
  have ib : ∀ k, k < 3 → inb (nI (3 * j + k)) 36 = true ∧ ix (nI (3 * j + k)) = 3 * j + k := fun k hk => ⟨by rw [inb_nI (by omega)]; simp; omega, ix_nI (by omega)⟩
  have ib0 : inb (nI (3 * j)) 36 = true ∧ ix (nI (3 * j)) = 3 * j := ib 0 (by omega)
  simp [S120_0, S120_1, S120_2, S120_3, S120_4, S104_0, Call_in (k2 := 104), BS, ixs, inbs, hM, is_yesG hM' hM12 hj, e2, k1, k4, n0, j0, jx, mul3, mul9, nIk, ia, ia0, ib, ib0, shr8, shl4, u2_rd, Nat.add_assoc]
  simp only [n2] at go
  refine go _ _ (fun i h1 h2 h3 => ?_) (by simp [u2_rd])
  simp only [u2_ne _ _ _ h1, u2_ne _ _ _ h2, u2_ne _ _ _ h3]

set_option maxRecDepth 100000 in
set_option maxHeartbeats 8000000 in
theorem m_part3_3 {n sl : Nat} {C Z : Nat → Nat} {I : Nat → Nat → Int32} {L : Nat → Nat → Int64} {R : Nat → Nat → Nat} {M j : Nat} {Q : Option Value → Hp → Prop} (hM' : LayM C Z R) (hM12 : M ≤ 12) (hj : j < M) (e2 : I 74 0 = nI M) (k1 : ¬ I 75 j = 1) (k4 : I 76 j = nI 3)
    (go : ∀ I4 ls, (∀ i, i ≠ 82 → i ≠ 83 → i ≠ 84 → I4 i = I i) → (I4 82 0 = I 79 (9 * j) ∧ I4 82 1 = I 79 (9 * j + 1) ∧ I4 82 3 = I 79 (9 * j + 3) ∧ I4 82 4 = I 79 (9 * j + 4) ∧ (I4 83 0 = I 80 (3 * j) ∧ I4 84 0 = I 81 (3 * j)) ∧ (I4 83 1 = I 80 (3 * j + 1) ∧ I4 84 1 = I 81 (3 * j + 1))) → Call 115 [some (.ref 74), some (.int 3), some (.int (nI 2)), some (.int (I 77 j)), some (.int (I 78 j)), none, none, none, none] (n, sl, C, Z, I4, L, R) 120 185 ls [] Q) : Wp 120 0 [some (.ref 74), some (.int (nI j)), some (.int 3), none, none, none, none] [] (n, sl, C, Z, I, L, R) Q := by
  have hM := hM'
  unfold LayM at hM
  have n0 : nI 3 = 3 := rfl
  have n2 : nI 2 = 2 := rfl
  have j0 : inb (nI j) 12 = true := by rw [inb_nI (by omega)]; simp; omega
  have jx : ix (nI j) = j := ix_nI (by omega)
  have ia : ∀ k, k < 9 → inb (nI (9 * j + k)) 108 = true ∧ ix (nI (9 * j + k)) = 9 * j + k := fun k hk => ⟨by rw [inb_nI (by omega)]; simp; omega, ix_nI (by omega)⟩
  have ia0 : inb (nI (9 * j)) 108 = true ∧ ix (nI (9 * j)) = 9 * j := ia 0 (by omega)
  have ib : ∀ k, k < 3 → inb (nI (3 * j + k)) 36 = true ∧ ix (nI (3 * j + k)) = 3 * j + k := fun k hk => ⟨by rw [inb_nI (by omega)]; simp; omega, ix_nI (by omega)⟩
  have ib0 : inb (nI (3 * j)) 36 = true ∧ ix (nI (3 * j)) = 3 * j := ib 0 (by omega)
  simp [S120_0, S120_1, S120_2, S120_3, S120_4, S104_0, Call_in (k2 := 104), BS, ixs, inbs, hM, is_yesG hM' hM12 hj, e2, k1, k4, n0, j0, jx, mul3, mul9, nIk, ia, ia0, ib, ib0, shr8, shl4, u2_rd, Nat.add_assoc]
  simp only [n2] at go
  refine go _ _ (fun i h1 h2 h3 => ?_) (by simp [u2_rd])
  simp only [u2_ne _ _ _ h1, u2_ne _ _ _ h2, u2_ne _ _ _ h3]

set_option maxRecDepth 100000 in
set_option maxHeartbeats 8000000 in
theorem m_part3_4 {n sl : Nat} {C Z : Nat → Nat} {I : Nat → Nat → Int32} {L : Nat → Nat → Int64} {R : Nat → Nat → Nat} {M j : Nat} {Q : Option Value → Hp → Prop} (hM' : LayM C Z R) (hM12 : M ≤ 12) (hj : j < M) (e2 : I 74 0 = nI M) (k1 : ¬ I 75 j = 1) (k4 : I 76 j = nI 3)
    (go : ∀ I4 ls, (∀ i, i ≠ 82 → i ≠ 83 → i ≠ 84 → I4 i = I i) → (I4 82 0 = I 79 (9 * j + 8) ∧ (I4 83 0 = I 80 (3 * j + 2) ∧ I4 84 0 = I 81 (3 * j + 2))) → Call 115 [some (.ref 74), some (.int 3), some (.int (nI 1)), some (.int (I 77 j)), some (.int (I 78 j)), none, none, none, none] (n, sl, C, Z, I4, L, R) 120 185 ls [] Q) : Wp 120 0 [some (.ref 74), some (.int (nI j)), some (.int 4), none, none, none, none] [] (n, sl, C, Z, I, L, R) Q := by
  have hM := hM'
  unfold LayM at hM
  have n0 : nI 3 = 3 := rfl
  have n2 : nI 1 = 1 := rfl
  have j0 : inb (nI j) 12 = true := by rw [inb_nI (by omega)]; simp; omega
  have jx : ix (nI j) = j := ix_nI (by omega)
  have ia : ∀ k, k < 9 → inb (nI (9 * j + k)) 108 = true ∧ ix (nI (9 * j + k)) = 9 * j + k := fun k hk => ⟨by rw [inb_nI (by omega)]; simp; omega, ix_nI (by omega)⟩
  have ia0 : inb (nI (9 * j)) 108 = true ∧ ix (nI (9 * j)) = 9 * j := ia 0 (by omega)
  have ib : ∀ k, k < 3 → inb (nI (3 * j + k)) 36 = true ∧ ix (nI (3 * j + k)) = 3 * j + k := fun k hk => ⟨by rw [inb_nI (by omega)]; simp; omega, ix_nI (by omega)⟩
  have ib0 : inb (nI (3 * j)) 36 = true ∧ ix (nI (3 * j)) = 3 * j := ib 0 (by omega)
  simp [S120_0, S120_1, S120_2, S120_3, S120_4, S104_0, Call_in (k2 := 104), BS, ixs, inbs, hM, is_yesG hM' hM12 hj, e2, k1, k4, n0, j0, jx, mul3, mul9, nIk, ia, ia0, ib, ib0, shr8, shl4, u2_rd, Nat.add_assoc]
  simp only [n2] at go
  refine go _ _ (fun i h1 h2 h3 => ?_) (by simp [u2_rd])
  simp only [u2_ne _ _ _ h1, u2_ne _ _ _ h2, u2_ne _ _ _ h3]

set_option maxRecDepth 100000 in
set_option maxHeartbeats 8000000 in
theorem m_part3_5 {n sl : Nat} {C Z : Nat → Nat} {I : Nat → Nat → Int32} {L : Nat → Nat → Int64} {R : Nat → Nat → Nat} {M j : Nat} {Q : Option Value → Hp → Prop} (hM' : LayM C Z R) (hM12 : M ≤ 12) (hj : j < M) (e2 : I 74 0 = nI M) (k1 : ¬ I 75 j = 1) (k4 : I 76 j = nI 3)
    (go : ∀ I4 ls, (∀ i, i ≠ 82 → i ≠ 83 → i ≠ 84 → I4 i = I i) → (I4 82 0 = I 79 (9 * j) ∧ I4 82 1 = I 79 (9 * j + 2) ∧ I4 82 3 = I 79 (9 * j + 6) ∧ I4 82 4 = I 79 (9 * j + 8) ∧ (I4 83 0 = I 80 (3 * j) ∧ I4 84 0 = I 81 (3 * j)) ∧ (I4 83 1 = I 80 (3 * j + 2) ∧ I4 84 1 = I 81 (3 * j + 2))) → Call 115 [some (.ref 74), some (.int 3), some (.int (nI 2)), some (.int (I 77 j)), some (.int (I 78 j)), none, none, none, none] (n, sl, C, Z, I4, L, R) 120 185 ls [] Q) : Wp 120 0 [some (.ref 74), some (.int (nI j)), some (.int 5), none, none, none, none] [] (n, sl, C, Z, I, L, R) Q := by
  have hM := hM'
  unfold LayM at hM
  have n0 : nI 3 = 3 := rfl
  have n2 : nI 2 = 2 := rfl
  have j0 : inb (nI j) 12 = true := by rw [inb_nI (by omega)]; simp; omega
  have jx : ix (nI j) = j := ix_nI (by omega)
  have ia : ∀ k, k < 9 → inb (nI (9 * j + k)) 108 = true ∧ ix (nI (9 * j + k)) = 9 * j + k := fun k hk => ⟨by rw [inb_nI (by omega)]; simp; omega, ix_nI (by omega)⟩
  have ia0 : inb (nI (9 * j)) 108 = true ∧ ix (nI (9 * j)) = 9 * j := ia 0 (by omega)
  have ib : ∀ k, k < 3 → inb (nI (3 * j + k)) 36 = true ∧ ix (nI (3 * j + k)) = 3 * j + k := fun k hk => ⟨by rw [inb_nI (by omega)]; simp; omega, ix_nI (by omega)⟩
  have ib0 : inb (nI (3 * j)) 36 = true ∧ ix (nI (3 * j)) = 3 * j := ib 0 (by omega)
  simp [S120_0, S120_1, S120_2, S120_3, S120_4, S104_0, Call_in (k2 := 104), BS, ixs, inbs, hM, is_yesG hM' hM12 hj, e2, k1, k4, n0, j0, jx, mul3, mul9, nIk, ia, ia0, ib, ib0, shr8, shl4, u2_rd, Nat.add_assoc]
  simp only [n2] at go
  refine go _ _ (fun i h1 h2 h3 => ?_) (by simp [u2_rd])
  simp only [u2_ne _ _ _ h1, u2_ne _ _ _ h2, u2_ne _ _ _ h3]

set_option maxRecDepth 100000 in
set_option maxHeartbeats 8000000 in
theorem m_part3_6 {n sl : Nat} {C Z : Nat → Nat} {I : Nat → Nat → Int32} {L : Nat → Nat → Int64} {R : Nat → Nat → Nat} {M j : Nat} {Q : Option Value → Hp → Prop} (hM' : LayM C Z R) (hM12 : M ≤ 12) (hj : j < M) (e2 : I 74 0 = nI M) (k1 : ¬ I 75 j = 1) (k4 : I 76 j = nI 3)
    (go : ∀ I4 ls, (∀ i, i ≠ 82 → i ≠ 83 → i ≠ 84 → I4 i = I i) → (I4 82 0 = I 79 (9 * j + 4) ∧ I4 82 1 = I 79 (9 * j + 5) ∧ I4 82 3 = I 79 (9 * j + 7) ∧ I4 82 4 = I 79 (9 * j + 8) ∧ (I4 83 0 = I 80 (3 * j + 1) ∧ I4 84 0 = I 81 (3 * j + 1)) ∧ (I4 83 1 = I 80 (3 * j + 2) ∧ I4 84 1 = I 81 (3 * j + 2))) → Call 115 [some (.ref 74), some (.int 3), some (.int (nI 2)), some (.int (I 77 j)), some (.int (I 78 j)), none, none, none, none] (n, sl, C, Z, I4, L, R) 120 185 ls [] Q) : Wp 120 0 [some (.ref 74), some (.int (nI j)), some (.int 6), none, none, none, none] [] (n, sl, C, Z, I, L, R) Q := by
  have hM := hM'
  unfold LayM at hM
  have n0 : nI 3 = 3 := rfl
  have n2 : nI 2 = 2 := rfl
  have j0 : inb (nI j) 12 = true := by rw [inb_nI (by omega)]; simp; omega
  have jx : ix (nI j) = j := ix_nI (by omega)
  have ia : ∀ k, k < 9 → inb (nI (9 * j + k)) 108 = true ∧ ix (nI (9 * j + k)) = 9 * j + k := fun k hk => ⟨by rw [inb_nI (by omega)]; simp; omega, ix_nI (by omega)⟩
  have ia0 : inb (nI (9 * j)) 108 = true ∧ ix (nI (9 * j)) = 9 * j := ia 0 (by omega)
  have ib : ∀ k, k < 3 → inb (nI (3 * j + k)) 36 = true ∧ ix (nI (3 * j + k)) = 3 * j + k := fun k hk => ⟨by rw [inb_nI (by omega)]; simp; omega, ix_nI (by omega)⟩
  have ib0 : inb (nI (3 * j)) 36 = true ∧ ix (nI (3 * j)) = 3 * j := ib 0 (by omega)
  simp [S120_0, S120_1, S120_2, S120_3, S120_4, S104_0, Call_in (k2 := 104), BS, ixs, inbs, hM, is_yesG hM' hM12 hj, e2, k1, k4, n0, j0, jx, mul3, mul9, nIk, ia, ia0, ib, ib0, shr8, shl4, u2_rd, Nat.add_assoc]
  simp only [n2] at go
  refine go _ _ (fun i h1 h2 h3 => ?_) (by simp [u2_rd])
  simp only [u2_ne _ _ _ h1, u2_ne _ _ _ h2, u2_ne _ _ _ h3]

set_option maxRecDepth 100000 in
set_option maxHeartbeats 8000000 in
theorem m_part3_7 {n sl : Nat} {C Z : Nat → Nat} {I : Nat → Nat → Int32} {L : Nat → Nat → Int64} {R : Nat → Nat → Nat} {M j : Nat} {Q : Option Value → Hp → Prop} (hM' : LayM C Z R) (hM12 : M ≤ 12) (hj : j < M) (e2 : I 74 0 = nI M) (k1 : ¬ I 75 j = 1) (k4 : I 76 j = nI 3)
    (go : ∀ I4 ls, (∀ i, i ≠ 82 → i ≠ 83 → i ≠ 84 → I4 i = I i) → (I4 82 0 = I 79 (9 * j) ∧ I4 82 1 = I 79 (9 * j + 1) ∧ I4 82 2 = I 79 (9 * j + 2) ∧ I4 82 3 = I 79 (9 * j + 3) ∧ I4 82 4 = I 79 (9 * j + 4) ∧ I4 82 5 = I 79 (9 * j + 5) ∧ I4 82 6 = I 79 (9 * j + 6) ∧ I4 82 7 = I 79 (9 * j + 7) ∧ I4 82 8 = I 79 (9 * j + 8) ∧ (I4 83 0 = I 80 (3 * j) ∧ I4 84 0 = I 81 (3 * j)) ∧ (I4 83 1 = I 80 (3 * j + 1) ∧ I4 84 1 = I 81 (3 * j + 1)) ∧ (I4 83 2 = I 80 (3 * j + 2) ∧ I4 84 2 = I 81 (3 * j + 2))) → Call 115 [some (.ref 74), some (.int 3), some (.int (nI 3)), some (.int (I 77 j)), some (.int (I 78 j)), none, none, none, none] (n, sl, C, Z, I4, L, R) 120 185 ls [] Q) : Wp 120 0 [some (.ref 74), some (.int (nI j)), some (.int 7), none, none, none, none] [] (n, sl, C, Z, I, L, R) Q := by
  have hM := hM'
  unfold LayM at hM
  have n0 : nI 3 = 3 := rfl
  have n2 : nI 3 = 3 := rfl
  have j0 : inb (nI j) 12 = true := by rw [inb_nI (by omega)]; simp; omega
  have jx : ix (nI j) = j := ix_nI (by omega)
  have ia : ∀ k, k < 9 → inb (nI (9 * j + k)) 108 = true ∧ ix (nI (9 * j + k)) = 9 * j + k := fun k hk => ⟨by rw [inb_nI (by omega)]; simp; omega, ix_nI (by omega)⟩
  have ia0 : inb (nI (9 * j)) 108 = true ∧ ix (nI (9 * j)) = 9 * j := ia 0 (by omega)
  have ib : ∀ k, k < 3 → inb (nI (3 * j + k)) 36 = true ∧ ix (nI (3 * j + k)) = 3 * j + k := fun k hk => ⟨by rw [inb_nI (by omega)]; simp; omega, ix_nI (by omega)⟩
  have ib0 : inb (nI (3 * j)) 36 = true ∧ ix (nI (3 * j)) = 3 * j := ib 0 (by omega)
  simp [S120_0, S120_1, S120_2, S120_3, S120_4, S104_0, Call_in (k2 := 104), BS, ixs, inbs, hM, is_yesG hM' hM12 hj, e2, k1, k4, n0, j0, jx, mul3, mul9, nIk, ia, ia0, ib, ib0, shr8, shl4, u2_rd, Nat.add_assoc]
  simp only [n2] at go
  refine go _ _ (fun i h1 h2 h3 => ?_) (by simp [u2_rd])
  simp only [u2_ne _ _ _ h1, u2_ne _ _ _ h2, u2_ne _ _ _ h3]

/-- behind new numbers at the cells n + 1 .. n + 5 (a PART): both keep it -/
theorem part_fin {n sl sl' : Nat} {C C' Z Z' : Nat → Nat} {I I' : Nat → Nat → Int32} {L L' : Nat → Nat → Int64} {R R' : Nat → Nat → Nat} {M rn t s : Nat} {u : Int32} (h7 : Inv7 n C Z I L R M rn t) (hM : M < 12) (hs : s ≤ 3) (hu : u = 1 ∨ u = 2 ∨ u = 4) (hsl : sl' ≤ sl + 42)
    (kC : ∀ i, i ≤ n → C' i = C i) (kZ : ∀ i, i ≤ n → Z' i = Z i) (kI : ∀ i, i ≤ n → I' i = I i) (kL : ∀ i, i ≤ n → L' i = L i) (kR : ∀ i, i ≤ n → R' i = R i)
    (hq : C' (n + 1) = 6) (hr : R' (n + 1) 3 = n + 2 ∧ R' (n + 1) 4 = n + 3 ∧ R' (n + 1) 5 = n + 4 ∧ R' (n + 1) 6 = n + 5) (hc : C' (n + 2) = 21 ∧ C' (n + 3) = 21 ∧ C' (n + 4) = 21 ∧ C' (n + 5) = 21 ∧ Z' (n + 2) = 9 ∧ Z' (n + 3) = 3 ∧ Z' (n + 4) = 3 ∧ Z' (n + 5) = 1)
    (hi : I' (n + 1) 0 = nI M ∧ I' (n + 1) 1 = nI s ∧ I' (n + 1) 2 = u)
    (hzA : ∀ i k, i < 3 → k < 3 → (s ≤ i ∨ s ≤ k) → I' (n + 2) (3 * i + k) = 0) (hzB : ∀ i, i < 3 → s ≤ i → I' (n + 3) i = 0 ∧ I' (n + 4) i = 0)
    (g1 : ∀ p, p < 9 → fit (I' (n + 2) p)) (g2 : ∀ p, p < 3 → fit (I' (n + 3) p)) (g3 : ∀ p, p < 3 → fit (I' (n + 4) p)) (g4 : fit (I' (n + 5) 0)) (hfb : FB s (I' (n + 2)) (I' (n + 3)) (I' (n + 4)))
    {km : Nat} {lm : Lo}
    (href2 : ∀ (I3 : Nat → Nat → Int32) (L3 : Nat → Nat → Int64) (R3 : Nat → Nat → Nat) (Q : Option Value → Hp → Prop), LayM C' Z' R3 → (∀ i, 74 ≤ i → i ≤ 98 → I3 i = I i) → (∀ (I4 : Nat → Nat → Int32) (k pc : Nat) (ls : Lo) (Q' : Option Value → Hp → Prop), (∀ (v : Int32) (h : Hp), Wp k pc ls [.int v] h Q' ↔ Q (some (.int v)) h) → (∀ i, i ≠ 82 → i ≠ 83 → i ≠ 84 → I4 i = I3 i) → (∀ i k, i < s → k < s → I4 82 (3 * i + k) = I' (n + 2) (3 * i + k)) → (∀ i, i < s → I4 83 i = I' (n + 3) i ∧ I4 84 i = I' (n + 4) i) → Call 115 [some (.ref 74), some (.int 3), some (.int (nI s)), some (.int u), some (.int (I' (n + 5) 0)), none, none, none, none] (n + 5, sl', C', Z', I4, L3, R3) k pc ls [] Q') → Wp km 0 lm [] (n + 5, sl', C', Z', I3, L3, R3) Q) :
    Wp km 0 lm [] (n + 5, sl', C', Z', u2 I' 1 1 (nI (M + 1)), L', u2 R' 2 M (n + 1)) (fun r2 h2 => r2 = some (.int (nI M)) ∧ Inv h2 ∧ h2.1 ≤ n + 5 ∧ h2.2.1 ≤ sl + 42) := by
  obtain ⟨a1, a2, a3, a4, a5, a6, a7, a8⟩ := id h7
  have lay1 : Lay C' Z' R := by
    unfold Lay LayB LayK LayO LayE LayM at *
    have hc : ∀ i, i ≤ 98 → C' i = C i := fun i hi => kC i (by omega)
    have hz : ∀ i, i ≤ 98 → Z' i = Z i := fun i hi => kZ i (by omega)
    simp [a3, hc, hz]
  have lay2 : Lay C' Z' R' := lay1.keep (fun i k h1 _ _ _ _ => by rw [kR i (by omega)])
  have e1 : I' 1 1 = nI M := by rw [kI 1 (by omega)]; exact a4.1
  have i74 : ∀ i, 74 ≤ i → i ≤ 98 → I' i = I i := fun i h1 h2 => kI i (by omega)
  have e2 : ∀ I3 : Nat → Nat → Int32, (∀ i, 74 ≤ i → i ≤ 98 → I3 i = I i) → I3 74 0 = nI M := fun I3 h => by rw [h 74 (by omega) (by omega)]; exact a4.2
  have layM : LayM C' Z' (u2 R' 2 M (n + 1)) := (lay2.keep (R' := u2 R' 2 M (n + 1)) (fun i k _ h2 _ _ _ => by rw [u2_ne _ _ _ h2])).2.2.2.2
  refine href2 (u2 I' 1 1 (nI (M + 1))) L' (u2 R' 2 M (n + 1)) _ layM (fun i h1 h2 => by rw [u2_ne _ _ _ (by omega)]; exact i74 i h1 h2) (fun I4 k pc ls Q' ret f1 f2 f3 => ?_)
  have fit4' : fit4 s (I4 82) (I4 83) (I4 84) (I' (n + 5) 0) := ⟨fun i hi => ⟨by rw [(f3 i hi).1]; exact g2 i (by omega), by rw [(f3 i hi).2]; exact g3 i (by omega)⟩, fun i k hi hk => by rw [f2 i k hi hk]; exact g1 _ (by omega), g4⟩
  have e4 : I4 74 0 = nI M := by rw [f1 74 (by omega) (by omega) (by omega), u2_ne _ _ _ (by omega)]; exact e2 I' i74
  refine m_keeps layM hs (by omega) e4 3 u (I' (n + 5) 0) (fun _ _ I5 kp => ?_) (fun hn => absurd ⟨hM, fit4'⟩ hn)
  rw [ret]
  obtain ⟨p1, ⟨p2, p3, p4⟩, p5, ⟨p6, p7, p8, p9⟩, p10, p11⟩ := kp
  have o4 : ∀ i, (99 ≤ i ∧ i ≤ n) ∨ i = 5 ∨ i = 6 ∨ i = 87 ∨ i = 88 ∨ i = 91 ∨ (75 ≤ i ∧ i ≤ 81) → I4 i = I i := fun i h => by rw [f1 i (by omega) (by omega) (by omega), u2_ne _ _ _ (by omega), kI i (by omega)]
  have o5 : ∀ i, (99 ≤ i ∧ i ≤ n) ∨ i = 5 ∨ i = 6 ∨ i = 87 ∨ i = 88 ∨ i = 91 → I5 i = I i := fun i h => by rw [p1 i (by omega)]; exact o4 i (by omega)
  have nw : ∀ i, n < i → I5 i = I' i := fun i h => by rw [p1 i (by omega), f1 i (by omega) (by omega) (by omega), u2_ne _ _ _ (by omega)]
  have vA : ∀ i k, i < 3 → k < 3 → I5 79 (9 * M + (3 * i + k)) = I' (n + 2) (3 * i + k) := fun i k hi hk => by
    rw [p10 i k hi hk]
    by_cases c : i < s ∧ k < s
    · rw [if_pos c, f2 i k c.1 c.2]
    · rw [if_neg c, hzA i k hi hk (by omega)]
  have m12 : mb (3 : Int32) = 12 := by decide
  refine ⟨rfl, Inv_mk (h7.add (s := s) hM kC kZ (fun i hi => kL i (by omega)) (fun i hi => o5 i hi) ⟨?_, p2, ?_, ?_, ?_⟩ (fun j hj => ?_) (fun j hj => ?_) (fun i hi => ?_) (fun i k h1 h2 h3 _ _ => ?_) ⟨?_, by omega, by omega, Or.inr (Or.inr (Or.inr ⟨hq, p6, ?_⟩)), ⟨?_, hs, ?_, p7⟩, ⟨?_, ?_⟩, ?_, ?_, fun i hi => ?_, fun i hi => ?_, fun i hi => ?_, ?_, fun i k hi hk hz => ?_, fun i hi hz => ?_⟩), Nat.le_refl _, hsl⟩
  · rw [p1 1 (by omega), f1 1 (by omega) (by omega) (by omega), u2_at, if_pos rfl]
  · rw [p1 1 (by omega), f1 1 (by omega) (by omega) (by omega), u2_at, if_neg (by omega), kI 1 (by omega)]
  · rw [p3, f1 74 (by omega) (by omega) (by omega), u2_ne _ _ _ (by omega), kI 74 (by omega)]
  · rw [p4, f1 74 (by omega) (by omega) (by omega), u2_ne _ _ _ (by omega), kI 74 (by omega)]
  · obtain ⟨⟨b1, b2, b3, b4⟩, b5, b6⟩ := p5 j hj
    exact ⟨⟨by rw [b1, o4 75 (by omega)], by rw [b2, o4 76 (by omega)], by rw [b3, o4 77 (by omega)], by rw [b4, o4 78 (by omega)]⟩, fun i hi => by rw [b5 i hi, o4 79 (by omega)], fun i hi => ⟨by rw [(b6 i hi).1, o4 80 (by omega)], by rw [(b6 i hi).2, o4 81 (by omega)]⟩⟩
  · rw [u2_at, if_neg (by omega), kR 2 (by omega)]
  · rw [u2_ne _ _ _ (by omega), kR i (by omega)]
  · rw [u2_ne _ _ _ h2, kR i (by omega)]
  · rw [u2_at, if_pos rfl]
  · rw [nw (n + 1 + 1) (by omega), nw (n + 1 + 2) (by omega), nw (n + 1 + 3) (by omega)]
    exact hfb
  · rw [nw (n + 1) (by omega)]; exact hi.1
  · rw [nw (n + 1) (by omega)]; exact hi.2.1
  · rw [nw (n + 1) (by omega), p8]; exact hi.2.2
  · rw [p8]; exact hu
  · rw [u2_ne _ _ _ (by omega)]; exact hr
  · exact hc
  · rw [p6, m12, nw (n + 1 + 1) (by omega)]
    refine ⟨?_, fit_bnd (g1 i hi)⟩
    rcases i9 hi with rfl | rfl | rfl | rfl | rfl | rfl | rfl | rfl | rfl
    · exact vA 0 0 (by omega) (by omega)
    · exact vA 0 1 (by omega) (by omega)
    · exact vA 0 2 (by omega) (by omega)
    · exact vA 1 0 (by omega) (by omega)
    · exact vA 1 1 (by omega) (by omega)
    · exact vA 1 2 (by omega) (by omega)
    · exact vA 2 0 (by omega) (by omega)
    · exact vA 2 1 (by omega) (by omega)
    · exact vA 2 2 (by omega) (by omega)
  · rw [p6, m12, nw (n + 1 + 2) (by omega)]
    refine ⟨?_, fit_bnd (g2 i hi)⟩
    rw [(p11 i hi).1]
    by_cases c : i < s
    · rw [if_pos c, (f3 i c).1]
    · rw [if_neg c, (hzB i hi (by omega)).1]
  · rw [p6, m12, nw (n + 1 + 3) (by omega)]
    refine ⟨?_, fit_bnd (g3 i hi)⟩
    rw [(p11 i hi).2]
    by_cases c : i < s
    · rw [if_pos c, (f3 i c).2]
    · rw [if_neg c, (hzB i hi (by omega)).2]
  · rw [p6, m12, nw (n + 1 + 4) (by omega), p9]
    exact ⟨rfl, fit_bnd g4⟩
  · rw [nw (n + 1 + 1) (by omega)]
    exact hzA i k hi hk hz
  · rw [nw (n + 1 + 2) (by omega), nw (n + 1 + 3) (by omega)]
    exact hzB i hi hz

