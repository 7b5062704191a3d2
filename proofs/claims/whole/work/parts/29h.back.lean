set_option maxRecDepth 100000 in
set_option maxHeartbeats 4000000 in
theorem m_back0 {n sl : Nat} {C Z : Nat → Nat} {I : Nat → Nat → Int32} {L : Nat → Nat → Int64} {R : Nat → Nat → Nat} {M j : Nat} {u sg : Int32} {Q : Option Value → Hp → Prop} (hM' : LayM C Z R) (hM12 : M ≤ 12) (hj : j < M) (e2 : I 74 0 = nI M) (hg : sg = 1 ∨ sg = -1) (k1 : ¬ I 75 j = 1) (k2 : I 76 j = nI 0) (k3 : I 77 j = u) (k4 : I 78 j = 0)
    (go : ∀ I4 ls, (∀ i, i ≠ 82 → i ≠ 83 → i ≠ 84 → I4 i = I i) → (∀ i k, i < 0 → k < 0 → I4 82 (3 * i + k) = I 79 (9 * j + (3 * i + k)) + sg * u * I 80 (3 * j + i) * I 81 (3 * j + k)) → (∀ i, i < 0 → I4 83 i = I 80 (3 * j + i) ∧ I4 84 i = I 81 (3 * j + i)) → Call 115 [some (.ref 74), some (.int 2), some (.int (nI 0)), some (.int u), some (.int 0), none, none, none, none] (n, sl, C, Z, I4, L, R) 119 182 ls [] Q) : Wp 119 0 [some (.ref 74), some (.int (nI j)), some (.int sg), none, none] [] (n, sl, C, Z, I, L, R) Q := by
  have hM := hM'
  unfold LayM at hM
  have n0 : nI 0 = 0 := rfl
  have j0 : inb (nI j) 12 = true := by rw [inb_nI (by omega)]; simp; omega
  have jx := ix_nI (show j < 2 ^ 31 by omega)
  have ia : ∀ k, k < 9 → inb (nI (9 * j + k)) 108 = true ∧ ix (nI (9 * j + k)) = 9 * j + k := fun k hk => ⟨by rw [inb_nI (by omega)]; simp; omega, ix_nI (by omega)⟩
  have ia0 : inb (nI (9 * j)) 108 = true ∧ ix (nI (9 * j)) = 9 * j := ia 0 (by omega)
  have ib : ∀ k, k < 3 → inb (nI (3 * j + k)) 36 = true ∧ ix (nI (3 * j + k)) = 3 * j + k := fun k hk => ⟨by rw [inb_nI (by omega)]; simp; omega, ix_nI (by omega)⟩
  have ib0 : inb (nI (3 * j)) 36 = true ∧ ix (nI (3 * j)) = 3 * j := ib 0 (by omega)
  rcases hg with rfl | rfl
  all_goals
    simp [S119_0, S119_1, S119_2, S119_3, S119_4, S104_0, Call_in (k2 := 119), Call_in (k2 := 104), BS, ixs, inbs, hM, is_yesG hM' hM12 hj, e2, k1, k2, k3, k4, n0, j0, jx, mul3, mul9, nIk, ia, ia0, ib, ib0, u2_rd, Nat.add_assoc]
    refine go _ _ (fun i h1 h2 h3 => ?_) (fun i k hi hk => ?_) (fun i hi => ?_)
    · simp only [u2_ne _ _ _ h1, u2_ne _ _ _ h2, u2_ne _ _ _ h3]
    · first | (exact absurd hi (by omega)) | (rcases i3 (show i < 3 by omega) with rfl | rfl | rfl <;> rcases i3 (show k < 3 by omega) with rfl | rfl | rfl <;> first | (exact absurd hi (by omega)) | (exact absurd hk (by omega)) | simp [u2_rd])
    · first | (exact absurd hi (by omega)) | (rcases i3 (show i < 3 by omega) with rfl | rfl | rfl <;> first | (exact absurd hi (by omega)) | simp [u2_rd])

set_option maxRecDepth 100000 in
set_option maxHeartbeats 4000000 in
theorem m_back1 {n sl : Nat} {C Z : Nat → Nat} {I : Nat → Nat → Int32} {L : Nat → Nat → Int64} {R : Nat → Nat → Nat} {M j : Nat} {u sg : Int32} {Q : Option Value → Hp → Prop} (hM' : LayM C Z R) (hM12 : M ≤ 12) (hj : j < M) (e2 : I 74 0 = nI M) (hg : sg = 1 ∨ sg = -1) (k1 : ¬ I 75 j = 1) (k2 : I 76 j = nI 1) (k3 : I 77 j = u) (k4 : I 78 j = 0)
    (go : ∀ I4 ls, (∀ i, i ≠ 82 → i ≠ 83 → i ≠ 84 → I4 i = I i) → (∀ i k, i < 1 → k < 1 → I4 82 (3 * i + k) = I 79 (9 * j + (3 * i + k)) + sg * u * I 80 (3 * j + i) * I 81 (3 * j + k)) → (∀ i, i < 1 → I4 83 i = I 80 (3 * j + i) ∧ I4 84 i = I 81 (3 * j + i)) → Call 115 [some (.ref 74), some (.int 2), some (.int (nI 1)), some (.int u), some (.int 0), none, none, none, none] (n, sl, C, Z, I4, L, R) 119 182 ls [] Q) : Wp 119 0 [some (.ref 74), some (.int (nI j)), some (.int sg), none, none] [] (n, sl, C, Z, I, L, R) Q := by
  have hM := hM'
  unfold LayM at hM
  have n0 : nI 1 = 1 := rfl
  have j0 : inb (nI j) 12 = true := by rw [inb_nI (by omega)]; simp; omega
  have jx := ix_nI (show j < 2 ^ 31 by omega)
  have ia : ∀ k, k < 9 → inb (nI (9 * j + k)) 108 = true ∧ ix (nI (9 * j + k)) = 9 * j + k := fun k hk => ⟨by rw [inb_nI (by omega)]; simp; omega, ix_nI (by omega)⟩
  have ia0 : inb (nI (9 * j)) 108 = true ∧ ix (nI (9 * j)) = 9 * j := ia 0 (by omega)
  have ib : ∀ k, k < 3 → inb (nI (3 * j + k)) 36 = true ∧ ix (nI (3 * j + k)) = 3 * j + k := fun k hk => ⟨by rw [inb_nI (by omega)]; simp; omega, ix_nI (by omega)⟩
  have ib0 : inb (nI (3 * j)) 36 = true ∧ ix (nI (3 * j)) = 3 * j := ib 0 (by omega)
  rcases hg with rfl | rfl
  all_goals
    simp [S119_0, S119_1, S119_2, S119_3, S119_4, S104_0, Call_in (k2 := 119), Call_in (k2 := 104), BS, ixs, inbs, hM, is_yesG hM' hM12 hj, e2, k1, k2, k3, k4, n0, j0, jx, mul3, mul9, nIk, ia, ia0, ib, ib0, u2_rd, Nat.add_assoc]
    refine go _ _ (fun i h1 h2 h3 => ?_) (fun i k hi hk => ?_) (fun i hi => ?_)
    · simp only [u2_ne _ _ _ h1, u2_ne _ _ _ h2, u2_ne _ _ _ h3]
    · first | (exact absurd hi (by omega)) | (rcases i3 (show i < 3 by omega) with rfl | rfl | rfl <;> rcases i3 (show k < 3 by omega) with rfl | rfl | rfl <;> first | (exact absurd hi (by omega)) | (exact absurd hk (by omega)) | simp [u2_rd])
    · first | (exact absurd hi (by omega)) | (rcases i3 (show i < 3 by omega) with rfl | rfl | rfl <;> first | (exact absurd hi (by omega)) | simp [u2_rd])

set_option maxRecDepth 100000 in
set_option maxHeartbeats 4000000 in
theorem m_back2 {n sl : Nat} {C Z : Nat → Nat} {I : Nat → Nat → Int32} {L : Nat → Nat → Int64} {R : Nat → Nat → Nat} {M j : Nat} {u sg : Int32} {Q : Option Value → Hp → Prop} (hM' : LayM C Z R) (hM12 : M ≤ 12) (hj : j < M) (e2 : I 74 0 = nI M) (hg : sg = 1 ∨ sg = -1) (k1 : ¬ I 75 j = 1) (k2 : I 76 j = nI 2) (k3 : I 77 j = u) (k4 : I 78 j = 0)
    (go : ∀ I4 ls, (∀ i, i ≠ 82 → i ≠ 83 → i ≠ 84 → I4 i = I i) → (∀ i k, i < 2 → k < 2 → I4 82 (3 * i + k) = I 79 (9 * j + (3 * i + k)) + sg * u * I 80 (3 * j + i) * I 81 (3 * j + k)) → (∀ i, i < 2 → I4 83 i = I 80 (3 * j + i) ∧ I4 84 i = I 81 (3 * j + i)) → Call 115 [some (.ref 74), some (.int 2), some (.int (nI 2)), some (.int u), some (.int 0), none, none, none, none] (n, sl, C, Z, I4, L, R) 119 182 ls [] Q) : Wp 119 0 [some (.ref 74), some (.int (nI j)), some (.int sg), none, none] [] (n, sl, C, Z, I, L, R) Q := by
  have hM := hM'
  unfold LayM at hM
  have n0 : nI 2 = 2 := rfl
  have j0 : inb (nI j) 12 = true := by rw [inb_nI (by omega)]; simp; omega
  have jx := ix_nI (show j < 2 ^ 31 by omega)
  have ia : ∀ k, k < 9 → inb (nI (9 * j + k)) 108 = true ∧ ix (nI (9 * j + k)) = 9 * j + k := fun k hk => ⟨by rw [inb_nI (by omega)]; simp; omega, ix_nI (by omega)⟩
  have ia0 : inb (nI (9 * j)) 108 = true ∧ ix (nI (9 * j)) = 9 * j := ia 0 (by omega)
  have ib : ∀ k, k < 3 → inb (nI (3 * j + k)) 36 = true ∧ ix (nI (3 * j + k)) = 3 * j + k := fun k hk => ⟨by rw [inb_nI (by omega)]; simp; omega, ix_nI (by omega)⟩
  have ib0 : inb (nI (3 * j)) 36 = true ∧ ix (nI (3 * j)) = 3 * j := ib 0 (by omega)
  rcases hg with rfl | rfl
  all_goals
    simp [S119_0, S119_1, S119_2, S119_3, S119_4, S104_0, Call_in (k2 := 119), Call_in (k2 := 104), BS, ixs, inbs, hM, is_yesG hM' hM12 hj, e2, k1, k2, k3, k4, n0, j0, jx, mul3, mul9, nIk, ia, ia0, ib, ib0, u2_rd, Nat.add_assoc]
    refine go _ _ (fun i h1 h2 h3 => ?_) (fun i k hi hk => ?_) (fun i hi => ?_)
    · simp only [u2_ne _ _ _ h1, u2_ne _ _ _ h2, u2_ne _ _ _ h3]
    · first | (exact absurd hi (by omega)) | (rcases i3 (show i < 3 by omega) with rfl | rfl | rfl <;> rcases i3 (show k < 3 by omega) with rfl | rfl | rfl <;> first | (exact absurd hi (by omega)) | (exact absurd hk (by omega)) | simp [u2_rd])
    · first | (exact absurd hi (by omega)) | (rcases i3 (show i < 3 by omega) with rfl | rfl | rfl <;> first | (exact absurd hi (by omega)) | simp [u2_rd])

set_option maxRecDepth 100000 in
set_option maxHeartbeats 4000000 in
theorem m_back3 {n sl : Nat} {C Z : Nat → Nat} {I : Nat → Nat → Int32} {L : Nat → Nat → Int64} {R : Nat → Nat → Nat} {M j : Nat} {u sg : Int32} {Q : Option Value → Hp → Prop} (hM' : LayM C Z R) (hM12 : M ≤ 12) (hj : j < M) (e2 : I 74 0 = nI M) (hg : sg = 1 ∨ sg = -1) (k1 : ¬ I 75 j = 1) (k2 : I 76 j = nI 3) (k3 : I 77 j = u) (k4 : I 78 j = 0)
    (go : ∀ I4 ls, (∀ i, i ≠ 82 → i ≠ 83 → i ≠ 84 → I4 i = I i) → (∀ i k, i < 3 → k < 3 → I4 82 (3 * i + k) = I 79 (9 * j + (3 * i + k)) + sg * u * I 80 (3 * j + i) * I 81 (3 * j + k)) → (∀ i, i < 3 → I4 83 i = I 80 (3 * j + i) ∧ I4 84 i = I 81 (3 * j + i)) → Call 115 [some (.ref 74), some (.int 2), some (.int (nI 3)), some (.int u), some (.int 0), none, none, none, none] (n, sl, C, Z, I4, L, R) 119 182 ls [] Q) : Wp 119 0 [some (.ref 74), some (.int (nI j)), some (.int sg), none, none] [] (n, sl, C, Z, I, L, R) Q := by
  have hM := hM'
  unfold LayM at hM
  have n0 : nI 3 = 3 := rfl
  have j0 : inb (nI j) 12 = true := by rw [inb_nI (by omega)]; simp; omega
  have jx := ix_nI (show j < 2 ^ 31 by omega)
  have ia : ∀ k, k < 9 → inb (nI (9 * j + k)) 108 = true ∧ ix (nI (9 * j + k)) = 9 * j + k := fun k hk => ⟨by rw [inb_nI (by omega)]; simp; omega, ix_nI (by omega)⟩
  have ia0 : inb (nI (9 * j)) 108 = true ∧ ix (nI (9 * j)) = 9 * j := ia 0 (by omega)
  have ib : ∀ k, k < 3 → inb (nI (3 * j + k)) 36 = true ∧ ix (nI (3 * j + k)) = 3 * j + k := fun k hk => ⟨by rw [inb_nI (by omega)]; simp; omega, ix_nI (by omega)⟩
  have ib0 : inb (nI (3 * j)) 36 = true ∧ ix (nI (3 * j)) = 3 * j := ib 0 (by omega)
  rcases hg with rfl | rfl
  all_goals
    simp [S119_0, S119_1, S119_2, S119_3, S119_4, S104_0, Call_in (k2 := 119), Call_in (k2 := 104), BS, ixs, inbs, hM, is_yesG hM' hM12 hj, e2, k1, k2, k3, k4, n0, j0, jx, mul3, mul9, nIk, ia, ia0, ib, ib0, u2_rd, Nat.add_assoc]
    refine go _ _ (fun i h1 h2 h3 => ?_) (fun i k hi hk => ?_) (fun i hi => ?_)
    · simp only [u2_ne _ _ _ h1, u2_ne _ _ _ h2, u2_ne _ _ _ h3]
    · first | (exact absurd hi (by omega)) | (rcases i3 (show i < 3 by omega) with rfl | rfl | rfl <;> rcases i3 (show k < 3 by omega) with rfl | rfl | rfl <;> first | (exact absurd hi (by omega)) | (exact absurd hk (by omega)) | simp [u2_rd])
    · first | (exact absurd hi (by omega)) | (rcases i3 (show i < 3 by omega) with rfl | rfl | rfl <;> first | (exact absurd hi (by omega)) | simp [u2_rd])

