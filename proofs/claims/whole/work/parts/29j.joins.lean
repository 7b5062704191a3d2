theorem nI_addsub (a b c : Nat) (h : c ≤ b) : nI (a + b) - nI c = nI (a + (b - c)) := by
  have e : nI (a + b) = nI (a + (b - c)) + nI c := by
    rw [nI_add, show a + (b - c) + c = a + b by omega]
  rw [e, Int32.add_sub_cancel]
theorem nI_sub3 : (∀ a : Nat, nI (a + 1) - 1 = nI a) ∧ (∀ a : Nat, nI (a + 2) - 1 = nI (a + 1)) ∧ (∀ a : Nat, nI (a + 2) - 2 = nI a) := ⟨fun a => nI_addsub a 1 1 (by omega), fun a => nI_addsub a 2 1 (by omega), fun a => nI_addsub a 2 2 (by omega)⟩
set_option maxRecDepth 100000 in
set_option maxHeartbeats 8000000 in
theorem m_joins1_00 {n sl : Nat} {C Z : Nat → Nat} {I : Nat → Nat → Int32} {L : Nat → Nat → Int64} {R : Nat → Nat → Nat} {M f g : Nat} {Q : Option Value → Hp → Prop} (hM' : LayM C Z R) (hM12 : M ≤ 12) (hf : f < M) (hg : g < M) (e2 : I 74 0 = nI M) (k1 : ¬ I 75 f = 1) (k2 : ¬ I 75 g = 1) (k3 : I 77 f = I 77 g) (k4 : I 76 f = nI 0) (k5 : I 76 g = nI 0)
    (go : ∀ I4 ls, (∀ i, i ≠ 82 → i ≠ 83 → i ≠ 84 → I4 i = I i) → (True) → Call 115 [some (.ref 74), some (.int 2), some (.int (nI 0)), some (.int (I 77 g)), some (.int (I 78 f * I 78 g)), none, none, none, none] (n, sl, C, Z, I4, L, R) 116 429 ls [] Q) : Wp 116 0 [some (.ref 74), some (.int (nI f)), some (.int (nI g)), some (.int 1), none, none, none, none, none, none] [] (n, sl, C, Z, I, L, R) Q := by
  have hM := hM'
  unfold LayM at hM
  have n0 : nI 0 = 0 := rfl
  have n1 : nI 0 = 0 := rfl
  have n2 : nI 0 = 0 := rfl
  have j0 : ∀ j, j < M → inb (nI j) 12 = true := fun j hj => by rw [inb_nI (by omega)]; simp; omega
  have jx : ∀ j, j < M → ix (nI j) = j := fun j hj => ix_nI (by omega)
  have ia : ∀ j k, j < M → k < 9 → inb (nI (9 * j + k)) 108 = true ∧ ix (nI (9 * j + k)) = 9 * j + k := fun j k hj hk => ⟨by rw [inb_nI (by omega)]; simp; omega, ix_nI (by omega)⟩
  have ia0 : ∀ j, j < M → inb (nI (9 * j)) 108 = true ∧ ix (nI (9 * j)) = 9 * j := fun j hj => ia j 0 hj (by omega)
  have ib : ∀ j k, j < M → k < 3 → inb (nI (3 * j + k)) 36 = true ∧ ix (nI (3 * j + k)) = 3 * j + k := fun j k hj hk => ⟨by rw [inb_nI (by omega)]; simp; omega, ix_nI (by omega)⟩
  have ib0 : ∀ j, j < M → inb (nI (3 * j)) 36 = true ∧ ix (nI (3 * j)) = 3 * j := fun j hj => ib j 0 hj (by omega)
  simp [S116_0, S116_1, S116_2, S116_3, S116_4, S116_5, S116_6, S116_7, S116_8, S116_9, S116_10, S104_0, Call_in (k2 := 104), BS, ixs, inbs, hM, is_yesG hM' hM12 hf, is_yesG hM' hM12 hg, e2, k1, k2, k3, k4, k5, n0, n1, j0, jx, hf, hg, mul3, mul9, nIk, nI_sub3, ia, ia0, ib, ib0, u2_rd, Nat.add_assoc]
  simp only [n2] at go
  refine go _ _ (fun i h1 h2 h3 => ?_) (by simp [u2_rd, k3])
  simp only [u2_ne _ _ _ h1, u2_ne _ _ _ h2, u2_ne _ _ _ h3]

set_option maxRecDepth 100000 in
set_option maxHeartbeats 8000000 in
theorem m_joins1_01 {n sl : Nat} {C Z : Nat → Nat} {I : Nat → Nat → Int32} {L : Nat → Nat → Int64} {R : Nat → Nat → Nat} {M f g : Nat} {Q : Option Value → Hp → Prop} (hM' : LayM C Z R) (hM12 : M ≤ 12) (hf : f < M) (hg : g < M) (e2 : I 74 0 = nI M) (k1 : ¬ I 75 f = 1) (k2 : ¬ I 75 g = 1) (k3 : I 77 f = I 77 g) (k4 : I 76 f = nI 0) (k5 : I 76 g = nI 1)
    (go : ∀ I4 ls, (∀ i, i ≠ 82 → i ≠ 83 → i ≠ 84 → I4 i = I i) → (I4 82 0 = I 79 (9 * g) ∧ (I4 83 0 = I 80 (3 * g) * I 78 f ∧ I4 84 0 = I 81 (3 * g))) → Call 115 [some (.ref 74), some (.int 2), some (.int (nI 1)), some (.int (I 77 g)), some (.int (I 78 f * I 78 g)), none, none, none, none] (n, sl, C, Z, I4, L, R) 116 429 ls [] Q) : Wp 116 0 [some (.ref 74), some (.int (nI f)), some (.int (nI g)), some (.int 1), none, none, none, none, none, none] [] (n, sl, C, Z, I, L, R) Q := by
  have hM := hM'
  unfold LayM at hM
  have n0 : nI 0 = 0 := rfl
  have n1 : nI 1 = 1 := rfl
  have n2 : nI 1 = 1 := rfl
  have j0 : ∀ j, j < M → inb (nI j) 12 = true := fun j hj => by rw [inb_nI (by omega)]; simp; omega
  have jx : ∀ j, j < M → ix (nI j) = j := fun j hj => ix_nI (by omega)
  have ia : ∀ j k, j < M → k < 9 → inb (nI (9 * j + k)) 108 = true ∧ ix (nI (9 * j + k)) = 9 * j + k := fun j k hj hk => ⟨by rw [inb_nI (by omega)]; simp; omega, ix_nI (by omega)⟩
  have ia0 : ∀ j, j < M → inb (nI (9 * j)) 108 = true ∧ ix (nI (9 * j)) = 9 * j := fun j hj => ia j 0 hj (by omega)
  have ib : ∀ j k, j < M → k < 3 → inb (nI (3 * j + k)) 36 = true ∧ ix (nI (3 * j + k)) = 3 * j + k := fun j k hj hk => ⟨by rw [inb_nI (by omega)]; simp; omega, ix_nI (by omega)⟩
  have ib0 : ∀ j, j < M → inb (nI (3 * j)) 36 = true ∧ ix (nI (3 * j)) = 3 * j := fun j hj => ib j 0 hj (by omega)
  simp [S116_0, S116_1, S116_2, S116_3, S116_4, S116_5, S116_6, S116_7, S116_8, S116_9, S116_10, S104_0, Call_in (k2 := 104), BS, ixs, inbs, hM, is_yesG hM' hM12 hf, is_yesG hM' hM12 hg, e2, k1, k2, k3, k4, k5, n0, n1, j0, jx, hf, hg, mul3, mul9, nIk, nI_sub3, ia, ia0, ib, ib0, u2_rd, Nat.add_assoc]
  simp only [n2] at go
  refine go _ _ (fun i h1 h2 h3 => ?_) (by simp [u2_rd, k3])
  simp only [u2_ne _ _ _ h1, u2_ne _ _ _ h2, u2_ne _ _ _ h3]

set_option maxRecDepth 100000 in
set_option maxHeartbeats 8000000 in
theorem m_joins1_02 {n sl : Nat} {C Z : Nat → Nat} {I : Nat → Nat → Int32} {L : Nat → Nat → Int64} {R : Nat → Nat → Nat} {M f g : Nat} {Q : Option Value → Hp → Prop} (hM' : LayM C Z R) (hM12 : M ≤ 12) (hf : f < M) (hg : g < M) (e2 : I 74 0 = nI M) (k1 : ¬ I 75 f = 1) (k2 : ¬ I 75 g = 1) (k3 : I 77 f = I 77 g) (k4 : I 76 f = nI 0) (k5 : I 76 g = nI 2)
    (go : ∀ I4 ls, (∀ i, i ≠ 82 → i ≠ 83 → i ≠ 84 → I4 i = I i) → (I4 82 0 = I 79 (9 * g) ∧ I4 82 1 = I 79 (9 * g + 1) ∧ I4 82 3 = I 79 (9 * g + 3) ∧ I4 82 4 = I 79 (9 * g + 4) ∧ (I4 83 0 = I 80 (3 * g) * I 78 f ∧ I4 84 0 = I 81 (3 * g)) ∧ (I4 83 1 = I 80 (3 * g + 1) * I 78 f ∧ I4 84 1 = I 81 (3 * g + 1))) → Call 115 [some (.ref 74), some (.int 2), some (.int (nI 2)), some (.int (I 77 g)), some (.int (I 78 f * I 78 g)), none, none, none, none] (n, sl, C, Z, I4, L, R) 116 429 ls [] Q) : Wp 116 0 [some (.ref 74), some (.int (nI f)), some (.int (nI g)), some (.int 1), none, none, none, none, none, none] [] (n, sl, C, Z, I, L, R) Q := by
  have hM := hM'
  unfold LayM at hM
  have n0 : nI 0 = 0 := rfl
  have n1 : nI 2 = 2 := rfl
  have n2 : nI 2 = 2 := rfl
  have j0 : ∀ j, j < M → inb (nI j) 12 = true := fun j hj => by rw [inb_nI (by omega)]; simp; omega
  have jx : ∀ j, j < M → ix (nI j) = j := fun j hj => ix_nI (by omega)
  have ia : ∀ j k, j < M → k < 9 → inb (nI (9 * j + k)) 108 = true ∧ ix (nI (9 * j + k)) = 9 * j + k := fun j k hj hk => ⟨by rw [inb_nI (by omega)]; simp; omega, ix_nI (by omega)⟩
  have ia0 : ∀ j, j < M → inb (nI (9 * j)) 108 = true ∧ ix (nI (9 * j)) = 9 * j := fun j hj => ia j 0 hj (by omega)
  have ib : ∀ j k, j < M → k < 3 → inb (nI (3 * j + k)) 36 = true ∧ ix (nI (3 * j + k)) = 3 * j + k := fun j k hj hk => ⟨by rw [inb_nI (by omega)]; simp; omega, ix_nI (by omega)⟩
  have ib0 : ∀ j, j < M → inb (nI (3 * j)) 36 = true ∧ ix (nI (3 * j)) = 3 * j := fun j hj => ib j 0 hj (by omega)
  simp [S116_0, S116_1, S116_2, S116_3, S116_4, S116_5, S116_6, S116_7, S116_8, S116_9, S116_10, S104_0, Call_in (k2 := 104), BS, ixs, inbs, hM, is_yesG hM' hM12 hf, is_yesG hM' hM12 hg, e2, k1, k2, k3, k4, k5, n0, n1, j0, jx, hf, hg, mul3, mul9, nIk, nI_sub3, ia, ia0, ib, ib0, u2_rd, Nat.add_assoc]
  simp only [n2] at go
  refine go _ _ (fun i h1 h2 h3 => ?_) (by simp [u2_rd, k3])
  simp only [u2_ne _ _ _ h1, u2_ne _ _ _ h2, u2_ne _ _ _ h3]

set_option maxRecDepth 100000 in
set_option maxHeartbeats 8000000 in
theorem m_joins1_03 {n sl : Nat} {C Z : Nat → Nat} {I : Nat → Nat → Int32} {L : Nat → Nat → Int64} {R : Nat → Nat → Nat} {M f g : Nat} {Q : Option Value → Hp → Prop} (hM' : LayM C Z R) (hM12 : M ≤ 12) (hf : f < M) (hg : g < M) (e2 : I 74 0 = nI M) (k1 : ¬ I 75 f = 1) (k2 : ¬ I 75 g = 1) (k3 : I 77 f = I 77 g) (k4 : I 76 f = nI 0) (k5 : I 76 g = nI 3)
    (go : ∀ I4 ls, (∀ i, i ≠ 82 → i ≠ 83 → i ≠ 84 → I4 i = I i) → (I4 82 0 = I 79 (9 * g) ∧ I4 82 1 = I 79 (9 * g + 1) ∧ I4 82 2 = I 79 (9 * g + 2) ∧ I4 82 3 = I 79 (9 * g + 3) ∧ I4 82 4 = I 79 (9 * g + 4) ∧ I4 82 5 = I 79 (9 * g + 5) ∧ I4 82 6 = I 79 (9 * g + 6) ∧ I4 82 7 = I 79 (9 * g + 7) ∧ I4 82 8 = I 79 (9 * g + 8) ∧ (I4 83 0 = I 80 (3 * g) * I 78 f ∧ I4 84 0 = I 81 (3 * g)) ∧ (I4 83 1 = I 80 (3 * g + 1) * I 78 f ∧ I4 84 1 = I 81 (3 * g + 1)) ∧ (I4 83 2 = I 80 (3 * g + 2) * I 78 f ∧ I4 84 2 = I 81 (3 * g + 2))) → Call 115 [some (.ref 74), some (.int 2), some (.int (nI 3)), some (.int (I 77 g)), some (.int (I 78 f * I 78 g)), none, none, none, none] (n, sl, C, Z, I4, L, R) 116 429 ls [] Q) : Wp 116 0 [some (.ref 74), some (.int (nI f)), some (.int (nI g)), some (.int 1), none, none, none, none, none, none] [] (n, sl, C, Z, I, L, R) Q := by
  have hM := hM'
  unfold LayM at hM
  have n0 : nI 0 = 0 := rfl
  have n1 : nI 3 = 3 := rfl
  have n2 : nI 3 = 3 := rfl
  have j0 : ∀ j, j < M → inb (nI j) 12 = true := fun j hj => by rw [inb_nI (by omega)]; simp; omega
  have jx : ∀ j, j < M → ix (nI j) = j := fun j hj => ix_nI (by omega)
  have ia : ∀ j k, j < M → k < 9 → inb (nI (9 * j + k)) 108 = true ∧ ix (nI (9 * j + k)) = 9 * j + k := fun j k hj hk => ⟨by rw [inb_nI (by omega)]; simp; omega, ix_nI (by omega)⟩
  have ia0 : ∀ j, j < M → inb (nI (9 * j)) 108 = true ∧ ix (nI (9 * j)) = 9 * j := fun j hj => ia j 0 hj (by omega)
  have ib : ∀ j k, j < M → k < 3 → inb (nI (3 * j + k)) 36 = true ∧ ix (nI (3 * j + k)) = 3 * j + k := fun j k hj hk => ⟨by rw [inb_nI (by omega)]; simp; omega, ix_nI (by omega)⟩
  have ib0 : ∀ j, j < M → inb (nI (3 * j)) 36 = true ∧ ix (nI (3 * j)) = 3 * j := fun j hj => ib j 0 hj (by omega)
  simp [S116_0, S116_1, S116_2, S116_3, S116_4, S116_5, S116_6, S116_7, S116_8, S116_9, S116_10, S104_0, Call_in (k2 := 104), BS, ixs, inbs, hM, is_yesG hM' hM12 hf, is_yesG hM' hM12 hg, e2, k1, k2, k3, k4, k5, n0, n1, j0, jx, hf, hg, mul3, mul9, nIk, nI_sub3, ia, ia0, ib, ib0, u2_rd, Nat.add_assoc]
  simp only [n2] at go
  refine go _ _ (fun i h1 h2 h3 => ?_) (by simp [u2_rd, k3])
  simp only [u2_ne _ _ _ h1, u2_ne _ _ _ h2, u2_ne _ _ _ h3]

set_option maxRecDepth 100000 in
set_option maxHeartbeats 8000000 in
theorem m_joins1_10 {n sl : Nat} {C Z : Nat → Nat} {I : Nat → Nat → Int32} {L : Nat → Nat → Int64} {R : Nat → Nat → Nat} {M f g : Nat} {Q : Option Value → Hp → Prop} (hM' : LayM C Z R) (hM12 : M ≤ 12) (hf : f < M) (hg : g < M) (e2 : I 74 0 = nI M) (k1 : ¬ I 75 f = 1) (k2 : ¬ I 75 g = 1) (k3 : I 77 f = I 77 g) (k4 : I 76 f = nI 1) (k5 : I 76 g = nI 0)
    (go : ∀ I4 ls, (∀ i, i ≠ 82 → i ≠ 83 → i ≠ 84 → I4 i = I i) → (I4 82 0 = I 79 (9 * f) ∧ (I4 83 0 = I 80 (3 * f) ∧ I4 84 0 = I 78 g * I 81 (3 * f))) → Call 115 [some (.ref 74), some (.int 2), some (.int (nI 1)), some (.int (I 77 g)), some (.int (I 78 f * I 78 g)), none, none, none, none] (n, sl, C, Z, I4, L, R) 116 429 ls [] Q) : Wp 116 0 [some (.ref 74), some (.int (nI f)), some (.int (nI g)), some (.int 1), none, none, none, none, none, none] [] (n, sl, C, Z, I, L, R) Q := by
  have hM := hM'
  unfold LayM at hM
  have n0 : nI 1 = 1 := rfl
  have n1 : nI 0 = 0 := rfl
  have n2 : nI 1 = 1 := rfl
  have j0 : ∀ j, j < M → inb (nI j) 12 = true := fun j hj => by rw [inb_nI (by omega)]; simp; omega
  have jx : ∀ j, j < M → ix (nI j) = j := fun j hj => ix_nI (by omega)
  have ia : ∀ j k, j < M → k < 9 → inb (nI (9 * j + k)) 108 = true ∧ ix (nI (9 * j + k)) = 9 * j + k := fun j k hj hk => ⟨by rw [inb_nI (by omega)]; simp; omega, ix_nI (by omega)⟩
  have ia0 : ∀ j, j < M → inb (nI (9 * j)) 108 = true ∧ ix (nI (9 * j)) = 9 * j := fun j hj => ia j 0 hj (by omega)
  have ib : ∀ j k, j < M → k < 3 → inb (nI (3 * j + k)) 36 = true ∧ ix (nI (3 * j + k)) = 3 * j + k := fun j k hj hk => ⟨by rw [inb_nI (by omega)]; simp; omega, ix_nI (by omega)⟩
  have ib0 : ∀ j, j < M → inb (nI (3 * j)) 36 = true ∧ ix (nI (3 * j)) = 3 * j := fun j hj => ib j 0 hj (by omega)
  simp [S116_0, S116_1, S116_2, S116_3, S116_4, S116_5, S116_6, S116_7, S116_8, S116_9, S116_10, S104_0, Call_in (k2 := 104), BS, ixs, inbs, hM, is_yesG hM' hM12 hf, is_yesG hM' hM12 hg, e2, k1, k2, k3, k4, k5, n0, n1, j0, jx, hf, hg, mul3, mul9, nIk, nI_sub3, ia, ia0, ib, ib0, u2_rd, Nat.add_assoc]
  simp only [n2] at go
  refine go _ _ (fun i h1 h2 h3 => ?_) (by simp [u2_rd, k3])
  simp only [u2_ne _ _ _ h1, u2_ne _ _ _ h2, u2_ne _ _ _ h3]

set_option maxRecDepth 100000 in
set_option maxHeartbeats 8000000 in
theorem m_joins1_11 {n sl : Nat} {C Z : Nat → Nat} {I : Nat → Nat → Int32} {L : Nat → Nat → Int64} {R : Nat → Nat → Nat} {M f g : Nat} {Q : Option Value → Hp → Prop} (hM' : LayM C Z R) (hM12 : M ≤ 12) (hf : f < M) (hg : g < M) (e2 : I 74 0 = nI M) (k1 : ¬ I 75 f = 1) (k2 : ¬ I 75 g = 1) (k3 : I 77 f = I 77 g) (k4 : I 76 f = nI 1) (k5 : I 76 g = nI 1)
    (go : ∀ I4 ls, (∀ i, i ≠ 82 → i ≠ 83 → i ≠ 84 → I4 i = I i) → (I4 82 0 = I 79 (9 * f) ∧ I4 82 1 = 0 ∧ I4 82 3 = I 77 f * I 80 (3 * g) * I 81 (3 * f) ∧ I4 82 4 = I 79 (9 * g) ∧ (I4 83 0 = I 80 (3 * f) ∧ I4 84 0 = I 78 g * I 81 (3 * f)) ∧ (I4 83 1 = I 80 (3 * g) * I 78 f ∧ I4 84 1 = I 81 (3 * g))) → Call 115 [some (.ref 74), some (.int 2), some (.int (nI 2)), some (.int (I 77 g)), some (.int (I 78 f * I 78 g)), none, none, none, none] (n, sl, C, Z, I4, L, R) 116 429 ls [] Q) : Wp 116 0 [some (.ref 74), some (.int (nI f)), some (.int (nI g)), some (.int 1), none, none, none, none, none, none] [] (n, sl, C, Z, I, L, R) Q := by
  have hM := hM'
  unfold LayM at hM
  have n0 : nI 1 = 1 := rfl
  have n1 : nI 1 = 1 := rfl
  have n2 : nI 2 = 2 := rfl
  have j0 : ∀ j, j < M → inb (nI j) 12 = true := fun j hj => by rw [inb_nI (by omega)]; simp; omega
  have jx : ∀ j, j < M → ix (nI j) = j := fun j hj => ix_nI (by omega)
  have ia : ∀ j k, j < M → k < 9 → inb (nI (9 * j + k)) 108 = true ∧ ix (nI (9 * j + k)) = 9 * j + k := fun j k hj hk => ⟨by rw [inb_nI (by omega)]; simp; omega, ix_nI (by omega)⟩
  have ia0 : ∀ j, j < M → inb (nI (9 * j)) 108 = true ∧ ix (nI (9 * j)) = 9 * j := fun j hj => ia j 0 hj (by omega)
  have ib : ∀ j k, j < M → k < 3 → inb (nI (3 * j + k)) 36 = true ∧ ix (nI (3 * j + k)) = 3 * j + k := fun j k hj hk => ⟨by rw [inb_nI (by omega)]; simp; omega, ix_nI (by omega)⟩
  have ib0 : ∀ j, j < M → inb (nI (3 * j)) 36 = true ∧ ix (nI (3 * j)) = 3 * j := fun j hj => ib j 0 hj (by omega)
  simp [S116_0, S116_1, S116_2, S116_3, S116_4, S116_5, S116_6, S116_7, S116_8, S116_9, S116_10, S104_0, Call_in (k2 := 104), BS, ixs, inbs, hM, is_yesG hM' hM12 hf, is_yesG hM' hM12 hg, e2, k1, k2, k3, k4, k5, n0, n1, j0, jx, hf, hg, mul3, mul9, nIk, nI_sub3, ia, ia0, ib, ib0, u2_rd, Nat.add_assoc]
  simp only [n2] at go
  refine go _ _ (fun i h1 h2 h3 => ?_) (by simp [u2_rd, k3])
  simp only [u2_ne _ _ _ h1, u2_ne _ _ _ h2, u2_ne _ _ _ h3]

set_option maxRecDepth 100000 in
set_option maxHeartbeats 8000000 in
theorem m_joins1_12 {n sl : Nat} {C Z : Nat → Nat} {I : Nat → Nat → Int32} {L : Nat → Nat → Int64} {R : Nat → Nat → Nat} {M f g : Nat} {Q : Option Value → Hp → Prop} (hM' : LayM C Z R) (hM12 : M ≤ 12) (hf : f < M) (hg : g < M) (e2 : I 74 0 = nI M) (k1 : ¬ I 75 f = 1) (k2 : ¬ I 75 g = 1) (k3 : I 77 f = I 77 g) (k4 : I 76 f = nI 1) (k5 : I 76 g = nI 2)
    (go : ∀ I4 ls, (∀ i, i ≠ 82 → i ≠ 83 → i ≠ 84 → I4 i = I i) → (I4 82 0 = I 79 (9 * f) ∧ I4 82 1 = 0 ∧ I4 82 2 = 0 ∧ I4 82 3 = I 77 f * I 80 (3 * g) * I 81 (3 * f) ∧ I4 82 4 = I 79 (9 * g) ∧ I4 82 5 = I 79 (9 * g + 1) ∧ I4 82 6 = I 77 f * I 80 (3 * g + 1) * I 81 (3 * f) ∧ I4 82 7 = I 79 (9 * g + 3) ∧ I4 82 8 = I 79 (9 * g + 4) ∧ (I4 83 0 = I 80 (3 * f) ∧ I4 84 0 = I 78 g * I 81 (3 * f)) ∧ (I4 83 1 = I 80 (3 * g) * I 78 f ∧ I4 84 1 = I 81 (3 * g)) ∧ (I4 83 2 = I 80 (3 * g + 1) * I 78 f ∧ I4 84 2 = I 81 (3 * g + 1))) → Call 115 [some (.ref 74), some (.int 2), some (.int (nI 3)), some (.int (I 77 g)), some (.int (I 78 f * I 78 g)), none, none, none, none] (n, sl, C, Z, I4, L, R) 116 429 ls [] Q) : Wp 116 0 [some (.ref 74), some (.int (nI f)), some (.int (nI g)), some (.int 1), none, none, none, none, none, none] [] (n, sl, C, Z, I, L, R) Q := by
  have hM := hM'
  unfold LayM at hM
  have n0 : nI 1 = 1 := rfl
  have n1 : nI 2 = 2 := rfl
  have n2 : nI 3 = 3 := rfl
  have j0 : ∀ j, j < M → inb (nI j) 12 = true := fun j hj => by rw [inb_nI (by omega)]; simp; omega
  have jx : ∀ j, j < M → ix (nI j) = j := fun j hj => ix_nI (by omega)
  have ia : ∀ j k, j < M → k < 9 → inb (nI (9 * j + k)) 108 = true ∧ ix (nI (9 * j + k)) = 9 * j + k := fun j k hj hk => ⟨by rw [inb_nI (by omega)]; simp; omega, ix_nI (by omega)⟩
  have ia0 : ∀ j, j < M → inb (nI (9 * j)) 108 = true ∧ ix (nI (9 * j)) = 9 * j := fun j hj => ia j 0 hj (by omega)
  have ib : ∀ j k, j < M → k < 3 → inb (nI (3 * j + k)) 36 = true ∧ ix (nI (3 * j + k)) = 3 * j + k := fun j k hj hk => ⟨by rw [inb_nI (by omega)]; simp; omega, ix_nI (by omega)⟩
  have ib0 : ∀ j, j < M → inb (nI (3 * j)) 36 = true ∧ ix (nI (3 * j)) = 3 * j := fun j hj => ib j 0 hj (by omega)
  simp [S116_0, S116_1, S116_2, S116_3, S116_4, S116_5, S116_6, S116_7, S116_8, S116_9, S116_10, S104_0, Call_in (k2 := 104), BS, ixs, inbs, hM, is_yesG hM' hM12 hf, is_yesG hM' hM12 hg, e2, k1, k2, k3, k4, k5, n0, n1, j0, jx, hf, hg, mul3, mul9, nIk, nI_sub3, ia, ia0, ib, ib0, u2_rd, Nat.add_assoc]
  simp only [n2] at go
  refine go _ _ (fun i h1 h2 h3 => ?_) (by simp [u2_rd, k3])
  simp only [u2_ne _ _ _ h1, u2_ne _ _ _ h2, u2_ne _ _ _ h3]

set_option maxRecDepth 100000 in
set_option maxHeartbeats 8000000 in
theorem m_joins1_20 {n sl : Nat} {C Z : Nat → Nat} {I : Nat → Nat → Int32} {L : Nat → Nat → Int64} {R : Nat → Nat → Nat} {M f g : Nat} {Q : Option Value → Hp → Prop} (hM' : LayM C Z R) (hM12 : M ≤ 12) (hf : f < M) (hg : g < M) (e2 : I 74 0 = nI M) (k1 : ¬ I 75 f = 1) (k2 : ¬ I 75 g = 1) (k3 : I 77 f = I 77 g) (k4 : I 76 f = nI 2) (k5 : I 76 g = nI 0)
    (go : ∀ I4 ls, (∀ i, i ≠ 82 → i ≠ 83 → i ≠ 84 → I4 i = I i) → (I4 82 0 = I 79 (9 * f) ∧ I4 82 1 = I 79 (9 * f + 1) ∧ I4 82 3 = I 79 (9 * f + 3) ∧ I4 82 4 = I 79 (9 * f + 4) ∧ (I4 83 0 = I 80 (3 * f) ∧ I4 84 0 = I 78 g * I 81 (3 * f)) ∧ (I4 83 1 = I 80 (3 * f + 1) ∧ I4 84 1 = I 78 g * I 81 (3 * f + 1))) → Call 115 [some (.ref 74), some (.int 2), some (.int (nI 2)), some (.int (I 77 g)), some (.int (I 78 f * I 78 g)), none, none, none, none] (n, sl, C, Z, I4, L, R) 116 429 ls [] Q) : Wp 116 0 [some (.ref 74), some (.int (nI f)), some (.int (nI g)), some (.int 1), none, none, none, none, none, none] [] (n, sl, C, Z, I, L, R) Q := by
  have hM := hM'
  unfold LayM at hM
  have n0 : nI 2 = 2 := rfl
  have n1 : nI 0 = 0 := rfl
  have n2 : nI 2 = 2 := rfl
  have j0 : ∀ j, j < M → inb (nI j) 12 = true := fun j hj => by rw [inb_nI (by omega)]; simp; omega
  have jx : ∀ j, j < M → ix (nI j) = j := fun j hj => ix_nI (by omega)
  have ia : ∀ j k, j < M → k < 9 → inb (nI (9 * j + k)) 108 = true ∧ ix (nI (9 * j + k)) = 9 * j + k := fun j k hj hk => ⟨by rw [inb_nI (by omega)]; simp; omega, ix_nI (by omega)⟩
  have ia0 : ∀ j, j < M → inb (nI (9 * j)) 108 = true ∧ ix (nI (9 * j)) = 9 * j := fun j hj => ia j 0 hj (by omega)
  have ib : ∀ j k, j < M → k < 3 → inb (nI (3 * j + k)) 36 = true ∧ ix (nI (3 * j + k)) = 3 * j + k := fun j k hj hk => ⟨by rw [inb_nI (by omega)]; simp; omega, ix_nI (by omega)⟩
  have ib0 : ∀ j, j < M → inb (nI (3 * j)) 36 = true ∧ ix (nI (3 * j)) = 3 * j := fun j hj => ib j 0 hj (by omega)
  simp [S116_0, S116_1, S116_2, S116_3, S116_4, S116_5, S116_6, S116_7, S116_8, S116_9, S116_10, S104_0, Call_in (k2 := 104), BS, ixs, inbs, hM, is_yesG hM' hM12 hf, is_yesG hM' hM12 hg, e2, k1, k2, k3, k4, k5, n0, n1, j0, jx, hf, hg, mul3, mul9, nIk, nI_sub3, ia, ia0, ib, ib0, u2_rd, Nat.add_assoc]
  simp only [n2] at go
  refine go _ _ (fun i h1 h2 h3 => ?_) (by simp [u2_rd, k3])
  simp only [u2_ne _ _ _ h1, u2_ne _ _ _ h2, u2_ne _ _ _ h3]

set_option maxRecDepth 100000 in
set_option maxHeartbeats 8000000 in
theorem m_joins1_21 {n sl : Nat} {C Z : Nat → Nat} {I : Nat → Nat → Int32} {L : Nat → Nat → Int64} {R : Nat → Nat → Nat} {M f g : Nat} {Q : Option Value → Hp → Prop} (hM' : LayM C Z R) (hM12 : M ≤ 12) (hf : f < M) (hg : g < M) (e2 : I 74 0 = nI M) (k1 : ¬ I 75 f = 1) (k2 : ¬ I 75 g = 1) (k3 : I 77 f = I 77 g) (k4 : I 76 f = nI 2) (k5 : I 76 g = nI 1)
    (go : ∀ I4 ls, (∀ i, i ≠ 82 → i ≠ 83 → i ≠ 84 → I4 i = I i) → (I4 82 0 = I 79 (9 * f) ∧ I4 82 1 = I 79 (9 * f + 1) ∧ I4 82 2 = 0 ∧ I4 82 3 = I 79 (9 * f + 3) ∧ I4 82 4 = I 79 (9 * f + 4) ∧ I4 82 5 = 0 ∧ I4 82 6 = I 77 f * I 80 (3 * g) * I 81 (3 * f) ∧ I4 82 7 = I 77 f * I 80 (3 * g) * I 81 (3 * f + 1) ∧ I4 82 8 = I 79 (9 * g) ∧ (I4 83 0 = I 80 (3 * f) ∧ I4 84 0 = I 78 g * I 81 (3 * f)) ∧ (I4 83 1 = I 80 (3 * f + 1) ∧ I4 84 1 = I 78 g * I 81 (3 * f + 1)) ∧ (I4 83 2 = I 80 (3 * g) * I 78 f ∧ I4 84 2 = I 81 (3 * g))) → Call 115 [some (.ref 74), some (.int 2), some (.int (nI 3)), some (.int (I 77 g)), some (.int (I 78 f * I 78 g)), none, none, none, none] (n, sl, C, Z, I4, L, R) 116 429 ls [] Q) : Wp 116 0 [some (.ref 74), some (.int (nI f)), some (.int (nI g)), some (.int 1), none, none, none, none, none, none] [] (n, sl, C, Z, I, L, R) Q := by
  have hM := hM'
  unfold LayM at hM
  have n0 : nI 2 = 2 := rfl
  have n1 : nI 1 = 1 := rfl
  have n2 : nI 3 = 3 := rfl
  have j0 : ∀ j, j < M → inb (nI j) 12 = true := fun j hj => by rw [inb_nI (by omega)]; simp; omega
  have jx : ∀ j, j < M → ix (nI j) = j := fun j hj => ix_nI (by omega)
  have ia : ∀ j k, j < M → k < 9 → inb (nI (9 * j + k)) 108 = true ∧ ix (nI (9 * j + k)) = 9 * j + k := fun j k hj hk => ⟨by rw [inb_nI (by omega)]; simp; omega, ix_nI (by omega)⟩
  have ia0 : ∀ j, j < M → inb (nI (9 * j)) 108 = true ∧ ix (nI (9 * j)) = 9 * j := fun j hj => ia j 0 hj (by omega)
  have ib : ∀ j k, j < M → k < 3 → inb (nI (3 * j + k)) 36 = true ∧ ix (nI (3 * j + k)) = 3 * j + k := fun j k hj hk => ⟨by rw [inb_nI (by omega)]; simp; omega, ix_nI (by omega)⟩
  have ib0 : ∀ j, j < M → inb (nI (3 * j)) 36 = true ∧ ix (nI (3 * j)) = 3 * j := fun j hj => ib j 0 hj (by omega)
  simp [S116_0, S116_1, S116_2, S116_3, S116_4, S116_5, S116_6, S116_7, S116_8, S116_9, S116_10, S104_0, Call_in (k2 := 104), BS, ixs, inbs, hM, is_yesG hM' hM12 hf, is_yesG hM' hM12 hg, e2, k1, k2, k3, k4, k5, n0, n1, j0, jx, hf, hg, mul3, mul9, nIk, nI_sub3, ia, ia0, ib, ib0, u2_rd, Nat.add_assoc]
  simp only [n2] at go
  refine go _ _ (fun i h1 h2 h3 => ?_) (by simp [u2_rd, k3])
  simp only [u2_ne _ _ _ h1, u2_ne _ _ _ h2, u2_ne _ _ _ h3]

set_option maxRecDepth 100000 in
set_option maxHeartbeats 8000000 in
theorem m_joins1_30 {n sl : Nat} {C Z : Nat → Nat} {I : Nat → Nat → Int32} {L : Nat → Nat → Int64} {R : Nat → Nat → Nat} {M f g : Nat} {Q : Option Value → Hp → Prop} (hM' : LayM C Z R) (hM12 : M ≤ 12) (hf : f < M) (hg : g < M) (e2 : I 74 0 = nI M) (k1 : ¬ I 75 f = 1) (k2 : ¬ I 75 g = 1) (k3 : I 77 f = I 77 g) (k4 : I 76 f = nI 3) (k5 : I 76 g = nI 0)
    (go : ∀ I4 ls, (∀ i, i ≠ 82 → i ≠ 83 → i ≠ 84 → I4 i = I i) → (I4 82 0 = I 79 (9 * f) ∧ I4 82 1 = I 79 (9 * f + 1) ∧ I4 82 2 = I 79 (9 * f + 2) ∧ I4 82 3 = I 79 (9 * f + 3) ∧ I4 82 4 = I 79 (9 * f + 4) ∧ I4 82 5 = I 79 (9 * f + 5) ∧ I4 82 6 = I 79 (9 * f + 6) ∧ I4 82 7 = I 79 (9 * f + 7) ∧ I4 82 8 = I 79 (9 * f + 8) ∧ (I4 83 0 = I 80 (3 * f) ∧ I4 84 0 = I 78 g * I 81 (3 * f)) ∧ (I4 83 1 = I 80 (3 * f + 1) ∧ I4 84 1 = I 78 g * I 81 (3 * f + 1)) ∧ (I4 83 2 = I 80 (3 * f + 2) ∧ I4 84 2 = I 78 g * I 81 (3 * f + 2))) → Call 115 [some (.ref 74), some (.int 2), some (.int (nI 3)), some (.int (I 77 g)), some (.int (I 78 f * I 78 g)), none, none, none, none] (n, sl, C, Z, I4, L, R) 116 429 ls [] Q) : Wp 116 0 [some (.ref 74), some (.int (nI f)), some (.int (nI g)), some (.int 1), none, none, none, none, none, none] [] (n, sl, C, Z, I, L, R) Q := by
  have hM := hM'
  unfold LayM at hM
  have n0 : nI 3 = 3 := rfl
  have n1 : nI 0 = 0 := rfl
  have n2 : nI 3 = 3 := rfl
  have j0 : ∀ j, j < M → inb (nI j) 12 = true := fun j hj => by rw [inb_nI (by omega)]; simp; omega
  have jx : ∀ j, j < M → ix (nI j) = j := fun j hj => ix_nI (by omega)
  have ia : ∀ j k, j < M → k < 9 → inb (nI (9 * j + k)) 108 = true ∧ ix (nI (9 * j + k)) = 9 * j + k := fun j k hj hk => ⟨by rw [inb_nI (by omega)]; simp; omega, ix_nI (by omega)⟩
  have ia0 : ∀ j, j < M → inb (nI (9 * j)) 108 = true ∧ ix (nI (9 * j)) = 9 * j := fun j hj => ia j 0 hj (by omega)
  have ib : ∀ j k, j < M → k < 3 → inb (nI (3 * j + k)) 36 = true ∧ ix (nI (3 * j + k)) = 3 * j + k := fun j k hj hk => ⟨by rw [inb_nI (by omega)]; simp; omega, ix_nI (by omega)⟩
  have ib0 : ∀ j, j < M → inb (nI (3 * j)) 36 = true ∧ ix (nI (3 * j)) = 3 * j := fun j hj => ib j 0 hj (by omega)
  simp [S116_0, S116_1, S116_2, S116_3, S116_4, S116_5, S116_6, S116_7, S116_8, S116_9, S116_10, S104_0, Call_in (k2 := 104), BS, ixs, inbs, hM, is_yesG hM' hM12 hf, is_yesG hM' hM12 hg, e2, k1, k2, k3, k4, k5, n0, n1, j0, jx, hf, hg, mul3, mul9, nIk, nI_sub3, ia, ia0, ib, ib0, u2_rd, Nat.add_assoc]
  simp only [n2] at go
  refine go _ _ (fun i h1 h2 h3 => ?_) (by simp [u2_rd, k3])
  simp only [u2_ne _ _ _ h1, u2_ne _ _ _ h2, u2_ne _ _ _ h3]

set_option maxRecDepth 100000 in
set_option maxHeartbeats 8000000 in
theorem m_joins0_00 {n sl : Nat} {C Z : Nat → Nat} {I : Nat → Nat → Int32} {L : Nat → Nat → Int64} {R : Nat → Nat → Nat} {M f g : Nat} {Q : Option Value → Hp → Prop} (hM' : LayM C Z R) (hM12 : M ≤ 12) (hf : f < M) (hg : g < M) (e2 : I 74 0 = nI M) (k1 : ¬ I 75 f = 1) (k2 : ¬ I 75 g = 1) (k3 : I 77 f = I 77 g) (k4 : I 76 f = nI 0) (k5 : I 76 g = nI 0)
    (go : ∀ I4 ls, (∀ i, i ≠ 82 → i ≠ 83 → i ≠ 84 → I4 i = I i) → (True) → Call 115 [some (.ref 74), some (.int 2), some (.int (nI 0)), some (.int (I 77 g)), some (.int (I 78 f + I 78 g)), none, none, none, none] (n, sl, C, Z, I4, L, R) 116 429 ls [] Q) : Wp 116 0 [some (.ref 74), some (.int (nI f)), some (.int (nI g)), some (.int 0), none, none, none, none, none, none] [] (n, sl, C, Z, I, L, R) Q := by
  have hM := hM'
  unfold LayM at hM
  have n0 : nI 0 = 0 := rfl
  have n1 : nI 0 = 0 := rfl
  have n2 : nI 0 = 0 := rfl
  have j0 : ∀ j, j < M → inb (nI j) 12 = true := fun j hj => by rw [inb_nI (by omega)]; simp; omega
  have jx : ∀ j, j < M → ix (nI j) = j := fun j hj => ix_nI (by omega)
  have ia : ∀ j k, j < M → k < 9 → inb (nI (9 * j + k)) 108 = true ∧ ix (nI (9 * j + k)) = 9 * j + k := fun j k hj hk => ⟨by rw [inb_nI (by omega)]; simp; omega, ix_nI (by omega)⟩
  have ia0 : ∀ j, j < M → inb (nI (9 * j)) 108 = true ∧ ix (nI (9 * j)) = 9 * j := fun j hj => ia j 0 hj (by omega)
  have ib : ∀ j k, j < M → k < 3 → inb (nI (3 * j + k)) 36 = true ∧ ix (nI (3 * j + k)) = 3 * j + k := fun j k hj hk => ⟨by rw [inb_nI (by omega)]; simp; omega, ix_nI (by omega)⟩
  have ib0 : ∀ j, j < M → inb (nI (3 * j)) 36 = true ∧ ix (nI (3 * j)) = 3 * j := fun j hj => ib j 0 hj (by omega)
  simp [S116_0, S116_1, S116_2, S116_3, S116_4, S116_5, S116_6, S116_7, S116_8, S116_9, S116_10, S104_0, Call_in (k2 := 104), BS, ixs, inbs, hM, is_yesG hM' hM12 hf, is_yesG hM' hM12 hg, e2, k1, k2, k3, k4, k5, n0, n1, j0, jx, hf, hg, mul3, mul9, nIk, nI_sub3, ia, ia0, ib, ib0, u2_rd, Nat.add_assoc]
  simp only [n2] at go
  refine go _ _ (fun i h1 h2 h3 => ?_) (by simp [u2_rd, k3])
  simp only [u2_ne _ _ _ h1, u2_ne _ _ _ h2, u2_ne _ _ _ h3]

set_option maxRecDepth 100000 in
set_option maxHeartbeats 8000000 in
theorem m_joins0_01 {n sl : Nat} {C Z : Nat → Nat} {I : Nat → Nat → Int32} {L : Nat → Nat → Int64} {R : Nat → Nat → Nat} {M f g : Nat} {Q : Option Value → Hp → Prop} (hM' : LayM C Z R) (hM12 : M ≤ 12) (hf : f < M) (hg : g < M) (e2 : I 74 0 = nI M) (k1 : ¬ I 75 f = 1) (k2 : ¬ I 75 g = 1) (k3 : I 77 f = I 77 g) (k4 : I 76 f = nI 0) (k5 : I 76 g = nI 1)
    (go : ∀ I4 ls, (∀ i, i ≠ 82 → i ≠ 83 → i ≠ 84 → I4 i = I i) → (I4 82 0 = I 79 (9 * g) ∧ (I4 83 0 = I 80 (3 * g) ∧ I4 84 0 = I 81 (3 * g))) → Call 115 [some (.ref 74), some (.int 2), some (.int (nI 1)), some (.int (I 77 g)), some (.int (I 78 f + I 78 g)), none, none, none, none] (n, sl, C, Z, I4, L, R) 116 429 ls [] Q) : Wp 116 0 [some (.ref 74), some (.int (nI f)), some (.int (nI g)), some (.int 0), none, none, none, none, none, none] [] (n, sl, C, Z, I, L, R) Q := by
  have hM := hM'
  unfold LayM at hM
  have n0 : nI 0 = 0 := rfl
  have n1 : nI 1 = 1 := rfl
  have n2 : nI 1 = 1 := rfl
  have j0 : ∀ j, j < M → inb (nI j) 12 = true := fun j hj => by rw [inb_nI (by omega)]; simp; omega
  have jx : ∀ j, j < M → ix (nI j) = j := fun j hj => ix_nI (by omega)
  have ia : ∀ j k, j < M → k < 9 → inb (nI (9 * j + k)) 108 = true ∧ ix (nI (9 * j + k)) = 9 * j + k := fun j k hj hk => ⟨by rw [inb_nI (by omega)]; simp; omega, ix_nI (by omega)⟩
  have ia0 : ∀ j, j < M → inb (nI (9 * j)) 108 = true ∧ ix (nI (9 * j)) = 9 * j := fun j hj => ia j 0 hj (by omega)
  have ib : ∀ j k, j < M → k < 3 → inb (nI (3 * j + k)) 36 = true ∧ ix (nI (3 * j + k)) = 3 * j + k := fun j k hj hk => ⟨by rw [inb_nI (by omega)]; simp; omega, ix_nI (by omega)⟩
  have ib0 : ∀ j, j < M → inb (nI (3 * j)) 36 = true ∧ ix (nI (3 * j)) = 3 * j := fun j hj => ib j 0 hj (by omega)
  simp [S116_0, S116_1, S116_2, S116_3, S116_4, S116_5, S116_6, S116_7, S116_8, S116_9, S116_10, S104_0, Call_in (k2 := 104), BS, ixs, inbs, hM, is_yesG hM' hM12 hf, is_yesG hM' hM12 hg, e2, k1, k2, k3, k4, k5, n0, n1, j0, jx, hf, hg, mul3, mul9, nIk, nI_sub3, ia, ia0, ib, ib0, u2_rd, Nat.add_assoc]
  simp only [n2] at go
  refine go _ _ (fun i h1 h2 h3 => ?_) (by simp [u2_rd, k3])
  simp only [u2_ne _ _ _ h1, u2_ne _ _ _ h2, u2_ne _ _ _ h3]

set_option maxRecDepth 100000 in
set_option maxHeartbeats 8000000 in
theorem m_joins0_02 {n sl : Nat} {C Z : Nat → Nat} {I : Nat → Nat → Int32} {L : Nat → Nat → Int64} {R : Nat → Nat → Nat} {M f g : Nat} {Q : Option Value → Hp → Prop} (hM' : LayM C Z R) (hM12 : M ≤ 12) (hf : f < M) (hg : g < M) (e2 : I 74 0 = nI M) (k1 : ¬ I 75 f = 1) (k2 : ¬ I 75 g = 1) (k3 : I 77 f = I 77 g) (k4 : I 76 f = nI 0) (k5 : I 76 g = nI 2)
    (go : ∀ I4 ls, (∀ i, i ≠ 82 → i ≠ 83 → i ≠ 84 → I4 i = I i) → (I4 82 0 = I 79 (9 * g) ∧ I4 82 1 = I 79 (9 * g + 1) ∧ I4 82 3 = I 79 (9 * g + 3) ∧ I4 82 4 = I 79 (9 * g + 4) ∧ (I4 83 0 = I 80 (3 * g) ∧ I4 84 0 = I 81 (3 * g)) ∧ (I4 83 1 = I 80 (3 * g + 1) ∧ I4 84 1 = I 81 (3 * g + 1))) → Call 115 [some (.ref 74), some (.int 2), some (.int (nI 2)), some (.int (I 77 g)), some (.int (I 78 f + I 78 g)), none, none, none, none] (n, sl, C, Z, I4, L, R) 116 429 ls [] Q) : Wp 116 0 [some (.ref 74), some (.int (nI f)), some (.int (nI g)), some (.int 0), none, none, none, none, none, none] [] (n, sl, C, Z, I, L, R) Q := by
  have hM := hM'
  unfold LayM at hM
  have n0 : nI 0 = 0 := rfl
  have n1 : nI 2 = 2 := rfl
  have n2 : nI 2 = 2 := rfl
  have j0 : ∀ j, j < M → inb (nI j) 12 = true := fun j hj => by rw [inb_nI (by omega)]; simp; omega
  have jx : ∀ j, j < M → ix (nI j) = j := fun j hj => ix_nI (by omega)
  have ia : ∀ j k, j < M → k < 9 → inb (nI (9 * j + k)) 108 = true ∧ ix (nI (9 * j + k)) = 9 * j + k := fun j k hj hk => ⟨by rw [inb_nI (by omega)]; simp; omega, ix_nI (by omega)⟩
  have ia0 : ∀ j, j < M → inb (nI (9 * j)) 108 = true ∧ ix (nI (9 * j)) = 9 * j := fun j hj => ia j 0 hj (by omega)
  have ib : ∀ j k, j < M → k < 3 → inb (nI (3 * j + k)) 36 = true ∧ ix (nI (3 * j + k)) = 3 * j + k := fun j k hj hk => ⟨by rw [inb_nI (by omega)]; simp; omega, ix_nI (by omega)⟩
  have ib0 : ∀ j, j < M → inb (nI (3 * j)) 36 = true ∧ ix (nI (3 * j)) = 3 * j := fun j hj => ib j 0 hj (by omega)
  simp [S116_0, S116_1, S116_2, S116_3, S116_4, S116_5, S116_6, S116_7, S116_8, S116_9, S116_10, S104_0, Call_in (k2 := 104), BS, ixs, inbs, hM, is_yesG hM' hM12 hf, is_yesG hM' hM12 hg, e2, k1, k2, k3, k4, k5, n0, n1, j0, jx, hf, hg, mul3, mul9, nIk, nI_sub3, ia, ia0, ib, ib0, u2_rd, Nat.add_assoc]
  simp only [n2] at go
  refine go _ _ (fun i h1 h2 h3 => ?_) (by simp [u2_rd, k3])
  simp only [u2_ne _ _ _ h1, u2_ne _ _ _ h2, u2_ne _ _ _ h3]

set_option maxRecDepth 100000 in
set_option maxHeartbeats 8000000 in
theorem m_joins0_03 {n sl : Nat} {C Z : Nat → Nat} {I : Nat → Nat → Int32} {L : Nat → Nat → Int64} {R : Nat → Nat → Nat} {M f g : Nat} {Q : Option Value → Hp → Prop} (hM' : LayM C Z R) (hM12 : M ≤ 12) (hf : f < M) (hg : g < M) (e2 : I 74 0 = nI M) (k1 : ¬ I 75 f = 1) (k2 : ¬ I 75 g = 1) (k3 : I 77 f = I 77 g) (k4 : I 76 f = nI 0) (k5 : I 76 g = nI 3)
    (go : ∀ I4 ls, (∀ i, i ≠ 82 → i ≠ 83 → i ≠ 84 → I4 i = I i) → (I4 82 0 = I 79 (9 * g) ∧ I4 82 1 = I 79 (9 * g + 1) ∧ I4 82 2 = I 79 (9 * g + 2) ∧ I4 82 3 = I 79 (9 * g + 3) ∧ I4 82 4 = I 79 (9 * g + 4) ∧ I4 82 5 = I 79 (9 * g + 5) ∧ I4 82 6 = I 79 (9 * g + 6) ∧ I4 82 7 = I 79 (9 * g + 7) ∧ I4 82 8 = I 79 (9 * g + 8) ∧ (I4 83 0 = I 80 (3 * g) ∧ I4 84 0 = I 81 (3 * g)) ∧ (I4 83 1 = I 80 (3 * g + 1) ∧ I4 84 1 = I 81 (3 * g + 1)) ∧ (I4 83 2 = I 80 (3 * g + 2) ∧ I4 84 2 = I 81 (3 * g + 2))) → Call 115 [some (.ref 74), some (.int 2), some (.int (nI 3)), some (.int (I 77 g)), some (.int (I 78 f + I 78 g)), none, none, none, none] (n, sl, C, Z, I4, L, R) 116 429 ls [] Q) : Wp 116 0 [some (.ref 74), some (.int (nI f)), some (.int (nI g)), some (.int 0), none, none, none, none, none, none] [] (n, sl, C, Z, I, L, R) Q := by
  have hM := hM'
  unfold LayM at hM
  have n0 : nI 0 = 0 := rfl
  have n1 : nI 3 = 3 := rfl
  have n2 : nI 3 = 3 := rfl
  have j0 : ∀ j, j < M → inb (nI j) 12 = true := fun j hj => by rw [inb_nI (by omega)]; simp; omega
  have jx : ∀ j, j < M → ix (nI j) = j := fun j hj => ix_nI (by omega)
  have ia : ∀ j k, j < M → k < 9 → inb (nI (9 * j + k)) 108 = true ∧ ix (nI (9 * j + k)) = 9 * j + k := fun j k hj hk => ⟨by rw [inb_nI (by omega)]; simp; omega, ix_nI (by omega)⟩
  have ia0 : ∀ j, j < M → inb (nI (9 * j)) 108 = true ∧ ix (nI (9 * j)) = 9 * j := fun j hj => ia j 0 hj (by omega)
  have ib : ∀ j k, j < M → k < 3 → inb (nI (3 * j + k)) 36 = true ∧ ix (nI (3 * j + k)) = 3 * j + k := fun j k hj hk => ⟨by rw [inb_nI (by omega)]; simp; omega, ix_nI (by omega)⟩
  have ib0 : ∀ j, j < M → inb (nI (3 * j)) 36 = true ∧ ix (nI (3 * j)) = 3 * j := fun j hj => ib j 0 hj (by omega)
  simp [S116_0, S116_1, S116_2, S116_3, S116_4, S116_5, S116_6, S116_7, S116_8, S116_9, S116_10, S104_0, Call_in (k2 := 104), BS, ixs, inbs, hM, is_yesG hM' hM12 hf, is_yesG hM' hM12 hg, e2, k1, k2, k3, k4, k5, n0, n1, j0, jx, hf, hg, mul3, mul9, nIk, nI_sub3, ia, ia0, ib, ib0, u2_rd, Nat.add_assoc]
  simp only [n2] at go
  refine go _ _ (fun i h1 h2 h3 => ?_) (by simp [u2_rd, k3])
  simp only [u2_ne _ _ _ h1, u2_ne _ _ _ h2, u2_ne _ _ _ h3]

set_option maxRecDepth 100000 in
set_option maxHeartbeats 8000000 in
theorem m_joins0_10 {n sl : Nat} {C Z : Nat → Nat} {I : Nat → Nat → Int32} {L : Nat → Nat → Int64} {R : Nat → Nat → Nat} {M f g : Nat} {Q : Option Value → Hp → Prop} (hM' : LayM C Z R) (hM12 : M ≤ 12) (hf : f < M) (hg : g < M) (e2 : I 74 0 = nI M) (k1 : ¬ I 75 f = 1) (k2 : ¬ I 75 g = 1) (k3 : I 77 f = I 77 g) (k4 : I 76 f = nI 1) (k5 : I 76 g = nI 0)
    (go : ∀ I4 ls, (∀ i, i ≠ 82 → i ≠ 83 → i ≠ 84 → I4 i = I i) → (I4 82 0 = I 79 (9 * f) ∧ (I4 83 0 = I 80 (3 * f) ∧ I4 84 0 = I 81 (3 * f))) → Call 115 [some (.ref 74), some (.int 2), some (.int (nI 1)), some (.int (I 77 g)), some (.int (I 78 f + I 78 g)), none, none, none, none] (n, sl, C, Z, I4, L, R) 116 429 ls [] Q) : Wp 116 0 [some (.ref 74), some (.int (nI f)), some (.int (nI g)), some (.int 0), none, none, none, none, none, none] [] (n, sl, C, Z, I, L, R) Q := by
  have hM := hM'
  unfold LayM at hM
  have n0 : nI 1 = 1 := rfl
  have n1 : nI 0 = 0 := rfl
  have n2 : nI 1 = 1 := rfl
  have j0 : ∀ j, j < M → inb (nI j) 12 = true := fun j hj => by rw [inb_nI (by omega)]; simp; omega
  have jx : ∀ j, j < M → ix (nI j) = j := fun j hj => ix_nI (by omega)
  have ia : ∀ j k, j < M → k < 9 → inb (nI (9 * j + k)) 108 = true ∧ ix (nI (9 * j + k)) = 9 * j + k := fun j k hj hk => ⟨by rw [inb_nI (by omega)]; simp; omega, ix_nI (by omega)⟩
  have ia0 : ∀ j, j < M → inb (nI (9 * j)) 108 = true ∧ ix (nI (9 * j)) = 9 * j := fun j hj => ia j 0 hj (by omega)
  have ib : ∀ j k, j < M → k < 3 → inb (nI (3 * j + k)) 36 = true ∧ ix (nI (3 * j + k)) = 3 * j + k := fun j k hj hk => ⟨by rw [inb_nI (by omega)]; simp; omega, ix_nI (by omega)⟩
  have ib0 : ∀ j, j < M → inb (nI (3 * j)) 36 = true ∧ ix (nI (3 * j)) = 3 * j := fun j hj => ib j 0 hj (by omega)
  simp [S116_0, S116_1, S116_2, S116_3, S116_4, S116_5, S116_6, S116_7, S116_8, S116_9, S116_10, S104_0, Call_in (k2 := 104), BS, ixs, inbs, hM, is_yesG hM' hM12 hf, is_yesG hM' hM12 hg, e2, k1, k2, k3, k4, k5, n0, n1, j0, jx, hf, hg, mul3, mul9, nIk, nI_sub3, ia, ia0, ib, ib0, u2_rd, Nat.add_assoc]
  simp only [n2] at go
  refine go _ _ (fun i h1 h2 h3 => ?_) (by simp [u2_rd, k3])
  simp only [u2_ne _ _ _ h1, u2_ne _ _ _ h2, u2_ne _ _ _ h3]

set_option maxRecDepth 100000 in
set_option maxHeartbeats 8000000 in
theorem m_joins0_11 {n sl : Nat} {C Z : Nat → Nat} {I : Nat → Nat → Int32} {L : Nat → Nat → Int64} {R : Nat → Nat → Nat} {M f g : Nat} {Q : Option Value → Hp → Prop} (hM' : LayM C Z R) (hM12 : M ≤ 12) (hf : f < M) (hg : g < M) (e2 : I 74 0 = nI M) (k1 : ¬ I 75 f = 1) (k2 : ¬ I 75 g = 1) (k3 : I 77 f = I 77 g) (k4 : I 76 f = nI 1) (k5 : I 76 g = nI 1)
    (go : ∀ I4 ls, (∀ i, i ≠ 82 → i ≠ 83 → i ≠ 84 → I4 i = I i) → (I4 82 0 = I 79 (9 * f) ∧ I4 82 1 = 0 ∧ I4 82 3 = 0 ∧ I4 82 4 = I 79 (9 * g) ∧ (I4 83 0 = I 80 (3 * f) ∧ I4 84 0 = I 81 (3 * f)) ∧ (I4 83 1 = I 80 (3 * g) ∧ I4 84 1 = I 81 (3 * g))) → Call 115 [some (.ref 74), some (.int 2), some (.int (nI 2)), some (.int (I 77 g)), some (.int (I 78 f + I 78 g)), none, none, none, none] (n, sl, C, Z, I4, L, R) 116 429 ls [] Q) : Wp 116 0 [some (.ref 74), some (.int (nI f)), some (.int (nI g)), some (.int 0), none, none, none, none, none, none] [] (n, sl, C, Z, I, L, R) Q := by
  have hM := hM'
  unfold LayM at hM
  have n0 : nI 1 = 1 := rfl
  have n1 : nI 1 = 1 := rfl
  have n2 : nI 2 = 2 := rfl
  have j0 : ∀ j, j < M → inb (nI j) 12 = true := fun j hj => by rw [inb_nI (by omega)]; simp; omega
  have jx : ∀ j, j < M → ix (nI j) = j := fun j hj => ix_nI (by omega)
  have ia : ∀ j k, j < M → k < 9 → inb (nI (9 * j + k)) 108 = true ∧ ix (nI (9 * j + k)) = 9 * j + k := fun j k hj hk => ⟨by rw [inb_nI (by omega)]; simp; omega, ix_nI (by omega)⟩
  have ia0 : ∀ j, j < M → inb (nI (9 * j)) 108 = true ∧ ix (nI (9 * j)) = 9 * j := fun j hj => ia j 0 hj (by omega)
  have ib : ∀ j k, j < M → k < 3 → inb (nI (3 * j + k)) 36 = true ∧ ix (nI (3 * j + k)) = 3 * j + k := fun j k hj hk => ⟨by rw [inb_nI (by omega)]; simp; omega, ix_nI (by omega)⟩
  have ib0 : ∀ j, j < M → inb (nI (3 * j)) 36 = true ∧ ix (nI (3 * j)) = 3 * j := fun j hj => ib j 0 hj (by omega)
  simp [S116_0, S116_1, S116_2, S116_3, S116_4, S116_5, S116_6, S116_7, S116_8, S116_9, S116_10, S104_0, Call_in (k2 := 104), BS, ixs, inbs, hM, is_yesG hM' hM12 hf, is_yesG hM' hM12 hg, e2, k1, k2, k3, k4, k5, n0, n1, j0, jx, hf, hg, mul3, mul9, nIk, nI_sub3, ia, ia0, ib, ib0, u2_rd, Nat.add_assoc]
  simp only [n2] at go
  refine go _ _ (fun i h1 h2 h3 => ?_) (by simp [u2_rd, k3])
  simp only [u2_ne _ _ _ h1, u2_ne _ _ _ h2, u2_ne _ _ _ h3]

set_option maxRecDepth 100000 in
set_option maxHeartbeats 8000000 in
theorem m_joins0_12 {n sl : Nat} {C Z : Nat → Nat} {I : Nat → Nat → Int32} {L : Nat → Nat → Int64} {R : Nat → Nat → Nat} {M f g : Nat} {Q : Option Value → Hp → Prop} (hM' : LayM C Z R) (hM12 : M ≤ 12) (hf : f < M) (hg : g < M) (e2 : I 74 0 = nI M) (k1 : ¬ I 75 f = 1) (k2 : ¬ I 75 g = 1) (k3 : I 77 f = I 77 g) (k4 : I 76 f = nI 1) (k5 : I 76 g = nI 2)
    (go : ∀ I4 ls, (∀ i, i ≠ 82 → i ≠ 83 → i ≠ 84 → I4 i = I i) → (I4 82 0 = I 79 (9 * f) ∧ I4 82 1 = 0 ∧ I4 82 2 = 0 ∧ I4 82 3 = 0 ∧ I4 82 4 = I 79 (9 * g) ∧ I4 82 5 = I 79 (9 * g + 1) ∧ I4 82 6 = 0 ∧ I4 82 7 = I 79 (9 * g + 3) ∧ I4 82 8 = I 79 (9 * g + 4) ∧ (I4 83 0 = I 80 (3 * f) ∧ I4 84 0 = I 81 (3 * f)) ∧ (I4 83 1 = I 80 (3 * g) ∧ I4 84 1 = I 81 (3 * g)) ∧ (I4 83 2 = I 80 (3 * g + 1) ∧ I4 84 2 = I 81 (3 * g + 1))) → Call 115 [some (.ref 74), some (.int 2), some (.int (nI 3)), some (.int (I 77 g)), some (.int (I 78 f + I 78 g)), none, none, none, none] (n, sl, C, Z, I4, L, R) 116 429 ls [] Q) : Wp 116 0 [some (.ref 74), some (.int (nI f)), some (.int (nI g)), some (.int 0), none, none, none, none, none, none] [] (n, sl, C, Z, I, L, R) Q := by
  have hM := hM'
  unfold LayM at hM
  have n0 : nI 1 = 1 := rfl
  have n1 : nI 2 = 2 := rfl
  have n2 : nI 3 = 3 := rfl
  have j0 : ∀ j, j < M → inb (nI j) 12 = true := fun j hj => by rw [inb_nI (by omega)]; simp; omega
  have jx : ∀ j, j < M → ix (nI j) = j := fun j hj => ix_nI (by omega)
  have ia : ∀ j k, j < M → k < 9 → inb (nI (9 * j + k)) 108 = true ∧ ix (nI (9 * j + k)) = 9 * j + k := fun j k hj hk => ⟨by rw [inb_nI (by omega)]; simp; omega, ix_nI (by omega)⟩
  have ia0 : ∀ j, j < M → inb (nI (9 * j)) 108 = true ∧ ix (nI (9 * j)) = 9 * j := fun j hj => ia j 0 hj (by omega)
  have ib : ∀ j k, j < M → k < 3 → inb (nI (3 * j + k)) 36 = true ∧ ix (nI (3 * j + k)) = 3 * j + k := fun j k hj hk => ⟨by rw [inb_nI (by omega)]; simp; omega, ix_nI (by omega)⟩
  have ib0 : ∀ j, j < M → inb (nI (3 * j)) 36 = true ∧ ix (nI (3 * j)) = 3 * j := fun j hj => ib j 0 hj (by omega)
  simp [S116_0, S116_1, S116_2, S116_3, S116_4, S116_5, S116_6, S116_7, S116_8, S116_9, S116_10, S104_0, Call_in (k2 := 104), BS, ixs, inbs, hM, is_yesG hM' hM12 hf, is_yesG hM' hM12 hg, e2, k1, k2, k3, k4, k5, n0, n1, j0, jx, hf, hg, mul3, mul9, nIk, nI_sub3, ia, ia0, ib, ib0, u2_rd, Nat.add_assoc]
  simp only [n2] at go
  refine go _ _ (fun i h1 h2 h3 => ?_) (by simp [u2_rd, k3])
  simp only [u2_ne _ _ _ h1, u2_ne _ _ _ h2, u2_ne _ _ _ h3]

set_option maxRecDepth 100000 in
set_option maxHeartbeats 8000000 in
theorem m_joins0_20 {n sl : Nat} {C Z : Nat → Nat} {I : Nat → Nat → Int32} {L : Nat → Nat → Int64} {R : Nat → Nat → Nat} {M f g : Nat} {Q : Option Value → Hp → Prop} (hM' : LayM C Z R) (hM12 : M ≤ 12) (hf : f < M) (hg : g < M) (e2 : I 74 0 = nI M) (k1 : ¬ I 75 f = 1) (k2 : ¬ I 75 g = 1) (k3 : I 77 f = I 77 g) (k4 : I 76 f = nI 2) (k5 : I 76 g = nI 0)
    (go : ∀ I4 ls, (∀ i, i ≠ 82 → i ≠ 83 → i ≠ 84 → I4 i = I i) → (I4 82 0 = I 79 (9 * f) ∧ I4 82 1 = I 79 (9 * f + 1) ∧ I4 82 3 = I 79 (9 * f + 3) ∧ I4 82 4 = I 79 (9 * f + 4) ∧ (I4 83 0 = I 80 (3 * f) ∧ I4 84 0 = I 81 (3 * f)) ∧ (I4 83 1 = I 80 (3 * f + 1) ∧ I4 84 1 = I 81 (3 * f + 1))) → Call 115 [some (.ref 74), some (.int 2), some (.int (nI 2)), some (.int (I 77 g)), some (.int (I 78 f + I 78 g)), none, none, none, none] (n, sl, C, Z, I4, L, R) 116 429 ls [] Q) : Wp 116 0 [some (.ref 74), some (.int (nI f)), some (.int (nI g)), some (.int 0), none, none, none, none, none, none] [] (n, sl, C, Z, I, L, R) Q := by
  have hM := hM'
  unfold LayM at hM
  have n0 : nI 2 = 2 := rfl
  have n1 : nI 0 = 0 := rfl
  have n2 : nI 2 = 2 := rfl
  have j0 : ∀ j, j < M → inb (nI j) 12 = true := fun j hj => by rw [inb_nI (by omega)]; simp; omega
  have jx : ∀ j, j < M → ix (nI j) = j := fun j hj => ix_nI (by omega)
  have ia : ∀ j k, j < M → k < 9 → inb (nI (9 * j + k)) 108 = true ∧ ix (nI (9 * j + k)) = 9 * j + k := fun j k hj hk => ⟨by rw [inb_nI (by omega)]; simp; omega, ix_nI (by omega)⟩
  have ia0 : ∀ j, j < M → inb (nI (9 * j)) 108 = true ∧ ix (nI (9 * j)) = 9 * j := fun j hj => ia j 0 hj (by omega)
  have ib : ∀ j k, j < M → k < 3 → inb (nI (3 * j + k)) 36 = true ∧ ix (nI (3 * j + k)) = 3 * j + k := fun j k hj hk => ⟨by rw [inb_nI (by omega)]; simp; omega, ix_nI (by omega)⟩
  have ib0 : ∀ j, j < M → inb (nI (3 * j)) 36 = true ∧ ix (nI (3 * j)) = 3 * j := fun j hj => ib j 0 hj (by omega)
  simp [S116_0, S116_1, S116_2, S116_3, S116_4, S116_5, S116_6, S116_7, S116_8, S116_9, S116_10, S104_0, Call_in (k2 := 104), BS, ixs, inbs, hM, is_yesG hM' hM12 hf, is_yesG hM' hM12 hg, e2, k1, k2, k3, k4, k5, n0, n1, j0, jx, hf, hg, mul3, mul9, nIk, nI_sub3, ia, ia0, ib, ib0, u2_rd, Nat.add_assoc]
  simp only [n2] at go
  refine go _ _ (fun i h1 h2 h3 => ?_) (by simp [u2_rd, k3])
  simp only [u2_ne _ _ _ h1, u2_ne _ _ _ h2, u2_ne _ _ _ h3]

set_option maxRecDepth 100000 in
set_option maxHeartbeats 8000000 in
theorem m_joins0_21 {n sl : Nat} {C Z : Nat → Nat} {I : Nat → Nat → Int32} {L : Nat → Nat → Int64} {R : Nat → Nat → Nat} {M f g : Nat} {Q : Option Value → Hp → Prop} (hM' : LayM C Z R) (hM12 : M ≤ 12) (hf : f < M) (hg : g < M) (e2 : I 74 0 = nI M) (k1 : ¬ I 75 f = 1) (k2 : ¬ I 75 g = 1) (k3 : I 77 f = I 77 g) (k4 : I 76 f = nI 2) (k5 : I 76 g = nI 1)
    (go : ∀ I4 ls, (∀ i, i ≠ 82 → i ≠ 83 → i ≠ 84 → I4 i = I i) → (I4 82 0 = I 79 (9 * f) ∧ I4 82 1 = I 79 (9 * f + 1) ∧ I4 82 2 = 0 ∧ I4 82 3 = I 79 (9 * f + 3) ∧ I4 82 4 = I 79 (9 * f + 4) ∧ I4 82 5 = 0 ∧ I4 82 6 = 0 ∧ I4 82 7 = 0 ∧ I4 82 8 = I 79 (9 * g) ∧ (I4 83 0 = I 80 (3 * f) ∧ I4 84 0 = I 81 (3 * f)) ∧ (I4 83 1 = I 80 (3 * f + 1) ∧ I4 84 1 = I 81 (3 * f + 1)) ∧ (I4 83 2 = I 80 (3 * g) ∧ I4 84 2 = I 81 (3 * g))) → Call 115 [some (.ref 74), some (.int 2), some (.int (nI 3)), some (.int (I 77 g)), some (.int (I 78 f + I 78 g)), none, none, none, none] (n, sl, C, Z, I4, L, R) 116 429 ls [] Q) : Wp 116 0 [some (.ref 74), some (.int (nI f)), some (.int (nI g)), some (.int 0), none, none, none, none, none, none] [] (n, sl, C, Z, I, L, R) Q := by
  have hM := hM'
  unfold LayM at hM
  have n0 : nI 2 = 2 := rfl
  have n1 : nI 1 = 1 := rfl
  have n2 : nI 3 = 3 := rfl
  have j0 : ∀ j, j < M → inb (nI j) 12 = true := fun j hj => by rw [inb_nI (by omega)]; simp; omega
  have jx : ∀ j, j < M → ix (nI j) = j := fun j hj => ix_nI (by omega)
  have ia : ∀ j k, j < M → k < 9 → inb (nI (9 * j + k)) 108 = true ∧ ix (nI (9 * j + k)) = 9 * j + k := fun j k hj hk => ⟨by rw [inb_nI (by omega)]; simp; omega, ix_nI (by omega)⟩
  have ia0 : ∀ j, j < M → inb (nI (9 * j)) 108 = true ∧ ix (nI (9 * j)) = 9 * j := fun j hj => ia j 0 hj (by omega)
  have ib : ∀ j k, j < M → k < 3 → inb (nI (3 * j + k)) 36 = true ∧ ix (nI (3 * j + k)) = 3 * j + k := fun j k hj hk => ⟨by rw [inb_nI (by omega)]; simp; omega, ix_nI (by omega)⟩
  have ib0 : ∀ j, j < M → inb (nI (3 * j)) 36 = true ∧ ix (nI (3 * j)) = 3 * j := fun j hj => ib j 0 hj (by omega)
  simp [S116_0, S116_1, S116_2, S116_3, S116_4, S116_5, S116_6, S116_7, S116_8, S116_9, S116_10, S104_0, Call_in (k2 := 104), BS, ixs, inbs, hM, is_yesG hM' hM12 hf, is_yesG hM' hM12 hg, e2, k1, k2, k3, k4, k5, n0, n1, j0, jx, hf, hg, mul3, mul9, nIk, nI_sub3, ia, ia0, ib, ib0, u2_rd, Nat.add_assoc]
  simp only [n2] at go
  refine go _ _ (fun i h1 h2 h3 => ?_) (by simp [u2_rd, k3])
  simp only [u2_ne _ _ _ h1, u2_ne _ _ _ h2, u2_ne _ _ _ h3]

set_option maxRecDepth 100000 in
set_option maxHeartbeats 8000000 in
theorem m_joins0_30 {n sl : Nat} {C Z : Nat → Nat} {I : Nat → Nat → Int32} {L : Nat → Nat → Int64} {R : Nat → Nat → Nat} {M f g : Nat} {Q : Option Value → Hp → Prop} (hM' : LayM C Z R) (hM12 : M ≤ 12) (hf : f < M) (hg : g < M) (e2 : I 74 0 = nI M) (k1 : ¬ I 75 f = 1) (k2 : ¬ I 75 g = 1) (k3 : I 77 f = I 77 g) (k4 : I 76 f = nI 3) (k5 : I 76 g = nI 0)
    (go : ∀ I4 ls, (∀ i, i ≠ 82 → i ≠ 83 → i ≠ 84 → I4 i = I i) → (I4 82 0 = I 79 (9 * f) ∧ I4 82 1 = I 79 (9 * f + 1) ∧ I4 82 2 = I 79 (9 * f + 2) ∧ I4 82 3 = I 79 (9 * f + 3) ∧ I4 82 4 = I 79 (9 * f + 4) ∧ I4 82 5 = I 79 (9 * f + 5) ∧ I4 82 6 = I 79 (9 * f + 6) ∧ I4 82 7 = I 79 (9 * f + 7) ∧ I4 82 8 = I 79 (9 * f + 8) ∧ (I4 83 0 = I 80 (3 * f) ∧ I4 84 0 = I 81 (3 * f)) ∧ (I4 83 1 = I 80 (3 * f + 1) ∧ I4 84 1 = I 81 (3 * f + 1)) ∧ (I4 83 2 = I 80 (3 * f + 2) ∧ I4 84 2 = I 81 (3 * f + 2))) → Call 115 [some (.ref 74), some (.int 2), some (.int (nI 3)), some (.int (I 77 g)), some (.int (I 78 f + I 78 g)), none, none, none, none] (n, sl, C, Z, I4, L, R) 116 429 ls [] Q) : Wp 116 0 [some (.ref 74), some (.int (nI f)), some (.int (nI g)), some (.int 0), none, none, none, none, none, none] [] (n, sl, C, Z, I, L, R) Q := by
  have hM := hM'
  unfold LayM at hM
  have n0 : nI 3 = 3 := rfl
  have n1 : nI 0 = 0 := rfl
  have n2 : nI 3 = 3 := rfl
  have j0 : ∀ j, j < M → inb (nI j) 12 = true := fun j hj => by rw [inb_nI (by omega)]; simp; omega
  have jx : ∀ j, j < M → ix (nI j) = j := fun j hj => ix_nI (by omega)
  have ia : ∀ j k, j < M → k < 9 → inb (nI (9 * j + k)) 108 = true ∧ ix (nI (9 * j + k)) = 9 * j + k := fun j k hj hk => ⟨by rw [inb_nI (by omega)]; simp; omega, ix_nI (by omega)⟩
  have ia0 : ∀ j, j < M → inb (nI (9 * j)) 108 = true ∧ ix (nI (9 * j)) = 9 * j := fun j hj => ia j 0 hj (by omega)
  have ib : ∀ j k, j < M → k < 3 → inb (nI (3 * j + k)) 36 = true ∧ ix (nI (3 * j + k)) = 3 * j + k := fun j k hj hk => ⟨by rw [inb_nI (by omega)]; simp; omega, ix_nI (by omega)⟩
  have ib0 : ∀ j, j < M → inb (nI (3 * j)) 36 = true ∧ ix (nI (3 * j)) = 3 * j := fun j hj => ib j 0 hj (by omega)
  simp [S116_0, S116_1, S116_2, S116_3, S116_4, S116_5, S116_6, S116_7, S116_8, S116_9, S116_10, S104_0, Call_in (k2 := 104), BS, ixs, inbs, hM, is_yesG hM' hM12 hf, is_yesG hM' hM12 hg, e2, k1, k2, k3, k4, k5, n0, n1, j0, jx, hf, hg, mul3, mul9, nIk, nI_sub3, ia, ia0, ib, ib0, u2_rd, Nat.add_assoc]
  simp only [n2] at go
  refine go _ _ (fun i h1 h2 h3 => ?_) (by simp [u2_rd, k3])
  simp only [u2_ne _ _ _ h1, u2_ne _ _ _ h2, u2_ne _ _ _ h3]

