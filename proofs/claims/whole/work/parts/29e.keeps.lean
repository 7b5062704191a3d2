theorem mkI_o {I : Nat → Nat → Int32} {M : Nat} {kd s u : Int32} {i : Nat} (h : i < 74 ∨ 81 < i) : mkI I M kd s u i = I i := by
  funext k
  simp only [mkI]
  rw [if_neg (by omega), if_neg (by omega), if_neg (by omega), if_neg (by omega), if_neg (by omega), if_neg (by omega), if_neg (by omega)]
/-- what keeps does to the reference's numbers -/
def Kp (I I' : Nat → Nat → Int32) (M s : Nat) (kd u dd : Int32) : Prop :=
  (∀ i, i < 74 ∨ 81 < i → I' i = I i) ∧ (I' 74 0 = nI (M + 1) ∧ I' 74 13 = I 74 13 ∧ I' 74 20 = I 74 20) ∧
  (∀ j, j < M → (I' 75 j = I 75 j ∧ I' 76 j = I 76 j ∧ I' 77 j = I 77 j ∧ I' 78 j = I 78 j) ∧ (∀ i, i < 9 → I' 79 (9 * j + i) = I 79 (9 * j + i)) ∧ ∀ i, i < 3 → I' 80 (3 * j + i) = I 80 (3 * j + i) ∧ I' 81 (3 * j + i) = I 81 (3 * j + i)) ∧
  (I' 75 M = kd ∧ I' 76 M = nI s ∧ I' 77 M = u ∧ I' 78 M = dd) ∧
  (∀ i k, i < 3 → k < 3 → I' 79 (9 * M + (3 * i + k)) = if i < s ∧ k < s then I 82 (3 * i + k) else 0) ∧ (∀ i, i < 3 → (I' 80 (3 * M + i) = if i < s then I 83 i else 0) ∧ (I' 81 (3 * M + i) = if i < s then I 84 i else 0))
theorem b01 {b : Int32} {P : Prop} (h : b = 0 ∨ b = 1) (hn : ¬ b = 1) : b = 0 := h.resolve_right hn
set_option maxRecDepth 100000 in
set_option maxHeartbeats 4000000 in
theorem keeps_in {n sl : Nat} {C Z : Nat → Nat} {I : Nat → Nat → Int32} {L : Nat → Nat → Int64} {R : Nat → Nat → Nat} {kd u dd : Int32} {s : Nat} {Q : Option Value → Hp → Prop} (hM : LayM C Z R) (hs : s ≤ 3) {i : Nat} (hi : i < s) : ∀ d j b, j + d = s → (b = 0 ∨ b = 1) → (∀ b', (b' = 0 ∨ b' = 1) → (b' = 1 ↔ b = 1 ∧ ∀ p, j ≤ p → p < s → fit (I 82 (3 * i + p))) → Br 115 122 33 [some (.ref 74), some (.int kd), some (.int (nI s)), some (.int u), some (.int dd), some (.int b'), some (.int (nI (i + 1))), some (.int (nI s)), none] [] (n, sl, C, Z, I, L, R) Q (nI s ≤ nI (i + 1))) → Br 115 116 80 [some (.ref 74), some (.int kd), some (.int (nI s)), some (.int u), some (.int dd), some (.int b), some (.int (nI i)), some (.int (nI j)), none] [] (n, sl, C, Z, I, L, R) Q (nI s ≤ nI j) := by
  unfold LayM at hM
  intro d
  induction d with
  | zero =>
    intro j b hj hb h
    have : j = s := by omega
    subst this
    have := h b hb ⟨fun e => ⟨e, fun p h1 h2 => absurd h1 (by omega)⟩, fun e => e.1⟩
    refine Br_of (fun _ => ?_) (fun h => absurd (nI_le (Nat.le_refl j) (by omega)) h)
    simp [S115_0, S115_1, S115_2, S115_3, S115_4, S115_5, S114_0, Call_in, BS, ixs, inbs, nIk]
    exact this
  | succ d ih =>
    intro j b hj hb h
    refine Br_of (fun h => absurd h (nI_ge (by omega) (by omega))) (fun _ => ?_)
    have h1 : inb (nI (3 * i + j)) 9 = true := by rw [inb_nI (by omega)]; simp; omega
    have h2 := ix_nI (show 3 * i + j < 2 ^ 31 by omega)
    rcases hb with rfl | rfl
    · have := ih (j + 1) 0 (by omega) (Or.inl rfl) (fun b' hb' e => h b' hb' (by rw [e]; exact ⟨fun q => absurd q.1 (by decide), fun q => absurd q.1 (by decide)⟩))
      simp [S115_0, S115_1, S115_2, S115_3, S115_4, S115_5, S114_0, Call_in, BS, ixs, inbs, hM, nIk, mul3, nI_add, h1, h2]
      exact this
    · by_cases hf : fit (I 82 (3 * i + j))
      · obtain ⟨f1, f2⟩ := id hf
        have := ih (j + 1) 1 (by omega) (Or.inr rfl) (fun b' hb' e => h b' hb' (by rw [e]; exact ⟨fun q => ⟨rfl, fun p h3 h4 => by
          by_cases e : p = j
          · rw [e]; exact hf
          · exact q.2 p (by omega) h4⟩, fun q => ⟨rfl, fun p h3 h4 => q.2 p (by omega) h4⟩⟩))
        have f3 : (-12 : Int32) ≤ I 82 (3 * i + j) := Int32.not_lt.mp f1
        have f4 : I 82 (3 * i + j) ≤ 12 := Int32.not_lt.mp f2
        simp [S115_0, S115_1, S115_2, S115_3, S115_4, S115_5, S114_0, Call_in, BS, ixs, inbs, hM, nIk, mul3, nI_add, h1, h2, f1, f2, f3, f4]
        exact this
      · have := ih (j + 1) 0 (by omega) (Or.inl rfl) (fun b' hb' e => h b' hb' (by rw [e]; exact ⟨fun q => absurd q.1 (by decide), fun q => absurd (q.2 j (by omega) (by omega)) hf⟩))
        by_cases f1 : I 82 (3 * i + j) < -12
        · simp [S115_0, S115_1, S115_2, S115_3, S115_4, S115_5, S114_0, Call_in, BS, ixs, inbs, hM, nIk, mul3, nI_add, h1, h2, f1]
          exact this
        · have f2 : (12 : Int32) < I 82 (3 * i + j) := Classical.byContradiction (fun f2 => hf ⟨f1, f2⟩)
          simp [S115_0, S115_1, S115_2, S115_3, S115_4, S115_5, S114_0, Call_in, BS, ixs, inbs, hM, nIk, mul3, nI_add, h1, h2, f1, f2]
          exact this

set_option maxRecDepth 100000 in
set_option maxHeartbeats 4000000 in
theorem keeps_out {n sl : Nat} {C Z : Nat → Nat} {I : Nat → Nat → Int32} {L : Nat → Nat → Int64} {R : Nat → Nat → Nat} {kd u dd : Int32} {s : Nat} {Q : Option Value → Hp → Prop} (hM : LayM C Z R) (hs : s ≤ 3) : ∀ d i b l7, i + d = s → (b = 0 ∨ b = 1) → (∀ b' l7', (b' = 0 ∨ b' = 1) → (b' = 1 ↔ b = 1 ∧ ∀ p, i ≤ p → p < s → fit (I 83 p) ∧ fit (I 84 p) ∧ ∀ k, k < s → fit (I 82 (3 * p + k))) → Wp 115 122 [some (.ref 74), some (.int kd), some (.int (nI s)), some (.int u), some (.int dd), some (.int b'), some (.int (nI s)), l7', none] [] (n, sl, C, Z, I, L, R) Q) → Br 115 122 33 [some (.ref 74), some (.int kd), some (.int (nI s)), some (.int u), some (.int dd), some (.int b), some (.int (nI i)), l7, none] [] (n, sl, C, Z, I, L, R) Q (nI s ≤ nI i) := by
  have hM' := hM
  unfold LayM at hM
  intro d
  induction d with
  | zero =>
    intro i b l7 hi hb h
    have : i = s := by omega
    subst this
    exact Br_of (fun _ => h b l7 hb ⟨fun e => ⟨e, fun p h1 h2 => absurd h1 (by omega)⟩, fun e => e.1⟩) (fun h => absurd (nI_le (Nat.le_refl i) (by omega)) h)
  | succ d ih =>
    intro i b l7 hi hb h
    refine Br_of (fun h => absurd h (nI_ge (by omega) (by omega))) (fun _ => ?_)
    have h1 : inb (nI i) 3 = true := by rw [inb_nI (by omega)]; simp; omega
    have h2 := ix_nI (show i < 2 ^ 31 by omega)
    have go : ∀ b1, (b1 = 0 ∨ b1 = 1) → (b1 = 1 ↔ b = 1 ∧ fit (I 83 i) ∧ fit (I 84 i)) → Br 115 116 80 [some (.ref 74), some (.int kd), some (.int (nI s)), some (.int u), some (.int dd), some (.int b1), some (.int (nI i)), some (.int (nI 0)), none] [] (n, sl, C, Z, I, L, R) Q (nI s ≤ nI 0) := fun b1 hb1 e1 => keeps_in hM' hs (show i < s by omega) s 0 b1 (by omega) hb1 (fun b' hb' e2 => ih (i + 1) b' _ (by omega) hb' (fun b3 l7' hb3 e3 => h b3 l7' hb3 (by
      rw [e3, e2, e1]
      constructor
      · intro q
        refine ⟨q.1.1.1, fun p h3 h4 => ?_⟩
        by_cases e : p = i
        · subst e
          exact ⟨q.1.1.2.1, q.1.1.2.2, fun k hk => q.1.2 k (by omega) hk⟩
        · exact q.2 p (by omega) h4
      · intro q
        exact ⟨⟨⟨q.1, (q.2 i (by omega) (by omega)).1, (q.2 i (by omega) (by omega)).2.1⟩, fun p _ h4 => (q.2 i (by omega) (by omega)).2.2 p h4⟩, fun p h3 h4 => q.2 p (by omega) h4⟩)))
    rw [nI_0] at go
    rcases hb with rfl | rfl
    · have := go 0 (Or.inl rfl) ⟨fun q => absurd q (by decide), fun q => absurd q.1 (by decide)⟩
      simp [S115_0, S115_1, S115_2, S115_3, S115_4, S115_5, S114_0, Call_in, BS, ixs, inbs, hM, nIk, h1, h2]
      exact this
    · by_cases hf : fit (I 83 i)
      · obtain ⟨f1, f2⟩ := id hf
        have f3 : (-12 : Int32) ≤ I 83 i := Int32.not_lt.mp f1
        have f4 : I 83 i ≤ 12 := Int32.not_lt.mp f2
        by_cases hg : fit (I 84 i)
        · obtain ⟨g1, g2⟩ := id hg
          have g3 : (-12 : Int32) ≤ I 84 i := Int32.not_lt.mp g1
          have g4 : I 84 i ≤ 12 := Int32.not_lt.mp g2
          have := go 1 (Or.inr rfl) ⟨fun _ => ⟨rfl, hf, hg⟩, fun _ => rfl⟩
          simp [S115_0, S115_1, S115_2, S115_3, S115_4, S115_5, S114_0, Call_in, BS, ixs, inbs, hM, nIk, h1, h2, f1, f2, f3, f4, g1, g2, g3, g4]
          exact this
        · have := go 0 (Or.inl rfl) ⟨fun q => absurd q (by decide), fun q => absurd q.2.2 hg⟩
          by_cases g1 : I 84 i < -12
          · simp [S115_0, S115_1, S115_2, S115_3, S115_4, S115_5, S114_0, Call_in, BS, ixs, inbs, hM, nIk, h1, h2, f1, f2, f3, f4, g1]
            exact this
          · have g2 : (12 : Int32) < I 84 i := Classical.byContradiction (fun g2 => hg ⟨g1, g2⟩)
            simp [S115_0, S115_1, S115_2, S115_3, S115_4, S115_5, S114_0, Call_in, BS, ixs, inbs, hM, nIk, h1, h2, f1, f2, f3, f4, g1, g2]
            exact this
      · have := go 0 (Or.inl rfl) ⟨fun q => absurd q (by decide), fun q => absurd q.2.1 hf⟩
        by_cases f1 : I 83 i < -12
        · simp [S115_0, S115_1, S115_2, S115_3, S115_4, S115_5, S114_0, Call_in, BS, ixs, inbs, hM, nIk, h1, h2, f1]
          exact this
        · have f2 : (12 : Int32) < I 83 i := Classical.byContradiction (fun f2 => hf ⟨f1, f2⟩)
          simp [S115_0, S115_1, S115_2, S115_3, S115_4, S115_5, S114_0, Call_in, BS, ixs, inbs, hM, nIk, h1, h2, f1, f2]
          exact this

