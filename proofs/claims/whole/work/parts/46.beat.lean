/-! the reference's pulses -/
def RM (C Z : Nat → Nat) (I : Nat → Nat → Int32) (R : Nat → Nat → Nat) (j s : Nat) (u : Int32) (A B K : Nat → Int) (d : Int) : Prop :=
  LayM C Z R ∧ j < 12 ∧ s ≤ 3 ∧ I 76 j = nI s ∧ I 77 j = u ∧ (∀ i, i < 9 → (I 79 (9 * j + i)).toInt64 = wL (A i)) ∧ (∀ i, i < 3 → (I 80 (3 * j + i)).toInt64 = wL (B i)) ∧ (∀ i, i < 3 → (I 81 (3 * j + i)).toInt64 = wL (K i)) ∧ (I 78 j).toInt64 = wL d ∧
  (∀ i k, i < 3 → k < 3 → (s ≤ i ∨ s ≤ k) → A (3 * i + k) = 0) ∧ (∀ i, i < 3 → s ≤ i → B i = 0 ∧ K i = 0)
set_option maxRecDepth 100000 in
set_option maxHeartbeats 4000000 in
theorem m_turns0 {n sl : Nat} {C Z : Nat → Nat} {I : Nat → Nat → Int32} {L : Nat → Nat → Int64} {R : Nat → Nat → Nat} {j : Nat} {u : Int32} {A B K : Nat → Int} {d : Int} (hr : RM C Z I R j 0 u A B K d) {v : Nat → Int} (hv : ∀ i, i < 0 → L 97 i = wL (v i)) {k pc : Nat} {ls : Lo} {st : List Value} {Q : Option Value → Hp → Prop} (go : ∀ L', (∀ c, c ≠ 97 → c ≠ 98 → L' c = L c) → (∀ i, i < 0 → L' 97 i = wL (mv A v i)) → Wp k pc ls st (n, sl, C, Z, I, L', R) Q) : Call 123 [some (.ref 74), some (.int (nI j)), none, none] (n, sl, C, Z, I, L, R) k pc ls st Q := by
  obtain ⟨hM, hj12, hs3, k76, k77, mA, mB, mK, mD, zA, zB⟩ := id hr
  unfold LayM at hM
  have j0 : inb (nI j) 12 = true := by rw [inb_nI (by omega)]; simp; omega
  have jx := ix_nI (show j < 2 ^ 31 by omega)
  have ia : ∀ k, k < 9 → inb (nI (9 * j + k)) 108 = true ∧ ix (nI (9 * j + k)) = 9 * j + k := fun k hk => ⟨by rw [inb_nI (by omega)]; simp; omega, ix_nI (by omega)⟩
  have ia0 : inb (nI (9 * j)) 108 = true ∧ ix (nI (9 * j)) = 9 * j := ia 0 (by omega)
  have ib : ∀ k, k < 3 → inb (nI (3 * j + k)) 36 = true ∧ ix (nI (3 * j + k)) = 3 * j + k := fun k hk => ⟨by rw [inb_nI (by omega)]; simp; omega, ix_nI (by omega)⟩
  have ib0 : inb (nI (3 * j)) 36 = true ∧ ix (nI (3 * j)) = 3 * j := ib 0 (by omega)
  have mA0 : (I 79 (9 * j)).toInt64 = wL (A 0) := mA 0 (by omega)
  have mB0 : (I 80 (3 * j)).toInt64 = wL (B 0) := mB 0 (by omega)
  have mK0 : (I 81 (3 * j)).toInt64 = wL (K 0) := mK 0 (by omega)
  have zA0 : A 0 = 0 := zA 0 0 (by omega) (by omega) (by omega)
  have zA1 : A 1 = 0 := zA 0 1 (by omega) (by omega) (by omega)
  have zA2 : A 2 = 0 := zA 0 2 (by omega) (by omega) (by omega)
  have zA3 : A 3 = 0 := zA 1 0 (by omega) (by omega) (by omega)
  have zA4 : A 4 = 0 := zA 1 1 (by omega) (by omega) (by omega)
  have zA5 : A 5 = 0 := zA 1 2 (by omega) (by omega) (by omega)
  have zA6 : A 6 = 0 := zA 2 0 (by omega) (by omega) (by omega)
  have zA7 : A 7 = 0 := zA 2 1 (by omega) (by omega) (by omega)
  have zA8 : A 8 = 0 := zA 2 2 (by omega) (by omega) (by omega)
  have zB0 : B 0 = 0 := (zB 0 (by omega) (by omega)).1
  have zB1 : B 1 = 0 := (zB 1 (by omega) (by omega)).1
  have zB2 : B 2 = 0 := (zB 2 (by omega) (by omega)).1
  have zK0 : K 0 = 0 := (zB 0 (by omega) (by omega)).2
  have zK1 : K 1 = 0 := (zB 1 (by omega) (by omega)).2
  have zK2 : K 2 = 0 := (zB 2 (by omega) (by omega)).2
  have n0 : nI 0 = 0 := rfl
  simp [S123_0, S123_1, S123_2, S104_0, Call_in (k2 := 123), Call_in (k2 := 104), BS, ixs, inbs, wL_mul, wL_add, wL_sub, wL_neg, hM, j0, jx, k76, k77, mA, mA0, mB, mB0, mK, mK0, mD, mul3, mul9, nIk, ia, ia0, ib, ib0, Nat.add_assoc, n0, hv, u2_rd]
  refine go _ (fun c h1 h2 => ?_) (fun i hi => ?_)
  · simp only [u2_ne _ _ _ h1, u2_ne _ _ _ h2]
  · first | (exact absurd hi (by omega)) | (rcases i3 (show i < 3 by omega) with rfl | rfl | rfl <;> first | (exact absurd hi (by omega)) | simp [u2_rd, mv, wL_mul, wL_add, zA0, zA1, zA2, zA3, zA4, zA5, zA6, zA7, zA8, zB0, zK0, zB1, zK1, zB2, zK2])

set_option maxRecDepth 100000 in
set_option maxHeartbeats 4000000 in
theorem m_turns1 {n sl : Nat} {C Z : Nat → Nat} {I : Nat → Nat → Int32} {L : Nat → Nat → Int64} {R : Nat → Nat → Nat} {j : Nat} {u : Int32} {A B K : Nat → Int} {d : Int} (hr : RM C Z I R j 1 u A B K d) {v : Nat → Int} (hv : ∀ i, i < 1 → L 97 i = wL (v i)) {k pc : Nat} {ls : Lo} {st : List Value} {Q : Option Value → Hp → Prop} (go : ∀ L', (∀ c, c ≠ 97 → c ≠ 98 → L' c = L c) → (∀ i, i < 1 → L' 97 i = wL (mv A v i)) → Wp k pc ls st (n, sl, C, Z, I, L', R) Q) : Call 123 [some (.ref 74), some (.int (nI j)), none, none] (n, sl, C, Z, I, L, R) k pc ls st Q := by
  obtain ⟨hM, hj12, hs3, k76, k77, mA, mB, mK, mD, zA, zB⟩ := id hr
  unfold LayM at hM
  have j0 : inb (nI j) 12 = true := by rw [inb_nI (by omega)]; simp; omega
  have jx := ix_nI (show j < 2 ^ 31 by omega)
  have ia : ∀ k, k < 9 → inb (nI (9 * j + k)) 108 = true ∧ ix (nI (9 * j + k)) = 9 * j + k := fun k hk => ⟨by rw [inb_nI (by omega)]; simp; omega, ix_nI (by omega)⟩
  have ia0 : inb (nI (9 * j)) 108 = true ∧ ix (nI (9 * j)) = 9 * j := ia 0 (by omega)
  have ib : ∀ k, k < 3 → inb (nI (3 * j + k)) 36 = true ∧ ix (nI (3 * j + k)) = 3 * j + k := fun k hk => ⟨by rw [inb_nI (by omega)]; simp; omega, ix_nI (by omega)⟩
  have ib0 : inb (nI (3 * j)) 36 = true ∧ ix (nI (3 * j)) = 3 * j := ib 0 (by omega)
  have mA0 : (I 79 (9 * j)).toInt64 = wL (A 0) := mA 0 (by omega)
  have mB0 : (I 80 (3 * j)).toInt64 = wL (B 0) := mB 0 (by omega)
  have mK0 : (I 81 (3 * j)).toInt64 = wL (K 0) := mK 0 (by omega)
  have zA1 : A 1 = 0 := zA 0 1 (by omega) (by omega) (by omega)
  have zA2 : A 2 = 0 := zA 0 2 (by omega) (by omega) (by omega)
  have zA3 : A 3 = 0 := zA 1 0 (by omega) (by omega) (by omega)
  have zA4 : A 4 = 0 := zA 1 1 (by omega) (by omega) (by omega)
  have zA5 : A 5 = 0 := zA 1 2 (by omega) (by omega) (by omega)
  have zA6 : A 6 = 0 := zA 2 0 (by omega) (by omega) (by omega)
  have zA7 : A 7 = 0 := zA 2 1 (by omega) (by omega) (by omega)
  have zA8 : A 8 = 0 := zA 2 2 (by omega) (by omega) (by omega)
  have zB1 : B 1 = 0 := (zB 1 (by omega) (by omega)).1
  have zB2 : B 2 = 0 := (zB 2 (by omega) (by omega)).1
  have zK1 : K 1 = 0 := (zB 1 (by omega) (by omega)).2
  have zK2 : K 2 = 0 := (zB 2 (by omega) (by omega)).2
  have n0 : nI 1 = 1 := rfl
  simp [S123_0, S123_1, S123_2, S104_0, Call_in (k2 := 123), Call_in (k2 := 104), BS, ixs, inbs, wL_mul, wL_add, wL_sub, wL_neg, hM, j0, jx, k76, k77, mA, mA0, mB, mB0, mK, mK0, mD, mul3, mul9, nIk, ia, ia0, ib, ib0, Nat.add_assoc, n0, hv, u2_rd]
  refine go _ (fun c h1 h2 => ?_) (fun i hi => ?_)
  · simp only [u2_ne _ _ _ h1, u2_ne _ _ _ h2]
  · first | (exact absurd hi (by omega)) | (rcases i3 (show i < 3 by omega) with rfl | rfl | rfl <;> first | (exact absurd hi (by omega)) | simp [u2_rd, mv, wL_mul, wL_add, zA1, zA2, zA3, zA4, zA5, zA6, zA7, zA8, zB1, zK1, zB2, zK2])

set_option maxRecDepth 100000 in
set_option maxHeartbeats 4000000 in
theorem m_turns2 {n sl : Nat} {C Z : Nat → Nat} {I : Nat → Nat → Int32} {L : Nat → Nat → Int64} {R : Nat → Nat → Nat} {j : Nat} {u : Int32} {A B K : Nat → Int} {d : Int} (hr : RM C Z I R j 2 u A B K d) {v : Nat → Int} (hv : ∀ i, i < 2 → L 97 i = wL (v i)) {k pc : Nat} {ls : Lo} {st : List Value} {Q : Option Value → Hp → Prop} (go : ∀ L', (∀ c, c ≠ 97 → c ≠ 98 → L' c = L c) → (∀ i, i < 2 → L' 97 i = wL (mv A v i)) → Wp k pc ls st (n, sl, C, Z, I, L', R) Q) : Call 123 [some (.ref 74), some (.int (nI j)), none, none] (n, sl, C, Z, I, L, R) k pc ls st Q := by
  obtain ⟨hM, hj12, hs3, k76, k77, mA, mB, mK, mD, zA, zB⟩ := id hr
  unfold LayM at hM
  have j0 : inb (nI j) 12 = true := by rw [inb_nI (by omega)]; simp; omega
  have jx := ix_nI (show j < 2 ^ 31 by omega)
  have ia : ∀ k, k < 9 → inb (nI (9 * j + k)) 108 = true ∧ ix (nI (9 * j + k)) = 9 * j + k := fun k hk => ⟨by rw [inb_nI (by omega)]; simp; omega, ix_nI (by omega)⟩
  have ia0 : inb (nI (9 * j)) 108 = true ∧ ix (nI (9 * j)) = 9 * j := ia 0 (by omega)
  have ib : ∀ k, k < 3 → inb (nI (3 * j + k)) 36 = true ∧ ix (nI (3 * j + k)) = 3 * j + k := fun k hk => ⟨by rw [inb_nI (by omega)]; simp; omega, ix_nI (by omega)⟩
  have ib0 : inb (nI (3 * j)) 36 = true ∧ ix (nI (3 * j)) = 3 * j := ib 0 (by omega)
  have mA0 : (I 79 (9 * j)).toInt64 = wL (A 0) := mA 0 (by omega)
  have mB0 : (I 80 (3 * j)).toInt64 = wL (B 0) := mB 0 (by omega)
  have mK0 : (I 81 (3 * j)).toInt64 = wL (K 0) := mK 0 (by omega)
  have zA2 : A 2 = 0 := zA 0 2 (by omega) (by omega) (by omega)
  have zA5 : A 5 = 0 := zA 1 2 (by omega) (by omega) (by omega)
  have zA6 : A 6 = 0 := zA 2 0 (by omega) (by omega) (by omega)
  have zA7 : A 7 = 0 := zA 2 1 (by omega) (by omega) (by omega)
  have zA8 : A 8 = 0 := zA 2 2 (by omega) (by omega) (by omega)
  have zB2 : B 2 = 0 := (zB 2 (by omega) (by omega)).1
  have zK2 : K 2 = 0 := (zB 2 (by omega) (by omega)).2
  have n0 : nI 2 = 2 := rfl
  simp [S123_0, S123_1, S123_2, S104_0, Call_in (k2 := 123), Call_in (k2 := 104), BS, ixs, inbs, wL_mul, wL_add, wL_sub, wL_neg, hM, j0, jx, k76, k77, mA, mA0, mB, mB0, mK, mK0, mD, mul3, mul9, nIk, ia, ia0, ib, ib0, Nat.add_assoc, n0, hv, u2_rd]
  refine go _ (fun c h1 h2 => ?_) (fun i hi => ?_)
  · simp only [u2_ne _ _ _ h1, u2_ne _ _ _ h2]
  · first | (exact absurd hi (by omega)) | (rcases i3 (show i < 3 by omega) with rfl | rfl | rfl <;> first | (exact absurd hi (by omega)) | simp [u2_rd, mv, wL_mul, wL_add, zA2, zA5, zA6, zA7, zA8, zB2, zK2])

set_option maxRecDepth 100000 in
set_option maxHeartbeats 4000000 in
theorem m_turns3 {n sl : Nat} {C Z : Nat → Nat} {I : Nat → Nat → Int32} {L : Nat → Nat → Int64} {R : Nat → Nat → Nat} {j : Nat} {u : Int32} {A B K : Nat → Int} {d : Int} (hr : RM C Z I R j 3 u A B K d) {v : Nat → Int} (hv : ∀ i, i < 3 → L 97 i = wL (v i)) {k pc : Nat} {ls : Lo} {st : List Value} {Q : Option Value → Hp → Prop} (go : ∀ L', (∀ c, c ≠ 97 → c ≠ 98 → L' c = L c) → (∀ i, i < 3 → L' 97 i = wL (mv A v i)) → Wp k pc ls st (n, sl, C, Z, I, L', R) Q) : Call 123 [some (.ref 74), some (.int (nI j)), none, none] (n, sl, C, Z, I, L, R) k pc ls st Q := by
  obtain ⟨hM, hj12, hs3, k76, k77, mA, mB, mK, mD, zA, zB⟩ := id hr
  unfold LayM at hM
  have j0 : inb (nI j) 12 = true := by rw [inb_nI (by omega)]; simp; omega
  have jx := ix_nI (show j < 2 ^ 31 by omega)
  have ia : ∀ k, k < 9 → inb (nI (9 * j + k)) 108 = true ∧ ix (nI (9 * j + k)) = 9 * j + k := fun k hk => ⟨by rw [inb_nI (by omega)]; simp; omega, ix_nI (by omega)⟩
  have ia0 : inb (nI (9 * j)) 108 = true ∧ ix (nI (9 * j)) = 9 * j := ia 0 (by omega)
  have ib : ∀ k, k < 3 → inb (nI (3 * j + k)) 36 = true ∧ ix (nI (3 * j + k)) = 3 * j + k := fun k hk => ⟨by rw [inb_nI (by omega)]; simp; omega, ix_nI (by omega)⟩
  have ib0 : inb (nI (3 * j)) 36 = true ∧ ix (nI (3 * j)) = 3 * j := ib 0 (by omega)
  have mA0 : (I 79 (9 * j)).toInt64 = wL (A 0) := mA 0 (by omega)
  have mB0 : (I 80 (3 * j)).toInt64 = wL (B 0) := mB 0 (by omega)
  have mK0 : (I 81 (3 * j)).toInt64 = wL (K 0) := mK 0 (by omega)
  have n0 : nI 3 = 3 := rfl
  simp [S123_0, S123_1, S123_2, S104_0, Call_in (k2 := 123), Call_in (k2 := 104), BS, ixs, inbs, wL_mul, wL_add, wL_sub, wL_neg, hM, j0, jx, k76, k77, mA, mA0, mB, mB0, mK, mK0, mD, mul3, mul9, nIk, ia, ia0, ib, ib0, Nat.add_assoc, n0, hv, u2_rd]
  refine go _ (fun c h1 h2 => ?_) (fun i hi => ?_)
  · simp only [u2_ne _ _ _ h1, u2_ne _ _ _ h2]
  · first | (exact absurd hi (by omega)) | (rcases i3 (show i < 3 by omega) with rfl | rfl | rfl <;> first | (exact absurd hi (by omega)) | simp [u2_rd, mv, wL_mul, wL_add])

theorem m_turns {n sl : Nat} {C Z : Nat → Nat} {I : Nat → Nat → Int32} {L : Nat → Nat → Int64} {R : Nat → Nat → Nat} {j s : Nat} {u : Int32} {A B K : Nat → Int} {d : Int} (hr : RM C Z I R j s u A B K d) {v : Nat → Int} (hv : ∀ i, i < s → L 97 i = wL (v i)) {k pc : Nat} {ls : Lo} {st : List Value} {Q : Option Value → Hp → Prop} (go : ∀ L', (∀ c, c ≠ 97 → c ≠ 98 → L' c = L c) → (∀ i, i < s → L' 97 i = wL (mv A v i)) → Wp k pc ls st (n, sl, C, Z, I, L', R) Q) : Call 123 [some (.ref 74), some (.int (nI j)), none, none] (n, sl, C, Z, I, L, R) k pc ls st Q := by
  have hs := hr.2.2.1
  rcases (by omega : s = 0 ∨ s = 1 ∨ s = 2 ∨ s = 3) with rfl | rfl | rfl | rfl
  · exact m_turns0 hr hv go
  · exact m_turns1 hr hv go
  · exact m_turns2 hr hv go
  · exact m_turns3 hr hv go
set_option maxRecDepth 100000 in
set_option maxHeartbeats 4000000 in
theorem beat_lp {n sl : Nat} {C Z : Nat → Nat} {I : Nat → Nat → Int32} {L : Nat → Nat → Int64} {R : Nat → Nat → Nat} {j s : Nat} {u : Int32} {A B K : Nat → Int} {d : Int} (hr : RM C Z I R j s u A B K d) {e : Nat} (he : e < 1000) {Q : Option Value → Hp → Prop} (fin : ∀ L', (∀ c, c ≠ 97 → c ≠ 98 → L' c = L c) → (∀ i, i < s → L' 97 i = wL (pw A B e i)) → Wp 122 53 [some (.ref 74), some (.int (nI j)), some (.int (nI e)), some (.int (nI e)), none, none] [] (n, sl, C, Z, I, L', R) Q) : ∀ t' t L1, t + t' = e → (∀ c, c ≠ 97 → c ≠ 98 → L1 c = L c) → (∀ i, i < s → L1 97 i = wL (pw A B t i)) → Br 122 53 42 [some (.ref 74), some (.int (nI j)), some (.int (nI e)), some (.int (nI t)), none, none] [] (n, sl, C, Z, I, L1, R) Q (nI e ≤ nI t) := by
  intro t'
  induction t' with
  | zero =>
    intro t L1 ht h1 h2
    have : t = e := by omega
    subst this
    exact Br_of (fun _ => fin L1 h1 h2) (fun h => absurd (nI_le (Nat.le_refl _) (by omega)) h)
  | succ t' ih =>
    intro t L1 ht h1 h2
    refine Br_of (fun h => absurd h (nI_ge (by omega) (by omega))) (fun _ => ?_)
    have c74 : C 74 = 11 := hr.1.1
    have nx : Call 123 [some (.ref 74), some (.int (nI j)), none, none] (n, sl, C, Z, I, L1, R) 122 47 [some (.ref 74), some (.int (nI j)), some (.int (nI e)), some (.int (nI t)), none, none] [] Q := m_turns hr (v := pw A B t) h2 (fun L2 f1 f2 => by
      have := ih (t + 1) L2 (by omega) (fun c a b => (f1 c a b).trans (h1 c a b)) f2
      simp [S122_0, S122_1, S122_2, BS, ixs, inbs, nIk]
      exact this)
    simp [S122_0, S122_1, S122_2, BS, ixs, inbs, c74]
    exact nx

set_option maxRecDepth 100000 in
set_option maxHeartbeats 4000000 in
theorem m_beat0 {n sl : Nat} {C Z : Nat → Nat} {I : Nat → Nat → Int32} {L : Nat → Nat → Int64} {R : Nat → Nat → Nat} {j : Nat} {u : Int32} {A B K : Nat → Int} {d : Int} (hr : RM C Z I R j 0 u A B K d) {e : Nat} (he : e < 1000) {k pc : Nat} {ls : Lo} {st : List Value} {Q : Option Value → Hp → Prop} (go : ∀ L', (∀ c, c ≠ 97 → c ≠ 98 → L' c = L c) → Wp k pc ls (.long (wL (pl A B K e)) :: st) (n, sl, C, Z, I, L', R) Q) : Call 122 [some (.ref 74), some (.int (nI j)), some (.int (nI e)), none, none, none] (n, sl, C, Z, I, L, R) k pc ls st Q := by
  obtain ⟨hM, hj12, hs3, k76, k77, mA, mB, mK, mD, zA, zB⟩ := id hr
  unfold LayM at hM
  have j0 : inb (nI j) 12 = true := by rw [inb_nI (by omega)]; simp; omega
  have jx := ix_nI (show j < 2 ^ 31 by omega)
  have ia : ∀ k, k < 9 → inb (nI (9 * j + k)) 108 = true ∧ ix (nI (9 * j + k)) = 9 * j + k := fun k hk => ⟨by rw [inb_nI (by omega)]; simp; omega, ix_nI (by omega)⟩
  have ia0 : inb (nI (9 * j)) 108 = true ∧ ix (nI (9 * j)) = 9 * j := ia 0 (by omega)
  have ib : ∀ k, k < 3 → inb (nI (3 * j + k)) 36 = true ∧ ix (nI (3 * j + k)) = 3 * j + k := fun k hk => ⟨by rw [inb_nI (by omega)]; simp; omega, ix_nI (by omega)⟩
  have ib0 : inb (nI (3 * j)) 36 = true ∧ ix (nI (3 * j)) = 3 * j := ib 0 (by omega)
  have mA0 : (I 79 (9 * j)).toInt64 = wL (A 0) := mA 0 (by omega)
  have mB0 : (I 80 (3 * j)).toInt64 = wL (B 0) := mB 0 (by omega)
  have mK0 : (I 81 (3 * j)).toInt64 = wL (K 0) := mK 0 (by omega)
  have zA0 : A 0 = 0 := zA 0 0 (by omega) (by omega) (by omega)
  have zA1 : A 1 = 0 := zA 0 1 (by omega) (by omega) (by omega)
  have zA2 : A 2 = 0 := zA 0 2 (by omega) (by omega) (by omega)
  have zA3 : A 3 = 0 := zA 1 0 (by omega) (by omega) (by omega)
  have zA4 : A 4 = 0 := zA 1 1 (by omega) (by omega) (by omega)
  have zA5 : A 5 = 0 := zA 1 2 (by omega) (by omega) (by omega)
  have zA6 : A 6 = 0 := zA 2 0 (by omega) (by omega) (by omega)
  have zA7 : A 7 = 0 := zA 2 1 (by omega) (by omega) (by omega)
  have zA8 : A 8 = 0 := zA 2 2 (by omega) (by omega) (by omega)
  have zB0 : B 0 = 0 := (zB 0 (by omega) (by omega)).1
  have zB1 : B 1 = 0 := (zB 1 (by omega) (by omega)).1
  have zB2 : B 2 = 0 := (zB 2 (by omega) (by omega)).1
  have zK0 : K 0 = 0 := (zB 0 (by omega) (by omega)).2
  have zK1 : K 1 = 0 := (zB 1 (by omega) (by omega)).2
  have zK2 : K 2 = 0 := (zB 2 (by omega) (by omega)).2
  have n0 : nI 0 = 0 := rfl
  have lp := beat_lp (n := n) (sl := sl) (L := L) hr he (Q := fun r h1 => Wp k pc ls (r.toList ++ st) h1 Q) (fun L' f1 f2 => by
    have := go L' f1
    simp [pl, zA0, zA1, zA2, zA3, zA4, zA5, zA6, zA7, zA8, zB0, zK0, zB1, zK1, zB2, zK2] at this
    simp [S122_0, S122_1, S122_2, BS, ixs, inbs, wL_mul, wL_add, wL_sub, wL_neg, hM, j0, jx, k76, k77, mA, mA0, mB, mB0, mK, mK0, mD, mul3, mul9, nIk, ia, ia0, ib, ib0, Nat.add_assoc, n0, f2, wL_0]
    first | exact this | simpa [wL_0] using this)
  have lp0 := fun L1 h1 h2 => lp e 0 L1 (by omega) h1 h2
  rw [nI_0] at lp0
  simp [S122_0, S122_1, S122_2, Call_in (k2 := 122), BS, ixs, inbs, wL_mul, wL_add, wL_sub, wL_neg, hM, j0, jx, k76, k77, mA, mA0, mB, mB0, mK, mK0, mD, mul3, mul9, nIk, ia, ia0, ib, ib0, Nat.add_assoc, n0, u2_rd]
  refine lp0 _ (fun c h1 h2 => ?_) (fun i hi => ?_)
  · simp only [u2_ne _ _ _ h1, u2_ne _ _ _ h2]
  · first | (exact absurd hi (by omega)) | (rcases i3 (show i < 3 by omega) with rfl | rfl | rfl <;> first | (exact absurd hi (by omega)) | simp [u2_rd, pw_0])

set_option maxRecDepth 100000 in
set_option maxHeartbeats 4000000 in
theorem m_beat1 {n sl : Nat} {C Z : Nat → Nat} {I : Nat → Nat → Int32} {L : Nat → Nat → Int64} {R : Nat → Nat → Nat} {j : Nat} {u : Int32} {A B K : Nat → Int} {d : Int} (hr : RM C Z I R j 1 u A B K d) {e : Nat} (he : e < 1000) {k pc : Nat} {ls : Lo} {st : List Value} {Q : Option Value → Hp → Prop} (go : ∀ L', (∀ c, c ≠ 97 → c ≠ 98 → L' c = L c) → Wp k pc ls (.long (wL (pl A B K e)) :: st) (n, sl, C, Z, I, L', R) Q) : Call 122 [some (.ref 74), some (.int (nI j)), some (.int (nI e)), none, none, none] (n, sl, C, Z, I, L, R) k pc ls st Q := by
  obtain ⟨hM, hj12, hs3, k76, k77, mA, mB, mK, mD, zA, zB⟩ := id hr
  unfold LayM at hM
  have j0 : inb (nI j) 12 = true := by rw [inb_nI (by omega)]; simp; omega
  have jx := ix_nI (show j < 2 ^ 31 by omega)
  have ia : ∀ k, k < 9 → inb (nI (9 * j + k)) 108 = true ∧ ix (nI (9 * j + k)) = 9 * j + k := fun k hk => ⟨by rw [inb_nI (by omega)]; simp; omega, ix_nI (by omega)⟩
  have ia0 : inb (nI (9 * j)) 108 = true ∧ ix (nI (9 * j)) = 9 * j := ia 0 (by omega)
  have ib : ∀ k, k < 3 → inb (nI (3 * j + k)) 36 = true ∧ ix (nI (3 * j + k)) = 3 * j + k := fun k hk => ⟨by rw [inb_nI (by omega)]; simp; omega, ix_nI (by omega)⟩
  have ib0 : inb (nI (3 * j)) 36 = true ∧ ix (nI (3 * j)) = 3 * j := ib 0 (by omega)
  have mA0 : (I 79 (9 * j)).toInt64 = wL (A 0) := mA 0 (by omega)
  have mB0 : (I 80 (3 * j)).toInt64 = wL (B 0) := mB 0 (by omega)
  have mK0 : (I 81 (3 * j)).toInt64 = wL (K 0) := mK 0 (by omega)
  have zA1 : A 1 = 0 := zA 0 1 (by omega) (by omega) (by omega)
  have zA2 : A 2 = 0 := zA 0 2 (by omega) (by omega) (by omega)
  have zA3 : A 3 = 0 := zA 1 0 (by omega) (by omega) (by omega)
  have zA4 : A 4 = 0 := zA 1 1 (by omega) (by omega) (by omega)
  have zA5 : A 5 = 0 := zA 1 2 (by omega) (by omega) (by omega)
  have zA6 : A 6 = 0 := zA 2 0 (by omega) (by omega) (by omega)
  have zA7 : A 7 = 0 := zA 2 1 (by omega) (by omega) (by omega)
  have zA8 : A 8 = 0 := zA 2 2 (by omega) (by omega) (by omega)
  have zB1 : B 1 = 0 := (zB 1 (by omega) (by omega)).1
  have zB2 : B 2 = 0 := (zB 2 (by omega) (by omega)).1
  have zK1 : K 1 = 0 := (zB 1 (by omega) (by omega)).2
  have zK2 : K 2 = 0 := (zB 2 (by omega) (by omega)).2
  have n0 : nI 1 = 1 := rfl
  have lp := beat_lp (n := n) (sl := sl) (L := L) hr he (Q := fun r h1 => Wp k pc ls (r.toList ++ st) h1 Q) (fun L' f1 f2 => by
    have := go L' f1
    simp [pl, zA1, zA2, zA3, zA4, zA5, zA6, zA7, zA8, zB1, zK1, zB2, zK2] at this
    simp [S122_0, S122_1, S122_2, BS, ixs, inbs, wL_mul, wL_add, wL_sub, wL_neg, hM, j0, jx, k76, k77, mA, mA0, mB, mB0, mK, mK0, mD, mul3, mul9, nIk, ia, ia0, ib, ib0, Nat.add_assoc, n0, f2, wL_0]
    first | exact this | simpa [wL_0] using this)
  have lp0 := fun L1 h1 h2 => lp e 0 L1 (by omega) h1 h2
  rw [nI_0] at lp0
  simp [S122_0, S122_1, S122_2, Call_in (k2 := 122), BS, ixs, inbs, wL_mul, wL_add, wL_sub, wL_neg, hM, j0, jx, k76, k77, mA, mA0, mB, mB0, mK, mK0, mD, mul3, mul9, nIk, ia, ia0, ib, ib0, Nat.add_assoc, n0, u2_rd]
  refine lp0 _ (fun c h1 h2 => ?_) (fun i hi => ?_)
  · simp only [u2_ne _ _ _ h1, u2_ne _ _ _ h2]
  · first | (exact absurd hi (by omega)) | (rcases i3 (show i < 3 by omega) with rfl | rfl | rfl <;> first | (exact absurd hi (by omega)) | simp [u2_rd, pw_0])

set_option maxRecDepth 100000 in
set_option maxHeartbeats 4000000 in
theorem m_beat2 {n sl : Nat} {C Z : Nat → Nat} {I : Nat → Nat → Int32} {L : Nat → Nat → Int64} {R : Nat → Nat → Nat} {j : Nat} {u : Int32} {A B K : Nat → Int} {d : Int} (hr : RM C Z I R j 2 u A B K d) {e : Nat} (he : e < 1000) {k pc : Nat} {ls : Lo} {st : List Value} {Q : Option Value → Hp → Prop} (go : ∀ L', (∀ c, c ≠ 97 → c ≠ 98 → L' c = L c) → Wp k pc ls (.long (wL (pl A B K e)) :: st) (n, sl, C, Z, I, L', R) Q) : Call 122 [some (.ref 74), some (.int (nI j)), some (.int (nI e)), none, none, none] (n, sl, C, Z, I, L, R) k pc ls st Q := by
  obtain ⟨hM, hj12, hs3, k76, k77, mA, mB, mK, mD, zA, zB⟩ := id hr
  unfold LayM at hM
  have j0 : inb (nI j) 12 = true := by rw [inb_nI (by omega)]; simp; omega
  have jx := ix_nI (show j < 2 ^ 31 by omega)
  have ia : ∀ k, k < 9 → inb (nI (9 * j + k)) 108 = true ∧ ix (nI (9 * j + k)) = 9 * j + k := fun k hk => ⟨by rw [inb_nI (by omega)]; simp; omega, ix_nI (by omega)⟩
  have ia0 : inb (nI (9 * j)) 108 = true ∧ ix (nI (9 * j)) = 9 * j := ia 0 (by omega)
  have ib : ∀ k, k < 3 → inb (nI (3 * j + k)) 36 = true ∧ ix (nI (3 * j + k)) = 3 * j + k := fun k hk => ⟨by rw [inb_nI (by omega)]; simp; omega, ix_nI (by omega)⟩
  have ib0 : inb (nI (3 * j)) 36 = true ∧ ix (nI (3 * j)) = 3 * j := ib 0 (by omega)
  have mA0 : (I 79 (9 * j)).toInt64 = wL (A 0) := mA 0 (by omega)
  have mB0 : (I 80 (3 * j)).toInt64 = wL (B 0) := mB 0 (by omega)
  have mK0 : (I 81 (3 * j)).toInt64 = wL (K 0) := mK 0 (by omega)
  have zA2 : A 2 = 0 := zA 0 2 (by omega) (by omega) (by omega)
  have zA5 : A 5 = 0 := zA 1 2 (by omega) (by omega) (by omega)
  have zA6 : A 6 = 0 := zA 2 0 (by omega) (by omega) (by omega)
  have zA7 : A 7 = 0 := zA 2 1 (by omega) (by omega) (by omega)
  have zA8 : A 8 = 0 := zA 2 2 (by omega) (by omega) (by omega)
  have zB2 : B 2 = 0 := (zB 2 (by omega) (by omega)).1
  have zK2 : K 2 = 0 := (zB 2 (by omega) (by omega)).2
  have n0 : nI 2 = 2 := rfl
  have lp := beat_lp (n := n) (sl := sl) (L := L) hr he (Q := fun r h1 => Wp k pc ls (r.toList ++ st) h1 Q) (fun L' f1 f2 => by
    have := go L' f1
    simp [pl, zA2, zA5, zA6, zA7, zA8, zB2, zK2] at this
    simp [S122_0, S122_1, S122_2, BS, ixs, inbs, wL_mul, wL_add, wL_sub, wL_neg, hM, j0, jx, k76, k77, mA, mA0, mB, mB0, mK, mK0, mD, mul3, mul9, nIk, ia, ia0, ib, ib0, Nat.add_assoc, n0, f2, wL_0]
    first | exact this | simpa [wL_0] using this)
  have lp0 := fun L1 h1 h2 => lp e 0 L1 (by omega) h1 h2
  rw [nI_0] at lp0
  simp [S122_0, S122_1, S122_2, Call_in (k2 := 122), BS, ixs, inbs, wL_mul, wL_add, wL_sub, wL_neg, hM, j0, jx, k76, k77, mA, mA0, mB, mB0, mK, mK0, mD, mul3, mul9, nIk, ia, ia0, ib, ib0, Nat.add_assoc, n0, u2_rd]
  refine lp0 _ (fun c h1 h2 => ?_) (fun i hi => ?_)
  · simp only [u2_ne _ _ _ h1, u2_ne _ _ _ h2]
  · first | (exact absurd hi (by omega)) | (rcases i3 (show i < 3 by omega) with rfl | rfl | rfl <;> first | (exact absurd hi (by omega)) | simp [u2_rd, pw_0])

set_option maxRecDepth 100000 in
set_option maxHeartbeats 4000000 in
theorem m_beat3 {n sl : Nat} {C Z : Nat → Nat} {I : Nat → Nat → Int32} {L : Nat → Nat → Int64} {R : Nat → Nat → Nat} {j : Nat} {u : Int32} {A B K : Nat → Int} {d : Int} (hr : RM C Z I R j 3 u A B K d) {e : Nat} (he : e < 1000) {k pc : Nat} {ls : Lo} {st : List Value} {Q : Option Value → Hp → Prop} (go : ∀ L', (∀ c, c ≠ 97 → c ≠ 98 → L' c = L c) → Wp k pc ls (.long (wL (pl A B K e)) :: st) (n, sl, C, Z, I, L', R) Q) : Call 122 [some (.ref 74), some (.int (nI j)), some (.int (nI e)), none, none, none] (n, sl, C, Z, I, L, R) k pc ls st Q := by
  obtain ⟨hM, hj12, hs3, k76, k77, mA, mB, mK, mD, zA, zB⟩ := id hr
  unfold LayM at hM
  have j0 : inb (nI j) 12 = true := by rw [inb_nI (by omega)]; simp; omega
  have jx := ix_nI (show j < 2 ^ 31 by omega)
  have ia : ∀ k, k < 9 → inb (nI (9 * j + k)) 108 = true ∧ ix (nI (9 * j + k)) = 9 * j + k := fun k hk => ⟨by rw [inb_nI (by omega)]; simp; omega, ix_nI (by omega)⟩
  have ia0 : inb (nI (9 * j)) 108 = true ∧ ix (nI (9 * j)) = 9 * j := ia 0 (by omega)
  have ib : ∀ k, k < 3 → inb (nI (3 * j + k)) 36 = true ∧ ix (nI (3 * j + k)) = 3 * j + k := fun k hk => ⟨by rw [inb_nI (by omega)]; simp; omega, ix_nI (by omega)⟩
  have ib0 : inb (nI (3 * j)) 36 = true ∧ ix (nI (3 * j)) = 3 * j := ib 0 (by omega)
  have mA0 : (I 79 (9 * j)).toInt64 = wL (A 0) := mA 0 (by omega)
  have mB0 : (I 80 (3 * j)).toInt64 = wL (B 0) := mB 0 (by omega)
  have mK0 : (I 81 (3 * j)).toInt64 = wL (K 0) := mK 0 (by omega)
  have n0 : nI 3 = 3 := rfl
  have lp := beat_lp (n := n) (sl := sl) (L := L) hr he (Q := fun r h1 => Wp k pc ls (r.toList ++ st) h1 Q) (fun L' f1 f2 => by
    have := go L' f1
    simp [pl] at this
    simp [S122_0, S122_1, S122_2, BS, ixs, inbs, wL_mul, wL_add, wL_sub, wL_neg, hM, j0, jx, k76, k77, mA, mA0, mB, mB0, mK, mK0, mD, mul3, mul9, nIk, ia, ia0, ib, ib0, Nat.add_assoc, n0, f2, wL_0]
    first | exact this | simpa [wL_0] using this)
  have lp0 := fun L1 h1 h2 => lp e 0 L1 (by omega) h1 h2
  rw [nI_0] at lp0
  simp [S122_0, S122_1, S122_2, Call_in (k2 := 122), BS, ixs, inbs, wL_mul, wL_add, wL_sub, wL_neg, hM, j0, jx, k76, k77, mA, mA0, mB, mB0, mK, mK0, mD, mul3, mul9, nIk, ia, ia0, ib, ib0, Nat.add_assoc, n0, u2_rd]
  refine lp0 _ (fun c h1 h2 => ?_) (fun i hi => ?_)
  · simp only [u2_ne _ _ _ h1, u2_ne _ _ _ h2]
  · first | (exact absurd hi (by omega)) | (rcases i3 (show i < 3 by omega) with rfl | rfl | rfl <;> first | (exact absurd hi (by omega)) | simp [u2_rd, pw_0])

/-- beat -/
theorem m_beat {n sl : Nat} {C Z : Nat → Nat} {I : Nat → Nat → Int32} {L : Nat → Nat → Int64} {R : Nat → Nat → Nat} {j s : Nat} {u : Int32} {A B K : Nat → Int} {d : Int} (hr : RM C Z I R j s u A B K d) {e : Nat} (he : e < 1000) {k pc : Nat} {ls : Lo} {st : List Value} {Q : Option Value → Hp → Prop} (go : ∀ L', (∀ c, c ≠ 97 → c ≠ 98 → L' c = L c) → Wp k pc ls (.long (wL (pl A B K e)) :: st) (n, sl, C, Z, I, L', R) Q) : Call 122 [some (.ref 74), some (.int (nI j)), some (.int (nI e)), none, none, none] (n, sl, C, Z, I, L, R) k pc ls st Q := by
  have hs := hr.2.2.1
  rcases (by omega : s = 0 ∨ s = 1 ∨ s = 2 ∨ s = 3) with rfl | rfl | rfl | rfl
  · exact m_beat0 hr he go
  · exact m_beat1 hr he go
  · exact m_beat2 hr he go
  · exact m_beat3 hr he go
