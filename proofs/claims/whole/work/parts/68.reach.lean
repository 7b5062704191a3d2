set_option maxRecDepth 100000 in
set_option maxHeartbeats 8000000 in
theorem m_reach_0 {n sl : Nat} {C Z : Nat → Nat} {I : Nat → Nat → Int32} {L : Nat → Nat → Int64} {R : Nat → Nat → Nat} {j : Nat} {u : Int32} {A B K : Nat → Int} {d : Int} {many : Nat} (hr : RM C Z I R j 0 u A B K d) (hm : many ≤ 3) {k pc : Nat} {ls : Lo} {st : List Value} {Q : Option Value → Hp → Prop} (go : ∀ L', (∀ c, c ≠ 95 → c ≠ 97 → c ≠ 98 → L' c = L c) → (∀ x c, x < many → c < 3 → L' 95 (3 * x + c) = wL (pw A B x c)) → Wp k pc ls st (n, sl, C, Z, I, L', R) Q) : Call 129 [some (.ref 74), some (.int (nI j)), some (.int (nI many)), none, none] (n, sl, C, Z, I, L, R) k pc ls st Q := by
  obtain ⟨hM, hj12, hs3, k76, k77, mA, mB, mK, mD, zA, zB⟩ := id hr
  have hM' := hM
  unfold LayM at hM
  have j0 : inb (nI j) 12 = true := by rw [inb_nI (by omega)]; simp; omega
  have jx := ix_nI (show j < 2 ^ 31 by omega)
  have ib : ∀ k, k < 3 → inb (nI (3 * j + k)) 36 = true ∧ ix (nI (3 * j + k)) = 3 * j + k := fun k hk => ⟨by rw [inb_nI (by omega)]; simp; omega, ix_nI (by omega)⟩
  have ib0 : inb (nI (3 * j)) 36 = true ∧ ix (nI (3 * j)) = 3 * j := ib 0 (by omega)
  have mB0 : (I 80 (3 * j)).toInt64 = wL (B 0) := mB 0 (by omega)
  have mK0 : (I 81 (3 * j)).toInt64 = wL (K 0) := mK 0 (by omega)
  have n0 : nI 0 = 0 := rfl
  have zp := pw_zero zA (fun i hi hs => (zB i hi hs).1)
  have lp : ∀ e t L l4, t + e = many → (∀ i, i < 0 → L 97 i = wL (pw A B t i)) → (∀ x c, x < t → c < 3 → L 95 (3 * x + c) = wL (pw A B x c)) → (∀ L', (∀ c, c ≠ 95 → c ≠ 97 → c ≠ 98 → L' c = L c) → (∀ x c, x < many → c < 3 → L' 95 (3 * x + c) = wL (pw A B x c)) → Wp k pc ls st (n, sl, C, Z, I, L', R) Q) → Br 129 101 42 [some (.ref 74), some (.int (nI j)), some (.int (nI many)), some (.int (nI t)), l4] [] (n, sl, C, Z, I, L, R) (fun r h1 => Wp k pc ls (r.toList ++ st) h1 Q) (nI many ≤ nI t) := by
    intro e
    induction e with
    | zero =>
      intro t L l4 ht hv hx go
      have e1 : t = many := by omega
      have c1 : nI many ≤ nI t := nI_le (by omega) (by omega)
      have := go L (fun _ _ _ _ => rfl) (fun x c h1 h2 => hx x c (by omega) h2)
      simp [S129_0, S129_1, S129_2, BS, c1]
      exact this
    | succ e ih =>
      intro t L l4 ht hv hx go
      have c1 : ¬ nI many ≤ nI t := nI_ge (by omega) (by omega)
      have it : ∀ c, c < 3 → inb (nI (3 * t + c)) 12 = true ∧ ix (nI (3 * t + c)) = 3 * t + c := fun c hc => ⟨by rw [inb_nI (by omega)]; simp; omega, ix_nI (by omega)⟩
      have it0 : inb (nI (3 * t)) 12 = true ∧ ix (nI (3 * t)) = 3 * t := it 0 (by omega)
      simp [S129_0, S129_1, S129_2, BS, ixs, inbs, c1, hM, j0, jx, k76, n0, mul3, nIk, it, it0]
      refine m_turns hr (v := pw A B t) (fun i hi => ?_) (fun L2 f2 v2 => ?_)
      · repeat (first | rw [u2_ne _ _ _ (by omega)])
        exact hv i hi
      · have nx := ih (t + 1) L2 (some (.int 3)) (by omega) v2 (fun x c hx2 hc => ?_) (fun L' g1 g2 => go L' (fun c h1 h2 h3 => by
          rw [g1 c h1 h2 h3, f2 c h2 h3]
          repeat (first | rw [u2_ne _ _ _ h1])) g2)
        · simp [S129_0, S129_1, S129_2, BS, nIk]
          exact nx
        · rw [f2 95 (by omega) (by omega)]
          by_cases e1 : x = t
          · subst e1
            have z1 := zp x
            rcases i3 hc with rfl | rfl | rfl <;> simp [u2_rd, hv, z1, wL_0]
          · have := hx x c (by omega) hc
            have q1 : ¬ 3 * x + c = 3 * t := by omega
            have q2 : ¬ 3 * x + c = 3 * t + 1 := by omega
            have q3 : ¬ 3 * x + c = 3 * t + 2 := by omega
            simp [u2_rd, q1, q2, q3, this]
  have start := lp many 0 L none (by omega) (fun i hi => ?_) (fun x c h1 h2 => absurd h1 (by omega)) (fun L' g1 g2 => go L' (fun c h1 h2 h3 => by
    rw [g1 c h1 h2 h3]
    repeat (first | rw [u2_ne _ _ _ h2])) g2)
  · rw [nI_0] at start
    have gen : ∀ x0 x3 : Int32, Wp 129 36 [some (.ref 74), some (.int (nI j)), some (.int (nI many)), some (.int x3), none] [.int x0] (n, sl, C, Z, I, L, R) (fun r h1 => Wp k pc ls (r.toList ++ st) h1 Q) ↔ Br 129 101 42 [some (.ref 74), some (.int (nI j)), some (.int (nI many)), some (.int x0), none] [] (n, sl, C, Z, I, L, R) (fun r h1 => Wp k pc ls (r.toList ++ st) h1 Q) (nI many ≤ x0) := fun x0 x3 => by simp [S129_0, S129_1, S129_2, BS]
    have gg := (gen 0 0).mpr start
    simp [S129_0, S129_1, S129_2, Call_in (k2 := 129), BS, ixs, inbs, hM, j0, jx, k76, n0, mul3, nIk, ib, ib0, mB, mB0, ↓gg]
  · exact absurd hi (by omega)
set_option maxRecDepth 100000 in
set_option maxHeartbeats 8000000 in
theorem m_reach_1 {n sl : Nat} {C Z : Nat → Nat} {I : Nat → Nat → Int32} {L : Nat → Nat → Int64} {R : Nat → Nat → Nat} {j : Nat} {u : Int32} {A B K : Nat → Int} {d : Int} {many : Nat} (hr : RM C Z I R j 1 u A B K d) (hm : many ≤ 3) {k pc : Nat} {ls : Lo} {st : List Value} {Q : Option Value → Hp → Prop} (go : ∀ L', (∀ c, c ≠ 95 → c ≠ 97 → c ≠ 98 → L' c = L c) → (∀ x c, x < many → c < 3 → L' 95 (3 * x + c) = wL (pw A B x c)) → Wp k pc ls st (n, sl, C, Z, I, L', R) Q) : Call 129 [some (.ref 74), some (.int (nI j)), some (.int (nI many)), none, none] (n, sl, C, Z, I, L, R) k pc ls st Q := by
  obtain ⟨hM, hj12, hs3, k76, k77, mA, mB, mK, mD, zA, zB⟩ := id hr
  have hM' := hM
  unfold LayM at hM
  have j0 : inb (nI j) 12 = true := by rw [inb_nI (by omega)]; simp; omega
  have jx := ix_nI (show j < 2 ^ 31 by omega)
  have ib : ∀ k, k < 3 → inb (nI (3 * j + k)) 36 = true ∧ ix (nI (3 * j + k)) = 3 * j + k := fun k hk => ⟨by rw [inb_nI (by omega)]; simp; omega, ix_nI (by omega)⟩
  have ib0 : inb (nI (3 * j)) 36 = true ∧ ix (nI (3 * j)) = 3 * j := ib 0 (by omega)
  have mB0 : (I 80 (3 * j)).toInt64 = wL (B 0) := mB 0 (by omega)
  have mK0 : (I 81 (3 * j)).toInt64 = wL (K 0) := mK 0 (by omega)
  have n0 : nI 1 = 1 := rfl
  have zp := pw_zero zA (fun i hi hs => (zB i hi hs).1)
  have lp : ∀ e t L l4, t + e = many → (∀ i, i < 1 → L 97 i = wL (pw A B t i)) → (∀ x c, x < t → c < 3 → L 95 (3 * x + c) = wL (pw A B x c)) → (∀ L', (∀ c, c ≠ 95 → c ≠ 97 → c ≠ 98 → L' c = L c) → (∀ x c, x < many → c < 3 → L' 95 (3 * x + c) = wL (pw A B x c)) → Wp k pc ls st (n, sl, C, Z, I, L', R) Q) → Br 129 101 42 [some (.ref 74), some (.int (nI j)), some (.int (nI many)), some (.int (nI t)), l4] [] (n, sl, C, Z, I, L, R) (fun r h1 => Wp k pc ls (r.toList ++ st) h1 Q) (nI many ≤ nI t) := by
    intro e
    induction e with
    | zero =>
      intro t L l4 ht hv hx go
      have e1 : t = many := by omega
      have c1 : nI many ≤ nI t := nI_le (by omega) (by omega)
      have := go L (fun _ _ _ _ => rfl) (fun x c h1 h2 => hx x c (by omega) h2)
      simp [S129_0, S129_1, S129_2, BS, c1]
      exact this
    | succ e ih =>
      intro t L l4 ht hv hx go
      have c1 : ¬ nI many ≤ nI t := nI_ge (by omega) (by omega)
      have it : ∀ c, c < 3 → inb (nI (3 * t + c)) 12 = true ∧ ix (nI (3 * t + c)) = 3 * t + c := fun c hc => ⟨by rw [inb_nI (by omega)]; simp; omega, ix_nI (by omega)⟩
      have it0 : inb (nI (3 * t)) 12 = true ∧ ix (nI (3 * t)) = 3 * t := it 0 (by omega)
      simp [S129_0, S129_1, S129_2, BS, ixs, inbs, c1, hM, j0, jx, k76, n0, mul3, nIk, it, it0]
      refine m_turns hr (v := pw A B t) (fun i hi => ?_) (fun L2 f2 v2 => ?_)
      · repeat (first | rw [u2_ne _ _ _ (by omega)])
        exact hv i hi
      · have nx := ih (t + 1) L2 (some (.int 3)) (by omega) v2 (fun x c hx2 hc => ?_) (fun L' g1 g2 => go L' (fun c h1 h2 h3 => by
          rw [g1 c h1 h2 h3, f2 c h2 h3]
          repeat (first | rw [u2_ne _ _ _ h1])) g2)
        · simp [S129_0, S129_1, S129_2, BS, nIk]
          exact nx
        · rw [f2 95 (by omega) (by omega)]
          by_cases e1 : x = t
          · subst e1
            have z1 := zp x
            rcases i3 hc with rfl | rfl | rfl <;> simp [u2_rd, hv, z1, wL_0]
          · have := hx x c (by omega) hc
            have q1 : ¬ 3 * x + c = 3 * t := by omega
            have q2 : ¬ 3 * x + c = 3 * t + 1 := by omega
            have q3 : ¬ 3 * x + c = 3 * t + 2 := by omega
            simp [u2_rd, q1, q2, q3, this]
  have start := lp many 0 (u2 L 97 0 (wL (B 0))) none (by omega) (fun i hi => ?_) (fun x c h1 h2 => absurd h1 (by omega)) (fun L' g1 g2 => go L' (fun c h1 h2 h3 => by
    rw [g1 c h1 h2 h3]
    repeat (first | rw [u2_ne _ _ _ h2])) g2)
  · rw [nI_0] at start
    have gen : ∀ x0 x3 : Int32, Wp 129 36 [some (.ref 74), some (.int (nI j)), some (.int (nI many)), some (.int x3), none] [.int x0] (n, sl, C, Z, I, (u2 L 97 0 (wL (B 0))), R) (fun r h1 => Wp k pc ls (r.toList ++ st) h1 Q) ↔ Br 129 101 42 [some (.ref 74), some (.int (nI j)), some (.int (nI many)), some (.int x0), none] [] (n, sl, C, Z, I, (u2 L 97 0 (wL (B 0))), R) (fun r h1 => Wp k pc ls (r.toList ++ st) h1 Q) (nI many ≤ x0) := fun x0 x3 => by simp [S129_0, S129_1, S129_2, BS]
    have gg := (gen 0 1).mpr start
    simp [S129_0, S129_1, S129_2, Call_in (k2 := 129), BS, ixs, inbs, hM, j0, jx, k76, n0, mul3, nIk, ib, ib0, mB, mB0, ↓gg]
  · rcases (by omega : i = 0) with rfl <;> simp [u2_rd, pw]
set_option maxRecDepth 100000 in
set_option maxHeartbeats 8000000 in
theorem m_reach_2 {n sl : Nat} {C Z : Nat → Nat} {I : Nat → Nat → Int32} {L : Nat → Nat → Int64} {R : Nat → Nat → Nat} {j : Nat} {u : Int32} {A B K : Nat → Int} {d : Int} {many : Nat} (hr : RM C Z I R j 2 u A B K d) (hm : many ≤ 3) {k pc : Nat} {ls : Lo} {st : List Value} {Q : Option Value → Hp → Prop} (go : ∀ L', (∀ c, c ≠ 95 → c ≠ 97 → c ≠ 98 → L' c = L c) → (∀ x c, x < many → c < 3 → L' 95 (3 * x + c) = wL (pw A B x c)) → Wp k pc ls st (n, sl, C, Z, I, L', R) Q) : Call 129 [some (.ref 74), some (.int (nI j)), some (.int (nI many)), none, none] (n, sl, C, Z, I, L, R) k pc ls st Q := by
  obtain ⟨hM, hj12, hs3, k76, k77, mA, mB, mK, mD, zA, zB⟩ := id hr
  have hM' := hM
  unfold LayM at hM
  have j0 : inb (nI j) 12 = true := by rw [inb_nI (by omega)]; simp; omega
  have jx := ix_nI (show j < 2 ^ 31 by omega)
  have ib : ∀ k, k < 3 → inb (nI (3 * j + k)) 36 = true ∧ ix (nI (3 * j + k)) = 3 * j + k := fun k hk => ⟨by rw [inb_nI (by omega)]; simp; omega, ix_nI (by omega)⟩
  have ib0 : inb (nI (3 * j)) 36 = true ∧ ix (nI (3 * j)) = 3 * j := ib 0 (by omega)
  have mB0 : (I 80 (3 * j)).toInt64 = wL (B 0) := mB 0 (by omega)
  have mK0 : (I 81 (3 * j)).toInt64 = wL (K 0) := mK 0 (by omega)
  have n0 : nI 2 = 2 := rfl
  have zp := pw_zero zA (fun i hi hs => (zB i hi hs).1)
  have lp : ∀ e t L l4, t + e = many → (∀ i, i < 2 → L 97 i = wL (pw A B t i)) → (∀ x c, x < t → c < 3 → L 95 (3 * x + c) = wL (pw A B x c)) → (∀ L', (∀ c, c ≠ 95 → c ≠ 97 → c ≠ 98 → L' c = L c) → (∀ x c, x < many → c < 3 → L' 95 (3 * x + c) = wL (pw A B x c)) → Wp k pc ls st (n, sl, C, Z, I, L', R) Q) → Br 129 101 42 [some (.ref 74), some (.int (nI j)), some (.int (nI many)), some (.int (nI t)), l4] [] (n, sl, C, Z, I, L, R) (fun r h1 => Wp k pc ls (r.toList ++ st) h1 Q) (nI many ≤ nI t) := by
    intro e
    induction e with
    | zero =>
      intro t L l4 ht hv hx go
      have e1 : t = many := by omega
      have c1 : nI many ≤ nI t := nI_le (by omega) (by omega)
      have := go L (fun _ _ _ _ => rfl) (fun x c h1 h2 => hx x c (by omega) h2)
      simp [S129_0, S129_1, S129_2, BS, c1]
      exact this
    | succ e ih =>
      intro t L l4 ht hv hx go
      have c1 : ¬ nI many ≤ nI t := nI_ge (by omega) (by omega)
      have it : ∀ c, c < 3 → inb (nI (3 * t + c)) 12 = true ∧ ix (nI (3 * t + c)) = 3 * t + c := fun c hc => ⟨by rw [inb_nI (by omega)]; simp; omega, ix_nI (by omega)⟩
      have it0 : inb (nI (3 * t)) 12 = true ∧ ix (nI (3 * t)) = 3 * t := it 0 (by omega)
      simp [S129_0, S129_1, S129_2, BS, ixs, inbs, c1, hM, j0, jx, k76, n0, mul3, nIk, it, it0]
      refine m_turns hr (v := pw A B t) (fun i hi => ?_) (fun L2 f2 v2 => ?_)
      · repeat (first | rw [u2_ne _ _ _ (by omega)])
        exact hv i hi
      · have nx := ih (t + 1) L2 (some (.int 3)) (by omega) v2 (fun x c hx2 hc => ?_) (fun L' g1 g2 => go L' (fun c h1 h2 h3 => by
          rw [g1 c h1 h2 h3, f2 c h2 h3]
          repeat (first | rw [u2_ne _ _ _ h1])) g2)
        · simp [S129_0, S129_1, S129_2, BS, nIk]
          exact nx
        · rw [f2 95 (by omega) (by omega)]
          by_cases e1 : x = t
          · subst e1
            have z1 := zp x
            rcases i3 hc with rfl | rfl | rfl <;> simp [u2_rd, hv, z1, wL_0]
          · have := hx x c (by omega) hc
            have q1 : ¬ 3 * x + c = 3 * t := by omega
            have q2 : ¬ 3 * x + c = 3 * t + 1 := by omega
            have q3 : ¬ 3 * x + c = 3 * t + 2 := by omega
            simp [u2_rd, q1, q2, q3, this]
  have start := lp many 0 (u2 (u2 L 97 0 (wL (B 0))) 97 1 (wL (B 1))) none (by omega) (fun i hi => ?_) (fun x c h1 h2 => absurd h1 (by omega)) (fun L' g1 g2 => go L' (fun c h1 h2 h3 => by
    rw [g1 c h1 h2 h3]
    repeat (first | rw [u2_ne _ _ _ h2])) g2)
  · rw [nI_0] at start
    have gen : ∀ x0 x3 : Int32, Wp 129 36 [some (.ref 74), some (.int (nI j)), some (.int (nI many)), some (.int x3), none] [.int x0] (n, sl, C, Z, I, (u2 (u2 L 97 0 (wL (B 0))) 97 1 (wL (B 1))), R) (fun r h1 => Wp k pc ls (r.toList ++ st) h1 Q) ↔ Br 129 101 42 [some (.ref 74), some (.int (nI j)), some (.int (nI many)), some (.int x0), none] [] (n, sl, C, Z, I, (u2 (u2 L 97 0 (wL (B 0))) 97 1 (wL (B 1))), R) (fun r h1 => Wp k pc ls (r.toList ++ st) h1 Q) (nI many ≤ x0) := fun x0 x3 => by simp [S129_0, S129_1, S129_2, BS]
    have gg := (gen 0 2).mpr start
    simp [S129_0, S129_1, S129_2, Call_in (k2 := 129), BS, ixs, inbs, hM, j0, jx, k76, n0, mul3, nIk, ib, ib0, mB, mB0, ↓gg]
  · rcases (by omega : i = 0 ∨ i = 1) with rfl | rfl <;> simp [u2_rd, pw]
set_option maxRecDepth 100000 in
set_option maxHeartbeats 8000000 in
theorem m_reach_3 {n sl : Nat} {C Z : Nat → Nat} {I : Nat → Nat → Int32} {L : Nat → Nat → Int64} {R : Nat → Nat → Nat} {j : Nat} {u : Int32} {A B K : Nat → Int} {d : Int} {many : Nat} (hr : RM C Z I R j 3 u A B K d) (hm : many ≤ 3) {k pc : Nat} {ls : Lo} {st : List Value} {Q : Option Value → Hp → Prop} (go : ∀ L', (∀ c, c ≠ 95 → c ≠ 97 → c ≠ 98 → L' c = L c) → (∀ x c, x < many → c < 3 → L' 95 (3 * x + c) = wL (pw A B x c)) → Wp k pc ls st (n, sl, C, Z, I, L', R) Q) : Call 129 [some (.ref 74), some (.int (nI j)), some (.int (nI many)), none, none] (n, sl, C, Z, I, L, R) k pc ls st Q := by
  obtain ⟨hM, hj12, hs3, k76, k77, mA, mB, mK, mD, zA, zB⟩ := id hr
  have hM' := hM
  unfold LayM at hM
  have j0 : inb (nI j) 12 = true := by rw [inb_nI (by omega)]; simp; omega
  have jx := ix_nI (show j < 2 ^ 31 by omega)
  have ib : ∀ k, k < 3 → inb (nI (3 * j + k)) 36 = true ∧ ix (nI (3 * j + k)) = 3 * j + k := fun k hk => ⟨by rw [inb_nI (by omega)]; simp; omega, ix_nI (by omega)⟩
  have ib0 : inb (nI (3 * j)) 36 = true ∧ ix (nI (3 * j)) = 3 * j := ib 0 (by omega)
  have mB0 : (I 80 (3 * j)).toInt64 = wL (B 0) := mB 0 (by omega)
  have mK0 : (I 81 (3 * j)).toInt64 = wL (K 0) := mK 0 (by omega)
  have n0 : nI 3 = 3 := rfl
  have zp := pw_zero zA (fun i hi hs => (zB i hi hs).1)
  have lp : ∀ e t L l4, t + e = many → (∀ i, i < 3 → L 97 i = wL (pw A B t i)) → (∀ x c, x < t → c < 3 → L 95 (3 * x + c) = wL (pw A B x c)) → (∀ L', (∀ c, c ≠ 95 → c ≠ 97 → c ≠ 98 → L' c = L c) → (∀ x c, x < many → c < 3 → L' 95 (3 * x + c) = wL (pw A B x c)) → Wp k pc ls st (n, sl, C, Z, I, L', R) Q) → Br 129 101 42 [some (.ref 74), some (.int (nI j)), some (.int (nI many)), some (.int (nI t)), l4] [] (n, sl, C, Z, I, L, R) (fun r h1 => Wp k pc ls (r.toList ++ st) h1 Q) (nI many ≤ nI t) := by
    intro e
    induction e with
    | zero =>
      intro t L l4 ht hv hx go
      have e1 : t = many := by omega
      have c1 : nI many ≤ nI t := nI_le (by omega) (by omega)
      have := go L (fun _ _ _ _ => rfl) (fun x c h1 h2 => hx x c (by omega) h2)
      simp [S129_0, S129_1, S129_2, BS, c1]
      exact this
    | succ e ih =>
      intro t L l4 ht hv hx go
      have c1 : ¬ nI many ≤ nI t := nI_ge (by omega) (by omega)
      have it : ∀ c, c < 3 → inb (nI (3 * t + c)) 12 = true ∧ ix (nI (3 * t + c)) = 3 * t + c := fun c hc => ⟨by rw [inb_nI (by omega)]; simp; omega, ix_nI (by omega)⟩
      have it0 : inb (nI (3 * t)) 12 = true ∧ ix (nI (3 * t)) = 3 * t := it 0 (by omega)
      simp [S129_0, S129_1, S129_2, BS, ixs, inbs, c1, hM, j0, jx, k76, n0, mul3, nIk, it, it0]
      refine m_turns hr (v := pw A B t) (fun i hi => ?_) (fun L2 f2 v2 => ?_)
      · repeat (first | rw [u2_ne _ _ _ (by omega)])
        exact hv i hi
      · have nx := ih (t + 1) L2 (some (.int 3)) (by omega) v2 (fun x c hx2 hc => ?_) (fun L' g1 g2 => go L' (fun c h1 h2 h3 => by
          rw [g1 c h1 h2 h3, f2 c h2 h3]
          repeat (first | rw [u2_ne _ _ _ h1])) g2)
        · simp [S129_0, S129_1, S129_2, BS, nIk]
          exact nx
        · rw [f2 95 (by omega) (by omega)]
          by_cases e1 : x = t
          · subst e1
            have z1 := zp x
            rcases i3 hc with rfl | rfl | rfl <;> simp [u2_rd, hv, z1, wL_0]
          · have := hx x c (by omega) hc
            have q1 : ¬ 3 * x + c = 3 * t := by omega
            have q2 : ¬ 3 * x + c = 3 * t + 1 := by omega
            have q3 : ¬ 3 * x + c = 3 * t + 2 := by omega
            simp [u2_rd, q1, q2, q3, this]
  have start := lp many 0 (u2 (u2 (u2 L 97 0 (wL (B 0))) 97 1 (wL (B 1))) 97 2 (wL (B 2))) none (by omega) (fun i hi => ?_) (fun x c h1 h2 => absurd h1 (by omega)) (fun L' g1 g2 => go L' (fun c h1 h2 h3 => by
    rw [g1 c h1 h2 h3]
    repeat (first | rw [u2_ne _ _ _ h2])) g2)
  · rw [nI_0] at start
    have gen : ∀ x0 x3 : Int32, Wp 129 36 [some (.ref 74), some (.int (nI j)), some (.int (nI many)), some (.int x3), none] [.int x0] (n, sl, C, Z, I, (u2 (u2 (u2 L 97 0 (wL (B 0))) 97 1 (wL (B 1))) 97 2 (wL (B 2))), R) (fun r h1 => Wp k pc ls (r.toList ++ st) h1 Q) ↔ Br 129 101 42 [some (.ref 74), some (.int (nI j)), some (.int (nI many)), some (.int x0), none] [] (n, sl, C, Z, I, (u2 (u2 (u2 L 97 0 (wL (B 0))) 97 1 (wL (B 1))) 97 2 (wL (B 2))), R) (fun r h1 => Wp k pc ls (r.toList ++ st) h1 Q) (nI many ≤ x0) := fun x0 x3 => by simp [S129_0, S129_1, S129_2, BS]
    have gg := (gen 0 3).mpr start
    simp [S129_0, S129_1, S129_2, Call_in (k2 := 129), BS, ixs, inbs, hM, j0, jx, k76, n0, mul3, nIk, ib, ib0, mB, mB0, ↓gg]
  · rcases (by omega : i = 0 ∨ i = 1 ∨ i = 2) with rfl | rfl | rfl <;> simp [u2_rd, pw]
theorem m_reach {n sl : Nat} {C Z : Nat → Nat} {I : Nat → Nat → Int32} {L : Nat → Nat → Int64} {R : Nat → Nat → Nat} {j : Nat} {u : Int32} {A B K : Nat → Int} {d : Int} {s many : Nat} (hr : RM C Z I R j s u A B K d) (hm : many ≤ 3) {k pc : Nat} {ls : Lo} {st : List Value} {Q : Option Value → Hp → Prop} (go : ∀ L', (∀ c, c ≠ 95 → c ≠ 97 → c ≠ 98 → L' c = L c) → (∀ x c, x < many → c < 3 → L' 95 (3 * x + c) = wL (pw A B x c)) → Wp k pc ls st (n, sl, C, Z, I, L', R) Q) : Call 129 [some (.ref 74), some (.int (nI j)), some (.int (nI many)), none, none] (n, sl, C, Z, I, L, R) k pc ls st Q := by
  have hs := hr.2.2.1
  rcases (by omega : s = 0 ∨ s = 1 ∨ s = 2 ∨ s = 3) with rfl | rfl | rfl | rfl
  · exact m_reach_0 hr hm go
  · exact m_reach_1 hr hm go
  · exact m_reach_2 hr hm go
  · exact m_reach_3 hr hm go
theorem bn_pw3 {A B : Nat → Int} (hA : ∀ i, i < 9 → bn 12 (A i)) (hB : ∀ i, i < 3 → bn 12 (B i)) : ∀ i c, i < 3 → c < 3 → bn 15552 (pw A B i c) := fun i c hi hc => bn_le (bn_pw hA hB i c hc) (by rcases i3 hi with h | h | h <;> rw [h] <;> decide)
theorem bn_pr3 {A K : Nat → Int} (hA : ∀ i, i < 9 → bn 12 (A i)) (hK : ∀ i, i < 3 → bn 12 (K i)) : ∀ i c, i < 3 → c < 3 → bn 15552 (pr A K i c) := fun i c hi hc => bn_le (bn_pr hA hK i c hc) (by rcases i3 hi with h | h | h <;> rw [h] <;> decide)
set_option maxRecDepth 100000 in
set_option maxHeartbeats 8000000 in
theorem m_reached {n sl : Nat} {C Z : Nat → Nat} {I : Nat → Nat → Int32} {L : Nat → Nat → Int64} {R : Nat → Nat → Nat} {j : Nat} {u : Int32} {A B K : Nat → Int} {d : Int} {s : Nat} (hr : RM C Z I R j s u A B K d) (hA : ∀ i, i < 9 → bn 12 (A i)) (hB : ∀ i, i < 3 → bn 12 (B i)) {k pc : Nat} {ls : Lo} {st : List Value} {Q : Option Value → Hp → Prop} (go : ∀ r, r ≤ 3 → IsRk (pw A B) 3 r → ∀ L', (∀ c, c ≠ 95 → c ≠ 97 → c ≠ 98 → L' c = L c) → Wp k pc ls (.int (nI r) :: st) (n, sl, C, Z, I, L', R) Q) : Call 130 [some (.ref 74), some (.int (nI j))] (n, sl, C, Z, I, L, R) k pc ls st Q := by
  obtain ⟨hM, hj12, hs3, k76, k77, mA, mB, mK, mD, zA, zB⟩ := id hr
  have hM' := hM
  unfold LayM at hM
  have j0 : inb (nI j) 12 = true := by rw [inb_nI (by omega)]; simp; omega
  have jx := ix_nI (show j < 2 ^ 31 by omega)
  have bX := bn_pw3 hA hB
  simp [S130_0, Call_in (k2 := 130), BS, hM, j0, jx, k76]
  refine m_reach hr hs3 (fun L1 f1 v1 => ?_)
  simp [S130_0, BS, hM, j0, jx, k76]
  refine m_rank hM' (by omega) v1 (fun i c hi hc => bn_le (bX i c (by omega) hc) (by decide)) (G2_crude (fun i c hi hc => bX i c (by omega) hc)) (fun r h1 h2 L2 f2 => ?_)
  simp [S130_0, BS]
  exact go r h1 (h2.congr (fun v => Nl_pw hs3 zA (fun i hi hs => (zB i hi hs).1) v)) L2 (fun c q1 q2 q3 => by rw [f2 c q1, f1 c q1 q2 q3])
set_option maxRecDepth 100000 in
set_option maxHeartbeats 8000000 in
theorem m_seen_0 {n sl : Nat} {C Z : Nat → Nat} {I : Nat → Nat → Int32} {L : Nat → Nat → Int64} {R : Nat → Nat → Nat} {j : Nat} {u : Int32} {A B K : Nat → Int} {d : Int} (hr : RM C Z I R j 0 u A B K d) (hA : ∀ i, i < 9 → bn 12 (A i)) (hK : ∀ i, i < 3 → bn 12 (K i)) {k pc : Nat} {ls : Lo} {st : List Value} {Q : Option Value → Hp → Prop} (go : ∀ r, r ≤ 3 → IsRk (pr A K) 3 r → ∀ L', (∀ c, c ≠ 95 → c ≠ 97 → c ≠ 98 → L' c = L c) → Wp k pc ls (.int (nI r) :: st) (n, sl, C, Z, I, L', R) Q) : Call 131 [some (.ref 74), some (.int (nI j)), none, none, none, none, none] (n, sl, C, Z, I, L, R) k pc ls st Q := by
  obtain ⟨hM, hj12, hs3, k76, k77, mA, mB, mK, mD, zA, zB⟩ := id hr
  have hM' := hM
  unfold LayM at hM
  have j0 : inb (nI j) 12 = true := by rw [inb_nI (by omega)]; simp; omega
  have jx := ix_nI (show j < 2 ^ 31 by omega)
  have ia : ∀ k, k < 9 → inb (nI (9 * j + k)) 108 = true ∧ ix (nI (9 * j + k)) = 9 * j + k := fun k hk => ⟨by rw [inb_nI (by omega)]; simp; omega, ix_nI (by omega)⟩
  have ia0 : inb (nI (9 * j)) 108 = true ∧ ix (nI (9 * j)) = 9 * j := ia 0 (by omega)
  have mA0 : (I 79 (9 * j)).toInt64 = wL (A 0) := mA 0 (by omega)
  have ib : ∀ k, k < 3 → inb (nI (3 * j + k)) 36 = true ∧ ix (nI (3 * j + k)) = 3 * j + k := fun k hk => ⟨by rw [inb_nI (by omega)]; simp; omega, ix_nI (by omega)⟩
  have ib0 : inb (nI (3 * j)) 36 = true ∧ ix (nI (3 * j)) = 3 * j := ib 0 (by omega)
  have mB0 : (I 80 (3 * j)).toInt64 = wL (B 0) := mB 0 (by omega)
  have mK0 : (I 81 (3 * j)).toInt64 = wL (K 0) := mK 0 (by omega)
  have n0 : nI 0 = 0 := rfl
  have bX := bn_pr3 hA hK
  have zA0 : A 0 = 0 := zA 0 0 (by omega) (by omega) (by omega)
  have zA1 : A 1 = 0 := zA 0 1 (by omega) (by omega) (by omega)
  have zA2 : A 2 = 0 := zA 0 2 (by omega) (by omega) (by omega)
  have zA3 : A 3 = 0 := zA 1 0 (by omega) (by omega) (by omega)
  have zA4 : A 4 = 0 := zA 1 1 (by omega) (by omega) (by omega)
  have zA5 : A 5 = 0 := zA 1 2 (by omega) (by omega) (by omega)
  have zA6 : A 6 = 0 := zA 2 0 (by omega) (by omega) (by omega)
  have zA7 : A 7 = 0 := zA 2 1 (by omega) (by omega) (by omega)
  have zA8 : A 8 = 0 := zA 2 2 (by omega) (by omega) (by omega)
  have zK0 : K 0 = 0 := (zB 0 (by omega) (by omega)).2
  have zK1 : K 1 = 0 := (zB 1 (by omega) (by omega)).2
  have zK2 : K 2 = 0 := (zB 2 (by omega) (by omega)).2
  simp [S131_0, S131_1, S131_2, S131_3, S104_0, Call_in (k2 := 131), Call_in (k2 := 104), BS, ixs, inbs, wL_mul, wL_add, hM, j0, jx, k76, mA, mA0, mK, mK0, mul3, mul9, nIk, ia, ia0, ib, ib0, Nat.add_assoc, n0, u2_rd, ← wL_0]
  refine m_rank (m := 0) (X := pr A K) hM' (by omega) (fun i c hi hc => ?_) (fun i c hi hc => bn_le (bX i c (by omega) hc) (by decide)) (G2_crude (fun i c hi hc => bX i c (by omega) hc)) (fun r h1 h2 L2 f2 => ?_)
  · exact absurd hi (by omega)
  · simp [S131_0, S131_1, S131_2, S131_3, BS]
    exact go r h1 (h2.congr (fun v => Nl_pr hs3 zA (fun i hi hs => (zB i hi hs).2) v)) L2 (fun c q1 q2 q3 => by
      rw [f2 c q1]
      repeat (first | rw [u2_ne _ _ _ q1]))
set_option maxRecDepth 100000 in
set_option maxHeartbeats 8000000 in
theorem m_seen_1 {n sl : Nat} {C Z : Nat → Nat} {I : Nat → Nat → Int32} {L : Nat → Nat → Int64} {R : Nat → Nat → Nat} {j : Nat} {u : Int32} {A B K : Nat → Int} {d : Int} (hr : RM C Z I R j 1 u A B K d) (hA : ∀ i, i < 9 → bn 12 (A i)) (hK : ∀ i, i < 3 → bn 12 (K i)) {k pc : Nat} {ls : Lo} {st : List Value} {Q : Option Value → Hp → Prop} (go : ∀ r, r ≤ 3 → IsRk (pr A K) 3 r → ∀ L', (∀ c, c ≠ 95 → c ≠ 97 → c ≠ 98 → L' c = L c) → Wp k pc ls (.int (nI r) :: st) (n, sl, C, Z, I, L', R) Q) : Call 131 [some (.ref 74), some (.int (nI j)), none, none, none, none, none] (n, sl, C, Z, I, L, R) k pc ls st Q := by
  obtain ⟨hM, hj12, hs3, k76, k77, mA, mB, mK, mD, zA, zB⟩ := id hr
  have hM' := hM
  unfold LayM at hM
  have j0 : inb (nI j) 12 = true := by rw [inb_nI (by omega)]; simp; omega
  have jx := ix_nI (show j < 2 ^ 31 by omega)
  have ia : ∀ k, k < 9 → inb (nI (9 * j + k)) 108 = true ∧ ix (nI (9 * j + k)) = 9 * j + k := fun k hk => ⟨by rw [inb_nI (by omega)]; simp; omega, ix_nI (by omega)⟩
  have ia0 : inb (nI (9 * j)) 108 = true ∧ ix (nI (9 * j)) = 9 * j := ia 0 (by omega)
  have mA0 : (I 79 (9 * j)).toInt64 = wL (A 0) := mA 0 (by omega)
  have ib : ∀ k, k < 3 → inb (nI (3 * j + k)) 36 = true ∧ ix (nI (3 * j + k)) = 3 * j + k := fun k hk => ⟨by rw [inb_nI (by omega)]; simp; omega, ix_nI (by omega)⟩
  have ib0 : inb (nI (3 * j)) 36 = true ∧ ix (nI (3 * j)) = 3 * j := ib 0 (by omega)
  have mB0 : (I 80 (3 * j)).toInt64 = wL (B 0) := mB 0 (by omega)
  have mK0 : (I 81 (3 * j)).toInt64 = wL (K 0) := mK 0 (by omega)
  have n0 : nI 1 = 1 := rfl
  have bX := bn_pr3 hA hK
  have zA1 : A 1 = 0 := zA 0 1 (by omega) (by omega) (by omega)
  have zA2 : A 2 = 0 := zA 0 2 (by omega) (by omega) (by omega)
  have zA3 : A 3 = 0 := zA 1 0 (by omega) (by omega) (by omega)
  have zA4 : A 4 = 0 := zA 1 1 (by omega) (by omega) (by omega)
  have zA5 : A 5 = 0 := zA 1 2 (by omega) (by omega) (by omega)
  have zA6 : A 6 = 0 := zA 2 0 (by omega) (by omega) (by omega)
  have zA7 : A 7 = 0 := zA 2 1 (by omega) (by omega) (by omega)
  have zA8 : A 8 = 0 := zA 2 2 (by omega) (by omega) (by omega)
  have zK1 : K 1 = 0 := (zB 1 (by omega) (by omega)).2
  have zK2 : K 2 = 0 := (zB 2 (by omega) (by omega)).2
  simp [S131_0, S131_1, S131_2, S131_3, S104_0, Call_in (k2 := 131), Call_in (k2 := 104), BS, ixs, inbs, wL_mul, wL_add, hM, j0, jx, k76, mA, mA0, mK, mK0, mul3, mul9, nIk, ia, ia0, ib, ib0, Nat.add_assoc, n0, u2_rd, ← wL_0]
  refine m_rank (m := 1) (X := pr A K) hM' (by omega) (fun i c hi hc => ?_) (fun i c hi hc => bn_le (bX i c (by omega) hc) (by decide)) (G2_crude (fun i c hi hc => bX i c (by omega) hc)) (fun r h1 h2 L2 f2 => ?_)
  · rcases (by omega : i = 0) with rfl <;> rcases i3 hc with rfl | rfl | rfl <;> simp [u2_rd, pr, vm, zA1, zA2, zA3, zA4, zA5, zA6, zA7, zA8, zK1, zK2] <;> try grind
  · simp [S131_0, S131_1, S131_2, S131_3, BS]
    exact go r h1 (h2.congr (fun v => Nl_pr hs3 zA (fun i hi hs => (zB i hi hs).2) v)) L2 (fun c q1 q2 q3 => by
      rw [f2 c q1]
      repeat (first | rw [u2_ne _ _ _ q1]))
set_option maxRecDepth 100000 in
set_option maxHeartbeats 8000000 in
theorem m_seen_2 {n sl : Nat} {C Z : Nat → Nat} {I : Nat → Nat → Int32} {L : Nat → Nat → Int64} {R : Nat → Nat → Nat} {j : Nat} {u : Int32} {A B K : Nat → Int} {d : Int} (hr : RM C Z I R j 2 u A B K d) (hA : ∀ i, i < 9 → bn 12 (A i)) (hK : ∀ i, i < 3 → bn 12 (K i)) {k pc : Nat} {ls : Lo} {st : List Value} {Q : Option Value → Hp → Prop} (go : ∀ r, r ≤ 3 → IsRk (pr A K) 3 r → ∀ L', (∀ c, c ≠ 95 → c ≠ 97 → c ≠ 98 → L' c = L c) → Wp k pc ls (.int (nI r) :: st) (n, sl, C, Z, I, L', R) Q) : Call 131 [some (.ref 74), some (.int (nI j)), none, none, none, none, none] (n, sl, C, Z, I, L, R) k pc ls st Q := by
  obtain ⟨hM, hj12, hs3, k76, k77, mA, mB, mK, mD, zA, zB⟩ := id hr
  have hM' := hM
  unfold LayM at hM
  have j0 : inb (nI j) 12 = true := by rw [inb_nI (by omega)]; simp; omega
  have jx := ix_nI (show j < 2 ^ 31 by omega)
  have ia : ∀ k, k < 9 → inb (nI (9 * j + k)) 108 = true ∧ ix (nI (9 * j + k)) = 9 * j + k := fun k hk => ⟨by rw [inb_nI (by omega)]; simp; omega, ix_nI (by omega)⟩
  have ia0 : inb (nI (9 * j)) 108 = true ∧ ix (nI (9 * j)) = 9 * j := ia 0 (by omega)
  have mA0 : (I 79 (9 * j)).toInt64 = wL (A 0) := mA 0 (by omega)
  have ib : ∀ k, k < 3 → inb (nI (3 * j + k)) 36 = true ∧ ix (nI (3 * j + k)) = 3 * j + k := fun k hk => ⟨by rw [inb_nI (by omega)]; simp; omega, ix_nI (by omega)⟩
  have ib0 : inb (nI (3 * j)) 36 = true ∧ ix (nI (3 * j)) = 3 * j := ib 0 (by omega)
  have mB0 : (I 80 (3 * j)).toInt64 = wL (B 0) := mB 0 (by omega)
  have mK0 : (I 81 (3 * j)).toInt64 = wL (K 0) := mK 0 (by omega)
  have n0 : nI 2 = 2 := rfl
  have bX := bn_pr3 hA hK
  have zA2 : A 2 = 0 := zA 0 2 (by omega) (by omega) (by omega)
  have zA5 : A 5 = 0 := zA 1 2 (by omega) (by omega) (by omega)
  have zA6 : A 6 = 0 := zA 2 0 (by omega) (by omega) (by omega)
  have zA7 : A 7 = 0 := zA 2 1 (by omega) (by omega) (by omega)
  have zA8 : A 8 = 0 := zA 2 2 (by omega) (by omega) (by omega)
  have zK2 : K 2 = 0 := (zB 2 (by omega) (by omega)).2
  simp [S131_0, S131_1, S131_2, S131_3, S104_0, Call_in (k2 := 131), Call_in (k2 := 104), BS, ixs, inbs, wL_mul, wL_add, hM, j0, jx, k76, mA, mA0, mK, mK0, mul3, mul9, nIk, ia, ia0, ib, ib0, Nat.add_assoc, n0, u2_rd, ← wL_0]
  refine m_rank (m := 2) (X := pr A K) hM' (by omega) (fun i c hi hc => ?_) (fun i c hi hc => bn_le (bX i c (by omega) hc) (by decide)) (G2_crude (fun i c hi hc => bX i c (by omega) hc)) (fun r h1 h2 L2 f2 => ?_)
  · rcases (by omega : i = 0 ∨ i = 1) with rfl | rfl <;> rcases i3 hc with rfl | rfl | rfl <;> simp [u2_rd, pr, vm, zA2, zA5, zA6, zA7, zA8, zK2] <;> try grind
  · simp [S131_0, S131_1, S131_2, S131_3, BS]
    exact go r h1 (h2.congr (fun v => Nl_pr hs3 zA (fun i hi hs => (zB i hi hs).2) v)) L2 (fun c q1 q2 q3 => by
      rw [f2 c q1]
      repeat (first | rw [u2_ne _ _ _ q1]))
set_option maxRecDepth 100000 in
set_option maxHeartbeats 8000000 in
theorem m_seen_3 {n sl : Nat} {C Z : Nat → Nat} {I : Nat → Nat → Int32} {L : Nat → Nat → Int64} {R : Nat → Nat → Nat} {j : Nat} {u : Int32} {A B K : Nat → Int} {d : Int} (hr : RM C Z I R j 3 u A B K d) (hA : ∀ i, i < 9 → bn 12 (A i)) (hK : ∀ i, i < 3 → bn 12 (K i)) {k pc : Nat} {ls : Lo} {st : List Value} {Q : Option Value → Hp → Prop} (go : ∀ r, r ≤ 3 → IsRk (pr A K) 3 r → ∀ L', (∀ c, c ≠ 95 → c ≠ 97 → c ≠ 98 → L' c = L c) → Wp k pc ls (.int (nI r) :: st) (n, sl, C, Z, I, L', R) Q) : Call 131 [some (.ref 74), some (.int (nI j)), none, none, none, none, none] (n, sl, C, Z, I, L, R) k pc ls st Q := by
  obtain ⟨hM, hj12, hs3, k76, k77, mA, mB, mK, mD, zA, zB⟩ := id hr
  have hM' := hM
  unfold LayM at hM
  have j0 : inb (nI j) 12 = true := by rw [inb_nI (by omega)]; simp; omega
  have jx := ix_nI (show j < 2 ^ 31 by omega)
  have ia : ∀ k, k < 9 → inb (nI (9 * j + k)) 108 = true ∧ ix (nI (9 * j + k)) = 9 * j + k := fun k hk => ⟨by rw [inb_nI (by omega)]; simp; omega, ix_nI (by omega)⟩
  have ia0 : inb (nI (9 * j)) 108 = true ∧ ix (nI (9 * j)) = 9 * j := ia 0 (by omega)
  have mA0 : (I 79 (9 * j)).toInt64 = wL (A 0) := mA 0 (by omega)
  have ib : ∀ k, k < 3 → inb (nI (3 * j + k)) 36 = true ∧ ix (nI (3 * j + k)) = 3 * j + k := fun k hk => ⟨by rw [inb_nI (by omega)]; simp; omega, ix_nI (by omega)⟩
  have ib0 : inb (nI (3 * j)) 36 = true ∧ ix (nI (3 * j)) = 3 * j := ib 0 (by omega)
  have mB0 : (I 80 (3 * j)).toInt64 = wL (B 0) := mB 0 (by omega)
  have mK0 : (I 81 (3 * j)).toInt64 = wL (K 0) := mK 0 (by omega)
  have n0 : nI 3 = 3 := rfl
  have bX := bn_pr3 hA hK
  simp [S131_0, S131_1, S131_2, S131_3, S104_0, Call_in (k2 := 131), Call_in (k2 := 104), BS, ixs, inbs, wL_mul, wL_add, hM, j0, jx, k76, mA, mA0, mK, mK0, mul3, mul9, nIk, ia, ia0, ib, ib0, Nat.add_assoc, n0, u2_rd, ← wL_0]
  refine m_rank (m := 3) (X := pr A K) hM' (by omega) (fun i c hi hc => ?_) (fun i c hi hc => bn_le (bX i c (by omega) hc) (by decide)) (G2_crude (fun i c hi hc => bX i c (by omega) hc)) (fun r h1 h2 L2 f2 => ?_)
  · rcases (by omega : i = 0 ∨ i = 1 ∨ i = 2) with rfl | rfl | rfl <;> rcases i3 hc with rfl | rfl | rfl <;> simp [u2_rd, pr, vm] <;> try grind
  · simp [S131_0, S131_1, S131_2, S131_3, BS]
    exact go r h1 (h2.congr (fun v => Nl_pr hs3 zA (fun i hi hs => (zB i hi hs).2) v)) L2 (fun c q1 q2 q3 => by
      rw [f2 c q1]
      repeat (first | rw [u2_ne _ _ _ q1]))
