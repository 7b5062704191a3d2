set_option maxRecDepth 100000 in
set_option maxHeartbeats 8000000 in
theorem m_stF_0 {n sl : Nat} {C Z : Nat → Nat} {I : Nat → Nat → Int32} {L : Nat → Nat → Int64} {R : Nat → Nat → Nat} {j : Nat} {u : Int32} {A B K : Nat → Int} {d : Int} (hr : RM C Z I R j 0 u A B K d) (kd : I 75 j = 1) (hu : u.toInt = 1 ∨ u.toInt = 2 ∨ u.toInt = 4) (hA : ∀ i, i < 9 → bn 3 (A i)) {k pc : Nat} {ls : Lo} {st : List Value} {Q : Option Value → Hp → Prop} (go1 : SC 0 (bil 0 (op A 0)) → ∀ L', (∀ c, c ≠ 92 → c ≠ 93 → c ≠ 94 → L' c = L c) → Wp k pc ls (.int 1 :: st) (n, sl, C, Z, I, L', R) Q) (go0 : ¬ SC 0 (bil 0 (op A 0)) → ∀ L', (∀ c, c ≠ 92 → c ≠ 93 → c ≠ 94 → L' c = L c) → Wp k pc ls (.int 0 :: st) (n, sl, C, Z, I, L', R) Q) : Call 127 [some (.ref 74), some (.int (nI j)), none, none, none, none] (n, sl, C, Z, I, L, R) k pc ls st Q := by
  obtain ⟨hM, hj12, hs3, k76, k77, mA, mB, mK, mD, zA, zB⟩ := id hr
  have hM' := hM
  unfold LayM at hM
  have j0 : inb (nI j) 12 = true := by rw [inb_nI (by omega)]; simp; omega
  have jx := ix_nI (show j < 2 ^ 31 by omega)
  have n0 : nI 0 = 0 := rfl
  have wu : u.toInt64 = wL u.toInt := wL_i2l u
  simp [S127_0, S127_1, S127_2, S127_3, S127_4, S127_5, Call_in (k2 := 127), BS, hM]
  refine m_owns hr (fun L1 f1 v1 => ?_)
  have o0 : L1 92 0 = wL (op A 0 0) := v1 0 (by omega)
  have step : ∀ L2 st' , (∀ c, c ≠ 93 → c ≠ 94 → L2 c = L1 c) → (∀ i, i ≤ 0 → L2 93 i = wL ((bil 0 (op A 0)) i)) → ∀ pc' ls', (∀ (v : Int32) h1, (v = 0 ∨ v = 1) → (Wp 127 pc' ls' [.int v] h1 (fun r h1 => Wp k pc ls (r.toList ++ st) h1 Q) ↔ Wp k pc ls (.int v :: st) h1 Q)) → st' = [] → Call 126 [some (.ref 74), some (.int 0), none, none, none, none, none, none, none, none] (n, sl, C, Z, I, L2, R) 127 pc' ls' st' (fun r h1 => Wp k pc ls (r.toList ++ st) h1 Q) := by
    intro L2 st' f2 w2 pc' ls' hend hst
    subst hst
    refine Call_in.mpr ((g126 (nI 0)).mpr ?_)
    refine W_0 (p := fun _ => 0) ?_
    exact (hend 1 _ (Or.inr rfl)).mpr (go1 trivial L2 (fun c h1 h2 h3 => by rw [f2 c h2 h3, f1 c h1]))
  simp [S127_0, S127_1, S127_2, S127_3, S127_4, S127_5, BS, ixs, inbs, hM, j0, jx, k76, k77, kd, n0, u2_rd, wL_mul, wL_add, wL_neg, wu, ← wL_0, ← wL_1, o0]
  refine step _ _ (fun c h1 h2 => ?_) (fun i hi => ?_) _ _ (fun v h1 hv => ?_) rfl
  · repeat (first | rw [u2_ne _ _ _ h1] | rw [u2_ne _ _ _ h2])
  · rcases (by omega : i = 0) with rfl <;> simp [u2_rd, sp, bil] <;> (try congr 1) <;> (try grind)
  · rcases hv with rfl | rfl <;> simp [S127_0, S127_1, S127_2, S127_3, S127_4, S127_5, BS]
set_option maxRecDepth 100000 in
set_option maxHeartbeats 8000000 in
theorem m_stF_1 {n sl : Nat} {C Z : Nat → Nat} {I : Nat → Nat → Int32} {L : Nat → Nat → Int64} {R : Nat → Nat → Nat} {j : Nat} {u : Int32} {A B K : Nat → Int} {d : Int} (hr : RM C Z I R j 1 u A B K d) (kd : I 75 j = 1) (hu : u.toInt = 1 ∨ u.toInt = 2 ∨ u.toInt = 4) (hA : ∀ i, i < 9 → bn 3 (A i)) {k pc : Nat} {ls : Lo} {st : List Value} {Q : Option Value → Hp → Prop} (go1 : SC 1 (bil 1 (op A 1)) → ∀ L', (∀ c, c ≠ 92 → c ≠ 93 → c ≠ 94 → L' c = L c) → Wp k pc ls (.int 1 :: st) (n, sl, C, Z, I, L', R) Q) (go0 : ¬ SC 1 (bil 1 (op A 1)) → ∀ L', (∀ c, c ≠ 92 → c ≠ 93 → c ≠ 94 → L' c = L c) → Wp k pc ls (.int 0 :: st) (n, sl, C, Z, I, L', R) Q) : Call 127 [some (.ref 74), some (.int (nI j)), none, none, none, none] (n, sl, C, Z, I, L, R) k pc ls st Q := by
  obtain ⟨hM, hj12, hs3, k76, k77, mA, mB, mK, mD, zA, zB⟩ := id hr
  have hM' := hM
  unfold LayM at hM
  have j0 : inb (nI j) 12 = true := by rw [inb_nI (by omega)]; simp; omega
  have jx := ix_nI (show j < 2 ^ 31 by omega)
  have n0 : nI 1 = 1 := rfl
  have wu : u.toInt64 = wL u.toInt := wL_i2l u
  simp [S127_0, S127_1, S127_2, S127_3, S127_4, S127_5, Call_in (k2 := 127), BS, hM]
  refine m_owns hr (fun L1 f1 v1 => ?_)
  have o0 : L1 92 0 = wL (op A 1 0) := v1 0 (by omega)
  have o1 : L1 92 1 = wL (op A 1 1) := v1 1 (by omega)
  have step : ∀ L2 st' , (∀ c, c ≠ 93 → c ≠ 94 → L2 c = L1 c) → (∀ i, i ≤ 1 → L2 93 i = wL ((bil 1 (op A 1)) i)) → ∀ pc' ls', (∀ (v : Int32) h1, (v = 0 ∨ v = 1) → (Wp 127 pc' ls' [.int v] h1 (fun r h1 => Wp k pc ls (r.toList ++ st) h1 Q) ↔ Wp k pc ls (.int v :: st) h1 Q)) → st' = [] → Call 126 [some (.ref 74), some (.int 1), none, none, none, none, none, none, none, none] (n, sl, C, Z, I, L2, R) 127 pc' ls' st' (fun r h1 => Wp k pc ls (r.toList ++ st) h1 Q) := by
    intro L2 st' f2 w2 pc' ls' hend hst
    subst hst
    refine Call_in.mpr ((g126 (nI 1)).mpr ?_)
    refine W_1 (p := bil 1 (op A 1)) hM' w2 (fun i hi => bn_le (bn_bil hA (by omega) hi).1 (by decide)) (bn_le (bn_bil hA (by omega) (Nat.le_refl 1)).2 (by decide)) (fun h L3 f3 => ?_) (fun h L3 f3 => ?_)
    · exact (hend 1 _ (Or.inr rfl)).mpr (go1 h L3 (fun c h1 h2 h3 => by rw [f3 c h2 h3, f2 c h2 h3, f1 c h1]))
    · exact (hend 0 _ (Or.inl rfl)).mpr (go0 h L3 (fun c h1 h2 h3 => by rw [f3 c h2 h3, f2 c h2 h3, f1 c h1]))
  simp [S127_0, S127_1, S127_2, S127_3, S127_4, S127_5, BS, ixs, inbs, hM, j0, jx, k76, k77, kd, n0, u2_rd, wL_mul, wL_add, wL_neg, wu, ← wL_0, ← wL_1, o0, o1]
  refine step _ _ (fun c h1 h2 => ?_) (fun i hi => ?_) _ _ (fun v h1 hv => ?_) rfl
  · repeat (first | rw [u2_ne _ _ _ h1] | rw [u2_ne _ _ _ h2])
  · rcases (by omega : i = 0 ∨ i = 1) with rfl | rfl <;> simp [u2_rd, sp, bil] <;> (try congr 1) <;> (try grind)
  · rcases hv with rfl | rfl <;> simp [S127_0, S127_1, S127_2, S127_3, S127_4, S127_5, BS]
set_option maxRecDepth 100000 in
set_option maxHeartbeats 8000000 in
theorem m_stF_2 {n sl : Nat} {C Z : Nat → Nat} {I : Nat → Nat → Int32} {L : Nat → Nat → Int64} {R : Nat → Nat → Nat} {j : Nat} {u : Int32} {A B K : Nat → Int} {d : Int} (hr : RM C Z I R j 2 u A B K d) (kd : I 75 j = 1) (hu : u.toInt = 1 ∨ u.toInt = 2 ∨ u.toInt = 4) (hA : ∀ i, i < 9 → bn 3 (A i)) {k pc : Nat} {ls : Lo} {st : List Value} {Q : Option Value → Hp → Prop} (go1 : SC 2 (bil 2 (op A 2)) → ∀ L', (∀ c, c ≠ 92 → c ≠ 93 → c ≠ 94 → L' c = L c) → Wp k pc ls (.int 1 :: st) (n, sl, C, Z, I, L', R) Q) (go0 : ¬ SC 2 (bil 2 (op A 2)) → ∀ L', (∀ c, c ≠ 92 → c ≠ 93 → c ≠ 94 → L' c = L c) → Wp k pc ls (.int 0 :: st) (n, sl, C, Z, I, L', R) Q) : Call 127 [some (.ref 74), some (.int (nI j)), none, none, none, none] (n, sl, C, Z, I, L, R) k pc ls st Q := by
  obtain ⟨hM, hj12, hs3, k76, k77, mA, mB, mK, mD, zA, zB⟩ := id hr
  have hM' := hM
  unfold LayM at hM
  have j0 : inb (nI j) 12 = true := by rw [inb_nI (by omega)]; simp; omega
  have jx := ix_nI (show j < 2 ^ 31 by omega)
  have n0 : nI 2 = 2 := rfl
  have wu : u.toInt64 = wL u.toInt := wL_i2l u
  simp [S127_0, S127_1, S127_2, S127_3, S127_4, S127_5, Call_in (k2 := 127), BS, hM]
  refine m_owns hr (fun L1 f1 v1 => ?_)
  have o0 : L1 92 0 = wL (op A 2 0) := v1 0 (by omega)
  have o1 : L1 92 1 = wL (op A 2 1) := v1 1 (by omega)
  have o2 : L1 92 2 = wL (op A 2 2) := v1 2 (by omega)
  have step : ∀ L2 st' , (∀ c, c ≠ 93 → c ≠ 94 → L2 c = L1 c) → (∀ i, i ≤ 2 → L2 93 i = wL ((bil 2 (op A 2)) i)) → ∀ pc' ls', (∀ (v : Int32) h1, (v = 0 ∨ v = 1) → (Wp 127 pc' ls' [.int v] h1 (fun r h1 => Wp k pc ls (r.toList ++ st) h1 Q) ↔ Wp k pc ls (.int v :: st) h1 Q)) → st' = [] → Call 126 [some (.ref 74), some (.int 2), none, none, none, none, none, none, none, none] (n, sl, C, Z, I, L2, R) 127 pc' ls' st' (fun r h1 => Wp k pc ls (r.toList ++ st) h1 Q) := by
    intro L2 st' f2 w2 pc' ls' hend hst
    subst hst
    refine Call_in.mpr ((g126 (nI 2)).mpr ?_)
    refine W_2 (p := bil 2 (op A 2)) hM' w2 (fun i hi => bn_le (bn_bil hA (by omega) hi).1 (by decide)) (bn_le (bn_bil hA (by omega) (Nat.le_refl 2)).2 (by decide)) (fun h L3 f3 => ?_) (fun h L3 f3 => ?_)
    · exact (hend 1 _ (Or.inr rfl)).mpr (go1 h L3 (fun c h1 h2 h3 => by rw [f3 c h2 h3, f2 c h2 h3, f1 c h1]))
    · exact (hend 0 _ (Or.inl rfl)).mpr (go0 h L3 (fun c h1 h2 h3 => by rw [f3 c h2 h3, f2 c h2 h3, f1 c h1]))
  simp [S127_0, S127_1, S127_2, S127_3, S127_4, S127_5, BS, ixs, inbs, hM, j0, jx, k76, k77, kd, n0, u2_rd, wL_mul, wL_add, wL_neg, wu, ← wL_0, ← wL_1, o0, o1, o2]
  refine step _ _ (fun c h1 h2 => ?_) (fun i hi => ?_) _ _ (fun v h1 hv => ?_) rfl
  · repeat (first | rw [u2_ne _ _ _ h1] | rw [u2_ne _ _ _ h2])
  · rcases (by omega : i = 0 ∨ i = 1 ∨ i = 2) with rfl | rfl | rfl <;> simp [u2_rd, sp, bil] <;> (try congr 1) <;> (try grind)
  · rcases hv with rfl | rfl <;> simp [S127_0, S127_1, S127_2, S127_3, S127_4, S127_5, BS]
set_option maxRecDepth 100000 in
set_option maxHeartbeats 8000000 in
theorem m_stF_3 {n sl : Nat} {C Z : Nat → Nat} {I : Nat → Nat → Int32} {L : Nat → Nat → Int64} {R : Nat → Nat → Nat} {j : Nat} {u : Int32} {A B K : Nat → Int} {d : Int} (hr : RM C Z I R j 3 u A B K d) (kd : I 75 j = 1) (hu : u.toInt = 1 ∨ u.toInt = 2 ∨ u.toInt = 4) (hA : ∀ i, i < 9 → bn 3 (A i)) {k pc : Nat} {ls : Lo} {st : List Value} {Q : Option Value → Hp → Prop} (go1 : SC 3 (bil 3 (op A 3)) → ∀ L', (∀ c, c ≠ 92 → c ≠ 93 → c ≠ 94 → L' c = L c) → Wp k pc ls (.int 1 :: st) (n, sl, C, Z, I, L', R) Q) (go0 : ¬ SC 3 (bil 3 (op A 3)) → ∀ L', (∀ c, c ≠ 92 → c ≠ 93 → c ≠ 94 → L' c = L c) → Wp k pc ls (.int 0 :: st) (n, sl, C, Z, I, L', R) Q) : Call 127 [some (.ref 74), some (.int (nI j)), none, none, none, none] (n, sl, C, Z, I, L, R) k pc ls st Q := by
  obtain ⟨hM, hj12, hs3, k76, k77, mA, mB, mK, mD, zA, zB⟩ := id hr
  have hM' := hM
  unfold LayM at hM
  have j0 : inb (nI j) 12 = true := by rw [inb_nI (by omega)]; simp; omega
  have jx := ix_nI (show j < 2 ^ 31 by omega)
  have n0 : nI 3 = 3 := rfl
  have wu : u.toInt64 = wL u.toInt := wL_i2l u
  simp [S127_0, S127_1, S127_2, S127_3, S127_4, S127_5, Call_in (k2 := 127), BS, hM]
  refine m_owns hr (fun L1 f1 v1 => ?_)
  have o0 : L1 92 0 = wL (op A 3 0) := v1 0 (by omega)
  have o1 : L1 92 1 = wL (op A 3 1) := v1 1 (by omega)
  have o2 : L1 92 2 = wL (op A 3 2) := v1 2 (by omega)
  have o3 : L1 92 3 = wL (op A 3 3) := v1 3 (by omega)
  have step : ∀ L2 st' , (∀ c, c ≠ 93 → c ≠ 94 → L2 c = L1 c) → (∀ i, i ≤ 3 → L2 93 i = wL ((bil 3 (op A 3)) i)) → ∀ pc' ls', (∀ (v : Int32) h1, (v = 0 ∨ v = 1) → (Wp 127 pc' ls' [.int v] h1 (fun r h1 => Wp k pc ls (r.toList ++ st) h1 Q) ↔ Wp k pc ls (.int v :: st) h1 Q)) → st' = [] → Call 126 [some (.ref 74), some (.int 3), none, none, none, none, none, none, none, none] (n, sl, C, Z, I, L2, R) 127 pc' ls' st' (fun r h1 => Wp k pc ls (r.toList ++ st) h1 Q) := by
    intro L2 st' f2 w2 pc' ls' hend hst
    subst hst
    refine Call_in.mpr ((g126 (nI 3)).mpr ?_)
    refine W_3 (p := bil 3 (op A 3)) hM' w2 (fun i hi => bn_le (bn_bil hA (by omega) hi).1 (by decide)) (bn_le (bn_bil hA (by omega) (Nat.le_refl 3)).2 (by decide)) (fun h L3 f3 => ?_) (fun h L3 f3 => ?_)
    · exact (hend 1 _ (Or.inr rfl)).mpr (go1 h L3 (fun c h1 h2 h3 => by rw [f3 c h2 h3, f2 c h2 h3, f1 c h1]))
    · exact (hend 0 _ (Or.inl rfl)).mpr (go0 h L3 (fun c h1 h2 h3 => by rw [f3 c h2 h3, f2 c h2 h3, f1 c h1]))
  simp [S127_0, S127_1, S127_2, S127_3, S127_4, S127_5, BS, ixs, inbs, hM, j0, jx, k76, k77, kd, n0, u2_rd, wL_mul, wL_add, wL_neg, wu, ← wL_0, ← wL_1, o0, o1, o2, o3]
  refine step _ _ (fun c h1 h2 => ?_) (fun i hi => ?_) _ _ (fun v h1 hv => ?_) rfl
  · repeat (first | rw [u2_ne _ _ _ h1] | rw [u2_ne _ _ _ h2])
  · rcases (by omega : i = 0 ∨ i = 1 ∨ i = 2 ∨ i = 3) with rfl | rfl | rfl | rfl <;> simp [u2_rd, sp, bil] <;> (try congr 1) <;> (try grind)
  · rcases hv with rfl | rfl <;> simp [S127_0, S127_1, S127_2, S127_3, S127_4, S127_5, BS]
