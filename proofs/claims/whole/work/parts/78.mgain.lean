set_option maxRecDepth 100000 in
set_option maxHeartbeats 8000000 in
theorem m_worth2_m {n sl : Nat} {C Z : Nat → Nat} {I : Nat → Nat → Int32} {L : Nat → Nat → Int64} {R : Nat → Nat → Nat} {G : Nat → Nat → Int} {v : Nat → Int} (hM : LayM C Z R) (hG : ∀ e i, e < 2 → i < 2 → L 95 (3 * e + i) = wL (G e i)) (hv : ∀ e, e < 2 → L 97 e = wL (v e)) {k pc : Nat} {ls : Lo} {st : List Value} {Q : Option Value → Hp → Prop} (go : ∀ L', (∀ c, c ≠ 96 → L' c = L c) → Wp k pc ls (.long (wL (G 0 0 * G 1 1 - G 0 1 * G 1 0)) :: st) (n, sl, C, Z, I, L', R) Q) : Call 139 [some (.ref 74), some (.int 2), some (.int (-1)), none, none] (n, sl, C, Z, I, L, R) k pc ls st Q := by
  unfold LayM at hM
  have g00 := hG 0 0 (by omega) (by omega)
  have g01 := hG 0 1 (by omega) (by omega)
  have g10 := hG 1 0 (by omega) (by omega)
  have g11 := hG 1 1 (by omega) (by omega)
  have v0 := hv 0 (by omega)
  have v1 := hv 1 (by omega)
  simp only [Nat.mul_zero, Nat.zero_add, Nat.add_zero, Nat.mul_one, Nat.reduceMul, Nat.reduceAdd] at g00 g01 g10 g11
  simp [S139_0, S139_1, S139_2, S139_3, S139_4, S139_5, Call_in (k2 := 139), BS, ixs, inbs, hM, wL_mul, wL_add, wL_sub, g00, g01, g10, g11, v0, v1, u2_rd]
  exact go _ (fun c h1 => by repeat (first | rw [u2_ne _ _ _ h1]))
set_option maxRecDepth 100000 in
set_option maxHeartbeats 8000000 in
theorem m_worth2_0 {n sl : Nat} {C Z : Nat → Nat} {I : Nat → Nat → Int32} {L : Nat → Nat → Int64} {R : Nat → Nat → Nat} {G : Nat → Nat → Int} {v : Nat → Int} (hM : LayM C Z R) (hG : ∀ e i, e < 2 → i < 2 → L 95 (3 * e + i) = wL (G e i)) (hv : ∀ e, e < 2 → L 97 e = wL (v e)) {k pc : Nat} {ls : Lo} {st : List Value} {Q : Option Value → Hp → Prop} (go : ∀ L', (∀ c, c ≠ 96 → L' c = L c) → Wp k pc ls (.long (wL (v 0 * G 1 1 - G 0 1 * v 1)) :: st) (n, sl, C, Z, I, L', R) Q) : Call 139 [some (.ref 74), some (.int 2), some (.int (0)), none, none] (n, sl, C, Z, I, L, R) k pc ls st Q := by
  unfold LayM at hM
  have g00 := hG 0 0 (by omega) (by omega)
  have g01 := hG 0 1 (by omega) (by omega)
  have g10 := hG 1 0 (by omega) (by omega)
  have g11 := hG 1 1 (by omega) (by omega)
  have v0 := hv 0 (by omega)
  have v1 := hv 1 (by omega)
  simp only [Nat.mul_zero, Nat.zero_add, Nat.add_zero, Nat.mul_one, Nat.reduceMul, Nat.reduceAdd] at g00 g01 g10 g11
  simp [S139_0, S139_1, S139_2, S139_3, S139_4, S139_5, Call_in (k2 := 139), BS, ixs, inbs, hM, wL_mul, wL_add, wL_sub, g00, g01, g10, g11, v0, v1, u2_rd]
  exact go _ (fun c h1 => by repeat (first | rw [u2_ne _ _ _ h1]))
set_option maxRecDepth 100000 in
set_option maxHeartbeats 8000000 in
theorem m_worth2_1 {n sl : Nat} {C Z : Nat → Nat} {I : Nat → Nat → Int32} {L : Nat → Nat → Int64} {R : Nat → Nat → Nat} {G : Nat → Nat → Int} {v : Nat → Int} (hM : LayM C Z R) (hG : ∀ e i, e < 2 → i < 2 → L 95 (3 * e + i) = wL (G e i)) (hv : ∀ e, e < 2 → L 97 e = wL (v e)) {k pc : Nat} {ls : Lo} {st : List Value} {Q : Option Value → Hp → Prop} (go : ∀ L', (∀ c, c ≠ 96 → L' c = L c) → Wp k pc ls (.long (wL (G 0 0 * v 1 - v 0 * G 1 0)) :: st) (n, sl, C, Z, I, L', R) Q) : Call 139 [some (.ref 74), some (.int 2), some (.int (1)), none, none] (n, sl, C, Z, I, L, R) k pc ls st Q := by
  unfold LayM at hM
  have g00 := hG 0 0 (by omega) (by omega)
  have g01 := hG 0 1 (by omega) (by omega)
  have g10 := hG 1 0 (by omega) (by omega)
  have g11 := hG 1 1 (by omega) (by omega)
  have v0 := hv 0 (by omega)
  have v1 := hv 1 (by omega)
  simp only [Nat.mul_zero, Nat.zero_add, Nat.add_zero, Nat.mul_one, Nat.reduceMul, Nat.reduceAdd] at g00 g01 g10 g11
  simp [S139_0, S139_1, S139_2, S139_3, S139_4, S139_5, Call_in (k2 := 139), BS, ixs, inbs, hM, wL_mul, wL_add, wL_sub, g00, g01, g10, g11, v0, v1, u2_rd]
  exact go _ (fun c h1 => by repeat (first | rw [u2_ne _ _ _ h1]))
set_option maxRecDepth 100000 in
set_option maxHeartbeats 8000000 in
theorem m_gain_10_0 {n sl : Nat} {C Z : Nat → Nat} {I : Nat → Nat → Int32} {L : Nat → Nat → Int64} {R : Nat → Nat → Nat} {j : Nat} {u : Int32} {A B K : Nat → Int} {d : Int} {M : Nat} (hr : RM C Z I R j 1 u A B K d) (hM12 : M ≤ 12) (hj : j < M) (e2 : I 74 0 = nI M) (hu : u.toInt = 1 ∨ u.toInt = 2 ∨ u.toInt = 4) (hA : ∀ i, i < 9 → bn 12 (A i)) (hB : ∀ i, i < 3 → bn 12 (B i))  (p0 p1 p2 : Int32) (q0 : ¬ p0 < -100 ∧ ¬ 100 < p0) (hP : ∀ k, k < 1 → bn 100 ((fun k => if k = 0 then p0.toInt else if k = 1 then p1.toInt else p2.toInt) k)) (hrk : IsRk (pw A B) 3 1) (gz : ¬ gw 1 (gG 1 u.toInt A B) (gv 1 A (fun k => if k = 0 then p0.toInt else if k = 1 then p1.toInt else p2.toInt)) 9 = 0) {Q : Option Value → Hp → Prop} (go : ∀ L', (∀ c, c ≠ 74 → c ≠ 92 → c ≠ 95 → c ≠ 96 → c ≠ 97 → c ≠ 98 → L' c = L c) → Q (some (.long (wL (fn (gw 1 (gG 1 u.toInt A B) (gv 1 A (fun k => if k = 0 then p0.toInt else if k = 1 then p1.toInt else p2.toInt)) 0) (gw 1 (gG 1 u.toInt A B) (gv 1 A (fun k => if k = 0 then p0.toInt else if k = 1 then p1.toInt else p2.toInt)) 9))))) (n, sl, C, Z, I, L', R)) : Wp 140 0 [some (.ref 74), some (.int (nI j)), some (.int p0), some (.int p1), some (.int p2), some (.int 0), some (.int 0), none, none, none, none] [] (n, sl, C, Z, I, L, R) Q := by
  obtain ⟨hM, hj12, hs3, k76, k77, mA, mB, mK, mD, zA, zB⟩ := id hr
  have hM' := hM
  unfold LayM at hM
  have j0 : inb (nI j) 12 = true := by rw [inb_nI (by omega)]; simp; omega
  have jx := ix_nI (show j < 2 ^ 31 by omega)
  have ib : ∀ k, k < 3 → inb (nI (3 * j + k)) 36 = true ∧ ix (nI (3 * j + k)) = 3 * j + k := fun k hk => ⟨by rw [inb_nI (by omega)]; simp; omega, ix_nI (by omega)⟩
  have ib0 : inb (nI (3 * j)) 36 = true ∧ ix (nI (3 * j)) = 3 * j := ib 0 (by omega)
  have mB0 : (I 80 (3 * j)).toInt64 = wL (B 0) := mB 0 (by omega)
  have mK0 : (I 81 (3 * j)).toInt64 = wL (K 0) := mK 0 (by omega)
  have c74 : C 74 = 11 := by simp [hM]
  have n0 : nI 1 = 1 := rfl
  have wu : u.toInt64 = wL u.toInt := wL_i2l u
  have w0 : p0.toInt64 = wL p0.toInt := wL_i2l p0
  have w1 : p1.toInt64 = wL p1.toInt := wL_i2l p1
  have w2 : p2.toInt64 = wL p2.toInt := wL_i2l p2
  simp [S140_0, S140_1, S140_2, S140_3, S140_4, S140_5, S140_6, S140_7, S140_8, BS, ixs, inbs, le_nlt, hM, e2, j0, jx, k76, k77, n0, wu, w0, w1, w2, mul3, nIk, ib, ib0, mB, mB0, u2_rd, wL_mul, wL_add, wL_sub, ← wL_0, q0, is_yesG hM' hM12 hj]
  refine m_reached hr hA hB (fun r h1 h2 L1 f1 => ?_)
  have er := h2.uniq hrk
  subst er
  simp [S140_0, S140_1, S140_2, S140_3, S140_4, S140_5, S140_6, S140_7, S140_8, BS, ixs, inbs, le_nlt, hM, e2, j0, jx, k76, k77, n0, wu, w0, w1, w2, mul3, nIk, ib, ib0, mB, mB0, u2_rd, wL_mul, wL_add, wL_sub, ← wL_0, q0]
  refine m_owns hr (fun L2 f2 v2 => ?_)
  have o0 : L2 92 0 = wL (op A 1 0) := v2 0 (by omega)
  have o1 : L2 92 1 = wL (op A 1 1) := v2 1 (by omega)
  simp [S140_0, S140_1, S140_2, S140_3, S140_4, S140_5, S140_6, S140_7, S140_8, BS, ixs, inbs, le_nlt, hM, e2, j0, jx, k76, k77, n0, wu, w0, w1, w2, mul3, nIk, ib, ib0, mB, mB0, u2_rd, wL_mul, wL_add, wL_sub, ← wL_0, q0, o0, o1]
  refine m_worth1_0 hM' (fun La fa => ?_)
  simp [S140_0, S140_1, S140_2, S140_3, S140_4, S140_5, S140_6, S140_7, S140_8, BS, ixs, inbs, le_nlt, hM, e2, j0, jx, k76, k77, n0, wu, w0, w1, w2, mul3, nIk, ib, ib0, mB, mB0, u2_rd, wL_mul, wL_add, wL_sub, ← wL_0, q0, o0, o1, u2_rd]
  refine m_worth1_m hM' (fun Lb fb => ?_)
  have ea : gw 1 (gG 1 u.toInt A B) (gv 1 A (fun k => if k = 0 then p0.toInt else if k = 1 then p1.toInt else p2.toInt)) 0 = p0.toInt - op A 1 0 := by simp [gw, gv]
  have eb : gw 1 (gG 1 u.toInt A B) (gv 1 A (fun k => if k = 0 then p0.toInt else if k = 1 then p1.toInt else p2.toInt)) 9 = op A 1 1 * u.toInt * B 0 := by simp [gw, gG, pw_0]
  have bi := bn_gw (s := 1) (P := (fun k => if k = 0 then p0.toInt else if k = 1 then p1.toInt else p2.toInt)) hu (by omega) (by omega) hA hB hP 0
  have b9 := bn_gw (s := 1) (P := (fun k => if k = 0 then p0.toInt else if k = 1 then p1.toInt else p2.toInt)) hu (by omega) (by omega) hA hB hP 9
  have gg := go (u2 (u2 Lb 74 28 (wL (fn (gw 1 (gG 1 u.toInt A B) (gv 1 A (fun k => if k = 0 then p0.toInt else if k = 1 then p1.toInt else p2.toInt)) 0) (gw 1 (gG 1 u.toInt A B) (gv 1 A (fun k => if k = 0 then p0.toInt else if k = 1 then p1.toInt else p2.toInt)) 9)))) 74 29 (wL (fd (gw 1 (gG 1 u.toInt A B) (gv 1 A (fun k => if k = 0 then p0.toInt else if k = 1 then p1.toInt else p2.toInt)) 0) (gw 1 (gG 1 u.toInt A B) (gv 1 A (fun k => if k = 0 then p0.toInt else if k = 1 then p1.toInt else p2.toInt)) 9)))) (fun c q1 q2 q3 q4 q5 q6 => by
      rw [u2_ne _ _ _ q1, u2_ne _ _ _ q1, fb c q4, fa c q4]
      repeat (first | rw [u2_ne _ _ _ q5] | rw [u2_ne _ _ _ q3] | rw [f2 c q2] | rw [f1 c q3 q5 q6]))
  simp [S140_0, S140_1, S140_2, S140_3, S140_4, S140_5, S140_6, S140_7, S140_8, BS, ixs, inbs, le_nlt, hM, e2, j0, jx, k76, k77, n0, wu, w0, w1, w2, mul3, nIk, ib, ib0, mB, mB0, u2_rd, wL_mul, wL_add, wL_sub, ← wL_0, q0, o0, o1]
  rw [ea, eb] at gg
  rw [ea] at bi
  rw [eb] at b9 gz
  have lw := fun k pc ls st Q => m_low (n := n) (sl := sl) (Z := Z) (I := I) (L := Lb) (R := R) bi b9 gz c74 k pc ls st Q
  simp [fa, u2_rd, o0, o1] at lw ⊢
  refine (lw _ _ _ _ _).mpr ?_
  simp [S140_0, S140_1, S140_2, S140_3, S140_4, S140_5, S140_6, S140_7, S140_8, S107_0, Call_in (k2 := 107), BS, ixs, inbs, hM, u2_rd]
  exact gg
set_option maxRecDepth 100000 in
set_option maxHeartbeats 8000000 in
theorem m_gain_10_1 {n sl : Nat} {C Z : Nat → Nat} {I : Nat → Nat → Int32} {L : Nat → Nat → Int64} {R : Nat → Nat → Nat} {j : Nat} {u : Int32} {A B K : Nat → Int} {d : Int} {M : Nat} (hr : RM C Z I R j 1 u A B K d) (hM12 : M ≤ 12) (hj : j < M) (e2 : I 74 0 = nI M) (hu : u.toInt = 1 ∨ u.toInt = 2 ∨ u.toInt = 4) (hA : ∀ i, i < 9 → bn 12 (A i)) (hB : ∀ i, i < 3 → bn 12 (B i))  (p0 p1 p2 : Int32) (q0 : ¬ p0 < -100 ∧ ¬ 100 < p0) (hP : ∀ k, k < 1 → bn 100 ((fun k => if k = 0 then p0.toInt else if k = 1 then p1.toInt else p2.toInt) k)) (hrk : IsRk (pw A B) 3 1) (gz : ¬ gw 1 (gG 1 u.toInt A B) (gv 1 A (fun k => if k = 0 then p0.toInt else if k = 1 then p1.toInt else p2.toInt)) 9 = 0) {Q : Option Value → Hp → Prop} (go : ∀ L', (∀ c, c ≠ 74 → c ≠ 92 → c ≠ 95 → c ≠ 96 → c ≠ 97 → c ≠ 98 → L' c = L c) → Q (some (.long (wL (fd (gw 1 (gG 1 u.toInt A B) (gv 1 A (fun k => if k = 0 then p0.toInt else if k = 1 then p1.toInt else p2.toInt)) 0) (gw 1 (gG 1 u.toInt A B) (gv 1 A (fun k => if k = 0 then p0.toInt else if k = 1 then p1.toInt else p2.toInt)) 9))))) (n, sl, C, Z, I, L', R)) : Wp 140 0 [some (.ref 74), some (.int (nI j)), some (.int p0), some (.int p1), some (.int p2), some (.int 0), some (.int 1), none, none, none, none] [] (n, sl, C, Z, I, L, R) Q := by
  obtain ⟨hM, hj12, hs3, k76, k77, mA, mB, mK, mD, zA, zB⟩ := id hr
  have hM' := hM
  unfold LayM at hM
  have j0 : inb (nI j) 12 = true := by rw [inb_nI (by omega)]; simp; omega
  have jx := ix_nI (show j < 2 ^ 31 by omega)
  have ib : ∀ k, k < 3 → inb (nI (3 * j + k)) 36 = true ∧ ix (nI (3 * j + k)) = 3 * j + k := fun k hk => ⟨by rw [inb_nI (by omega)]; simp; omega, ix_nI (by omega)⟩
  have ib0 : inb (nI (3 * j)) 36 = true ∧ ix (nI (3 * j)) = 3 * j := ib 0 (by omega)
  have mB0 : (I 80 (3 * j)).toInt64 = wL (B 0) := mB 0 (by omega)
  have mK0 : (I 81 (3 * j)).toInt64 = wL (K 0) := mK 0 (by omega)
  have c74 : C 74 = 11 := by simp [hM]
  have n0 : nI 1 = 1 := rfl
  have wu : u.toInt64 = wL u.toInt := wL_i2l u
  have w0 : p0.toInt64 = wL p0.toInt := wL_i2l p0
  have w1 : p1.toInt64 = wL p1.toInt := wL_i2l p1
  have w2 : p2.toInt64 = wL p2.toInt := wL_i2l p2
  simp [S140_0, S140_1, S140_2, S140_3, S140_4, S140_5, S140_6, S140_7, S140_8, BS, ixs, inbs, le_nlt, hM, e2, j0, jx, k76, k77, n0, wu, w0, w1, w2, mul3, nIk, ib, ib0, mB, mB0, u2_rd, wL_mul, wL_add, wL_sub, ← wL_0, q0, is_yesG hM' hM12 hj]
  refine m_reached hr hA hB (fun r h1 h2 L1 f1 => ?_)
  have er := h2.uniq hrk
  subst er
  simp [S140_0, S140_1, S140_2, S140_3, S140_4, S140_5, S140_6, S140_7, S140_8, BS, ixs, inbs, le_nlt, hM, e2, j0, jx, k76, k77, n0, wu, w0, w1, w2, mul3, nIk, ib, ib0, mB, mB0, u2_rd, wL_mul, wL_add, wL_sub, ← wL_0, q0]
  refine m_owns hr (fun L2 f2 v2 => ?_)
  have o0 : L2 92 0 = wL (op A 1 0) := v2 0 (by omega)
  have o1 : L2 92 1 = wL (op A 1 1) := v2 1 (by omega)
  simp [S140_0, S140_1, S140_2, S140_3, S140_4, S140_5, S140_6, S140_7, S140_8, BS, ixs, inbs, le_nlt, hM, e2, j0, jx, k76, k77, n0, wu, w0, w1, w2, mul3, nIk, ib, ib0, mB, mB0, u2_rd, wL_mul, wL_add, wL_sub, ← wL_0, q0, o0, o1]
  refine m_worth1_0 hM' (fun La fa => ?_)
  simp [S140_0, S140_1, S140_2, S140_3, S140_4, S140_5, S140_6, S140_7, S140_8, BS, ixs, inbs, le_nlt, hM, e2, j0, jx, k76, k77, n0, wu, w0, w1, w2, mul3, nIk, ib, ib0, mB, mB0, u2_rd, wL_mul, wL_add, wL_sub, ← wL_0, q0, o0, o1, u2_rd]
  refine m_worth1_m hM' (fun Lb fb => ?_)
  have ea : gw 1 (gG 1 u.toInt A B) (gv 1 A (fun k => if k = 0 then p0.toInt else if k = 1 then p1.toInt else p2.toInt)) 0 = p0.toInt - op A 1 0 := by simp [gw, gv]
  have eb : gw 1 (gG 1 u.toInt A B) (gv 1 A (fun k => if k = 0 then p0.toInt else if k = 1 then p1.toInt else p2.toInt)) 9 = op A 1 1 * u.toInt * B 0 := by simp [gw, gG, pw_0]
  have bi := bn_gw (s := 1) (P := (fun k => if k = 0 then p0.toInt else if k = 1 then p1.toInt else p2.toInt)) hu (by omega) (by omega) hA hB hP 0
  have b9 := bn_gw (s := 1) (P := (fun k => if k = 0 then p0.toInt else if k = 1 then p1.toInt else p2.toInt)) hu (by omega) (by omega) hA hB hP 9
  have gg := go (u2 (u2 Lb 74 28 (wL (fn (gw 1 (gG 1 u.toInt A B) (gv 1 A (fun k => if k = 0 then p0.toInt else if k = 1 then p1.toInt else p2.toInt)) 0) (gw 1 (gG 1 u.toInt A B) (gv 1 A (fun k => if k = 0 then p0.toInt else if k = 1 then p1.toInt else p2.toInt)) 9)))) 74 29 (wL (fd (gw 1 (gG 1 u.toInt A B) (gv 1 A (fun k => if k = 0 then p0.toInt else if k = 1 then p1.toInt else p2.toInt)) 0) (gw 1 (gG 1 u.toInt A B) (gv 1 A (fun k => if k = 0 then p0.toInt else if k = 1 then p1.toInt else p2.toInt)) 9)))) (fun c q1 q2 q3 q4 q5 q6 => by
      rw [u2_ne _ _ _ q1, u2_ne _ _ _ q1, fb c q4, fa c q4]
      repeat (first | rw [u2_ne _ _ _ q5] | rw [u2_ne _ _ _ q3] | rw [f2 c q2] | rw [f1 c q3 q5 q6]))
  simp [S140_0, S140_1, S140_2, S140_3, S140_4, S140_5, S140_6, S140_7, S140_8, BS, ixs, inbs, le_nlt, hM, e2, j0, jx, k76, k77, n0, wu, w0, w1, w2, mul3, nIk, ib, ib0, mB, mB0, u2_rd, wL_mul, wL_add, wL_sub, ← wL_0, q0, o0, o1]
  rw [ea, eb] at gg
  rw [ea] at bi
  rw [eb] at b9 gz
  have lw := fun k pc ls st Q => m_low (n := n) (sl := sl) (Z := Z) (I := I) (L := Lb) (R := R) bi b9 gz c74 k pc ls st Q
  simp [fa, u2_rd, o0, o1] at lw ⊢
  refine (lw _ _ _ _ _).mpr ?_
  simp [S140_0, S140_1, S140_2, S140_3, S140_4, S140_5, S140_6, S140_7, S140_8, S107_0, Call_in (k2 := 107), BS, ixs, inbs, hM, u2_rd]
  exact gg
set_option maxRecDepth 100000 in
set_option maxHeartbeats 8000000 in
theorem m_gain_20_0 {n sl : Nat} {C Z : Nat → Nat} {I : Nat → Nat → Int32} {L : Nat → Nat → Int64} {R : Nat → Nat → Nat} {j : Nat} {u : Int32} {A B K : Nat → Int} {d : Int} {M : Nat} (hr : RM C Z I R j 2 u A B K d) (hM12 : M ≤ 12) (hj : j < M) (e2 : I 74 0 = nI M) (hu : u.toInt = 1 ∨ u.toInt = 2 ∨ u.toInt = 4) (hA : ∀ i, i < 9 → bn 12 (A i)) (hB : ∀ i, i < 3 → bn 12 (B i))  (p0 p1 p2 : Int32) (q0 : ¬ p0 < -100 ∧ ¬ 100 < p0) (q1 : ¬ p1 < -100 ∧ ¬ 100 < p1) (hP : ∀ k, k < 2 → bn 100 ((fun k => if k = 0 then p0.toInt else if k = 1 then p1.toInt else p2.toInt) k)) (hrk : IsRk (pw A B) 3 2) (gz : ¬ gw 2 (gG 2 u.toInt A B) (gv 2 A (fun k => if k = 0 then p0.toInt else if k = 1 then p1.toInt else p2.toInt)) 9 = 0) {Q : Option Value → Hp → Prop} (go : ∀ L', (∀ c, c ≠ 74 → c ≠ 92 → c ≠ 95 → c ≠ 96 → c ≠ 97 → c ≠ 98 → L' c = L c) → Q (some (.long (wL (fn (gw 2 (gG 2 u.toInt A B) (gv 2 A (fun k => if k = 0 then p0.toInt else if k = 1 then p1.toInt else p2.toInt)) 0) (gw 2 (gG 2 u.toInt A B) (gv 2 A (fun k => if k = 0 then p0.toInt else if k = 1 then p1.toInt else p2.toInt)) 9))))) (n, sl, C, Z, I, L', R)) : Wp 140 0 [some (.ref 74), some (.int (nI j)), some (.int p0), some (.int p1), some (.int p2), some (.int 0), some (.int 0), none, none, none, none] [] (n, sl, C, Z, I, L, R) Q := by
  obtain ⟨hM, hj12, hs3, k76, k77, mA, mB, mK, mD, zA, zB⟩ := id hr
  have hM' := hM
  unfold LayM at hM
  have j0 : inb (nI j) 12 = true := by rw [inb_nI (by omega)]; simp; omega
  have jx := ix_nI (show j < 2 ^ 31 by omega)
  have ib : ∀ k, k < 3 → inb (nI (3 * j + k)) 36 = true ∧ ix (nI (3 * j + k)) = 3 * j + k := fun k hk => ⟨by rw [inb_nI (by omega)]; simp; omega, ix_nI (by omega)⟩
  have ib0 : inb (nI (3 * j)) 36 = true ∧ ix (nI (3 * j)) = 3 * j := ib 0 (by omega)
  have mB0 : (I 80 (3 * j)).toInt64 = wL (B 0) := mB 0 (by omega)
  have mK0 : (I 81 (3 * j)).toInt64 = wL (K 0) := mK 0 (by omega)
  have c74 : C 74 = 11 := by simp [hM]
  have n0 : nI 2 = 2 := rfl
  have wu : u.toInt64 = wL u.toInt := wL_i2l u
  have w0 : p0.toInt64 = wL p0.toInt := wL_i2l p0
  have w1 : p1.toInt64 = wL p1.toInt := wL_i2l p1
  have w2 : p2.toInt64 = wL p2.toInt := wL_i2l p2
  simp [S140_0, S140_1, S140_2, S140_3, S140_4, S140_5, S140_6, S140_7, S140_8, BS, ixs, inbs, le_nlt, hM, e2, j0, jx, k76, k77, n0, wu, w0, w1, w2, mul3, nIk, ib, ib0, mB, mB0, u2_rd, wL_mul, wL_add, wL_sub, ← wL_0, q0, q1, is_yesG hM' hM12 hj]
  refine m_reached hr hA hB (fun r h1 h2 L1 f1 => ?_)
  have er := h2.uniq hrk
  subst er
  simp [S140_0, S140_1, S140_2, S140_3, S140_4, S140_5, S140_6, S140_7, S140_8, BS, ixs, inbs, le_nlt, hM, e2, j0, jx, k76, k77, n0, wu, w0, w1, w2, mul3, nIk, ib, ib0, mB, mB0, u2_rd, wL_mul, wL_add, wL_sub, ← wL_0, q0, q1]
  refine m_owns hr (fun L2 f2 v2 => ?_)
  have o0 : L2 92 0 = wL (op A 2 0) := v2 0 (by omega)
  have o1 : L2 92 1 = wL (op A 2 1) := v2 1 (by omega)
  have o2 : L2 92 2 = wL (op A 2 2) := v2 2 (by omega)
  simp [S140_0, S140_1, S140_2, S140_3, S140_4, S140_5, S140_6, S140_7, S140_8, BS, ixs, inbs, le_nlt, hM, e2, j0, jx, k76, k77, n0, wu, w0, w1, w2, mul3, nIk, ib, ib0, mB, mB0, u2_rd, wL_mul, wL_add, wL_sub, ← wL_0, q0, q1, o0, o1, o2]
  refine m_turns hr (v := pw A B 0) (fun i hi => ?_) (fun L3 f3 w3_ => ?_)
  · rcases (by omega : i = 0 ∨ i = 1) with rfl | rfl <;> simp [u2_rd, pw_0]
  have z30 : L3 97 0 = wL (pw A B 1 0) := w3_ 0 (by omega)
  have z31 : L3 97 1 = wL (pw A B 1 1) := w3_ 1 (by omega)
  simp [S140_0, S140_1, S140_2, S140_3, S140_4, S140_5, S140_6, S140_7, S140_8, BS, ixs, inbs, le_nlt, hM, e2, j0, jx, k76, k77, n0, wu, w0, w1, w2, mul3, nIk, ib, ib0, mB, mB0, u2_rd, wL_mul, wL_add, wL_sub, ← wL_0, q0, q1, o0, o1, o2, z30, z31, f3 92, f3 95]
  refine m_worth2_0 hM' (G := gG 2 u.toInt A B) (v := gv 2 A (fun k => if k = 0 then p0.toInt else if k = 1 then p1.toInt else p2.toInt)) (fun e i he hi => ?_) (fun e he => ?_) (fun La fa => ?_)
  · rcases (by omega : e = 0 ∨ e = 1) with rfl | rfl <;> rcases (by omega : i = 0 ∨ i = 1) with rfl | rfl <;> simp [u2_rd, gG, pw_0, z30, z31, f3 92, f3 95]
  · rcases (by omega : e = 0 ∨ e = 1) with rfl | rfl <;> simp [u2_rd, gv, z30, z31, f3 92, f3 95]
  simp [S140_0, S140_1, S140_2, S140_3, S140_4, S140_5, S140_6, S140_7, S140_8, BS, ixs, inbs, le_nlt, hM, e2, j0, jx, k76, k77, n0, wu, w0, w1, w2, mul3, nIk, ib, ib0, mB, mB0, u2_rd, wL_mul, wL_add, wL_sub, ← wL_0, q0, q1, o0, o1, o2]
  refine m_worth2_m hM' (G := gG 2 u.toInt A B) (v := gv 2 A (fun k => if k = 0 then p0.toInt else if k = 1 then p1.toInt else p2.toInt)) (fun e i he hi => ?_) (fun e he => ?_) (fun Lb fb => ?_)
  · rw [fa 95 (by omega)]
    rcases (by omega : e = 0 ∨ e = 1) with rfl | rfl <;> rcases (by omega : i = 0 ∨ i = 1) with rfl | rfl <;> simp [u2_rd, gG, pw_0, z30, z31, f3 92, f3 95]
  · rw [fa 97 (by omega)]
    rcases (by omega : e = 0 ∨ e = 1) with rfl | rfl <;> simp [u2_rd, gv, z30, z31, f3 92, f3 95]
  have bi := bn_gw (s := 2) (P := (fun k => if k = 0 then p0.toInt else if k = 1 then p1.toInt else p2.toInt)) hu (by omega) (by omega) hA hB hP 0
  have b9 := bn_gw (s := 2) (P := (fun k => if k = 0 then p0.toInt else if k = 1 then p1.toInt else p2.toInt)) hu (by omega) (by omega) hA hB hP 9
  have gg := go (u2 (u2 Lb 74 28 (wL (fn (gw 2 (gG 2 u.toInt A B) (gv 2 A (fun k => if k = 0 then p0.toInt else if k = 1 then p1.toInt else p2.toInt)) 0) (gw 2 (gG 2 u.toInt A B) (gv 2 A (fun k => if k = 0 then p0.toInt else if k = 1 then p1.toInt else p2.toInt)) 9)))) 74 29 (wL (fd (gw 2 (gG 2 u.toInt A B) (gv 2 A (fun k => if k = 0 then p0.toInt else if k = 1 then p1.toInt else p2.toInt)) 0) (gw 2 (gG 2 u.toInt A B) (gv 2 A (fun k => if k = 0 then p0.toInt else if k = 1 then p1.toInt else p2.toInt)) 9)))) (fun c q1 q2 q3 q4 q5 q6 => by
      rw [u2_ne _ _ _ q1, u2_ne _ _ _ q1, fb c q4, fa c q4]
      repeat (first | rw [u2_ne _ _ _ q5] | rw [u2_ne _ _ _ q3] | rw [f3 c q5 q6] | rw [f2 c q2] | rw [f1 c q3 q5 q6]))
  simp [S140_0, S140_1, S140_2, S140_3, S140_4, S140_5, S140_6, S140_7, S140_8, BS, ixs, inbs, le_nlt, hM, e2, j0, jx, k76, k77, n0, wu, w0, w1, w2, mul3, nIk, ib, ib0, mB, mB0, u2_rd, wL_mul, wL_add, wL_sub, ← wL_0, q0, q1, o0, o1, o2]
  refine (m_low (a := gw 2 (gG 2 u.toInt A B) (gv 2 A (fun k => if k = 0 then p0.toInt else if k = 1 then p1.toInt else p2.toInt)) 0) (b := gw 2 (gG 2 u.toInt A B) (gv 2 A (fun k => if k = 0 then p0.toInt else if k = 1 then p1.toInt else p2.toInt)) 9) bi b9 gz c74 _ _ _ _ _).mpr ?_
  simp [S140_0, S140_1, S140_2, S140_3, S140_4, S140_5, S140_6, S140_7, S140_8, S107_0, Call_in (k2 := 107), BS, ixs, inbs, hM, u2_rd]
  exact gg
set_option maxRecDepth 100000 in
set_option maxHeartbeats 8000000 in
theorem m_gain_20_1 {n sl : Nat} {C Z : Nat → Nat} {I : Nat → Nat → Int32} {L : Nat → Nat → Int64} {R : Nat → Nat → Nat} {j : Nat} {u : Int32} {A B K : Nat → Int} {d : Int} {M : Nat} (hr : RM C Z I R j 2 u A B K d) (hM12 : M ≤ 12) (hj : j < M) (e2 : I 74 0 = nI M) (hu : u.toInt = 1 ∨ u.toInt = 2 ∨ u.toInt = 4) (hA : ∀ i, i < 9 → bn 12 (A i)) (hB : ∀ i, i < 3 → bn 12 (B i))  (p0 p1 p2 : Int32) (q0 : ¬ p0 < -100 ∧ ¬ 100 < p0) (q1 : ¬ p1 < -100 ∧ ¬ 100 < p1) (hP : ∀ k, k < 2 → bn 100 ((fun k => if k = 0 then p0.toInt else if k = 1 then p1.toInt else p2.toInt) k)) (hrk : IsRk (pw A B) 3 2) (gz : ¬ gw 2 (gG 2 u.toInt A B) (gv 2 A (fun k => if k = 0 then p0.toInt else if k = 1 then p1.toInt else p2.toInt)) 9 = 0) {Q : Option Value → Hp → Prop} (go : ∀ L', (∀ c, c ≠ 74 → c ≠ 92 → c ≠ 95 → c ≠ 96 → c ≠ 97 → c ≠ 98 → L' c = L c) → Q (some (.long (wL (fd (gw 2 (gG 2 u.toInt A B) (gv 2 A (fun k => if k = 0 then p0.toInt else if k = 1 then p1.toInt else p2.toInt)) 0) (gw 2 (gG 2 u.toInt A B) (gv 2 A (fun k => if k = 0 then p0.toInt else if k = 1 then p1.toInt else p2.toInt)) 9))))) (n, sl, C, Z, I, L', R)) : Wp 140 0 [some (.ref 74), some (.int (nI j)), some (.int p0), some (.int p1), some (.int p2), some (.int 0), some (.int 1), none, none, none, none] [] (n, sl, C, Z, I, L, R) Q := by
  obtain ⟨hM, hj12, hs3, k76, k77, mA, mB, mK, mD, zA, zB⟩ := id hr
  have hM' := hM
  unfold LayM at hM
  have j0 : inb (nI j) 12 = true := by rw [inb_nI (by omega)]; simp; omega
  have jx := ix_nI (show j < 2 ^ 31 by omega)
  have ib : ∀ k, k < 3 → inb (nI (3 * j + k)) 36 = true ∧ ix (nI (3 * j + k)) = 3 * j + k := fun k hk => ⟨by rw [inb_nI (by omega)]; simp; omega, ix_nI (by omega)⟩
  have ib0 : inb (nI (3 * j)) 36 = true ∧ ix (nI (3 * j)) = 3 * j := ib 0 (by omega)
  have mB0 : (I 80 (3 * j)).toInt64 = wL (B 0) := mB 0 (by omega)
  have mK0 : (I 81 (3 * j)).toInt64 = wL (K 0) := mK 0 (by omega)
  have c74 : C 74 = 11 := by simp [hM]
  have n0 : nI 2 = 2 := rfl
  have wu : u.toInt64 = wL u.toInt := wL_i2l u
  have w0 : p0.toInt64 = wL p0.toInt := wL_i2l p0
  have w1 : p1.toInt64 = wL p1.toInt := wL_i2l p1
  have w2 : p2.toInt64 = wL p2.toInt := wL_i2l p2
  simp [S140_0, S140_1, S140_2, S140_3, S140_4, S140_5, S140_6, S140_7, S140_8, BS, ixs, inbs, le_nlt, hM, e2, j0, jx, k76, k77, n0, wu, w0, w1, w2, mul3, nIk, ib, ib0, mB, mB0, u2_rd, wL_mul, wL_add, wL_sub, ← wL_0, q0, q1, is_yesG hM' hM12 hj]
  refine m_reached hr hA hB (fun r h1 h2 L1 f1 => ?_)
  have er := h2.uniq hrk
  subst er
  simp [S140_0, S140_1, S140_2, S140_3, S140_4, S140_5, S140_6, S140_7, S140_8, BS, ixs, inbs, le_nlt, hM, e2, j0, jx, k76, k77, n0, wu, w0, w1, w2, mul3, nIk, ib, ib0, mB, mB0, u2_rd, wL_mul, wL_add, wL_sub, ← wL_0, q0, q1]
  refine m_owns hr (fun L2 f2 v2 => ?_)
  have o0 : L2 92 0 = wL (op A 2 0) := v2 0 (by omega)
  have o1 : L2 92 1 = wL (op A 2 1) := v2 1 (by omega)
  have o2 : L2 92 2 = wL (op A 2 2) := v2 2 (by omega)
  simp [S140_0, S140_1, S140_2, S140_3, S140_4, S140_5, S140_6, S140_7, S140_8, BS, ixs, inbs, le_nlt, hM, e2, j0, jx, k76, k77, n0, wu, w0, w1, w2, mul3, nIk, ib, ib0, mB, mB0, u2_rd, wL_mul, wL_add, wL_sub, ← wL_0, q0, q1, o0, o1, o2]
  refine m_turns hr (v := pw A B 0) (fun i hi => ?_) (fun L3 f3 w3_ => ?_)
  · rcases (by omega : i = 0 ∨ i = 1) with rfl | rfl <;> simp [u2_rd, pw_0]
  have z30 : L3 97 0 = wL (pw A B 1 0) := w3_ 0 (by omega)
  have z31 : L3 97 1 = wL (pw A B 1 1) := w3_ 1 (by omega)
  simp [S140_0, S140_1, S140_2, S140_3, S140_4, S140_5, S140_6, S140_7, S140_8, BS, ixs, inbs, le_nlt, hM, e2, j0, jx, k76, k77, n0, wu, w0, w1, w2, mul3, nIk, ib, ib0, mB, mB0, u2_rd, wL_mul, wL_add, wL_sub, ← wL_0, q0, q1, o0, o1, o2, z30, z31, f3 92, f3 95]
  refine m_worth2_0 hM' (G := gG 2 u.toInt A B) (v := gv 2 A (fun k => if k = 0 then p0.toInt else if k = 1 then p1.toInt else p2.toInt)) (fun e i he hi => ?_) (fun e he => ?_) (fun La fa => ?_)
  · rcases (by omega : e = 0 ∨ e = 1) with rfl | rfl <;> rcases (by omega : i = 0 ∨ i = 1) with rfl | rfl <;> simp [u2_rd, gG, pw_0, z30, z31, f3 92, f3 95]
  · rcases (by omega : e = 0 ∨ e = 1) with rfl | rfl <;> simp [u2_rd, gv, z30, z31, f3 92, f3 95]
  simp [S140_0, S140_1, S140_2, S140_3, S140_4, S140_5, S140_6, S140_7, S140_8, BS, ixs, inbs, le_nlt, hM, e2, j0, jx, k76, k77, n0, wu, w0, w1, w2, mul3, nIk, ib, ib0, mB, mB0, u2_rd, wL_mul, wL_add, wL_sub, ← wL_0, q0, q1, o0, o1, o2]
  refine m_worth2_m hM' (G := gG 2 u.toInt A B) (v := gv 2 A (fun k => if k = 0 then p0.toInt else if k = 1 then p1.toInt else p2.toInt)) (fun e i he hi => ?_) (fun e he => ?_) (fun Lb fb => ?_)
  · rw [fa 95 (by omega)]
    rcases (by omega : e = 0 ∨ e = 1) with rfl | rfl <;> rcases (by omega : i = 0 ∨ i = 1) with rfl | rfl <;> simp [u2_rd, gG, pw_0, z30, z31, f3 92, f3 95]
  · rw [fa 97 (by omega)]
    rcases (by omega : e = 0 ∨ e = 1) with rfl | rfl <;> simp [u2_rd, gv, z30, z31, f3 92, f3 95]
  have bi := bn_gw (s := 2) (P := (fun k => if k = 0 then p0.toInt else if k = 1 then p1.toInt else p2.toInt)) hu (by omega) (by omega) hA hB hP 0
  have b9 := bn_gw (s := 2) (P := (fun k => if k = 0 then p0.toInt else if k = 1 then p1.toInt else p2.toInt)) hu (by omega) (by omega) hA hB hP 9
  have gg := go (u2 (u2 Lb 74 28 (wL (fn (gw 2 (gG 2 u.toInt A B) (gv 2 A (fun k => if k = 0 then p0.toInt else if k = 1 then p1.toInt else p2.toInt)) 0) (gw 2 (gG 2 u.toInt A B) (gv 2 A (fun k => if k = 0 then p0.toInt else if k = 1 then p1.toInt else p2.toInt)) 9)))) 74 29 (wL (fd (gw 2 (gG 2 u.toInt A B) (gv 2 A (fun k => if k = 0 then p0.toInt else if k = 1 then p1.toInt else p2.toInt)) 0) (gw 2 (gG 2 u.toInt A B) (gv 2 A (fun k => if k = 0 then p0.toInt else if k = 1 then p1.toInt else p2.toInt)) 9)))) (fun c q1 q2 q3 q4 q5 q6 => by
      rw [u2_ne _ _ _ q1, u2_ne _ _ _ q1, fb c q4, fa c q4]
      repeat (first | rw [u2_ne _ _ _ q5] | rw [u2_ne _ _ _ q3] | rw [f3 c q5 q6] | rw [f2 c q2] | rw [f1 c q3 q5 q6]))
  simp [S140_0, S140_1, S140_2, S140_3, S140_4, S140_5, S140_6, S140_7, S140_8, BS, ixs, inbs, le_nlt, hM, e2, j0, jx, k76, k77, n0, wu, w0, w1, w2, mul3, nIk, ib, ib0, mB, mB0, u2_rd, wL_mul, wL_add, wL_sub, ← wL_0, q0, q1, o0, o1, o2]
  refine (m_low (a := gw 2 (gG 2 u.toInt A B) (gv 2 A (fun k => if k = 0 then p0.toInt else if k = 1 then p1.toInt else p2.toInt)) 0) (b := gw 2 (gG 2 u.toInt A B) (gv 2 A (fun k => if k = 0 then p0.toInt else if k = 1 then p1.toInt else p2.toInt)) 9) bi b9 gz c74 _ _ _ _ _).mpr ?_
  simp [S140_0, S140_1, S140_2, S140_3, S140_4, S140_5, S140_6, S140_7, S140_8, S107_0, Call_in (k2 := 107), BS, ixs, inbs, hM, u2_rd]
  exact gg
set_option maxRecDepth 100000 in
set_option maxHeartbeats 8000000 in
theorem m_gain_21_0 {n sl : Nat} {C Z : Nat → Nat} {I : Nat → Nat → Int32} {L : Nat → Nat → Int64} {R : Nat → Nat → Nat} {j : Nat} {u : Int32} {A B K : Nat → Int} {d : Int} {M : Nat} (hr : RM C Z I R j 2 u A B K d) (hM12 : M ≤ 12) (hj : j < M) (e2 : I 74 0 = nI M) (hu : u.toInt = 1 ∨ u.toInt = 2 ∨ u.toInt = 4) (hA : ∀ i, i < 9 → bn 12 (A i)) (hB : ∀ i, i < 3 → bn 12 (B i))  (p0 p1 p2 : Int32) (q0 : ¬ p0 < -100 ∧ ¬ 100 < p0) (q1 : ¬ p1 < -100 ∧ ¬ 100 < p1) (hP : ∀ k, k < 2 → bn 100 ((fun k => if k = 0 then p0.toInt else if k = 1 then p1.toInt else p2.toInt) k)) (hrk : IsRk (pw A B) 3 2) (gz : ¬ gw 2 (gG 2 u.toInt A B) (gv 2 A (fun k => if k = 0 then p0.toInt else if k = 1 then p1.toInt else p2.toInt)) 9 = 0) {Q : Option Value → Hp → Prop} (go : ∀ L', (∀ c, c ≠ 74 → c ≠ 92 → c ≠ 95 → c ≠ 96 → c ≠ 97 → c ≠ 98 → L' c = L c) → Q (some (.long (wL (fn (gw 2 (gG 2 u.toInt A B) (gv 2 A (fun k => if k = 0 then p0.toInt else if k = 1 then p1.toInt else p2.toInt)) 1) (gw 2 (gG 2 u.toInt A B) (gv 2 A (fun k => if k = 0 then p0.toInt else if k = 1 then p1.toInt else p2.toInt)) 9))))) (n, sl, C, Z, I, L', R)) : Wp 140 0 [some (.ref 74), some (.int (nI j)), some (.int p0), some (.int p1), some (.int p2), some (.int 1), some (.int 0), none, none, none, none] [] (n, sl, C, Z, I, L, R) Q := by
  obtain ⟨hM, hj12, hs3, k76, k77, mA, mB, mK, mD, zA, zB⟩ := id hr
  have hM' := hM
  unfold LayM at hM
  have j0 : inb (nI j) 12 = true := by rw [inb_nI (by omega)]; simp; omega
  have jx := ix_nI (show j < 2 ^ 31 by omega)
  have ib : ∀ k, k < 3 → inb (nI (3 * j + k)) 36 = true ∧ ix (nI (3 * j + k)) = 3 * j + k := fun k hk => ⟨by rw [inb_nI (by omega)]; simp; omega, ix_nI (by omega)⟩
  have ib0 : inb (nI (3 * j)) 36 = true ∧ ix (nI (3 * j)) = 3 * j := ib 0 (by omega)
  have mB0 : (I 80 (3 * j)).toInt64 = wL (B 0) := mB 0 (by omega)
  have mK0 : (I 81 (3 * j)).toInt64 = wL (K 0) := mK 0 (by omega)
  have c74 : C 74 = 11 := by simp [hM]
  have n0 : nI 2 = 2 := rfl
  have wu : u.toInt64 = wL u.toInt := wL_i2l u
  have w0 : p0.toInt64 = wL p0.toInt := wL_i2l p0
  have w1 : p1.toInt64 = wL p1.toInt := wL_i2l p1
  have w2 : p2.toInt64 = wL p2.toInt := wL_i2l p2
  simp [S140_0, S140_1, S140_2, S140_3, S140_4, S140_5, S140_6, S140_7, S140_8, BS, ixs, inbs, le_nlt, hM, e2, j0, jx, k76, k77, n0, wu, w0, w1, w2, mul3, nIk, ib, ib0, mB, mB0, u2_rd, wL_mul, wL_add, wL_sub, ← wL_0, q0, q1, is_yesG hM' hM12 hj]
  refine m_reached hr hA hB (fun r h1 h2 L1 f1 => ?_)
  have er := h2.uniq hrk
  subst er
  simp [S140_0, S140_1, S140_2, S140_3, S140_4, S140_5, S140_6, S140_7, S140_8, BS, ixs, inbs, le_nlt, hM, e2, j0, jx, k76, k77, n0, wu, w0, w1, w2, mul3, nIk, ib, ib0, mB, mB0, u2_rd, wL_mul, wL_add, wL_sub, ← wL_0, q0, q1]
  refine m_owns hr (fun L2 f2 v2 => ?_)
  have o0 : L2 92 0 = wL (op A 2 0) := v2 0 (by omega)
  have o1 : L2 92 1 = wL (op A 2 1) := v2 1 (by omega)
  have o2 : L2 92 2 = wL (op A 2 2) := v2 2 (by omega)
  simp [S140_0, S140_1, S140_2, S140_3, S140_4, S140_5, S140_6, S140_7, S140_8, BS, ixs, inbs, le_nlt, hM, e2, j0, jx, k76, k77, n0, wu, w0, w1, w2, mul3, nIk, ib, ib0, mB, mB0, u2_rd, wL_mul, wL_add, wL_sub, ← wL_0, q0, q1, o0, o1, o2]
  refine m_turns hr (v := pw A B 0) (fun i hi => ?_) (fun L3 f3 w3_ => ?_)
  · rcases (by omega : i = 0 ∨ i = 1) with rfl | rfl <;> simp [u2_rd, pw_0]
  have z30 : L3 97 0 = wL (pw A B 1 0) := w3_ 0 (by omega)
  have z31 : L3 97 1 = wL (pw A B 1 1) := w3_ 1 (by omega)
  simp [S140_0, S140_1, S140_2, S140_3, S140_4, S140_5, S140_6, S140_7, S140_8, BS, ixs, inbs, le_nlt, hM, e2, j0, jx, k76, k77, n0, wu, w0, w1, w2, mul3, nIk, ib, ib0, mB, mB0, u2_rd, wL_mul, wL_add, wL_sub, ← wL_0, q0, q1, o0, o1, o2, z30, z31, f3 92, f3 95]
  refine m_worth2_1 hM' (G := gG 2 u.toInt A B) (v := gv 2 A (fun k => if k = 0 then p0.toInt else if k = 1 then p1.toInt else p2.toInt)) (fun e i he hi => ?_) (fun e he => ?_) (fun La fa => ?_)
  · rcases (by omega : e = 0 ∨ e = 1) with rfl | rfl <;> rcases (by omega : i = 0 ∨ i = 1) with rfl | rfl <;> simp [u2_rd, gG, pw_0, z30, z31, f3 92, f3 95]
  · rcases (by omega : e = 0 ∨ e = 1) with rfl | rfl <;> simp [u2_rd, gv, z30, z31, f3 92, f3 95]
  simp [S140_0, S140_1, S140_2, S140_3, S140_4, S140_5, S140_6, S140_7, S140_8, BS, ixs, inbs, le_nlt, hM, e2, j0, jx, k76, k77, n0, wu, w0, w1, w2, mul3, nIk, ib, ib0, mB, mB0, u2_rd, wL_mul, wL_add, wL_sub, ← wL_0, q0, q1, o0, o1, o2]
  refine m_worth2_m hM' (G := gG 2 u.toInt A B) (v := gv 2 A (fun k => if k = 0 then p0.toInt else if k = 1 then p1.toInt else p2.toInt)) (fun e i he hi => ?_) (fun e he => ?_) (fun Lb fb => ?_)
  · rw [fa 95 (by omega)]
    rcases (by omega : e = 0 ∨ e = 1) with rfl | rfl <;> rcases (by omega : i = 0 ∨ i = 1) with rfl | rfl <;> simp [u2_rd, gG, pw_0, z30, z31, f3 92, f3 95]
  · rw [fa 97 (by omega)]
    rcases (by omega : e = 0 ∨ e = 1) with rfl | rfl <;> simp [u2_rd, gv, z30, z31, f3 92, f3 95]
  have bi := bn_gw (s := 2) (P := (fun k => if k = 0 then p0.toInt else if k = 1 then p1.toInt else p2.toInt)) hu (by omega) (by omega) hA hB hP 1
  have b9 := bn_gw (s := 2) (P := (fun k => if k = 0 then p0.toInt else if k = 1 then p1.toInt else p2.toInt)) hu (by omega) (by omega) hA hB hP 9
  have gg := go (u2 (u2 Lb 74 28 (wL (fn (gw 2 (gG 2 u.toInt A B) (gv 2 A (fun k => if k = 0 then p0.toInt else if k = 1 then p1.toInt else p2.toInt)) 1) (gw 2 (gG 2 u.toInt A B) (gv 2 A (fun k => if k = 0 then p0.toInt else if k = 1 then p1.toInt else p2.toInt)) 9)))) 74 29 (wL (fd (gw 2 (gG 2 u.toInt A B) (gv 2 A (fun k => if k = 0 then p0.toInt else if k = 1 then p1.toInt else p2.toInt)) 1) (gw 2 (gG 2 u.toInt A B) (gv 2 A (fun k => if k = 0 then p0.toInt else if k = 1 then p1.toInt else p2.toInt)) 9)))) (fun c q1 q2 q3 q4 q5 q6 => by
      rw [u2_ne _ _ _ q1, u2_ne _ _ _ q1, fb c q4, fa c q4]
      repeat (first | rw [u2_ne _ _ _ q5] | rw [u2_ne _ _ _ q3] | rw [f3 c q5 q6] | rw [f2 c q2] | rw [f1 c q3 q5 q6]))
  simp [S140_0, S140_1, S140_2, S140_3, S140_4, S140_5, S140_6, S140_7, S140_8, BS, ixs, inbs, le_nlt, hM, e2, j0, jx, k76, k77, n0, wu, w0, w1, w2, mul3, nIk, ib, ib0, mB, mB0, u2_rd, wL_mul, wL_add, wL_sub, ← wL_0, q0, q1, o0, o1, o2]
  refine (m_low (a := gw 2 (gG 2 u.toInt A B) (gv 2 A (fun k => if k = 0 then p0.toInt else if k = 1 then p1.toInt else p2.toInt)) 1) (b := gw 2 (gG 2 u.toInt A B) (gv 2 A (fun k => if k = 0 then p0.toInt else if k = 1 then p1.toInt else p2.toInt)) 9) bi b9 gz c74 _ _ _ _ _).mpr ?_
  simp [S140_0, S140_1, S140_2, S140_3, S140_4, S140_5, S140_6, S140_7, S140_8, S107_0, Call_in (k2 := 107), BS, ixs, inbs, hM, u2_rd]
  exact gg
set_option maxRecDepth 100000 in
set_option maxHeartbeats 8000000 in
theorem m_gain_21_1 {n sl : Nat} {C Z : Nat → Nat} {I : Nat → Nat → Int32} {L : Nat → Nat → Int64} {R : Nat → Nat → Nat} {j : Nat} {u : Int32} {A B K : Nat → Int} {d : Int} {M : Nat} (hr : RM C Z I R j 2 u A B K d) (hM12 : M ≤ 12) (hj : j < M) (e2 : I 74 0 = nI M) (hu : u.toInt = 1 ∨ u.toInt = 2 ∨ u.toInt = 4) (hA : ∀ i, i < 9 → bn 12 (A i)) (hB : ∀ i, i < 3 → bn 12 (B i))  (p0 p1 p2 : Int32) (q0 : ¬ p0 < -100 ∧ ¬ 100 < p0) (q1 : ¬ p1 < -100 ∧ ¬ 100 < p1) (hP : ∀ k, k < 2 → bn 100 ((fun k => if k = 0 then p0.toInt else if k = 1 then p1.toInt else p2.toInt) k)) (hrk : IsRk (pw A B) 3 2) (gz : ¬ gw 2 (gG 2 u.toInt A B) (gv 2 A (fun k => if k = 0 then p0.toInt else if k = 1 then p1.toInt else p2.toInt)) 9 = 0) {Q : Option Value → Hp → Prop} (go : ∀ L', (∀ c, c ≠ 74 → c ≠ 92 → c ≠ 95 → c ≠ 96 → c ≠ 97 → c ≠ 98 → L' c = L c) → Q (some (.long (wL (fd (gw 2 (gG 2 u.toInt A B) (gv 2 A (fun k => if k = 0 then p0.toInt else if k = 1 then p1.toInt else p2.toInt)) 1) (gw 2 (gG 2 u.toInt A B) (gv 2 A (fun k => if k = 0 then p0.toInt else if k = 1 then p1.toInt else p2.toInt)) 9))))) (n, sl, C, Z, I, L', R)) : Wp 140 0 [some (.ref 74), some (.int (nI j)), some (.int p0), some (.int p1), some (.int p2), some (.int 1), some (.int 1), none, none, none, none] [] (n, sl, C, Z, I, L, R) Q := by
  obtain ⟨hM, hj12, hs3, k76, k77, mA, mB, mK, mD, zA, zB⟩ := id hr
  have hM' := hM
  unfold LayM at hM
  have j0 : inb (nI j) 12 = true := by rw [inb_nI (by omega)]; simp; omega
  have jx := ix_nI (show j < 2 ^ 31 by omega)
  have ib : ∀ k, k < 3 → inb (nI (3 * j + k)) 36 = true ∧ ix (nI (3 * j + k)) = 3 * j + k := fun k hk => ⟨by rw [inb_nI (by omega)]; simp; omega, ix_nI (by omega)⟩
  have ib0 : inb (nI (3 * j)) 36 = true ∧ ix (nI (3 * j)) = 3 * j := ib 0 (by omega)
  have mB0 : (I 80 (3 * j)).toInt64 = wL (B 0) := mB 0 (by omega)
  have mK0 : (I 81 (3 * j)).toInt64 = wL (K 0) := mK 0 (by omega)
  have c74 : C 74 = 11 := by simp [hM]
  have n0 : nI 2 = 2 := rfl
  have wu : u.toInt64 = wL u.toInt := wL_i2l u
  have w0 : p0.toInt64 = wL p0.toInt := wL_i2l p0
  have w1 : p1.toInt64 = wL p1.toInt := wL_i2l p1
  have w2 : p2.toInt64 = wL p2.toInt := wL_i2l p2
  simp [S140_0, S140_1, S140_2, S140_3, S140_4, S140_5, S140_6, S140_7, S140_8, BS, ixs, inbs, le_nlt, hM, e2, j0, jx, k76, k77, n0, wu, w0, w1, w2, mul3, nIk, ib, ib0, mB, mB0, u2_rd, wL_mul, wL_add, wL_sub, ← wL_0, q0, q1, is_yesG hM' hM12 hj]
  refine m_reached hr hA hB (fun r h1 h2 L1 f1 => ?_)
  have er := h2.uniq hrk
  subst er
  simp [S140_0, S140_1, S140_2, S140_3, S140_4, S140_5, S140_6, S140_7, S140_8, BS, ixs, inbs, le_nlt, hM, e2, j0, jx, k76, k77, n0, wu, w0, w1, w2, mul3, nIk, ib, ib0, mB, mB0, u2_rd, wL_mul, wL_add, wL_sub, ← wL_0, q0, q1]
  refine m_owns hr (fun L2 f2 v2 => ?_)
  have o0 : L2 92 0 = wL (op A 2 0) := v2 0 (by omega)
  have o1 : L2 92 1 = wL (op A 2 1) := v2 1 (by omega)
  have o2 : L2 92 2 = wL (op A 2 2) := v2 2 (by omega)
  simp [S140_0, S140_1, S140_2, S140_3, S140_4, S140_5, S140_6, S140_7, S140_8, BS, ixs, inbs, le_nlt, hM, e2, j0, jx, k76, k77, n0, wu, w0, w1, w2, mul3, nIk, ib, ib0, mB, mB0, u2_rd, wL_mul, wL_add, wL_sub, ← wL_0, q0, q1, o0, o1, o2]
  refine m_turns hr (v := pw A B 0) (fun i hi => ?_) (fun L3 f3 w3_ => ?_)
  · rcases (by omega : i = 0 ∨ i = 1) with rfl | rfl <;> simp [u2_rd, pw_0]
  have z30 : L3 97 0 = wL (pw A B 1 0) := w3_ 0 (by omega)
  have z31 : L3 97 1 = wL (pw A B 1 1) := w3_ 1 (by omega)
  simp [S140_0, S140_1, S140_2, S140_3, S140_4, S140_5, S140_6, S140_7, S140_8, BS, ixs, inbs, le_nlt, hM, e2, j0, jx, k76, k77, n0, wu, w0, w1, w2, mul3, nIk, ib, ib0, mB, mB0, u2_rd, wL_mul, wL_add, wL_sub, ← wL_0, q0, q1, o0, o1, o2, z30, z31, f3 92, f3 95]
  refine m_worth2_1 hM' (G := gG 2 u.toInt A B) (v := gv 2 A (fun k => if k = 0 then p0.toInt else if k = 1 then p1.toInt else p2.toInt)) (fun e i he hi => ?_) (fun e he => ?_) (fun La fa => ?_)
  · rcases (by omega : e = 0 ∨ e = 1) with rfl | rfl <;> rcases (by omega : i = 0 ∨ i = 1) with rfl | rfl <;> simp [u2_rd, gG, pw_0, z30, z31, f3 92, f3 95]
  · rcases (by omega : e = 0 ∨ e = 1) with rfl | rfl <;> simp [u2_rd, gv, z30, z31, f3 92, f3 95]
  simp [S140_0, S140_1, S140_2, S140_3, S140_4, S140_5, S140_6, S140_7, S140_8, BS, ixs, inbs, le_nlt, hM, e2, j0, jx, k76, k77, n0, wu, w0, w1, w2, mul3, nIk, ib, ib0, mB, mB0, u2_rd, wL_mul, wL_add, wL_sub, ← wL_0, q0, q1, o0, o1, o2]
  refine m_worth2_m hM' (G := gG 2 u.toInt A B) (v := gv 2 A (fun k => if k = 0 then p0.toInt else if k = 1 then p1.toInt else p2.toInt)) (fun e i he hi => ?_) (fun e he => ?_) (fun Lb fb => ?_)
  · rw [fa 95 (by omega)]
    rcases (by omega : e = 0 ∨ e = 1) with rfl | rfl <;> rcases (by omega : i = 0 ∨ i = 1) with rfl | rfl <;> simp [u2_rd, gG, pw_0, z30, z31, f3 92, f3 95]
  · rw [fa 97 (by omega)]
    rcases (by omega : e = 0 ∨ e = 1) with rfl | rfl <;> simp [u2_rd, gv, z30, z31, f3 92, f3 95]
  have bi := bn_gw (s := 2) (P := (fun k => if k = 0 then p0.toInt else if k = 1 then p1.toInt else p2.toInt)) hu (by omega) (by omega) hA hB hP 1
  have b9 := bn_gw (s := 2) (P := (fun k => if k = 0 then p0.toInt else if k = 1 then p1.toInt else p2.toInt)) hu (by omega) (by omega) hA hB hP 9
  have gg := go (u2 (u2 Lb 74 28 (wL (fn (gw 2 (gG 2 u.toInt A B) (gv 2 A (fun k => if k = 0 then p0.toInt else if k = 1 then p1.toInt else p2.toInt)) 1) (gw 2 (gG 2 u.toInt A B) (gv 2 A (fun k => if k = 0 then p0.toInt else if k = 1 then p1.toInt else p2.toInt)) 9)))) 74 29 (wL (fd (gw 2 (gG 2 u.toInt A B) (gv 2 A (fun k => if k = 0 then p0.toInt else if k = 1 then p1.toInt else p2.toInt)) 1) (gw 2 (gG 2 u.toInt A B) (gv 2 A (fun k => if k = 0 then p0.toInt else if k = 1 then p1.toInt else p2.toInt)) 9)))) (fun c q1 q2 q3 q4 q5 q6 => by
      rw [u2_ne _ _ _ q1, u2_ne _ _ _ q1, fb c q4, fa c q4]
      repeat (first | rw [u2_ne _ _ _ q5] | rw [u2_ne _ _ _ q3] | rw [f3 c q5 q6] | rw [f2 c q2] | rw [f1 c q3 q5 q6]))
  simp [S140_0, S140_1, S140_2, S140_3, S140_4, S140_5, S140_6, S140_7, S140_8, BS, ixs, inbs, le_nlt, hM, e2, j0, jx, k76, k77, n0, wu, w0, w1, w2, mul3, nIk, ib, ib0, mB, mB0, u2_rd, wL_mul, wL_add, wL_sub, ← wL_0, q0, q1, o0, o1, o2]
  refine (m_low (a := gw 2 (gG 2 u.toInt A B) (gv 2 A (fun k => if k = 0 then p0.toInt else if k = 1 then p1.toInt else p2.toInt)) 1) (b := gw 2 (gG 2 u.toInt A B) (gv 2 A (fun k => if k = 0 then p0.toInt else if k = 1 then p1.toInt else p2.toInt)) 9) bi b9 gz c74 _ _ _ _ _).mpr ?_
  simp [S140_0, S140_1, S140_2, S140_3, S140_4, S140_5, S140_6, S140_7, S140_8, S107_0, Call_in (k2 := 107), BS, ixs, inbs, hM, u2_rd]
  exact gg
set_option maxRecDepth 100000 in
set_option maxHeartbeats 8000000 in
theorem m_gain_30_0 {n sl : Nat} {C Z : Nat → Nat} {I : Nat → Nat → Int32} {L : Nat → Nat → Int64} {R : Nat → Nat → Nat} {j : Nat} {u : Int32} {A B K : Nat → Int} {d : Int} {M : Nat} (hr : RM C Z I R j 3 u A B K d) (hM12 : M ≤ 12) (hj : j < M) (e2 : I 74 0 = nI M) (hu : u.toInt = 1 ∨ u.toInt = 2 ∨ u.toInt = 4) (hA : ∀ i, i < 9 → bn 12 (A i)) (hB : ∀ i, i < 3 → bn 12 (B i))  (p0 p1 p2 : Int32) (q0 : ¬ p0 < -100 ∧ ¬ 100 < p0) (q1 : ¬ p1 < -100 ∧ ¬ 100 < p1) (q2 : ¬ p2 < -100 ∧ ¬ 100 < p2) (hP : ∀ k, k < 3 → bn 100 ((fun k => if k = 0 then p0.toInt else if k = 1 then p1.toInt else p2.toInt) k)) (hrk : IsRk (pw A B) 3 3) (gz : ¬ gw 3 (gG 3 u.toInt A B) (gv 3 A (fun k => if k = 0 then p0.toInt else if k = 1 then p1.toInt else p2.toInt)) 9 = 0) {Q : Option Value → Hp → Prop} (go : ∀ L', (∀ c, c ≠ 74 → c ≠ 92 → c ≠ 95 → c ≠ 96 → c ≠ 97 → c ≠ 98 → L' c = L c) → Q (some (.long (wL (fn (gw 3 (gG 3 u.toInt A B) (gv 3 A (fun k => if k = 0 then p0.toInt else if k = 1 then p1.toInt else p2.toInt)) 0) (gw 3 (gG 3 u.toInt A B) (gv 3 A (fun k => if k = 0 then p0.toInt else if k = 1 then p1.toInt else p2.toInt)) 9))))) (n, sl, C, Z, I, L', R)) : Wp 140 0 [some (.ref 74), some (.int (nI j)), some (.int p0), some (.int p1), some (.int p2), some (.int 0), some (.int 0), none, none, none, none] [] (n, sl, C, Z, I, L, R) Q := by
  obtain ⟨hM, hj12, hs3, k76, k77, mA, mB, mK, mD, zA, zB⟩ := id hr
  have hM' := hM
  unfold LayM at hM
  have j0 : inb (nI j) 12 = true := by rw [inb_nI (by omega)]; simp; omega
  have jx := ix_nI (show j < 2 ^ 31 by omega)
  have ib : ∀ k, k < 3 → inb (nI (3 * j + k)) 36 = true ∧ ix (nI (3 * j + k)) = 3 * j + k := fun k hk => ⟨by rw [inb_nI (by omega)]; simp; omega, ix_nI (by omega)⟩
  have ib0 : inb (nI (3 * j)) 36 = true ∧ ix (nI (3 * j)) = 3 * j := ib 0 (by omega)
  have mB0 : (I 80 (3 * j)).toInt64 = wL (B 0) := mB 0 (by omega)
  have mK0 : (I 81 (3 * j)).toInt64 = wL (K 0) := mK 0 (by omega)
  have c74 : C 74 = 11 := by simp [hM]
  have n0 : nI 3 = 3 := rfl
  have wu : u.toInt64 = wL u.toInt := wL_i2l u
  have w0 : p0.toInt64 = wL p0.toInt := wL_i2l p0
  have w1 : p1.toInt64 = wL p1.toInt := wL_i2l p1
  have w2 : p2.toInt64 = wL p2.toInt := wL_i2l p2
  simp [S140_0, S140_1, S140_2, S140_3, S140_4, S140_5, S140_6, S140_7, S140_8, BS, ixs, inbs, le_nlt, hM, e2, j0, jx, k76, k77, n0, wu, w0, w1, w2, mul3, nIk, ib, ib0, mB, mB0, u2_rd, wL_mul, wL_add, wL_sub, ← wL_0, q0, q1, q2, is_yesG hM' hM12 hj]
  refine m_reached hr hA hB (fun r h1 h2 L1 f1 => ?_)
  have er := h2.uniq hrk
  subst er
  simp [S140_0, S140_1, S140_2, S140_3, S140_4, S140_5, S140_6, S140_7, S140_8, BS, ixs, inbs, le_nlt, hM, e2, j0, jx, k76, k77, n0, wu, w0, w1, w2, mul3, nIk, ib, ib0, mB, mB0, u2_rd, wL_mul, wL_add, wL_sub, ← wL_0, q0, q1, q2]
  refine m_owns hr (fun L2 f2 v2 => ?_)
  have o0 : L2 92 0 = wL (op A 3 0) := v2 0 (by omega)
  have o1 : L2 92 1 = wL (op A 3 1) := v2 1 (by omega)
  have o2 : L2 92 2 = wL (op A 3 2) := v2 2 (by omega)
  have o3 : L2 92 3 = wL (op A 3 3) := v2 3 (by omega)
  simp [S140_0, S140_1, S140_2, S140_3, S140_4, S140_5, S140_6, S140_7, S140_8, BS, ixs, inbs, le_nlt, hM, e2, j0, jx, k76, k77, n0, wu, w0, w1, w2, mul3, nIk, ib, ib0, mB, mB0, u2_rd, wL_mul, wL_add, wL_sub, ← wL_0, q0, q1, q2, o0, o1, o2, o3]
  refine m_turns hr (v := pw A B 0) (fun i hi => ?_) (fun L3 f3 w3_ => ?_)
  · rcases (by omega : i = 0 ∨ i = 1 ∨ i = 2) with rfl | rfl | rfl <;> simp [u2_rd, pw_0]
  have z30 : L3 97 0 = wL (pw A B 1 0) := w3_ 0 (by omega)
  have z31 : L3 97 1 = wL (pw A B 1 1) := w3_ 1 (by omega)
  have z32 : L3 97 2 = wL (pw A B 1 2) := w3_ 2 (by omega)
  simp [S140_0, S140_1, S140_2, S140_3, S140_4, S140_5, S140_6, S140_7, S140_8, BS, ixs, inbs, le_nlt, hM, e2, j0, jx, k76, k77, n0, wu, w0, w1, w2, mul3, nIk, ib, ib0, mB, mB0, u2_rd, wL_mul, wL_add, wL_sub, ← wL_0, q0, q1, q2, o0, o1, o2, o3, z30, z31, z32, f3 92, f3 95]
  refine m_turns hr (v := pw A B 0) (fun i hi => ?_) (fun L4 f4 w4_ => ?_)
  · rcases (by omega : i = 0 ∨ i = 1 ∨ i = 2) with rfl | rfl | rfl <;> simp [u2_rd, pw_0, z30, z31, z32, f3 92, f3 95]
  have z40 : L4 97 0 = wL (pw A B 1 0) := w4_ 0 (by omega)
  have z41 : L4 97 1 = wL (pw A B 1 1) := w4_ 1 (by omega)
  have z42 : L4 97 2 = wL (pw A B 1 2) := w4_ 2 (by omega)
  simp [S140_0, S140_1, S140_2, S140_3, S140_4, S140_5, S140_6, S140_7, S140_8, BS, ixs, inbs, le_nlt, hM, e2, j0, jx, k76, k77, n0, wu, w0, w1, w2, mul3, nIk, ib, ib0, mB, mB0, u2_rd, wL_mul, wL_add, wL_sub, ← wL_0, q0, q1, q2, o0, o1, o2, o3, z30, z31, z32, f3 92, f3 95, z40, z41, z42, f4 92, f4 95]
  refine m_turns hr (v := pw A B 1) (fun i hi => ?_) (fun L5 f5 w5_ => ?_)
  · rcases (by omega : i = 0 ∨ i = 1 ∨ i = 2) with rfl | rfl | rfl <;> simp [u2_rd, pw_0, z30, z31, z32, f3 92, f3 95, z40, z41, z42, f4 92, f4 95]
  have z50 : L5 97 0 = wL (pw A B 2 0) := w5_ 0 (by omega)
  have z51 : L5 97 1 = wL (pw A B 2 1) := w5_ 1 (by omega)
  have z52 : L5 97 2 = wL (pw A B 2 2) := w5_ 2 (by omega)
  simp [S140_0, S140_1, S140_2, S140_3, S140_4, S140_5, S140_6, S140_7, S140_8, BS, ixs, inbs, le_nlt, hM, e2, j0, jx, k76, k77, n0, wu, w0, w1, w2, mul3, nIk, ib, ib0, mB, mB0, u2_rd, wL_mul, wL_add, wL_sub, ← wL_0, q0, q1, q2, o0, o1, o2, o3, z30, z31, z32, f3 92, f3 95, z40, z41, z42, f4 92, f4 95, z50, z51, z52, f5 92, f5 95]
  refine m_turns hr (v := pw A B 0) (fun i hi => ?_) (fun L6 f6 w6_ => ?_)
  · rcases (by omega : i = 0 ∨ i = 1 ∨ i = 2) with rfl | rfl | rfl <;> simp [u2_rd, pw_0, z30, z31, z32, f3 92, f3 95, z40, z41, z42, f4 92, f4 95, z50, z51, z52, f5 92, f5 95]
  have z60 : L6 97 0 = wL (pw A B 1 0) := w6_ 0 (by omega)
  have z61 : L6 97 1 = wL (pw A B 1 1) := w6_ 1 (by omega)
  have z62 : L6 97 2 = wL (pw A B 1 2) := w6_ 2 (by omega)
  simp [S140_0, S140_1, S140_2, S140_3, S140_4, S140_5, S140_6, S140_7, S140_8, BS, ixs, inbs, le_nlt, hM, e2, j0, jx, k76, k77, n0, wu, w0, w1, w2, mul3, nIk, ib, ib0, mB, mB0, u2_rd, wL_mul, wL_add, wL_sub, ← wL_0, q0, q1, q2, o0, o1, o2, o3, z30, z31, z32, f3 92, f3 95, z40, z41, z42, f4 92, f4 95, z50, z51, z52, f5 92, f5 95, z60, z61, z62, f6 92, f6 95]
  refine m_worth3_0 hM' (G := gG 3 u.toInt A B) (v := gv 3 A (fun k => if k = 0 then p0.toInt else if k = 1 then p1.toInt else p2.toInt)) (fun e i he hi => ?_) (fun e he => ?_) (fun La fa => ?_)
  · rcases (by omega : e = 0 ∨ e = 1 ∨ e = 2) with rfl | rfl | rfl <;> rcases (by omega : i = 0 ∨ i = 1 ∨ i = 2) with rfl | rfl | rfl <;> simp [u2_rd, gG, pw_0, z30, z31, z32, f3 92, f3 95, z40, z41, z42, f4 92, f4 95, z50, z51, z52, f5 92, f5 95, z60, z61, z62, f6 92, f6 95]
  · rcases (by omega : e = 0 ∨ e = 1 ∨ e = 2) with rfl | rfl | rfl <;> simp [u2_rd, gv, z30, z31, z32, f3 92, f3 95, z40, z41, z42, f4 92, f4 95, z50, z51, z52, f5 92, f5 95, z60, z61, z62, f6 92, f6 95]
  simp [S140_0, S140_1, S140_2, S140_3, S140_4, S140_5, S140_6, S140_7, S140_8, BS, ixs, inbs, le_nlt, hM, e2, j0, jx, k76, k77, n0, wu, w0, w1, w2, mul3, nIk, ib, ib0, mB, mB0, u2_rd, wL_mul, wL_add, wL_sub, ← wL_0, q0, q1, q2, o0, o1, o2, o3]
  refine m_worth3_m hM' (G := gG 3 u.toInt A B) (v := gv 3 A (fun k => if k = 0 then p0.toInt else if k = 1 then p1.toInt else p2.toInt)) (fun e i he hi => ?_) (fun e he => ?_) (fun Lb fb => ?_)
  · rw [fa 95 (by omega)]
    rcases (by omega : e = 0 ∨ e = 1 ∨ e = 2) with rfl | rfl | rfl <;> rcases (by omega : i = 0 ∨ i = 1 ∨ i = 2) with rfl | rfl | rfl <;> simp [u2_rd, gG, pw_0, z30, z31, z32, f3 92, f3 95, z40, z41, z42, f4 92, f4 95, z50, z51, z52, f5 92, f5 95, z60, z61, z62, f6 92, f6 95]
  · rw [fa 97 (by omega)]
    rcases (by omega : e = 0 ∨ e = 1 ∨ e = 2) with rfl | rfl | rfl <;> simp [u2_rd, gv, z30, z31, z32, f3 92, f3 95, z40, z41, z42, f4 92, f4 95, z50, z51, z52, f5 92, f5 95, z60, z61, z62, f6 92, f6 95]
  have bi := bn_gw (s := 3) (P := (fun k => if k = 0 then p0.toInt else if k = 1 then p1.toInt else p2.toInt)) hu (by omega) (by omega) hA hB hP 0
  have b9 := bn_gw (s := 3) (P := (fun k => if k = 0 then p0.toInt else if k = 1 then p1.toInt else p2.toInt)) hu (by omega) (by omega) hA hB hP 9
  have gg := go (u2 (u2 Lb 74 28 (wL (fn (gw 3 (gG 3 u.toInt A B) (gv 3 A (fun k => if k = 0 then p0.toInt else if k = 1 then p1.toInt else p2.toInt)) 0) (gw 3 (gG 3 u.toInt A B) (gv 3 A (fun k => if k = 0 then p0.toInt else if k = 1 then p1.toInt else p2.toInt)) 9)))) 74 29 (wL (fd (gw 3 (gG 3 u.toInt A B) (gv 3 A (fun k => if k = 0 then p0.toInt else if k = 1 then p1.toInt else p2.toInt)) 0) (gw 3 (gG 3 u.toInt A B) (gv 3 A (fun k => if k = 0 then p0.toInt else if k = 1 then p1.toInt else p2.toInt)) 9)))) (fun c q1 q2 q3 q4 q5 q6 => by
      rw [u2_ne _ _ _ q1, u2_ne _ _ _ q1, fb c q4, fa c q4]
      repeat (first | rw [u2_ne _ _ _ q5] | rw [u2_ne _ _ _ q3] | rw [f3 c q5 q6] | rw [f4 c q5 q6] | rw [f5 c q5 q6] | rw [f6 c q5 q6] | rw [f2 c q2] | rw [f1 c q3 q5 q6]))
  simp [S140_0, S140_1, S140_2, S140_3, S140_4, S140_5, S140_6, S140_7, S140_8, BS, ixs, inbs, le_nlt, hM, e2, j0, jx, k76, k77, n0, wu, w0, w1, w2, mul3, nIk, ib, ib0, mB, mB0, u2_rd, wL_mul, wL_add, wL_sub, ← wL_0, q0, q1, q2, o0, o1, o2, o3]
  refine (m_low (a := gw 3 (gG 3 u.toInt A B) (gv 3 A (fun k => if k = 0 then p0.toInt else if k = 1 then p1.toInt else p2.toInt)) 0) (b := gw 3 (gG 3 u.toInt A B) (gv 3 A (fun k => if k = 0 then p0.toInt else if k = 1 then p1.toInt else p2.toInt)) 9) bi b9 gz c74 _ _ _ _ _).mpr ?_
  simp [S140_0, S140_1, S140_2, S140_3, S140_4, S140_5, S140_6, S140_7, S140_8, S107_0, Call_in (k2 := 107), BS, ixs, inbs, hM, u2_rd]
  exact gg
set_option maxRecDepth 100000 in
set_option maxHeartbeats 8000000 in
theorem m_gain_30_1 {n sl : Nat} {C Z : Nat → Nat} {I : Nat → Nat → Int32} {L : Nat → Nat → Int64} {R : Nat → Nat → Nat} {j : Nat} {u : Int32} {A B K : Nat → Int} {d : Int} {M : Nat} (hr : RM C Z I R j 3 u A B K d) (hM12 : M ≤ 12) (hj : j < M) (e2 : I 74 0 = nI M) (hu : u.toInt = 1 ∨ u.toInt = 2 ∨ u.toInt = 4) (hA : ∀ i, i < 9 → bn 12 (A i)) (hB : ∀ i, i < 3 → bn 12 (B i))  (p0 p1 p2 : Int32) (q0 : ¬ p0 < -100 ∧ ¬ 100 < p0) (q1 : ¬ p1 < -100 ∧ ¬ 100 < p1) (q2 : ¬ p2 < -100 ∧ ¬ 100 < p2) (hP : ∀ k, k < 3 → bn 100 ((fun k => if k = 0 then p0.toInt else if k = 1 then p1.toInt else p2.toInt) k)) (hrk : IsRk (pw A B) 3 3) (gz : ¬ gw 3 (gG 3 u.toInt A B) (gv 3 A (fun k => if k = 0 then p0.toInt else if k = 1 then p1.toInt else p2.toInt)) 9 = 0) {Q : Option Value → Hp → Prop} (go : ∀ L', (∀ c, c ≠ 74 → c ≠ 92 → c ≠ 95 → c ≠ 96 → c ≠ 97 → c ≠ 98 → L' c = L c) → Q (some (.long (wL (fd (gw 3 (gG 3 u.toInt A B) (gv 3 A (fun k => if k = 0 then p0.toInt else if k = 1 then p1.toInt else p2.toInt)) 0) (gw 3 (gG 3 u.toInt A B) (gv 3 A (fun k => if k = 0 then p0.toInt else if k = 1 then p1.toInt else p2.toInt)) 9))))) (n, sl, C, Z, I, L', R)) : Wp 140 0 [some (.ref 74), some (.int (nI j)), some (.int p0), some (.int p1), some (.int p2), some (.int 0), some (.int 1), none, none, none, none] [] (n, sl, C, Z, I, L, R) Q := by
  obtain ⟨hM, hj12, hs3, k76, k77, mA, mB, mK, mD, zA, zB⟩ := id hr
  have hM' := hM
  unfold LayM at hM
  have j0 : inb (nI j) 12 = true := by rw [inb_nI (by omega)]; simp; omega
  have jx := ix_nI (show j < 2 ^ 31 by omega)
  have ib : ∀ k, k < 3 → inb (nI (3 * j + k)) 36 = true ∧ ix (nI (3 * j + k)) = 3 * j + k := fun k hk => ⟨by rw [inb_nI (by omega)]; simp; omega, ix_nI (by omega)⟩
  have ib0 : inb (nI (3 * j)) 36 = true ∧ ix (nI (3 * j)) = 3 * j := ib 0 (by omega)
  have mB0 : (I 80 (3 * j)).toInt64 = wL (B 0) := mB 0 (by omega)
  have mK0 : (I 81 (3 * j)).toInt64 = wL (K 0) := mK 0 (by omega)
  have c74 : C 74 = 11 := by simp [hM]
  have n0 : nI 3 = 3 := rfl
  have wu : u.toInt64 = wL u.toInt := wL_i2l u
  have w0 : p0.toInt64 = wL p0.toInt := wL_i2l p0
  have w1 : p1.toInt64 = wL p1.toInt := wL_i2l p1
  have w2 : p2.toInt64 = wL p2.toInt := wL_i2l p2
  simp [S140_0, S140_1, S140_2, S140_3, S140_4, S140_5, S140_6, S140_7, S140_8, BS, ixs, inbs, le_nlt, hM, e2, j0, jx, k76, k77, n0, wu, w0, w1, w2, mul3, nIk, ib, ib0, mB, mB0, u2_rd, wL_mul, wL_add, wL_sub, ← wL_0, q0, q1, q2, is_yesG hM' hM12 hj]
  refine m_reached hr hA hB (fun r h1 h2 L1 f1 => ?_)
  have er := h2.uniq hrk
  subst er
  simp [S140_0, S140_1, S140_2, S140_3, S140_4, S140_5, S140_6, S140_7, S140_8, BS, ixs, inbs, le_nlt, hM, e2, j0, jx, k76, k77, n0, wu, w0, w1, w2, mul3, nIk, ib, ib0, mB, mB0, u2_rd, wL_mul, wL_add, wL_sub, ← wL_0, q0, q1, q2]
  refine m_owns hr (fun L2 f2 v2 => ?_)
  have o0 : L2 92 0 = wL (op A 3 0) := v2 0 (by omega)
  have o1 : L2 92 1 = wL (op A 3 1) := v2 1 (by omega)
  have o2 : L2 92 2 = wL (op A 3 2) := v2 2 (by omega)
  have o3 : L2 92 3 = wL (op A 3 3) := v2 3 (by omega)
  simp [S140_0, S140_1, S140_2, S140_3, S140_4, S140_5, S140_6, S140_7, S140_8, BS, ixs, inbs, le_nlt, hM, e2, j0, jx, k76, k77, n0, wu, w0, w1, w2, mul3, nIk, ib, ib0, mB, mB0, u2_rd, wL_mul, wL_add, wL_sub, ← wL_0, q0, q1, q2, o0, o1, o2, o3]
  refine m_turns hr (v := pw A B 0) (fun i hi => ?_) (fun L3 f3 w3_ => ?_)
  · rcases (by omega : i = 0 ∨ i = 1 ∨ i = 2) with rfl | rfl | rfl <;> simp [u2_rd, pw_0]
  have z30 : L3 97 0 = wL (pw A B 1 0) := w3_ 0 (by omega)
  have z31 : L3 97 1 = wL (pw A B 1 1) := w3_ 1 (by omega)
  have z32 : L3 97 2 = wL (pw A B 1 2) := w3_ 2 (by omega)
  simp [S140_0, S140_1, S140_2, S140_3, S140_4, S140_5, S140_6, S140_7, S140_8, BS, ixs, inbs, le_nlt, hM, e2, j0, jx, k76, k77, n0, wu, w0, w1, w2, mul3, nIk, ib, ib0, mB, mB0, u2_rd, wL_mul, wL_add, wL_sub, ← wL_0, q0, q1, q2, o0, o1, o2, o3, z30, z31, z32, f3 92, f3 95]
  refine m_turns hr (v := pw A B 0) (fun i hi => ?_) (fun L4 f4 w4_ => ?_)
  · rcases (by omega : i = 0 ∨ i = 1 ∨ i = 2) with rfl | rfl | rfl <;> simp [u2_rd, pw_0, z30, z31, z32, f3 92, f3 95]
  have z40 : L4 97 0 = wL (pw A B 1 0) := w4_ 0 (by omega)
  have z41 : L4 97 1 = wL (pw A B 1 1) := w4_ 1 (by omega)
  have z42 : L4 97 2 = wL (pw A B 1 2) := w4_ 2 (by omega)
  simp [S140_0, S140_1, S140_2, S140_3, S140_4, S140_5, S140_6, S140_7, S140_8, BS, ixs, inbs, le_nlt, hM, e2, j0, jx, k76, k77, n0, wu, w0, w1, w2, mul3, nIk, ib, ib0, mB, mB0, u2_rd, wL_mul, wL_add, wL_sub, ← wL_0, q0, q1, q2, o0, o1, o2, o3, z30, z31, z32, f3 92, f3 95, z40, z41, z42, f4 92, f4 95]
  refine m_turns hr (v := pw A B 1) (fun i hi => ?_) (fun L5 f5 w5_ => ?_)
  · rcases (by omega : i = 0 ∨ i = 1 ∨ i = 2) with rfl | rfl | rfl <;> simp [u2_rd, pw_0, z30, z31, z32, f3 92, f3 95, z40, z41, z42, f4 92, f4 95]
  have z50 : L5 97 0 = wL (pw A B 2 0) := w5_ 0 (by omega)
  have z51 : L5 97 1 = wL (pw A B 2 1) := w5_ 1 (by omega)
  have z52 : L5 97 2 = wL (pw A B 2 2) := w5_ 2 (by omega)
  simp [S140_0, S140_1, S140_2, S140_3, S140_4, S140_5, S140_6, S140_7, S140_8, BS, ixs, inbs, le_nlt, hM, e2, j0, jx, k76, k77, n0, wu, w0, w1, w2, mul3, nIk, ib, ib0, mB, mB0, u2_rd, wL_mul, wL_add, wL_sub, ← wL_0, q0, q1, q2, o0, o1, o2, o3, z30, z31, z32, f3 92, f3 95, z40, z41, z42, f4 92, f4 95, z50, z51, z52, f5 92, f5 95]
  refine m_turns hr (v := pw A B 0) (fun i hi => ?_) (fun L6 f6 w6_ => ?_)
  · rcases (by omega : i = 0 ∨ i = 1 ∨ i = 2) with rfl | rfl | rfl <;> simp [u2_rd, pw_0, z30, z31, z32, f3 92, f3 95, z40, z41, z42, f4 92, f4 95, z50, z51, z52, f5 92, f5 95]
  have z60 : L6 97 0 = wL (pw A B 1 0) := w6_ 0 (by omega)
  have z61 : L6 97 1 = wL (pw A B 1 1) := w6_ 1 (by omega)
  have z62 : L6 97 2 = wL (pw A B 1 2) := w6_ 2 (by omega)
  simp [S140_0, S140_1, S140_2, S140_3, S140_4, S140_5, S140_6, S140_7, S140_8, BS, ixs, inbs, le_nlt, hM, e2, j0, jx, k76, k77, n0, wu, w0, w1, w2, mul3, nIk, ib, ib0, mB, mB0, u2_rd, wL_mul, wL_add, wL_sub, ← wL_0, q0, q1, q2, o0, o1, o2, o3, z30, z31, z32, f3 92, f3 95, z40, z41, z42, f4 92, f4 95, z50, z51, z52, f5 92, f5 95, z60, z61, z62, f6 92, f6 95]
  refine m_worth3_0 hM' (G := gG 3 u.toInt A B) (v := gv 3 A (fun k => if k = 0 then p0.toInt else if k = 1 then p1.toInt else p2.toInt)) (fun e i he hi => ?_) (fun e he => ?_) (fun La fa => ?_)
  · rcases (by omega : e = 0 ∨ e = 1 ∨ e = 2) with rfl | rfl | rfl <;> rcases (by omega : i = 0 ∨ i = 1 ∨ i = 2) with rfl | rfl | rfl <;> simp [u2_rd, gG, pw_0, z30, z31, z32, f3 92, f3 95, z40, z41, z42, f4 92, f4 95, z50, z51, z52, f5 92, f5 95, z60, z61, z62, f6 92, f6 95]
  · rcases (by omega : e = 0 ∨ e = 1 ∨ e = 2) with rfl | rfl | rfl <;> simp [u2_rd, gv, z30, z31, z32, f3 92, f3 95, z40, z41, z42, f4 92, f4 95, z50, z51, z52, f5 92, f5 95, z60, z61, z62, f6 92, f6 95]
  simp [S140_0, S140_1, S140_2, S140_3, S140_4, S140_5, S140_6, S140_7, S140_8, BS, ixs, inbs, le_nlt, hM, e2, j0, jx, k76, k77, n0, wu, w0, w1, w2, mul3, nIk, ib, ib0, mB, mB0, u2_rd, wL_mul, wL_add, wL_sub, ← wL_0, q0, q1, q2, o0, o1, o2, o3]
  refine m_worth3_m hM' (G := gG 3 u.toInt A B) (v := gv 3 A (fun k => if k = 0 then p0.toInt else if k = 1 then p1.toInt else p2.toInt)) (fun e i he hi => ?_) (fun e he => ?_) (fun Lb fb => ?_)
  · rw [fa 95 (by omega)]
    rcases (by omega : e = 0 ∨ e = 1 ∨ e = 2) with rfl | rfl | rfl <;> rcases (by omega : i = 0 ∨ i = 1 ∨ i = 2) with rfl | rfl | rfl <;> simp [u2_rd, gG, pw_0, z30, z31, z32, f3 92, f3 95, z40, z41, z42, f4 92, f4 95, z50, z51, z52, f5 92, f5 95, z60, z61, z62, f6 92, f6 95]
  · rw [fa 97 (by omega)]
    rcases (by omega : e = 0 ∨ e = 1 ∨ e = 2) with rfl | rfl | rfl <;> simp [u2_rd, gv, z30, z31, z32, f3 92, f3 95, z40, z41, z42, f4 92, f4 95, z50, z51, z52, f5 92, f5 95, z60, z61, z62, f6 92, f6 95]
  have bi := bn_gw (s := 3) (P := (fun k => if k = 0 then p0.toInt else if k = 1 then p1.toInt else p2.toInt)) hu (by omega) (by omega) hA hB hP 0
  have b9 := bn_gw (s := 3) (P := (fun k => if k = 0 then p0.toInt else if k = 1 then p1.toInt else p2.toInt)) hu (by omega) (by omega) hA hB hP 9
  have gg := go (u2 (u2 Lb 74 28 (wL (fn (gw 3 (gG 3 u.toInt A B) (gv 3 A (fun k => if k = 0 then p0.toInt else if k = 1 then p1.toInt else p2.toInt)) 0) (gw 3 (gG 3 u.toInt A B) (gv 3 A (fun k => if k = 0 then p0.toInt else if k = 1 then p1.toInt else p2.toInt)) 9)))) 74 29 (wL (fd (gw 3 (gG 3 u.toInt A B) (gv 3 A (fun k => if k = 0 then p0.toInt else if k = 1 then p1.toInt else p2.toInt)) 0) (gw 3 (gG 3 u.toInt A B) (gv 3 A (fun k => if k = 0 then p0.toInt else if k = 1 then p1.toInt else p2.toInt)) 9)))) (fun c q1 q2 q3 q4 q5 q6 => by
      rw [u2_ne _ _ _ q1, u2_ne _ _ _ q1, fb c q4, fa c q4]
      repeat (first | rw [u2_ne _ _ _ q5] | rw [u2_ne _ _ _ q3] | rw [f3 c q5 q6] | rw [f4 c q5 q6] | rw [f5 c q5 q6] | rw [f6 c q5 q6] | rw [f2 c q2] | rw [f1 c q3 q5 q6]))
  simp [S140_0, S140_1, S140_2, S140_3, S140_4, S140_5, S140_6, S140_7, S140_8, BS, ixs, inbs, le_nlt, hM, e2, j0, jx, k76, k77, n0, wu, w0, w1, w2, mul3, nIk, ib, ib0, mB, mB0, u2_rd, wL_mul, wL_add, wL_sub, ← wL_0, q0, q1, q2, o0, o1, o2, o3]
  refine (m_low (a := gw 3 (gG 3 u.toInt A B) (gv 3 A (fun k => if k = 0 then p0.toInt else if k = 1 then p1.toInt else p2.toInt)) 0) (b := gw 3 (gG 3 u.toInt A B) (gv 3 A (fun k => if k = 0 then p0.toInt else if k = 1 then p1.toInt else p2.toInt)) 9) bi b9 gz c74 _ _ _ _ _).mpr ?_
  simp [S140_0, S140_1, S140_2, S140_3, S140_4, S140_5, S140_6, S140_7, S140_8, S107_0, Call_in (k2 := 107), BS, ixs, inbs, hM, u2_rd]
  exact gg
set_option maxRecDepth 100000 in
set_option maxHeartbeats 8000000 in
theorem m_gain_31_0 {n sl : Nat} {C Z : Nat → Nat} {I : Nat → Nat → Int32} {L : Nat → Nat → Int64} {R : Nat → Nat → Nat} {j : Nat} {u : Int32} {A B K : Nat → Int} {d : Int} {M : Nat} (hr : RM C Z I R j 3 u A B K d) (hM12 : M ≤ 12) (hj : j < M) (e2 : I 74 0 = nI M) (hu : u.toInt = 1 ∨ u.toInt = 2 ∨ u.toInt = 4) (hA : ∀ i, i < 9 → bn 12 (A i)) (hB : ∀ i, i < 3 → bn 12 (B i))  (p0 p1 p2 : Int32) (q0 : ¬ p0 < -100 ∧ ¬ 100 < p0) (q1 : ¬ p1 < -100 ∧ ¬ 100 < p1) (q2 : ¬ p2 < -100 ∧ ¬ 100 < p2) (hP : ∀ k, k < 3 → bn 100 ((fun k => if k = 0 then p0.toInt else if k = 1 then p1.toInt else p2.toInt) k)) (hrk : IsRk (pw A B) 3 3) (gz : ¬ gw 3 (gG 3 u.toInt A B) (gv 3 A (fun k => if k = 0 then p0.toInt else if k = 1 then p1.toInt else p2.toInt)) 9 = 0) {Q : Option Value → Hp → Prop} (go : ∀ L', (∀ c, c ≠ 74 → c ≠ 92 → c ≠ 95 → c ≠ 96 → c ≠ 97 → c ≠ 98 → L' c = L c) → Q (some (.long (wL (fn (gw 3 (gG 3 u.toInt A B) (gv 3 A (fun k => if k = 0 then p0.toInt else if k = 1 then p1.toInt else p2.toInt)) 1) (gw 3 (gG 3 u.toInt A B) (gv 3 A (fun k => if k = 0 then p0.toInt else if k = 1 then p1.toInt else p2.toInt)) 9))))) (n, sl, C, Z, I, L', R)) : Wp 140 0 [some (.ref 74), some (.int (nI j)), some (.int p0), some (.int p1), some (.int p2), some (.int 1), some (.int 0), none, none, none, none] [] (n, sl, C, Z, I, L, R) Q := by
  obtain ⟨hM, hj12, hs3, k76, k77, mA, mB, mK, mD, zA, zB⟩ := id hr
  have hM' := hM
  unfold LayM at hM
  have j0 : inb (nI j) 12 = true := by rw [inb_nI (by omega)]; simp; omega
  have jx := ix_nI (show j < 2 ^ 31 by omega)
  have ib : ∀ k, k < 3 → inb (nI (3 * j + k)) 36 = true ∧ ix (nI (3 * j + k)) = 3 * j + k := fun k hk => ⟨by rw [inb_nI (by omega)]; simp; omega, ix_nI (by omega)⟩
  have ib0 : inb (nI (3 * j)) 36 = true ∧ ix (nI (3 * j)) = 3 * j := ib 0 (by omega)
  have mB0 : (I 80 (3 * j)).toInt64 = wL (B 0) := mB 0 (by omega)
  have mK0 : (I 81 (3 * j)).toInt64 = wL (K 0) := mK 0 (by omega)
  have c74 : C 74 = 11 := by simp [hM]
  have n0 : nI 3 = 3 := rfl
  have wu : u.toInt64 = wL u.toInt := wL_i2l u
  have w0 : p0.toInt64 = wL p0.toInt := wL_i2l p0
  have w1 : p1.toInt64 = wL p1.toInt := wL_i2l p1
  have w2 : p2.toInt64 = wL p2.toInt := wL_i2l p2
  simp [S140_0, S140_1, S140_2, S140_3, S140_4, S140_5, S140_6, S140_7, S140_8, BS, ixs, inbs, le_nlt, hM, e2, j0, jx, k76, k77, n0, wu, w0, w1, w2, mul3, nIk, ib, ib0, mB, mB0, u2_rd, wL_mul, wL_add, wL_sub, ← wL_0, q0, q1, q2, is_yesG hM' hM12 hj]
  refine m_reached hr hA hB (fun r h1 h2 L1 f1 => ?_)
  have er := h2.uniq hrk
  subst er
  simp [S140_0, S140_1, S140_2, S140_3, S140_4, S140_5, S140_6, S140_7, S140_8, BS, ixs, inbs, le_nlt, hM, e2, j0, jx, k76, k77, n0, wu, w0, w1, w2, mul3, nIk, ib, ib0, mB, mB0, u2_rd, wL_mul, wL_add, wL_sub, ← wL_0, q0, q1, q2]
  refine m_owns hr (fun L2 f2 v2 => ?_)
  have o0 : L2 92 0 = wL (op A 3 0) := v2 0 (by omega)
  have o1 : L2 92 1 = wL (op A 3 1) := v2 1 (by omega)
  have o2 : L2 92 2 = wL (op A 3 2) := v2 2 (by omega)
  have o3 : L2 92 3 = wL (op A 3 3) := v2 3 (by omega)
  simp [S140_0, S140_1, S140_2, S140_3, S140_4, S140_5, S140_6, S140_7, S140_8, BS, ixs, inbs, le_nlt, hM, e2, j0, jx, k76, k77, n0, wu, w0, w1, w2, mul3, nIk, ib, ib0, mB, mB0, u2_rd, wL_mul, wL_add, wL_sub, ← wL_0, q0, q1, q2, o0, o1, o2, o3]
  refine m_turns hr (v := pw A B 0) (fun i hi => ?_) (fun L3 f3 w3_ => ?_)
  · rcases (by omega : i = 0 ∨ i = 1 ∨ i = 2) with rfl | rfl | rfl <;> simp [u2_rd, pw_0]
  have z30 : L3 97 0 = wL (pw A B 1 0) := w3_ 0 (by omega)
  have z31 : L3 97 1 = wL (pw A B 1 1) := w3_ 1 (by omega)
  have z32 : L3 97 2 = wL (pw A B 1 2) := w3_ 2 (by omega)
  simp [S140_0, S140_1, S140_2, S140_3, S140_4, S140_5, S140_6, S140_7, S140_8, BS, ixs, inbs, le_nlt, hM, e2, j0, jx, k76, k77, n0, wu, w0, w1, w2, mul3, nIk, ib, ib0, mB, mB0, u2_rd, wL_mul, wL_add, wL_sub, ← wL_0, q0, q1, q2, o0, o1, o2, o3, z30, z31, z32, f3 92, f3 95]
  refine m_turns hr (v := pw A B 0) (fun i hi => ?_) (fun L4 f4 w4_ => ?_)
  · rcases (by omega : i = 0 ∨ i = 1 ∨ i = 2) with rfl | rfl | rfl <;> simp [u2_rd, pw_0, z30, z31, z32, f3 92, f3 95]
  have z40 : L4 97 0 = wL (pw A B 1 0) := w4_ 0 (by omega)
  have z41 : L4 97 1 = wL (pw A B 1 1) := w4_ 1 (by omega)
  have z42 : L4 97 2 = wL (pw A B 1 2) := w4_ 2 (by omega)
  simp [S140_0, S140_1, S140_2, S140_3, S140_4, S140_5, S140_6, S140_7, S140_8, BS, ixs, inbs, le_nlt, hM, e2, j0, jx, k76, k77, n0, wu, w0, w1, w2, mul3, nIk, ib, ib0, mB, mB0, u2_rd, wL_mul, wL_add, wL_sub, ← wL_0, q0, q1, q2, o0, o1, o2, o3, z30, z31, z32, f3 92, f3 95, z40, z41, z42, f4 92, f4 95]
  refine m_turns hr (v := pw A B 1) (fun i hi => ?_) (fun L5 f5 w5_ => ?_)
  · rcases (by omega : i = 0 ∨ i = 1 ∨ i = 2) with rfl | rfl | rfl <;> simp [u2_rd, pw_0, z30, z31, z32, f3 92, f3 95, z40, z41, z42, f4 92, f4 95]
  have z50 : L5 97 0 = wL (pw A B 2 0) := w5_ 0 (by omega)
  have z51 : L5 97 1 = wL (pw A B 2 1) := w5_ 1 (by omega)
  have z52 : L5 97 2 = wL (pw A B 2 2) := w5_ 2 (by omega)
  simp [S140_0, S140_1, S140_2, S140_3, S140_4, S140_5, S140_6, S140_7, S140_8, BS, ixs, inbs, le_nlt, hM, e2, j0, jx, k76, k77, n0, wu, w0, w1, w2, mul3, nIk, ib, ib0, mB, mB0, u2_rd, wL_mul, wL_add, wL_sub, ← wL_0, q0, q1, q2, o0, o1, o2, o3, z30, z31, z32, f3 92, f3 95, z40, z41, z42, f4 92, f4 95, z50, z51, z52, f5 92, f5 95]
  refine m_turns hr (v := pw A B 0) (fun i hi => ?_) (fun L6 f6 w6_ => ?_)
  · rcases (by omega : i = 0 ∨ i = 1 ∨ i = 2) with rfl | rfl | rfl <;> simp [u2_rd, pw_0, z30, z31, z32, f3 92, f3 95, z40, z41, z42, f4 92, f4 95, z50, z51, z52, f5 92, f5 95]
  have z60 : L6 97 0 = wL (pw A B 1 0) := w6_ 0 (by omega)
  have z61 : L6 97 1 = wL (pw A B 1 1) := w6_ 1 (by omega)
  have z62 : L6 97 2 = wL (pw A B 1 2) := w6_ 2 (by omega)
  simp [S140_0, S140_1, S140_2, S140_3, S140_4, S140_5, S140_6, S140_7, S140_8, BS, ixs, inbs, le_nlt, hM, e2, j0, jx, k76, k77, n0, wu, w0, w1, w2, mul3, nIk, ib, ib0, mB, mB0, u2_rd, wL_mul, wL_add, wL_sub, ← wL_0, q0, q1, q2, o0, o1, o2, o3, z30, z31, z32, f3 92, f3 95, z40, z41, z42, f4 92, f4 95, z50, z51, z52, f5 92, f5 95, z60, z61, z62, f6 92, f6 95]
  refine m_worth3_1 hM' (G := gG 3 u.toInt A B) (v := gv 3 A (fun k => if k = 0 then p0.toInt else if k = 1 then p1.toInt else p2.toInt)) (fun e i he hi => ?_) (fun e he => ?_) (fun La fa => ?_)
  · rcases (by omega : e = 0 ∨ e = 1 ∨ e = 2) with rfl | rfl | rfl <;> rcases (by omega : i = 0 ∨ i = 1 ∨ i = 2) with rfl | rfl | rfl <;> simp [u2_rd, gG, pw_0, z30, z31, z32, f3 92, f3 95, z40, z41, z42, f4 92, f4 95, z50, z51, z52, f5 92, f5 95, z60, z61, z62, f6 92, f6 95]
  · rcases (by omega : e = 0 ∨ e = 1 ∨ e = 2) with rfl | rfl | rfl <;> simp [u2_rd, gv, z30, z31, z32, f3 92, f3 95, z40, z41, z42, f4 92, f4 95, z50, z51, z52, f5 92, f5 95, z60, z61, z62, f6 92, f6 95]
  simp [S140_0, S140_1, S140_2, S140_3, S140_4, S140_5, S140_6, S140_7, S140_8, BS, ixs, inbs, le_nlt, hM, e2, j0, jx, k76, k77, n0, wu, w0, w1, w2, mul3, nIk, ib, ib0, mB, mB0, u2_rd, wL_mul, wL_add, wL_sub, ← wL_0, q0, q1, q2, o0, o1, o2, o3]
  refine m_worth3_m hM' (G := gG 3 u.toInt A B) (v := gv 3 A (fun k => if k = 0 then p0.toInt else if k = 1 then p1.toInt else p2.toInt)) (fun e i he hi => ?_) (fun e he => ?_) (fun Lb fb => ?_)
  · rw [fa 95 (by omega)]
    rcases (by omega : e = 0 ∨ e = 1 ∨ e = 2) with rfl | rfl | rfl <;> rcases (by omega : i = 0 ∨ i = 1 ∨ i = 2) with rfl | rfl | rfl <;> simp [u2_rd, gG, pw_0, z30, z31, z32, f3 92, f3 95, z40, z41, z42, f4 92, f4 95, z50, z51, z52, f5 92, f5 95, z60, z61, z62, f6 92, f6 95]
  · rw [fa 97 (by omega)]
    rcases (by omega : e = 0 ∨ e = 1 ∨ e = 2) with rfl | rfl | rfl <;> simp [u2_rd, gv, z30, z31, z32, f3 92, f3 95, z40, z41, z42, f4 92, f4 95, z50, z51, z52, f5 92, f5 95, z60, z61, z62, f6 92, f6 95]
  have bi := bn_gw (s := 3) (P := (fun k => if k = 0 then p0.toInt else if k = 1 then p1.toInt else p2.toInt)) hu (by omega) (by omega) hA hB hP 1
  have b9 := bn_gw (s := 3) (P := (fun k => if k = 0 then p0.toInt else if k = 1 then p1.toInt else p2.toInt)) hu (by omega) (by omega) hA hB hP 9
  have gg := go (u2 (u2 Lb 74 28 (wL (fn (gw 3 (gG 3 u.toInt A B) (gv 3 A (fun k => if k = 0 then p0.toInt else if k = 1 then p1.toInt else p2.toInt)) 1) (gw 3 (gG 3 u.toInt A B) (gv 3 A (fun k => if k = 0 then p0.toInt else if k = 1 then p1.toInt else p2.toInt)) 9)))) 74 29 (wL (fd (gw 3 (gG 3 u.toInt A B) (gv 3 A (fun k => if k = 0 then p0.toInt else if k = 1 then p1.toInt else p2.toInt)) 1) (gw 3 (gG 3 u.toInt A B) (gv 3 A (fun k => if k = 0 then p0.toInt else if k = 1 then p1.toInt else p2.toInt)) 9)))) (fun c q1 q2 q3 q4 q5 q6 => by
      rw [u2_ne _ _ _ q1, u2_ne _ _ _ q1, fb c q4, fa c q4]
      repeat (first | rw [u2_ne _ _ _ q5] | rw [u2_ne _ _ _ q3] | rw [f3 c q5 q6] | rw [f4 c q5 q6] | rw [f5 c q5 q6] | rw [f6 c q5 q6] | rw [f2 c q2] | rw [f1 c q3 q5 q6]))
  simp [S140_0, S140_1, S140_2, S140_3, S140_4, S140_5, S140_6, S140_7, S140_8, BS, ixs, inbs, le_nlt, hM, e2, j0, jx, k76, k77, n0, wu, w0, w1, w2, mul3, nIk, ib, ib0, mB, mB0, u2_rd, wL_mul, wL_add, wL_sub, ← wL_0, q0, q1, q2, o0, o1, o2, o3]
  refine (m_low (a := gw 3 (gG 3 u.toInt A B) (gv 3 A (fun k => if k = 0 then p0.toInt else if k = 1 then p1.toInt else p2.toInt)) 1) (b := gw 3 (gG 3 u.toInt A B) (gv 3 A (fun k => if k = 0 then p0.toInt else if k = 1 then p1.toInt else p2.toInt)) 9) bi b9 gz c74 _ _ _ _ _).mpr ?_
  simp [S140_0, S140_1, S140_2, S140_3, S140_4, S140_5, S140_6, S140_7, S140_8, S107_0, Call_in (k2 := 107), BS, ixs, inbs, hM, u2_rd]
  exact gg
set_option maxRecDepth 100000 in
set_option maxHeartbeats 8000000 in
theorem m_gain_31_1 {n sl : Nat} {C Z : Nat → Nat} {I : Nat → Nat → Int32} {L : Nat → Nat → Int64} {R : Nat → Nat → Nat} {j : Nat} {u : Int32} {A B K : Nat → Int} {d : Int} {M : Nat} (hr : RM C Z I R j 3 u A B K d) (hM12 : M ≤ 12) (hj : j < M) (e2 : I 74 0 = nI M) (hu : u.toInt = 1 ∨ u.toInt = 2 ∨ u.toInt = 4) (hA : ∀ i, i < 9 → bn 12 (A i)) (hB : ∀ i, i < 3 → bn 12 (B i))  (p0 p1 p2 : Int32) (q0 : ¬ p0 < -100 ∧ ¬ 100 < p0) (q1 : ¬ p1 < -100 ∧ ¬ 100 < p1) (q2 : ¬ p2 < -100 ∧ ¬ 100 < p2) (hP : ∀ k, k < 3 → bn 100 ((fun k => if k = 0 then p0.toInt else if k = 1 then p1.toInt else p2.toInt) k)) (hrk : IsRk (pw A B) 3 3) (gz : ¬ gw 3 (gG 3 u.toInt A B) (gv 3 A (fun k => if k = 0 then p0.toInt else if k = 1 then p1.toInt else p2.toInt)) 9 = 0) {Q : Option Value → Hp → Prop} (go : ∀ L', (∀ c, c ≠ 74 → c ≠ 92 → c ≠ 95 → c ≠ 96 → c ≠ 97 → c ≠ 98 → L' c = L c) → Q (some (.long (wL (fd (gw 3 (gG 3 u.toInt A B) (gv 3 A (fun k => if k = 0 then p0.toInt else if k = 1 then p1.toInt else p2.toInt)) 1) (gw 3 (gG 3 u.toInt A B) (gv 3 A (fun k => if k = 0 then p0.toInt else if k = 1 then p1.toInt else p2.toInt)) 9))))) (n, sl, C, Z, I, L', R)) : Wp 140 0 [some (.ref 74), some (.int (nI j)), some (.int p0), some (.int p1), some (.int p2), some (.int 1), some (.int 1), none, none, none, none] [] (n, sl, C, Z, I, L, R) Q := by
  obtain ⟨hM, hj12, hs3, k76, k77, mA, mB, mK, mD, zA, zB⟩ := id hr
  have hM' := hM
  unfold LayM at hM
  have j0 : inb (nI j) 12 = true := by rw [inb_nI (by omega)]; simp; omega
  have jx := ix_nI (show j < 2 ^ 31 by omega)
  have ib : ∀ k, k < 3 → inb (nI (3 * j + k)) 36 = true ∧ ix (nI (3 * j + k)) = 3 * j + k := fun k hk => ⟨by rw [inb_nI (by omega)]; simp; omega, ix_nI (by omega)⟩
  have ib0 : inb (nI (3 * j)) 36 = true ∧ ix (nI (3 * j)) = 3 * j := ib 0 (by omega)
  have mB0 : (I 80 (3 * j)).toInt64 = wL (B 0) := mB 0 (by omega)
  have mK0 : (I 81 (3 * j)).toInt64 = wL (K 0) := mK 0 (by omega)
  have c74 : C 74 = 11 := by simp [hM]
  have n0 : nI 3 = 3 := rfl
  have wu : u.toInt64 = wL u.toInt := wL_i2l u
  have w0 : p0.toInt64 = wL p0.toInt := wL_i2l p0
  have w1 : p1.toInt64 = wL p1.toInt := wL_i2l p1
  have w2 : p2.toInt64 = wL p2.toInt := wL_i2l p2
  simp [S140_0, S140_1, S140_2, S140_3, S140_4, S140_5, S140_6, S140_7, S140_8, BS, ixs, inbs, le_nlt, hM, e2, j0, jx, k76, k77, n0, wu, w0, w1, w2, mul3, nIk, ib, ib0, mB, mB0, u2_rd, wL_mul, wL_add, wL_sub, ← wL_0, q0, q1, q2, is_yesG hM' hM12 hj]
  refine m_reached hr hA hB (fun r h1 h2 L1 f1 => ?_)
  have er := h2.uniq hrk
  subst er
  simp [S140_0, S140_1, S140_2, S140_3, S140_4, S140_5, S140_6, S140_7, S140_8, BS, ixs, inbs, le_nlt, hM, e2, j0, jx, k76, k77, n0, wu, w0, w1, w2, mul3, nIk, ib, ib0, mB, mB0, u2_rd, wL_mul, wL_add, wL_sub, ← wL_0, q0, q1, q2]
  refine m_owns hr (fun L2 f2 v2 => ?_)
  have o0 : L2 92 0 = wL (op A 3 0) := v2 0 (by omega)
  have o1 : L2 92 1 = wL (op A 3 1) := v2 1 (by omega)
  have o2 : L2 92 2 = wL (op A 3 2) := v2 2 (by omega)
  have o3 : L2 92 3 = wL (op A 3 3) := v2 3 (by omega)
  simp [S140_0, S140_1, S140_2, S140_3, S140_4, S140_5, S140_6, S140_7, S140_8, BS, ixs, inbs, le_nlt, hM, e2, j0, jx, k76, k77, n0, wu, w0, w1, w2, mul3, nIk, ib, ib0, mB, mB0, u2_rd, wL_mul, wL_add, wL_sub, ← wL_0, q0, q1, q2, o0, o1, o2, o3]
  refine m_turns hr (v := pw A B 0) (fun i hi => ?_) (fun L3 f3 w3_ => ?_)
  · rcases (by omega : i = 0 ∨ i = 1 ∨ i = 2) with rfl | rfl | rfl <;> simp [u2_rd, pw_0]
  have z30 : L3 97 0 = wL (pw A B 1 0) := w3_ 0 (by omega)
  have z31 : L3 97 1 = wL (pw A B 1 1) := w3_ 1 (by omega)
  have z32 : L3 97 2 = wL (pw A B 1 2) := w3_ 2 (by omega)
  simp [S140_0, S140_1, S140_2, S140_3, S140_4, S140_5, S140_6, S140_7, S140_8, BS, ixs, inbs, le_nlt, hM, e2, j0, jx, k76, k77, n0, wu, w0, w1, w2, mul3, nIk, ib, ib0, mB, mB0, u2_rd, wL_mul, wL_add, wL_sub, ← wL_0, q0, q1, q2, o0, o1, o2, o3, z30, z31, z32, f3 92, f3 95]
  refine m_turns hr (v := pw A B 0) (fun i hi => ?_) (fun L4 f4 w4_ => ?_)
  · rcases (by omega : i = 0 ∨ i = 1 ∨ i = 2) with rfl | rfl | rfl <;> simp [u2_rd, pw_0, z30, z31, z32, f3 92, f3 95]
  have z40 : L4 97 0 = wL (pw A B 1 0) := w4_ 0 (by omega)
  have z41 : L4 97 1 = wL (pw A B 1 1) := w4_ 1 (by omega)
  have z42 : L4 97 2 = wL (pw A B 1 2) := w4_ 2 (by omega)
  simp [S140_0, S140_1, S140_2, S140_3, S140_4, S140_5, S140_6, S140_7, S140_8, BS, ixs, inbs, le_nlt, hM, e2, j0, jx, k76, k77, n0, wu, w0, w1, w2, mul3, nIk, ib, ib0, mB, mB0, u2_rd, wL_mul, wL_add, wL_sub, ← wL_0, q0, q1, q2, o0, o1, o2, o3, z30, z31, z32, f3 92, f3 95, z40, z41, z42, f4 92, f4 95]
  refine m_turns hr (v := pw A B 1) (fun i hi => ?_) (fun L5 f5 w5_ => ?_)
  · rcases (by omega : i = 0 ∨ i = 1 ∨ i = 2) with rfl | rfl | rfl <;> simp [u2_rd, pw_0, z30, z31, z32, f3 92, f3 95, z40, z41, z42, f4 92, f4 95]
  have z50 : L5 97 0 = wL (pw A B 2 0) := w5_ 0 (by omega)
  have z51 : L5 97 1 = wL (pw A B 2 1) := w5_ 1 (by omega)
  have z52 : L5 97 2 = wL (pw A B 2 2) := w5_ 2 (by omega)
  simp [S140_0, S140_1, S140_2, S140_3, S140_4, S140_5, S140_6, S140_7, S140_8, BS, ixs, inbs, le_nlt, hM, e2, j0, jx, k76, k77, n0, wu, w0, w1, w2, mul3, nIk, ib, ib0, mB, mB0, u2_rd, wL_mul, wL_add, wL_sub, ← wL_0, q0, q1, q2, o0, o1, o2, o3, z30, z31, z32, f3 92, f3 95, z40, z41, z42, f4 92, f4 95, z50, z51, z52, f5 92, f5 95]
  refine m_turns hr (v := pw A B 0) (fun i hi => ?_) (fun L6 f6 w6_ => ?_)
  · rcases (by omega : i = 0 ∨ i = 1 ∨ i = 2) with rfl | rfl | rfl <;> simp [u2_rd, pw_0, z30, z31, z32, f3 92, f3 95, z40, z41, z42, f4 92, f4 95, z50, z51, z52, f5 92, f5 95]
  have z60 : L6 97 0 = wL (pw A B 1 0) := w6_ 0 (by omega)
  have z61 : L6 97 1 = wL (pw A B 1 1) := w6_ 1 (by omega)
  have z62 : L6 97 2 = wL (pw A B 1 2) := w6_ 2 (by omega)
  simp [S140_0, S140_1, S140_2, S140_3, S140_4, S140_5, S140_6, S140_7, S140_8, BS, ixs, inbs, le_nlt, hM, e2, j0, jx, k76, k77, n0, wu, w0, w1, w2, mul3, nIk, ib, ib0, mB, mB0, u2_rd, wL_mul, wL_add, wL_sub, ← wL_0, q0, q1, q2, o0, o1, o2, o3, z30, z31, z32, f3 92, f3 95, z40, z41, z42, f4 92, f4 95, z50, z51, z52, f5 92, f5 95, z60, z61, z62, f6 92, f6 95]
  refine m_worth3_1 hM' (G := gG 3 u.toInt A B) (v := gv 3 A (fun k => if k = 0 then p0.toInt else if k = 1 then p1.toInt else p2.toInt)) (fun e i he hi => ?_) (fun e he => ?_) (fun La fa => ?_)
  · rcases (by omega : e = 0 ∨ e = 1 ∨ e = 2) with rfl | rfl | rfl <;> rcases (by omega : i = 0 ∨ i = 1 ∨ i = 2) with rfl | rfl | rfl <;> simp [u2_rd, gG, pw_0, z30, z31, z32, f3 92, f3 95, z40, z41, z42, f4 92, f4 95, z50, z51, z52, f5 92, f5 95, z60, z61, z62, f6 92, f6 95]
  · rcases (by omega : e = 0 ∨ e = 1 ∨ e = 2) with rfl | rfl | rfl <;> simp [u2_rd, gv, z30, z31, z32, f3 92, f3 95, z40, z41, z42, f4 92, f4 95, z50, z51, z52, f5 92, f5 95, z60, z61, z62, f6 92, f6 95]
  simp [S140_0, S140_1, S140_2, S140_3, S140_4, S140_5, S140_6, S140_7, S140_8, BS, ixs, inbs, le_nlt, hM, e2, j0, jx, k76, k77, n0, wu, w0, w1, w2, mul3, nIk, ib, ib0, mB, mB0, u2_rd, wL_mul, wL_add, wL_sub, ← wL_0, q0, q1, q2, o0, o1, o2, o3]
  refine m_worth3_m hM' (G := gG 3 u.toInt A B) (v := gv 3 A (fun k => if k = 0 then p0.toInt else if k = 1 then p1.toInt else p2.toInt)) (fun e i he hi => ?_) (fun e he => ?_) (fun Lb fb => ?_)
  · rw [fa 95 (by omega)]
    rcases (by omega : e = 0 ∨ e = 1 ∨ e = 2) with rfl | rfl | rfl <;> rcases (by omega : i = 0 ∨ i = 1 ∨ i = 2) with rfl | rfl | rfl <;> simp [u2_rd, gG, pw_0, z30, z31, z32, f3 92, f3 95, z40, z41, z42, f4 92, f4 95, z50, z51, z52, f5 92, f5 95, z60, z61, z62, f6 92, f6 95]
  · rw [fa 97 (by omega)]
    rcases (by omega : e = 0 ∨ e = 1 ∨ e = 2) with rfl | rfl | rfl <;> simp [u2_rd, gv, z30, z31, z32, f3 92, f3 95, z40, z41, z42, f4 92, f4 95, z50, z51, z52, f5 92, f5 95, z60, z61, z62, f6 92, f6 95]
  have bi := bn_gw (s := 3) (P := (fun k => if k = 0 then p0.toInt else if k = 1 then p1.toInt else p2.toInt)) hu (by omega) (by omega) hA hB hP 1
  have b9 := bn_gw (s := 3) (P := (fun k => if k = 0 then p0.toInt else if k = 1 then p1.toInt else p2.toInt)) hu (by omega) (by omega) hA hB hP 9
  have gg := go (u2 (u2 Lb 74 28 (wL (fn (gw 3 (gG 3 u.toInt A B) (gv 3 A (fun k => if k = 0 then p0.toInt else if k = 1 then p1.toInt else p2.toInt)) 1) (gw 3 (gG 3 u.toInt A B) (gv 3 A (fun k => if k = 0 then p0.toInt else if k = 1 then p1.toInt else p2.toInt)) 9)))) 74 29 (wL (fd (gw 3 (gG 3 u.toInt A B) (gv 3 A (fun k => if k = 0 then p0.toInt else if k = 1 then p1.toInt else p2.toInt)) 1) (gw 3 (gG 3 u.toInt A B) (gv 3 A (fun k => if k = 0 then p0.toInt else if k = 1 then p1.toInt else p2.toInt)) 9)))) (fun c q1 q2 q3 q4 q5 q6 => by
      rw [u2_ne _ _ _ q1, u2_ne _ _ _ q1, fb c q4, fa c q4]
      repeat (first | rw [u2_ne _ _ _ q5] | rw [u2_ne _ _ _ q3] | rw [f3 c q5 q6] | rw [f4 c q5 q6] | rw [f5 c q5 q6] | rw [f6 c q5 q6] | rw [f2 c q2] | rw [f1 c q3 q5 q6]))
  simp [S140_0, S140_1, S140_2, S140_3, S140_4, S140_5, S140_6, S140_7, S140_8, BS, ixs, inbs, le_nlt, hM, e2, j0, jx, k76, k77, n0, wu, w0, w1, w2, mul3, nIk, ib, ib0, mB, mB0, u2_rd, wL_mul, wL_add, wL_sub, ← wL_0, q0, q1, q2, o0, o1, o2, o3]
  refine (m_low (a := gw 3 (gG 3 u.toInt A B) (gv 3 A (fun k => if k = 0 then p0.toInt else if k = 1 then p1.toInt else p2.toInt)) 1) (b := gw 3 (gG 3 u.toInt A B) (gv 3 A (fun k => if k = 0 then p0.toInt else if k = 1 then p1.toInt else p2.toInt)) 9) bi b9 gz c74 _ _ _ _ _).mpr ?_
  simp [S140_0, S140_1, S140_2, S140_3, S140_4, S140_5, S140_6, S140_7, S140_8, S107_0, Call_in (k2 := 107), BS, ixs, inbs, hM, u2_rd]
  exact gg
set_option maxRecDepth 100000 in
set_option maxHeartbeats 8000000 in
theorem m_gain_32_0 {n sl : Nat} {C Z : Nat → Nat} {I : Nat → Nat → Int32} {L : Nat → Nat → Int64} {R : Nat → Nat → Nat} {j : Nat} {u : Int32} {A B K : Nat → Int} {d : Int} {M : Nat} (hr : RM C Z I R j 3 u A B K d) (hM12 : M ≤ 12) (hj : j < M) (e2 : I 74 0 = nI M) (hu : u.toInt = 1 ∨ u.toInt = 2 ∨ u.toInt = 4) (hA : ∀ i, i < 9 → bn 12 (A i)) (hB : ∀ i, i < 3 → bn 12 (B i))  (p0 p1 p2 : Int32) (q0 : ¬ p0 < -100 ∧ ¬ 100 < p0) (q1 : ¬ p1 < -100 ∧ ¬ 100 < p1) (q2 : ¬ p2 < -100 ∧ ¬ 100 < p2) (hP : ∀ k, k < 3 → bn 100 ((fun k => if k = 0 then p0.toInt else if k = 1 then p1.toInt else p2.toInt) k)) (hrk : IsRk (pw A B) 3 3) (gz : ¬ gw 3 (gG 3 u.toInt A B) (gv 3 A (fun k => if k = 0 then p0.toInt else if k = 1 then p1.toInt else p2.toInt)) 9 = 0) {Q : Option Value → Hp → Prop} (go : ∀ L', (∀ c, c ≠ 74 → c ≠ 92 → c ≠ 95 → c ≠ 96 → c ≠ 97 → c ≠ 98 → L' c = L c) → Q (some (.long (wL (fn (gw 3 (gG 3 u.toInt A B) (gv 3 A (fun k => if k = 0 then p0.toInt else if k = 1 then p1.toInt else p2.toInt)) 2) (gw 3 (gG 3 u.toInt A B) (gv 3 A (fun k => if k = 0 then p0.toInt else if k = 1 then p1.toInt else p2.toInt)) 9))))) (n, sl, C, Z, I, L', R)) : Wp 140 0 [some (.ref 74), some (.int (nI j)), some (.int p0), some (.int p1), some (.int p2), some (.int 2), some (.int 0), none, none, none, none] [] (n, sl, C, Z, I, L, R) Q := by
  obtain ⟨hM, hj12, hs3, k76, k77, mA, mB, mK, mD, zA, zB⟩ := id hr
  have hM' := hM
  unfold LayM at hM
  have j0 : inb (nI j) 12 = true := by rw [inb_nI (by omega)]; simp; omega
  have jx := ix_nI (show j < 2 ^ 31 by omega)
  have ib : ∀ k, k < 3 → inb (nI (3 * j + k)) 36 = true ∧ ix (nI (3 * j + k)) = 3 * j + k := fun k hk => ⟨by rw [inb_nI (by omega)]; simp; omega, ix_nI (by omega)⟩
  have ib0 : inb (nI (3 * j)) 36 = true ∧ ix (nI (3 * j)) = 3 * j := ib 0 (by omega)
  have mB0 : (I 80 (3 * j)).toInt64 = wL (B 0) := mB 0 (by omega)
  have mK0 : (I 81 (3 * j)).toInt64 = wL (K 0) := mK 0 (by omega)
  have c74 : C 74 = 11 := by simp [hM]
  have n0 : nI 3 = 3 := rfl
  have wu : u.toInt64 = wL u.toInt := wL_i2l u
  have w0 : p0.toInt64 = wL p0.toInt := wL_i2l p0
  have w1 : p1.toInt64 = wL p1.toInt := wL_i2l p1
  have w2 : p2.toInt64 = wL p2.toInt := wL_i2l p2
  simp [S140_0, S140_1, S140_2, S140_3, S140_4, S140_5, S140_6, S140_7, S140_8, BS, ixs, inbs, le_nlt, hM, e2, j0, jx, k76, k77, n0, wu, w0, w1, w2, mul3, nIk, ib, ib0, mB, mB0, u2_rd, wL_mul, wL_add, wL_sub, ← wL_0, q0, q1, q2, is_yesG hM' hM12 hj]
  refine m_reached hr hA hB (fun r h1 h2 L1 f1 => ?_)
  have er := h2.uniq hrk
  subst er
  simp [S140_0, S140_1, S140_2, S140_3, S140_4, S140_5, S140_6, S140_7, S140_8, BS, ixs, inbs, le_nlt, hM, e2, j0, jx, k76, k77, n0, wu, w0, w1, w2, mul3, nIk, ib, ib0, mB, mB0, u2_rd, wL_mul, wL_add, wL_sub, ← wL_0, q0, q1, q2]
  refine m_owns hr (fun L2 f2 v2 => ?_)
  have o0 : L2 92 0 = wL (op A 3 0) := v2 0 (by omega)
  have o1 : L2 92 1 = wL (op A 3 1) := v2 1 (by omega)
  have o2 : L2 92 2 = wL (op A 3 2) := v2 2 (by omega)
  have o3 : L2 92 3 = wL (op A 3 3) := v2 3 (by omega)
  simp [S140_0, S140_1, S140_2, S140_3, S140_4, S140_5, S140_6, S140_7, S140_8, BS, ixs, inbs, le_nlt, hM, e2, j0, jx, k76, k77, n0, wu, w0, w1, w2, mul3, nIk, ib, ib0, mB, mB0, u2_rd, wL_mul, wL_add, wL_sub, ← wL_0, q0, q1, q2, o0, o1, o2, o3]
  refine m_turns hr (v := pw A B 0) (fun i hi => ?_) (fun L3 f3 w3_ => ?_)
  · rcases (by omega : i = 0 ∨ i = 1 ∨ i = 2) with rfl | rfl | rfl <;> simp [u2_rd, pw_0]
  have z30 : L3 97 0 = wL (pw A B 1 0) := w3_ 0 (by omega)
  have z31 : L3 97 1 = wL (pw A B 1 1) := w3_ 1 (by omega)
  have z32 : L3 97 2 = wL (pw A B 1 2) := w3_ 2 (by omega)
  simp [S140_0, S140_1, S140_2, S140_3, S140_4, S140_5, S140_6, S140_7, S140_8, BS, ixs, inbs, le_nlt, hM, e2, j0, jx, k76, k77, n0, wu, w0, w1, w2, mul3, nIk, ib, ib0, mB, mB0, u2_rd, wL_mul, wL_add, wL_sub, ← wL_0, q0, q1, q2, o0, o1, o2, o3, z30, z31, z32, f3 92, f3 95]
  refine m_turns hr (v := pw A B 0) (fun i hi => ?_) (fun L4 f4 w4_ => ?_)
  · rcases (by omega : i = 0 ∨ i = 1 ∨ i = 2) with rfl | rfl | rfl <;> simp [u2_rd, pw_0, z30, z31, z32, f3 92, f3 95]
  have z40 : L4 97 0 = wL (pw A B 1 0) := w4_ 0 (by omega)
  have z41 : L4 97 1 = wL (pw A B 1 1) := w4_ 1 (by omega)
  have z42 : L4 97 2 = wL (pw A B 1 2) := w4_ 2 (by omega)
  simp [S140_0, S140_1, S140_2, S140_3, S140_4, S140_5, S140_6, S140_7, S140_8, BS, ixs, inbs, le_nlt, hM, e2, j0, jx, k76, k77, n0, wu, w0, w1, w2, mul3, nIk, ib, ib0, mB, mB0, u2_rd, wL_mul, wL_add, wL_sub, ← wL_0, q0, q1, q2, o0, o1, o2, o3, z30, z31, z32, f3 92, f3 95, z40, z41, z42, f4 92, f4 95]
  refine m_turns hr (v := pw A B 1) (fun i hi => ?_) (fun L5 f5 w5_ => ?_)
  · rcases (by omega : i = 0 ∨ i = 1 ∨ i = 2) with rfl | rfl | rfl <;> simp [u2_rd, pw_0, z30, z31, z32, f3 92, f3 95, z40, z41, z42, f4 92, f4 95]
  have z50 : L5 97 0 = wL (pw A B 2 0) := w5_ 0 (by omega)
  have z51 : L5 97 1 = wL (pw A B 2 1) := w5_ 1 (by omega)
  have z52 : L5 97 2 = wL (pw A B 2 2) := w5_ 2 (by omega)
  simp [S140_0, S140_1, S140_2, S140_3, S140_4, S140_5, S140_6, S140_7, S140_8, BS, ixs, inbs, le_nlt, hM, e2, j0, jx, k76, k77, n0, wu, w0, w1, w2, mul3, nIk, ib, ib0, mB, mB0, u2_rd, wL_mul, wL_add, wL_sub, ← wL_0, q0, q1, q2, o0, o1, o2, o3, z30, z31, z32, f3 92, f3 95, z40, z41, z42, f4 92, f4 95, z50, z51, z52, f5 92, f5 95]
  refine m_turns hr (v := pw A B 0) (fun i hi => ?_) (fun L6 f6 w6_ => ?_)
  · rcases (by omega : i = 0 ∨ i = 1 ∨ i = 2) with rfl | rfl | rfl <;> simp [u2_rd, pw_0, z30, z31, z32, f3 92, f3 95, z40, z41, z42, f4 92, f4 95, z50, z51, z52, f5 92, f5 95]
  have z60 : L6 97 0 = wL (pw A B 1 0) := w6_ 0 (by omega)
  have z61 : L6 97 1 = wL (pw A B 1 1) := w6_ 1 (by omega)
  have z62 : L6 97 2 = wL (pw A B 1 2) := w6_ 2 (by omega)
  simp [S140_0, S140_1, S140_2, S140_3, S140_4, S140_5, S140_6, S140_7, S140_8, BS, ixs, inbs, le_nlt, hM, e2, j0, jx, k76, k77, n0, wu, w0, w1, w2, mul3, nIk, ib, ib0, mB, mB0, u2_rd, wL_mul, wL_add, wL_sub, ← wL_0, q0, q1, q2, o0, o1, o2, o3, z30, z31, z32, f3 92, f3 95, z40, z41, z42, f4 92, f4 95, z50, z51, z52, f5 92, f5 95, z60, z61, z62, f6 92, f6 95]
  refine m_worth3_2 hM' (G := gG 3 u.toInt A B) (v := gv 3 A (fun k => if k = 0 then p0.toInt else if k = 1 then p1.toInt else p2.toInt)) (fun e i he hi => ?_) (fun e he => ?_) (fun La fa => ?_)
  · rcases (by omega : e = 0 ∨ e = 1 ∨ e = 2) with rfl | rfl | rfl <;> rcases (by omega : i = 0 ∨ i = 1 ∨ i = 2) with rfl | rfl | rfl <;> simp [u2_rd, gG, pw_0, z30, z31, z32, f3 92, f3 95, z40, z41, z42, f4 92, f4 95, z50, z51, z52, f5 92, f5 95, z60, z61, z62, f6 92, f6 95]
  · rcases (by omega : e = 0 ∨ e = 1 ∨ e = 2) with rfl | rfl | rfl <;> simp [u2_rd, gv, z30, z31, z32, f3 92, f3 95, z40, z41, z42, f4 92, f4 95, z50, z51, z52, f5 92, f5 95, z60, z61, z62, f6 92, f6 95]
  simp [S140_0, S140_1, S140_2, S140_3, S140_4, S140_5, S140_6, S140_7, S140_8, BS, ixs, inbs, le_nlt, hM, e2, j0, jx, k76, k77, n0, wu, w0, w1, w2, mul3, nIk, ib, ib0, mB, mB0, u2_rd, wL_mul, wL_add, wL_sub, ← wL_0, q0, q1, q2, o0, o1, o2, o3]
  refine m_worth3_m hM' (G := gG 3 u.toInt A B) (v := gv 3 A (fun k => if k = 0 then p0.toInt else if k = 1 then p1.toInt else p2.toInt)) (fun e i he hi => ?_) (fun e he => ?_) (fun Lb fb => ?_)
  · rw [fa 95 (by omega)]
    rcases (by omega : e = 0 ∨ e = 1 ∨ e = 2) with rfl | rfl | rfl <;> rcases (by omega : i = 0 ∨ i = 1 ∨ i = 2) with rfl | rfl | rfl <;> simp [u2_rd, gG, pw_0, z30, z31, z32, f3 92, f3 95, z40, z41, z42, f4 92, f4 95, z50, z51, z52, f5 92, f5 95, z60, z61, z62, f6 92, f6 95]
  · rw [fa 97 (by omega)]
    rcases (by omega : e = 0 ∨ e = 1 ∨ e = 2) with rfl | rfl | rfl <;> simp [u2_rd, gv, z30, z31, z32, f3 92, f3 95, z40, z41, z42, f4 92, f4 95, z50, z51, z52, f5 92, f5 95, z60, z61, z62, f6 92, f6 95]
  have bi := bn_gw (s := 3) (P := (fun k => if k = 0 then p0.toInt else if k = 1 then p1.toInt else p2.toInt)) hu (by omega) (by omega) hA hB hP 2
  have b9 := bn_gw (s := 3) (P := (fun k => if k = 0 then p0.toInt else if k = 1 then p1.toInt else p2.toInt)) hu (by omega) (by omega) hA hB hP 9
  have gg := go (u2 (u2 Lb 74 28 (wL (fn (gw 3 (gG 3 u.toInt A B) (gv 3 A (fun k => if k = 0 then p0.toInt else if k = 1 then p1.toInt else p2.toInt)) 2) (gw 3 (gG 3 u.toInt A B) (gv 3 A (fun k => if k = 0 then p0.toInt else if k = 1 then p1.toInt else p2.toInt)) 9)))) 74 29 (wL (fd (gw 3 (gG 3 u.toInt A B) (gv 3 A (fun k => if k = 0 then p0.toInt else if k = 1 then p1.toInt else p2.toInt)) 2) (gw 3 (gG 3 u.toInt A B) (gv 3 A (fun k => if k = 0 then p0.toInt else if k = 1 then p1.toInt else p2.toInt)) 9)))) (fun c q1 q2 q3 q4 q5 q6 => by
      rw [u2_ne _ _ _ q1, u2_ne _ _ _ q1, fb c q4, fa c q4]
      repeat (first | rw [u2_ne _ _ _ q5] | rw [u2_ne _ _ _ q3] | rw [f3 c q5 q6] | rw [f4 c q5 q6] | rw [f5 c q5 q6] | rw [f6 c q5 q6] | rw [f2 c q2] | rw [f1 c q3 q5 q6]))
  simp [S140_0, S140_1, S140_2, S140_3, S140_4, S140_5, S140_6, S140_7, S140_8, BS, ixs, inbs, le_nlt, hM, e2, j0, jx, k76, k77, n0, wu, w0, w1, w2, mul3, nIk, ib, ib0, mB, mB0, u2_rd, wL_mul, wL_add, wL_sub, ← wL_0, q0, q1, q2, o0, o1, o2, o3]
  refine (m_low (a := gw 3 (gG 3 u.toInt A B) (gv 3 A (fun k => if k = 0 then p0.toInt else if k = 1 then p1.toInt else p2.toInt)) 2) (b := gw 3 (gG 3 u.toInt A B) (gv 3 A (fun k => if k = 0 then p0.toInt else if k = 1 then p1.toInt else p2.toInt)) 9) bi b9 gz c74 _ _ _ _ _).mpr ?_
  simp [S140_0, S140_1, S140_2, S140_3, S140_4, S140_5, S140_6, S140_7, S140_8, S107_0, Call_in (k2 := 107), BS, ixs, inbs, hM, u2_rd]
  exact gg
set_option maxRecDepth 100000 in
set_option maxHeartbeats 8000000 in
theorem m_gain_32_1 {n sl : Nat} {C Z : Nat → Nat} {I : Nat → Nat → Int32} {L : Nat → Nat → Int64} {R : Nat → Nat → Nat} {j : Nat} {u : Int32} {A B K : Nat → Int} {d : Int} {M : Nat} (hr : RM C Z I R j 3 u A B K d) (hM12 : M ≤ 12) (hj : j < M) (e2 : I 74 0 = nI M) (hu : u.toInt = 1 ∨ u.toInt = 2 ∨ u.toInt = 4) (hA : ∀ i, i < 9 → bn 12 (A i)) (hB : ∀ i, i < 3 → bn 12 (B i))  (p0 p1 p2 : Int32) (q0 : ¬ p0 < -100 ∧ ¬ 100 < p0) (q1 : ¬ p1 < -100 ∧ ¬ 100 < p1) (q2 : ¬ p2 < -100 ∧ ¬ 100 < p2) (hP : ∀ k, k < 3 → bn 100 ((fun k => if k = 0 then p0.toInt else if k = 1 then p1.toInt else p2.toInt) k)) (hrk : IsRk (pw A B) 3 3) (gz : ¬ gw 3 (gG 3 u.toInt A B) (gv 3 A (fun k => if k = 0 then p0.toInt else if k = 1 then p1.toInt else p2.toInt)) 9 = 0) {Q : Option Value → Hp → Prop} (go : ∀ L', (∀ c, c ≠ 74 → c ≠ 92 → c ≠ 95 → c ≠ 96 → c ≠ 97 → c ≠ 98 → L' c = L c) → Q (some (.long (wL (fd (gw 3 (gG 3 u.toInt A B) (gv 3 A (fun k => if k = 0 then p0.toInt else if k = 1 then p1.toInt else p2.toInt)) 2) (gw 3 (gG 3 u.toInt A B) (gv 3 A (fun k => if k = 0 then p0.toInt else if k = 1 then p1.toInt else p2.toInt)) 9))))) (n, sl, C, Z, I, L', R)) : Wp 140 0 [some (.ref 74), some (.int (nI j)), some (.int p0), some (.int p1), some (.int p2), some (.int 2), some (.int 1), none, none, none, none] [] (n, sl, C, Z, I, L, R) Q := by
  obtain ⟨hM, hj12, hs3, k76, k77, mA, mB, mK, mD, zA, zB⟩ := id hr
  have hM' := hM
  unfold LayM at hM
  have j0 : inb (nI j) 12 = true := by rw [inb_nI (by omega)]; simp; omega
  have jx := ix_nI (show j < 2 ^ 31 by omega)
  have ib : ∀ k, k < 3 → inb (nI (3 * j + k)) 36 = true ∧ ix (nI (3 * j + k)) = 3 * j + k := fun k hk => ⟨by rw [inb_nI (by omega)]; simp; omega, ix_nI (by omega)⟩
  have ib0 : inb (nI (3 * j)) 36 = true ∧ ix (nI (3 * j)) = 3 * j := ib 0 (by omega)
  have mB0 : (I 80 (3 * j)).toInt64 = wL (B 0) := mB 0 (by omega)
  have mK0 : (I 81 (3 * j)).toInt64 = wL (K 0) := mK 0 (by omega)
  have c74 : C 74 = 11 := by simp [hM]
  have n0 : nI 3 = 3 := rfl
  have wu : u.toInt64 = wL u.toInt := wL_i2l u
  have w0 : p0.toInt64 = wL p0.toInt := wL_i2l p0
  have w1 : p1.toInt64 = wL p1.toInt := wL_i2l p1
  have w2 : p2.toInt64 = wL p2.toInt := wL_i2l p2
  simp [S140_0, S140_1, S140_2, S140_3, S140_4, S140_5, S140_6, S140_7, S140_8, BS, ixs, inbs, le_nlt, hM, e2, j0, jx, k76, k77, n0, wu, w0, w1, w2, mul3, nIk, ib, ib0, mB, mB0, u2_rd, wL_mul, wL_add, wL_sub, ← wL_0, q0, q1, q2, is_yesG hM' hM12 hj]
  refine m_reached hr hA hB (fun r h1 h2 L1 f1 => ?_)
  have er := h2.uniq hrk
  subst er
  simp [S140_0, S140_1, S140_2, S140_3, S140_4, S140_5, S140_6, S140_7, S140_8, BS, ixs, inbs, le_nlt, hM, e2, j0, jx, k76, k77, n0, wu, w0, w1, w2, mul3, nIk, ib, ib0, mB, mB0, u2_rd, wL_mul, wL_add, wL_sub, ← wL_0, q0, q1, q2]
  refine m_owns hr (fun L2 f2 v2 => ?_)
  have o0 : L2 92 0 = wL (op A 3 0) := v2 0 (by omega)
  have o1 : L2 92 1 = wL (op A 3 1) := v2 1 (by omega)
  have o2 : L2 92 2 = wL (op A 3 2) := v2 2 (by omega)
  have o3 : L2 92 3 = wL (op A 3 3) := v2 3 (by omega)
  simp [S140_0, S140_1, S140_2, S140_3, S140_4, S140_5, S140_6, S140_7, S140_8, BS, ixs, inbs, le_nlt, hM, e2, j0, jx, k76, k77, n0, wu, w0, w1, w2, mul3, nIk, ib, ib0, mB, mB0, u2_rd, wL_mul, wL_add, wL_sub, ← wL_0, q0, q1, q2, o0, o1, o2, o3]
  refine m_turns hr (v := pw A B 0) (fun i hi => ?_) (fun L3 f3 w3_ => ?_)
  · rcases (by omega : i = 0 ∨ i = 1 ∨ i = 2) with rfl | rfl | rfl <;> simp [u2_rd, pw_0]
  have z30 : L3 97 0 = wL (pw A B 1 0) := w3_ 0 (by omega)
  have z31 : L3 97 1 = wL (pw A B 1 1) := w3_ 1 (by omega)
  have z32 : L3 97 2 = wL (pw A B 1 2) := w3_ 2 (by omega)
  simp [S140_0, S140_1, S140_2, S140_3, S140_4, S140_5, S140_6, S140_7, S140_8, BS, ixs, inbs, le_nlt, hM, e2, j0, jx, k76, k77, n0, wu, w0, w1, w2, mul3, nIk, ib, ib0, mB, mB0, u2_rd, wL_mul, wL_add, wL_sub, ← wL_0, q0, q1, q2, o0, o1, o2, o3, z30, z31, z32, f3 92, f3 95]
  refine m_turns hr (v := pw A B 0) (fun i hi => ?_) (fun L4 f4 w4_ => ?_)
  · rcases (by omega : i = 0 ∨ i = 1 ∨ i = 2) with rfl | rfl | rfl <;> simp [u2_rd, pw_0, z30, z31, z32, f3 92, f3 95]
  have z40 : L4 97 0 = wL (pw A B 1 0) := w4_ 0 (by omega)
  have z41 : L4 97 1 = wL (pw A B 1 1) := w4_ 1 (by omega)
  have z42 : L4 97 2 = wL (pw A B 1 2) := w4_ 2 (by omega)
  simp [S140_0, S140_1, S140_2, S140_3, S140_4, S140_5, S140_6, S140_7, S140_8, BS, ixs, inbs, le_nlt, hM, e2, j0, jx, k76, k77, n0, wu, w0, w1, w2, mul3, nIk, ib, ib0, mB, mB0, u2_rd, wL_mul, wL_add, wL_sub, ← wL_0, q0, q1, q2, o0, o1, o2, o3, z30, z31, z32, f3 92, f3 95, z40, z41, z42, f4 92, f4 95]
  refine m_turns hr (v := pw A B 1) (fun i hi => ?_) (fun L5 f5 w5_ => ?_)
  · rcases (by omega : i = 0 ∨ i = 1 ∨ i = 2) with rfl | rfl | rfl <;> simp [u2_rd, pw_0, z30, z31, z32, f3 92, f3 95, z40, z41, z42, f4 92, f4 95]
  have z50 : L5 97 0 = wL (pw A B 2 0) := w5_ 0 (by omega)
  have z51 : L5 97 1 = wL (pw A B 2 1) := w5_ 1 (by omega)
  have z52 : L5 97 2 = wL (pw A B 2 2) := w5_ 2 (by omega)
  simp [S140_0, S140_1, S140_2, S140_3, S140_4, S140_5, S140_6, S140_7, S140_8, BS, ixs, inbs, le_nlt, hM, e2, j0, jx, k76, k77, n0, wu, w0, w1, w2, mul3, nIk, ib, ib0, mB, mB0, u2_rd, wL_mul, wL_add, wL_sub, ← wL_0, q0, q1, q2, o0, o1, o2, o3, z30, z31, z32, f3 92, f3 95, z40, z41, z42, f4 92, f4 95, z50, z51, z52, f5 92, f5 95]
  refine m_turns hr (v := pw A B 0) (fun i hi => ?_) (fun L6 f6 w6_ => ?_)
  · rcases (by omega : i = 0 ∨ i = 1 ∨ i = 2) with rfl | rfl | rfl <;> simp [u2_rd, pw_0, z30, z31, z32, f3 92, f3 95, z40, z41, z42, f4 92, f4 95, z50, z51, z52, f5 92, f5 95]
  have z60 : L6 97 0 = wL (pw A B 1 0) := w6_ 0 (by omega)
  have z61 : L6 97 1 = wL (pw A B 1 1) := w6_ 1 (by omega)
  have z62 : L6 97 2 = wL (pw A B 1 2) := w6_ 2 (by omega)
  simp [S140_0, S140_1, S140_2, S140_3, S140_4, S140_5, S140_6, S140_7, S140_8, BS, ixs, inbs, le_nlt, hM, e2, j0, jx, k76, k77, n0, wu, w0, w1, w2, mul3, nIk, ib, ib0, mB, mB0, u2_rd, wL_mul, wL_add, wL_sub, ← wL_0, q0, q1, q2, o0, o1, o2, o3, z30, z31, z32, f3 92, f3 95, z40, z41, z42, f4 92, f4 95, z50, z51, z52, f5 92, f5 95, z60, z61, z62, f6 92, f6 95]
  refine m_worth3_2 hM' (G := gG 3 u.toInt A B) (v := gv 3 A (fun k => if k = 0 then p0.toInt else if k = 1 then p1.toInt else p2.toInt)) (fun e i he hi => ?_) (fun e he => ?_) (fun La fa => ?_)
  · rcases (by omega : e = 0 ∨ e = 1 ∨ e = 2) with rfl | rfl | rfl <;> rcases (by omega : i = 0 ∨ i = 1 ∨ i = 2) with rfl | rfl | rfl <;> simp [u2_rd, gG, pw_0, z30, z31, z32, f3 92, f3 95, z40, z41, z42, f4 92, f4 95, z50, z51, z52, f5 92, f5 95, z60, z61, z62, f6 92, f6 95]
  · rcases (by omega : e = 0 ∨ e = 1 ∨ e = 2) with rfl | rfl | rfl <;> simp [u2_rd, gv, z30, z31, z32, f3 92, f3 95, z40, z41, z42, f4 92, f4 95, z50, z51, z52, f5 92, f5 95, z60, z61, z62, f6 92, f6 95]
  simp [S140_0, S140_1, S140_2, S140_3, S140_4, S140_5, S140_6, S140_7, S140_8, BS, ixs, inbs, le_nlt, hM, e2, j0, jx, k76, k77, n0, wu, w0, w1, w2, mul3, nIk, ib, ib0, mB, mB0, u2_rd, wL_mul, wL_add, wL_sub, ← wL_0, q0, q1, q2, o0, o1, o2, o3]
  refine m_worth3_m hM' (G := gG 3 u.toInt A B) (v := gv 3 A (fun k => if k = 0 then p0.toInt else if k = 1 then p1.toInt else p2.toInt)) (fun e i he hi => ?_) (fun e he => ?_) (fun Lb fb => ?_)
  · rw [fa 95 (by omega)]
    rcases (by omega : e = 0 ∨ e = 1 ∨ e = 2) with rfl | rfl | rfl <;> rcases (by omega : i = 0 ∨ i = 1 ∨ i = 2) with rfl | rfl | rfl <;> simp [u2_rd, gG, pw_0, z30, z31, z32, f3 92, f3 95, z40, z41, z42, f4 92, f4 95, z50, z51, z52, f5 92, f5 95, z60, z61, z62, f6 92, f6 95]
  · rw [fa 97 (by omega)]
    rcases (by omega : e = 0 ∨ e = 1 ∨ e = 2) with rfl | rfl | rfl <;> simp [u2_rd, gv, z30, z31, z32, f3 92, f3 95, z40, z41, z42, f4 92, f4 95, z50, z51, z52, f5 92, f5 95, z60, z61, z62, f6 92, f6 95]
  have bi := bn_gw (s := 3) (P := (fun k => if k = 0 then p0.toInt else if k = 1 then p1.toInt else p2.toInt)) hu (by omega) (by omega) hA hB hP 2
  have b9 := bn_gw (s := 3) (P := (fun k => if k = 0 then p0.toInt else if k = 1 then p1.toInt else p2.toInt)) hu (by omega) (by omega) hA hB hP 9
  have gg := go (u2 (u2 Lb 74 28 (wL (fn (gw 3 (gG 3 u.toInt A B) (gv 3 A (fun k => if k = 0 then p0.toInt else if k = 1 then p1.toInt else p2.toInt)) 2) (gw 3 (gG 3 u.toInt A B) (gv 3 A (fun k => if k = 0 then p0.toInt else if k = 1 then p1.toInt else p2.toInt)) 9)))) 74 29 (wL (fd (gw 3 (gG 3 u.toInt A B) (gv 3 A (fun k => if k = 0 then p0.toInt else if k = 1 then p1.toInt else p2.toInt)) 2) (gw 3 (gG 3 u.toInt A B) (gv 3 A (fun k => if k = 0 then p0.toInt else if k = 1 then p1.toInt else p2.toInt)) 9)))) (fun c q1 q2 q3 q4 q5 q6 => by
      rw [u2_ne _ _ _ q1, u2_ne _ _ _ q1, fb c q4, fa c q4]
      repeat (first | rw [u2_ne _ _ _ q5] | rw [u2_ne _ _ _ q3] | rw [f3 c q5 q6] | rw [f4 c q5 q6] | rw [f5 c q5 q6] | rw [f6 c q5 q6] | rw [f2 c q2] | rw [f1 c q3 q5 q6]))
  simp [S140_0, S140_1, S140_2, S140_3, S140_4, S140_5, S140_6, S140_7, S140_8, BS, ixs, inbs, le_nlt, hM, e2, j0, jx, k76, k77, n0, wu, w0, w1, w2, mul3, nIk, ib, ib0, mB, mB0, u2_rd, wL_mul, wL_add, wL_sub, ← wL_0, q0, q1, q2, o0, o1, o2, o3]
  refine (m_low (a := gw 3 (gG 3 u.toInt A B) (gv 3 A (fun k => if k = 0 then p0.toInt else if k = 1 then p1.toInt else p2.toInt)) 2) (b := gw 3 (gG 3 u.toInt A B) (gv 3 A (fun k => if k = 0 then p0.toInt else if k = 1 then p1.toInt else p2.toInt)) 9) bi b9 gz c74 _ _ _ _ _).mpr ?_
  simp [S140_0, S140_1, S140_2, S140_3, S140_4, S140_5, S140_6, S140_7, S140_8, S107_0, Call_in (k2 := 107), BS, ixs, inbs, hM, u2_rd]
  exact gg
