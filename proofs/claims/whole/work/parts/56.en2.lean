/-! the reference's ENERGY -/
def sg (fl : Bool) : Int := if fl = true then 1 else -1
theorem worth_D (fl : Bool) (u : Int) (A : Nat → Int) : dt3 (fun i => sg fl * eC fl 2 u A i 0) (fun i => sg fl * eC fl 2 u A i 1) (fun i => sg fl * eC fl 2 u A i 2) = sg fl * eD fl 2 u A := by
  unfold eD dt3
  generalize eC fl 2 u A = c
  cases fl <;> simp [sg] <;> grind
theorem worth_N0 (fl : Bool) (u : Int) (A : Nat → Int) : dt3 (fun i => if i = 0 then sg fl * eS fl 2 u 0 else sg fl * eC fl 2 u A i 0) (fun i => if i = 0 then sg fl * eS fl 2 u 1 else sg fl * eC fl 2 u A i 1) (fun i => if i = 0 then sg fl * eS fl 2 u 2 else sg fl * eC fl 2 u A i 2) = sg fl * eN fl 2 u A 0 := by
  unfold eN dt3
  generalize eC fl 2 u A = c
  generalize eS fl 2 u = v
  cases fl <;> simp [sg] <;> grind
theorem worth_N1 (fl : Bool) (u : Int) (A : Nat → Int) : dt3 (fun i => if i = 1 then sg fl * eS fl 2 u 0 else sg fl * eC fl 2 u A i 0) (fun i => if i = 1 then sg fl * eS fl 2 u 1 else sg fl * eC fl 2 u A i 1) (fun i => if i = 1 then sg fl * eS fl 2 u 2 else sg fl * eC fl 2 u A i 2) = sg fl * eN fl 2 u A 1 := by
  unfold eN dt3
  generalize eC fl 2 u A = c
  generalize eS fl 2 u = v
  cases fl <;> simp [sg] <;> grind
theorem worth_N2 (fl : Bool) (u : Int) (A : Nat → Int) : dt3 (fun i => if i = 2 then sg fl * eS fl 2 u 0 else sg fl * eC fl 2 u A i 0) (fun i => if i = 2 then sg fl * eS fl 2 u 1 else sg fl * eC fl 2 u A i 1) (fun i => if i = 2 then sg fl * eS fl 2 u 2 else sg fl * eC fl 2 u A i 2) = sg fl * eN fl 2 u A 2 := by
  unfold eN dt3
  generalize eC fl 2 u A = c
  generalize eS fl 2 u = v
  cases fl <;> simp [sg] <;> grind
theorem sg_mul (fl : Bool) (x : Int) : sg fl * x = x ∨ sg fl * x = -x := by cases fl <;> simp [sg]
theorem fn_sg {fl : Bool} {a b : Int} (hb : ¬ b = 0) : fn (sg fl * a) (sg fl * b) = fn a b ∧ fd (sg fl * a) (sg fl * b) = fd a b := by
  cases fl
  · have e1 : sg false * a = -a := by simp [sg]
    have e2 : sg false * b = -b := by simp [sg]
    rw [e1, e2]
    unfold fn fd
    rw [Int.gcd_neg, Int.neg_gcd]
    have d1 : -a / (Int.gcd a b : Int) = -(a / (Int.gcd a b : Int)) := Int.neg_ediv_of_dvd (Int.gcd_dvd_left a b)
    have d2 : -b / (Int.gcd a b : Int) = -(b / (Int.gcd a b : Int)) := Int.neg_ediv_of_dvd (Int.gcd_dvd_right a b)
    rw [d1, d2]
    by_cases c : b < 0
    · rw [if_neg (by omega), if_pos c, if_neg (by omega), if_pos c]
      exact ⟨rfl, rfl⟩
    · rw [if_pos (by omega), if_neg c, if_pos (by omega), if_neg c]
      exact ⟨by omega, by omega⟩
  · have e1 : sg true * a = a := by simp [sg]
    have e2 : sg true * b = b := by simp [sg]
    rw [e1, e2]
    exact ⟨rfl, rfl⟩
theorem eD_1 (fl : Bool) (u : Int) (A : Nat → Int) : eD fl 1 u A = eC fl 1 u A 0 0 ∧ eN fl 1 u A 0 = eS fl 1 u 0 := by
  unfold eD eN dt3
  simp [eC, eS]
theorem eD_0 (fl : Bool) (u : Int) (A : Nat → Int) : eD fl 0 u A = 1 := by
  unfold eD dt3
  simp [eC]
set_option maxRecDepth 100000 in
set_option maxHeartbeats 8000000 in
theorem m_worth3_m {n sl : Nat} {C Z : Nat → Nat} {I : Nat → Nat → Int32} {L : Nat → Nat → Int64} {R : Nat → Nat → Nat} {G : Nat → Nat → Int} {v : Nat → Int} (hM : LayM C Z R) (hG : ∀ e i, e < 3 → i < 3 → L 95 (3 * e + i) = wL (G e i)) (hv : ∀ e, e < 3 → L 97 e = wL (v e)) {k pc : Nat} {ls : Lo} {st : List Value} {Q : Option Value → Hp → Prop} (go : ∀ L', (∀ c, c ≠ 96 → L' c = L c) → Wp k pc ls (.long (wL (dt3 (fun i => G 0 i) (fun i => G 1 i) (fun i => G 2 i))) :: st) (n, sl, C, Z, I, L', R) Q) : Call 139 [some (.ref 74), some (.int 3), some (.int (-1)), none, none] (n, sl, C, Z, I, L, R) k pc ls st Q := by
  unfold LayM at hM
  have g00 := hG 0 0 (by omega) (by omega)
  have g01 := hG 0 1 (by omega) (by omega)
  have g02 := hG 0 2 (by omega) (by omega)
  have g10 := hG 1 0 (by omega) (by omega)
  have g11 := hG 1 1 (by omega) (by omega)
  have g12 := hG 1 2 (by omega) (by omega)
  have g20 := hG 2 0 (by omega) (by omega)
  have g21 := hG 2 1 (by omega) (by omega)
  have g22 := hG 2 2 (by omega) (by omega)
  have v0 := hv 0 (by omega)
  have v1 := hv 1 (by omega)
  have v2 := hv 2 (by omega)
  simp only [Nat.mul_zero, Nat.zero_add, Nat.add_zero, Nat.mul_one, Nat.reduceMul, Nat.reduceAdd] at g00 g01 g02 g10 g11 g12 g20 g21 g22
  simp [S139_0, S139_1, S139_2, S139_3, S139_4, S139_5, Call_in (k2 := 139), BS, ixs, inbs, hM, wL_mul, wL_add, wL_sub, g00, g01, g02, g10, g11, g12, g20, g21, g22, v0, v1, v2, u2_rd]
  simp [dt3] at go
  exact go _ (fun c h1 => by repeat (first | rw [u2_ne _ _ _ h1]))
set_option maxRecDepth 100000 in
set_option maxHeartbeats 8000000 in
theorem m_worth3_0 {n sl : Nat} {C Z : Nat → Nat} {I : Nat → Nat → Int32} {L : Nat → Nat → Int64} {R : Nat → Nat → Nat} {G : Nat → Nat → Int} {v : Nat → Int} (hM : LayM C Z R) (hG : ∀ e i, e < 3 → i < 3 → L 95 (3 * e + i) = wL (G e i)) (hv : ∀ e, e < 3 → L 97 e = wL (v e)) {k pc : Nat} {ls : Lo} {st : List Value} {Q : Option Value → Hp → Prop} (go : ∀ L', (∀ c, c ≠ 96 → L' c = L c) → Wp k pc ls (.long (wL (dt3 (fun i => if i = 0 then v 0 else G 0 i) (fun i => if i = 0 then v 1 else G 1 i) (fun i => if i = 0 then v 2 else G 2 i))) :: st) (n, sl, C, Z, I, L', R) Q) : Call 139 [some (.ref 74), some (.int 3), some (.int (0)), none, none] (n, sl, C, Z, I, L, R) k pc ls st Q := by
  unfold LayM at hM
  have g00 := hG 0 0 (by omega) (by omega)
  have g01 := hG 0 1 (by omega) (by omega)
  have g02 := hG 0 2 (by omega) (by omega)
  have g10 := hG 1 0 (by omega) (by omega)
  have g11 := hG 1 1 (by omega) (by omega)
  have g12 := hG 1 2 (by omega) (by omega)
  have g20 := hG 2 0 (by omega) (by omega)
  have g21 := hG 2 1 (by omega) (by omega)
  have g22 := hG 2 2 (by omega) (by omega)
  have v0 := hv 0 (by omega)
  have v1 := hv 1 (by omega)
  have v2 := hv 2 (by omega)
  simp only [Nat.mul_zero, Nat.zero_add, Nat.add_zero, Nat.mul_one, Nat.reduceMul, Nat.reduceAdd] at g00 g01 g02 g10 g11 g12 g20 g21 g22
  simp [S139_0, S139_1, S139_2, S139_3, S139_4, S139_5, Call_in (k2 := 139), BS, ixs, inbs, hM, wL_mul, wL_add, wL_sub, g00, g01, g02, g10, g11, g12, g20, g21, g22, v0, v1, v2, u2_rd]
  simp [dt3] at go
  exact go _ (fun c h1 => by repeat (first | rw [u2_ne _ _ _ h1]))
set_option maxRecDepth 100000 in
set_option maxHeartbeats 8000000 in
theorem m_worth3_1 {n sl : Nat} {C Z : Nat → Nat} {I : Nat → Nat → Int32} {L : Nat → Nat → Int64} {R : Nat → Nat → Nat} {G : Nat → Nat → Int} {v : Nat → Int} (hM : LayM C Z R) (hG : ∀ e i, e < 3 → i < 3 → L 95 (3 * e + i) = wL (G e i)) (hv : ∀ e, e < 3 → L 97 e = wL (v e)) {k pc : Nat} {ls : Lo} {st : List Value} {Q : Option Value → Hp → Prop} (go : ∀ L', (∀ c, c ≠ 96 → L' c = L c) → Wp k pc ls (.long (wL (dt3 (fun i => if i = 1 then v 0 else G 0 i) (fun i => if i = 1 then v 1 else G 1 i) (fun i => if i = 1 then v 2 else G 2 i))) :: st) (n, sl, C, Z, I, L', R) Q) : Call 139 [some (.ref 74), some (.int 3), some (.int (1)), none, none] (n, sl, C, Z, I, L, R) k pc ls st Q := by
  unfold LayM at hM
  have g00 := hG 0 0 (by omega) (by omega)
  have g01 := hG 0 1 (by omega) (by omega)
  have g02 := hG 0 2 (by omega) (by omega)
  have g10 := hG 1 0 (by omega) (by omega)
  have g11 := hG 1 1 (by omega) (by omega)
  have g12 := hG 1 2 (by omega) (by omega)
  have g20 := hG 2 0 (by omega) (by omega)
  have g21 := hG 2 1 (by omega) (by omega)
  have g22 := hG 2 2 (by omega) (by omega)
  have v0 := hv 0 (by omega)
  have v1 := hv 1 (by omega)
  have v2 := hv 2 (by omega)
  simp only [Nat.mul_zero, Nat.zero_add, Nat.add_zero, Nat.mul_one, Nat.reduceMul, Nat.reduceAdd] at g00 g01 g02 g10 g11 g12 g20 g21 g22
  simp [S139_0, S139_1, S139_2, S139_3, S139_4, S139_5, Call_in (k2 := 139), BS, ixs, inbs, hM, wL_mul, wL_add, wL_sub, g00, g01, g02, g10, g11, g12, g20, g21, g22, v0, v1, v2, u2_rd]
  simp [dt3] at go
  exact go _ (fun c h1 => by repeat (first | rw [u2_ne _ _ _ h1]))
set_option maxRecDepth 100000 in
set_option maxHeartbeats 8000000 in
theorem m_worth3_2 {n sl : Nat} {C Z : Nat → Nat} {I : Nat → Nat → Int32} {L : Nat → Nat → Int64} {R : Nat → Nat → Nat} {G : Nat → Nat → Int} {v : Nat → Int} (hM : LayM C Z R) (hG : ∀ e i, e < 3 → i < 3 → L 95 (3 * e + i) = wL (G e i)) (hv : ∀ e, e < 3 → L 97 e = wL (v e)) {k pc : Nat} {ls : Lo} {st : List Value} {Q : Option Value → Hp → Prop} (go : ∀ L', (∀ c, c ≠ 96 → L' c = L c) → Wp k pc ls (.long (wL (dt3 (fun i => if i = 2 then v 0 else G 0 i) (fun i => if i = 2 then v 1 else G 1 i) (fun i => if i = 2 then v 2 else G 2 i))) :: st) (n, sl, C, Z, I, L', R) Q) : Call 139 [some (.ref 74), some (.int 3), some (.int (2)), none, none] (n, sl, C, Z, I, L, R) k pc ls st Q := by
  unfold LayM at hM
  have g00 := hG 0 0 (by omega) (by omega)
  have g01 := hG 0 1 (by omega) (by omega)
  have g02 := hG 0 2 (by omega) (by omega)
  have g10 := hG 1 0 (by omega) (by omega)
  have g11 := hG 1 1 (by omega) (by omega)
  have g12 := hG 1 2 (by omega) (by omega)
  have g20 := hG 2 0 (by omega) (by omega)
  have g21 := hG 2 1 (by omega) (by omega)
  have g22 := hG 2 2 (by omega) (by omega)
  have v0 := hv 0 (by omega)
  have v1 := hv 1 (by omega)
  have v2 := hv 2 (by omega)
  simp only [Nat.mul_zero, Nat.zero_add, Nat.add_zero, Nat.mul_one, Nat.reduceMul, Nat.reduceAdd] at g00 g01 g02 g10 g11 g12 g20 g21 g22
  simp [S139_0, S139_1, S139_2, S139_3, S139_4, S139_5, Call_in (k2 := 139), BS, ixs, inbs, hM, wL_mul, wL_add, wL_sub, g00, g01, g02, g10, g11, g12, g20, g21, g22, v0, v1, v2, u2_rd]
  simp [dt3] at go
  exact go _ (fun c h1 => by repeat (first | rw [u2_ne _ _ _ h1]))
set_option maxRecDepth 100000 in
set_option maxHeartbeats 8000000 in
theorem m_worth1_m {n sl : Nat} {C Z : Nat → Nat} {I : Nat → Nat → Int32} {L : Nat → Nat → Int64} {R : Nat → Nat → Nat} (hM : LayM C Z R) {k pc : Nat} {ls : Lo} {st : List Value} {Q : Option Value → Hp → Prop} (go : ∀ L', (∀ c, c ≠ 96 → L' c = L c) → Wp k pc ls (.long (L 95 0) :: st) (n, sl, C, Z, I, L', R) Q) : Call 139 [some (.ref 74), some (.int 1), some (.int (-1)), none, none] (n, sl, C, Z, I, L, R) k pc ls st Q := by
  unfold LayM at hM
  simp [S139_0, S139_1, S139_2, S139_3, S139_4, S139_5, Call_in (k2 := 139), BS, ixs, inbs, hM, u2_rd]
  exact go _ (fun c h1 => by repeat (first | rw [u2_ne _ _ _ h1]))
set_option maxRecDepth 100000 in
set_option maxHeartbeats 8000000 in
theorem m_worth1_0 {n sl : Nat} {C Z : Nat → Nat} {I : Nat → Nat → Int32} {L : Nat → Nat → Int64} {R : Nat → Nat → Nat} (hM : LayM C Z R) {k pc : Nat} {ls : Lo} {st : List Value} {Q : Option Value → Hp → Prop} (go : ∀ L', (∀ c, c ≠ 96 → L' c = L c) → Wp k pc ls (.long (L 97 0) :: st) (n, sl, C, Z, I, L', R) Q) : Call 139 [some (.ref 74), some (.int 1), some (.int (0)), none, none] (n, sl, C, Z, I, L, R) k pc ls st Q := by
  unfold LayM at hM
  simp [S139_0, S139_1, S139_2, S139_3, S139_4, S139_5, Call_in (k2 := 139), BS, ixs, inbs, hM, u2_rd]
  exact go _ (fun c h1 => by repeat (first | rw [u2_ne _ _ _ h1]))
set_option maxRecDepth 100000 in
set_option maxHeartbeats 8000000 in
theorem m_lays_0t {n sl : Nat} {C Z : Nat → Nat} {I : Nat → Nat → Int32} {L : Nat → Nat → Int64} {R : Nat → Nat → Nat} {j : Nat} {u : Int32} {A B K : Nat → Int} {d : Int} (hr : RM C Z I R j 0 u A B K d) (kd : ¬ I 75 j = 1) {k pc : Nat} {ls : Lo} {st : List Value} {Q : Option Value → Hp → Prop} (go : ∀ L', (∀ c, c ≠ 95 → c ≠ 97 → L' c = L c) → True → Wp k pc ls (.int (0) :: st) (n, sl, C, Z, I, L', R) Q) : Call 142 [some (.ref 74), some (.int (nI j)), none, none, none, none, none, none, none, none, none, none, none, none, none, none] (n, sl, C, Z, I, L, R) k pc ls st Q := by
  obtain ⟨hM, hj12, hs3, k76, k77, mA, mB, mK, mD, zA, zB⟩ := id hr
  unfold LayM at hM
  have j0 : inb (nI j) 12 = true := by rw [inb_nI (by omega)]; simp; omega
  have jx := ix_nI (show j < 2 ^ 31 by omega)
  have ia : ∀ k, k < 9 → inb (nI (9 * j + k)) 108 = true ∧ ix (nI (9 * j + k)) = 9 * j + k := fun k hk => ⟨by rw [inb_nI (by omega)]; simp; omega, ix_nI (by omega)⟩
  have ia0 : inb (nI (9 * j)) 108 = true ∧ ix (nI (9 * j)) = 9 * j := ia 0 (by omega)
  have mA0 : (I 79 (9 * j)).toInt64 = wL (A 0) := mA 0 (by omega)
  have n0 : nI 0 = 0 := rfl
  have p2 : (2 : Int64) = wL 2 := rfl
  have wu : u.toInt64 = wL u.toInt := wL_i2l u
  simp [S142_0, S142_1, S142_2, S142_3, S142_4, S142_5, S142_6, S142_7, S142_8, S142_9, S142_10, S104_0, Call_in (k2 := 142), Call_in (k2 := 104), BS, ixs, inbs, wL_mul, wL_add, wL_sub, wL_neg, wu, hM, j0, jx, k76, k77, kd, mA, mA0, mul9, nIk, ia, ia0, Nat.add_assoc, n0, u2_rd, ← wL_0, ← wL_1, p2]
  exact go _ (fun c h1 h2 => rfl) trivial
set_option maxRecDepth 100000 in
set_option maxHeartbeats 8000000 in
theorem m_lays_1t {n sl : Nat} {C Z : Nat → Nat} {I : Nat → Nat → Int32} {L : Nat → Nat → Int64} {R : Nat → Nat → Nat} {j : Nat} {u : Int32} {A B K : Nat → Int} {d : Int} (hr : RM C Z I R j 1 u A B K d) (kd : ¬ I 75 j = 1) {k pc : Nat} {ls : Lo} {st : List Value} {Q : Option Value → Hp → Prop} (go : ∀ L', (∀ c, c ≠ 95 → c ≠ 97 → L' c = L c) → (L' 95 0 = wL (sg false * eC false 1 u.toInt A 0 0) ∧ L' 97 0 = wL (sg false * eS false 1 u.toInt 0)) → Wp k pc ls (.int (1) :: st) (n, sl, C, Z, I, L', R) Q) : Call 142 [some (.ref 74), some (.int (nI j)), none, none, none, none, none, none, none, none, none, none, none, none, none, none] (n, sl, C, Z, I, L, R) k pc ls st Q := by
  obtain ⟨hM, hj12, hs3, k76, k77, mA, mB, mK, mD, zA, zB⟩ := id hr
  unfold LayM at hM
  have j0 : inb (nI j) 12 = true := by rw [inb_nI (by omega)]; simp; omega
  have jx := ix_nI (show j < 2 ^ 31 by omega)
  have ia : ∀ k, k < 9 → inb (nI (9 * j + k)) 108 = true ∧ ix (nI (9 * j + k)) = 9 * j + k := fun k hk => ⟨by rw [inb_nI (by omega)]; simp; omega, ix_nI (by omega)⟩
  have ia0 : inb (nI (9 * j)) 108 = true ∧ ix (nI (9 * j)) = 9 * j := ia 0 (by omega)
  have mA0 : (I 79 (9 * j)).toInt64 = wL (A 0) := mA 0 (by omega)
  have n0 : nI 1 = 1 := rfl
  have p2 : (2 : Int64) = wL 2 := rfl
  have wu : u.toInt64 = wL u.toInt := wL_i2l u
  simp [S142_0, S142_1, S142_2, S142_3, S142_4, S142_5, S142_6, S142_7, S142_8, S142_9, S142_10, S104_0, Call_in (k2 := 142), Call_in (k2 := 104), BS, ixs, inbs, wL_mul, wL_add, wL_sub, wL_neg, wu, hM, j0, jx, k76, k77, kd, mA, mA0, mul9, nIk, ia, ia0, Nat.add_assoc, n0, u2_rd, ← wL_0, ← wL_1, p2]
  refine go _ (fun c h1 h2 => ?_) ⟨?_, ?_⟩
  · repeat (first | rw [u2_ne _ _ _ h1] | rw [u2_ne _ _ _ h2])
  · simp [u2_rd, eC, eS, sg]
    try grind
  · simp [u2_rd, eC, eS, sg]
    try grind
set_option maxRecDepth 100000 in
set_option maxHeartbeats 8000000 in
theorem m_lays_2t {n sl : Nat} {C Z : Nat → Nat} {I : Nat → Nat → Int32} {L : Nat → Nat → Int64} {R : Nat → Nat → Nat} {j : Nat} {u : Int32} {A B K : Nat → Int} {d : Int} (hr : RM C Z I R j 2 u A B K d) (kd : ¬ I 75 j = 1) {k pc : Nat} {ls : Lo} {st : List Value} {Q : Option Value → Hp → Prop} (go : ∀ L', (∀ c, c ≠ 95 → c ≠ 97 → L' c = L c) → ((∀ e i, e < 3 → i < 3 → L' 95 (3 * e + i) = wL (sg false * eC false 2 u.toInt A i e)) ∧ ∀ e, e < 3 → L' 97 e = wL (sg false * eS false 2 u.toInt e)) → Wp k pc ls (.int (3) :: st) (n, sl, C, Z, I, L', R) Q) : Call 142 [some (.ref 74), some (.int (nI j)), none, none, none, none, none, none, none, none, none, none, none, none, none, none] (n, sl, C, Z, I, L, R) k pc ls st Q := by
  obtain ⟨hM, hj12, hs3, k76, k77, mA, mB, mK, mD, zA, zB⟩ := id hr
  unfold LayM at hM
  have j0 : inb (nI j) 12 = true := by rw [inb_nI (by omega)]; simp; omega
  have jx := ix_nI (show j < 2 ^ 31 by omega)
  have ia : ∀ k, k < 9 → inb (nI (9 * j + k)) 108 = true ∧ ix (nI (9 * j + k)) = 9 * j + k := fun k hk => ⟨by rw [inb_nI (by omega)]; simp; omega, ix_nI (by omega)⟩
  have ia0 : inb (nI (9 * j)) 108 = true ∧ ix (nI (9 * j)) = 9 * j := ia 0 (by omega)
  have mA0 : (I 79 (9 * j)).toInt64 = wL (A 0) := mA 0 (by omega)
  have n0 : nI 2 = 2 := rfl
  have p2 : (2 : Int64) = wL 2 := rfl
  have wu : u.toInt64 = wL u.toInt := wL_i2l u
  simp [S142_0, S142_1, S142_2, S142_3, S142_4, S142_5, S142_6, S142_7, S142_8, S142_9, S142_10, S104_0, Call_in (k2 := 142), Call_in (k2 := 104), BS, ixs, inbs, wL_mul, wL_add, wL_sub, wL_neg, wu, hM, j0, jx, k76, k77, kd, mA, mA0, mul9, nIk, ia, ia0, Nat.add_assoc, n0, u2_rd, ← wL_0, ← wL_1, p2]
  refine go _ (fun c h1 h2 => ?_) ⟨fun e i he hi => ?_, fun e he => ?_⟩
  · repeat (first | rw [u2_ne _ _ _ h1] | rw [u2_ne _ _ _ h2])
  · rcases i3 he with rfl | rfl | rfl <;> rcases i3 hi with rfl | rfl | rfl <;> simp [u2_rd, eC, eS, sg] <;> try grind
  · rcases i3 he with rfl | rfl | rfl <;> simp [u2_rd, eC, eS, sg] <;> try grind
set_option maxRecDepth 100000 in
set_option maxHeartbeats 8000000 in
theorem m_lays_3t {n sl : Nat} {C Z : Nat → Nat} {I : Nat → Nat → Int32} {L : Nat → Nat → Int64} {R : Nat → Nat → Nat} {j : Nat} {u : Int32} {A B K : Nat → Int} {d : Int} (hr : RM C Z I R j 3 u A B K d) (kd : ¬ I 75 j = 1) {k pc : Nat} {ls : Lo} {st : List Value} {Q : Option Value → Hp → Prop} (go : ∀ L', (∀ c, c ≠ 95 → c ≠ 97 → L' c = L c) → True → Wp k pc ls (.int (-1) :: st) (n, sl, C, Z, I, L', R) Q) : Call 142 [some (.ref 74), some (.int (nI j)), none, none, none, none, none, none, none, none, none, none, none, none, none, none] (n, sl, C, Z, I, L, R) k pc ls st Q := by
  obtain ⟨hM, hj12, hs3, k76, k77, mA, mB, mK, mD, zA, zB⟩ := id hr
  unfold LayM at hM
  have j0 : inb (nI j) 12 = true := by rw [inb_nI (by omega)]; simp; omega
  have jx := ix_nI (show j < 2 ^ 31 by omega)
  have ia : ∀ k, k < 9 → inb (nI (9 * j + k)) 108 = true ∧ ix (nI (9 * j + k)) = 9 * j + k := fun k hk => ⟨by rw [inb_nI (by omega)]; simp; omega, ix_nI (by omega)⟩
  have ia0 : inb (nI (9 * j)) 108 = true ∧ ix (nI (9 * j)) = 9 * j := ia 0 (by omega)
  have mA0 : (I 79 (9 * j)).toInt64 = wL (A 0) := mA 0 (by omega)
  have n0 : nI 3 = 3 := rfl
  have p2 : (2 : Int64) = wL 2 := rfl
  have wu : u.toInt64 = wL u.toInt := wL_i2l u
  simp [S142_0, S142_1, S142_2, S142_3, S142_4, S142_5, S142_6, S142_7, S142_8, S142_9, S142_10, S104_0, Call_in (k2 := 142), Call_in (k2 := 104), BS, ixs, inbs, wL_mul, wL_add, wL_sub, wL_neg, wu, hM, j0, jx, k76, k77, kd, mA, mA0, mul9, nIk, ia, ia0, Nat.add_assoc, n0, u2_rd, ← wL_0, ← wL_1, p2]
  exact go _ (fun c h1 h2 => rfl) trivial
set_option maxRecDepth 100000 in
set_option maxHeartbeats 8000000 in
theorem m_lays_0f {n sl : Nat} {C Z : Nat → Nat} {I : Nat → Nat → Int32} {L : Nat → Nat → Int64} {R : Nat → Nat → Nat} {j : Nat} {u : Int32} {A B K : Nat → Int} {d : Int} (hr : RM C Z I R j 0 u A B K d) (kd : I 75 j = 1) {k pc : Nat} {ls : Lo} {st : List Value} {Q : Option Value → Hp → Prop} (go : ∀ L', (∀ c, c ≠ 95 → c ≠ 97 → L' c = L c) → True → Wp k pc ls (.int (0) :: st) (n, sl, C, Z, I, L', R) Q) : Call 142 [some (.ref 74), some (.int (nI j)), none, none, none, none, none, none, none, none, none, none, none, none, none, none] (n, sl, C, Z, I, L, R) k pc ls st Q := by
  obtain ⟨hM, hj12, hs3, k76, k77, mA, mB, mK, mD, zA, zB⟩ := id hr
  unfold LayM at hM
  have j0 : inb (nI j) 12 = true := by rw [inb_nI (by omega)]; simp; omega
  have jx := ix_nI (show j < 2 ^ 31 by omega)
  have ia : ∀ k, k < 9 → inb (nI (9 * j + k)) 108 = true ∧ ix (nI (9 * j + k)) = 9 * j + k := fun k hk => ⟨by rw [inb_nI (by omega)]; simp; omega, ix_nI (by omega)⟩
  have ia0 : inb (nI (9 * j)) 108 = true ∧ ix (nI (9 * j)) = 9 * j := ia 0 (by omega)
  have mA0 : (I 79 (9 * j)).toInt64 = wL (A 0) := mA 0 (by omega)
  have n0 : nI 0 = 0 := rfl
  have p2 : (2 : Int64) = wL 2 := rfl
  have wu : u.toInt64 = wL u.toInt := wL_i2l u
  simp [S142_0, S142_1, S142_2, S142_3, S142_4, S142_5, S142_6, S142_7, S142_8, S142_9, S142_10, S104_0, Call_in (k2 := 142), Call_in (k2 := 104), BS, ixs, inbs, wL_mul, wL_add, wL_sub, wL_neg, wu, hM, j0, jx, k76, k77, kd, mA, mA0, mul9, nIk, ia, ia0, Nat.add_assoc, n0, u2_rd, ← wL_0, ← wL_1, p2]
  exact go _ (fun c h1 h2 => rfl) trivial
set_option maxRecDepth 100000 in
set_option maxHeartbeats 8000000 in
theorem m_lays_1f {n sl : Nat} {C Z : Nat → Nat} {I : Nat → Nat → Int32} {L : Nat → Nat → Int64} {R : Nat → Nat → Nat} {j : Nat} {u : Int32} {A B K : Nat → Int} {d : Int} (hr : RM C Z I R j 1 u A B K d) (kd : I 75 j = 1) {k pc : Nat} {ls : Lo} {st : List Value} {Q : Option Value → Hp → Prop} (go : ∀ L', (∀ c, c ≠ 95 → c ≠ 97 → L' c = L c) → (L' 95 0 = wL (sg true * eC true 1 u.toInt A 0 0) ∧ L' 97 0 = wL (sg true * eS true 1 u.toInt 0)) → Wp k pc ls (.int (1) :: st) (n, sl, C, Z, I, L', R) Q) : Call 142 [some (.ref 74), some (.int (nI j)), none, none, none, none, none, none, none, none, none, none, none, none, none, none] (n, sl, C, Z, I, L, R) k pc ls st Q := by
  obtain ⟨hM, hj12, hs3, k76, k77, mA, mB, mK, mD, zA, zB⟩ := id hr
  unfold LayM at hM
  have j0 : inb (nI j) 12 = true := by rw [inb_nI (by omega)]; simp; omega
  have jx := ix_nI (show j < 2 ^ 31 by omega)
  have ia : ∀ k, k < 9 → inb (nI (9 * j + k)) 108 = true ∧ ix (nI (9 * j + k)) = 9 * j + k := fun k hk => ⟨by rw [inb_nI (by omega)]; simp; omega, ix_nI (by omega)⟩
  have ia0 : inb (nI (9 * j)) 108 = true ∧ ix (nI (9 * j)) = 9 * j := ia 0 (by omega)
  have mA0 : (I 79 (9 * j)).toInt64 = wL (A 0) := mA 0 (by omega)
  have n0 : nI 1 = 1 := rfl
  have p2 : (2 : Int64) = wL 2 := rfl
  have wu : u.toInt64 = wL u.toInt := wL_i2l u
  simp [S142_0, S142_1, S142_2, S142_3, S142_4, S142_5, S142_6, S142_7, S142_8, S142_9, S142_10, S104_0, Call_in (k2 := 142), Call_in (k2 := 104), BS, ixs, inbs, wL_mul, wL_add, wL_sub, wL_neg, wu, hM, j0, jx, k76, k77, kd, mA, mA0, mul9, nIk, ia, ia0, Nat.add_assoc, n0, u2_rd, ← wL_0, ← wL_1, p2]
  refine go _ (fun c h1 h2 => ?_) ⟨?_, ?_⟩
  · repeat (first | rw [u2_ne _ _ _ h1] | rw [u2_ne _ _ _ h2])
  · simp [u2_rd, eC, eS, sg]
    try grind
  · simp [u2_rd, eC, eS, sg]
    try grind
set_option maxRecDepth 100000 in
set_option maxHeartbeats 8000000 in
theorem m_lays_2f {n sl : Nat} {C Z : Nat → Nat} {I : Nat → Nat → Int32} {L : Nat → Nat → Int64} {R : Nat → Nat → Nat} {j : Nat} {u : Int32} {A B K : Nat → Int} {d : Int} (hr : RM C Z I R j 2 u A B K d) (kd : I 75 j = 1) {k pc : Nat} {ls : Lo} {st : List Value} {Q : Option Value → Hp → Prop} (go : ∀ L', (∀ c, c ≠ 95 → c ≠ 97 → L' c = L c) → ((∀ e i, e < 3 → i < 3 → L' 95 (3 * e + i) = wL (sg true * eC true 2 u.toInt A i e)) ∧ ∀ e, e < 3 → L' 97 e = wL (sg true * eS true 2 u.toInt e)) → Wp k pc ls (.int (3) :: st) (n, sl, C, Z, I, L', R) Q) : Call 142 [some (.ref 74), some (.int (nI j)), none, none, none, none, none, none, none, none, none, none, none, none, none, none] (n, sl, C, Z, I, L, R) k pc ls st Q := by
  obtain ⟨hM, hj12, hs3, k76, k77, mA, mB, mK, mD, zA, zB⟩ := id hr
  unfold LayM at hM
  have j0 : inb (nI j) 12 = true := by rw [inb_nI (by omega)]; simp; omega
  have jx := ix_nI (show j < 2 ^ 31 by omega)
  have ia : ∀ k, k < 9 → inb (nI (9 * j + k)) 108 = true ∧ ix (nI (9 * j + k)) = 9 * j + k := fun k hk => ⟨by rw [inb_nI (by omega)]; simp; omega, ix_nI (by omega)⟩
  have ia0 : inb (nI (9 * j)) 108 = true ∧ ix (nI (9 * j)) = 9 * j := ia 0 (by omega)
  have mA0 : (I 79 (9 * j)).toInt64 = wL (A 0) := mA 0 (by omega)
  have n0 : nI 2 = 2 := rfl
  have p2 : (2 : Int64) = wL 2 := rfl
  have wu : u.toInt64 = wL u.toInt := wL_i2l u
  simp [S142_0, S142_1, S142_2, S142_3, S142_4, S142_5, S142_6, S142_7, S142_8, S142_9, S142_10, S104_0, Call_in (k2 := 142), Call_in (k2 := 104), BS, ixs, inbs, wL_mul, wL_add, wL_sub, wL_neg, wu, hM, j0, jx, k76, k77, kd, mA, mA0, mul9, nIk, ia, ia0, Nat.add_assoc, n0, u2_rd, ← wL_0, ← wL_1, p2]
  refine go _ (fun c h1 h2 => ?_) ⟨fun e i he hi => ?_, fun e he => ?_⟩
  · repeat (first | rw [u2_ne _ _ _ h1] | rw [u2_ne _ _ _ h2])
  · rcases i3 he with rfl | rfl | rfl <;> rcases i3 hi with rfl | rfl | rfl <;> simp [u2_rd, eC, eS, sg] <;> try grind
  · rcases i3 he with rfl | rfl | rfl <;> simp [u2_rd, eC, eS, sg] <;> try grind
set_option maxRecDepth 100000 in
set_option maxHeartbeats 8000000 in
theorem m_lays_3f {n sl : Nat} {C Z : Nat → Nat} {I : Nat → Nat → Int32} {L : Nat → Nat → Int64} {R : Nat → Nat → Nat} {j : Nat} {u : Int32} {A B K : Nat → Int} {d : Int} (hr : RM C Z I R j 3 u A B K d) (kd : I 75 j = 1) {k pc : Nat} {ls : Lo} {st : List Value} {Q : Option Value → Hp → Prop} (go : ∀ L', (∀ c, c ≠ 95 → c ≠ 97 → L' c = L c) → True → Wp k pc ls (.int (-1) :: st) (n, sl, C, Z, I, L', R) Q) : Call 142 [some (.ref 74), some (.int (nI j)), none, none, none, none, none, none, none, none, none, none, none, none, none, none] (n, sl, C, Z, I, L, R) k pc ls st Q := by
  obtain ⟨hM, hj12, hs3, k76, k77, mA, mB, mK, mD, zA, zB⟩ := id hr
  unfold LayM at hM
  have j0 : inb (nI j) 12 = true := by rw [inb_nI (by omega)]; simp; omega
  have jx := ix_nI (show j < 2 ^ 31 by omega)
  have ia : ∀ k, k < 9 → inb (nI (9 * j + k)) 108 = true ∧ ix (nI (9 * j + k)) = 9 * j + k := fun k hk => ⟨by rw [inb_nI (by omega)]; simp; omega, ix_nI (by omega)⟩
  have ia0 : inb (nI (9 * j)) 108 = true ∧ ix (nI (9 * j)) = 9 * j := ia 0 (by omega)
  have mA0 : (I 79 (9 * j)).toInt64 = wL (A 0) := mA 0 (by omega)
  have n0 : nI 3 = 3 := rfl
  have p2 : (2 : Int64) = wL 2 := rfl
  have wu : u.toInt64 = wL u.toInt := wL_i2l u
  simp [S142_0, S142_1, S142_2, S142_3, S142_4, S142_5, S142_6, S142_7, S142_8, S142_9, S142_10, S104_0, Call_in (k2 := 142), Call_in (k2 := 104), BS, ixs, inbs, wL_mul, wL_add, wL_sub, wL_neg, wu, hM, j0, jx, k76, k77, kd, mA, mA0, mul9, nIk, ia, ia0, Nat.add_assoc, n0, u2_rd, ← wL_0, ← wL_1, p2]
  exact go _ (fun c h1 h2 => rfl) trivial
