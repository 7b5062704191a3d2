set_option maxRecDepth 100000 in
set_option maxHeartbeats 8000000 in
theorem m_has_0t {n sl : Nat} {C Z : Nat → Nat} {I : Nat → Nat → Int32} {L : Nat → Nat → Int64} {R : Nat → Nat → Nat} {j : Nat} {u : Int32} {A B K : Nat → Int} {d : Int} (hr : RM C Z I R j 0 u A B K d) (kd : ¬ I 75 j = 1) (hu : u.toInt = 1 ∨ u.toInt = 2 ∨ u.toInt = 4) (hA : ∀ i, i < 9 → bn 12 (A i)) {k pc : Nat} {ls : Lo} {st : List Value} {Q : Option Value → Hp → Prop} (go : ∀ L', (∀ c, c ≠ 95 → c ≠ 96 → c ≠ 97 → L' c = L c) → True → Wp k pc ls (.int 1 :: st) (n, sl, C, Z, I, L', R) Q) : Call 143 [some (.ref 74), some (.int (nI j)), none] (n, sl, C, Z, I, L, R) k pc ls st Q := by
  have hM := hr.1
  have hM' := hM
  unfold LayM at hM
  simp [S143_0, Call_in (k2 := 143), BS, ixs, inbs, hM]
  refine m_lays_0t hr kd (fun L1 f1 v1 => ?_)
  simp [S143_0, BS, ixs, inbs, hM]
  exact go L1 (fun c h1 h2 h3 => f1 c h1 h3) trivial
set_option maxRecDepth 100000 in
set_option maxHeartbeats 8000000 in
theorem m_has_1t {n sl : Nat} {C Z : Nat → Nat} {I : Nat → Nat → Int32} {L : Nat → Nat → Int64} {R : Nat → Nat → Nat} {j : Nat} {u : Int32} {A B K : Nat → Int} {d : Int} (hr : RM C Z I R j 1 u A B K d) (kd : ¬ I 75 j = 1) (hu : u.toInt = 1 ∨ u.toInt = 2 ∨ u.toInt = 4) (hA : ∀ i, i < 9 → bn 12 (A i)) {k pc : Nat} {ls : Lo} {st : List Value} {Q : Option Value → Hp → Prop} (go : ∀ L', (∀ c, c ≠ 95 → c ≠ 96 → c ≠ 97 → L' c = L c) → (L' 95 0 = wL (sg false * eC false 1 u.toInt A 0 0) ∧ L' 97 0 = wL (sg false * eS false 1 u.toInt 0)) → Wp k pc ls (.int (if eD false 1 u.toInt A = 0 then 0 else 1) :: st) (n, sl, C, Z, I, L', R) Q) : Call 143 [some (.ref 74), some (.int (nI j)), none] (n, sl, C, Z, I, L, R) k pc ls st Q := by
  have hM := hr.1
  have hM' := hM
  unfold LayM at hM
  simp [S143_0, Call_in (k2 := 143), BS, ixs, inbs, hM]
  refine m_lays_1t hr kd (fun L1 f1 v1 => ?_)
  have bD := bn_eD (fl := false) (s := 1) hu hA
  simp [S143_0, BS, ixs, inbs, hM]
  refine m_worth1_m hM' (fun L2 f2 => ?_)
  rw [v1.1, show eC false 1 u.toInt A 0 0 = eD false 1 u.toInt A from (eD_1 false u.toInt A).1.symm]
  have gg := go L2 (fun c h1 h2 h3 => by rw [f2 c h2, f1 c h1 h3]) (by rw [f2 95 (by omega), f2 97 (by omega)]; exact v1)
  by_cases d0 : eD false 1 u.toInt A = 0
  · have e1 : wL (sg false * eD false 1 u.toInt A) = 0 := by rw [d0, Int.mul_zero]; rfl
    rw [if_pos d0] at gg
    simp [S143_0, BS, ixs, inbs, hM, lg_eq, e1]
    exact gg
  · have e1 : ¬ wL (sg false * eD false 1 u.toInt A) = 0 := by
      unfold bn at bD
      rw [wL_eq0 (by rcases sg_mul false (eD false 1 u.toInt A) with h | h <;> rw [h] <;> omega) (by rcases sg_mul false (eD false 1 u.toInt A) with h | h <;> rw [h] <;> omega)]
      rcases sg_mul false (eD false 1 u.toInt A) with h | h <;> rw [h] <;> omega
    rw [if_neg d0] at gg
    simp [S143_0, BS, ixs, inbs, hM, lg_eq, e1]
    exact gg
set_option maxRecDepth 100000 in
set_option maxHeartbeats 8000000 in
theorem m_has_2t {n sl : Nat} {C Z : Nat → Nat} {I : Nat → Nat → Int32} {L : Nat → Nat → Int64} {R : Nat → Nat → Nat} {j : Nat} {u : Int32} {A B K : Nat → Int} {d : Int} (hr : RM C Z I R j 2 u A B K d) (kd : ¬ I 75 j = 1) (hu : u.toInt = 1 ∨ u.toInt = 2 ∨ u.toInt = 4) (hA : ∀ i, i < 9 → bn 12 (A i)) {k pc : Nat} {ls : Lo} {st : List Value} {Q : Option Value → Hp → Prop} (go : ∀ L', (∀ c, c ≠ 95 → c ≠ 96 → c ≠ 97 → L' c = L c) → ((∀ e i, e < 3 → i < 3 → L' 95 (3 * e + i) = wL (sg false * eC false 2 u.toInt A i e)) ∧ ∀ e, e < 3 → L' 97 e = wL (sg false * eS false 2 u.toInt e)) → Wp k pc ls (.int (if eD false 2 u.toInt A = 0 then 0 else 1) :: st) (n, sl, C, Z, I, L', R) Q) : Call 143 [some (.ref 74), some (.int (nI j)), none] (n, sl, C, Z, I, L, R) k pc ls st Q := by
  have hM := hr.1
  have hM' := hM
  unfold LayM at hM
  simp [S143_0, Call_in (k2 := 143), BS, ixs, inbs, hM]
  refine m_lays_2t hr kd (fun L1 f1 v1 => ?_)
  have bD := bn_eD (fl := false) (s := 2) hu hA
  simp [S143_0, BS, ixs, inbs, hM]
  refine m_worth3_m hM' (G := fun e i => sg false * eC false 2 u.toInt A i e) v1.1 v1.2 (fun L2 f2 => ?_)
  rw [show dt3 (fun i => sg false * eC false 2 u.toInt A i 0) (fun i => sg false * eC false 2 u.toInt A i 1) (fun i => sg false * eC false 2 u.toInt A i 2) = sg false * eD false 2 u.toInt A from worth_D false u.toInt A]
  have gg := go L2 (fun c h1 h2 h3 => by rw [f2 c h2, f1 c h1 h3]) (by rw [f2 95 (by omega), f2 97 (by omega)]; exact v1)
  by_cases d0 : eD false 2 u.toInt A = 0
  · have e1 : wL (sg false * eD false 2 u.toInt A) = 0 := by rw [d0, Int.mul_zero]; rfl
    rw [if_pos d0] at gg
    simp [S143_0, BS, ixs, inbs, hM, lg_eq, e1]
    exact gg
  · have e1 : ¬ wL (sg false * eD false 2 u.toInt A) = 0 := by
      unfold bn at bD
      rw [wL_eq0 (by rcases sg_mul false (eD false 2 u.toInt A) with h | h <;> rw [h] <;> omega) (by rcases sg_mul false (eD false 2 u.toInt A) with h | h <;> rw [h] <;> omega)]
      rcases sg_mul false (eD false 2 u.toInt A) with h | h <;> rw [h] <;> omega
    rw [if_neg d0] at gg
    simp [S143_0, BS, ixs, inbs, hM, lg_eq, e1]
    exact gg
set_option maxRecDepth 100000 in
set_option maxHeartbeats 8000000 in
theorem m_has_3t {n sl : Nat} {C Z : Nat → Nat} {I : Nat → Nat → Int32} {L : Nat → Nat → Int64} {R : Nat → Nat → Nat} {j : Nat} {u : Int32} {A B K : Nat → Int} {d : Int} (hr : RM C Z I R j 3 u A B K d) (kd : ¬ I 75 j = 1) (hu : u.toInt = 1 ∨ u.toInt = 2 ∨ u.toInt = 4) (hA : ∀ i, i < 9 → bn 12 (A i)) {k pc : Nat} {ls : Lo} {st : List Value} {Q : Option Value → Hp → Prop} (go : ∀ L', (∀ c, c ≠ 95 → c ≠ 96 → c ≠ 97 → L' c = L c) → True → Wp k pc ls (.int 0 :: st) (n, sl, C, Z, I, L', R) Q) : Call 143 [some (.ref 74), some (.int (nI j)), none] (n, sl, C, Z, I, L, R) k pc ls st Q := by
  have hM := hr.1
  have hM' := hM
  unfold LayM at hM
  simp [S143_0, Call_in (k2 := 143), BS, ixs, inbs, hM]
  refine m_lays_3t hr kd (fun L1 f1 v1 => ?_)
  simp [S143_0, BS, ixs, inbs, hM]
  exact go L1 (fun c h1 h2 h3 => f1 c h1 h3) trivial
set_option maxRecDepth 100000 in
set_option maxHeartbeats 8000000 in
theorem m_has_0f {n sl : Nat} {C Z : Nat → Nat} {I : Nat → Nat → Int32} {L : Nat → Nat → Int64} {R : Nat → Nat → Nat} {j : Nat} {u : Int32} {A B K : Nat → Int} {d : Int} (hr : RM C Z I R j 0 u A B K d) (kd : I 75 j = 1) (hu : u.toInt = 1 ∨ u.toInt = 2 ∨ u.toInt = 4) (hA : ∀ i, i < 9 → bn 12 (A i)) {k pc : Nat} {ls : Lo} {st : List Value} {Q : Option Value → Hp → Prop} (go : ∀ L', (∀ c, c ≠ 95 → c ≠ 96 → c ≠ 97 → L' c = L c) → True → Wp k pc ls (.int 1 :: st) (n, sl, C, Z, I, L', R) Q) : Call 143 [some (.ref 74), some (.int (nI j)), none] (n, sl, C, Z, I, L, R) k pc ls st Q := by
  have hM := hr.1
  have hM' := hM
  unfold LayM at hM
  simp [S143_0, Call_in (k2 := 143), BS, ixs, inbs, hM]
  refine m_lays_0f hr kd (fun L1 f1 v1 => ?_)
  simp [S143_0, BS, ixs, inbs, hM]
  exact go L1 (fun c h1 h2 h3 => f1 c h1 h3) trivial
set_option maxRecDepth 100000 in
set_option maxHeartbeats 8000000 in
theorem m_has_1f {n sl : Nat} {C Z : Nat → Nat} {I : Nat → Nat → Int32} {L : Nat → Nat → Int64} {R : Nat → Nat → Nat} {j : Nat} {u : Int32} {A B K : Nat → Int} {d : Int} (hr : RM C Z I R j 1 u A B K d) (kd : I 75 j = 1) (hu : u.toInt = 1 ∨ u.toInt = 2 ∨ u.toInt = 4) (hA : ∀ i, i < 9 → bn 12 (A i)) {k pc : Nat} {ls : Lo} {st : List Value} {Q : Option Value → Hp → Prop} (go : ∀ L', (∀ c, c ≠ 95 → c ≠ 96 → c ≠ 97 → L' c = L c) → (L' 95 0 = wL (sg true * eC true 1 u.toInt A 0 0) ∧ L' 97 0 = wL (sg true * eS true 1 u.toInt 0)) → Wp k pc ls (.int (if eD true 1 u.toInt A = 0 then 0 else 1) :: st) (n, sl, C, Z, I, L', R) Q) : Call 143 [some (.ref 74), some (.int (nI j)), none] (n, sl, C, Z, I, L, R) k pc ls st Q := by
  have hM := hr.1
  have hM' := hM
  unfold LayM at hM
  simp [S143_0, Call_in (k2 := 143), BS, ixs, inbs, hM]
  refine m_lays_1f hr kd (fun L1 f1 v1 => ?_)
  have bD := bn_eD (fl := true) (s := 1) hu hA
  simp [S143_0, BS, ixs, inbs, hM]
  refine m_worth1_m hM' (fun L2 f2 => ?_)
  rw [v1.1, show eC true 1 u.toInt A 0 0 = eD true 1 u.toInt A from (eD_1 true u.toInt A).1.symm]
  have gg := go L2 (fun c h1 h2 h3 => by rw [f2 c h2, f1 c h1 h3]) (by rw [f2 95 (by omega), f2 97 (by omega)]; exact v1)
  by_cases d0 : eD true 1 u.toInt A = 0
  · have e1 : wL (sg true * eD true 1 u.toInt A) = 0 := by rw [d0, Int.mul_zero]; rfl
    rw [if_pos d0] at gg
    simp [S143_0, BS, ixs, inbs, hM, lg_eq, e1]
    exact gg
  · have e1 : ¬ wL (sg true * eD true 1 u.toInt A) = 0 := by
      unfold bn at bD
      rw [wL_eq0 (by rcases sg_mul true (eD true 1 u.toInt A) with h | h <;> rw [h] <;> omega) (by rcases sg_mul true (eD true 1 u.toInt A) with h | h <;> rw [h] <;> omega)]
      rcases sg_mul true (eD true 1 u.toInt A) with h | h <;> rw [h] <;> omega
    rw [if_neg d0] at gg
    simp [S143_0, BS, ixs, inbs, hM, lg_eq, e1]
    exact gg
set_option maxRecDepth 100000 in
set_option maxHeartbeats 8000000 in
theorem m_has_2f {n sl : Nat} {C Z : Nat → Nat} {I : Nat → Nat → Int32} {L : Nat → Nat → Int64} {R : Nat → Nat → Nat} {j : Nat} {u : Int32} {A B K : Nat → Int} {d : Int} (hr : RM C Z I R j 2 u A B K d) (kd : I 75 j = 1) (hu : u.toInt = 1 ∨ u.toInt = 2 ∨ u.toInt = 4) (hA : ∀ i, i < 9 → bn 12 (A i)) {k pc : Nat} {ls : Lo} {st : List Value} {Q : Option Value → Hp → Prop} (go : ∀ L', (∀ c, c ≠ 95 → c ≠ 96 → c ≠ 97 → L' c = L c) → ((∀ e i, e < 3 → i < 3 → L' 95 (3 * e + i) = wL (sg true * eC true 2 u.toInt A i e)) ∧ ∀ e, e < 3 → L' 97 e = wL (sg true * eS true 2 u.toInt e)) → Wp k pc ls (.int (if eD true 2 u.toInt A = 0 then 0 else 1) :: st) (n, sl, C, Z, I, L', R) Q) : Call 143 [some (.ref 74), some (.int (nI j)), none] (n, sl, C, Z, I, L, R) k pc ls st Q := by
  have hM := hr.1
  have hM' := hM
  unfold LayM at hM
  simp [S143_0, Call_in (k2 := 143), BS, ixs, inbs, hM]
  refine m_lays_2f hr kd (fun L1 f1 v1 => ?_)
  have bD := bn_eD (fl := true) (s := 2) hu hA
  simp [S143_0, BS, ixs, inbs, hM]
  refine m_worth3_m hM' (G := fun e i => sg true * eC true 2 u.toInt A i e) v1.1 v1.2 (fun L2 f2 => ?_)
  rw [show dt3 (fun i => sg true * eC true 2 u.toInt A i 0) (fun i => sg true * eC true 2 u.toInt A i 1) (fun i => sg true * eC true 2 u.toInt A i 2) = sg true * eD true 2 u.toInt A from worth_D true u.toInt A]
  have gg := go L2 (fun c h1 h2 h3 => by rw [f2 c h2, f1 c h1 h3]) (by rw [f2 95 (by omega), f2 97 (by omega)]; exact v1)
  by_cases d0 : eD true 2 u.toInt A = 0
  · have e1 : wL (sg true * eD true 2 u.toInt A) = 0 := by rw [d0, Int.mul_zero]; rfl
    rw [if_pos d0] at gg
    simp [S143_0, BS, ixs, inbs, hM, lg_eq, e1]
    exact gg
  · have e1 : ¬ wL (sg true * eD true 2 u.toInt A) = 0 := by
      unfold bn at bD
      rw [wL_eq0 (by rcases sg_mul true (eD true 2 u.toInt A) with h | h <;> rw [h] <;> omega) (by rcases sg_mul true (eD true 2 u.toInt A) with h | h <;> rw [h] <;> omega)]
      rcases sg_mul true (eD true 2 u.toInt A) with h | h <;> rw [h] <;> omega
    rw [if_neg d0] at gg
    simp [S143_0, BS, ixs, inbs, hM, lg_eq, e1]
    exact gg
set_option maxRecDepth 100000 in
set_option maxHeartbeats 8000000 in
theorem m_has_3f {n sl : Nat} {C Z : Nat → Nat} {I : Nat → Nat → Int32} {L : Nat → Nat → Int64} {R : Nat → Nat → Nat} {j : Nat} {u : Int32} {A B K : Nat → Int} {d : Int} (hr : RM C Z I R j 3 u A B K d) (kd : I 75 j = 1) (hu : u.toInt = 1 ∨ u.toInt = 2 ∨ u.toInt = 4) (hA : ∀ i, i < 9 → bn 12 (A i)) {k pc : Nat} {ls : Lo} {st : List Value} {Q : Option Value → Hp → Prop} (go : ∀ L', (∀ c, c ≠ 95 → c ≠ 96 → c ≠ 97 → L' c = L c) → True → Wp k pc ls (.int 0 :: st) (n, sl, C, Z, I, L', R) Q) : Call 143 [some (.ref 74), some (.int (nI j)), none] (n, sl, C, Z, I, L, R) k pc ls st Q := by
  have hM := hr.1
  have hM' := hM
  unfold LayM at hM
  simp [S143_0, Call_in (k2 := 143), BS, ixs, inbs, hM]
  refine m_lays_3f hr kd (fun L1 f1 v1 => ?_)
  simp [S143_0, BS, ixs, inbs, hM]
  exact go L1 (fun c h1 h2 h3 => f1 c h1 h3) trivial
set_option maxRecDepth 100000 in
set_option maxHeartbeats 8000000 in
theorem m_en_1t_00_0 {n sl : Nat} {C Z : Nat → Nat} {I : Nat → Nat → Int32} {L : Nat → Nat → Int64} {R : Nat → Nat → Nat} {j : Nat} {u : Int32} {A B K : Nat → Int} {d : Int} {M : Nat} (hr : RM C Z I R j 1 u A B K d) (kd : ¬ I 75 j = 1) (hM12 : M ≤ 12) (hj : j < M) (e2 : I 74 0 = nI M) (hu : u.toInt = 1 ∨ u.toInt = 2 ∨ u.toInt = 4) (hA : ∀ i, i < 9 → bn 12 (A i)) (d0 : ¬ eD false 1 u.toInt A = 0) {Q : Option Value → Hp → Prop} (go : ∀ L', (∀ c, c ≠ 74 → c ≠ 95 → c ≠ 96 → c ≠ 97 → L' c = L c) → (L' 95 0 = wL (sg false * eC false 1 u.toInt A 0 0) ∧ L' 97 0 = wL (sg false * eS false 1 u.toInt 0)) → Q (some (.long (wL (fn (eN false 1 u.toInt A 0) (eD false 1 u.toInt A))))) (n, sl, C, Z, I, L', R)) : Wp 144 0 [some (.ref 74), some (.int (nI j)), some (.int 0), some (.int 0), some (.int 0)] [] (n, sl, C, Z, I, L, R) Q := by
  obtain ⟨hM, hj12, hs3, k76, k77, mA, mB, mK, mD, zA, zB⟩ := id hr
  unfold LayM at hM
  have j0 : inb (nI j) 12 = true := by rw [inb_nI (by omega)]; simp; omega
  have jx := ix_nI (show j < 2 ^ 31 by omega)
  have hM' := hr.1
  have c74 : C 74 = 11 := by simp [hM]
  have n0 : nI 1 = 1 := rfl
  have bD := bn_eD (fl := false) (s := 1) hu hA
  have bN := bn_eN (fl := false) (s := 1) hu hA 0
  have sm : ∀ x, bn 200000000 x → bn 9223372036854775807 (sg false * x) := fun x hx => by unfold bn at *; rcases sg_mul false x with h | h <;> rw [h] <;> omega
  have sD : ¬ sg false * eD false 1 u.toInt A = 0 := by rcases sg_mul false (eD false 1 u.toInt A) with h | h <;> rw [h] <;> omega
  have fs := fn_sg (fl := false) (a := eN false 1 u.toInt A 0) d0
  simp [S144_0, S144_1, S144_2, is_yesG hM' hM12 hj, BS, ixs, inbs, hM, e2, j0, jx, k76, n0]
  refine m_has_1t hr kd hu hA (fun L1 f1 v1 => ?_)
  rw [if_neg d0]
  simp [S144_0, S144_1, S144_2, BS, ixs, inbs, hM, j0, jx, k76, n0]
  refine m_worth1_0 hM' (fun L2 f2 => ?_)
  rw [v1.2, show eS false 1 u.toInt 0 = eN false 1 u.toInt A 0 from (eD_1 false u.toInt A).2.symm]
  simp [S144_0, S144_1, S144_2, BS, ixs, inbs, hM, j0, jx, k76, n0]
  have v2 : (L2 95 0 = wL (sg false * eC false 1 u.toInt A 0 0) ∧ L2 97 0 = wL (sg false * eS false 1 u.toInt 0)) := by rw [f2 95 (by omega), f2 97 (by omega)]; exact v1
  refine m_worth1_m hM' (fun L3 f3 => ?_)
  rw [v2.1, show eC false 1 u.toInt A 0 0 = eD false 1 u.toInt A from (eD_1 false u.toInt A).1.symm]
  have v3 : (L3 95 0 = wL (sg false * eC false 1 u.toInt A 0 0) ∧ L3 97 0 = wL (sg false * eS false 1 u.toInt 0)) := by rw [f3 95 (by omega), f3 97 (by omega)]; exact v2
  have gg := go (u2 (u2 L3 74 28 (wL (fn (eN false 1 u.toInt A 0) (eD false 1 u.toInt A)))) 74 29 (wL (fd (eN false 1 u.toInt A 0) (eD false 1 u.toInt A)))) (fun c h0 h1 h2 h3 => by rw [u2_ne _ _ _ h0, u2_ne _ _ _ h0, f3 c h2, f2 c h2, f1 c h1 h2 h3]) (by rw [u2_ne _ _ _ (by omega : (95 : Nat) ≠ 74), u2_ne _ _ _ (by omega : (97 : Nat) ≠ 74), u2_ne _ _ _ (by omega : (95 : Nat) ≠ 74), u2_ne _ _ _ (by omega : (97 : Nat) ≠ 74)]; exact v3)
  simp [S144_0, S144_1, S144_2, BS, ixs, inbs, hM]
  refine (m_low (sm _ bN) (sm _ bD) sD c74 _ _ _ _ _).mpr ?_
  rw [fs.1, fs.2]
  simp [S144_0, S144_1, S144_2, S107_0, Call_in (k2 := 107), BS, ixs, inbs, hM, u2_rd]
  exact gg
set_option maxRecDepth 100000 in
set_option maxHeartbeats 8000000 in
theorem m_en_1t_00_1 {n sl : Nat} {C Z : Nat → Nat} {I : Nat → Nat → Int32} {L : Nat → Nat → Int64} {R : Nat → Nat → Nat} {j : Nat} {u : Int32} {A B K : Nat → Int} {d : Int} {M : Nat} (hr : RM C Z I R j 1 u A B K d) (kd : ¬ I 75 j = 1) (hM12 : M ≤ 12) (hj : j < M) (e2 : I 74 0 = nI M) (hu : u.toInt = 1 ∨ u.toInt = 2 ∨ u.toInt = 4) (hA : ∀ i, i < 9 → bn 12 (A i)) (d0 : ¬ eD false 1 u.toInt A = 0) {Q : Option Value → Hp → Prop} (go : ∀ L', (∀ c, c ≠ 74 → c ≠ 95 → c ≠ 96 → c ≠ 97 → L' c = L c) → (L' 95 0 = wL (sg false * eC false 1 u.toInt A 0 0) ∧ L' 97 0 = wL (sg false * eS false 1 u.toInt 0)) → Q (some (.long (wL (fd (eN false 1 u.toInt A 0) (eD false 1 u.toInt A))))) (n, sl, C, Z, I, L', R)) : Wp 144 0 [some (.ref 74), some (.int (nI j)), some (.int 0), some (.int 0), some (.int 1)] [] (n, sl, C, Z, I, L, R) Q := by
  obtain ⟨hM, hj12, hs3, k76, k77, mA, mB, mK, mD, zA, zB⟩ := id hr
  unfold LayM at hM
  have j0 : inb (nI j) 12 = true := by rw [inb_nI (by omega)]; simp; omega
  have jx := ix_nI (show j < 2 ^ 31 by omega)
  have hM' := hr.1
  have c74 : C 74 = 11 := by simp [hM]
  have n0 : nI 1 = 1 := rfl
  have bD := bn_eD (fl := false) (s := 1) hu hA
  have bN := bn_eN (fl := false) (s := 1) hu hA 0
  have sm : ∀ x, bn 200000000 x → bn 9223372036854775807 (sg false * x) := fun x hx => by unfold bn at *; rcases sg_mul false x with h | h <;> rw [h] <;> omega
  have sD : ¬ sg false * eD false 1 u.toInt A = 0 := by rcases sg_mul false (eD false 1 u.toInt A) with h | h <;> rw [h] <;> omega
  have fs := fn_sg (fl := false) (a := eN false 1 u.toInt A 0) d0
  simp [S144_0, S144_1, S144_2, is_yesG hM' hM12 hj, BS, ixs, inbs, hM, e2, j0, jx, k76, n0]
  refine m_has_1t hr kd hu hA (fun L1 f1 v1 => ?_)
  rw [if_neg d0]
  simp [S144_0, S144_1, S144_2, BS, ixs, inbs, hM, j0, jx, k76, n0]
  refine m_worth1_0 hM' (fun L2 f2 => ?_)
  rw [v1.2, show eS false 1 u.toInt 0 = eN false 1 u.toInt A 0 from (eD_1 false u.toInt A).2.symm]
  simp [S144_0, S144_1, S144_2, BS, ixs, inbs, hM, j0, jx, k76, n0]
  have v2 : (L2 95 0 = wL (sg false * eC false 1 u.toInt A 0 0) ∧ L2 97 0 = wL (sg false * eS false 1 u.toInt 0)) := by rw [f2 95 (by omega), f2 97 (by omega)]; exact v1
  refine m_worth1_m hM' (fun L3 f3 => ?_)
  rw [v2.1, show eC false 1 u.toInt A 0 0 = eD false 1 u.toInt A from (eD_1 false u.toInt A).1.symm]
  have v3 : (L3 95 0 = wL (sg false * eC false 1 u.toInt A 0 0) ∧ L3 97 0 = wL (sg false * eS false 1 u.toInt 0)) := by rw [f3 95 (by omega), f3 97 (by omega)]; exact v2
  have gg := go (u2 (u2 L3 74 28 (wL (fn (eN false 1 u.toInt A 0) (eD false 1 u.toInt A)))) 74 29 (wL (fd (eN false 1 u.toInt A 0) (eD false 1 u.toInt A)))) (fun c h0 h1 h2 h3 => by rw [u2_ne _ _ _ h0, u2_ne _ _ _ h0, f3 c h2, f2 c h2, f1 c h1 h2 h3]) (by rw [u2_ne _ _ _ (by omega : (95 : Nat) ≠ 74), u2_ne _ _ _ (by omega : (97 : Nat) ≠ 74), u2_ne _ _ _ (by omega : (95 : Nat) ≠ 74), u2_ne _ _ _ (by omega : (97 : Nat) ≠ 74)]; exact v3)
  simp [S144_0, S144_1, S144_2, BS, ixs, inbs, hM]
  refine (m_low (sm _ bN) (sm _ bD) sD c74 _ _ _ _ _).mpr ?_
  rw [fs.1, fs.2]
  simp [S144_0, S144_1, S144_2, S107_0, Call_in (k2 := 107), BS, ixs, inbs, hM, u2_rd]
  exact gg
set_option maxRecDepth 100000 in
set_option maxHeartbeats 8000000 in
theorem m_en_2t_00_0 {n sl : Nat} {C Z : Nat → Nat} {I : Nat → Nat → Int32} {L : Nat → Nat → Int64} {R : Nat → Nat → Nat} {j : Nat} {u : Int32} {A B K : Nat → Int} {d : Int} {M : Nat} (hr : RM C Z I R j 2 u A B K d) (kd : ¬ I 75 j = 1) (hM12 : M ≤ 12) (hj : j < M) (e2 : I 74 0 = nI M) (hu : u.toInt = 1 ∨ u.toInt = 2 ∨ u.toInt = 4) (hA : ∀ i, i < 9 → bn 12 (A i)) (d0 : ¬ eD false 2 u.toInt A = 0) {Q : Option Value → Hp → Prop} (go : ∀ L', (∀ c, c ≠ 74 → c ≠ 95 → c ≠ 96 → c ≠ 97 → L' c = L c) → ((∀ e i, e < 3 → i < 3 → L' 95 (3 * e + i) = wL (sg false * eC false 2 u.toInt A i e)) ∧ ∀ e, e < 3 → L' 97 e = wL (sg false * eS false 2 u.toInt e)) → Q (some (.long (wL (fn (eN false 2 u.toInt A 0) (eD false 2 u.toInt A))))) (n, sl, C, Z, I, L', R)) : Wp 144 0 [some (.ref 74), some (.int (nI j)), some (.int 0), some (.int 0), some (.int 0)] [] (n, sl, C, Z, I, L, R) Q := by
  obtain ⟨hM, hj12, hs3, k76, k77, mA, mB, mK, mD, zA, zB⟩ := id hr
  unfold LayM at hM
  have j0 : inb (nI j) 12 = true := by rw [inb_nI (by omega)]; simp; omega
  have jx := ix_nI (show j < 2 ^ 31 by omega)
  have hM' := hr.1
  have c74 : C 74 = 11 := by simp [hM]
  have n0 : nI 2 = 2 := rfl
  have bD := bn_eD (fl := false) (s := 2) hu hA
  have bN := bn_eN (fl := false) (s := 2) hu hA 0
  have sm : ∀ x, bn 200000000 x → bn 9223372036854775807 (sg false * x) := fun x hx => by unfold bn at *; rcases sg_mul false x with h | h <;> rw [h] <;> omega
  have sD : ¬ sg false * eD false 2 u.toInt A = 0 := by rcases sg_mul false (eD false 2 u.toInt A) with h | h <;> rw [h] <;> omega
  have fs := fn_sg (fl := false) (a := eN false 2 u.toInt A 0) d0
  simp [S144_0, S144_1, S144_2, is_yesG hM' hM12 hj, BS, ixs, inbs, hM, e2, j0, jx, k76, n0]
  refine m_has_2t hr kd hu hA (fun L1 f1 v1 => ?_)
  rw [if_neg d0]
  simp [S144_0, S144_1, S144_2, BS, ixs, inbs, hM, j0, jx, k76, n0]
  refine m_worth3_0 hM' (G := fun e i => sg false * eC false 2 u.toInt A i e) (v := fun e => sg false * eS false 2 u.toInt e) v1.1 v1.2 (fun L2 f2 => ?_)
  rw [worth_N0 false u.toInt A]
  simp [S144_0, S144_1, S144_2, BS, ixs, inbs, hM, j0, jx, k76, n0]
  have v2 : ((∀ e i, e < 3 → i < 3 → L2 95 (3 * e + i) = wL (sg false * eC false 2 u.toInt A i e)) ∧ ∀ e, e < 3 → L2 97 e = wL (sg false * eS false 2 u.toInt e)) := by rw [f2 95 (by omega), f2 97 (by omega)]; exact v1
  refine m_worth3_m hM' (G := fun e i => sg false * eC false 2 u.toInt A i e) v2.1 v2.2 (fun L3 f3 => ?_)
  rw [show dt3 (fun i => sg false * eC false 2 u.toInt A i 0) (fun i => sg false * eC false 2 u.toInt A i 1) (fun i => sg false * eC false 2 u.toInt A i 2) = sg false * eD false 2 u.toInt A from worth_D false u.toInt A]
  have v3 : ((∀ e i, e < 3 → i < 3 → L3 95 (3 * e + i) = wL (sg false * eC false 2 u.toInt A i e)) ∧ ∀ e, e < 3 → L3 97 e = wL (sg false * eS false 2 u.toInt e)) := by rw [f3 95 (by omega), f3 97 (by omega)]; exact v2
  have gg := go (u2 (u2 L3 74 28 (wL (fn (eN false 2 u.toInt A 0) (eD false 2 u.toInt A)))) 74 29 (wL (fd (eN false 2 u.toInt A 0) (eD false 2 u.toInt A)))) (fun c h0 h1 h2 h3 => by rw [u2_ne _ _ _ h0, u2_ne _ _ _ h0, f3 c h2, f2 c h2, f1 c h1 h2 h3]) (by rw [u2_ne _ _ _ (by omega : (95 : Nat) ≠ 74), u2_ne _ _ _ (by omega : (97 : Nat) ≠ 74), u2_ne _ _ _ (by omega : (95 : Nat) ≠ 74), u2_ne _ _ _ (by omega : (97 : Nat) ≠ 74)]; exact v3)
  simp [S144_0, S144_1, S144_2, BS, ixs, inbs, hM]
  refine (m_low (sm _ bN) (sm _ bD) sD c74 _ _ _ _ _).mpr ?_
  rw [fs.1, fs.2]
  simp [S144_0, S144_1, S144_2, S107_0, Call_in (k2 := 107), BS, ixs, inbs, hM, u2_rd]
  exact gg
set_option maxRecDepth 100000 in
set_option maxHeartbeats 8000000 in
theorem m_en_2t_00_1 {n sl : Nat} {C Z : Nat → Nat} {I : Nat → Nat → Int32} {L : Nat → Nat → Int64} {R : Nat → Nat → Nat} {j : Nat} {u : Int32} {A B K : Nat → Int} {d : Int} {M : Nat} (hr : RM C Z I R j 2 u A B K d) (kd : ¬ I 75 j = 1) (hM12 : M ≤ 12) (hj : j < M) (e2 : I 74 0 = nI M) (hu : u.toInt = 1 ∨ u.toInt = 2 ∨ u.toInt = 4) (hA : ∀ i, i < 9 → bn 12 (A i)) (d0 : ¬ eD false 2 u.toInt A = 0) {Q : Option Value → Hp → Prop} (go : ∀ L', (∀ c, c ≠ 74 → c ≠ 95 → c ≠ 96 → c ≠ 97 → L' c = L c) → ((∀ e i, e < 3 → i < 3 → L' 95 (3 * e + i) = wL (sg false * eC false 2 u.toInt A i e)) ∧ ∀ e, e < 3 → L' 97 e = wL (sg false * eS false 2 u.toInt e)) → Q (some (.long (wL (fd (eN false 2 u.toInt A 0) (eD false 2 u.toInt A))))) (n, sl, C, Z, I, L', R)) : Wp 144 0 [some (.ref 74), some (.int (nI j)), some (.int 0), some (.int 0), some (.int 1)] [] (n, sl, C, Z, I, L, R) Q := by
  obtain ⟨hM, hj12, hs3, k76, k77, mA, mB, mK, mD, zA, zB⟩ := id hr
  unfold LayM at hM
  have j0 : inb (nI j) 12 = true := by rw [inb_nI (by omega)]; simp; omega
  have jx := ix_nI (show j < 2 ^ 31 by omega)
  have hM' := hr.1
  have c74 : C 74 = 11 := by simp [hM]
  have n0 : nI 2 = 2 := rfl
  have bD := bn_eD (fl := false) (s := 2) hu hA
  have bN := bn_eN (fl := false) (s := 2) hu hA 0
  have sm : ∀ x, bn 200000000 x → bn 9223372036854775807 (sg false * x) := fun x hx => by unfold bn at *; rcases sg_mul false x with h | h <;> rw [h] <;> omega
  have sD : ¬ sg false * eD false 2 u.toInt A = 0 := by rcases sg_mul false (eD false 2 u.toInt A) with h | h <;> rw [h] <;> omega
  have fs := fn_sg (fl := false) (a := eN false 2 u.toInt A 0) d0
  simp [S144_0, S144_1, S144_2, is_yesG hM' hM12 hj, BS, ixs, inbs, hM, e2, j0, jx, k76, n0]
  refine m_has_2t hr kd hu hA (fun L1 f1 v1 => ?_)
  rw [if_neg d0]
  simp [S144_0, S144_1, S144_2, BS, ixs, inbs, hM, j0, jx, k76, n0]
  refine m_worth3_0 hM' (G := fun e i => sg false * eC false 2 u.toInt A i e) (v := fun e => sg false * eS false 2 u.toInt e) v1.1 v1.2 (fun L2 f2 => ?_)
  rw [worth_N0 false u.toInt A]
  simp [S144_0, S144_1, S144_2, BS, ixs, inbs, hM, j0, jx, k76, n0]
  have v2 : ((∀ e i, e < 3 → i < 3 → L2 95 (3 * e + i) = wL (sg false * eC false 2 u.toInt A i e)) ∧ ∀ e, e < 3 → L2 97 e = wL (sg false * eS false 2 u.toInt e)) := by rw [f2 95 (by omega), f2 97 (by omega)]; exact v1
  refine m_worth3_m hM' (G := fun e i => sg false * eC false 2 u.toInt A i e) v2.1 v2.2 (fun L3 f3 => ?_)
  rw [show dt3 (fun i => sg false * eC false 2 u.toInt A i 0) (fun i => sg false * eC false 2 u.toInt A i 1) (fun i => sg false * eC false 2 u.toInt A i 2) = sg false * eD false 2 u.toInt A from worth_D false u.toInt A]
  have v3 : ((∀ e i, e < 3 → i < 3 → L3 95 (3 * e + i) = wL (sg false * eC false 2 u.toInt A i e)) ∧ ∀ e, e < 3 → L3 97 e = wL (sg false * eS false 2 u.toInt e)) := by rw [f3 95 (by omega), f3 97 (by omega)]; exact v2
  have gg := go (u2 (u2 L3 74 28 (wL (fn (eN false 2 u.toInt A 0) (eD false 2 u.toInt A)))) 74 29 (wL (fd (eN false 2 u.toInt A 0) (eD false 2 u.toInt A)))) (fun c h0 h1 h2 h3 => by rw [u2_ne _ _ _ h0, u2_ne _ _ _ h0, f3 c h2, f2 c h2, f1 c h1 h2 h3]) (by rw [u2_ne _ _ _ (by omega : (95 : Nat) ≠ 74), u2_ne _ _ _ (by omega : (97 : Nat) ≠ 74), u2_ne _ _ _ (by omega : (95 : Nat) ≠ 74), u2_ne _ _ _ (by omega : (97 : Nat) ≠ 74)]; exact v3)
  simp [S144_0, S144_1, S144_2, BS, ixs, inbs, hM]
  refine (m_low (sm _ bN) (sm _ bD) sD c74 _ _ _ _ _).mpr ?_
  rw [fs.1, fs.2]
  simp [S144_0, S144_1, S144_2, S107_0, Call_in (k2 := 107), BS, ixs, inbs, hM, u2_rd]
  exact gg
set_option maxRecDepth 100000 in
set_option maxHeartbeats 8000000 in
theorem m_en_2t_01_0 {n sl : Nat} {C Z : Nat → Nat} {I : Nat → Nat → Int32} {L : Nat → Nat → Int64} {R : Nat → Nat → Nat} {j : Nat} {u : Int32} {A B K : Nat → Int} {d : Int} {M : Nat} (hr : RM C Z I R j 2 u A B K d) (kd : ¬ I 75 j = 1) (hM12 : M ≤ 12) (hj : j < M) (e2 : I 74 0 = nI M) (hu : u.toInt = 1 ∨ u.toInt = 2 ∨ u.toInt = 4) (hA : ∀ i, i < 9 → bn 12 (A i)) (d0 : ¬ eD false 2 u.toInt A = 0) {Q : Option Value → Hp → Prop} (go : ∀ L', (∀ c, c ≠ 74 → c ≠ 95 → c ≠ 96 → c ≠ 97 → L' c = L c) → ((∀ e i, e < 3 → i < 3 → L' 95 (3 * e + i) = wL (sg false * eC false 2 u.toInt A i e)) ∧ ∀ e, e < 3 → L' 97 e = wL (sg false * eS false 2 u.toInt e)) → Q (some (.long (wL (fn (eN false 2 u.toInt A 1) (eD false 2 u.toInt A))))) (n, sl, C, Z, I, L', R)) : Wp 144 0 [some (.ref 74), some (.int (nI j)), some (.int 0), some (.int 1), some (.int 0)] [] (n, sl, C, Z, I, L, R) Q := by
  obtain ⟨hM, hj12, hs3, k76, k77, mA, mB, mK, mD, zA, zB⟩ := id hr
  unfold LayM at hM
  have j0 : inb (nI j) 12 = true := by rw [inb_nI (by omega)]; simp; omega
  have jx := ix_nI (show j < 2 ^ 31 by omega)
  have hM' := hr.1
  have c74 : C 74 = 11 := by simp [hM]
  have n0 : nI 2 = 2 := rfl
  have bD := bn_eD (fl := false) (s := 2) hu hA
  have bN := bn_eN (fl := false) (s := 2) hu hA 1
  have sm : ∀ x, bn 200000000 x → bn 9223372036854775807 (sg false * x) := fun x hx => by unfold bn at *; rcases sg_mul false x with h | h <;> rw [h] <;> omega
  have sD : ¬ sg false * eD false 2 u.toInt A = 0 := by rcases sg_mul false (eD false 2 u.toInt A) with h | h <;> rw [h] <;> omega
  have fs := fn_sg (fl := false) (a := eN false 2 u.toInt A 1) d0
  simp [S144_0, S144_1, S144_2, is_yesG hM' hM12 hj, BS, ixs, inbs, hM, e2, j0, jx, k76, n0]
  refine m_has_2t hr kd hu hA (fun L1 f1 v1 => ?_)
  rw [if_neg d0]
  simp [S144_0, S144_1, S144_2, BS, ixs, inbs, hM, j0, jx, k76, n0]
  refine m_worth3_1 hM' (G := fun e i => sg false * eC false 2 u.toInt A i e) (v := fun e => sg false * eS false 2 u.toInt e) v1.1 v1.2 (fun L2 f2 => ?_)
  rw [worth_N1 false u.toInt A]
  simp [S144_0, S144_1, S144_2, BS, ixs, inbs, hM, j0, jx, k76, n0]
  have v2 : ((∀ e i, e < 3 → i < 3 → L2 95 (3 * e + i) = wL (sg false * eC false 2 u.toInt A i e)) ∧ ∀ e, e < 3 → L2 97 e = wL (sg false * eS false 2 u.toInt e)) := by rw [f2 95 (by omega), f2 97 (by omega)]; exact v1
  refine m_worth3_m hM' (G := fun e i => sg false * eC false 2 u.toInt A i e) v2.1 v2.2 (fun L3 f3 => ?_)
  rw [show dt3 (fun i => sg false * eC false 2 u.toInt A i 0) (fun i => sg false * eC false 2 u.toInt A i 1) (fun i => sg false * eC false 2 u.toInt A i 2) = sg false * eD false 2 u.toInt A from worth_D false u.toInt A]
  have v3 : ((∀ e i, e < 3 → i < 3 → L3 95 (3 * e + i) = wL (sg false * eC false 2 u.toInt A i e)) ∧ ∀ e, e < 3 → L3 97 e = wL (sg false * eS false 2 u.toInt e)) := by rw [f3 95 (by omega), f3 97 (by omega)]; exact v2
  have gg := go (u2 (u2 L3 74 28 (wL (fn (eN false 2 u.toInt A 1) (eD false 2 u.toInt A)))) 74 29 (wL (fd (eN false 2 u.toInt A 1) (eD false 2 u.toInt A)))) (fun c h0 h1 h2 h3 => by rw [u2_ne _ _ _ h0, u2_ne _ _ _ h0, f3 c h2, f2 c h2, f1 c h1 h2 h3]) (by rw [u2_ne _ _ _ (by omega : (95 : Nat) ≠ 74), u2_ne _ _ _ (by omega : (97 : Nat) ≠ 74), u2_ne _ _ _ (by omega : (95 : Nat) ≠ 74), u2_ne _ _ _ (by omega : (97 : Nat) ≠ 74)]; exact v3)
  simp [S144_0, S144_1, S144_2, BS, ixs, inbs, hM]
  refine (m_low (sm _ bN) (sm _ bD) sD c74 _ _ _ _ _).mpr ?_
  rw [fs.1, fs.2]
  simp [S144_0, S144_1, S144_2, S107_0, Call_in (k2 := 107), BS, ixs, inbs, hM, u2_rd]
  exact gg
set_option maxRecDepth 100000 in
set_option maxHeartbeats 8000000 in
theorem m_en_2t_01_1 {n sl : Nat} {C Z : Nat → Nat} {I : Nat → Nat → Int32} {L : Nat → Nat → Int64} {R : Nat → Nat → Nat} {j : Nat} {u : Int32} {A B K : Nat → Int} {d : Int} {M : Nat} (hr : RM C Z I R j 2 u A B K d) (kd : ¬ I 75 j = 1) (hM12 : M ≤ 12) (hj : j < M) (e2 : I 74 0 = nI M) (hu : u.toInt = 1 ∨ u.toInt = 2 ∨ u.toInt = 4) (hA : ∀ i, i < 9 → bn 12 (A i)) (d0 : ¬ eD false 2 u.toInt A = 0) {Q : Option Value → Hp → Prop} (go : ∀ L', (∀ c, c ≠ 74 → c ≠ 95 → c ≠ 96 → c ≠ 97 → L' c = L c) → ((∀ e i, e < 3 → i < 3 → L' 95 (3 * e + i) = wL (sg false * eC false 2 u.toInt A i e)) ∧ ∀ e, e < 3 → L' 97 e = wL (sg false * eS false 2 u.toInt e)) → Q (some (.long (wL (fd (eN false 2 u.toInt A 1) (eD false 2 u.toInt A))))) (n, sl, C, Z, I, L', R)) : Wp 144 0 [some (.ref 74), some (.int (nI j)), some (.int 0), some (.int 1), some (.int 1)] [] (n, sl, C, Z, I, L, R) Q := by
  obtain ⟨hM, hj12, hs3, k76, k77, mA, mB, mK, mD, zA, zB⟩ := id hr
  unfold LayM at hM
  have j0 : inb (nI j) 12 = true := by rw [inb_nI (by omega)]; simp; omega
  have jx := ix_nI (show j < 2 ^ 31 by omega)
  have hM' := hr.1
  have c74 : C 74 = 11 := by simp [hM]
  have n0 : nI 2 = 2 := rfl
  have bD := bn_eD (fl := false) (s := 2) hu hA
  have bN := bn_eN (fl := false) (s := 2) hu hA 1
  have sm : ∀ x, bn 200000000 x → bn 9223372036854775807 (sg false * x) := fun x hx => by unfold bn at *; rcases sg_mul false x with h | h <;> rw [h] <;> omega
  have sD : ¬ sg false * eD false 2 u.toInt A = 0 := by rcases sg_mul false (eD false 2 u.toInt A) with h | h <;> rw [h] <;> omega
  have fs := fn_sg (fl := false) (a := eN false 2 u.toInt A 1) d0
  simp [S144_0, S144_1, S144_2, is_yesG hM' hM12 hj, BS, ixs, inbs, hM, e2, j0, jx, k76, n0]
  refine m_has_2t hr kd hu hA (fun L1 f1 v1 => ?_)
  rw [if_neg d0]
  simp [S144_0, S144_1, S144_2, BS, ixs, inbs, hM, j0, jx, k76, n0]
  refine m_worth3_1 hM' (G := fun e i => sg false * eC false 2 u.toInt A i e) (v := fun e => sg false * eS false 2 u.toInt e) v1.1 v1.2 (fun L2 f2 => ?_)
  rw [worth_N1 false u.toInt A]
  simp [S144_0, S144_1, S144_2, BS, ixs, inbs, hM, j0, jx, k76, n0]
  have v2 : ((∀ e i, e < 3 → i < 3 → L2 95 (3 * e + i) = wL (sg false * eC false 2 u.toInt A i e)) ∧ ∀ e, e < 3 → L2 97 e = wL (sg false * eS false 2 u.toInt e)) := by rw [f2 95 (by omega), f2 97 (by omega)]; exact v1
  refine m_worth3_m hM' (G := fun e i => sg false * eC false 2 u.toInt A i e) v2.1 v2.2 (fun L3 f3 => ?_)
  rw [show dt3 (fun i => sg false * eC false 2 u.toInt A i 0) (fun i => sg false * eC false 2 u.toInt A i 1) (fun i => sg false * eC false 2 u.toInt A i 2) = sg false * eD false 2 u.toInt A from worth_D false u.toInt A]
  have v3 : ((∀ e i, e < 3 → i < 3 → L3 95 (3 * e + i) = wL (sg false * eC false 2 u.toInt A i e)) ∧ ∀ e, e < 3 → L3 97 e = wL (sg false * eS false 2 u.toInt e)) := by rw [f3 95 (by omega), f3 97 (by omega)]; exact v2
  have gg := go (u2 (u2 L3 74 28 (wL (fn (eN false 2 u.toInt A 1) (eD false 2 u.toInt A)))) 74 29 (wL (fd (eN false 2 u.toInt A 1) (eD false 2 u.toInt A)))) (fun c h0 h1 h2 h3 => by rw [u2_ne _ _ _ h0, u2_ne _ _ _ h0, f3 c h2, f2 c h2, f1 c h1 h2 h3]) (by rw [u2_ne _ _ _ (by omega : (95 : Nat) ≠ 74), u2_ne _ _ _ (by omega : (97 : Nat) ≠ 74), u2_ne _ _ _ (by omega : (95 : Nat) ≠ 74), u2_ne _ _ _ (by omega : (97 : Nat) ≠ 74)]; exact v3)
  simp [S144_0, S144_1, S144_2, BS, ixs, inbs, hM]
  refine (m_low (sm _ bN) (sm _ bD) sD c74 _ _ _ _ _).mpr ?_
  rw [fs.1, fs.2]
  simp [S144_0, S144_1, S144_2, S107_0, Call_in (k2 := 107), BS, ixs, inbs, hM, u2_rd]
  exact gg
set_option maxRecDepth 100000 in
set_option maxHeartbeats 8000000 in
theorem m_en_2t_10_0 {n sl : Nat} {C Z : Nat → Nat} {I : Nat → Nat → Int32} {L : Nat → Nat → Int64} {R : Nat → Nat → Nat} {j : Nat} {u : Int32} {A B K : Nat → Int} {d : Int} {M : Nat} (hr : RM C Z I R j 2 u A B K d) (kd : ¬ I 75 j = 1) (hM12 : M ≤ 12) (hj : j < M) (e2 : I 74 0 = nI M) (hu : u.toInt = 1 ∨ u.toInt = 2 ∨ u.toInt = 4) (hA : ∀ i, i < 9 → bn 12 (A i)) (d0 : ¬ eD false 2 u.toInt A = 0) {Q : Option Value → Hp → Prop} (go : ∀ L', (∀ c, c ≠ 74 → c ≠ 95 → c ≠ 96 → c ≠ 97 → L' c = L c) → ((∀ e i, e < 3 → i < 3 → L' 95 (3 * e + i) = wL (sg false * eC false 2 u.toInt A i e)) ∧ ∀ e, e < 3 → L' 97 e = wL (sg false * eS false 2 u.toInt e)) → Q (some (.long (wL (fn (eN false 2 u.toInt A 1) (eD false 2 u.toInt A))))) (n, sl, C, Z, I, L', R)) : Wp 144 0 [some (.ref 74), some (.int (nI j)), some (.int 1), some (.int 0), some (.int 0)] [] (n, sl, C, Z, I, L, R) Q := by
  obtain ⟨hM, hj12, hs3, k76, k77, mA, mB, mK, mD, zA, zB⟩ := id hr
  unfold LayM at hM
  have j0 : inb (nI j) 12 = true := by rw [inb_nI (by omega)]; simp; omega
  have jx := ix_nI (show j < 2 ^ 31 by omega)
  have hM' := hr.1
  have c74 : C 74 = 11 := by simp [hM]
  have n0 : nI 2 = 2 := rfl
  have bD := bn_eD (fl := false) (s := 2) hu hA
  have bN := bn_eN (fl := false) (s := 2) hu hA 1
  have sm : ∀ x, bn 200000000 x → bn 9223372036854775807 (sg false * x) := fun x hx => by unfold bn at *; rcases sg_mul false x with h | h <;> rw [h] <;> omega
  have sD : ¬ sg false * eD false 2 u.toInt A = 0 := by rcases sg_mul false (eD false 2 u.toInt A) with h | h <;> rw [h] <;> omega
  have fs := fn_sg (fl := false) (a := eN false 2 u.toInt A 1) d0
  simp [S144_0, S144_1, S144_2, is_yesG hM' hM12 hj, BS, ixs, inbs, hM, e2, j0, jx, k76, n0]
  refine m_has_2t hr kd hu hA (fun L1 f1 v1 => ?_)
  rw [if_neg d0]
  simp [S144_0, S144_1, S144_2, BS, ixs, inbs, hM, j0, jx, k76, n0]
  refine m_worth3_1 hM' (G := fun e i => sg false * eC false 2 u.toInt A i e) (v := fun e => sg false * eS false 2 u.toInt e) v1.1 v1.2 (fun L2 f2 => ?_)
  rw [worth_N1 false u.toInt A]
  simp [S144_0, S144_1, S144_2, BS, ixs, inbs, hM, j0, jx, k76, n0]
  have v2 : ((∀ e i, e < 3 → i < 3 → L2 95 (3 * e + i) = wL (sg false * eC false 2 u.toInt A i e)) ∧ ∀ e, e < 3 → L2 97 e = wL (sg false * eS false 2 u.toInt e)) := by rw [f2 95 (by omega), f2 97 (by omega)]; exact v1
  refine m_worth3_m hM' (G := fun e i => sg false * eC false 2 u.toInt A i e) v2.1 v2.2 (fun L3 f3 => ?_)
  rw [show dt3 (fun i => sg false * eC false 2 u.toInt A i 0) (fun i => sg false * eC false 2 u.toInt A i 1) (fun i => sg false * eC false 2 u.toInt A i 2) = sg false * eD false 2 u.toInt A from worth_D false u.toInt A]
  have v3 : ((∀ e i, e < 3 → i < 3 → L3 95 (3 * e + i) = wL (sg false * eC false 2 u.toInt A i e)) ∧ ∀ e, e < 3 → L3 97 e = wL (sg false * eS false 2 u.toInt e)) := by rw [f3 95 (by omega), f3 97 (by omega)]; exact v2
  have gg := go (u2 (u2 L3 74 28 (wL (fn (eN false 2 u.toInt A 1) (eD false 2 u.toInt A)))) 74 29 (wL (fd (eN false 2 u.toInt A 1) (eD false 2 u.toInt A)))) (fun c h0 h1 h2 h3 => by rw [u2_ne _ _ _ h0, u2_ne _ _ _ h0, f3 c h2, f2 c h2, f1 c h1 h2 h3]) (by rw [u2_ne _ _ _ (by omega : (95 : Nat) ≠ 74), u2_ne _ _ _ (by omega : (97 : Nat) ≠ 74), u2_ne _ _ _ (by omega : (95 : Nat) ≠ 74), u2_ne _ _ _ (by omega : (97 : Nat) ≠ 74)]; exact v3)
  simp [S144_0, S144_1, S144_2, BS, ixs, inbs, hM]
  refine (m_low (sm _ bN) (sm _ bD) sD c74 _ _ _ _ _).mpr ?_
  rw [fs.1, fs.2]
  simp [S144_0, S144_1, S144_2, S107_0, Call_in (k2 := 107), BS, ixs, inbs, hM, u2_rd]
  exact gg
set_option maxRecDepth 100000 in
set_option maxHeartbeats 8000000 in
theorem m_en_2t_10_1 {n sl : Nat} {C Z : Nat → Nat} {I : Nat → Nat → Int32} {L : Nat → Nat → Int64} {R : Nat → Nat → Nat} {j : Nat} {u : Int32} {A B K : Nat → Int} {d : Int} {M : Nat} (hr : RM C Z I R j 2 u A B K d) (kd : ¬ I 75 j = 1) (hM12 : M ≤ 12) (hj : j < M) (e2 : I 74 0 = nI M) (hu : u.toInt = 1 ∨ u.toInt = 2 ∨ u.toInt = 4) (hA : ∀ i, i < 9 → bn 12 (A i)) (d0 : ¬ eD false 2 u.toInt A = 0) {Q : Option Value → Hp → Prop} (go : ∀ L', (∀ c, c ≠ 74 → c ≠ 95 → c ≠ 96 → c ≠ 97 → L' c = L c) → ((∀ e i, e < 3 → i < 3 → L' 95 (3 * e + i) = wL (sg false * eC false 2 u.toInt A i e)) ∧ ∀ e, e < 3 → L' 97 e = wL (sg false * eS false 2 u.toInt e)) → Q (some (.long (wL (fd (eN false 2 u.toInt A 1) (eD false 2 u.toInt A))))) (n, sl, C, Z, I, L', R)) : Wp 144 0 [some (.ref 74), some (.int (nI j)), some (.int 1), some (.int 0), some (.int 1)] [] (n, sl, C, Z, I, L, R) Q := by
  obtain ⟨hM, hj12, hs3, k76, k77, mA, mB, mK, mD, zA, zB⟩ := id hr
  unfold LayM at hM
  have j0 : inb (nI j) 12 = true := by rw [inb_nI (by omega)]; simp; omega
  have jx := ix_nI (show j < 2 ^ 31 by omega)
  have hM' := hr.1
  have c74 : C 74 = 11 := by simp [hM]
  have n0 : nI 2 = 2 := rfl
  have bD := bn_eD (fl := false) (s := 2) hu hA
  have bN := bn_eN (fl := false) (s := 2) hu hA 1
  have sm : ∀ x, bn 200000000 x → bn 9223372036854775807 (sg false * x) := fun x hx => by unfold bn at *; rcases sg_mul false x with h | h <;> rw [h] <;> omega
  have sD : ¬ sg false * eD false 2 u.toInt A = 0 := by rcases sg_mul false (eD false 2 u.toInt A) with h | h <;> rw [h] <;> omega
  have fs := fn_sg (fl := false) (a := eN false 2 u.toInt A 1) d0
  simp [S144_0, S144_1, S144_2, is_yesG hM' hM12 hj, BS, ixs, inbs, hM, e2, j0, jx, k76, n0]
  refine m_has_2t hr kd hu hA (fun L1 f1 v1 => ?_)
  rw [if_neg d0]
  simp [S144_0, S144_1, S144_2, BS, ixs, inbs, hM, j0, jx, k76, n0]
  refine m_worth3_1 hM' (G := fun e i => sg false * eC false 2 u.toInt A i e) (v := fun e => sg false * eS false 2 u.toInt e) v1.1 v1.2 (fun L2 f2 => ?_)
  rw [worth_N1 false u.toInt A]
  simp [S144_0, S144_1, S144_2, BS, ixs, inbs, hM, j0, jx, k76, n0]
  have v2 : ((∀ e i, e < 3 → i < 3 → L2 95 (3 * e + i) = wL (sg false * eC false 2 u.toInt A i e)) ∧ ∀ e, e < 3 → L2 97 e = wL (sg false * eS false 2 u.toInt e)) := by rw [f2 95 (by omega), f2 97 (by omega)]; exact v1
  refine m_worth3_m hM' (G := fun e i => sg false * eC false 2 u.toInt A i e) v2.1 v2.2 (fun L3 f3 => ?_)
  rw [show dt3 (fun i => sg false * eC false 2 u.toInt A i 0) (fun i => sg false * eC false 2 u.toInt A i 1) (fun i => sg false * eC false 2 u.toInt A i 2) = sg false * eD false 2 u.toInt A from worth_D false u.toInt A]
  have v3 : ((∀ e i, e < 3 → i < 3 → L3 95 (3 * e + i) = wL (sg false * eC false 2 u.toInt A i e)) ∧ ∀ e, e < 3 → L3 97 e = wL (sg false * eS false 2 u.toInt e)) := by rw [f3 95 (by omega), f3 97 (by omega)]; exact v2
  have gg := go (u2 (u2 L3 74 28 (wL (fn (eN false 2 u.toInt A 1) (eD false 2 u.toInt A)))) 74 29 (wL (fd (eN false 2 u.toInt A 1) (eD false 2 u.toInt A)))) (fun c h0 h1 h2 h3 => by rw [u2_ne _ _ _ h0, u2_ne _ _ _ h0, f3 c h2, f2 c h2, f1 c h1 h2 h3]) (by rw [u2_ne _ _ _ (by omega : (95 : Nat) ≠ 74), u2_ne _ _ _ (by omega : (97 : Nat) ≠ 74), u2_ne _ _ _ (by omega : (95 : Nat) ≠ 74), u2_ne _ _ _ (by omega : (97 : Nat) ≠ 74)]; exact v3)
  simp [S144_0, S144_1, S144_2, BS, ixs, inbs, hM]
  refine (m_low (sm _ bN) (sm _ bD) sD c74 _ _ _ _ _).mpr ?_
  rw [fs.1, fs.2]
  simp [S144_0, S144_1, S144_2, S107_0, Call_in (k2 := 107), BS, ixs, inbs, hM, u2_rd]
  exact gg
set_option maxRecDepth 100000 in
set_option maxHeartbeats 8000000 in
theorem m_en_2t_11_0 {n sl : Nat} {C Z : Nat → Nat} {I : Nat → Nat → Int32} {L : Nat → Nat → Int64} {R : Nat → Nat → Nat} {j : Nat} {u : Int32} {A B K : Nat → Int} {d : Int} {M : Nat} (hr : RM C Z I R j 2 u A B K d) (kd : ¬ I 75 j = 1) (hM12 : M ≤ 12) (hj : j < M) (e2 : I 74 0 = nI M) (hu : u.toInt = 1 ∨ u.toInt = 2 ∨ u.toInt = 4) (hA : ∀ i, i < 9 → bn 12 (A i)) (d0 : ¬ eD false 2 u.toInt A = 0) {Q : Option Value → Hp → Prop} (go : ∀ L', (∀ c, c ≠ 74 → c ≠ 95 → c ≠ 96 → c ≠ 97 → L' c = L c) → ((∀ e i, e < 3 → i < 3 → L' 95 (3 * e + i) = wL (sg false * eC false 2 u.toInt A i e)) ∧ ∀ e, e < 3 → L' 97 e = wL (sg false * eS false 2 u.toInt e)) → Q (some (.long (wL (fn (eN false 2 u.toInt A 2) (eD false 2 u.toInt A))))) (n, sl, C, Z, I, L', R)) : Wp 144 0 [some (.ref 74), some (.int (nI j)), some (.int 1), some (.int 1), some (.int 0)] [] (n, sl, C, Z, I, L, R) Q := by
  obtain ⟨hM, hj12, hs3, k76, k77, mA, mB, mK, mD, zA, zB⟩ := id hr
  unfold LayM at hM
  have j0 : inb (nI j) 12 = true := by rw [inb_nI (by omega)]; simp; omega
  have jx := ix_nI (show j < 2 ^ 31 by omega)
  have hM' := hr.1
  have c74 : C 74 = 11 := by simp [hM]
  have n0 : nI 2 = 2 := rfl
  have bD := bn_eD (fl := false) (s := 2) hu hA
  have bN := bn_eN (fl := false) (s := 2) hu hA 2
  have sm : ∀ x, bn 200000000 x → bn 9223372036854775807 (sg false * x) := fun x hx => by unfold bn at *; rcases sg_mul false x with h | h <;> rw [h] <;> omega
  have sD : ¬ sg false * eD false 2 u.toInt A = 0 := by rcases sg_mul false (eD false 2 u.toInt A) with h | h <;> rw [h] <;> omega
  have fs := fn_sg (fl := false) (a := eN false 2 u.toInt A 2) d0
  simp [S144_0, S144_1, S144_2, is_yesG hM' hM12 hj, BS, ixs, inbs, hM, e2, j0, jx, k76, n0]
  refine m_has_2t hr kd hu hA (fun L1 f1 v1 => ?_)
  rw [if_neg d0]
  simp [S144_0, S144_1, S144_2, BS, ixs, inbs, hM, j0, jx, k76, n0]
  refine m_worth3_2 hM' (G := fun e i => sg false * eC false 2 u.toInt A i e) (v := fun e => sg false * eS false 2 u.toInt e) v1.1 v1.2 (fun L2 f2 => ?_)
  rw [worth_N2 false u.toInt A]
  simp [S144_0, S144_1, S144_2, BS, ixs, inbs, hM, j0, jx, k76, n0]
  have v2 : ((∀ e i, e < 3 → i < 3 → L2 95 (3 * e + i) = wL (sg false * eC false 2 u.toInt A i e)) ∧ ∀ e, e < 3 → L2 97 e = wL (sg false * eS false 2 u.toInt e)) := by rw [f2 95 (by omega), f2 97 (by omega)]; exact v1
  refine m_worth3_m hM' (G := fun e i => sg false * eC false 2 u.toInt A i e) v2.1 v2.2 (fun L3 f3 => ?_)
  rw [show dt3 (fun i => sg false * eC false 2 u.toInt A i 0) (fun i => sg false * eC false 2 u.toInt A i 1) (fun i => sg false * eC false 2 u.toInt A i 2) = sg false * eD false 2 u.toInt A from worth_D false u.toInt A]
  have v3 : ((∀ e i, e < 3 → i < 3 → L3 95 (3 * e + i) = wL (sg false * eC false 2 u.toInt A i e)) ∧ ∀ e, e < 3 → L3 97 e = wL (sg false * eS false 2 u.toInt e)) := by rw [f3 95 (by omega), f3 97 (by omega)]; exact v2
  have gg := go (u2 (u2 L3 74 28 (wL (fn (eN false 2 u.toInt A 2) (eD false 2 u.toInt A)))) 74 29 (wL (fd (eN false 2 u.toInt A 2) (eD false 2 u.toInt A)))) (fun c h0 h1 h2 h3 => by rw [u2_ne _ _ _ h0, u2_ne _ _ _ h0, f3 c h2, f2 c h2, f1 c h1 h2 h3]) (by rw [u2_ne _ _ _ (by omega : (95 : Nat) ≠ 74), u2_ne _ _ _ (by omega : (97 : Nat) ≠ 74), u2_ne _ _ _ (by omega : (95 : Nat) ≠ 74), u2_ne _ _ _ (by omega : (97 : Nat) ≠ 74)]; exact v3)
  simp [S144_0, S144_1, S144_2, BS, ixs, inbs, hM]
  refine (m_low (sm _ bN) (sm _ bD) sD c74 _ _ _ _ _).mpr ?_
  rw [fs.1, fs.2]
  simp [S144_0, S144_1, S144_2, S107_0, Call_in (k2 := 107), BS, ixs, inbs, hM, u2_rd]
  exact gg
set_option maxRecDepth 100000 in
set_option maxHeartbeats 8000000 in
theorem m_en_2t_11_1 {n sl : Nat} {C Z : Nat → Nat} {I : Nat → Nat → Int32} {L : Nat → Nat → Int64} {R : Nat → Nat → Nat} {j : Nat} {u : Int32} {A B K : Nat → Int} {d : Int} {M : Nat} (hr : RM C Z I R j 2 u A B K d) (kd : ¬ I 75 j = 1) (hM12 : M ≤ 12) (hj : j < M) (e2 : I 74 0 = nI M) (hu : u.toInt = 1 ∨ u.toInt = 2 ∨ u.toInt = 4) (hA : ∀ i, i < 9 → bn 12 (A i)) (d0 : ¬ eD false 2 u.toInt A = 0) {Q : Option Value → Hp → Prop} (go : ∀ L', (∀ c, c ≠ 74 → c ≠ 95 → c ≠ 96 → c ≠ 97 → L' c = L c) → ((∀ e i, e < 3 → i < 3 → L' 95 (3 * e + i) = wL (sg false * eC false 2 u.toInt A i e)) ∧ ∀ e, e < 3 → L' 97 e = wL (sg false * eS false 2 u.toInt e)) → Q (some (.long (wL (fd (eN false 2 u.toInt A 2) (eD false 2 u.toInt A))))) (n, sl, C, Z, I, L', R)) : Wp 144 0 [some (.ref 74), some (.int (nI j)), some (.int 1), some (.int 1), some (.int 1)] [] (n, sl, C, Z, I, L, R) Q := by
  obtain ⟨hM, hj12, hs3, k76, k77, mA, mB, mK, mD, zA, zB⟩ := id hr
  unfold LayM at hM
  have j0 : inb (nI j) 12 = true := by rw [inb_nI (by omega)]; simp; omega
  have jx := ix_nI (show j < 2 ^ 31 by omega)
  have hM' := hr.1
  have c74 : C 74 = 11 := by simp [hM]
  have n0 : nI 2 = 2 := rfl
  have bD := bn_eD (fl := false) (s := 2) hu hA
  have bN := bn_eN (fl := false) (s := 2) hu hA 2
  have sm : ∀ x, bn 200000000 x → bn 9223372036854775807 (sg false * x) := fun x hx => by unfold bn at *; rcases sg_mul false x with h | h <;> rw [h] <;> omega
  have sD : ¬ sg false * eD false 2 u.toInt A = 0 := by rcases sg_mul false (eD false 2 u.toInt A) with h | h <;> rw [h] <;> omega
  have fs := fn_sg (fl := false) (a := eN false 2 u.toInt A 2) d0
  simp [S144_0, S144_1, S144_2, is_yesG hM' hM12 hj, BS, ixs, inbs, hM, e2, j0, jx, k76, n0]
  refine m_has_2t hr kd hu hA (fun L1 f1 v1 => ?_)
  rw [if_neg d0]
  simp [S144_0, S144_1, S144_2, BS, ixs, inbs, hM, j0, jx, k76, n0]
  refine m_worth3_2 hM' (G := fun e i => sg false * eC false 2 u.toInt A i e) (v := fun e => sg false * eS false 2 u.toInt e) v1.1 v1.2 (fun L2 f2 => ?_)
  rw [worth_N2 false u.toInt A]
  simp [S144_0, S144_1, S144_2, BS, ixs, inbs, hM, j0, jx, k76, n0]
  have v2 : ((∀ e i, e < 3 → i < 3 → L2 95 (3 * e + i) = wL (sg false * eC false 2 u.toInt A i e)) ∧ ∀ e, e < 3 → L2 97 e = wL (sg false * eS false 2 u.toInt e)) := by rw [f2 95 (by omega), f2 97 (by omega)]; exact v1
  refine m_worth3_m hM' (G := fun e i => sg false * eC false 2 u.toInt A i e) v2.1 v2.2 (fun L3 f3 => ?_)
  rw [show dt3 (fun i => sg false * eC false 2 u.toInt A i 0) (fun i => sg false * eC false 2 u.toInt A i 1) (fun i => sg false * eC false 2 u.toInt A i 2) = sg false * eD false 2 u.toInt A from worth_D false u.toInt A]
  have v3 : ((∀ e i, e < 3 → i < 3 → L3 95 (3 * e + i) = wL (sg false * eC false 2 u.toInt A i e)) ∧ ∀ e, e < 3 → L3 97 e = wL (sg false * eS false 2 u.toInt e)) := by rw [f3 95 (by omega), f3 97 (by omega)]; exact v2
  have gg := go (u2 (u2 L3 74 28 (wL (fn (eN false 2 u.toInt A 2) (eD false 2 u.toInt A)))) 74 29 (wL (fd (eN false 2 u.toInt A 2) (eD false 2 u.toInt A)))) (fun c h0 h1 h2 h3 => by rw [u2_ne _ _ _ h0, u2_ne _ _ _ h0, f3 c h2, f2 c h2, f1 c h1 h2 h3]) (by rw [u2_ne _ _ _ (by omega : (95 : Nat) ≠ 74), u2_ne _ _ _ (by omega : (97 : Nat) ≠ 74), u2_ne _ _ _ (by omega : (95 : Nat) ≠ 74), u2_ne _ _ _ (by omega : (97 : Nat) ≠ 74)]; exact v3)
  simp [S144_0, S144_1, S144_2, BS, ixs, inbs, hM]
  refine (m_low (sm _ bN) (sm _ bD) sD c74 _ _ _ _ _).mpr ?_
  rw [fs.1, fs.2]
  simp [S144_0, S144_1, S144_2, S107_0, Call_in (k2 := 107), BS, ixs, inbs, hM, u2_rd]
  exact gg
set_option maxRecDepth 100000 in
set_option maxHeartbeats 8000000 in
theorem m_en_1f_00_0 {n sl : Nat} {C Z : Nat → Nat} {I : Nat → Nat → Int32} {L : Nat → Nat → Int64} {R : Nat → Nat → Nat} {j : Nat} {u : Int32} {A B K : Nat → Int} {d : Int} {M : Nat} (hr : RM C Z I R j 1 u A B K d) (kd : I 75 j = 1) (hM12 : M ≤ 12) (hj : j < M) (e2 : I 74 0 = nI M) (hu : u.toInt = 1 ∨ u.toInt = 2 ∨ u.toInt = 4) (hA : ∀ i, i < 9 → bn 12 (A i)) (d0 : ¬ eD true 1 u.toInt A = 0) {Q : Option Value → Hp → Prop} (go : ∀ L', (∀ c, c ≠ 74 → c ≠ 95 → c ≠ 96 → c ≠ 97 → L' c = L c) → (L' 95 0 = wL (sg true * eC true 1 u.toInt A 0 0) ∧ L' 97 0 = wL (sg true * eS true 1 u.toInt 0)) → Q (some (.long (wL (fn (eN true 1 u.toInt A 0) (eD true 1 u.toInt A))))) (n, sl, C, Z, I, L', R)) : Wp 144 0 [some (.ref 74), some (.int (nI j)), some (.int 0), some (.int 0), some (.int 0)] [] (n, sl, C, Z, I, L, R) Q := by
  obtain ⟨hM, hj12, hs3, k76, k77, mA, mB, mK, mD, zA, zB⟩ := id hr
  unfold LayM at hM
  have j0 : inb (nI j) 12 = true := by rw [inb_nI (by omega)]; simp; omega
  have jx := ix_nI (show j < 2 ^ 31 by omega)
  have hM' := hr.1
  have c74 : C 74 = 11 := by simp [hM]
  have n0 : nI 1 = 1 := rfl
  have bD := bn_eD (fl := true) (s := 1) hu hA
  have bN := bn_eN (fl := true) (s := 1) hu hA 0
  have sm : ∀ x, bn 200000000 x → bn 9223372036854775807 (sg true * x) := fun x hx => by unfold bn at *; rcases sg_mul true x with h | h <;> rw [h] <;> omega
  have sD : ¬ sg true * eD true 1 u.toInt A = 0 := by rcases sg_mul true (eD true 1 u.toInt A) with h | h <;> rw [h] <;> omega
  have fs := fn_sg (fl := true) (a := eN true 1 u.toInt A 0) d0
  simp [S144_0, S144_1, S144_2, is_yesG hM' hM12 hj, BS, ixs, inbs, hM, e2, j0, jx, k76, n0]
  refine m_has_1f hr kd hu hA (fun L1 f1 v1 => ?_)
  rw [if_neg d0]
  simp [S144_0, S144_1, S144_2, BS, ixs, inbs, hM, j0, jx, k76, n0]
  refine m_worth1_0 hM' (fun L2 f2 => ?_)
  rw [v1.2, show eS true 1 u.toInt 0 = eN true 1 u.toInt A 0 from (eD_1 true u.toInt A).2.symm]
  simp [S144_0, S144_1, S144_2, BS, ixs, inbs, hM, j0, jx, k76, n0]
  have v2 : (L2 95 0 = wL (sg true * eC true 1 u.toInt A 0 0) ∧ L2 97 0 = wL (sg true * eS true 1 u.toInt 0)) := by rw [f2 95 (by omega), f2 97 (by omega)]; exact v1
  refine m_worth1_m hM' (fun L3 f3 => ?_)
  rw [v2.1, show eC true 1 u.toInt A 0 0 = eD true 1 u.toInt A from (eD_1 true u.toInt A).1.symm]
  have v3 : (L3 95 0 = wL (sg true * eC true 1 u.toInt A 0 0) ∧ L3 97 0 = wL (sg true * eS true 1 u.toInt 0)) := by rw [f3 95 (by omega), f3 97 (by omega)]; exact v2
  have gg := go (u2 (u2 L3 74 28 (wL (fn (eN true 1 u.toInt A 0) (eD true 1 u.toInt A)))) 74 29 (wL (fd (eN true 1 u.toInt A 0) (eD true 1 u.toInt A)))) (fun c h0 h1 h2 h3 => by rw [u2_ne _ _ _ h0, u2_ne _ _ _ h0, f3 c h2, f2 c h2, f1 c h1 h2 h3]) (by rw [u2_ne _ _ _ (by omega : (95 : Nat) ≠ 74), u2_ne _ _ _ (by omega : (97 : Nat) ≠ 74), u2_ne _ _ _ (by omega : (95 : Nat) ≠ 74), u2_ne _ _ _ (by omega : (97 : Nat) ≠ 74)]; exact v3)
  simp [S144_0, S144_1, S144_2, BS, ixs, inbs, hM]
  refine (m_low (sm _ bN) (sm _ bD) sD c74 _ _ _ _ _).mpr ?_
  rw [fs.1, fs.2]
  simp [S144_0, S144_1, S144_2, S107_0, Call_in (k2 := 107), BS, ixs, inbs, hM, u2_rd]
  exact gg
set_option maxRecDepth 100000 in
set_option maxHeartbeats 8000000 in
theorem m_en_1f_00_1 {n sl : Nat} {C Z : Nat → Nat} {I : Nat → Nat → Int32} {L : Nat → Nat → Int64} {R : Nat → Nat → Nat} {j : Nat} {u : Int32} {A B K : Nat → Int} {d : Int} {M : Nat} (hr : RM C Z I R j 1 u A B K d) (kd : I 75 j = 1) (hM12 : M ≤ 12) (hj : j < M) (e2 : I 74 0 = nI M) (hu : u.toInt = 1 ∨ u.toInt = 2 ∨ u.toInt = 4) (hA : ∀ i, i < 9 → bn 12 (A i)) (d0 : ¬ eD true 1 u.toInt A = 0) {Q : Option Value → Hp → Prop} (go : ∀ L', (∀ c, c ≠ 74 → c ≠ 95 → c ≠ 96 → c ≠ 97 → L' c = L c) → (L' 95 0 = wL (sg true * eC true 1 u.toInt A 0 0) ∧ L' 97 0 = wL (sg true * eS true 1 u.toInt 0)) → Q (some (.long (wL (fd (eN true 1 u.toInt A 0) (eD true 1 u.toInt A))))) (n, sl, C, Z, I, L', R)) : Wp 144 0 [some (.ref 74), some (.int (nI j)), some (.int 0), some (.int 0), some (.int 1)] [] (n, sl, C, Z, I, L, R) Q := by
  obtain ⟨hM, hj12, hs3, k76, k77, mA, mB, mK, mD, zA, zB⟩ := id hr
  unfold LayM at hM
  have j0 : inb (nI j) 12 = true := by rw [inb_nI (by omega)]; simp; omega
  have jx := ix_nI (show j < 2 ^ 31 by omega)
  have hM' := hr.1
  have c74 : C 74 = 11 := by simp [hM]
  have n0 : nI 1 = 1 := rfl
  have bD := bn_eD (fl := true) (s := 1) hu hA
  have bN := bn_eN (fl := true) (s := 1) hu hA 0
  have sm : ∀ x, bn 200000000 x → bn 9223372036854775807 (sg true * x) := fun x hx => by unfold bn at *; rcases sg_mul true x with h | h <;> rw [h] <;> omega
  have sD : ¬ sg true * eD true 1 u.toInt A = 0 := by rcases sg_mul true (eD true 1 u.toInt A) with h | h <;> rw [h] <;> omega
  have fs := fn_sg (fl := true) (a := eN true 1 u.toInt A 0) d0
  simp [S144_0, S144_1, S144_2, is_yesG hM' hM12 hj, BS, ixs, inbs, hM, e2, j0, jx, k76, n0]
  refine m_has_1f hr kd hu hA (fun L1 f1 v1 => ?_)
  rw [if_neg d0]
  simp [S144_0, S144_1, S144_2, BS, ixs, inbs, hM, j0, jx, k76, n0]
  refine m_worth1_0 hM' (fun L2 f2 => ?_)
  rw [v1.2, show eS true 1 u.toInt 0 = eN true 1 u.toInt A 0 from (eD_1 true u.toInt A).2.symm]
  simp [S144_0, S144_1, S144_2, BS, ixs, inbs, hM, j0, jx, k76, n0]
  have v2 : (L2 95 0 = wL (sg true * eC true 1 u.toInt A 0 0) ∧ L2 97 0 = wL (sg true * eS true 1 u.toInt 0)) := by rw [f2 95 (by omega), f2 97 (by omega)]; exact v1
  refine m_worth1_m hM' (fun L3 f3 => ?_)
  rw [v2.1, show eC true 1 u.toInt A 0 0 = eD true 1 u.toInt A from (eD_1 true u.toInt A).1.symm]
  have v3 : (L3 95 0 = wL (sg true * eC true 1 u.toInt A 0 0) ∧ L3 97 0 = wL (sg true * eS true 1 u.toInt 0)) := by rw [f3 95 (by omega), f3 97 (by omega)]; exact v2
  have gg := go (u2 (u2 L3 74 28 (wL (fn (eN true 1 u.toInt A 0) (eD true 1 u.toInt A)))) 74 29 (wL (fd (eN true 1 u.toInt A 0) (eD true 1 u.toInt A)))) (fun c h0 h1 h2 h3 => by rw [u2_ne _ _ _ h0, u2_ne _ _ _ h0, f3 c h2, f2 c h2, f1 c h1 h2 h3]) (by rw [u2_ne _ _ _ (by omega : (95 : Nat) ≠ 74), u2_ne _ _ _ (by omega : (97 : Nat) ≠ 74), u2_ne _ _ _ (by omega : (95 : Nat) ≠ 74), u2_ne _ _ _ (by omega : (97 : Nat) ≠ 74)]; exact v3)
  simp [S144_0, S144_1, S144_2, BS, ixs, inbs, hM]
  refine (m_low (sm _ bN) (sm _ bD) sD c74 _ _ _ _ _).mpr ?_
  rw [fs.1, fs.2]
  simp [S144_0, S144_1, S144_2, S107_0, Call_in (k2 := 107), BS, ixs, inbs, hM, u2_rd]
  exact gg
set_option maxRecDepth 100000 in
set_option maxHeartbeats 8000000 in
theorem m_en_2f_00_0 {n sl : Nat} {C Z : Nat → Nat} {I : Nat → Nat → Int32} {L : Nat → Nat → Int64} {R : Nat → Nat → Nat} {j : Nat} {u : Int32} {A B K : Nat → Int} {d : Int} {M : Nat} (hr : RM C Z I R j 2 u A B K d) (kd : I 75 j = 1) (hM12 : M ≤ 12) (hj : j < M) (e2 : I 74 0 = nI M) (hu : u.toInt = 1 ∨ u.toInt = 2 ∨ u.toInt = 4) (hA : ∀ i, i < 9 → bn 12 (A i)) (d0 : ¬ eD true 2 u.toInt A = 0) {Q : Option Value → Hp → Prop} (go : ∀ L', (∀ c, c ≠ 74 → c ≠ 95 → c ≠ 96 → c ≠ 97 → L' c = L c) → ((∀ e i, e < 3 → i < 3 → L' 95 (3 * e + i) = wL (sg true * eC true 2 u.toInt A i e)) ∧ ∀ e, e < 3 → L' 97 e = wL (sg true * eS true 2 u.toInt e)) → Q (some (.long (wL (fn (eN true 2 u.toInt A 0) (eD true 2 u.toInt A))))) (n, sl, C, Z, I, L', R)) : Wp 144 0 [some (.ref 74), some (.int (nI j)), some (.int 0), some (.int 0), some (.int 0)] [] (n, sl, C, Z, I, L, R) Q := by
  obtain ⟨hM, hj12, hs3, k76, k77, mA, mB, mK, mD, zA, zB⟩ := id hr
  unfold LayM at hM
  have j0 : inb (nI j) 12 = true := by rw [inb_nI (by omega)]; simp; omega
  have jx := ix_nI (show j < 2 ^ 31 by omega)
  have hM' := hr.1
  have c74 : C 74 = 11 := by simp [hM]
  have n0 : nI 2 = 2 := rfl
  have bD := bn_eD (fl := true) (s := 2) hu hA
  have bN := bn_eN (fl := true) (s := 2) hu hA 0
  have sm : ∀ x, bn 200000000 x → bn 9223372036854775807 (sg true * x) := fun x hx => by unfold bn at *; rcases sg_mul true x with h | h <;> rw [h] <;> omega
  have sD : ¬ sg true * eD true 2 u.toInt A = 0 := by rcases sg_mul true (eD true 2 u.toInt A) with h | h <;> rw [h] <;> omega
  have fs := fn_sg (fl := true) (a := eN true 2 u.toInt A 0) d0
  simp [S144_0, S144_1, S144_2, is_yesG hM' hM12 hj, BS, ixs, inbs, hM, e2, j0, jx, k76, n0]
  refine m_has_2f hr kd hu hA (fun L1 f1 v1 => ?_)
  rw [if_neg d0]
  simp [S144_0, S144_1, S144_2, BS, ixs, inbs, hM, j0, jx, k76, n0]
  refine m_worth3_0 hM' (G := fun e i => sg true * eC true 2 u.toInt A i e) (v := fun e => sg true * eS true 2 u.toInt e) v1.1 v1.2 (fun L2 f2 => ?_)
  rw [worth_N0 true u.toInt A]
  simp [S144_0, S144_1, S144_2, BS, ixs, inbs, hM, j0, jx, k76, n0]
  have v2 : ((∀ e i, e < 3 → i < 3 → L2 95 (3 * e + i) = wL (sg true * eC true 2 u.toInt A i e)) ∧ ∀ e, e < 3 → L2 97 e = wL (sg true * eS true 2 u.toInt e)) := by rw [f2 95 (by omega), f2 97 (by omega)]; exact v1
  refine m_worth3_m hM' (G := fun e i => sg true * eC true 2 u.toInt A i e) v2.1 v2.2 (fun L3 f3 => ?_)
  rw [show dt3 (fun i => sg true * eC true 2 u.toInt A i 0) (fun i => sg true * eC true 2 u.toInt A i 1) (fun i => sg true * eC true 2 u.toInt A i 2) = sg true * eD true 2 u.toInt A from worth_D true u.toInt A]
  have v3 : ((∀ e i, e < 3 → i < 3 → L3 95 (3 * e + i) = wL (sg true * eC true 2 u.toInt A i e)) ∧ ∀ e, e < 3 → L3 97 e = wL (sg true * eS true 2 u.toInt e)) := by rw [f3 95 (by omega), f3 97 (by omega)]; exact v2
  have gg := go (u2 (u2 L3 74 28 (wL (fn (eN true 2 u.toInt A 0) (eD true 2 u.toInt A)))) 74 29 (wL (fd (eN true 2 u.toInt A 0) (eD true 2 u.toInt A)))) (fun c h0 h1 h2 h3 => by rw [u2_ne _ _ _ h0, u2_ne _ _ _ h0, f3 c h2, f2 c h2, f1 c h1 h2 h3]) (by rw [u2_ne _ _ _ (by omega : (95 : Nat) ≠ 74), u2_ne _ _ _ (by omega : (97 : Nat) ≠ 74), u2_ne _ _ _ (by omega : (95 : Nat) ≠ 74), u2_ne _ _ _ (by omega : (97 : Nat) ≠ 74)]; exact v3)
  simp [S144_0, S144_1, S144_2, BS, ixs, inbs, hM]
  refine (m_low (sm _ bN) (sm _ bD) sD c74 _ _ _ _ _).mpr ?_
  rw [fs.1, fs.2]
  simp [S144_0, S144_1, S144_2, S107_0, Call_in (k2 := 107), BS, ixs, inbs, hM, u2_rd]
  exact gg
set_option maxRecDepth 100000 in
set_option maxHeartbeats 8000000 in
theorem m_en_2f_00_1 {n sl : Nat} {C Z : Nat → Nat} {I : Nat → Nat → Int32} {L : Nat → Nat → Int64} {R : Nat → Nat → Nat} {j : Nat} {u : Int32} {A B K : Nat → Int} {d : Int} {M : Nat} (hr : RM C Z I R j 2 u A B K d) (kd : I 75 j = 1) (hM12 : M ≤ 12) (hj : j < M) (e2 : I 74 0 = nI M) (hu : u.toInt = 1 ∨ u.toInt = 2 ∨ u.toInt = 4) (hA : ∀ i, i < 9 → bn 12 (A i)) (d0 : ¬ eD true 2 u.toInt A = 0) {Q : Option Value → Hp → Prop} (go : ∀ L', (∀ c, c ≠ 74 → c ≠ 95 → c ≠ 96 → c ≠ 97 → L' c = L c) → ((∀ e i, e < 3 → i < 3 → L' 95 (3 * e + i) = wL (sg true * eC true 2 u.toInt A i e)) ∧ ∀ e, e < 3 → L' 97 e = wL (sg true * eS true 2 u.toInt e)) → Q (some (.long (wL (fd (eN true 2 u.toInt A 0) (eD true 2 u.toInt A))))) (n, sl, C, Z, I, L', R)) : Wp 144 0 [some (.ref 74), some (.int (nI j)), some (.int 0), some (.int 0), some (.int 1)] [] (n, sl, C, Z, I, L, R) Q := by
  obtain ⟨hM, hj12, hs3, k76, k77, mA, mB, mK, mD, zA, zB⟩ := id hr
  unfold LayM at hM
  have j0 : inb (nI j) 12 = true := by rw [inb_nI (by omega)]; simp; omega
  have jx := ix_nI (show j < 2 ^ 31 by omega)
  have hM' := hr.1
  have c74 : C 74 = 11 := by simp [hM]
  have n0 : nI 2 = 2 := rfl
  have bD := bn_eD (fl := true) (s := 2) hu hA
  have bN := bn_eN (fl := true) (s := 2) hu hA 0
  have sm : ∀ x, bn 200000000 x → bn 9223372036854775807 (sg true * x) := fun x hx => by unfold bn at *; rcases sg_mul true x with h | h <;> rw [h] <;> omega
  have sD : ¬ sg true * eD true 2 u.toInt A = 0 := by rcases sg_mul true (eD true 2 u.toInt A) with h | h <;> rw [h] <;> omega
  have fs := fn_sg (fl := true) (a := eN true 2 u.toInt A 0) d0
  simp [S144_0, S144_1, S144_2, is_yesG hM' hM12 hj, BS, ixs, inbs, hM, e2, j0, jx, k76, n0]
  refine m_has_2f hr kd hu hA (fun L1 f1 v1 => ?_)
  rw [if_neg d0]
  simp [S144_0, S144_1, S144_2, BS, ixs, inbs, hM, j0, jx, k76, n0]
  refine m_worth3_0 hM' (G := fun e i => sg true * eC true 2 u.toInt A i e) (v := fun e => sg true * eS true 2 u.toInt e) v1.1 v1.2 (fun L2 f2 => ?_)
  rw [worth_N0 true u.toInt A]
  simp [S144_0, S144_1, S144_2, BS, ixs, inbs, hM, j0, jx, k76, n0]
  have v2 : ((∀ e i, e < 3 → i < 3 → L2 95 (3 * e + i) = wL (sg true * eC true 2 u.toInt A i e)) ∧ ∀ e, e < 3 → L2 97 e = wL (sg true * eS true 2 u.toInt e)) := by rw [f2 95 (by omega), f2 97 (by omega)]; exact v1
  refine m_worth3_m hM' (G := fun e i => sg true * eC true 2 u.toInt A i e) v2.1 v2.2 (fun L3 f3 => ?_)
  rw [show dt3 (fun i => sg true * eC true 2 u.toInt A i 0) (fun i => sg true * eC true 2 u.toInt A i 1) (fun i => sg true * eC true 2 u.toInt A i 2) = sg true * eD true 2 u.toInt A from worth_D true u.toInt A]
  have v3 : ((∀ e i, e < 3 → i < 3 → L3 95 (3 * e + i) = wL (sg true * eC true 2 u.toInt A i e)) ∧ ∀ e, e < 3 → L3 97 e = wL (sg true * eS true 2 u.toInt e)) := by rw [f3 95 (by omega), f3 97 (by omega)]; exact v2
  have gg := go (u2 (u2 L3 74 28 (wL (fn (eN true 2 u.toInt A 0) (eD true 2 u.toInt A)))) 74 29 (wL (fd (eN true 2 u.toInt A 0) (eD true 2 u.toInt A)))) (fun c h0 h1 h2 h3 => by rw [u2_ne _ _ _ h0, u2_ne _ _ _ h0, f3 c h2, f2 c h2, f1 c h1 h2 h3]) (by rw [u2_ne _ _ _ (by omega : (95 : Nat) ≠ 74), u2_ne _ _ _ (by omega : (97 : Nat) ≠ 74), u2_ne _ _ _ (by omega : (95 : Nat) ≠ 74), u2_ne _ _ _ (by omega : (97 : Nat) ≠ 74)]; exact v3)
  simp [S144_0, S144_1, S144_2, BS, ixs, inbs, hM]
  refine (m_low (sm _ bN) (sm _ bD) sD c74 _ _ _ _ _).mpr ?_
  rw [fs.1, fs.2]
  simp [S144_0, S144_1, S144_2, S107_0, Call_in (k2 := 107), BS, ixs, inbs, hM, u2_rd]
  exact gg
set_option maxRecDepth 100000 in
set_option maxHeartbeats 8000000 in
theorem m_en_2f_01_0 {n sl : Nat} {C Z : Nat → Nat} {I : Nat → Nat → Int32} {L : Nat → Nat → Int64} {R : Nat → Nat → Nat} {j : Nat} {u : Int32} {A B K : Nat → Int} {d : Int} {M : Nat} (hr : RM C Z I R j 2 u A B K d) (kd : I 75 j = 1) (hM12 : M ≤ 12) (hj : j < M) (e2 : I 74 0 = nI M) (hu : u.toInt = 1 ∨ u.toInt = 2 ∨ u.toInt = 4) (hA : ∀ i, i < 9 → bn 12 (A i)) (d0 : ¬ eD true 2 u.toInt A = 0) {Q : Option Value → Hp → Prop} (go : ∀ L', (∀ c, c ≠ 74 → c ≠ 95 → c ≠ 96 → c ≠ 97 → L' c = L c) → ((∀ e i, e < 3 → i < 3 → L' 95 (3 * e + i) = wL (sg true * eC true 2 u.toInt A i e)) ∧ ∀ e, e < 3 → L' 97 e = wL (sg true * eS true 2 u.toInt e)) → Q (some (.long (wL (fn (eN true 2 u.toInt A 1) (eD true 2 u.toInt A))))) (n, sl, C, Z, I, L', R)) : Wp 144 0 [some (.ref 74), some (.int (nI j)), some (.int 0), some (.int 1), some (.int 0)] [] (n, sl, C, Z, I, L, R) Q := by
  obtain ⟨hM, hj12, hs3, k76, k77, mA, mB, mK, mD, zA, zB⟩ := id hr
  unfold LayM at hM
  have j0 : inb (nI j) 12 = true := by rw [inb_nI (by omega)]; simp; omega
  have jx := ix_nI (show j < 2 ^ 31 by omega)
  have hM' := hr.1
  have c74 : C 74 = 11 := by simp [hM]
  have n0 : nI 2 = 2 := rfl
  have bD := bn_eD (fl := true) (s := 2) hu hA
  have bN := bn_eN (fl := true) (s := 2) hu hA 1
  have sm : ∀ x, bn 200000000 x → bn 9223372036854775807 (sg true * x) := fun x hx => by unfold bn at *; rcases sg_mul true x with h | h <;> rw [h] <;> omega
  have sD : ¬ sg true * eD true 2 u.toInt A = 0 := by rcases sg_mul true (eD true 2 u.toInt A) with h | h <;> rw [h] <;> omega
  have fs := fn_sg (fl := true) (a := eN true 2 u.toInt A 1) d0
  simp [S144_0, S144_1, S144_2, is_yesG hM' hM12 hj, BS, ixs, inbs, hM, e2, j0, jx, k76, n0]
  refine m_has_2f hr kd hu hA (fun L1 f1 v1 => ?_)
  rw [if_neg d0]
  simp [S144_0, S144_1, S144_2, BS, ixs, inbs, hM, j0, jx, k76, n0]
  refine m_worth3_1 hM' (G := fun e i => sg true * eC true 2 u.toInt A i e) (v := fun e => sg true * eS true 2 u.toInt e) v1.1 v1.2 (fun L2 f2 => ?_)
  rw [worth_N1 true u.toInt A]
  simp [S144_0, S144_1, S144_2, BS, ixs, inbs, hM, j0, jx, k76, n0]
  have v2 : ((∀ e i, e < 3 → i < 3 → L2 95 (3 * e + i) = wL (sg true * eC true 2 u.toInt A i e)) ∧ ∀ e, e < 3 → L2 97 e = wL (sg true * eS true 2 u.toInt e)) := by rw [f2 95 (by omega), f2 97 (by omega)]; exact v1
  refine m_worth3_m hM' (G := fun e i => sg true * eC true 2 u.toInt A i e) v2.1 v2.2 (fun L3 f3 => ?_)
  rw [show dt3 (fun i => sg true * eC true 2 u.toInt A i 0) (fun i => sg true * eC true 2 u.toInt A i 1) (fun i => sg true * eC true 2 u.toInt A i 2) = sg true * eD true 2 u.toInt A from worth_D true u.toInt A]
  have v3 : ((∀ e i, e < 3 → i < 3 → L3 95 (3 * e + i) = wL (sg true * eC true 2 u.toInt A i e)) ∧ ∀ e, e < 3 → L3 97 e = wL (sg true * eS true 2 u.toInt e)) := by rw [f3 95 (by omega), f3 97 (by omega)]; exact v2
  have gg := go (u2 (u2 L3 74 28 (wL (fn (eN true 2 u.toInt A 1) (eD true 2 u.toInt A)))) 74 29 (wL (fd (eN true 2 u.toInt A 1) (eD true 2 u.toInt A)))) (fun c h0 h1 h2 h3 => by rw [u2_ne _ _ _ h0, u2_ne _ _ _ h0, f3 c h2, f2 c h2, f1 c h1 h2 h3]) (by rw [u2_ne _ _ _ (by omega : (95 : Nat) ≠ 74), u2_ne _ _ _ (by omega : (97 : Nat) ≠ 74), u2_ne _ _ _ (by omega : (95 : Nat) ≠ 74), u2_ne _ _ _ (by omega : (97 : Nat) ≠ 74)]; exact v3)
  simp [S144_0, S144_1, S144_2, BS, ixs, inbs, hM]
  refine (m_low (sm _ bN) (sm _ bD) sD c74 _ _ _ _ _).mpr ?_
  rw [fs.1, fs.2]
  simp [S144_0, S144_1, S144_2, S107_0, Call_in (k2 := 107), BS, ixs, inbs, hM, u2_rd]
  exact gg
set_option maxRecDepth 100000 in
set_option maxHeartbeats 8000000 in
theorem m_en_2f_01_1 {n sl : Nat} {C Z : Nat → Nat} {I : Nat → Nat → Int32} {L : Nat → Nat → Int64} {R : Nat → Nat → Nat} {j : Nat} {u : Int32} {A B K : Nat → Int} {d : Int} {M : Nat} (hr : RM C Z I R j 2 u A B K d) (kd : I 75 j = 1) (hM12 : M ≤ 12) (hj : j < M) (e2 : I 74 0 = nI M) (hu : u.toInt = 1 ∨ u.toInt = 2 ∨ u.toInt = 4) (hA : ∀ i, i < 9 → bn 12 (A i)) (d0 : ¬ eD true 2 u.toInt A = 0) {Q : Option Value → Hp → Prop} (go : ∀ L', (∀ c, c ≠ 74 → c ≠ 95 → c ≠ 96 → c ≠ 97 → L' c = L c) → ((∀ e i, e < 3 → i < 3 → L' 95 (3 * e + i) = wL (sg true * eC true 2 u.toInt A i e)) ∧ ∀ e, e < 3 → L' 97 e = wL (sg true * eS true 2 u.toInt e)) → Q (some (.long (wL (fd (eN true 2 u.toInt A 1) (eD true 2 u.toInt A))))) (n, sl, C, Z, I, L', R)) : Wp 144 0 [some (.ref 74), some (.int (nI j)), some (.int 0), some (.int 1), some (.int 1)] [] (n, sl, C, Z, I, L, R) Q := by
  obtain ⟨hM, hj12, hs3, k76, k77, mA, mB, mK, mD, zA, zB⟩ := id hr
  unfold LayM at hM
  have j0 : inb (nI j) 12 = true := by rw [inb_nI (by omega)]; simp; omega
  have jx := ix_nI (show j < 2 ^ 31 by omega)
  have hM' := hr.1
  have c74 : C 74 = 11 := by simp [hM]
  have n0 : nI 2 = 2 := rfl
  have bD := bn_eD (fl := true) (s := 2) hu hA
  have bN := bn_eN (fl := true) (s := 2) hu hA 1
  have sm : ∀ x, bn 200000000 x → bn 9223372036854775807 (sg true * x) := fun x hx => by unfold bn at *; rcases sg_mul true x with h | h <;> rw [h] <;> omega
  have sD : ¬ sg true * eD true 2 u.toInt A = 0 := by rcases sg_mul true (eD true 2 u.toInt A) with h | h <;> rw [h] <;> omega
  have fs := fn_sg (fl := true) (a := eN true 2 u.toInt A 1) d0
  simp [S144_0, S144_1, S144_2, is_yesG hM' hM12 hj, BS, ixs, inbs, hM, e2, j0, jx, k76, n0]
  refine m_has_2f hr kd hu hA (fun L1 f1 v1 => ?_)
  rw [if_neg d0]
  simp [S144_0, S144_1, S144_2, BS, ixs, inbs, hM, j0, jx, k76, n0]
  refine m_worth3_1 hM' (G := fun e i => sg true * eC true 2 u.toInt A i e) (v := fun e => sg true * eS true 2 u.toInt e) v1.1 v1.2 (fun L2 f2 => ?_)
  rw [worth_N1 true u.toInt A]
  simp [S144_0, S144_1, S144_2, BS, ixs, inbs, hM, j0, jx, k76, n0]
  have v2 : ((∀ e i, e < 3 → i < 3 → L2 95 (3 * e + i) = wL (sg true * eC true 2 u.toInt A i e)) ∧ ∀ e, e < 3 → L2 97 e = wL (sg true * eS true 2 u.toInt e)) := by rw [f2 95 (by omega), f2 97 (by omega)]; exact v1
  refine m_worth3_m hM' (G := fun e i => sg true * eC true 2 u.toInt A i e) v2.1 v2.2 (fun L3 f3 => ?_)
  rw [show dt3 (fun i => sg true * eC true 2 u.toInt A i 0) (fun i => sg true * eC true 2 u.toInt A i 1) (fun i => sg true * eC true 2 u.toInt A i 2) = sg true * eD true 2 u.toInt A from worth_D true u.toInt A]
  have v3 : ((∀ e i, e < 3 → i < 3 → L3 95 (3 * e + i) = wL (sg true * eC true 2 u.toInt A i e)) ∧ ∀ e, e < 3 → L3 97 e = wL (sg true * eS true 2 u.toInt e)) := by rw [f3 95 (by omega), f3 97 (by omega)]; exact v2
  have gg := go (u2 (u2 L3 74 28 (wL (fn (eN true 2 u.toInt A 1) (eD true 2 u.toInt A)))) 74 29 (wL (fd (eN true 2 u.toInt A 1) (eD true 2 u.toInt A)))) (fun c h0 h1 h2 h3 => by rw [u2_ne _ _ _ h0, u2_ne _ _ _ h0, f3 c h2, f2 c h2, f1 c h1 h2 h3]) (by rw [u2_ne _ _ _ (by omega : (95 : Nat) ≠ 74), u2_ne _ _ _ (by omega : (97 : Nat) ≠ 74), u2_ne _ _ _ (by omega : (95 : Nat) ≠ 74), u2_ne _ _ _ (by omega : (97 : Nat) ≠ 74)]; exact v3)
  simp [S144_0, S144_1, S144_2, BS, ixs, inbs, hM]
  refine (m_low (sm _ bN) (sm _ bD) sD c74 _ _ _ _ _).mpr ?_
  rw [fs.1, fs.2]
  simp [S144_0, S144_1, S144_2, S107_0, Call_in (k2 := 107), BS, ixs, inbs, hM, u2_rd]
  exact gg
set_option maxRecDepth 100000 in
set_option maxHeartbeats 8000000 in
theorem m_en_2f_10_0 {n sl : Nat} {C Z : Nat → Nat} {I : Nat → Nat → Int32} {L : Nat → Nat → Int64} {R : Nat → Nat → Nat} {j : Nat} {u : Int32} {A B K : Nat → Int} {d : Int} {M : Nat} (hr : RM C Z I R j 2 u A B K d) (kd : I 75 j = 1) (hM12 : M ≤ 12) (hj : j < M) (e2 : I 74 0 = nI M) (hu : u.toInt = 1 ∨ u.toInt = 2 ∨ u.toInt = 4) (hA : ∀ i, i < 9 → bn 12 (A i)) (d0 : ¬ eD true 2 u.toInt A = 0) {Q : Option Value → Hp → Prop} (go : ∀ L', (∀ c, c ≠ 74 → c ≠ 95 → c ≠ 96 → c ≠ 97 → L' c = L c) → ((∀ e i, e < 3 → i < 3 → L' 95 (3 * e + i) = wL (sg true * eC true 2 u.toInt A i e)) ∧ ∀ e, e < 3 → L' 97 e = wL (sg true * eS true 2 u.toInt e)) → Q (some (.long (wL (fn (eN true 2 u.toInt A 1) (eD true 2 u.toInt A))))) (n, sl, C, Z, I, L', R)) : Wp 144 0 [some (.ref 74), some (.int (nI j)), some (.int 1), some (.int 0), some (.int 0)] [] (n, sl, C, Z, I, L, R) Q := by
  obtain ⟨hM, hj12, hs3, k76, k77, mA, mB, mK, mD, zA, zB⟩ := id hr
  unfold LayM at hM
  have j0 : inb (nI j) 12 = true := by rw [inb_nI (by omega)]; simp; omega
  have jx := ix_nI (show j < 2 ^ 31 by omega)
  have hM' := hr.1
  have c74 : C 74 = 11 := by simp [hM]
  have n0 : nI 2 = 2 := rfl
  have bD := bn_eD (fl := true) (s := 2) hu hA
  have bN := bn_eN (fl := true) (s := 2) hu hA 1
  have sm : ∀ x, bn 200000000 x → bn 9223372036854775807 (sg true * x) := fun x hx => by unfold bn at *; rcases sg_mul true x with h | h <;> rw [h] <;> omega
  have sD : ¬ sg true * eD true 2 u.toInt A = 0 := by rcases sg_mul true (eD true 2 u.toInt A) with h | h <;> rw [h] <;> omega
  have fs := fn_sg (fl := true) (a := eN true 2 u.toInt A 1) d0
  simp [S144_0, S144_1, S144_2, is_yesG hM' hM12 hj, BS, ixs, inbs, hM, e2, j0, jx, k76, n0]
  refine m_has_2f hr kd hu hA (fun L1 f1 v1 => ?_)
  rw [if_neg d0]
  simp [S144_0, S144_1, S144_2, BS, ixs, inbs, hM, j0, jx, k76, n0]
  refine m_worth3_1 hM' (G := fun e i => sg true * eC true 2 u.toInt A i e) (v := fun e => sg true * eS true 2 u.toInt e) v1.1 v1.2 (fun L2 f2 => ?_)
  rw [worth_N1 true u.toInt A]
  simp [S144_0, S144_1, S144_2, BS, ixs, inbs, hM, j0, jx, k76, n0]
  have v2 : ((∀ e i, e < 3 → i < 3 → L2 95 (3 * e + i) = wL (sg true * eC true 2 u.toInt A i e)) ∧ ∀ e, e < 3 → L2 97 e = wL (sg true * eS true 2 u.toInt e)) := by rw [f2 95 (by omega), f2 97 (by omega)]; exact v1
  refine m_worth3_m hM' (G := fun e i => sg true * eC true 2 u.toInt A i e) v2.1 v2.2 (fun L3 f3 => ?_)
  rw [show dt3 (fun i => sg true * eC true 2 u.toInt A i 0) (fun i => sg true * eC true 2 u.toInt A i 1) (fun i => sg true * eC true 2 u.toInt A i 2) = sg true * eD true 2 u.toInt A from worth_D true u.toInt A]
  have v3 : ((∀ e i, e < 3 → i < 3 → L3 95 (3 * e + i) = wL (sg true * eC true 2 u.toInt A i e)) ∧ ∀ e, e < 3 → L3 97 e = wL (sg true * eS true 2 u.toInt e)) := by rw [f3 95 (by omega), f3 97 (by omega)]; exact v2
  have gg := go (u2 (u2 L3 74 28 (wL (fn (eN true 2 u.toInt A 1) (eD true 2 u.toInt A)))) 74 29 (wL (fd (eN true 2 u.toInt A 1) (eD true 2 u.toInt A)))) (fun c h0 h1 h2 h3 => by rw [u2_ne _ _ _ h0, u2_ne _ _ _ h0, f3 c h2, f2 c h2, f1 c h1 h2 h3]) (by rw [u2_ne _ _ _ (by omega : (95 : Nat) ≠ 74), u2_ne _ _ _ (by omega : (97 : Nat) ≠ 74), u2_ne _ _ _ (by omega : (95 : Nat) ≠ 74), u2_ne _ _ _ (by omega : (97 : Nat) ≠ 74)]; exact v3)
  simp [S144_0, S144_1, S144_2, BS, ixs, inbs, hM]
  refine (m_low (sm _ bN) (sm _ bD) sD c74 _ _ _ _ _).mpr ?_
  rw [fs.1, fs.2]
  simp [S144_0, S144_1, S144_2, S107_0, Call_in (k2 := 107), BS, ixs, inbs, hM, u2_rd]
  exact gg
set_option maxRecDepth 100000 in
set_option maxHeartbeats 8000000 in
theorem m_en_2f_10_1 {n sl : Nat} {C Z : Nat → Nat} {I : Nat → Nat → Int32} {L : Nat → Nat → Int64} {R : Nat → Nat → Nat} {j : Nat} {u : Int32} {A B K : Nat → Int} {d : Int} {M : Nat} (hr : RM C Z I R j 2 u A B K d) (kd : I 75 j = 1) (hM12 : M ≤ 12) (hj : j < M) (e2 : I 74 0 = nI M) (hu : u.toInt = 1 ∨ u.toInt = 2 ∨ u.toInt = 4) (hA : ∀ i, i < 9 → bn 12 (A i)) (d0 : ¬ eD true 2 u.toInt A = 0) {Q : Option Value → Hp → Prop} (go : ∀ L', (∀ c, c ≠ 74 → c ≠ 95 → c ≠ 96 → c ≠ 97 → L' c = L c) → ((∀ e i, e < 3 → i < 3 → L' 95 (3 * e + i) = wL (sg true * eC true 2 u.toInt A i e)) ∧ ∀ e, e < 3 → L' 97 e = wL (sg true * eS true 2 u.toInt e)) → Q (some (.long (wL (fd (eN true 2 u.toInt A 1) (eD true 2 u.toInt A))))) (n, sl, C, Z, I, L', R)) : Wp 144 0 [some (.ref 74), some (.int (nI j)), some (.int 1), some (.int 0), some (.int 1)] [] (n, sl, C, Z, I, L, R) Q := by
  obtain ⟨hM, hj12, hs3, k76, k77, mA, mB, mK, mD, zA, zB⟩ := id hr
  unfold LayM at hM
  have j0 : inb (nI j) 12 = true := by rw [inb_nI (by omega)]; simp; omega
  have jx := ix_nI (show j < 2 ^ 31 by omega)
  have hM' := hr.1
  have c74 : C 74 = 11 := by simp [hM]
  have n0 : nI 2 = 2 := rfl
  have bD := bn_eD (fl := true) (s := 2) hu hA
  have bN := bn_eN (fl := true) (s := 2) hu hA 1
  have sm : ∀ x, bn 200000000 x → bn 9223372036854775807 (sg true * x) := fun x hx => by unfold bn at *; rcases sg_mul true x with h | h <;> rw [h] <;> omega
  have sD : ¬ sg true * eD true 2 u.toInt A = 0 := by rcases sg_mul true (eD true 2 u.toInt A) with h | h <;> rw [h] <;> omega
  have fs := fn_sg (fl := true) (a := eN true 2 u.toInt A 1) d0
  simp [S144_0, S144_1, S144_2, is_yesG hM' hM12 hj, BS, ixs, inbs, hM, e2, j0, jx, k76, n0]
  refine m_has_2f hr kd hu hA (fun L1 f1 v1 => ?_)
  rw [if_neg d0]
  simp [S144_0, S144_1, S144_2, BS, ixs, inbs, hM, j0, jx, k76, n0]
  refine m_worth3_1 hM' (G := fun e i => sg true * eC true 2 u.toInt A i e) (v := fun e => sg true * eS true 2 u.toInt e) v1.1 v1.2 (fun L2 f2 => ?_)
  rw [worth_N1 true u.toInt A]
  simp [S144_0, S144_1, S144_2, BS, ixs, inbs, hM, j0, jx, k76, n0]
  have v2 : ((∀ e i, e < 3 → i < 3 → L2 95 (3 * e + i) = wL (sg true * eC true 2 u.toInt A i e)) ∧ ∀ e, e < 3 → L2 97 e = wL (sg true * eS true 2 u.toInt e)) := by rw [f2 95 (by omega), f2 97 (by omega)]; exact v1
  refine m_worth3_m hM' (G := fun e i => sg true * eC true 2 u.toInt A i e) v2.1 v2.2 (fun L3 f3 => ?_)
  rw [show dt3 (fun i => sg true * eC true 2 u.toInt A i 0) (fun i => sg true * eC true 2 u.toInt A i 1) (fun i => sg true * eC true 2 u.toInt A i 2) = sg true * eD true 2 u.toInt A from worth_D true u.toInt A]
  have v3 : ((∀ e i, e < 3 → i < 3 → L3 95 (3 * e + i) = wL (sg true * eC true 2 u.toInt A i e)) ∧ ∀ e, e < 3 → L3 97 e = wL (sg true * eS true 2 u.toInt e)) := by rw [f3 95 (by omega), f3 97 (by omega)]; exact v2
  have gg := go (u2 (u2 L3 74 28 (wL (fn (eN true 2 u.toInt A 1) (eD true 2 u.toInt A)))) 74 29 (wL (fd (eN true 2 u.toInt A 1) (eD true 2 u.toInt A)))) (fun c h0 h1 h2 h3 => by rw [u2_ne _ _ _ h0, u2_ne _ _ _ h0, f3 c h2, f2 c h2, f1 c h1 h2 h3]) (by rw [u2_ne _ _ _ (by omega : (95 : Nat) ≠ 74), u2_ne _ _ _ (by omega : (97 : Nat) ≠ 74), u2_ne _ _ _ (by omega : (95 : Nat) ≠ 74), u2_ne _ _ _ (by omega : (97 : Nat) ≠ 74)]; exact v3)
  simp [S144_0, S144_1, S144_2, BS, ixs, inbs, hM]
  refine (m_low (sm _ bN) (sm _ bD) sD c74 _ _ _ _ _).mpr ?_
  rw [fs.1, fs.2]
  simp [S144_0, S144_1, S144_2, S107_0, Call_in (k2 := 107), BS, ixs, inbs, hM, u2_rd]
  exact gg
set_option maxRecDepth 100000 in
set_option maxHeartbeats 8000000 in
theorem m_en_2f_11_0 {n sl : Nat} {C Z : Nat → Nat} {I : Nat → Nat → Int32} {L : Nat → Nat → Int64} {R : Nat → Nat → Nat} {j : Nat} {u : Int32} {A B K : Nat → Int} {d : Int} {M : Nat} (hr : RM C Z I R j 2 u A B K d) (kd : I 75 j = 1) (hM12 : M ≤ 12) (hj : j < M) (e2 : I 74 0 = nI M) (hu : u.toInt = 1 ∨ u.toInt = 2 ∨ u.toInt = 4) (hA : ∀ i, i < 9 → bn 12 (A i)) (d0 : ¬ eD true 2 u.toInt A = 0) {Q : Option Value → Hp → Prop} (go : ∀ L', (∀ c, c ≠ 74 → c ≠ 95 → c ≠ 96 → c ≠ 97 → L' c = L c) → ((∀ e i, e < 3 → i < 3 → L' 95 (3 * e + i) = wL (sg true * eC true 2 u.toInt A i e)) ∧ ∀ e, e < 3 → L' 97 e = wL (sg true * eS true 2 u.toInt e)) → Q (some (.long (wL (fn (eN true 2 u.toInt A 2) (eD true 2 u.toInt A))))) (n, sl, C, Z, I, L', R)) : Wp 144 0 [some (.ref 74), some (.int (nI j)), some (.int 1), some (.int 1), some (.int 0)] [] (n, sl, C, Z, I, L, R) Q := by
  obtain ⟨hM, hj12, hs3, k76, k77, mA, mB, mK, mD, zA, zB⟩ := id hr
  unfold LayM at hM
  have j0 : inb (nI j) 12 = true := by rw [inb_nI (by omega)]; simp; omega
  have jx := ix_nI (show j < 2 ^ 31 by omega)
  have hM' := hr.1
  have c74 : C 74 = 11 := by simp [hM]
  have n0 : nI 2 = 2 := rfl
  have bD := bn_eD (fl := true) (s := 2) hu hA
  have bN := bn_eN (fl := true) (s := 2) hu hA 2
  have sm : ∀ x, bn 200000000 x → bn 9223372036854775807 (sg true * x) := fun x hx => by unfold bn at *; rcases sg_mul true x with h | h <;> rw [h] <;> omega
  have sD : ¬ sg true * eD true 2 u.toInt A = 0 := by rcases sg_mul true (eD true 2 u.toInt A) with h | h <;> rw [h] <;> omega
  have fs := fn_sg (fl := true) (a := eN true 2 u.toInt A 2) d0
  simp [S144_0, S144_1, S144_2, is_yesG hM' hM12 hj, BS, ixs, inbs, hM, e2, j0, jx, k76, n0]
  refine m_has_2f hr kd hu hA (fun L1 f1 v1 => ?_)
  rw [if_neg d0]
  simp [S144_0, S144_1, S144_2, BS, ixs, inbs, hM, j0, jx, k76, n0]
  refine m_worth3_2 hM' (G := fun e i => sg true * eC true 2 u.toInt A i e) (v := fun e => sg true * eS true 2 u.toInt e) v1.1 v1.2 (fun L2 f2 => ?_)
  rw [worth_N2 true u.toInt A]
  simp [S144_0, S144_1, S144_2, BS, ixs, inbs, hM, j0, jx, k76, n0]
  have v2 : ((∀ e i, e < 3 → i < 3 → L2 95 (3 * e + i) = wL (sg true * eC true 2 u.toInt A i e)) ∧ ∀ e, e < 3 → L2 97 e = wL (sg true * eS true 2 u.toInt e)) := by rw [f2 95 (by omega), f2 97 (by omega)]; exact v1
  refine m_worth3_m hM' (G := fun e i => sg true * eC true 2 u.toInt A i e) v2.1 v2.2 (fun L3 f3 => ?_)
  rw [show dt3 (fun i => sg true * eC true 2 u.toInt A i 0) (fun i => sg true * eC true 2 u.toInt A i 1) (fun i => sg true * eC true 2 u.toInt A i 2) = sg true * eD true 2 u.toInt A from worth_D true u.toInt A]
  have v3 : ((∀ e i, e < 3 → i < 3 → L3 95 (3 * e + i) = wL (sg true * eC true 2 u.toInt A i e)) ∧ ∀ e, e < 3 → L3 97 e = wL (sg true * eS true 2 u.toInt e)) := by rw [f3 95 (by omega), f3 97 (by omega)]; exact v2
  have gg := go (u2 (u2 L3 74 28 (wL (fn (eN true 2 u.toInt A 2) (eD true 2 u.toInt A)))) 74 29 (wL (fd (eN true 2 u.toInt A 2) (eD true 2 u.toInt A)))) (fun c h0 h1 h2 h3 => by rw [u2_ne _ _ _ h0, u2_ne _ _ _ h0, f3 c h2, f2 c h2, f1 c h1 h2 h3]) (by rw [u2_ne _ _ _ (by omega : (95 : Nat) ≠ 74), u2_ne _ _ _ (by omega : (97 : Nat) ≠ 74), u2_ne _ _ _ (by omega : (95 : Nat) ≠ 74), u2_ne _ _ _ (by omega : (97 : Nat) ≠ 74)]; exact v3)
  simp [S144_0, S144_1, S144_2, BS, ixs, inbs, hM]
  refine (m_low (sm _ bN) (sm _ bD) sD c74 _ _ _ _ _).mpr ?_
  rw [fs.1, fs.2]
  simp [S144_0, S144_1, S144_2, S107_0, Call_in (k2 := 107), BS, ixs, inbs, hM, u2_rd]
  exact gg
set_option maxRecDepth 100000 in
set_option maxHeartbeats 8000000 in
theorem m_en_2f_11_1 {n sl : Nat} {C Z : Nat → Nat} {I : Nat → Nat → Int32} {L : Nat → Nat → Int64} {R : Nat → Nat → Nat} {j : Nat} {u : Int32} {A B K : Nat → Int} {d : Int} {M : Nat} (hr : RM C Z I R j 2 u A B K d) (kd : I 75 j = 1) (hM12 : M ≤ 12) (hj : j < M) (e2 : I 74 0 = nI M) (hu : u.toInt = 1 ∨ u.toInt = 2 ∨ u.toInt = 4) (hA : ∀ i, i < 9 → bn 12 (A i)) (d0 : ¬ eD true 2 u.toInt A = 0) {Q : Option Value → Hp → Prop} (go : ∀ L', (∀ c, c ≠ 74 → c ≠ 95 → c ≠ 96 → c ≠ 97 → L' c = L c) → ((∀ e i, e < 3 → i < 3 → L' 95 (3 * e + i) = wL (sg true * eC true 2 u.toInt A i e)) ∧ ∀ e, e < 3 → L' 97 e = wL (sg true * eS true 2 u.toInt e)) → Q (some (.long (wL (fd (eN true 2 u.toInt A 2) (eD true 2 u.toInt A))))) (n, sl, C, Z, I, L', R)) : Wp 144 0 [some (.ref 74), some (.int (nI j)), some (.int 1), some (.int 1), some (.int 1)] [] (n, sl, C, Z, I, L, R) Q := by
  obtain ⟨hM, hj12, hs3, k76, k77, mA, mB, mK, mD, zA, zB⟩ := id hr
  unfold LayM at hM
  have j0 : inb (nI j) 12 = true := by rw [inb_nI (by omega)]; simp; omega
  have jx := ix_nI (show j < 2 ^ 31 by omega)
  have hM' := hr.1
  have c74 : C 74 = 11 := by simp [hM]
  have n0 : nI 2 = 2 := rfl
  have bD := bn_eD (fl := true) (s := 2) hu hA
  have bN := bn_eN (fl := true) (s := 2) hu hA 2
  have sm : ∀ x, bn 200000000 x → bn 9223372036854775807 (sg true * x) := fun x hx => by unfold bn at *; rcases sg_mul true x with h | h <;> rw [h] <;> omega
  have sD : ¬ sg true * eD true 2 u.toInt A = 0 := by rcases sg_mul true (eD true 2 u.toInt A) with h | h <;> rw [h] <;> omega
  have fs := fn_sg (fl := true) (a := eN true 2 u.toInt A 2) d0
  simp [S144_0, S144_1, S144_2, is_yesG hM' hM12 hj, BS, ixs, inbs, hM, e2, j0, jx, k76, n0]
  refine m_has_2f hr kd hu hA (fun L1 f1 v1 => ?_)
  rw [if_neg d0]
  simp [S144_0, S144_1, S144_2, BS, ixs, inbs, hM, j0, jx, k76, n0]
  refine m_worth3_2 hM' (G := fun e i => sg true * eC true 2 u.toInt A i e) (v := fun e => sg true * eS true 2 u.toInt e) v1.1 v1.2 (fun L2 f2 => ?_)
  rw [worth_N2 true u.toInt A]
  simp [S144_0, S144_1, S144_2, BS, ixs, inbs, hM, j0, jx, k76, n0]
  have v2 : ((∀ e i, e < 3 → i < 3 → L2 95 (3 * e + i) = wL (sg true * eC true 2 u.toInt A i e)) ∧ ∀ e, e < 3 → L2 97 e = wL (sg true * eS true 2 u.toInt e)) := by rw [f2 95 (by omega), f2 97 (by omega)]; exact v1
  refine m_worth3_m hM' (G := fun e i => sg true * eC true 2 u.toInt A i e) v2.1 v2.2 (fun L3 f3 => ?_)
  rw [show dt3 (fun i => sg true * eC true 2 u.toInt A i 0) (fun i => sg true * eC true 2 u.toInt A i 1) (fun i => sg true * eC true 2 u.toInt A i 2) = sg true * eD true 2 u.toInt A from worth_D true u.toInt A]
  have v3 : ((∀ e i, e < 3 → i < 3 → L3 95 (3 * e + i) = wL (sg true * eC true 2 u.toInt A i e)) ∧ ∀ e, e < 3 → L3 97 e = wL (sg true * eS true 2 u.toInt e)) := by rw [f3 95 (by omega), f3 97 (by omega)]; exact v2
  have gg := go (u2 (u2 L3 74 28 (wL (fn (eN true 2 u.toInt A 2) (eD true 2 u.toInt A)))) 74 29 (wL (fd (eN true 2 u.toInt A 2) (eD true 2 u.toInt A)))) (fun c h0 h1 h2 h3 => by rw [u2_ne _ _ _ h0, u2_ne _ _ _ h0, f3 c h2, f2 c h2, f1 c h1 h2 h3]) (by rw [u2_ne _ _ _ (by omega : (95 : Nat) ≠ 74), u2_ne _ _ _ (by omega : (97 : Nat) ≠ 74), u2_ne _ _ _ (by omega : (95 : Nat) ≠ 74), u2_ne _ _ _ (by omega : (97 : Nat) ≠ 74)]; exact v3)
  simp [S144_0, S144_1, S144_2, BS, ixs, inbs, hM]
  refine (m_low (sm _ bN) (sm _ bD) sD c74 _ _ _ _ _).mpr ?_
  rw [fs.1, fs.2]
  simp [S144_0, S144_1, S144_2, S107_0, Call_in (k2 := 107), BS, ixs, inbs, hM, u2_rd]
  exact gg
