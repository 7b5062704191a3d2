/-! check -/
def abv (s : Nat) (N : Nat → Int) (D : Int) : Prop := s = 0 ∨ (((0 < N 0 ∧ 0 < D) ∨ (N 0 < 0 ∧ D < 0)) ∧ (s = 1 ∨ N 1 * N 1 < N 0 * N 2))
theorem first_diff (P : Nat → Prop) : ∀ b, ∃ f, f ≤ b ∧ (∀ p, p < f → P p) ∧ (f = b ∨ ¬ P f) := by
  intro b
  induction b with
  | zero => exact ⟨0, Nat.le_refl _, fun p h => absurd h (by omega), Or.inl rfl⟩
  | succ b ih =>
    obtain ⟨f, h1, h2, h3⟩ := ih
    by_cases c : f = b
    · by_cases q : P f
      · exact ⟨f + 1, by omega, fun p hp => by
          by_cases e : p = f
          · rw [e]; exact q
          · exact h2 p (by omega), Or.inl (by omega)⟩
      · exact ⟨f, by omega, h2, Or.inr q⟩
    · exact ⟨f, by omega, h2, Or.inr (h3.resolve_left c)⟩
theorem fn_pos {a b : Int} (hb : ¬ b = 0) : 0 < fn a b ↔ (0 < a ∧ 0 < b) ∨ (a < 0 ∧ b < 0) := by
  unfold fn
  have hg : (0 : Int) < (Int.gcd a b : Int) := by
    have := Int.gcd_pos_of_ne_zero_right a hb
    omega
  obtain ⟨k, hk⟩ := Int.gcd_dvd_left a b
  obtain ⟨g, hgd⟩ : ∃ g : Int, g = (Int.gcd a b : Int) := ⟨_, rfl⟩
  rw [← hgd] at hk hg ⊢
  have e : a / g = k := by rw [hk]; exact Int.mul_ediv_cancel_left k (by omega)
  rw [e]
  have s1 : 0 < a ↔ 0 < k := by
    rw [hk]
    constructor
    · intro h
      by_cases q : 0 < k
      · exact q
      · have := Int.mul_nonneg (Int.le_of_lt hg) (show 0 ≤ -k by omega)
        rw [Int.mul_neg] at this
        omega
    · intro h
      exact Int.mul_pos hg h
  have s2 : a < 0 ↔ k < 0 := by
    rw [hk]
    constructor
    · intro h
      by_cases q : k < 0
      · exact q
      · have := Int.mul_nonneg (Int.le_of_lt hg) (show 0 ≤ k by omega)
        omega
    · intro h
      exact Int.mul_neg_of_pos_of_neg hg h
  by_cases c : b < 0
  · rw [if_pos c, s1, s2]; omega
  · rw [if_neg c, s1, s2]; omega
theorem bn_fn {a b : Int} {X : Nat} (ha : bn X a) : bn X (fn a b) := by
  have h : bn X (a / (Int.gcd a b : Int)) := by
    unfold bn at *
    have := Int.natAbs_ediv_le_natAbs a (Int.gcd a b : Int)
    omega
  unfold fn
  split
  · exact bn_neg h
  · exact h
set_option maxRecDepth 100000 in
set_option maxHeartbeats 8000000 in
theorem ck_c {n sl : Nat} {C Z : Nat → Nat} {I : Nat → Nat → Int32} {L : Nat → Nat → Int64} {R : Nat → Nat → Nat} {Q : Option Value → Hp → Prop} {f b q : Nat} {x dc : Int32} (hB : LayB C Z R) (hfb : f ≤ b) (hb : b ≤ 11) (hP : ∀ p, p < f → L 3 p = L 4 p) (go : Br 78 90 63 [some (.ref 1), some (.int x), some (.ref q), some (.int dc), some (.int (nI b)), some (.int (nI f))] [] (n, sl, C, Z, I, L, R) Q (nI b ≤ nI f)) : ∀ d i, i + d = f → Br 78 90 63 [some (.ref 1), some (.int x), some (.ref q), some (.int dc), some (.int (nI b)), some (.int (nI i))] [] (n, sl, C, Z, I, L, R) Q (nI b ≤ nI i) := by
  unfold LayB at hB
  intro d
  induction d with
  | zero => intro i hi; have : i = f := by omega
            rw [this]; exact go
  | succ d ih =>
    intro i hi
    have c1 : ¬ nI b ≤ nI i := nI_ge (by omega) (by omega)
    have h1 : inb (nI i) 11 = true := by rw [inb_nI (by omega)]; simp; omega
    have h2 := ix_nI (show i < 2 ^ 31 by omega)
    have := ih (i + 1) (by omega)
    simp [S78_0, S78_1, S78_2, BS, c1, hB, h1, h2, hP i (by omega), lg_eq, nIk]
    exact this
set_option maxRecDepth 100000 in
set_option maxHeartbeats 8000000 in
theorem ck_m {n sl : Nat} {C Z : Nat → Nat} {I : Nat → Nat → Int32} {L : Nat → Nat → Int64} {R : Nat → Nat → Nat} {Q : Option Value → Hp → Prop} {f rn cnt j : Nat} (hM : LayM C Z R) (hr : I 74 13 = nI rn) (hc : I 74 14 = nI cnt) (hrn : rn ≤ 11) (hcn : cnt ≤ 11) (hf1 : f ≤ rn) (hf2 : f ≤ cnt) (hP : ∀ p, p < f → L 85 p = L 86 p) (go : Br 149 44 36 [some (.ref 74), some (.int (nI j)), some (.int (nI f)), none, none, none, none, none, none, none] [] (n, sl, C, Z, I, L, R) Q (nI f < nI rn)) : ∀ d i, i + d = f → Br 149 44 36 [some (.ref 74), some (.int (nI j)), some (.int (nI i)), none, none, none, none, none, none, none] [] (n, sl, C, Z, I, L, R) Q (nI i < nI rn) := by
  unfold LayM at hM
  intro d
  induction d with
  | zero => intro i hi; have : i = f := by omega
            rw [this]; exact go
  | succ d ih =>
    intro i hi
    have c1 : nI i < nI rn := nI_lt (by omega) (by omega)
    have c2 : ¬ nI rn ≤ nI i := nI_ge (by omega) (by omega)
    have c3 : ¬ nI cnt ≤ nI i := nI_ge (by omega) (by omega)
    have h1 : inb (nI i) 12 = true := by rw [inb_nI (by omega)]; simp; omega
    have h2 := ix_nI (show i < 2 ^ 31 by omega)
    have := ih (i + 1) (by omega)
    simp [S149_0, S149_1, S149_2, S149_3, S149_4, BS, c1, c2, c3, hM, hr, hc, h1, h2, hP i (by omega), lg_eq, nIk]
    exact this
set_option maxRecDepth 100000 in
set_option maxHeartbeats 8000000 in
theorem c_abv {n sl : Nat} {C Z : Nat → Nat} {I : Nat → Nat → Int32} {L : Nat → Nat → Int64} {R : Nat → Nat → Nat} {s : Nat} {N : Nat → Int} {D : Int} (hE : LayE C Z R) (hs : s ≤ 2) (h4 : I 66 4 = nI s) (hN : ∀ i, i < 3 → L 72 i = wL (N i)) (hD : L 66 3 = wL D) (bN : ∀ i, bn 200000000 (N i)) (bD : bn 200000000 D) (d0 : ¬ D = 0) {k pc : Nat} {ls : Lo} {st : List Value} {Q : Option Value → Hp → Prop} (good : abv s N D → Wp k pc ls (.int 1 :: st) (n, sl, C, Z, I, L, R) Q) (bad : ¬ abv s N D → Wp k pc ls (.int 0 :: st) (n, sl, C, Z, I, L, R) Q) : Call 8 [some (.ref 66)] (n, sl, C, Z, I, L, R) k pc ls st Q := by
  unfold LayE at hE
  have hN0 := hN 0 (by omega)
  have hN1 := hN 1 (by omega)
  have hN2 := hN 2 (by omega)
  have b0 := bN 0
  have b1 := bN 1
  have b02 := bn_mul (bN 0) (bN 2)
  have b11 := bn_mul (bN 1) (bN 1)
  unfold bn at b0 b1 b02 b11 bD
  have z0 : wL (N 0) = 0 ↔ N 0 = 0 := wL_eq0 (by omega) (by omega)
  have p0 : (0 : Int64) < wL (N 0) ↔ 0 < N 0 := by rw [← wL_0]; exact wL_lt (by omega) (by omega) (by omega) (by omega)
  have pD : (0 : Int64) < wL D ↔ 0 < D := by rw [← wL_0]; exact wL_lt (by omega) (by omega) (by omega) (by omega)
  have pp : wL (N 1 * N 1) < wL (N 0 * N 2) ↔ N 1 * N 1 < N 0 * N 2 := wL_lt (by omega) (by omega) (by omega) (by omega)
  have t0 : nI 0 = 0 := rfl
  have t1 : nI 1 = 1 := rfl
  have t2 : nI 2 = 2 := rfl
  unfold abv at good bad
  rcases (by omega : s = 0 ∨ s = 1 ∨ s = 2) with rfl | rfl | rfl
  · simp [S8_0, S8_1, S8_2, Call_in (k2 := 8), BS, ixs, inbs, hE, h4, t0]
    exact good (Or.inl rfl)
  · by_cases n0 : N 0 = 0
    · have q0 := z0.mpr n0
      simp [S8_0, S8_1, S8_2, Call_in (k2 := 8), BS, ixs, inbs, hE, h4, t1, hN0, hD, lg_eq, q0]
      exact bad (by omega)
    · have q0 : ¬ wL (N 0) = 0 := fun h => n0 (z0.mp h)
      by_cases n1 : 0 < N 0 <;> by_cases n2 : 0 < D
      all_goals
        have q1 := p0
        have q2 := pD
        simp only [n1, n2, iff_true, iff_false] at q1 q2
        simp [S8_0, S8_1, S8_2, Call_in (k2 := 8), BS, ixs, inbs, hE, h4, t1, hN0, hD, lg_eq, lg_le, q0, q1, q2]
        first
          | exact good (by omega)
          | exact bad (by omega)
  · by_cases n0 : N 0 = 0
    · have q0 := z0.mpr n0
      simp [S8_0, S8_1, S8_2, Call_in (k2 := 8), BS, ixs, inbs, hE, h4, t2, hN0, hD, lg_eq, q0]
      exact bad (by omega)
    · have q0 : ¬ wL (N 0) = 0 := fun h => n0 (z0.mp h)
      by_cases n3 : N 1 * N 1 < N 0 * N 2 <;> by_cases n1 : 0 < N 0 <;> by_cases n2 : 0 < D
      all_goals
        have q1 := p0
        have q2 := pD
        have q3 := pp
        simp only [n1, n2, n3, iff_true, iff_false] at q1 q2 q3
        simp [S8_0, S8_1, S8_2, Call_in (k2 := 8), BS, ixs, inbs, hE, h4, t2, hN0, hN1, hN2, hD, lg_eq, lg_le, wL_mul, q0, q1, q2, q3]
        first
          | exact good (by omega)
          | exact bad (by omega)
set_option maxRecDepth 100000 in
set_option maxHeartbeats 8000000 in
theorem m_ckt_0t {n sl : Nat} {C Z : Nat → Nat} {I : Nat → Nat → Int32} {L : Nat → Nat → Int64} {R : Nat → Nat → Nat} {j : Nat} {u : Int32} {A B K : Nat → Int} {d : Int} {M f : Nat} (hr : RM C Z I R j 0 u A B K d) (kd : ¬ I 75 j = 1) (hM12 : M ≤ 12) (hj : j < M) (e2 : I 74 0 = nI M) (hu : u.toInt = 1 ∨ u.toInt = 2 ∨ u.toInt = 4) (hA : ∀ i, i < 9 → bn 12 (A i)) (d0 : ¬ (eD false 0 u.toInt A) = 0) {Q : Option Value → Hp → Prop} (good : abv 0 (eN false 0 u.toInt A) (eD false 0 u.toInt A) → ∀ L', (∀ c, c ≠ 74 → c ≠ 95 → c ≠ 96 → c ≠ 97 → L' c = L c) → Q (some (.int (-1))) (n, sl, C, Z, I, L', R)) (bad : ¬ abv 0 (eN false 0 u.toInt A) (eD false 0 u.toInt A) → ∀ L', (∀ c, c ≠ 74 → c ≠ 95 → c ≠ 96 → c ≠ 97 → L' c = L c) → Q (some (.int (-3))) (n, sl, C, Z, I, L', R)) : Wp 149 84 [some (.ref 74), some (.int (nI j)), some (.int (nI f)), none, none, none, none, none, none, none] [] (n, sl, C, Z, I, L, R) Q := by
  obtain ⟨hM, hj12, hs3, k76, k77, mA, mB, mK, mD, zA, zB⟩ := id hr
  unfold LayM at hM
  have j0 : inb (nI j) 12 = true := by rw [inb_nI (by omega)]; simp; omega
  have jx := ix_nI (show j < 2 ^ 31 by omega)
  have hM' := hr.1
  have n0 : nI 0 = 0 := rfl
  have g := good (Or.inl rfl) L (fun _ _ _ _ _ => rfl)
  simp [S149_0, S149_1, S149_2, S149_3, S149_4, BS, ixs, inbs, hM, j0, jx, k76, n0, g]
set_option maxRecDepth 100000 in
set_option maxHeartbeats 8000000 in
theorem m_ckt_1t {n sl : Nat} {C Z : Nat → Nat} {I : Nat → Nat → Int32} {L : Nat → Nat → Int64} {R : Nat → Nat → Nat} {j : Nat} {u : Int32} {A B K : Nat → Int} {d : Int} {M f : Nat} (hr : RM C Z I R j 1 u A B K d) (kd : ¬ I 75 j = 1) (hM12 : M ≤ 12) (hj : j < M) (e2 : I 74 0 = nI M) (hu : u.toInt = 1 ∨ u.toInt = 2 ∨ u.toInt = 4) (hA : ∀ i, i < 9 → bn 12 (A i)) (d0 : ¬ (eD false 1 u.toInt A) = 0) {Q : Option Value → Hp → Prop} (good : abv 1 (eN false 1 u.toInt A) (eD false 1 u.toInt A) → ∀ L', (∀ c, c ≠ 74 → c ≠ 95 → c ≠ 96 → c ≠ 97 → L' c = L c) → Q (some (.int (-1))) (n, sl, C, Z, I, L', R)) (bad : ¬ abv 1 (eN false 1 u.toInt A) (eD false 1 u.toInt A) → ∀ L', (∀ c, c ≠ 74 → c ≠ 95 → c ≠ 96 → c ≠ 97 → L' c = L c) → Q (some (.int (-3))) (n, sl, C, Z, I, L', R)) : Wp 149 84 [some (.ref 74), some (.int (nI j)), some (.int (nI f)), none, none, none, none, none, none, none] [] (n, sl, C, Z, I, L, R) Q := by
  obtain ⟨hM, hj12, hs3, k76, k77, mA, mB, mK, mD, zA, zB⟩ := id hr
  unfold LayM at hM
  have j0 : inb (nI j) 12 = true := by rw [inb_nI (by omega)]; simp; omega
  have jx := ix_nI (show j < 2 ^ 31 by omega)
  have hM' := hr.1
  have n0 : nI 1 = 1 := rfl
  have bN := bn_eN (fl := false) (s := 1) hu hA
  have bD := bn_eD (fl := false) (s := 1) hu hA
  have bf := bn_fn (b := (eD false 1 u.toInt A)) (bN 0)
  have fp := fn_pos (a := eN false 1 u.toInt A 0) d0
  unfold bn at bf
  have pp : (0 : Int64) < wL (fn (eN false 1 u.toInt A 0) (eD false 1 u.toInt A)) ↔ 0 < fn (eN false 1 u.toInt A 0) (eD false 1 u.toInt A) := by rw [← wL_0]; exact wL_lt (by omega) (by omega) (by omega) (by omega)
  rw [fp] at pp
  simp [S149_0, S149_1, S149_2, S149_3, S149_4, BS, ixs, inbs, hM, j0, jx, k76, n0]
  refine Call_in.mpr (m_en_1t_00_0 hr kd hM12 hj e2 hu hA d0 (fun L1 f1 v1 => ?_))
  by_cases ps : (0 < eN false 1 u.toInt A 0 ∧ 0 < (eD false 1 u.toInt A)) ∨ (eN false 1 u.toInt A 0 < 0 ∧ (eD false 1 u.toInt A) < 0)
  · have q := pp.mpr ps
    have g := good (Or.inr ⟨ps, Or.inl rfl⟩) L1 f1
    simp [S149_0, S149_1, S149_2, S149_3, S149_4, BS, ixs, inbs, hM, j0, jx, k76, n0, lg_gt, q, g]
  · have q : ¬ _ := fun h => ps (pp.mp h)
    have g := bad (by unfold abv; omega) L1 f1
    simp [S149_0, S149_1, S149_2, S149_3, S149_4, BS, ixs, inbs, hM, j0, jx, k76, n0, lg_gt, q, g]
set_option maxRecDepth 100000 in
set_option maxHeartbeats 8000000 in
theorem m_ckt_2t {n sl : Nat} {C Z : Nat → Nat} {I : Nat → Nat → Int32} {L : Nat → Nat → Int64} {R : Nat → Nat → Nat} {j : Nat} {u : Int32} {A B K : Nat → Int} {d : Int} {M f : Nat} (hr : RM C Z I R j 2 u A B K d) (kd : ¬ I 75 j = 1) (hM12 : M ≤ 12) (hj : j < M) (e2 : I 74 0 = nI M) (hu : u.toInt = 1 ∨ u.toInt = 2 ∨ u.toInt = 4) (hA : ∀ i, i < 9 → bn 12 (A i)) (d0 : ¬ (eD false 2 u.toInt A) = 0) {Q : Option Value → Hp → Prop} (good : abv 2 (eN false 2 u.toInt A) (eD false 2 u.toInt A) → ∀ L', (∀ c, c ≠ 74 → c ≠ 95 → c ≠ 96 → c ≠ 97 → L' c = L c) → Q (some (.int (-1))) (n, sl, C, Z, I, L', R)) (bad : ¬ abv 2 (eN false 2 u.toInt A) (eD false 2 u.toInt A) → ∀ L', (∀ c, c ≠ 74 → c ≠ 95 → c ≠ 96 → c ≠ 97 → L' c = L c) → Q (some (.int (-3))) (n, sl, C, Z, I, L', R)) : Wp 149 84 [some (.ref 74), some (.int (nI j)), some (.int (nI f)), none, none, none, none, none, none, none] [] (n, sl, C, Z, I, L, R) Q := by
  obtain ⟨hM, hj12, hs3, k76, k77, mA, mB, mK, mD, zA, zB⟩ := id hr
  unfold LayM at hM
  have j0 : inb (nI j) 12 = true := by rw [inb_nI (by omega)]; simp; omega
  have jx := ix_nI (show j < 2 ^ 31 by omega)
  have hM' := hr.1
  have n0 : nI 2 = 2 := rfl
  have bN := bn_eN (fl := false) (s := 2) hu hA
  have bD := bn_eD (fl := false) (s := 2) hu hA
  have bf := bn_fn (b := (eD false 2 u.toInt A)) (bN 0)
  have fp := fn_pos (a := eN false 2 u.toInt A 0) d0
  unfold bn at bf
  have pp : (0 : Int64) < wL (fn (eN false 2 u.toInt A 0) (eD false 2 u.toInt A)) ↔ 0 < fn (eN false 2 u.toInt A 0) (eD false 2 u.toInt A) := by rw [← wL_0]; exact wL_lt (by omega) (by omega) (by omega) (by omega)
  rw [fp] at pp
  simp [S149_0, S149_1, S149_2, S149_3, S149_4, BS, ixs, inbs, hM, j0, jx, k76, n0]
  refine Call_in.mpr (m_en_2t_00_0 hr kd hM12 hj e2 hu hA d0 (fun L1 f1 v1 => ?_))
  by_cases ps : (0 < eN false 2 u.toInt A 0 ∧ 0 < (eD false 2 u.toInt A)) ∨ (eN false 2 u.toInt A 0 < 0 ∧ (eD false 2 u.toInt A) < 0)
  · have q := pp.mpr ps
    simp [S149_0, S149_1, S149_2, S149_3, S149_4, BS, ixs, inbs, hM, j0, jx, k76, n0, lg_gt, q]
    refine m_worth3_m hM' (G := fun e i => sg false * eC false 2 u.toInt A i e) v1.1 v1.2 (fun L2 f2 => ?_)
    rw [show dt3 (fun i => sg false * eC false 2 u.toInt A i 0) (fun i => sg false * eC false 2 u.toInt A i 1) (fun i => sg false * eC false 2 u.toInt A i 2) = sg false * eD false 2 u.toInt A from worth_D false u.toInt A]
    simp [S149_0, S149_1, S149_2, S149_3, S149_4, BS, ixs, inbs, hM, j0, jx, k76, n0]
    refine m_has_2t hr kd hu hA (fun L3 f3 v3 => ?_)
    rw [if_neg d0]
    simp [S149_0, S149_1, S149_2, S149_3, S149_4, BS, ixs, inbs, hM, j0, jx, k76, n0]
    refine m_worth3_0 hM' (G := fun e i => sg false * eC false 2 u.toInt A i e) (v := fun e => sg false * eS false 2 u.toInt e) v3.1 v3.2 (fun L4 f4 => ?_)
    rw [worth_N0 false u.toInt A]
    have v4 : ((∀ e i, e < 3 → i < 3 → L4 95 (3 * e + i) = wL (sg false * eC false 2 u.toInt A i e)) ∧ ∀ e, e < 3 → L4 97 e = wL (sg false * eS false 2 u.toInt e)) := by rw [f4 95 (by omega), f4 97 (by omega)]; exact v3
    simp [S149_0, S149_1, S149_2, S149_3, S149_4, BS, ixs, inbs, hM, j0, jx, k76, n0]
    refine m_worth3_1 hM' (G := fun e i => sg false * eC false 2 u.toInt A i e) (v := fun e => sg false * eS false 2 u.toInt e) v4.1 v4.2 (fun L5 f5 => ?_)
    rw [worth_N1 false u.toInt A]
    have v5 : ((∀ e i, e < 3 → i < 3 → L5 95 (3 * e + i) = wL (sg false * eC false 2 u.toInt A i e)) ∧ ∀ e, e < 3 → L5 97 e = wL (sg false * eS false 2 u.toInt e)) := by rw [f5 95 (by omega), f5 97 (by omega)]; exact v4
    simp [S149_0, S149_1, S149_2, S149_3, S149_4, BS, ixs, inbs, hM, j0, jx, k76, n0]
    refine m_worth3_2 hM' (G := fun e i => sg false * eC false 2 u.toInt A i e) (v := fun e => sg false * eS false 2 u.toInt e) v5.1 v5.2 (fun L6 f6 => ?_)
    rw [worth_N2 false u.toInt A]
    have ff : ∀ c, c ≠ 74 → c ≠ 95 → c ≠ 96 → c ≠ 97 → L6 c = L c := fun c h1 h2 h3 h4 => by rw [f6 c h3, f5 c h3, f4 c h3, f3 c h2 h3 h4, f2 c h3, f1 c h1 h2 h3 h4]
    have e1 : ¬ wL (sg false * eD false 2 u.toInt A) = 0 := by
      unfold bn at bD
      rw [wL_eq0 (by rcases sg_mul false (eD false 2 u.toInt A) with h | h <;> rw [h] <;> omega) (by rcases sg_mul false (eD false 2 u.toInt A) with h | h <;> rw [h] <;> omega)]
      rcases sg_mul false (eD false 2 u.toInt A) with h | h <;> rw [h] <;> omega
    have ss : sg false * eN false 2 u.toInt A 0 * (sg false * eN false 2 u.toInt A 2) - sg false * eN false 2 u.toInt A 1 * (sg false * eN false 2 u.toInt A 1) = eN false 2 u.toInt A 0 * eN false 2 u.toInt A 2 - eN false 2 u.toInt A 1 * eN false 2 u.toInt A 1 := by
      simp [sg]
      try grind
    have b02 := bn_mul (bN 0) (bN 2)
    have b11 := bn_mul (bN 1) (bN 1)
    unfold bn at b02 b11
    have p2 : (0 : Int64) < wL (eN false 2 u.toInt A 0 * eN false 2 u.toInt A 2 - eN false 2 u.toInt A 1 * eN false 2 u.toInt A 1) ↔ 0 < eN false 2 u.toInt A 0 * eN false 2 u.toInt A 2 - eN false 2 u.toInt A 1 * eN false 2 u.toInt A 1 := by rw [← wL_0]; exact wL_lt (by omega) (by omega) (by omega) (by omega)
    by_cases p3 : 0 < eN false 2 u.toInt A 0 * eN false 2 u.toInt A 2 - eN false 2 u.toInt A 1 * eN false 2 u.toInt A 1
    · have q3 := p2.mpr p3
      have g := good (Or.inr ⟨ps, Or.inr (by omega)⟩) L6 ff
      simp [S149_0, S149_1, S149_2, S149_3, S149_4, BS, ixs, inbs, hM, j0, jx, k76, n0, lg_le, lg_eq, wL_mul, wL_sub, ss, q3, e1, g]
    · have q3 : ¬ _ := fun h => p3 (p2.mp h)
      have g := bad (by unfold abv; omega) L6 ff
      simp [S149_0, S149_1, S149_2, S149_3, S149_4, BS, ixs, inbs, hM, j0, jx, k76, n0, lg_le, lg_eq, wL_mul, wL_sub, ss, q3, e1, g]
  · have q : ¬ _ := fun h => ps (pp.mp h)
    have g := bad (by unfold abv; omega) L1 f1
    simp [S149_0, S149_1, S149_2, S149_3, S149_4, BS, ixs, inbs, hM, j0, jx, k76, n0, lg_gt, q, g]
set_option maxRecDepth 100000 in
set_option maxHeartbeats 8000000 in
theorem m_ckt_0f {n sl : Nat} {C Z : Nat → Nat} {I : Nat → Nat → Int32} {L : Nat → Nat → Int64} {R : Nat → Nat → Nat} {j : Nat} {u : Int32} {A B K : Nat → Int} {d : Int} {M f : Nat} (hr : RM C Z I R j 0 u A B K d) (kd : I 75 j = 1) (hM12 : M ≤ 12) (hj : j < M) (e2 : I 74 0 = nI M) (hu : u.toInt = 1 ∨ u.toInt = 2 ∨ u.toInt = 4) (hA : ∀ i, i < 9 → bn 12 (A i)) (d0 : ¬ (eD true 0 u.toInt A) = 0) {Q : Option Value → Hp → Prop} (good : abv 0 (eN true 0 u.toInt A) (eD true 0 u.toInt A) → ∀ L', (∀ c, c ≠ 74 → c ≠ 95 → c ≠ 96 → c ≠ 97 → L' c = L c) → Q (some (.int (-1))) (n, sl, C, Z, I, L', R)) (bad : ¬ abv 0 (eN true 0 u.toInt A) (eD true 0 u.toInt A) → ∀ L', (∀ c, c ≠ 74 → c ≠ 95 → c ≠ 96 → c ≠ 97 → L' c = L c) → Q (some (.int (-3))) (n, sl, C, Z, I, L', R)) : Wp 149 84 [some (.ref 74), some (.int (nI j)), some (.int (nI f)), none, none, none, none, none, none, none] [] (n, sl, C, Z, I, L, R) Q := by
  obtain ⟨hM, hj12, hs3, k76, k77, mA, mB, mK, mD, zA, zB⟩ := id hr
  unfold LayM at hM
  have j0 : inb (nI j) 12 = true := by rw [inb_nI (by omega)]; simp; omega
  have jx := ix_nI (show j < 2 ^ 31 by omega)
  have hM' := hr.1
  have n0 : nI 0 = 0 := rfl
  have g := good (Or.inl rfl) L (fun _ _ _ _ _ => rfl)
  simp [S149_0, S149_1, S149_2, S149_3, S149_4, BS, ixs, inbs, hM, j0, jx, k76, n0, g]
set_option maxRecDepth 100000 in
set_option maxHeartbeats 8000000 in
theorem m_ckt_1f {n sl : Nat} {C Z : Nat → Nat} {I : Nat → Nat → Int32} {L : Nat → Nat → Int64} {R : Nat → Nat → Nat} {j : Nat} {u : Int32} {A B K : Nat → Int} {d : Int} {M f : Nat} (hr : RM C Z I R j 1 u A B K d) (kd : I 75 j = 1) (hM12 : M ≤ 12) (hj : j < M) (e2 : I 74 0 = nI M) (hu : u.toInt = 1 ∨ u.toInt = 2 ∨ u.toInt = 4) (hA : ∀ i, i < 9 → bn 12 (A i)) (d0 : ¬ (eD true 1 u.toInt A) = 0) {Q : Option Value → Hp → Prop} (good : abv 1 (eN true 1 u.toInt A) (eD true 1 u.toInt A) → ∀ L', (∀ c, c ≠ 74 → c ≠ 95 → c ≠ 96 → c ≠ 97 → L' c = L c) → Q (some (.int (-1))) (n, sl, C, Z, I, L', R)) (bad : ¬ abv 1 (eN true 1 u.toInt A) (eD true 1 u.toInt A) → ∀ L', (∀ c, c ≠ 74 → c ≠ 95 → c ≠ 96 → c ≠ 97 → L' c = L c) → Q (some (.int (-3))) (n, sl, C, Z, I, L', R)) : Wp 149 84 [some (.ref 74), some (.int (nI j)), some (.int (nI f)), none, none, none, none, none, none, none] [] (n, sl, C, Z, I, L, R) Q := by
  obtain ⟨hM, hj12, hs3, k76, k77, mA, mB, mK, mD, zA, zB⟩ := id hr
  unfold LayM at hM
  have j0 : inb (nI j) 12 = true := by rw [inb_nI (by omega)]; simp; omega
  have jx := ix_nI (show j < 2 ^ 31 by omega)
  have hM' := hr.1
  have n0 : nI 1 = 1 := rfl
  have bN := bn_eN (fl := true) (s := 1) hu hA
  have bD := bn_eD (fl := true) (s := 1) hu hA
  have bf := bn_fn (b := (eD true 1 u.toInt A)) (bN 0)
  have fp := fn_pos (a := eN true 1 u.toInt A 0) d0
  unfold bn at bf
  have pp : (0 : Int64) < wL (fn (eN true 1 u.toInt A 0) (eD true 1 u.toInt A)) ↔ 0 < fn (eN true 1 u.toInt A 0) (eD true 1 u.toInt A) := by rw [← wL_0]; exact wL_lt (by omega) (by omega) (by omega) (by omega)
  rw [fp] at pp
  simp [S149_0, S149_1, S149_2, S149_3, S149_4, BS, ixs, inbs, hM, j0, jx, k76, n0]
  refine Call_in.mpr (m_en_1f_00_0 hr kd hM12 hj e2 hu hA d0 (fun L1 f1 v1 => ?_))
  by_cases ps : (0 < eN true 1 u.toInt A 0 ∧ 0 < (eD true 1 u.toInt A)) ∨ (eN true 1 u.toInt A 0 < 0 ∧ (eD true 1 u.toInt A) < 0)
  · have q := pp.mpr ps
    have g := good (Or.inr ⟨ps, Or.inl rfl⟩) L1 f1
    simp [S149_0, S149_1, S149_2, S149_3, S149_4, BS, ixs, inbs, hM, j0, jx, k76, n0, lg_gt, q, g]
  · have q : ¬ _ := fun h => ps (pp.mp h)
    have g := bad (by unfold abv; omega) L1 f1
    simp [S149_0, S149_1, S149_2, S149_3, S149_4, BS, ixs, inbs, hM, j0, jx, k76, n0, lg_gt, q, g]
set_option maxRecDepth 100000 in
set_option maxHeartbeats 8000000 in
theorem m_ckt_2f {n sl : Nat} {C Z : Nat → Nat} {I : Nat → Nat → Int32} {L : Nat → Nat → Int64} {R : Nat → Nat → Nat} {j : Nat} {u : Int32} {A B K : Nat → Int} {d : Int} {M f : Nat} (hr : RM C Z I R j 2 u A B K d) (kd : I 75 j = 1) (hM12 : M ≤ 12) (hj : j < M) (e2 : I 74 0 = nI M) (hu : u.toInt = 1 ∨ u.toInt = 2 ∨ u.toInt = 4) (hA : ∀ i, i < 9 → bn 12 (A i)) (d0 : ¬ (eD true 2 u.toInt A) = 0) {Q : Option Value → Hp → Prop} (good : abv 2 (eN true 2 u.toInt A) (eD true 2 u.toInt A) → ∀ L', (∀ c, c ≠ 74 → c ≠ 95 → c ≠ 96 → c ≠ 97 → L' c = L c) → Q (some (.int (-1))) (n, sl, C, Z, I, L', R)) (bad : ¬ abv 2 (eN true 2 u.toInt A) (eD true 2 u.toInt A) → ∀ L', (∀ c, c ≠ 74 → c ≠ 95 → c ≠ 96 → c ≠ 97 → L' c = L c) → Q (some (.int (-3))) (n, sl, C, Z, I, L', R)) : Wp 149 84 [some (.ref 74), some (.int (nI j)), some (.int (nI f)), none, none, none, none, none, none, none] [] (n, sl, C, Z, I, L, R) Q := by
  obtain ⟨hM, hj12, hs3, k76, k77, mA, mB, mK, mD, zA, zB⟩ := id hr
  unfold LayM at hM
  have j0 : inb (nI j) 12 = true := by rw [inb_nI (by omega)]; simp; omega
  have jx := ix_nI (show j < 2 ^ 31 by omega)
  have hM' := hr.1
  have n0 : nI 2 = 2 := rfl
  have bN := bn_eN (fl := true) (s := 2) hu hA
  have bD := bn_eD (fl := true) (s := 2) hu hA
  have bf := bn_fn (b := (eD true 2 u.toInt A)) (bN 0)
  have fp := fn_pos (a := eN true 2 u.toInt A 0) d0
  unfold bn at bf
  have pp : (0 : Int64) < wL (fn (eN true 2 u.toInt A 0) (eD true 2 u.toInt A)) ↔ 0 < fn (eN true 2 u.toInt A 0) (eD true 2 u.toInt A) := by rw [← wL_0]; exact wL_lt (by omega) (by omega) (by omega) (by omega)
  rw [fp] at pp
  simp [S149_0, S149_1, S149_2, S149_3, S149_4, BS, ixs, inbs, hM, j0, jx, k76, n0]
  refine Call_in.mpr (m_en_2f_00_0 hr kd hM12 hj e2 hu hA d0 (fun L1 f1 v1 => ?_))
  by_cases ps : (0 < eN true 2 u.toInt A 0 ∧ 0 < (eD true 2 u.toInt A)) ∨ (eN true 2 u.toInt A 0 < 0 ∧ (eD true 2 u.toInt A) < 0)
  · have q := pp.mpr ps
    simp [S149_0, S149_1, S149_2, S149_3, S149_4, BS, ixs, inbs, hM, j0, jx, k76, n0, lg_gt, q]
    refine m_worth3_m hM' (G := fun e i => sg true * eC true 2 u.toInt A i e) v1.1 v1.2 (fun L2 f2 => ?_)
    rw [show dt3 (fun i => sg true * eC true 2 u.toInt A i 0) (fun i => sg true * eC true 2 u.toInt A i 1) (fun i => sg true * eC true 2 u.toInt A i 2) = sg true * eD true 2 u.toInt A from worth_D true u.toInt A]
    simp [S149_0, S149_1, S149_2, S149_3, S149_4, BS, ixs, inbs, hM, j0, jx, k76, n0]
    refine m_has_2f hr kd hu hA (fun L3 f3 v3 => ?_)
    rw [if_neg d0]
    simp [S149_0, S149_1, S149_2, S149_3, S149_4, BS, ixs, inbs, hM, j0, jx, k76, n0]
    refine m_worth3_0 hM' (G := fun e i => sg true * eC true 2 u.toInt A i e) (v := fun e => sg true * eS true 2 u.toInt e) v3.1 v3.2 (fun L4 f4 => ?_)
    rw [worth_N0 true u.toInt A]
    have v4 : ((∀ e i, e < 3 → i < 3 → L4 95 (3 * e + i) = wL (sg true * eC true 2 u.toInt A i e)) ∧ ∀ e, e < 3 → L4 97 e = wL (sg true * eS true 2 u.toInt e)) := by rw [f4 95 (by omega), f4 97 (by omega)]; exact v3
    simp [S149_0, S149_1, S149_2, S149_3, S149_4, BS, ixs, inbs, hM, j0, jx, k76, n0]
    refine m_worth3_1 hM' (G := fun e i => sg true * eC true 2 u.toInt A i e) (v := fun e => sg true * eS true 2 u.toInt e) v4.1 v4.2 (fun L5 f5 => ?_)
    rw [worth_N1 true u.toInt A]
    have v5 : ((∀ e i, e < 3 → i < 3 → L5 95 (3 * e + i) = wL (sg true * eC true 2 u.toInt A i e)) ∧ ∀ e, e < 3 → L5 97 e = wL (sg true * eS true 2 u.toInt e)) := by rw [f5 95 (by omega), f5 97 (by omega)]; exact v4
    simp [S149_0, S149_1, S149_2, S149_3, S149_4, BS, ixs, inbs, hM, j0, jx, k76, n0]
    refine m_worth3_2 hM' (G := fun e i => sg true * eC true 2 u.toInt A i e) (v := fun e => sg true * eS true 2 u.toInt e) v5.1 v5.2 (fun L6 f6 => ?_)
    rw [worth_N2 true u.toInt A]
    have ff : ∀ c, c ≠ 74 → c ≠ 95 → c ≠ 96 → c ≠ 97 → L6 c = L c := fun c h1 h2 h3 h4 => by rw [f6 c h3, f5 c h3, f4 c h3, f3 c h2 h3 h4, f2 c h3, f1 c h1 h2 h3 h4]
    have e1 : ¬ wL (sg true * eD true 2 u.toInt A) = 0 := by
      unfold bn at bD
      rw [wL_eq0 (by rcases sg_mul true (eD true 2 u.toInt A) with h | h <;> rw [h] <;> omega) (by rcases sg_mul true (eD true 2 u.toInt A) with h | h <;> rw [h] <;> omega)]
      rcases sg_mul true (eD true 2 u.toInt A) with h | h <;> rw [h] <;> omega
    have ss : sg true * eN true 2 u.toInt A 0 * (sg true * eN true 2 u.toInt A 2) - sg true * eN true 2 u.toInt A 1 * (sg true * eN true 2 u.toInt A 1) = eN true 2 u.toInt A 0 * eN true 2 u.toInt A 2 - eN true 2 u.toInt A 1 * eN true 2 u.toInt A 1 := by
      simp [sg]
      try grind
    have b02 := bn_mul (bN 0) (bN 2)
    have b11 := bn_mul (bN 1) (bN 1)
    unfold bn at b02 b11
    have p2 : (0 : Int64) < wL (eN true 2 u.toInt A 0 * eN true 2 u.toInt A 2 - eN true 2 u.toInt A 1 * eN true 2 u.toInt A 1) ↔ 0 < eN true 2 u.toInt A 0 * eN true 2 u.toInt A 2 - eN true 2 u.toInt A 1 * eN true 2 u.toInt A 1 := by rw [← wL_0]; exact wL_lt (by omega) (by omega) (by omega) (by omega)
    by_cases p3 : 0 < eN true 2 u.toInt A 0 * eN true 2 u.toInt A 2 - eN true 2 u.toInt A 1 * eN true 2 u.toInt A 1
    · have q3 := p2.mpr p3
      have g := good (Or.inr ⟨ps, Or.inr (by omega)⟩) L6 ff
      simp [S149_0, S149_1, S149_2, S149_3, S149_4, BS, ixs, inbs, hM, j0, jx, k76, n0, lg_le, lg_eq, wL_mul, wL_sub, ss, q3, e1, g]
    · have q3 : ¬ _ := fun h => p3 (p2.mp h)
      have g := bad (by unfold abv; omega) L6 ff
      simp [S149_0, S149_1, S149_2, S149_3, S149_4, BS, ixs, inbs, hM, j0, jx, k76, n0, lg_le, lg_eq, wL_mul, wL_sub, ss, q3, e1, g]
  · have q : ¬ _ := fun h => ps (pp.mp h)
    have g := bad (by unfold abv; omega) L1 f1
    simp [S149_0, S149_1, S149_2, S149_3, S149_4, BS, ixs, inbs, hM, j0, jx, k76, n0, lg_gt, q, g]
