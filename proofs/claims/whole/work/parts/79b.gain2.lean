set_option maxRecDepth 100000 in
set_option maxHeartbeats 8000000 in
theorem gain_yes_10_0 {n sl : Nat} {C Z : Nat → Nat} {I : Nat → Nat → Int32} {L : Nat → Nat → Int64} {R : Nat → Nat → Nat} {M rn t j q : Nat} (h7 : Inv7 n C Z I L R M rn t) (hj : j < M) (hq : MOK n C Z I R j q 1) (p0 p1 p2 : Int32) (q0 : ¬ p0 < -100 ∧ ¬ 100 < p0) (hrk : IsRk (pw (fun i => (I (q + 1) i).toInt) (fun i => (I (q + 2) i).toInt)) 3 1) : Two 72 140 [some (.ref 1), some (.int (nI j)), some (.int p0), some (.int p1), some (.int p2), some (.int 0), some (.int 0), none] [some (.ref 74), some (.int (nI j)), some (.int p0), some (.int p1), some (.int p2), some (.int 0), some (.int 0), none, none, none, none] (n, sl, C, Z, I, L, R) := by
  obtain ⟨hM12, hn98, ⟨hB, hK, hO, hE, hM⟩, ⟨e1, e2⟩, -⟩ := id h7
  have hB' := hB
  have hM' := hM
  unfold LayB at hB
  unfold LayM at hM
  unfold Two
  obtain ⟨a1, a2, -⟩ := id hq
  have hq0 : ¬ q = 0 := by omega
  have hc := hq.cm
  have kin : inG 7 (C q) = true := hc.1.1
  have a6 : I q 1 = nI 1 := hc.1.2.2.2.2.1
  have n0 : nI 1 = 1 := rfl
  have k76 : I 76 j = nI 1 := hq.2.2.2.2.1.2.2.2
  have c8 : C 8 = 4 := by unfold LayK at hK; simp [hK]
  have j0 : inb (nI j) 12 = true := by rw [inb_nI (by omega)]; simp; omega
  have jx := ix_nI (show j < 2 ^ 31 by omega)
  have hu := hq.un
  obtain ⟨bA, bB, bK, -⟩ := hq.bns
  have rm0 := hq.rm hM' (by omega)
  have zA := rm0.2.2.2.2.2.2.2.2.2.1
  have zB := rm0.2.2.2.2.2.2.2.2.2.2
  obtain ⟨R2, hR2⟩ : ∃ R2, R2 = u2 R 8 0 q := ⟨_, rfl⟩
  have r2n : ∀ i, i ≠ 8 → R2 i = R i := fun i h => by rw [hR2, u2_ne _ _ _ h]
  have hc' : CM C Z I R2 q 1 (I q 2) _ _ _ _ := hc.keep (fun _ _ => rfl) (fun i hi => r2n i (by omega))
  have hK2 : LayK C Z R2 := by rw [hR2]; unfold LayK at *; simp [hK, u2_rd]
  have hM2 : LayM C Z R2 := by rw [hR2]; exact hM'.look 8 q (by omega)
  have rr : R2 8 0 = q := by rw [hR2]; simp [u2_rd]
  have r1 : ∀ k, R2 1 k = R 1 k := fun k => by rw [r2n 1 (by omega)]
  have r74 : ∀ k, R2 74 k = R 74 k := fun k => by rw [r2n 74 (by omega)]
  have rq : ∀ k, R2 q k = R q k := fun k => by rw [r2n q (by omega)]
  have hr2 := rm0.keep (R' := R2) (I' := I) hM2 (fun _ _ _ => rfl)
  have isy := is_yesG hM2 hM12 hj n sl I
  have c73 : C 73 = 3 := by simp [hB]
  have hP : ∀ k, k < 1 → bn 100 ((fun k => if k = 0 then p0.toInt else if k = 1 then p1.toInt else p2.toInt) k) := fun k hk => by
    have cv : ∀ p : Int32, ¬ p < -100 → ¬ 100 < p → bn 100 p.toInt := fun p h1 h2 => by
      rw [Int32.lt_iff_toInt_lt] at h1 h2
      rw [show (-100 : Int32).toInt = -100 from by decide] at h1
      rw [show (100 : Int32).toInt = 100 from by decide] at h2
      unfold bn; omega
    rcases (by omega : k = 0) with rfl
    · exact cv p0 q0.1 q0.2
  obtain ⟨n1, n2, fe, de⟩ := gain_frac (P := (fun k => if k = 0 then p0.toInt else if k = 1 then p1.toInt else p2.toInt)) (by omega) hu zA (fun i hi hs => (zB i hi hs).1) hrk (show 0 < 1 by omega)
  simp [S72_0, S72_1, S72_2, S88_0, S88_1, S87_0, Call_in (k2 := 87), Call_in (k2 := 88), BS, ixs, inbs, le_nlt, hB, kin, a6, n0, c8, at_yesG hB' hM12 hj, e1, a1, hq0, q0]
  refine c_at8 hc hK (fun L1 f1 lk => ?_)
  rw [← hR2]
  simp [S72_0, S72_1, S72_2, S88_0, S88_1, S87_0, Call_in (k2 := 87), Call_in (k2 := 88), BS, ixs, inbs, le_nlt, hB, kin, a6, n0, c8, r1, rr]
  refine c_reached hc' hK2 rr lk bA bB (fun r h1 h2 => ?_)
  have er := h2.uniq hrk
  subst er
  simp [S72_0, S72_1, S72_2, S88_0, S88_1, S87_0, Call_in (k2 := 87), Call_in (k2 := 88), BS, ixs, inbs, le_nlt, hB, kin, a6, n0, c8, r1, rr]
  refine c_gain_10 hc' hK2 rr lk p0 p1 p2 bA bB hu hP c73 n1 (fun L2 f2 v0 v1 => ?_)
  rw [fe] at v0
  rw [de] at v1
  simp [S72_0, S72_1, S72_2, S14_0, Call_in (k2 := 14), BS, ixs, inbs, hB, r1, c73, v0, v1]
  refine m_gain_10_0 hr2 hM12 hj e2 hu bA bB p0 p1 p2 q0 hP hrk n2 (fun L3 f3 => ⟨rfl, ?_, by dsimp only; omega, by dsimp only; omega⟩)
  exact Inv_mk (h7.scr (fun i hi => by rw [f3 i (by omega) (by omega) (by omega) (by omega) (by omega) (by omega), f2 i (by omega) (by omega) (by omega) (by omega), f1 i (by omega)]) (fun _ _ => rfl) ⟨rfl, rfl, rfl⟩ (fun i k h1 _ => by rw [hR2, u2_rd, if_neg h1]))
set_option maxRecDepth 100000 in
set_option maxHeartbeats 8000000 in
theorem gain_yes_10_1 {n sl : Nat} {C Z : Nat → Nat} {I : Nat → Nat → Int32} {L : Nat → Nat → Int64} {R : Nat → Nat → Nat} {M rn t j q : Nat} (h7 : Inv7 n C Z I L R M rn t) (hj : j < M) (hq : MOK n C Z I R j q 1) (p0 p1 p2 : Int32) (q0 : ¬ p0 < -100 ∧ ¬ 100 < p0) (hrk : IsRk (pw (fun i => (I (q + 1) i).toInt) (fun i => (I (q + 2) i).toInt)) 3 1) : Two 72 140 [some (.ref 1), some (.int (nI j)), some (.int p0), some (.int p1), some (.int p2), some (.int 0), some (.int 1), none] [some (.ref 74), some (.int (nI j)), some (.int p0), some (.int p1), some (.int p2), some (.int 0), some (.int 1), none, none, none, none] (n, sl, C, Z, I, L, R) := by
  obtain ⟨hM12, hn98, ⟨hB, hK, hO, hE, hM⟩, ⟨e1, e2⟩, -⟩ := id h7
  have hB' := hB
  have hM' := hM
  unfold LayB at hB
  unfold LayM at hM
  unfold Two
  obtain ⟨a1, a2, -⟩ := id hq
  have hq0 : ¬ q = 0 := by omega
  have hc := hq.cm
  have kin : inG 7 (C q) = true := hc.1.1
  have a6 : I q 1 = nI 1 := hc.1.2.2.2.2.1
  have n0 : nI 1 = 1 := rfl
  have k76 : I 76 j = nI 1 := hq.2.2.2.2.1.2.2.2
  have c8 : C 8 = 4 := by unfold LayK at hK; simp [hK]
  have j0 : inb (nI j) 12 = true := by rw [inb_nI (by omega)]; simp; omega
  have jx := ix_nI (show j < 2 ^ 31 by omega)
  have hu := hq.un
  obtain ⟨bA, bB, bK, -⟩ := hq.bns
  have rm0 := hq.rm hM' (by omega)
  have zA := rm0.2.2.2.2.2.2.2.2.2.1
  have zB := rm0.2.2.2.2.2.2.2.2.2.2
  obtain ⟨R2, hR2⟩ : ∃ R2, R2 = u2 R 8 0 q := ⟨_, rfl⟩
  have r2n : ∀ i, i ≠ 8 → R2 i = R i := fun i h => by rw [hR2, u2_ne _ _ _ h]
  have hc' : CM C Z I R2 q 1 (I q 2) _ _ _ _ := hc.keep (fun _ _ => rfl) (fun i hi => r2n i (by omega))
  have hK2 : LayK C Z R2 := by rw [hR2]; unfold LayK at *; simp [hK, u2_rd]
  have hM2 : LayM C Z R2 := by rw [hR2]; exact hM'.look 8 q (by omega)
  have rr : R2 8 0 = q := by rw [hR2]; simp [u2_rd]
  have r1 : ∀ k, R2 1 k = R 1 k := fun k => by rw [r2n 1 (by omega)]
  have r74 : ∀ k, R2 74 k = R 74 k := fun k => by rw [r2n 74 (by omega)]
  have rq : ∀ k, R2 q k = R q k := fun k => by rw [r2n q (by omega)]
  have hr2 := rm0.keep (R' := R2) (I' := I) hM2 (fun _ _ _ => rfl)
  have isy := is_yesG hM2 hM12 hj n sl I
  have c73 : C 73 = 3 := by simp [hB]
  have hP : ∀ k, k < 1 → bn 100 ((fun k => if k = 0 then p0.toInt else if k = 1 then p1.toInt else p2.toInt) k) := fun k hk => by
    have cv : ∀ p : Int32, ¬ p < -100 → ¬ 100 < p → bn 100 p.toInt := fun p h1 h2 => by
      rw [Int32.lt_iff_toInt_lt] at h1 h2
      rw [show (-100 : Int32).toInt = -100 from by decide] at h1
      rw [show (100 : Int32).toInt = 100 from by decide] at h2
      unfold bn; omega
    rcases (by omega : k = 0) with rfl
    · exact cv p0 q0.1 q0.2
  obtain ⟨n1, n2, fe, de⟩ := gain_frac (P := (fun k => if k = 0 then p0.toInt else if k = 1 then p1.toInt else p2.toInt)) (by omega) hu zA (fun i hi hs => (zB i hi hs).1) hrk (show 0 < 1 by omega)
  simp [S72_0, S72_1, S72_2, S88_0, S88_1, S87_0, Call_in (k2 := 87), Call_in (k2 := 88), BS, ixs, inbs, le_nlt, hB, kin, a6, n0, c8, at_yesG hB' hM12 hj, e1, a1, hq0, q0]
  refine c_at8 hc hK (fun L1 f1 lk => ?_)
  rw [← hR2]
  simp [S72_0, S72_1, S72_2, S88_0, S88_1, S87_0, Call_in (k2 := 87), Call_in (k2 := 88), BS, ixs, inbs, le_nlt, hB, kin, a6, n0, c8, r1, rr]
  refine c_reached hc' hK2 rr lk bA bB (fun r h1 h2 => ?_)
  have er := h2.uniq hrk
  subst er
  simp [S72_0, S72_1, S72_2, S88_0, S88_1, S87_0, Call_in (k2 := 87), Call_in (k2 := 88), BS, ixs, inbs, le_nlt, hB, kin, a6, n0, c8, r1, rr]
  refine c_gain_10 hc' hK2 rr lk p0 p1 p2 bA bB hu hP c73 n1 (fun L2 f2 v0 v1 => ?_)
  rw [fe] at v0
  rw [de] at v1
  simp [S72_0, S72_1, S72_2, S14_0, Call_in (k2 := 14), BS, ixs, inbs, hB, r1, c73, v0, v1]
  refine m_gain_10_1 hr2 hM12 hj e2 hu bA bB p0 p1 p2 q0 hP hrk n2 (fun L3 f3 => ⟨rfl, ?_, by dsimp only; omega, by dsimp only; omega⟩)
  exact Inv_mk (h7.scr (fun i hi => by rw [f3 i (by omega) (by omega) (by omega) (by omega) (by omega) (by omega), f2 i (by omega) (by omega) (by omega) (by omega), f1 i (by omega)]) (fun _ _ => rfl) ⟨rfl, rfl, rfl⟩ (fun i k h1 _ => by rw [hR2, u2_rd, if_neg h1]))
set_option maxRecDepth 100000 in
set_option maxHeartbeats 8000000 in
theorem gain_yes_20_0 {n sl : Nat} {C Z : Nat → Nat} {I : Nat → Nat → Int32} {L : Nat → Nat → Int64} {R : Nat → Nat → Nat} {M rn t j q : Nat} (h7 : Inv7 n C Z I L R M rn t) (hj : j < M) (hq : MOK n C Z I R j q 2) (p0 p1 p2 : Int32) (q0 : ¬ p0 < -100 ∧ ¬ 100 < p0) (q1 : ¬ p1 < -100 ∧ ¬ 100 < p1) (hrk : IsRk (pw (fun i => (I (q + 1) i).toInt) (fun i => (I (q + 2) i).toInt)) 3 2) : Two 72 140 [some (.ref 1), some (.int (nI j)), some (.int p0), some (.int p1), some (.int p2), some (.int 0), some (.int 0), none] [some (.ref 74), some (.int (nI j)), some (.int p0), some (.int p1), some (.int p2), some (.int 0), some (.int 0), none, none, none, none] (n, sl, C, Z, I, L, R) := by
  obtain ⟨hM12, hn98, ⟨hB, hK, hO, hE, hM⟩, ⟨e1, e2⟩, -⟩ := id h7
  have hB' := hB
  have hM' := hM
  unfold LayB at hB
  unfold LayM at hM
  unfold Two
  obtain ⟨a1, a2, -⟩ := id hq
  have hq0 : ¬ q = 0 := by omega
  have hc := hq.cm
  have kin : inG 7 (C q) = true := hc.1.1
  have a6 : I q 1 = nI 2 := hc.1.2.2.2.2.1
  have n0 : nI 2 = 2 := rfl
  have k76 : I 76 j = nI 2 := hq.2.2.2.2.1.2.2.2
  have c8 : C 8 = 4 := by unfold LayK at hK; simp [hK]
  have j0 : inb (nI j) 12 = true := by rw [inb_nI (by omega)]; simp; omega
  have jx := ix_nI (show j < 2 ^ 31 by omega)
  have hu := hq.un
  obtain ⟨bA, bB, bK, -⟩ := hq.bns
  have rm0 := hq.rm hM' (by omega)
  have zA := rm0.2.2.2.2.2.2.2.2.2.1
  have zB := rm0.2.2.2.2.2.2.2.2.2.2
  obtain ⟨R2, hR2⟩ : ∃ R2, R2 = u2 R 8 0 q := ⟨_, rfl⟩
  have r2n : ∀ i, i ≠ 8 → R2 i = R i := fun i h => by rw [hR2, u2_ne _ _ _ h]
  have hc' : CM C Z I R2 q 2 (I q 2) _ _ _ _ := hc.keep (fun _ _ => rfl) (fun i hi => r2n i (by omega))
  have hK2 : LayK C Z R2 := by rw [hR2]; unfold LayK at *; simp [hK, u2_rd]
  have hM2 : LayM C Z R2 := by rw [hR2]; exact hM'.look 8 q (by omega)
  have rr : R2 8 0 = q := by rw [hR2]; simp [u2_rd]
  have r1 : ∀ k, R2 1 k = R 1 k := fun k => by rw [r2n 1 (by omega)]
  have r74 : ∀ k, R2 74 k = R 74 k := fun k => by rw [r2n 74 (by omega)]
  have rq : ∀ k, R2 q k = R q k := fun k => by rw [r2n q (by omega)]
  have hr2 := rm0.keep (R' := R2) (I' := I) hM2 (fun _ _ _ => rfl)
  have isy := is_yesG hM2 hM12 hj n sl I
  have c73 : C 73 = 3 := by simp [hB]
  have hP : ∀ k, k < 2 → bn 100 ((fun k => if k = 0 then p0.toInt else if k = 1 then p1.toInt else p2.toInt) k) := fun k hk => by
    have cv : ∀ p : Int32, ¬ p < -100 → ¬ 100 < p → bn 100 p.toInt := fun p h1 h2 => by
      rw [Int32.lt_iff_toInt_lt] at h1 h2
      rw [show (-100 : Int32).toInt = -100 from by decide] at h1
      rw [show (100 : Int32).toInt = 100 from by decide] at h2
      unfold bn; omega
    rcases (by omega : k = 0 ∨ k = 1) with rfl | rfl
    · exact cv p0 q0.1 q0.2
    · exact cv p1 q1.1 q1.2
  obtain ⟨n1, n2, fe, de⟩ := gain_frac (P := (fun k => if k = 0 then p0.toInt else if k = 1 then p1.toInt else p2.toInt)) (by omega) hu zA (fun i hi hs => (zB i hi hs).1) hrk (show 0 < 2 by omega)
  simp [S72_0, S72_1, S72_2, S88_0, S88_1, S87_0, Call_in (k2 := 87), Call_in (k2 := 88), BS, ixs, inbs, le_nlt, hB, kin, a6, n0, c8, at_yesG hB' hM12 hj, e1, a1, hq0, q0, q1]
  refine c_at8 hc hK (fun L1 f1 lk => ?_)
  rw [← hR2]
  simp [S72_0, S72_1, S72_2, S88_0, S88_1, S87_0, Call_in (k2 := 87), Call_in (k2 := 88), BS, ixs, inbs, le_nlt, hB, kin, a6, n0, c8, r1, rr]
  refine c_reached hc' hK2 rr lk bA bB (fun r h1 h2 => ?_)
  have er := h2.uniq hrk
  subst er
  simp [S72_0, S72_1, S72_2, S88_0, S88_1, S87_0, Call_in (k2 := 87), Call_in (k2 := 88), BS, ixs, inbs, le_nlt, hB, kin, a6, n0, c8, r1, rr]
  refine c_gain_20 hc' hK2 rr lk p0 p1 p2 bA bB hu hP c73 n1 (fun L2 f2 v0 v1 => ?_)
  rw [fe] at v0
  rw [de] at v1
  simp [S72_0, S72_1, S72_2, S14_0, Call_in (k2 := 14), BS, ixs, inbs, hB, r1, c73, v0, v1]
  refine m_gain_20_0 hr2 hM12 hj e2 hu bA bB p0 p1 p2 q0 q1 hP hrk n2 (fun L3 f3 => ⟨rfl, ?_, by dsimp only; omega, by dsimp only; omega⟩)
  exact Inv_mk (h7.scr (fun i hi => by rw [f3 i (by omega) (by omega) (by omega) (by omega) (by omega) (by omega), f2 i (by omega) (by omega) (by omega) (by omega), f1 i (by omega)]) (fun _ _ => rfl) ⟨rfl, rfl, rfl⟩ (fun i k h1 _ => by rw [hR2, u2_rd, if_neg h1]))
set_option maxRecDepth 100000 in
set_option maxHeartbeats 8000000 in
theorem gain_yes_20_1 {n sl : Nat} {C Z : Nat → Nat} {I : Nat → Nat → Int32} {L : Nat → Nat → Int64} {R : Nat → Nat → Nat} {M rn t j q : Nat} (h7 : Inv7 n C Z I L R M rn t) (hj : j < M) (hq : MOK n C Z I R j q 2) (p0 p1 p2 : Int32) (q0 : ¬ p0 < -100 ∧ ¬ 100 < p0) (q1 : ¬ p1 < -100 ∧ ¬ 100 < p1) (hrk : IsRk (pw (fun i => (I (q + 1) i).toInt) (fun i => (I (q + 2) i).toInt)) 3 2) : Two 72 140 [some (.ref 1), some (.int (nI j)), some (.int p0), some (.int p1), some (.int p2), some (.int 0), some (.int 1), none] [some (.ref 74), some (.int (nI j)), some (.int p0), some (.int p1), some (.int p2), some (.int 0), some (.int 1), none, none, none, none] (n, sl, C, Z, I, L, R) := by
  obtain ⟨hM12, hn98, ⟨hB, hK, hO, hE, hM⟩, ⟨e1, e2⟩, -⟩ := id h7
  have hB' := hB
  have hM' := hM
  unfold LayB at hB
  unfold LayM at hM
  unfold Two
  obtain ⟨a1, a2, -⟩ := id hq
  have hq0 : ¬ q = 0 := by omega
  have hc := hq.cm
  have kin : inG 7 (C q) = true := hc.1.1
  have a6 : I q 1 = nI 2 := hc.1.2.2.2.2.1
  have n0 : nI 2 = 2 := rfl
  have k76 : I 76 j = nI 2 := hq.2.2.2.2.1.2.2.2
  have c8 : C 8 = 4 := by unfold LayK at hK; simp [hK]
  have j0 : inb (nI j) 12 = true := by rw [inb_nI (by omega)]; simp; omega
  have jx := ix_nI (show j < 2 ^ 31 by omega)
  have hu := hq.un
  obtain ⟨bA, bB, bK, -⟩ := hq.bns
  have rm0 := hq.rm hM' (by omega)
  have zA := rm0.2.2.2.2.2.2.2.2.2.1
  have zB := rm0.2.2.2.2.2.2.2.2.2.2
  obtain ⟨R2, hR2⟩ : ∃ R2, R2 = u2 R 8 0 q := ⟨_, rfl⟩
  have r2n : ∀ i, i ≠ 8 → R2 i = R i := fun i h => by rw [hR2, u2_ne _ _ _ h]
  have hc' : CM C Z I R2 q 2 (I q 2) _ _ _ _ := hc.keep (fun _ _ => rfl) (fun i hi => r2n i (by omega))
  have hK2 : LayK C Z R2 := by rw [hR2]; unfold LayK at *; simp [hK, u2_rd]
  have hM2 : LayM C Z R2 := by rw [hR2]; exact hM'.look 8 q (by omega)
  have rr : R2 8 0 = q := by rw [hR2]; simp [u2_rd]
  have r1 : ∀ k, R2 1 k = R 1 k := fun k => by rw [r2n 1 (by omega)]
  have r74 : ∀ k, R2 74 k = R 74 k := fun k => by rw [r2n 74 (by omega)]
  have rq : ∀ k, R2 q k = R q k := fun k => by rw [r2n q (by omega)]
  have hr2 := rm0.keep (R' := R2) (I' := I) hM2 (fun _ _ _ => rfl)
  have isy := is_yesG hM2 hM12 hj n sl I
  have c73 : C 73 = 3 := by simp [hB]
  have hP : ∀ k, k < 2 → bn 100 ((fun k => if k = 0 then p0.toInt else if k = 1 then p1.toInt else p2.toInt) k) := fun k hk => by
    have cv : ∀ p : Int32, ¬ p < -100 → ¬ 100 < p → bn 100 p.toInt := fun p h1 h2 => by
      rw [Int32.lt_iff_toInt_lt] at h1 h2
      rw [show (-100 : Int32).toInt = -100 from by decide] at h1
      rw [show (100 : Int32).toInt = 100 from by decide] at h2
      unfold bn; omega
    rcases (by omega : k = 0 ∨ k = 1) with rfl | rfl
    · exact cv p0 q0.1 q0.2
    · exact cv p1 q1.1 q1.2
  obtain ⟨n1, n2, fe, de⟩ := gain_frac (P := (fun k => if k = 0 then p0.toInt else if k = 1 then p1.toInt else p2.toInt)) (by omega) hu zA (fun i hi hs => (zB i hi hs).1) hrk (show 0 < 2 by omega)
  simp [S72_0, S72_1, S72_2, S88_0, S88_1, S87_0, Call_in (k2 := 87), Call_in (k2 := 88), BS, ixs, inbs, le_nlt, hB, kin, a6, n0, c8, at_yesG hB' hM12 hj, e1, a1, hq0, q0, q1]
  refine c_at8 hc hK (fun L1 f1 lk => ?_)
  rw [← hR2]
  simp [S72_0, S72_1, S72_2, S88_0, S88_1, S87_0, Call_in (k2 := 87), Call_in (k2 := 88), BS, ixs, inbs, le_nlt, hB, kin, a6, n0, c8, r1, rr]
  refine c_reached hc' hK2 rr lk bA bB (fun r h1 h2 => ?_)
  have er := h2.uniq hrk
  subst er
  simp [S72_0, S72_1, S72_2, S88_0, S88_1, S87_0, Call_in (k2 := 87), Call_in (k2 := 88), BS, ixs, inbs, le_nlt, hB, kin, a6, n0, c8, r1, rr]
  refine c_gain_20 hc' hK2 rr lk p0 p1 p2 bA bB hu hP c73 n1 (fun L2 f2 v0 v1 => ?_)
  rw [fe] at v0
  rw [de] at v1
  simp [S72_0, S72_1, S72_2, S14_0, Call_in (k2 := 14), BS, ixs, inbs, hB, r1, c73, v0, v1]
  refine m_gain_20_1 hr2 hM12 hj e2 hu bA bB p0 p1 p2 q0 q1 hP hrk n2 (fun L3 f3 => ⟨rfl, ?_, by dsimp only; omega, by dsimp only; omega⟩)
  exact Inv_mk (h7.scr (fun i hi => by rw [f3 i (by omega) (by omega) (by omega) (by omega) (by omega) (by omega), f2 i (by omega) (by omega) (by omega) (by omega), f1 i (by omega)]) (fun _ _ => rfl) ⟨rfl, rfl, rfl⟩ (fun i k h1 _ => by rw [hR2, u2_rd, if_neg h1]))
set_option maxRecDepth 100000 in
set_option maxHeartbeats 8000000 in
theorem gain_yes_21_0 {n sl : Nat} {C Z : Nat → Nat} {I : Nat → Nat → Int32} {L : Nat → Nat → Int64} {R : Nat → Nat → Nat} {M rn t j q : Nat} (h7 : Inv7 n C Z I L R M rn t) (hj : j < M) (hq : MOK n C Z I R j q 2) (p0 p1 p2 : Int32) (q0 : ¬ p0 < -100 ∧ ¬ 100 < p0) (q1 : ¬ p1 < -100 ∧ ¬ 100 < p1) (hrk : IsRk (pw (fun i => (I (q + 1) i).toInt) (fun i => (I (q + 2) i).toInt)) 3 2) : Two 72 140 [some (.ref 1), some (.int (nI j)), some (.int p0), some (.int p1), some (.int p2), some (.int 1), some (.int 0), none] [some (.ref 74), some (.int (nI j)), some (.int p0), some (.int p1), some (.int p2), some (.int 1), some (.int 0), none, none, none, none] (n, sl, C, Z, I, L, R) := by
  obtain ⟨hM12, hn98, ⟨hB, hK, hO, hE, hM⟩, ⟨e1, e2⟩, -⟩ := id h7
  have hB' := hB
  have hM' := hM
  unfold LayB at hB
  unfold LayM at hM
  unfold Two
  obtain ⟨a1, a2, -⟩ := id hq
  have hq0 : ¬ q = 0 := by omega
  have hc := hq.cm
  have kin : inG 7 (C q) = true := hc.1.1
  have a6 : I q 1 = nI 2 := hc.1.2.2.2.2.1
  have n0 : nI 2 = 2 := rfl
  have k76 : I 76 j = nI 2 := hq.2.2.2.2.1.2.2.2
  have c8 : C 8 = 4 := by unfold LayK at hK; simp [hK]
  have j0 : inb (nI j) 12 = true := by rw [inb_nI (by omega)]; simp; omega
  have jx := ix_nI (show j < 2 ^ 31 by omega)
  have hu := hq.un
  obtain ⟨bA, bB, bK, -⟩ := hq.bns
  have rm0 := hq.rm hM' (by omega)
  have zA := rm0.2.2.2.2.2.2.2.2.2.1
  have zB := rm0.2.2.2.2.2.2.2.2.2.2
  obtain ⟨R2, hR2⟩ : ∃ R2, R2 = u2 R 8 0 q := ⟨_, rfl⟩
  have r2n : ∀ i, i ≠ 8 → R2 i = R i := fun i h => by rw [hR2, u2_ne _ _ _ h]
  have hc' : CM C Z I R2 q 2 (I q 2) _ _ _ _ := hc.keep (fun _ _ => rfl) (fun i hi => r2n i (by omega))
  have hK2 : LayK C Z R2 := by rw [hR2]; unfold LayK at *; simp [hK, u2_rd]
  have hM2 : LayM C Z R2 := by rw [hR2]; exact hM'.look 8 q (by omega)
  have rr : R2 8 0 = q := by rw [hR2]; simp [u2_rd]
  have r1 : ∀ k, R2 1 k = R 1 k := fun k => by rw [r2n 1 (by omega)]
  have r74 : ∀ k, R2 74 k = R 74 k := fun k => by rw [r2n 74 (by omega)]
  have rq : ∀ k, R2 q k = R q k := fun k => by rw [r2n q (by omega)]
  have hr2 := rm0.keep (R' := R2) (I' := I) hM2 (fun _ _ _ => rfl)
  have isy := is_yesG hM2 hM12 hj n sl I
  have c73 : C 73 = 3 := by simp [hB]
  have hP : ∀ k, k < 2 → bn 100 ((fun k => if k = 0 then p0.toInt else if k = 1 then p1.toInt else p2.toInt) k) := fun k hk => by
    have cv : ∀ p : Int32, ¬ p < -100 → ¬ 100 < p → bn 100 p.toInt := fun p h1 h2 => by
      rw [Int32.lt_iff_toInt_lt] at h1 h2
      rw [show (-100 : Int32).toInt = -100 from by decide] at h1
      rw [show (100 : Int32).toInt = 100 from by decide] at h2
      unfold bn; omega
    rcases (by omega : k = 0 ∨ k = 1) with rfl | rfl
    · exact cv p0 q0.1 q0.2
    · exact cv p1 q1.1 q1.2
  obtain ⟨n1, n2, fe, de⟩ := gain_frac (P := (fun k => if k = 0 then p0.toInt else if k = 1 then p1.toInt else p2.toInt)) (by omega) hu zA (fun i hi hs => (zB i hi hs).1) hrk (show 1 < 2 by omega)
  simp [S72_0, S72_1, S72_2, S88_0, S88_1, S87_0, Call_in (k2 := 87), Call_in (k2 := 88), BS, ixs, inbs, le_nlt, hB, kin, a6, n0, c8, at_yesG hB' hM12 hj, e1, a1, hq0, q0, q1]
  refine c_at8 hc hK (fun L1 f1 lk => ?_)
  rw [← hR2]
  simp [S72_0, S72_1, S72_2, S88_0, S88_1, S87_0, Call_in (k2 := 87), Call_in (k2 := 88), BS, ixs, inbs, le_nlt, hB, kin, a6, n0, c8, r1, rr]
  refine c_reached hc' hK2 rr lk bA bB (fun r h1 h2 => ?_)
  have er := h2.uniq hrk
  subst er
  simp [S72_0, S72_1, S72_2, S88_0, S88_1, S87_0, Call_in (k2 := 87), Call_in (k2 := 88), BS, ixs, inbs, le_nlt, hB, kin, a6, n0, c8, r1, rr]
  refine c_gain_21 hc' hK2 rr lk p0 p1 p2 bA bB hu hP c73 n1 (fun L2 f2 v0 v1 => ?_)
  rw [fe] at v0
  rw [de] at v1
  simp [S72_0, S72_1, S72_2, S14_0, Call_in (k2 := 14), BS, ixs, inbs, hB, r1, c73, v0, v1]
  refine m_gain_21_0 hr2 hM12 hj e2 hu bA bB p0 p1 p2 q0 q1 hP hrk n2 (fun L3 f3 => ⟨rfl, ?_, by dsimp only; omega, by dsimp only; omega⟩)
  exact Inv_mk (h7.scr (fun i hi => by rw [f3 i (by omega) (by omega) (by omega) (by omega) (by omega) (by omega), f2 i (by omega) (by omega) (by omega) (by omega), f1 i (by omega)]) (fun _ _ => rfl) ⟨rfl, rfl, rfl⟩ (fun i k h1 _ => by rw [hR2, u2_rd, if_neg h1]))
set_option maxRecDepth 100000 in
set_option maxHeartbeats 8000000 in
theorem gain_yes_21_1 {n sl : Nat} {C Z : Nat → Nat} {I : Nat → Nat → Int32} {L : Nat → Nat → Int64} {R : Nat → Nat → Nat} {M rn t j q : Nat} (h7 : Inv7 n C Z I L R M rn t) (hj : j < M) (hq : MOK n C Z I R j q 2) (p0 p1 p2 : Int32) (q0 : ¬ p0 < -100 ∧ ¬ 100 < p0) (q1 : ¬ p1 < -100 ∧ ¬ 100 < p1) (hrk : IsRk (pw (fun i => (I (q + 1) i).toInt) (fun i => (I (q + 2) i).toInt)) 3 2) : Two 72 140 [some (.ref 1), some (.int (nI j)), some (.int p0), some (.int p1), some (.int p2), some (.int 1), some (.int 1), none] [some (.ref 74), some (.int (nI j)), some (.int p0), some (.int p1), some (.int p2), some (.int 1), some (.int 1), none, none, none, none] (n, sl, C, Z, I, L, R) := by
  obtain ⟨hM12, hn98, ⟨hB, hK, hO, hE, hM⟩, ⟨e1, e2⟩, -⟩ := id h7
  have hB' := hB
  have hM' := hM
  unfold LayB at hB
  unfold LayM at hM
  unfold Two
  obtain ⟨a1, a2, -⟩ := id hq
  have hq0 : ¬ q = 0 := by omega
  have hc := hq.cm
  have kin : inG 7 (C q) = true := hc.1.1
  have a6 : I q 1 = nI 2 := hc.1.2.2.2.2.1
  have n0 : nI 2 = 2 := rfl
  have k76 : I 76 j = nI 2 := hq.2.2.2.2.1.2.2.2
  have c8 : C 8 = 4 := by unfold LayK at hK; simp [hK]
  have j0 : inb (nI j) 12 = true := by rw [inb_nI (by omega)]; simp; omega
  have jx := ix_nI (show j < 2 ^ 31 by omega)
  have hu := hq.un
  obtain ⟨bA, bB, bK, -⟩ := hq.bns
  have rm0 := hq.rm hM' (by omega)
  have zA := rm0.2.2.2.2.2.2.2.2.2.1
  have zB := rm0.2.2.2.2.2.2.2.2.2.2
  obtain ⟨R2, hR2⟩ : ∃ R2, R2 = u2 R 8 0 q := ⟨_, rfl⟩
  have r2n : ∀ i, i ≠ 8 → R2 i = R i := fun i h => by rw [hR2, u2_ne _ _ _ h]
  have hc' : CM C Z I R2 q 2 (I q 2) _ _ _ _ := hc.keep (fun _ _ => rfl) (fun i hi => r2n i (by omega))
  have hK2 : LayK C Z R2 := by rw [hR2]; unfold LayK at *; simp [hK, u2_rd]
  have hM2 : LayM C Z R2 := by rw [hR2]; exact hM'.look 8 q (by omega)
  have rr : R2 8 0 = q := by rw [hR2]; simp [u2_rd]
  have r1 : ∀ k, R2 1 k = R 1 k := fun k => by rw [r2n 1 (by omega)]
  have r74 : ∀ k, R2 74 k = R 74 k := fun k => by rw [r2n 74 (by omega)]
  have rq : ∀ k, R2 q k = R q k := fun k => by rw [r2n q (by omega)]
  have hr2 := rm0.keep (R' := R2) (I' := I) hM2 (fun _ _ _ => rfl)
  have isy := is_yesG hM2 hM12 hj n sl I
  have c73 : C 73 = 3 := by simp [hB]
  have hP : ∀ k, k < 2 → bn 100 ((fun k => if k = 0 then p0.toInt else if k = 1 then p1.toInt else p2.toInt) k) := fun k hk => by
    have cv : ∀ p : Int32, ¬ p < -100 → ¬ 100 < p → bn 100 p.toInt := fun p h1 h2 => by
      rw [Int32.lt_iff_toInt_lt] at h1 h2
      rw [show (-100 : Int32).toInt = -100 from by decide] at h1
      rw [show (100 : Int32).toInt = 100 from by decide] at h2
      unfold bn; omega
    rcases (by omega : k = 0 ∨ k = 1) with rfl | rfl
    · exact cv p0 q0.1 q0.2
    · exact cv p1 q1.1 q1.2
  obtain ⟨n1, n2, fe, de⟩ := gain_frac (P := (fun k => if k = 0 then p0.toInt else if k = 1 then p1.toInt else p2.toInt)) (by omega) hu zA (fun i hi hs => (zB i hi hs).1) hrk (show 1 < 2 by omega)
  simp [S72_0, S72_1, S72_2, S88_0, S88_1, S87_0, Call_in (k2 := 87), Call_in (k2 := 88), BS, ixs, inbs, le_nlt, hB, kin, a6, n0, c8, at_yesG hB' hM12 hj, e1, a1, hq0, q0, q1]
  refine c_at8 hc hK (fun L1 f1 lk => ?_)
  rw [← hR2]
  simp [S72_0, S72_1, S72_2, S88_0, S88_1, S87_0, Call_in (k2 := 87), Call_in (k2 := 88), BS, ixs, inbs, le_nlt, hB, kin, a6, n0, c8, r1, rr]
  refine c_reached hc' hK2 rr lk bA bB (fun r h1 h2 => ?_)
  have er := h2.uniq hrk
  subst er
  simp [S72_0, S72_1, S72_2, S88_0, S88_1, S87_0, Call_in (k2 := 87), Call_in (k2 := 88), BS, ixs, inbs, le_nlt, hB, kin, a6, n0, c8, r1, rr]
  refine c_gain_21 hc' hK2 rr lk p0 p1 p2 bA bB hu hP c73 n1 (fun L2 f2 v0 v1 => ?_)
  rw [fe] at v0
  rw [de] at v1
  simp [S72_0, S72_1, S72_2, S14_0, Call_in (k2 := 14), BS, ixs, inbs, hB, r1, c73, v0, v1]
  refine m_gain_21_1 hr2 hM12 hj e2 hu bA bB p0 p1 p2 q0 q1 hP hrk n2 (fun L3 f3 => ⟨rfl, ?_, by dsimp only; omega, by dsimp only; omega⟩)
  exact Inv_mk (h7.scr (fun i hi => by rw [f3 i (by omega) (by omega) (by omega) (by omega) (by omega) (by omega), f2 i (by omega) (by omega) (by omega) (by omega), f1 i (by omega)]) (fun _ _ => rfl) ⟨rfl, rfl, rfl⟩ (fun i k h1 _ => by rw [hR2, u2_rd, if_neg h1]))
set_option maxRecDepth 100000 in
set_option maxHeartbeats 8000000 in
theorem gain_yes_30_0 {n sl : Nat} {C Z : Nat → Nat} {I : Nat → Nat → Int32} {L : Nat → Nat → Int64} {R : Nat → Nat → Nat} {M rn t j q : Nat} (h7 : Inv7 n C Z I L R M rn t) (hj : j < M) (hq : MOK n C Z I R j q 3) (p0 p1 p2 : Int32) (q0 : ¬ p0 < -100 ∧ ¬ 100 < p0) (q1 : ¬ p1 < -100 ∧ ¬ 100 < p1) (q2 : ¬ p2 < -100 ∧ ¬ 100 < p2) (hrk : IsRk (pw (fun i => (I (q + 1) i).toInt) (fun i => (I (q + 2) i).toInt)) 3 3) : Two 72 140 [some (.ref 1), some (.int (nI j)), some (.int p0), some (.int p1), some (.int p2), some (.int 0), some (.int 0), none] [some (.ref 74), some (.int (nI j)), some (.int p0), some (.int p1), some (.int p2), some (.int 0), some (.int 0), none, none, none, none] (n, sl, C, Z, I, L, R) := by
  obtain ⟨hM12, hn98, ⟨hB, hK, hO, hE, hM⟩, ⟨e1, e2⟩, -⟩ := id h7
  have hB' := hB
  have hM' := hM
  unfold LayB at hB
  unfold LayM at hM
  unfold Two
  obtain ⟨a1, a2, -⟩ := id hq
  have hq0 : ¬ q = 0 := by omega
  have hc := hq.cm
  have kin : inG 7 (C q) = true := hc.1.1
  have a6 : I q 1 = nI 3 := hc.1.2.2.2.2.1
  have n0 : nI 3 = 3 := rfl
  have k76 : I 76 j = nI 3 := hq.2.2.2.2.1.2.2.2
  have c8 : C 8 = 4 := by unfold LayK at hK; simp [hK]
  have j0 : inb (nI j) 12 = true := by rw [inb_nI (by omega)]; simp; omega
  have jx := ix_nI (show j < 2 ^ 31 by omega)
  have hu := hq.un
  obtain ⟨bA, bB, bK, -⟩ := hq.bns
  have rm0 := hq.rm hM' (by omega)
  have zA := rm0.2.2.2.2.2.2.2.2.2.1
  have zB := rm0.2.2.2.2.2.2.2.2.2.2
  obtain ⟨R2, hR2⟩ : ∃ R2, R2 = u2 R 8 0 q := ⟨_, rfl⟩
  have r2n : ∀ i, i ≠ 8 → R2 i = R i := fun i h => by rw [hR2, u2_ne _ _ _ h]
  have hc' : CM C Z I R2 q 3 (I q 2) _ _ _ _ := hc.keep (fun _ _ => rfl) (fun i hi => r2n i (by omega))
  have hK2 : LayK C Z R2 := by rw [hR2]; unfold LayK at *; simp [hK, u2_rd]
  have hM2 : LayM C Z R2 := by rw [hR2]; exact hM'.look 8 q (by omega)
  have rr : R2 8 0 = q := by rw [hR2]; simp [u2_rd]
  have r1 : ∀ k, R2 1 k = R 1 k := fun k => by rw [r2n 1 (by omega)]
  have r74 : ∀ k, R2 74 k = R 74 k := fun k => by rw [r2n 74 (by omega)]
  have rq : ∀ k, R2 q k = R q k := fun k => by rw [r2n q (by omega)]
  have hr2 := rm0.keep (R' := R2) (I' := I) hM2 (fun _ _ _ => rfl)
  have isy := is_yesG hM2 hM12 hj n sl I
  have c73 : C 73 = 3 := by simp [hB]
  have hP : ∀ k, k < 3 → bn 100 ((fun k => if k = 0 then p0.toInt else if k = 1 then p1.toInt else p2.toInt) k) := fun k hk => by
    have cv : ∀ p : Int32, ¬ p < -100 → ¬ 100 < p → bn 100 p.toInt := fun p h1 h2 => by
      rw [Int32.lt_iff_toInt_lt] at h1 h2
      rw [show (-100 : Int32).toInt = -100 from by decide] at h1
      rw [show (100 : Int32).toInt = 100 from by decide] at h2
      unfold bn; omega
    rcases (by omega : k = 0 ∨ k = 1 ∨ k = 2) with rfl | rfl | rfl
    · exact cv p0 q0.1 q0.2
    · exact cv p1 q1.1 q1.2
    · exact cv p2 q2.1 q2.2
  obtain ⟨n1, n2, fe, de⟩ := gain_frac (P := (fun k => if k = 0 then p0.toInt else if k = 1 then p1.toInt else p2.toInt)) (by omega) hu zA (fun i hi hs => (zB i hi hs).1) hrk (show 0 < 3 by omega)
  simp [S72_0, S72_1, S72_2, S88_0, S88_1, S87_0, Call_in (k2 := 87), Call_in (k2 := 88), BS, ixs, inbs, le_nlt, hB, kin, a6, n0, c8, at_yesG hB' hM12 hj, e1, a1, hq0, q0, q1, q2]
  refine c_at8 hc hK (fun L1 f1 lk => ?_)
  rw [← hR2]
  simp [S72_0, S72_1, S72_2, S88_0, S88_1, S87_0, Call_in (k2 := 87), Call_in (k2 := 88), BS, ixs, inbs, le_nlt, hB, kin, a6, n0, c8, r1, rr]
  refine c_reached hc' hK2 rr lk bA bB (fun r h1 h2 => ?_)
  have er := h2.uniq hrk
  subst er
  simp [S72_0, S72_1, S72_2, S88_0, S88_1, S87_0, Call_in (k2 := 87), Call_in (k2 := 88), BS, ixs, inbs, le_nlt, hB, kin, a6, n0, c8, r1, rr]
  refine c_gain_30 hc' hK2 rr lk p0 p1 p2 bA bB hu hP c73 n1 (fun L2 f2 v0 v1 => ?_)
  rw [fe] at v0
  rw [de] at v1
  simp [S72_0, S72_1, S72_2, S14_0, Call_in (k2 := 14), BS, ixs, inbs, hB, r1, c73, v0, v1]
  refine m_gain_30_0 hr2 hM12 hj e2 hu bA bB p0 p1 p2 q0 q1 q2 hP hrk n2 (fun L3 f3 => ⟨rfl, ?_, by dsimp only; omega, by dsimp only; omega⟩)
  exact Inv_mk (h7.scr (fun i hi => by rw [f3 i (by omega) (by omega) (by omega) (by omega) (by omega) (by omega), f2 i (by omega) (by omega) (by omega) (by omega), f1 i (by omega)]) (fun _ _ => rfl) ⟨rfl, rfl, rfl⟩ (fun i k h1 _ => by rw [hR2, u2_rd, if_neg h1]))
set_option maxRecDepth 100000 in
set_option maxHeartbeats 8000000 in
theorem gain_yes_30_1 {n sl : Nat} {C Z : Nat → Nat} {I : Nat → Nat → Int32} {L : Nat → Nat → Int64} {R : Nat → Nat → Nat} {M rn t j q : Nat} (h7 : Inv7 n C Z I L R M rn t) (hj : j < M) (hq : MOK n C Z I R j q 3) (p0 p1 p2 : Int32) (q0 : ¬ p0 < -100 ∧ ¬ 100 < p0) (q1 : ¬ p1 < -100 ∧ ¬ 100 < p1) (q2 : ¬ p2 < -100 ∧ ¬ 100 < p2) (hrk : IsRk (pw (fun i => (I (q + 1) i).toInt) (fun i => (I (q + 2) i).toInt)) 3 3) : Two 72 140 [some (.ref 1), some (.int (nI j)), some (.int p0), some (.int p1), some (.int p2), some (.int 0), some (.int 1), none] [some (.ref 74), some (.int (nI j)), some (.int p0), some (.int p1), some (.int p2), some (.int 0), some (.int 1), none, none, none, none] (n, sl, C, Z, I, L, R) := by
  obtain ⟨hM12, hn98, ⟨hB, hK, hO, hE, hM⟩, ⟨e1, e2⟩, -⟩ := id h7
  have hB' := hB
  have hM' := hM
  unfold LayB at hB
  unfold LayM at hM
  unfold Two
  obtain ⟨a1, a2, -⟩ := id hq
  have hq0 : ¬ q = 0 := by omega
  have hc := hq.cm
  have kin : inG 7 (C q) = true := hc.1.1
  have a6 : I q 1 = nI 3 := hc.1.2.2.2.2.1
  have n0 : nI 3 = 3 := rfl
  have k76 : I 76 j = nI 3 := hq.2.2.2.2.1.2.2.2
  have c8 : C 8 = 4 := by unfold LayK at hK; simp [hK]
  have j0 : inb (nI j) 12 = true := by rw [inb_nI (by omega)]; simp; omega
  have jx := ix_nI (show j < 2 ^ 31 by omega)
  have hu := hq.un
  obtain ⟨bA, bB, bK, -⟩ := hq.bns
  have rm0 := hq.rm hM' (by omega)
  have zA := rm0.2.2.2.2.2.2.2.2.2.1
  have zB := rm0.2.2.2.2.2.2.2.2.2.2
  obtain ⟨R2, hR2⟩ : ∃ R2, R2 = u2 R 8 0 q := ⟨_, rfl⟩
  have r2n : ∀ i, i ≠ 8 → R2 i = R i := fun i h => by rw [hR2, u2_ne _ _ _ h]
  have hc' : CM C Z I R2 q 3 (I q 2) _ _ _ _ := hc.keep (fun _ _ => rfl) (fun i hi => r2n i (by omega))
  have hK2 : LayK C Z R2 := by rw [hR2]; unfold LayK at *; simp [hK, u2_rd]
  have hM2 : LayM C Z R2 := by rw [hR2]; exact hM'.look 8 q (by omega)
  have rr : R2 8 0 = q := by rw [hR2]; simp [u2_rd]
  have r1 : ∀ k, R2 1 k = R 1 k := fun k => by rw [r2n 1 (by omega)]
  have r74 : ∀ k, R2 74 k = R 74 k := fun k => by rw [r2n 74 (by omega)]
  have rq : ∀ k, R2 q k = R q k := fun k => by rw [r2n q (by omega)]
  have hr2 := rm0.keep (R' := R2) (I' := I) hM2 (fun _ _ _ => rfl)
  have isy := is_yesG hM2 hM12 hj n sl I
  have c73 : C 73 = 3 := by simp [hB]
  have hP : ∀ k, k < 3 → bn 100 ((fun k => if k = 0 then p0.toInt else if k = 1 then p1.toInt else p2.toInt) k) := fun k hk => by
    have cv : ∀ p : Int32, ¬ p < -100 → ¬ 100 < p → bn 100 p.toInt := fun p h1 h2 => by
      rw [Int32.lt_iff_toInt_lt] at h1 h2
      rw [show (-100 : Int32).toInt = -100 from by decide] at h1
      rw [show (100 : Int32).toInt = 100 from by decide] at h2
      unfold bn; omega
    rcases (by omega : k = 0 ∨ k = 1 ∨ k = 2) with rfl | rfl | rfl
    · exact cv p0 q0.1 q0.2
    · exact cv p1 q1.1 q1.2
    · exact cv p2 q2.1 q2.2
  obtain ⟨n1, n2, fe, de⟩ := gain_frac (P := (fun k => if k = 0 then p0.toInt else if k = 1 then p1.toInt else p2.toInt)) (by omega) hu zA (fun i hi hs => (zB i hi hs).1) hrk (show 0 < 3 by omega)
  simp [S72_0, S72_1, S72_2, S88_0, S88_1, S87_0, Call_in (k2 := 87), Call_in (k2 := 88), BS, ixs, inbs, le_nlt, hB, kin, a6, n0, c8, at_yesG hB' hM12 hj, e1, a1, hq0, q0, q1, q2]
  refine c_at8 hc hK (fun L1 f1 lk => ?_)
  rw [← hR2]
  simp [S72_0, S72_1, S72_2, S88_0, S88_1, S87_0, Call_in (k2 := 87), Call_in (k2 := 88), BS, ixs, inbs, le_nlt, hB, kin, a6, n0, c8, r1, rr]
  refine c_reached hc' hK2 rr lk bA bB (fun r h1 h2 => ?_)
  have er := h2.uniq hrk
  subst er
  simp [S72_0, S72_1, S72_2, S88_0, S88_1, S87_0, Call_in (k2 := 87), Call_in (k2 := 88), BS, ixs, inbs, le_nlt, hB, kin, a6, n0, c8, r1, rr]
  refine c_gain_30 hc' hK2 rr lk p0 p1 p2 bA bB hu hP c73 n1 (fun L2 f2 v0 v1 => ?_)
  rw [fe] at v0
  rw [de] at v1
  simp [S72_0, S72_1, S72_2, S14_0, Call_in (k2 := 14), BS, ixs, inbs, hB, r1, c73, v0, v1]
  refine m_gain_30_1 hr2 hM12 hj e2 hu bA bB p0 p1 p2 q0 q1 q2 hP hrk n2 (fun L3 f3 => ⟨rfl, ?_, by dsimp only; omega, by dsimp only; omega⟩)
  exact Inv_mk (h7.scr (fun i hi => by rw [f3 i (by omega) (by omega) (by omega) (by omega) (by omega) (by omega), f2 i (by omega) (by omega) (by omega) (by omega), f1 i (by omega)]) (fun _ _ => rfl) ⟨rfl, rfl, rfl⟩ (fun i k h1 _ => by rw [hR2, u2_rd, if_neg h1]))
set_option maxRecDepth 100000 in
set_option maxHeartbeats 8000000 in
theorem gain_yes_31_0 {n sl : Nat} {C Z : Nat → Nat} {I : Nat → Nat → Int32} {L : Nat → Nat → Int64} {R : Nat → Nat → Nat} {M rn t j q : Nat} (h7 : Inv7 n C Z I L R M rn t) (hj : j < M) (hq : MOK n C Z I R j q 3) (p0 p1 p2 : Int32) (q0 : ¬ p0 < -100 ∧ ¬ 100 < p0) (q1 : ¬ p1 < -100 ∧ ¬ 100 < p1) (q2 : ¬ p2 < -100 ∧ ¬ 100 < p2) (hrk : IsRk (pw (fun i => (I (q + 1) i).toInt) (fun i => (I (q + 2) i).toInt)) 3 3) : Two 72 140 [some (.ref 1), some (.int (nI j)), some (.int p0), some (.int p1), some (.int p2), some (.int 1), some (.int 0), none] [some (.ref 74), some (.int (nI j)), some (.int p0), some (.int p1), some (.int p2), some (.int 1), some (.int 0), none, none, none, none] (n, sl, C, Z, I, L, R) := by
  obtain ⟨hM12, hn98, ⟨hB, hK, hO, hE, hM⟩, ⟨e1, e2⟩, -⟩ := id h7
  have hB' := hB
  have hM' := hM
  unfold LayB at hB
  unfold LayM at hM
  unfold Two
  obtain ⟨a1, a2, -⟩ := id hq
  have hq0 : ¬ q = 0 := by omega
  have hc := hq.cm
  have kin : inG 7 (C q) = true := hc.1.1
  have a6 : I q 1 = nI 3 := hc.1.2.2.2.2.1
  have n0 : nI 3 = 3 := rfl
  have k76 : I 76 j = nI 3 := hq.2.2.2.2.1.2.2.2
  have c8 : C 8 = 4 := by unfold LayK at hK; simp [hK]
  have j0 : inb (nI j) 12 = true := by rw [inb_nI (by omega)]; simp; omega
  have jx := ix_nI (show j < 2 ^ 31 by omega)
  have hu := hq.un
  obtain ⟨bA, bB, bK, -⟩ := hq.bns
  have rm0 := hq.rm hM' (by omega)
  have zA := rm0.2.2.2.2.2.2.2.2.2.1
  have zB := rm0.2.2.2.2.2.2.2.2.2.2
  obtain ⟨R2, hR2⟩ : ∃ R2, R2 = u2 R 8 0 q := ⟨_, rfl⟩
  have r2n : ∀ i, i ≠ 8 → R2 i = R i := fun i h => by rw [hR2, u2_ne _ _ _ h]
  have hc' : CM C Z I R2 q 3 (I q 2) _ _ _ _ := hc.keep (fun _ _ => rfl) (fun i hi => r2n i (by omega))
  have hK2 : LayK C Z R2 := by rw [hR2]; unfold LayK at *; simp [hK, u2_rd]
  have hM2 : LayM C Z R2 := by rw [hR2]; exact hM'.look 8 q (by omega)
  have rr : R2 8 0 = q := by rw [hR2]; simp [u2_rd]
  have r1 : ∀ k, R2 1 k = R 1 k := fun k => by rw [r2n 1 (by omega)]
  have r74 : ∀ k, R2 74 k = R 74 k := fun k => by rw [r2n 74 (by omega)]
  have rq : ∀ k, R2 q k = R q k := fun k => by rw [r2n q (by omega)]
  have hr2 := rm0.keep (R' := R2) (I' := I) hM2 (fun _ _ _ => rfl)
  have isy := is_yesG hM2 hM12 hj n sl I
  have c73 : C 73 = 3 := by simp [hB]
  have hP : ∀ k, k < 3 → bn 100 ((fun k => if k = 0 then p0.toInt else if k = 1 then p1.toInt else p2.toInt) k) := fun k hk => by
    have cv : ∀ p : Int32, ¬ p < -100 → ¬ 100 < p → bn 100 p.toInt := fun p h1 h2 => by
      rw [Int32.lt_iff_toInt_lt] at h1 h2
      rw [show (-100 : Int32).toInt = -100 from by decide] at h1
      rw [show (100 : Int32).toInt = 100 from by decide] at h2
      unfold bn; omega
    rcases (by omega : k = 0 ∨ k = 1 ∨ k = 2) with rfl | rfl | rfl
    · exact cv p0 q0.1 q0.2
    · exact cv p1 q1.1 q1.2
    · exact cv p2 q2.1 q2.2
  obtain ⟨n1, n2, fe, de⟩ := gain_frac (P := (fun k => if k = 0 then p0.toInt else if k = 1 then p1.toInt else p2.toInt)) (by omega) hu zA (fun i hi hs => (zB i hi hs).1) hrk (show 1 < 3 by omega)
  simp [S72_0, S72_1, S72_2, S88_0, S88_1, S87_0, Call_in (k2 := 87), Call_in (k2 := 88), BS, ixs, inbs, le_nlt, hB, kin, a6, n0, c8, at_yesG hB' hM12 hj, e1, a1, hq0, q0, q1, q2]
  refine c_at8 hc hK (fun L1 f1 lk => ?_)
  rw [← hR2]
  simp [S72_0, S72_1, S72_2, S88_0, S88_1, S87_0, Call_in (k2 := 87), Call_in (k2 := 88), BS, ixs, inbs, le_nlt, hB, kin, a6, n0, c8, r1, rr]
  refine c_reached hc' hK2 rr lk bA bB (fun r h1 h2 => ?_)
  have er := h2.uniq hrk
  subst er
  simp [S72_0, S72_1, S72_2, S88_0, S88_1, S87_0, Call_in (k2 := 87), Call_in (k2 := 88), BS, ixs, inbs, le_nlt, hB, kin, a6, n0, c8, r1, rr]
  refine c_gain_31 hc' hK2 rr lk p0 p1 p2 bA bB hu hP c73 n1 (fun L2 f2 v0 v1 => ?_)
  rw [fe] at v0
  rw [de] at v1
  simp [S72_0, S72_1, S72_2, S14_0, Call_in (k2 := 14), BS, ixs, inbs, hB, r1, c73, v0, v1]
  refine m_gain_31_0 hr2 hM12 hj e2 hu bA bB p0 p1 p2 q0 q1 q2 hP hrk n2 (fun L3 f3 => ⟨rfl, ?_, by dsimp only; omega, by dsimp only; omega⟩)
  exact Inv_mk (h7.scr (fun i hi => by rw [f3 i (by omega) (by omega) (by omega) (by omega) (by omega) (by omega), f2 i (by omega) (by omega) (by omega) (by omega), f1 i (by omega)]) (fun _ _ => rfl) ⟨rfl, rfl, rfl⟩ (fun i k h1 _ => by rw [hR2, u2_rd, if_neg h1]))
set_option maxRecDepth 100000 in
set_option maxHeartbeats 8000000 in
theorem gain_yes_31_1 {n sl : Nat} {C Z : Nat → Nat} {I : Nat → Nat → Int32} {L : Nat → Nat → Int64} {R : Nat → Nat → Nat} {M rn t j q : Nat} (h7 : Inv7 n C Z I L R M rn t) (hj : j < M) (hq : MOK n C Z I R j q 3) (p0 p1 p2 : Int32) (q0 : ¬ p0 < -100 ∧ ¬ 100 < p0) (q1 : ¬ p1 < -100 ∧ ¬ 100 < p1) (q2 : ¬ p2 < -100 ∧ ¬ 100 < p2) (hrk : IsRk (pw (fun i => (I (q + 1) i).toInt) (fun i => (I (q + 2) i).toInt)) 3 3) : Two 72 140 [some (.ref 1), some (.int (nI j)), some (.int p0), some (.int p1), some (.int p2), some (.int 1), some (.int 1), none] [some (.ref 74), some (.int (nI j)), some (.int p0), some (.int p1), some (.int p2), some (.int 1), some (.int 1), none, none, none, none] (n, sl, C, Z, I, L, R) := by
  obtain ⟨hM12, hn98, ⟨hB, hK, hO, hE, hM⟩, ⟨e1, e2⟩, -⟩ := id h7
  have hB' := hB
  have hM' := hM
  unfold LayB at hB
  unfold LayM at hM
  unfold Two
  obtain ⟨a1, a2, -⟩ := id hq
  have hq0 : ¬ q = 0 := by omega
  have hc := hq.cm
  have kin : inG 7 (C q) = true := hc.1.1
  have a6 : I q 1 = nI 3 := hc.1.2.2.2.2.1
  have n0 : nI 3 = 3 := rfl
  have k76 : I 76 j = nI 3 := hq.2.2.2.2.1.2.2.2
  have c8 : C 8 = 4 := by unfold LayK at hK; simp [hK]
  have j0 : inb (nI j) 12 = true := by rw [inb_nI (by omega)]; simp; omega
  have jx := ix_nI (show j < 2 ^ 31 by omega)
  have hu := hq.un
  obtain ⟨bA, bB, bK, -⟩ := hq.bns
  have rm0 := hq.rm hM' (by omega)
  have zA := rm0.2.2.2.2.2.2.2.2.2.1
  have zB := rm0.2.2.2.2.2.2.2.2.2.2
  obtain ⟨R2, hR2⟩ : ∃ R2, R2 = u2 R 8 0 q := ⟨_, rfl⟩
  have r2n : ∀ i, i ≠ 8 → R2 i = R i := fun i h => by rw [hR2, u2_ne _ _ _ h]
  have hc' : CM C Z I R2 q 3 (I q 2) _ _ _ _ := hc.keep (fun _ _ => rfl) (fun i hi => r2n i (by omega))
  have hK2 : LayK C Z R2 := by rw [hR2]; unfold LayK at *; simp [hK, u2_rd]
  have hM2 : LayM C Z R2 := by rw [hR2]; exact hM'.look 8 q (by omega)
  have rr : R2 8 0 = q := by rw [hR2]; simp [u2_rd]
  have r1 : ∀ k, R2 1 k = R 1 k := fun k => by rw [r2n 1 (by omega)]
  have r74 : ∀ k, R2 74 k = R 74 k := fun k => by rw [r2n 74 (by omega)]
  have rq : ∀ k, R2 q k = R q k := fun k => by rw [r2n q (by omega)]
  have hr2 := rm0.keep (R' := R2) (I' := I) hM2 (fun _ _ _ => rfl)
  have isy := is_yesG hM2 hM12 hj n sl I
  have c73 : C 73 = 3 := by simp [hB]
  have hP : ∀ k, k < 3 → bn 100 ((fun k => if k = 0 then p0.toInt else if k = 1 then p1.toInt else p2.toInt) k) := fun k hk => by
    have cv : ∀ p : Int32, ¬ p < -100 → ¬ 100 < p → bn 100 p.toInt := fun p h1 h2 => by
      rw [Int32.lt_iff_toInt_lt] at h1 h2
      rw [show (-100 : Int32).toInt = -100 from by decide] at h1
      rw [show (100 : Int32).toInt = 100 from by decide] at h2
      unfold bn; omega
    rcases (by omega : k = 0 ∨ k = 1 ∨ k = 2) with rfl | rfl | rfl
    · exact cv p0 q0.1 q0.2
    · exact cv p1 q1.1 q1.2
    · exact cv p2 q2.1 q2.2
  obtain ⟨n1, n2, fe, de⟩ := gain_frac (P := (fun k => if k = 0 then p0.toInt else if k = 1 then p1.toInt else p2.toInt)) (by omega) hu zA (fun i hi hs => (zB i hi hs).1) hrk (show 1 < 3 by omega)
  simp [S72_0, S72_1, S72_2, S88_0, S88_1, S87_0, Call_in (k2 := 87), Call_in (k2 := 88), BS, ixs, inbs, le_nlt, hB, kin, a6, n0, c8, at_yesG hB' hM12 hj, e1, a1, hq0, q0, q1, q2]
  refine c_at8 hc hK (fun L1 f1 lk => ?_)
  rw [← hR2]
  simp [S72_0, S72_1, S72_2, S88_0, S88_1, S87_0, Call_in (k2 := 87), Call_in (k2 := 88), BS, ixs, inbs, le_nlt, hB, kin, a6, n0, c8, r1, rr]
  refine c_reached hc' hK2 rr lk bA bB (fun r h1 h2 => ?_)
  have er := h2.uniq hrk
  subst er
  simp [S72_0, S72_1, S72_2, S88_0, S88_1, S87_0, Call_in (k2 := 87), Call_in (k2 := 88), BS, ixs, inbs, le_nlt, hB, kin, a6, n0, c8, r1, rr]
  refine c_gain_31 hc' hK2 rr lk p0 p1 p2 bA bB hu hP c73 n1 (fun L2 f2 v0 v1 => ?_)
  rw [fe] at v0
  rw [de] at v1
  simp [S72_0, S72_1, S72_2, S14_0, Call_in (k2 := 14), BS, ixs, inbs, hB, r1, c73, v0, v1]
  refine m_gain_31_1 hr2 hM12 hj e2 hu bA bB p0 p1 p2 q0 q1 q2 hP hrk n2 (fun L3 f3 => ⟨rfl, ?_, by dsimp only; omega, by dsimp only; omega⟩)
  exact Inv_mk (h7.scr (fun i hi => by rw [f3 i (by omega) (by omega) (by omega) (by omega) (by omega) (by omega), f2 i (by omega) (by omega) (by omega) (by omega), f1 i (by omega)]) (fun _ _ => rfl) ⟨rfl, rfl, rfl⟩ (fun i k h1 _ => by rw [hR2, u2_rd, if_neg h1]))
set_option maxRecDepth 100000 in
set_option maxHeartbeats 8000000 in
theorem gain_yes_32_0 {n sl : Nat} {C Z : Nat → Nat} {I : Nat → Nat → Int32} {L : Nat → Nat → Int64} {R : Nat → Nat → Nat} {M rn t j q : Nat} (h7 : Inv7 n C Z I L R M rn t) (hj : j < M) (hq : MOK n C Z I R j q 3) (p0 p1 p2 : Int32) (q0 : ¬ p0 < -100 ∧ ¬ 100 < p0) (q1 : ¬ p1 < -100 ∧ ¬ 100 < p1) (q2 : ¬ p2 < -100 ∧ ¬ 100 < p2) (hrk : IsRk (pw (fun i => (I (q + 1) i).toInt) (fun i => (I (q + 2) i).toInt)) 3 3) : Two 72 140 [some (.ref 1), some (.int (nI j)), some (.int p0), some (.int p1), some (.int p2), some (.int 2), some (.int 0), none] [some (.ref 74), some (.int (nI j)), some (.int p0), some (.int p1), some (.int p2), some (.int 2), some (.int 0), none, none, none, none] (n, sl, C, Z, I, L, R) := by
  obtain ⟨hM12, hn98, ⟨hB, hK, hO, hE, hM⟩, ⟨e1, e2⟩, -⟩ := id h7
  have hB' := hB
  have hM' := hM
  unfold LayB at hB
  unfold LayM at hM
  unfold Two
  obtain ⟨a1, a2, -⟩ := id hq
  have hq0 : ¬ q = 0 := by omega
  have hc := hq.cm
  have kin : inG 7 (C q) = true := hc.1.1
  have a6 : I q 1 = nI 3 := hc.1.2.2.2.2.1
  have n0 : nI 3 = 3 := rfl
  have k76 : I 76 j = nI 3 := hq.2.2.2.2.1.2.2.2
  have c8 : C 8 = 4 := by unfold LayK at hK; simp [hK]
  have j0 : inb (nI j) 12 = true := by rw [inb_nI (by omega)]; simp; omega
  have jx := ix_nI (show j < 2 ^ 31 by omega)
  have hu := hq.un
  obtain ⟨bA, bB, bK, -⟩ := hq.bns
  have rm0 := hq.rm hM' (by omega)
  have zA := rm0.2.2.2.2.2.2.2.2.2.1
  have zB := rm0.2.2.2.2.2.2.2.2.2.2
  obtain ⟨R2, hR2⟩ : ∃ R2, R2 = u2 R 8 0 q := ⟨_, rfl⟩
  have r2n : ∀ i, i ≠ 8 → R2 i = R i := fun i h => by rw [hR2, u2_ne _ _ _ h]
  have hc' : CM C Z I R2 q 3 (I q 2) _ _ _ _ := hc.keep (fun _ _ => rfl) (fun i hi => r2n i (by omega))
  have hK2 : LayK C Z R2 := by rw [hR2]; unfold LayK at *; simp [hK, u2_rd]
  have hM2 : LayM C Z R2 := by rw [hR2]; exact hM'.look 8 q (by omega)
  have rr : R2 8 0 = q := by rw [hR2]; simp [u2_rd]
  have r1 : ∀ k, R2 1 k = R 1 k := fun k => by rw [r2n 1 (by omega)]
  have r74 : ∀ k, R2 74 k = R 74 k := fun k => by rw [r2n 74 (by omega)]
  have rq : ∀ k, R2 q k = R q k := fun k => by rw [r2n q (by omega)]
  have hr2 := rm0.keep (R' := R2) (I' := I) hM2 (fun _ _ _ => rfl)
  have isy := is_yesG hM2 hM12 hj n sl I
  have c73 : C 73 = 3 := by simp [hB]
  have hP : ∀ k, k < 3 → bn 100 ((fun k => if k = 0 then p0.toInt else if k = 1 then p1.toInt else p2.toInt) k) := fun k hk => by
    have cv : ∀ p : Int32, ¬ p < -100 → ¬ 100 < p → bn 100 p.toInt := fun p h1 h2 => by
      rw [Int32.lt_iff_toInt_lt] at h1 h2
      rw [show (-100 : Int32).toInt = -100 from by decide] at h1
      rw [show (100 : Int32).toInt = 100 from by decide] at h2
      unfold bn; omega
    rcases (by omega : k = 0 ∨ k = 1 ∨ k = 2) with rfl | rfl | rfl
    · exact cv p0 q0.1 q0.2
    · exact cv p1 q1.1 q1.2
    · exact cv p2 q2.1 q2.2
  obtain ⟨n1, n2, fe, de⟩ := gain_frac (P := (fun k => if k = 0 then p0.toInt else if k = 1 then p1.toInt else p2.toInt)) (by omega) hu zA (fun i hi hs => (zB i hi hs).1) hrk (show 2 < 3 by omega)
  simp [S72_0, S72_1, S72_2, S88_0, S88_1, S87_0, Call_in (k2 := 87), Call_in (k2 := 88), BS, ixs, inbs, le_nlt, hB, kin, a6, n0, c8, at_yesG hB' hM12 hj, e1, a1, hq0, q0, q1, q2]
  refine c_at8 hc hK (fun L1 f1 lk => ?_)
  rw [← hR2]
  simp [S72_0, S72_1, S72_2, S88_0, S88_1, S87_0, Call_in (k2 := 87), Call_in (k2 := 88), BS, ixs, inbs, le_nlt, hB, kin, a6, n0, c8, r1, rr]
  refine c_reached hc' hK2 rr lk bA bB (fun r h1 h2 => ?_)
  have er := h2.uniq hrk
  subst er
  simp [S72_0, S72_1, S72_2, S88_0, S88_1, S87_0, Call_in (k2 := 87), Call_in (k2 := 88), BS, ixs, inbs, le_nlt, hB, kin, a6, n0, c8, r1, rr]
  refine c_gain_32 hc' hK2 rr lk p0 p1 p2 bA bB hu hP c73 n1 (fun L2 f2 v0 v1 => ?_)
  rw [fe] at v0
  rw [de] at v1
  simp [S72_0, S72_1, S72_2, S14_0, Call_in (k2 := 14), BS, ixs, inbs, hB, r1, c73, v0, v1]
  refine m_gain_32_0 hr2 hM12 hj e2 hu bA bB p0 p1 p2 q0 q1 q2 hP hrk n2 (fun L3 f3 => ⟨rfl, ?_, by dsimp only; omega, by dsimp only; omega⟩)
  exact Inv_mk (h7.scr (fun i hi => by rw [f3 i (by omega) (by omega) (by omega) (by omega) (by omega) (by omega), f2 i (by omega) (by omega) (by omega) (by omega), f1 i (by omega)]) (fun _ _ => rfl) ⟨rfl, rfl, rfl⟩ (fun i k h1 _ => by rw [hR2, u2_rd, if_neg h1]))
set_option maxRecDepth 100000 in
set_option maxHeartbeats 8000000 in
theorem gain_yes_32_1 {n sl : Nat} {C Z : Nat → Nat} {I : Nat → Nat → Int32} {L : Nat → Nat → Int64} {R : Nat → Nat → Nat} {M rn t j q : Nat} (h7 : Inv7 n C Z I L R M rn t) (hj : j < M) (hq : MOK n C Z I R j q 3) (p0 p1 p2 : Int32) (q0 : ¬ p0 < -100 ∧ ¬ 100 < p0) (q1 : ¬ p1 < -100 ∧ ¬ 100 < p1) (q2 : ¬ p2 < -100 ∧ ¬ 100 < p2) (hrk : IsRk (pw (fun i => (I (q + 1) i).toInt) (fun i => (I (q + 2) i).toInt)) 3 3) : Two 72 140 [some (.ref 1), some (.int (nI j)), some (.int p0), some (.int p1), some (.int p2), some (.int 2), some (.int 1), none] [some (.ref 74), some (.int (nI j)), some (.int p0), some (.int p1), some (.int p2), some (.int 2), some (.int 1), none, none, none, none] (n, sl, C, Z, I, L, R) := by
  obtain ⟨hM12, hn98, ⟨hB, hK, hO, hE, hM⟩, ⟨e1, e2⟩, -⟩ := id h7
  have hB' := hB
  have hM' := hM
  unfold LayB at hB
  unfold LayM at hM
  unfold Two
  obtain ⟨a1, a2, -⟩ := id hq
  have hq0 : ¬ q = 0 := by omega
  have hc := hq.cm
  have kin : inG 7 (C q) = true := hc.1.1
  have a6 : I q 1 = nI 3 := hc.1.2.2.2.2.1
  have n0 : nI 3 = 3 := rfl
  have k76 : I 76 j = nI 3 := hq.2.2.2.2.1.2.2.2
  have c8 : C 8 = 4 := by unfold LayK at hK; simp [hK]
  have j0 : inb (nI j) 12 = true := by rw [inb_nI (by omega)]; simp; omega
  have jx := ix_nI (show j < 2 ^ 31 by omega)
  have hu := hq.un
  obtain ⟨bA, bB, bK, -⟩ := hq.bns
  have rm0 := hq.rm hM' (by omega)
  have zA := rm0.2.2.2.2.2.2.2.2.2.1
  have zB := rm0.2.2.2.2.2.2.2.2.2.2
  obtain ⟨R2, hR2⟩ : ∃ R2, R2 = u2 R 8 0 q := ⟨_, rfl⟩
  have r2n : ∀ i, i ≠ 8 → R2 i = R i := fun i h => by rw [hR2, u2_ne _ _ _ h]
  have hc' : CM C Z I R2 q 3 (I q 2) _ _ _ _ := hc.keep (fun _ _ => rfl) (fun i hi => r2n i (by omega))
  have hK2 : LayK C Z R2 := by rw [hR2]; unfold LayK at *; simp [hK, u2_rd]
  have hM2 : LayM C Z R2 := by rw [hR2]; exact hM'.look 8 q (by omega)
  have rr : R2 8 0 = q := by rw [hR2]; simp [u2_rd]
  have r1 : ∀ k, R2 1 k = R 1 k := fun k => by rw [r2n 1 (by omega)]
  have r74 : ∀ k, R2 74 k = R 74 k := fun k => by rw [r2n 74 (by omega)]
  have rq : ∀ k, R2 q k = R q k := fun k => by rw [r2n q (by omega)]
  have hr2 := rm0.keep (R' := R2) (I' := I) hM2 (fun _ _ _ => rfl)
  have isy := is_yesG hM2 hM12 hj n sl I
  have c73 : C 73 = 3 := by simp [hB]
  have hP : ∀ k, k < 3 → bn 100 ((fun k => if k = 0 then p0.toInt else if k = 1 then p1.toInt else p2.toInt) k) := fun k hk => by
    have cv : ∀ p : Int32, ¬ p < -100 → ¬ 100 < p → bn 100 p.toInt := fun p h1 h2 => by
      rw [Int32.lt_iff_toInt_lt] at h1 h2
      rw [show (-100 : Int32).toInt = -100 from by decide] at h1
      rw [show (100 : Int32).toInt = 100 from by decide] at h2
      unfold bn; omega
    rcases (by omega : k = 0 ∨ k = 1 ∨ k = 2) with rfl | rfl | rfl
    · exact cv p0 q0.1 q0.2
    · exact cv p1 q1.1 q1.2
    · exact cv p2 q2.1 q2.2
  obtain ⟨n1, n2, fe, de⟩ := gain_frac (P := (fun k => if k = 0 then p0.toInt else if k = 1 then p1.toInt else p2.toInt)) (by omega) hu zA (fun i hi hs => (zB i hi hs).1) hrk (show 2 < 3 by omega)
  simp [S72_0, S72_1, S72_2, S88_0, S88_1, S87_0, Call_in (k2 := 87), Call_in (k2 := 88), BS, ixs, inbs, le_nlt, hB, kin, a6, n0, c8, at_yesG hB' hM12 hj, e1, a1, hq0, q0, q1, q2]
  refine c_at8 hc hK (fun L1 f1 lk => ?_)
  rw [← hR2]
  simp [S72_0, S72_1, S72_2, S88_0, S88_1, S87_0, Call_in (k2 := 87), Call_in (k2 := 88), BS, ixs, inbs, le_nlt, hB, kin, a6, n0, c8, r1, rr]
  refine c_reached hc' hK2 rr lk bA bB (fun r h1 h2 => ?_)
  have er := h2.uniq hrk
  subst er
  simp [S72_0, S72_1, S72_2, S88_0, S88_1, S87_0, Call_in (k2 := 87), Call_in (k2 := 88), BS, ixs, inbs, le_nlt, hB, kin, a6, n0, c8, r1, rr]
  refine c_gain_32 hc' hK2 rr lk p0 p1 p2 bA bB hu hP c73 n1 (fun L2 f2 v0 v1 => ?_)
  rw [fe] at v0
  rw [de] at v1
  simp [S72_0, S72_1, S72_2, S14_0, Call_in (k2 := 14), BS, ixs, inbs, hB, r1, c73, v0, v1]
  refine m_gain_32_1 hr2 hM12 hj e2 hu bA bB p0 p1 p2 q0 q1 q2 hP hrk n2 (fun L3 f3 => ⟨rfl, ?_, by dsimp only; omega, by dsimp only; omega⟩)
  exact Inv_mk (h7.scr (fun i hi => by rw [f3 i (by omega) (by omega) (by omega) (by omega) (by omega) (by omega), f2 i (by omega) (by omega) (by omega) (by omega), f1 i (by omega)]) (fun _ _ => rfl) ⟨rfl, rfl, rfl⟩ (fun i k h1 _ => by rw [hR2, u2_rd, if_neg h1]))
