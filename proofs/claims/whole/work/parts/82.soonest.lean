set_option maxRecDepth 100000 in
set_option maxHeartbeats 8000000 in
theorem soon_ok_0 {n sl : Nat} {C Z : Nat → Nat} {I : Nat → Nat → Int32} {L : Nat → Nat → Int64} {R : Nat → Nat → Nat} {M rn t j q : Nat} (h7 : Inv7 n C Z I L R M rn t) (hj : j < M) (hq : MOK n C Z I R j q 0) (kf : isa (C q) 1 = false) (kd : ¬ I 75 j = 1) (x0 x1 x2 : Int32)  : Two 73 141 [some (.ref 1), some (.int (nI j)), some (.int x0), some (.int x1), some (.int x2), none] [some (.ref 74), some (.int (nI j)), some (.int x0), some (.int x1), some (.int x2), none, none, none, none] (n, sl, C, Z, I, L, R) := by
  obtain ⟨hM12, hn98, ⟨hB, hK, hO, hE, hM⟩, ⟨e1, e2⟩, -⟩ := id h7
  have hB' := hB
  have hM' := hM
  unfold LayB at hB
  unfold LayM at hM
  unfold Two
  obtain ⟨a1, a2, -⟩ := id hq
  have hq0 : ¬ q = 0 := by omega
  have hc := hq.cm
  have kin : inG 7 (C q) = true := hc.1.1
  have a6 : I q 1 = nI 0 := hc.1.2.2.2.2.1
  have k76 : I 76 j = nI 0 := hq.2.2.2.2.1.2.2.2
  have c8 : C 8 = 4 := by unfold LayK at hK; simp [hK]
  have j0 : inb (nI j) 12 = true := by rw [inb_nI (by omega)]; simp; omega
  have jx := ix_nI (show j < 2 ^ 31 by omega)
  have n0 : nI 0 = 0 := rfl
  obtain ⟨bA, bB, bK, -⟩ := hq.bns
  obtain ⟨R2, hR2⟩ : ∃ R2, R2 = u2 R 8 0 q := ⟨_, rfl⟩
  have r2n : ∀ i, i ≠ 8 → R2 i = R i := fun i h => by rw [hR2, u2_ne _ _ _ h]
  have hc' : CM C Z I R2 q 0 (I q 2) _ _ _ _ := hc.keep (fun _ _ => rfl) (fun i hi => r2n i (by omega))
  have hK2 : LayK C Z R2 := by rw [hR2]; unfold LayK at *; simp [hK, u2_rd]
  have hM2 : LayM C Z R2 := by rw [hR2]; exact hM'.look 8 q (by omega)
  have rr : R2 8 0 = q := by rw [hR2]; simp [u2_rd]
  have r1 : ∀ k, R2 1 k = R 1 k := fun k => by rw [r2n 1 (by omega)]
  have r74 : ∀ k, R2 74 k = R 74 k := fun k => by rw [r2n 74 (by omega)]
  have hr2 := (hq.rm hM' (by omega)).keep (R' := R2) (I' := I) hM2 (fun _ _ _ => rfl)
  have isy := is_yesG hM2 hM12 hj n sl I
  have hV : ∀ i, i < 3 → bn 9 (xv 0 x0 x1 x2 i) := fun i _ => bn_xv (fun k hk => by
    have cv : ∀ p : Int32, ¬ p < -9 → ¬ 9 < p → bn 9 p.toInt := fun p h1 h2 => by
      rw [Int32.lt_iff_toInt_lt] at h1 h2
      rw [show (-9 : Int32).toInt = -9 from by decide] at h1
      rw [show (9 : Int32).toInt = 9 from by decide] at h2
      unfold bn; omega
    exact absurd hk (by omega)) i
  simp [S73_0, S73_1, S88_0, S88_1, S87_0, Call_in (k2 := 87), Call_in (k2 := 88), BS, ixs, inbs, le_nlt, hB, kin, kf, a6, n0, c8, at_yesG hB' hM12 hj, e1, a1, hq0]
  refine c_at8 hc hK (fun L1 f1 lk => ?_)
  rw [← hR2]
  simp [S73_0, S73_1, S88_0, S88_1, S87_0, Call_in (k2 := 87), Call_in (k2 := 88), BS, ixs, inbs, le_nlt, hB, kin, kf, a6, n0, c8, r1, rr]
  refine c_soon_0 x0 x1 x2 hc' hK2 rr lk bA bB hV (fun v L2 hv f2 => ?_)
  have lp := m_soon_lp_0 (n := n) (sl := sl) (x0 := x0) (x1 := x1) (x2 := x2) hr2 bA bB hV (Q := fun r2 h2 => r2 = some (.int v) ∧ Inv h2 ∧ h2.1 ≤ n + 5 ∧ h2.2.1 ≤ sl + 42) (0 + 1) 0 L2 none none (by omega) (fun t' h => absurd h (by omega)) (fun w L3 hw f3 => ⟨by rw [hw.uniq hv], Inv_mk (h7.scr (fun i hi => by rw [f3 i (by omega) (by omega) (by omega), f2 i (by omega), f1 i (by omega)]) (fun _ _ => rfl) ⟨rfl, rfl, rfl⟩ (fun i k h1 _ => by rw [hR2, u2_rd, if_neg h1])), by dsimp only; omega, by dsimp only; omega⟩)
  rw [nI_0] at lp
  have gen : ∀ (y s5 : Int32) (l6 : Option Value), Wp 141 86 [some (.ref 74), some (.int (nI j)), some (.int x0), some (.int x1), some (.int x2), some (.int s5), l6, none, none] [.int y] (n, sl, C, Z, I, L2, R2) (fun r2 h2 => r2 = some (.int v) ∧ Inv h2 ∧ h2.1 ≤ n + 5 ∧ h2.2.1 ≤ sl + 42) ↔ Br 141 230 95 [some (.ref 74), some (.int (nI j)), some (.int x0), some (.int x1), some (.int x2), some (.int s5), some (.int y), none, none] [] (n, sl, C, Z, I, L2, R2) (fun r2 h2 => r2 = some (.int v) ∧ Inv h2 ∧ h2.1 ≤ n + 5 ∧ h2.2.1 ≤ sl + 42) (s5 < y) := fun y s5 l6 => by simp [S141_0, S141_1, S141_2, S141_3, S141_4, BS]
  have gg := fun l6 => (gen 0 0 l6).mpr lp
  simp [S73_0, S73_1, S141_0, S141_1, S141_2, S141_3, S141_4, BS, ixs, inbs, le_nlt, hM, r74, isy, e2, j0, jx, k76, kd, n0, ↓gg]
set_option maxRecDepth 100000 in
set_option maxHeartbeats 8000000 in
theorem soon_p_10 {n sl : Nat} {C Z : Nat → Nat} {I : Nat → Nat → Int32} {L : Nat → Nat → Int64} {R : Nat → Nat → Nat} {M rn t j q : Nat} (h7 : Inv7 n C Z I L R M rn t) (hj : j < M) (hq : MOK n C Z I R j q 1) (kf : isa (C q) 1 = false) (kd : ¬ I 75 j = 1) (x0 x1 x2 : Int32)  (hb : x0 < -9 ∨ 9 < x0) : Two 73 141 [some (.ref 1), some (.int (nI j)), some (.int x0), some (.int x1), some (.int x2), none] [some (.ref 74), some (.int (nI j)), some (.int x0), some (.int x1), some (.int x2), none, none, none, none] (n, sl, C, Z, I, L, R) := by
  obtain ⟨hM12, hn98, ⟨hB, hK, hO, hE, hM⟩, ⟨e1, e2⟩, -⟩ := id h7
  have hB' := hB
  have hM' := hM
  unfold LayB at hB
  unfold LayM at hM
  unfold Two
  obtain ⟨a1, a2, -⟩ := id hq
  have hq0 : ¬ q = 0 := by omega
  have hc := hq.cm
  have kin : inG 7 (C q) = true := hc.1.1
  have a6 : I q 1 = nI 1 := hc.1.2.2.2.2.1
  have k76 : I 76 j = nI 1 := hq.2.2.2.2.1.2.2.2
  have c8 : C 8 = 4 := by unfold LayK at hK; simp [hK]
  have j0 : inb (nI j) 12 = true := by rw [inb_nI (by omega)]; simp; omega
  have jx := ix_nI (show j < 2 ^ 31 by omega)
  have n0 : nI 1 = 1 := rfl
  have hI : Inv (n, sl, C, Z, I, L, R) := Inv_mk h7
  rcases hb with hb | hb
  · simp [S73_0, S73_1, S88_0, S88_1, S87_0, Call_in (k2 := 87), Call_in (k2 := 88), BS, ixs, inbs, le_nlt, hB, kin, kf, a6, n0, c8, at_yesG hB' hM12 hj, e1, a1, hq0, hb, S141_0, S141_1, S141_2, S141_3, S141_4, is_yesG hM' hM12 hj, hM, e2, j0, jx, k76, kd, hI]
  · have hb2 : ¬ x0 < -9 := fun h => by have := Int32.lt_trans (Int32.lt_trans h (by decide : (-9 : Int32) < 9)) hb; simp at this
    simp [S73_0, S73_1, S88_0, S88_1, S87_0, Call_in (k2 := 87), Call_in (k2 := 88), BS, ixs, inbs, le_nlt, hB, kin, kf, a6, n0, c8, at_yesG hB' hM12 hj, e1, a1, hq0, hb, hb2, S141_0, S141_1, S141_2, S141_3, S141_4, is_yesG hM' hM12 hj, hM, e2, j0, jx, k76, kd, hI]
set_option maxRecDepth 100000 in
set_option maxHeartbeats 8000000 in
theorem soon_ok_1 {n sl : Nat} {C Z : Nat → Nat} {I : Nat → Nat → Int32} {L : Nat → Nat → Int64} {R : Nat → Nat → Nat} {M rn t j q : Nat} (h7 : Inv7 n C Z I L R M rn t) (hj : j < M) (hq : MOK n C Z I R j q 1) (kf : isa (C q) 1 = false) (kd : ¬ I 75 j = 1) (x0 x1 x2 : Int32) (q0 : ¬ x0 < -9 ∧ ¬ 9 < x0) : Two 73 141 [some (.ref 1), some (.int (nI j)), some (.int x0), some (.int x1), some (.int x2), none] [some (.ref 74), some (.int (nI j)), some (.int x0), some (.int x1), some (.int x2), none, none, none, none] (n, sl, C, Z, I, L, R) := by
  obtain ⟨hM12, hn98, ⟨hB, hK, hO, hE, hM⟩, ⟨e1, e2⟩, -⟩ := id h7
  have hB' := hB
  have hM' := hM
  unfold LayB at hB
  unfold LayM at hM
  unfold Two
  obtain ⟨a1, a2, -⟩ := id hq
  have hq0 : ¬ q = 0 := by omega
  have hc := hq.cm
  have kin : inG 7 (C q) = true := hc.1.1
  have a6 : I q 1 = nI 1 := hc.1.2.2.2.2.1
  have k76 : I 76 j = nI 1 := hq.2.2.2.2.1.2.2.2
  have c8 : C 8 = 4 := by unfold LayK at hK; simp [hK]
  have j0 : inb (nI j) 12 = true := by rw [inb_nI (by omega)]; simp; omega
  have jx := ix_nI (show j < 2 ^ 31 by omega)
  have n0 : nI 1 = 1 := rfl
  obtain ⟨bA, bB, bK, -⟩ := hq.bns
  obtain ⟨R2, hR2⟩ : ∃ R2, R2 = u2 R 8 0 q := ⟨_, rfl⟩
  have r2n : ∀ i, i ≠ 8 → R2 i = R i := fun i h => by rw [hR2, u2_ne _ _ _ h]
  have hc' : CM C Z I R2 q 1 (I q 2) _ _ _ _ := hc.keep (fun _ _ => rfl) (fun i hi => r2n i (by omega))
  have hK2 : LayK C Z R2 := by rw [hR2]; unfold LayK at *; simp [hK, u2_rd]
  have hM2 : LayM C Z R2 := by rw [hR2]; exact hM'.look 8 q (by omega)
  have rr : R2 8 0 = q := by rw [hR2]; simp [u2_rd]
  have r1 : ∀ k, R2 1 k = R 1 k := fun k => by rw [r2n 1 (by omega)]
  have r74 : ∀ k, R2 74 k = R 74 k := fun k => by rw [r2n 74 (by omega)]
  have hr2 := (hq.rm hM' (by omega)).keep (R' := R2) (I' := I) hM2 (fun _ _ _ => rfl)
  have isy := is_yesG hM2 hM12 hj n sl I
  have hV : ∀ i, i < 3 → bn 9 (xv 1 x0 x1 x2 i) := fun i _ => bn_xv (fun k hk => by
    have cv : ∀ p : Int32, ¬ p < -9 → ¬ 9 < p → bn 9 p.toInt := fun p h1 h2 => by
      rw [Int32.lt_iff_toInt_lt] at h1 h2
      rw [show (-9 : Int32).toInt = -9 from by decide] at h1
      rw [show (9 : Int32).toInt = 9 from by decide] at h2
      unfold bn; omega
    rcases (by omega : k = 0) with rfl
    · exact cv x0 q0.1 q0.2) i
  simp [S73_0, S73_1, S88_0, S88_1, S87_0, Call_in (k2 := 87), Call_in (k2 := 88), BS, ixs, inbs, le_nlt, hB, kin, kf, a6, n0, c8, at_yesG hB' hM12 hj, e1, a1, hq0, q0]
  refine c_at8 hc hK (fun L1 f1 lk => ?_)
  rw [← hR2]
  simp [S73_0, S73_1, S88_0, S88_1, S87_0, Call_in (k2 := 87), Call_in (k2 := 88), BS, ixs, inbs, le_nlt, hB, kin, kf, a6, n0, c8, r1, rr]
  refine c_soon_1 x0 x1 x2 hc' hK2 rr lk bA bB hV (fun v L2 hv f2 => ?_)
  have lp := m_soon_lp_1 (n := n) (sl := sl) (x0 := x0) (x1 := x1) (x2 := x2) hr2 bA bB hV (Q := fun r2 h2 => r2 = some (.int v) ∧ Inv h2 ∧ h2.1 ≤ n + 5 ∧ h2.2.1 ≤ sl + 42) (1 + 1) 0 L2 (some (.int x0)) none (by omega) (fun t' h => absurd h (by omega)) (fun w L3 hw f3 => ⟨by rw [hw.uniq hv], Inv_mk (h7.scr (fun i hi => by rw [f3 i (by omega) (by omega) (by omega), f2 i (by omega), f1 i (by omega)]) (fun _ _ => rfl) ⟨rfl, rfl, rfl⟩ (fun i k h1 _ => by rw [hR2, u2_rd, if_neg h1])), by dsimp only; omega, by dsimp only; omega⟩)
  rw [nI_0] at lp
  have gen : ∀ (y s5 : Int32) (l6 : Option Value), Wp 141 86 [some (.ref 74), some (.int (nI j)), some (.int x0), some (.int x1), some (.int x2), some (.int s5), l6, some (.int x0), none] [.int y] (n, sl, C, Z, I, L2, R2) (fun r2 h2 => r2 = some (.int v) ∧ Inv h2 ∧ h2.1 ≤ n + 5 ∧ h2.2.1 ≤ sl + 42) ↔ Br 141 230 95 [some (.ref 74), some (.int (nI j)), some (.int x0), some (.int x1), some (.int x2), some (.int s5), some (.int y), some (.int x0), none] [] (n, sl, C, Z, I, L2, R2) (fun r2 h2 => r2 = some (.int v) ∧ Inv h2 ∧ h2.1 ≤ n + 5 ∧ h2.2.1 ≤ sl + 42) (s5 < y) := fun y s5 l6 => by simp [S141_0, S141_1, S141_2, S141_3, S141_4, BS]
  have gg := fun l6 => (gen 0 1 l6).mpr lp
  simp [S73_0, S73_1, S141_0, S141_1, S141_2, S141_3, S141_4, BS, ixs, inbs, le_nlt, hM, r74, isy, e2, j0, jx, k76, kd, n0, q0, ↓gg]
set_option maxRecDepth 100000 in
set_option maxHeartbeats 8000000 in
theorem soon_p_20 {n sl : Nat} {C Z : Nat → Nat} {I : Nat → Nat → Int32} {L : Nat → Nat → Int64} {R : Nat → Nat → Nat} {M rn t j q : Nat} (h7 : Inv7 n C Z I L R M rn t) (hj : j < M) (hq : MOK n C Z I R j q 2) (kf : isa (C q) 1 = false) (kd : ¬ I 75 j = 1) (x0 x1 x2 : Int32)  (hb : x0 < -9 ∨ 9 < x0) : Two 73 141 [some (.ref 1), some (.int (nI j)), some (.int x0), some (.int x1), some (.int x2), none] [some (.ref 74), some (.int (nI j)), some (.int x0), some (.int x1), some (.int x2), none, none, none, none] (n, sl, C, Z, I, L, R) := by
  obtain ⟨hM12, hn98, ⟨hB, hK, hO, hE, hM⟩, ⟨e1, e2⟩, -⟩ := id h7
  have hB' := hB
  have hM' := hM
  unfold LayB at hB
  unfold LayM at hM
  unfold Two
  obtain ⟨a1, a2, -⟩ := id hq
  have hq0 : ¬ q = 0 := by omega
  have hc := hq.cm
  have kin : inG 7 (C q) = true := hc.1.1
  have a6 : I q 1 = nI 2 := hc.1.2.2.2.2.1
  have k76 : I 76 j = nI 2 := hq.2.2.2.2.1.2.2.2
  have c8 : C 8 = 4 := by unfold LayK at hK; simp [hK]
  have j0 : inb (nI j) 12 = true := by rw [inb_nI (by omega)]; simp; omega
  have jx := ix_nI (show j < 2 ^ 31 by omega)
  have n0 : nI 2 = 2 := rfl
  have hI : Inv (n, sl, C, Z, I, L, R) := Inv_mk h7
  rcases hb with hb | hb
  · simp [S73_0, S73_1, S88_0, S88_1, S87_0, Call_in (k2 := 87), Call_in (k2 := 88), BS, ixs, inbs, le_nlt, hB, kin, kf, a6, n0, c8, at_yesG hB' hM12 hj, e1, a1, hq0, hb, S141_0, S141_1, S141_2, S141_3, S141_4, is_yesG hM' hM12 hj, hM, e2, j0, jx, k76, kd, hI]
  · have hb2 : ¬ x0 < -9 := fun h => by have := Int32.lt_trans (Int32.lt_trans h (by decide : (-9 : Int32) < 9)) hb; simp at this
    simp [S73_0, S73_1, S88_0, S88_1, S87_0, Call_in (k2 := 87), Call_in (k2 := 88), BS, ixs, inbs, le_nlt, hB, kin, kf, a6, n0, c8, at_yesG hB' hM12 hj, e1, a1, hq0, hb, hb2, S141_0, S141_1, S141_2, S141_3, S141_4, is_yesG hM' hM12 hj, hM, e2, j0, jx, k76, kd, hI]
set_option maxRecDepth 100000 in
set_option maxHeartbeats 8000000 in
theorem soon_p_21 {n sl : Nat} {C Z : Nat → Nat} {I : Nat → Nat → Int32} {L : Nat → Nat → Int64} {R : Nat → Nat → Nat} {M rn t j q : Nat} (h7 : Inv7 n C Z I L R M rn t) (hj : j < M) (hq : MOK n C Z I R j q 2) (kf : isa (C q) 1 = false) (kd : ¬ I 75 j = 1) (x0 x1 x2 : Int32) (q0 : ¬ x0 < -9 ∧ ¬ 9 < x0) (hb : x1 < -9 ∨ 9 < x1) : Two 73 141 [some (.ref 1), some (.int (nI j)), some (.int x0), some (.int x1), some (.int x2), none] [some (.ref 74), some (.int (nI j)), some (.int x0), some (.int x1), some (.int x2), none, none, none, none] (n, sl, C, Z, I, L, R) := by
  obtain ⟨hM12, hn98, ⟨hB, hK, hO, hE, hM⟩, ⟨e1, e2⟩, -⟩ := id h7
  have hB' := hB
  have hM' := hM
  unfold LayB at hB
  unfold LayM at hM
  unfold Two
  obtain ⟨a1, a2, -⟩ := id hq
  have hq0 : ¬ q = 0 := by omega
  have hc := hq.cm
  have kin : inG 7 (C q) = true := hc.1.1
  have a6 : I q 1 = nI 2 := hc.1.2.2.2.2.1
  have k76 : I 76 j = nI 2 := hq.2.2.2.2.1.2.2.2
  have c8 : C 8 = 4 := by unfold LayK at hK; simp [hK]
  have j0 : inb (nI j) 12 = true := by rw [inb_nI (by omega)]; simp; omega
  have jx := ix_nI (show j < 2 ^ 31 by omega)
  have n0 : nI 2 = 2 := rfl
  have hI : Inv (n, sl, C, Z, I, L, R) := Inv_mk h7
  rcases hb with hb | hb
  · simp [S73_0, S73_1, S88_0, S88_1, S87_0, Call_in (k2 := 87), Call_in (k2 := 88), BS, ixs, inbs, le_nlt, hB, kin, kf, a6, n0, c8, at_yesG hB' hM12 hj, e1, a1, hq0, q0, hb, S141_0, S141_1, S141_2, S141_3, S141_4, is_yesG hM' hM12 hj, hM, e2, j0, jx, k76, kd, hI]
  · have hb2 : ¬ x1 < -9 := fun h => by have := Int32.lt_trans (Int32.lt_trans h (by decide : (-9 : Int32) < 9)) hb; simp at this
    simp [S73_0, S73_1, S88_0, S88_1, S87_0, Call_in (k2 := 87), Call_in (k2 := 88), BS, ixs, inbs, le_nlt, hB, kin, kf, a6, n0, c8, at_yesG hB' hM12 hj, e1, a1, hq0, q0, hb, hb2, S141_0, S141_1, S141_2, S141_3, S141_4, is_yesG hM' hM12 hj, hM, e2, j0, jx, k76, kd, hI]
set_option maxRecDepth 100000 in
set_option maxHeartbeats 8000000 in
theorem soon_ok_2 {n sl : Nat} {C Z : Nat → Nat} {I : Nat → Nat → Int32} {L : Nat → Nat → Int64} {R : Nat → Nat → Nat} {M rn t j q : Nat} (h7 : Inv7 n C Z I L R M rn t) (hj : j < M) (hq : MOK n C Z I R j q 2) (kf : isa (C q) 1 = false) (kd : ¬ I 75 j = 1) (x0 x1 x2 : Int32) (q0 : ¬ x0 < -9 ∧ ¬ 9 < x0) (q1 : ¬ x1 < -9 ∧ ¬ 9 < x1) : Two 73 141 [some (.ref 1), some (.int (nI j)), some (.int x0), some (.int x1), some (.int x2), none] [some (.ref 74), some (.int (nI j)), some (.int x0), some (.int x1), some (.int x2), none, none, none, none] (n, sl, C, Z, I, L, R) := by
  obtain ⟨hM12, hn98, ⟨hB, hK, hO, hE, hM⟩, ⟨e1, e2⟩, -⟩ := id h7
  have hB' := hB
  have hM' := hM
  unfold LayB at hB
  unfold LayM at hM
  unfold Two
  obtain ⟨a1, a2, -⟩ := id hq
  have hq0 : ¬ q = 0 := by omega
  have hc := hq.cm
  have kin : inG 7 (C q) = true := hc.1.1
  have a6 : I q 1 = nI 2 := hc.1.2.2.2.2.1
  have k76 : I 76 j = nI 2 := hq.2.2.2.2.1.2.2.2
  have c8 : C 8 = 4 := by unfold LayK at hK; simp [hK]
  have j0 : inb (nI j) 12 = true := by rw [inb_nI (by omega)]; simp; omega
  have jx := ix_nI (show j < 2 ^ 31 by omega)
  have n0 : nI 2 = 2 := rfl
  obtain ⟨bA, bB, bK, -⟩ := hq.bns
  obtain ⟨R2, hR2⟩ : ∃ R2, R2 = u2 R 8 0 q := ⟨_, rfl⟩
  have r2n : ∀ i, i ≠ 8 → R2 i = R i := fun i h => by rw [hR2, u2_ne _ _ _ h]
  have hc' : CM C Z I R2 q 2 (I q 2) _ _ _ _ := hc.keep (fun _ _ => rfl) (fun i hi => r2n i (by omega))
  have hK2 : LayK C Z R2 := by rw [hR2]; unfold LayK at *; simp [hK, u2_rd]
  have hM2 : LayM C Z R2 := by rw [hR2]; exact hM'.look 8 q (by omega)
  have rr : R2 8 0 = q := by rw [hR2]; simp [u2_rd]
  have r1 : ∀ k, R2 1 k = R 1 k := fun k => by rw [r2n 1 (by omega)]
  have r74 : ∀ k, R2 74 k = R 74 k := fun k => by rw [r2n 74 (by omega)]
  have hr2 := (hq.rm hM' (by omega)).keep (R' := R2) (I' := I) hM2 (fun _ _ _ => rfl)
  have isy := is_yesG hM2 hM12 hj n sl I
  have hV : ∀ i, i < 3 → bn 9 (xv 2 x0 x1 x2 i) := fun i _ => bn_xv (fun k hk => by
    have cv : ∀ p : Int32, ¬ p < -9 → ¬ 9 < p → bn 9 p.toInt := fun p h1 h2 => by
      rw [Int32.lt_iff_toInt_lt] at h1 h2
      rw [show (-9 : Int32).toInt = -9 from by decide] at h1
      rw [show (9 : Int32).toInt = 9 from by decide] at h2
      unfold bn; omega
    rcases (by omega : k = 0 ∨ k = 1) with rfl | rfl
    · exact cv x0 q0.1 q0.2
    · exact cv x1 q1.1 q1.2) i
  simp [S73_0, S73_1, S88_0, S88_1, S87_0, Call_in (k2 := 87), Call_in (k2 := 88), BS, ixs, inbs, le_nlt, hB, kin, kf, a6, n0, c8, at_yesG hB' hM12 hj, e1, a1, hq0, q0, q1]
  refine c_at8 hc hK (fun L1 f1 lk => ?_)
  rw [← hR2]
  simp [S73_0, S73_1, S88_0, S88_1, S87_0, Call_in (k2 := 87), Call_in (k2 := 88), BS, ixs, inbs, le_nlt, hB, kin, kf, a6, n0, c8, r1, rr]
  refine c_soon_2 x0 x1 x2 hc' hK2 rr lk bA bB hV (fun v L2 hv f2 => ?_)
  have lp := m_soon_lp_2 (n := n) (sl := sl) (x0 := x0) (x1 := x1) (x2 := x2) hr2 bA bB hV (Q := fun r2 h2 => r2 = some (.int v) ∧ Inv h2 ∧ h2.1 ≤ n + 5 ∧ h2.2.1 ≤ sl + 42) (2 + 1) 0 L2 (some (.int x1)) none (by omega) (fun t' h => absurd h (by omega)) (fun w L3 hw f3 => ⟨by rw [hw.uniq hv], Inv_mk (h7.scr (fun i hi => by rw [f3 i (by omega) (by omega) (by omega), f2 i (by omega), f1 i (by omega)]) (fun _ _ => rfl) ⟨rfl, rfl, rfl⟩ (fun i k h1 _ => by rw [hR2, u2_rd, if_neg h1])), by dsimp only; omega, by dsimp only; omega⟩)
  rw [nI_0] at lp
  have gen : ∀ (y s5 : Int32) (l6 : Option Value), Wp 141 86 [some (.ref 74), some (.int (nI j)), some (.int x0), some (.int x1), some (.int x2), some (.int s5), l6, some (.int x1), none] [.int y] (n, sl, C, Z, I, L2, R2) (fun r2 h2 => r2 = some (.int v) ∧ Inv h2 ∧ h2.1 ≤ n + 5 ∧ h2.2.1 ≤ sl + 42) ↔ Br 141 230 95 [some (.ref 74), some (.int (nI j)), some (.int x0), some (.int x1), some (.int x2), some (.int s5), some (.int y), some (.int x1), none] [] (n, sl, C, Z, I, L2, R2) (fun r2 h2 => r2 = some (.int v) ∧ Inv h2 ∧ h2.1 ≤ n + 5 ∧ h2.2.1 ≤ sl + 42) (s5 < y) := fun y s5 l6 => by simp [S141_0, S141_1, S141_2, S141_3, S141_4, BS]
  have gg := fun l6 => (gen 0 2 l6).mpr lp
  simp [S73_0, S73_1, S141_0, S141_1, S141_2, S141_3, S141_4, BS, ixs, inbs, le_nlt, hM, r74, isy, e2, j0, jx, k76, kd, n0, q0, q1, ↓gg]
set_option maxRecDepth 100000 in
set_option maxHeartbeats 8000000 in
theorem soon_p_30 {n sl : Nat} {C Z : Nat → Nat} {I : Nat → Nat → Int32} {L : Nat → Nat → Int64} {R : Nat → Nat → Nat} {M rn t j q : Nat} (h7 : Inv7 n C Z I L R M rn t) (hj : j < M) (hq : MOK n C Z I R j q 3) (kf : isa (C q) 1 = false) (kd : ¬ I 75 j = 1) (x0 x1 x2 : Int32)  (hb : x0 < -9 ∨ 9 < x0) : Two 73 141 [some (.ref 1), some (.int (nI j)), some (.int x0), some (.int x1), some (.int x2), none] [some (.ref 74), some (.int (nI j)), some (.int x0), some (.int x1), some (.int x2), none, none, none, none] (n, sl, C, Z, I, L, R) := by
  obtain ⟨hM12, hn98, ⟨hB, hK, hO, hE, hM⟩, ⟨e1, e2⟩, -⟩ := id h7
  have hB' := hB
  have hM' := hM
  unfold LayB at hB
  unfold LayM at hM
  unfold Two
  obtain ⟨a1, a2, -⟩ := id hq
  have hq0 : ¬ q = 0 := by omega
  have hc := hq.cm
  have kin : inG 7 (C q) = true := hc.1.1
  have a6 : I q 1 = nI 3 := hc.1.2.2.2.2.1
  have k76 : I 76 j = nI 3 := hq.2.2.2.2.1.2.2.2
  have c8 : C 8 = 4 := by unfold LayK at hK; simp [hK]
  have j0 : inb (nI j) 12 = true := by rw [inb_nI (by omega)]; simp; omega
  have jx := ix_nI (show j < 2 ^ 31 by omega)
  have n0 : nI 3 = 3 := rfl
  have hI : Inv (n, sl, C, Z, I, L, R) := Inv_mk h7
  rcases hb with hb | hb
  · simp [S73_0, S73_1, S88_0, S88_1, S87_0, Call_in (k2 := 87), Call_in (k2 := 88), BS, ixs, inbs, le_nlt, hB, kin, kf, a6, n0, c8, at_yesG hB' hM12 hj, e1, a1, hq0, hb, S141_0, S141_1, S141_2, S141_3, S141_4, is_yesG hM' hM12 hj, hM, e2, j0, jx, k76, kd, hI]
  · have hb2 : ¬ x0 < -9 := fun h => by have := Int32.lt_trans (Int32.lt_trans h (by decide : (-9 : Int32) < 9)) hb; simp at this
    simp [S73_0, S73_1, S88_0, S88_1, S87_0, Call_in (k2 := 87), Call_in (k2 := 88), BS, ixs, inbs, le_nlt, hB, kin, kf, a6, n0, c8, at_yesG hB' hM12 hj, e1, a1, hq0, hb, hb2, S141_0, S141_1, S141_2, S141_3, S141_4, is_yesG hM' hM12 hj, hM, e2, j0, jx, k76, kd, hI]
set_option maxRecDepth 100000 in
set_option maxHeartbeats 8000000 in
theorem soon_p_31 {n sl : Nat} {C Z : Nat → Nat} {I : Nat → Nat → Int32} {L : Nat → Nat → Int64} {R : Nat → Nat → Nat} {M rn t j q : Nat} (h7 : Inv7 n C Z I L R M rn t) (hj : j < M) (hq : MOK n C Z I R j q 3) (kf : isa (C q) 1 = false) (kd : ¬ I 75 j = 1) (x0 x1 x2 : Int32) (q0 : ¬ x0 < -9 ∧ ¬ 9 < x0) (hb : x1 < -9 ∨ 9 < x1) : Two 73 141 [some (.ref 1), some (.int (nI j)), some (.int x0), some (.int x1), some (.int x2), none] [some (.ref 74), some (.int (nI j)), some (.int x0), some (.int x1), some (.int x2), none, none, none, none] (n, sl, C, Z, I, L, R) := by
  obtain ⟨hM12, hn98, ⟨hB, hK, hO, hE, hM⟩, ⟨e1, e2⟩, -⟩ := id h7
  have hB' := hB
  have hM' := hM
  unfold LayB at hB
  unfold LayM at hM
  unfold Two
  obtain ⟨a1, a2, -⟩ := id hq
  have hq0 : ¬ q = 0 := by omega
  have hc := hq.cm
  have kin : inG 7 (C q) = true := hc.1.1
  have a6 : I q 1 = nI 3 := hc.1.2.2.2.2.1
  have k76 : I 76 j = nI 3 := hq.2.2.2.2.1.2.2.2
  have c8 : C 8 = 4 := by unfold LayK at hK; simp [hK]
  have j0 : inb (nI j) 12 = true := by rw [inb_nI (by omega)]; simp; omega
  have jx := ix_nI (show j < 2 ^ 31 by omega)
  have n0 : nI 3 = 3 := rfl
  have hI : Inv (n, sl, C, Z, I, L, R) := Inv_mk h7
  rcases hb with hb | hb
  · simp [S73_0, S73_1, S88_0, S88_1, S87_0, Call_in (k2 := 87), Call_in (k2 := 88), BS, ixs, inbs, le_nlt, hB, kin, kf, a6, n0, c8, at_yesG hB' hM12 hj, e1, a1, hq0, q0, hb, S141_0, S141_1, S141_2, S141_3, S141_4, is_yesG hM' hM12 hj, hM, e2, j0, jx, k76, kd, hI]
  · have hb2 : ¬ x1 < -9 := fun h => by have := Int32.lt_trans (Int32.lt_trans h (by decide : (-9 : Int32) < 9)) hb; simp at this
    simp [S73_0, S73_1, S88_0, S88_1, S87_0, Call_in (k2 := 87), Call_in (k2 := 88), BS, ixs, inbs, le_nlt, hB, kin, kf, a6, n0, c8, at_yesG hB' hM12 hj, e1, a1, hq0, q0, hb, hb2, S141_0, S141_1, S141_2, S141_3, S141_4, is_yesG hM' hM12 hj, hM, e2, j0, jx, k76, kd, hI]
set_option maxRecDepth 100000 in
set_option maxHeartbeats 8000000 in
theorem soon_p_32 {n sl : Nat} {C Z : Nat → Nat} {I : Nat → Nat → Int32} {L : Nat → Nat → Int64} {R : Nat → Nat → Nat} {M rn t j q : Nat} (h7 : Inv7 n C Z I L R M rn t) (hj : j < M) (hq : MOK n C Z I R j q 3) (kf : isa (C q) 1 = false) (kd : ¬ I 75 j = 1) (x0 x1 x2 : Int32) (q0 : ¬ x0 < -9 ∧ ¬ 9 < x0) (q1 : ¬ x1 < -9 ∧ ¬ 9 < x1) (hb : x2 < -9 ∨ 9 < x2) : Two 73 141 [some (.ref 1), some (.int (nI j)), some (.int x0), some (.int x1), some (.int x2), none] [some (.ref 74), some (.int (nI j)), some (.int x0), some (.int x1), some (.int x2), none, none, none, none] (n, sl, C, Z, I, L, R) := by
  obtain ⟨hM12, hn98, ⟨hB, hK, hO, hE, hM⟩, ⟨e1, e2⟩, -⟩ := id h7
  have hB' := hB
  have hM' := hM
  unfold LayB at hB
  unfold LayM at hM
  unfold Two
  obtain ⟨a1, a2, -⟩ := id hq
  have hq0 : ¬ q = 0 := by omega
  have hc := hq.cm
  have kin : inG 7 (C q) = true := hc.1.1
  have a6 : I q 1 = nI 3 := hc.1.2.2.2.2.1
  have k76 : I 76 j = nI 3 := hq.2.2.2.2.1.2.2.2
  have c8 : C 8 = 4 := by unfold LayK at hK; simp [hK]
  have j0 : inb (nI j) 12 = true := by rw [inb_nI (by omega)]; simp; omega
  have jx := ix_nI (show j < 2 ^ 31 by omega)
  have n0 : nI 3 = 3 := rfl
  have hI : Inv (n, sl, C, Z, I, L, R) := Inv_mk h7
  rcases hb with hb | hb
  · simp [S73_0, S73_1, S88_0, S88_1, S87_0, Call_in (k2 := 87), Call_in (k2 := 88), BS, ixs, inbs, le_nlt, hB, kin, kf, a6, n0, c8, at_yesG hB' hM12 hj, e1, a1, hq0, q0, q1, hb, S141_0, S141_1, S141_2, S141_3, S141_4, is_yesG hM' hM12 hj, hM, e2, j0, jx, k76, kd, hI]
  · have hb2 : ¬ x2 < -9 := fun h => by have := Int32.lt_trans (Int32.lt_trans h (by decide : (-9 : Int32) < 9)) hb; simp at this
    simp [S73_0, S73_1, S88_0, S88_1, S87_0, Call_in (k2 := 87), Call_in (k2 := 88), BS, ixs, inbs, le_nlt, hB, kin, kf, a6, n0, c8, at_yesG hB' hM12 hj, e1, a1, hq0, q0, q1, hb, hb2, S141_0, S141_1, S141_2, S141_3, S141_4, is_yesG hM' hM12 hj, hM, e2, j0, jx, k76, kd, hI]
set_option maxRecDepth 100000 in
set_option maxHeartbeats 8000000 in
theorem soon_ok_3 {n sl : Nat} {C Z : Nat → Nat} {I : Nat → Nat → Int32} {L : Nat → Nat → Int64} {R : Nat → Nat → Nat} {M rn t j q : Nat} (h7 : Inv7 n C Z I L R M rn t) (hj : j < M) (hq : MOK n C Z I R j q 3) (kf : isa (C q) 1 = false) (kd : ¬ I 75 j = 1) (x0 x1 x2 : Int32) (q0 : ¬ x0 < -9 ∧ ¬ 9 < x0) (q1 : ¬ x1 < -9 ∧ ¬ 9 < x1) (q2 : ¬ x2 < -9 ∧ ¬ 9 < x2) : Two 73 141 [some (.ref 1), some (.int (nI j)), some (.int x0), some (.int x1), some (.int x2), none] [some (.ref 74), some (.int (nI j)), some (.int x0), some (.int x1), some (.int x2), none, none, none, none] (n, sl, C, Z, I, L, R) := by
  obtain ⟨hM12, hn98, ⟨hB, hK, hO, hE, hM⟩, ⟨e1, e2⟩, -⟩ := id h7
  have hB' := hB
  have hM' := hM
  unfold LayB at hB
  unfold LayM at hM
  unfold Two
  obtain ⟨a1, a2, -⟩ := id hq
  have hq0 : ¬ q = 0 := by omega
  have hc := hq.cm
  have kin : inG 7 (C q) = true := hc.1.1
  have a6 : I q 1 = nI 3 := hc.1.2.2.2.2.1
  have k76 : I 76 j = nI 3 := hq.2.2.2.2.1.2.2.2
  have c8 : C 8 = 4 := by unfold LayK at hK; simp [hK]
  have j0 : inb (nI j) 12 = true := by rw [inb_nI (by omega)]; simp; omega
  have jx := ix_nI (show j < 2 ^ 31 by omega)
  have n0 : nI 3 = 3 := rfl
  obtain ⟨bA, bB, bK, -⟩ := hq.bns
  obtain ⟨R2, hR2⟩ : ∃ R2, R2 = u2 R 8 0 q := ⟨_, rfl⟩
  have r2n : ∀ i, i ≠ 8 → R2 i = R i := fun i h => by rw [hR2, u2_ne _ _ _ h]
  have hc' : CM C Z I R2 q 3 (I q 2) _ _ _ _ := hc.keep (fun _ _ => rfl) (fun i hi => r2n i (by omega))
  have hK2 : LayK C Z R2 := by rw [hR2]; unfold LayK at *; simp [hK, u2_rd]
  have hM2 : LayM C Z R2 := by rw [hR2]; exact hM'.look 8 q (by omega)
  have rr : R2 8 0 = q := by rw [hR2]; simp [u2_rd]
  have r1 : ∀ k, R2 1 k = R 1 k := fun k => by rw [r2n 1 (by omega)]
  have r74 : ∀ k, R2 74 k = R 74 k := fun k => by rw [r2n 74 (by omega)]
  have hr2 := (hq.rm hM' (by omega)).keep (R' := R2) (I' := I) hM2 (fun _ _ _ => rfl)
  have isy := is_yesG hM2 hM12 hj n sl I
  have hV : ∀ i, i < 3 → bn 9 (xv 3 x0 x1 x2 i) := fun i _ => bn_xv (fun k hk => by
    have cv : ∀ p : Int32, ¬ p < -9 → ¬ 9 < p → bn 9 p.toInt := fun p h1 h2 => by
      rw [Int32.lt_iff_toInt_lt] at h1 h2
      rw [show (-9 : Int32).toInt = -9 from by decide] at h1
      rw [show (9 : Int32).toInt = 9 from by decide] at h2
      unfold bn; omega
    rcases (by omega : k = 0 ∨ k = 1 ∨ k = 2) with rfl | rfl | rfl
    · exact cv x0 q0.1 q0.2
    · exact cv x1 q1.1 q1.2
    · exact cv x2 q2.1 q2.2) i
  simp [S73_0, S73_1, S88_0, S88_1, S87_0, Call_in (k2 := 87), Call_in (k2 := 88), BS, ixs, inbs, le_nlt, hB, kin, kf, a6, n0, c8, at_yesG hB' hM12 hj, e1, a1, hq0, q0, q1, q2]
  refine c_at8 hc hK (fun L1 f1 lk => ?_)
  rw [← hR2]
  simp [S73_0, S73_1, S88_0, S88_1, S87_0, Call_in (k2 := 87), Call_in (k2 := 88), BS, ixs, inbs, le_nlt, hB, kin, kf, a6, n0, c8, r1, rr]
  refine c_soon_3 x0 x1 x2 hc' hK2 rr lk bA bB hV (fun v L2 hv f2 => ?_)
  have lp := m_soon_lp_3 (n := n) (sl := sl) (x0 := x0) (x1 := x1) (x2 := x2) hr2 bA bB hV (Q := fun r2 h2 => r2 = some (.int v) ∧ Inv h2 ∧ h2.1 ≤ n + 5 ∧ h2.2.1 ≤ sl + 42) (3 + 1) 0 L2 (some (.int x2)) none (by omega) (fun t' h => absurd h (by omega)) (fun w L3 hw f3 => ⟨by rw [hw.uniq hv], Inv_mk (h7.scr (fun i hi => by rw [f3 i (by omega) (by omega) (by omega), f2 i (by omega), f1 i (by omega)]) (fun _ _ => rfl) ⟨rfl, rfl, rfl⟩ (fun i k h1 _ => by rw [hR2, u2_rd, if_neg h1])), by dsimp only; omega, by dsimp only; omega⟩)
  rw [nI_0] at lp
  have gen : ∀ (y s5 : Int32) (l6 : Option Value), Wp 141 86 [some (.ref 74), some (.int (nI j)), some (.int x0), some (.int x1), some (.int x2), some (.int s5), l6, some (.int x2), none] [.int y] (n, sl, C, Z, I, L2, R2) (fun r2 h2 => r2 = some (.int v) ∧ Inv h2 ∧ h2.1 ≤ n + 5 ∧ h2.2.1 ≤ sl + 42) ↔ Br 141 230 95 [some (.ref 74), some (.int (nI j)), some (.int x0), some (.int x1), some (.int x2), some (.int s5), some (.int y), some (.int x2), none] [] (n, sl, C, Z, I, L2, R2) (fun r2 h2 => r2 = some (.int v) ∧ Inv h2 ∧ h2.1 ≤ n + 5 ∧ h2.2.1 ≤ sl + 42) (s5 < y) := fun y s5 l6 => by simp [S141_0, S141_1, S141_2, S141_3, S141_4, BS]
  have gg := fun l6 => (gen 0 3 l6).mpr lp
  simp [S73_0, S73_1, S141_0, S141_1, S141_2, S141_3, S141_4, BS, ixs, inbs, le_nlt, hM, r74, isy, e2, j0, jx, k76, kd, n0, q0, q1, q2, ↓gg]
set_option maxRecDepth 100000 in
set_option maxHeartbeats 8000000 in
/-- soonest(machine, x0, x1, x2) -/
theorem two_soonest (h : Hp) (hI : Inv h) (x x0 x1 x2 : Int32) : Two 73 141 [some (.ref 1), some (.int x), some (.int x0), some (.int x1), some (.int x2), none] [some (.ref 74), some (.int x), some (.int x0), some (.int x1), some (.int x2), none, none, none, none] h := by
  obtain ⟨n, sl, C, Z, I, L, R⟩ := h
  obtain ⟨M, rn, t, h7⟩ := id hI
  obtain ⟨hM12, hn98, ⟨hB, hK, hO, hE, hM⟩, ⟨e1, e2⟩, hms, hss, hap, ⟨hrn, e3, e4, hrw⟩, ht, e5, e6, htr⟩ := id h7
  dsimp only at hM12 hn98 hB hK hO hE hM e1 e2 hms hss hap hrn e3 e4 hrw ht e5 e6 htr h7
  have hB' := hB
  have hM' := hM
  unfold LayB at hB
  unfold LayM at hM
  have no : ∀ x : Int32, (x < 0 ∨ nI M ≤ x) → Two 73 141 [some (.ref 1), some (.int x), some (.int x0), some (.int x1), some (.int x2), none] [some (.ref 74), some (.int x), some (.int x0), some (.int x1), some (.int x2), none, none, none, none] (n, sl, C, Z, I, L, R) := by
    intro x hm
    unfold Two
    simp [S73_0, S73_1, S141_0, S141_1, S141_2, S141_3, S141_4, at_noG hB' hM12 hm, is_noG hM' hm, BS, ixs, inbs, le_nlt, hB, hM, hI, e1, e2]
  rcases pk_ix x (n := M) (by omega) with hx | hx | ⟨j, hj, rfl⟩
  · exact no x (Or.inl hx)
  · exact no x (Or.inr hx)
  · obtain ⟨q, s, hq⟩ := hms j hj
    have hs3 := hq.2.2.2.2.1.2.1
    have a1 := hq.1
    have a2 := hq.2.1
    have a4 := hq.2.2.2.1
    have hq0 : ¬ q = 0 := by omega
    have j0 : inb (nI j) 12 = true := by rw [inb_nI (by omega)]; simp; omega
    have jx := ix_nI (show j < 2 ^ 31 by omega)
    have pq : ∀ p : Int32, (p < -9 ∨ 9 < p) ∨ (¬ p < -9 ∧ ¬ 9 < p) := fun p => by
      by_cases a : p < -9
      · exact Or.inl (Or.inl a)
      · by_cases b : 9 < p
        · exact Or.inl (Or.inr b)
        · exact Or.inr ⟨a, b⟩
    rcases nflow a4 with ⟨b1, b2⟩ | ⟨-, b2, b3⟩
    · unfold Two
      simp [S73_0, S73_1, S141_0, S141_1, S141_2, S141_3, S141_4, at_yesG hB' hM12 hj, is_yesG hM' hM12 hj, BS, ixs, inbs, hB, hM, hI, e1, e2, a1, hq0, j0, jx, b1, b2, inGs, isas]
    rcases (by omega : s = 0 ∨ s = 1 ∨ s = 2 ∨ s = 3) with rfl | rfl | rfl | rfl
    · exact soon_ok_0 h7 hj hq b2 b3 x0 x1 x2
    · rcases pq x0 with h0 | h0
      · exact soon_p_10 h7 hj hq b2 b3 x0 x1 x2  h0
      exact soon_ok_1 h7 hj hq b2 b3 x0 x1 x2 h0
    · rcases pq x0 with h0 | h0
      · exact soon_p_20 h7 hj hq b2 b3 x0 x1 x2  h0
      rcases pq x1 with h1 | h1
      · exact soon_p_21 h7 hj hq b2 b3 x0 x1 x2 h0 h1
      exact soon_ok_2 h7 hj hq b2 b3 x0 x1 x2 h0 h1
    · rcases pq x0 with h0 | h0
      · exact soon_p_30 h7 hj hq b2 b3 x0 x1 x2  h0
      rcases pq x1 with h1 | h1
      · exact soon_p_31 h7 hj hq b2 b3 x0 x1 x2 h0 h1
      rcases pq x2 with h2 | h2
      · exact soon_p_32 h7 hj hq b2 b3 x0 x1 x2 h0 h1 h2
      exact soon_ok_3 h7 hj hq b2 b3 x0 x1 x2 h0 h1 h2
