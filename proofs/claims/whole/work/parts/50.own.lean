set_option maxRecDepth 100000 in
set_option maxHeartbeats 8000000 in
theorem own_000 {n sl : Nat} {C Z : Nat → Nat} {I : Nat → Nat → Int32} {L : Nat → Nat → Int64} {R : Nat → Nat → Nat} {M rn t j q : Nat} (h7 : Inv7 n C Z I L R M rn t) (hj : j < M) (hq : MOK n C Z I R j q 0) : Two 68 134 [some (.ref 1), some (.int (nI j)), some (.int 0), some (.int 0), none] [some (.ref 74), some (.int (nI j)), some (.int 0), some (.int 0), none, none, none] (n, sl, C, Z, I, L, R) := by
  obtain ⟨hM12, hn98, ⟨hB, hK, hO, hE, hM⟩, ⟨e1, e2⟩, -⟩ := id h7
  have hB' := hB
  have hM' := hM
  have hKK := hK
  unfold LayB at hB
  unfold LayM at hM
  unfold LayK at hKK
  unfold Two
  obtain ⟨a1, a2, -⟩ := id hq
  have n0 : nI 0 = 0 := rfl
  have a6 : I q 1 = nI 0 := hq.2.2.2.2.1.2.2.1
  have a7 : I 76 j = nI 0 := hq.2.2.2.2.1.2.2.2
  have hq0 : ¬ q = 0 := by omega
  have hc := hq.cm
  have hc' : CM C Z I (u2 R 8 0 q) q 0 (I q 2) _ _ _ _ := hc.keep (fun _ _ => rfl) (fun i hi => u2_ne _ _ _ (by omega))
  have hr' := (hq.rm hM' (by omega)).keep (R' := u2 R 8 0 q) (I' := I) (hM'.look 8 q (by omega)) (fun _ _ _ => rfl)
  have hK' : LayK C Z (u2 R 8 0 q) := by unfold LayK at *; simp [hK, u2_rd]
  have rr : u2 R 8 0 q 8 0 = q := by simp [u2_rd]
  have c8 : C 8 = 4 := by simp [hKK]
  have r74 : ∀ k, u2 R 8 0 q 74 k = R 74 k := fun k => by rw [u2_ne _ _ _ (by omega)]
  have r1 : ∀ k, u2 R 8 0 q 1 k = R 1 k := fun k => by rw [u2_ne _ _ _ (by omega)]
  have r8 : R 8 3 = 27 := by simp [hKK]
  have hM2 := hM'.look 8 q (by omega)
  have md : I 78 j = I (q + 4) 0 := hq.2.2.2.2.2.2.2.2.2.2.2.1.1
  have a8 : I 77 j = I q 2 := hq.2.2.2.2.2.1.1.symm
  have r6 : R q 6 = q + 4 := hq.2.2.2.2.2.2.1.2.2.2
  have c4 : C (q + 4) = 21 ∧ Z (q + 4) = 1 := ⟨hq.2.2.2.2.2.2.2.1.2.2.2.1, hq.2.2.2.2.2.2.2.1.2.2.2.2.2.2.2⟩
  have kin : inG 7 (C q) = true := hc.1.1
  have j0 : inb (nI j) 12 = true := by rw [inb_nI (by omega)]; simp; omega
  have jx := ix_nI (show j < 2 ^ 31 by omega)
  have rq : ∀ k, u2 R 8 0 q q k = R q k := fun k => by rw [u2_ne _ _ _ (by omega)]
  have isy := fun (n sl : Nat) (I' : Nat → Nat → Int32) (L' : Nat → Nat → Int64) => is_yesG hM2 hM12 hj n sl I' L'
  simp [S68_0, S68_1, S87_0, at_yesG hB' hM12 hj, Call_in (k2 := 87), BS, ixs, inbs, le_nlt, hB, e1, a1, hq0, kin, a6, n0, c8]
  refine c_at8 hc hK (fun L1 f1 lk => ?_)
  have ow : ∀ i, i ≤ 0 → L1 27 i = wL (cf (fun i => (I (q + 1) i).toInt) (0 - i)) := lk.2.2
  have pl0 := fun k pc ls st Q => c_pl8 (n := n) (sl := sl) hc' hK' rr lk (show 0 < 8 by omega) k pc ls st Q
  have pl1 := fun k pc ls st Q => c_pl8 (n := n) (sl := sl) hc' hK' rr lk (show 1 < 8 by omega) k pc ls st Q
  have pl2 := fun k pc ls st Q => c_pl8 (n := n) (sl := sl) hc' hK' rr lk (show 2 < 8 by omega) k pc ls st Q
  simp only [nI_0, show nI 1 = 1 from rfl, show nI 2 = 2 from rfl] at pl0 pl1 pl2
  simp [S68_0, S68_1, S24_0, S24_1, Call_in (k2 := 24), BS, ixs, inbs, le_nlt, hB, hKK, c8, r1, r8, rr, rq, r6, c4, kin, a6, n0, ow, pl0, pl1, pl2, wL_i2l, wL_mul, wL_add, u2_rd]
  simp [S134_0, S134_1, S134_2, S134_3, BS, ixs, inbs, le_nlt, hM, isy, e2, r74, a7, n0, j0, jx]
  refine m_owns hr' (fun L2 f2 ow2 => ?_)
  simp [S134_0, S134_1, S134_2, S134_3, BS, ixs, inbs, le_nlt, hM, r74, n0, j0, jx, ow2]
  exact Inv_mk (h7.scr (fun i hi => by rw [f2 i (by omega), f1 i (by omega)]) (fun _ _ => rfl) ⟨rfl, rfl, rfl⟩ (fun i k h1 _ => by rw [u2_rd, if_neg h1]))

set_option maxRecDepth 100000 in
set_option maxHeartbeats 8000000 in
theorem own_001 {n sl : Nat} {C Z : Nat → Nat} {I : Nat → Nat → Int32} {L : Nat → Nat → Int64} {R : Nat → Nat → Nat} {M rn t j q : Nat} (h7 : Inv7 n C Z I L R M rn t) (hj : j < M) (hq : MOK n C Z I R j q 0) : Two 68 134 [some (.ref 1), some (.int (nI j)), some (.int 1), some (.int 0), none] [some (.ref 74), some (.int (nI j)), some (.int 1), some (.int 0), none, none, none] (n, sl, C, Z, I, L, R) := by
  obtain ⟨hM12, hn98, ⟨hB, hK, hO, hE, hM⟩, ⟨e1, e2⟩, -⟩ := id h7
  have hB' := hB
  have hM' := hM
  have hKK := hK
  unfold LayB at hB
  unfold LayM at hM
  unfold LayK at hKK
  unfold Two
  obtain ⟨a1, a2, -⟩ := id hq
  have n0 : nI 0 = 0 := rfl
  have a6 : I q 1 = nI 0 := hq.2.2.2.2.1.2.2.1
  have a7 : I 76 j = nI 0 := hq.2.2.2.2.1.2.2.2
  have hq0 : ¬ q = 0 := by omega
  have hc := hq.cm
  have hc' : CM C Z I (u2 R 8 0 q) q 0 (I q 2) _ _ _ _ := hc.keep (fun _ _ => rfl) (fun i hi => u2_ne _ _ _ (by omega))
  have hr' := (hq.rm hM' (by omega)).keep (R' := u2 R 8 0 q) (I' := I) (hM'.look 8 q (by omega)) (fun _ _ _ => rfl)
  have hK' : LayK C Z (u2 R 8 0 q) := by unfold LayK at *; simp [hK, u2_rd]
  have rr : u2 R 8 0 q 8 0 = q := by simp [u2_rd]
  have c8 : C 8 = 4 := by simp [hKK]
  have r74 : ∀ k, u2 R 8 0 q 74 k = R 74 k := fun k => by rw [u2_ne _ _ _ (by omega)]
  have r1 : ∀ k, u2 R 8 0 q 1 k = R 1 k := fun k => by rw [u2_ne _ _ _ (by omega)]
  have r8 : R 8 3 = 27 := by simp [hKK]
  have hM2 := hM'.look 8 q (by omega)
  have md : I 78 j = I (q + 4) 0 := hq.2.2.2.2.2.2.2.2.2.2.2.1.1
  have a8 : I 77 j = I q 2 := hq.2.2.2.2.2.1.1.symm
  have r6 : R q 6 = q + 4 := hq.2.2.2.2.2.2.1.2.2.2
  have c4 : C (q + 4) = 21 ∧ Z (q + 4) = 1 := ⟨hq.2.2.2.2.2.2.2.1.2.2.2.1, hq.2.2.2.2.2.2.2.1.2.2.2.2.2.2.2⟩
  have kin : inG 7 (C q) = true := hc.1.1
  have j0 : inb (nI j) 12 = true := by rw [inb_nI (by omega)]; simp; omega
  have jx := ix_nI (show j < 2 ^ 31 by omega)
  have rq : ∀ k, u2 R 8 0 q q k = R q k := fun k => by rw [u2_ne _ _ _ (by omega)]
  have isy := fun (n sl : Nat) (I' : Nat → Nat → Int32) (L' : Nat → Nat → Int64) => is_yesG hM2 hM12 hj n sl I' L'
  simp [S68_0, S68_1, S87_0, at_yesG hB' hM12 hj, Call_in (k2 := 87), BS, ixs, inbs, le_nlt, hB, e1, a1, hq0, kin, a6, n0, c8]
  refine c_at8 hc hK (fun L1 f1 lk => ?_)
  have ow : ∀ i, i ≤ 0 → L1 27 i = wL (cf (fun i => (I (q + 1) i).toInt) (0 - i)) := lk.2.2
  have pl0 := fun k pc ls st Q => c_pl8 (n := n) (sl := sl) hc' hK' rr lk (show 0 < 8 by omega) k pc ls st Q
  have pl1 := fun k pc ls st Q => c_pl8 (n := n) (sl := sl) hc' hK' rr lk (show 1 < 8 by omega) k pc ls st Q
  have pl2 := fun k pc ls st Q => c_pl8 (n := n) (sl := sl) hc' hK' rr lk (show 2 < 8 by omega) k pc ls st Q
  simp only [nI_0, show nI 1 = 1 from rfl, show nI 2 = 2 from rfl] at pl0 pl1 pl2
  simp [S68_0, S68_1, S24_0, S24_1, Call_in (k2 := 24), BS, ixs, inbs, le_nlt, hB, hKK, c8, r1, r8, rr, rq, r6, c4, kin, a6, n0, ow, pl0, pl1, pl2, wL_i2l, wL_mul, wL_add, u2_rd]
  simp [S134_0, S134_1, S134_2, S134_3, BS, ixs, inbs, le_nlt, hM, isy, e2, r74, a7, n0, j0, jx]
  refine m_owns hr' (fun L2 f2 ow2 => ?_)
  simp [S134_0, S134_1, S134_2, S134_3, BS, ixs, inbs, le_nlt, hM, r74, a7, a8, md, n0, j0, jx, ow2, wL_i2l, wL_mul, wL_add]
  exact Inv_mk (h7.scr (fun i hi => by rw [f2 i (by omega), f1 i (by omega)]) (fun _ _ => rfl) ⟨rfl, rfl, rfl⟩ (fun i k h1 _ => by rw [u2_rd, if_neg h1]))

set_option maxRecDepth 100000 in
set_option maxHeartbeats 8000000 in
theorem own_100 {n sl : Nat} {C Z : Nat → Nat} {I : Nat → Nat → Int32} {L : Nat → Nat → Int64} {R : Nat → Nat → Nat} {M rn t j q : Nat} (h7 : Inv7 n C Z I L R M rn t) (hj : j < M) (hq : MOK n C Z I R j q 1) : Two 68 134 [some (.ref 1), some (.int (nI j)), some (.int 0), some (.int 0), none] [some (.ref 74), some (.int (nI j)), some (.int 0), some (.int 0), none, none, none] (n, sl, C, Z, I, L, R) := by
  obtain ⟨hM12, hn98, ⟨hB, hK, hO, hE, hM⟩, ⟨e1, e2⟩, -⟩ := id h7
  have hB' := hB
  have hM' := hM
  have hKK := hK
  unfold LayB at hB
  unfold LayM at hM
  unfold LayK at hKK
  unfold Two
  obtain ⟨a1, a2, -⟩ := id hq
  have n0 : nI 1 = 1 := rfl
  have a6 : I q 1 = nI 1 := hq.2.2.2.2.1.2.2.1
  have a7 : I 76 j = nI 1 := hq.2.2.2.2.1.2.2.2
  have hq0 : ¬ q = 0 := by omega
  have hc := hq.cm
  have hc' : CM C Z I (u2 R 8 0 q) q 1 (I q 2) _ _ _ _ := hc.keep (fun _ _ => rfl) (fun i hi => u2_ne _ _ _ (by omega))
  have hr' := (hq.rm hM' (by omega)).keep (R' := u2 R 8 0 q) (I' := I) (hM'.look 8 q (by omega)) (fun _ _ _ => rfl)
  have hK' : LayK C Z (u2 R 8 0 q) := by unfold LayK at *; simp [hK, u2_rd]
  have rr : u2 R 8 0 q 8 0 = q := by simp [u2_rd]
  have c8 : C 8 = 4 := by simp [hKK]
  have r74 : ∀ k, u2 R 8 0 q 74 k = R 74 k := fun k => by rw [u2_ne _ _ _ (by omega)]
  have r1 : ∀ k, u2 R 8 0 q 1 k = R 1 k := fun k => by rw [u2_ne _ _ _ (by omega)]
  have r8 : R 8 3 = 27 := by simp [hKK]
  have hM2 := hM'.look 8 q (by omega)
  have md : I 78 j = I (q + 4) 0 := hq.2.2.2.2.2.2.2.2.2.2.2.1.1
  have a8 : I 77 j = I q 2 := hq.2.2.2.2.2.1.1.symm
  have r6 : R q 6 = q + 4 := hq.2.2.2.2.2.2.1.2.2.2
  have c4 : C (q + 4) = 21 ∧ Z (q + 4) = 1 := ⟨hq.2.2.2.2.2.2.2.1.2.2.2.1, hq.2.2.2.2.2.2.2.1.2.2.2.2.2.2.2⟩
  have kin : inG 7 (C q) = true := hc.1.1
  have j0 : inb (nI j) 12 = true := by rw [inb_nI (by omega)]; simp; omega
  have jx := ix_nI (show j < 2 ^ 31 by omega)
  have rq : ∀ k, u2 R 8 0 q q k = R q k := fun k => by rw [u2_ne _ _ _ (by omega)]
  have isy := fun (n sl : Nat) (I' : Nat → Nat → Int32) (L' : Nat → Nat → Int64) => is_yesG hM2 hM12 hj n sl I' L'
  simp [S68_0, S68_1, S87_0, at_yesG hB' hM12 hj, Call_in (k2 := 87), BS, ixs, inbs, le_nlt, hB, e1, a1, hq0, kin, a6, n0, c8]
  refine c_at8 hc hK (fun L1 f1 lk => ?_)
  have ow : ∀ i, i ≤ 1 → L1 27 i = wL (cf (fun i => (I (q + 1) i).toInt) (1 - i)) := lk.2.2
  have pl0 := fun k pc ls st Q => c_pl8 (n := n) (sl := sl) hc' hK' rr lk (show 0 < 8 by omega) k pc ls st Q
  have pl1 := fun k pc ls st Q => c_pl8 (n := n) (sl := sl) hc' hK' rr lk (show 1 < 8 by omega) k pc ls st Q
  have pl2 := fun k pc ls st Q => c_pl8 (n := n) (sl := sl) hc' hK' rr lk (show 2 < 8 by omega) k pc ls st Q
  simp only [nI_0, show nI 1 = 1 from rfl, show nI 2 = 2 from rfl] at pl0 pl1 pl2
  simp [S68_0, S68_1, S24_0, S24_1, Call_in (k2 := 24), BS, ixs, inbs, le_nlt, hB, hKK, c8, r1, r8, rr, rq, r6, c4, kin, a6, n0, ow, pl0, pl1, pl2, wL_i2l, wL_mul, wL_add, u2_rd]
  simp [S134_0, S134_1, S134_2, S134_3, BS, ixs, inbs, le_nlt, hM, isy, e2, r74, a7, n0, j0, jx]
  refine m_owns hr' (fun L2 f2 ow2 => ?_)
  simp [S134_0, S134_1, S134_2, S134_3, BS, ixs, inbs, le_nlt, hM, r74, n0, j0, jx, ow2]
  exact Inv_mk (h7.scr (fun i hi => by rw [f2 i (by omega), f1 i (by omega)]) (fun _ _ => rfl) ⟨rfl, rfl, rfl⟩ (fun i k h1 _ => by rw [u2_rd, if_neg h1]))

set_option maxRecDepth 100000 in
set_option maxHeartbeats 8000000 in
theorem own_101 {n sl : Nat} {C Z : Nat → Nat} {I : Nat → Nat → Int32} {L : Nat → Nat → Int64} {R : Nat → Nat → Nat} {M rn t j q : Nat} (h7 : Inv7 n C Z I L R M rn t) (hj : j < M) (hq : MOK n C Z I R j q 1) : Two 68 134 [some (.ref 1), some (.int (nI j)), some (.int 1), some (.int 0), none] [some (.ref 74), some (.int (nI j)), some (.int 1), some (.int 0), none, none, none] (n, sl, C, Z, I, L, R) := by
  obtain ⟨hM12, hn98, ⟨hB, hK, hO, hE, hM⟩, ⟨e1, e2⟩, -⟩ := id h7
  have hB' := hB
  have hM' := hM
  have hKK := hK
  unfold LayB at hB
  unfold LayM at hM
  unfold LayK at hKK
  unfold Two
  obtain ⟨a1, a2, -⟩ := id hq
  have n0 : nI 1 = 1 := rfl
  have a6 : I q 1 = nI 1 := hq.2.2.2.2.1.2.2.1
  have a7 : I 76 j = nI 1 := hq.2.2.2.2.1.2.2.2
  have hq0 : ¬ q = 0 := by omega
  have hc := hq.cm
  have hc' : CM C Z I (u2 R 8 0 q) q 1 (I q 2) _ _ _ _ := hc.keep (fun _ _ => rfl) (fun i hi => u2_ne _ _ _ (by omega))
  have hr' := (hq.rm hM' (by omega)).keep (R' := u2 R 8 0 q) (I' := I) (hM'.look 8 q (by omega)) (fun _ _ _ => rfl)
  have hK' : LayK C Z (u2 R 8 0 q) := by unfold LayK at *; simp [hK, u2_rd]
  have rr : u2 R 8 0 q 8 0 = q := by simp [u2_rd]
  have c8 : C 8 = 4 := by simp [hKK]
  have r74 : ∀ k, u2 R 8 0 q 74 k = R 74 k := fun k => by rw [u2_ne _ _ _ (by omega)]
  have r1 : ∀ k, u2 R 8 0 q 1 k = R 1 k := fun k => by rw [u2_ne _ _ _ (by omega)]
  have r8 : R 8 3 = 27 := by simp [hKK]
  have hM2 := hM'.look 8 q (by omega)
  have md : I 78 j = I (q + 4) 0 := hq.2.2.2.2.2.2.2.2.2.2.2.1.1
  have a8 : I 77 j = I q 2 := hq.2.2.2.2.2.1.1.symm
  have r6 : R q 6 = q + 4 := hq.2.2.2.2.2.2.1.2.2.2
  have c4 : C (q + 4) = 21 ∧ Z (q + 4) = 1 := ⟨hq.2.2.2.2.2.2.2.1.2.2.2.1, hq.2.2.2.2.2.2.2.1.2.2.2.2.2.2.2⟩
  have kin : inG 7 (C q) = true := hc.1.1
  have j0 : inb (nI j) 12 = true := by rw [inb_nI (by omega)]; simp; omega
  have jx := ix_nI (show j < 2 ^ 31 by omega)
  have rq : ∀ k, u2 R 8 0 q q k = R q k := fun k => by rw [u2_ne _ _ _ (by omega)]
  have isy := fun (n sl : Nat) (I' : Nat → Nat → Int32) (L' : Nat → Nat → Int64) => is_yesG hM2 hM12 hj n sl I' L'
  simp [S68_0, S68_1, S87_0, at_yesG hB' hM12 hj, Call_in (k2 := 87), BS, ixs, inbs, le_nlt, hB, e1, a1, hq0, kin, a6, n0, c8]
  refine c_at8 hc hK (fun L1 f1 lk => ?_)
  have ow : ∀ i, i ≤ 1 → L1 27 i = wL (cf (fun i => (I (q + 1) i).toInt) (1 - i)) := lk.2.2
  have pl0 := fun k pc ls st Q => c_pl8 (n := n) (sl := sl) hc' hK' rr lk (show 0 < 8 by omega) k pc ls st Q
  have pl1 := fun k pc ls st Q => c_pl8 (n := n) (sl := sl) hc' hK' rr lk (show 1 < 8 by omega) k pc ls st Q
  have pl2 := fun k pc ls st Q => c_pl8 (n := n) (sl := sl) hc' hK' rr lk (show 2 < 8 by omega) k pc ls st Q
  simp only [nI_0, show nI 1 = 1 from rfl, show nI 2 = 2 from rfl] at pl0 pl1 pl2
  simp [S68_0, S68_1, S24_0, S24_1, Call_in (k2 := 24), BS, ixs, inbs, le_nlt, hB, hKK, c8, r1, r8, rr, rq, r6, c4, kin, a6, n0, ow, pl0, pl1, pl2, wL_i2l, wL_mul, wL_add, u2_rd]
  simp [S134_0, S134_1, S134_2, S134_3, BS, ixs, inbs, le_nlt, hM, isy, e2, r74, a7, n0, j0, jx]
  refine m_owns hr' (fun L2 f2 ow2 => ?_)
  simp [S134_0, S134_1, S134_2, S134_3, BS, ixs, inbs, le_nlt, hM, r74, a7, a8, md, n0, j0, jx, ow2, wL_i2l, wL_mul, wL_add]
  refine m_beat hr' (show 0 < 1000 by omega) (fun L3 g3 => ?_)
  have ow3 : ∀ i, i ≤ 1 → L3 92 i = wL (cf (fun i => (I (q + 1) i).toInt) (1 - i)) := fun i hi => by rw [g3 92 (by omega) (by omega)]; exact ow2 i hi
  simp [S134_0, S134_1, S134_2, S134_3, BS, ixs, inbs, le_nlt, hM, r74, a7, a8, md, n0, j0, jx, ow3, wL_i2l, wL_mul, wL_add]
  exact Inv_mk (h7.scr (fun i hi => by rw [g3 i (by omega) (by omega), f2 i (by omega), f1 i (by omega)]) (fun _ _ => rfl) ⟨rfl, rfl, rfl⟩ (fun i k h1 _ => by rw [u2_rd, if_neg h1]))

set_option maxRecDepth 100000 in
set_option maxHeartbeats 8000000 in
theorem own_110 {n sl : Nat} {C Z : Nat → Nat} {I : Nat → Nat → Int32} {L : Nat → Nat → Int64} {R : Nat → Nat → Nat} {M rn t j q : Nat} (h7 : Inv7 n C Z I L R M rn t) (hj : j < M) (hq : MOK n C Z I R j q 1) : Two 68 134 [some (.ref 1), some (.int (nI j)), some (.int 0), some (.int 1), none] [some (.ref 74), some (.int (nI j)), some (.int 0), some (.int 1), none, none, none] (n, sl, C, Z, I, L, R) := by
  obtain ⟨hM12, hn98, ⟨hB, hK, hO, hE, hM⟩, ⟨e1, e2⟩, -⟩ := id h7
  have hB' := hB
  have hM' := hM
  have hKK := hK
  unfold LayB at hB
  unfold LayM at hM
  unfold LayK at hKK
  unfold Two
  obtain ⟨a1, a2, -⟩ := id hq
  have n0 : nI 1 = 1 := rfl
  have a6 : I q 1 = nI 1 := hq.2.2.2.2.1.2.2.1
  have a7 : I 76 j = nI 1 := hq.2.2.2.2.1.2.2.2
  have hq0 : ¬ q = 0 := by omega
  have hc := hq.cm
  have hc' : CM C Z I (u2 R 8 0 q) q 1 (I q 2) _ _ _ _ := hc.keep (fun _ _ => rfl) (fun i hi => u2_ne _ _ _ (by omega))
  have hr' := (hq.rm hM' (by omega)).keep (R' := u2 R 8 0 q) (I' := I) (hM'.look 8 q (by omega)) (fun _ _ _ => rfl)
  have hK' : LayK C Z (u2 R 8 0 q) := by unfold LayK at *; simp [hK, u2_rd]
  have rr : u2 R 8 0 q 8 0 = q := by simp [u2_rd]
  have c8 : C 8 = 4 := by simp [hKK]
  have r74 : ∀ k, u2 R 8 0 q 74 k = R 74 k := fun k => by rw [u2_ne _ _ _ (by omega)]
  have r1 : ∀ k, u2 R 8 0 q 1 k = R 1 k := fun k => by rw [u2_ne _ _ _ (by omega)]
  have r8 : R 8 3 = 27 := by simp [hKK]
  have hM2 := hM'.look 8 q (by omega)
  have md : I 78 j = I (q + 4) 0 := hq.2.2.2.2.2.2.2.2.2.2.2.1.1
  have a8 : I 77 j = I q 2 := hq.2.2.2.2.2.1.1.symm
  have r6 : R q 6 = q + 4 := hq.2.2.2.2.2.2.1.2.2.2
  have c4 : C (q + 4) = 21 ∧ Z (q + 4) = 1 := ⟨hq.2.2.2.2.2.2.2.1.2.2.2.1, hq.2.2.2.2.2.2.2.1.2.2.2.2.2.2.2⟩
  have kin : inG 7 (C q) = true := hc.1.1
  have j0 : inb (nI j) 12 = true := by rw [inb_nI (by omega)]; simp; omega
  have jx := ix_nI (show j < 2 ^ 31 by omega)
  have rq : ∀ k, u2 R 8 0 q q k = R q k := fun k => by rw [u2_ne _ _ _ (by omega)]
  have isy := fun (n sl : Nat) (I' : Nat → Nat → Int32) (L' : Nat → Nat → Int64) => is_yesG hM2 hM12 hj n sl I' L'
  simp [S68_0, S68_1, S87_0, at_yesG hB' hM12 hj, Call_in (k2 := 87), BS, ixs, inbs, le_nlt, hB, e1, a1, hq0, kin, a6, n0, c8]
  refine c_at8 hc hK (fun L1 f1 lk => ?_)
  have ow : ∀ i, i ≤ 1 → L1 27 i = wL (cf (fun i => (I (q + 1) i).toInt) (1 - i)) := lk.2.2
  have pl0 := fun k pc ls st Q => c_pl8 (n := n) (sl := sl) hc' hK' rr lk (show 0 < 8 by omega) k pc ls st Q
  have pl1 := fun k pc ls st Q => c_pl8 (n := n) (sl := sl) hc' hK' rr lk (show 1 < 8 by omega) k pc ls st Q
  have pl2 := fun k pc ls st Q => c_pl8 (n := n) (sl := sl) hc' hK' rr lk (show 2 < 8 by omega) k pc ls st Q
  simp only [nI_0, show nI 1 = 1 from rfl, show nI 2 = 2 from rfl] at pl0 pl1 pl2
  simp [S68_0, S68_1, S24_0, S24_1, Call_in (k2 := 24), BS, ixs, inbs, le_nlt, hB, hKK, c8, r1, r8, rr, rq, r6, c4, kin, a6, n0, ow, pl0, pl1, pl2, wL_i2l, wL_mul, wL_add, u2_rd]
  simp [S134_0, S134_1, S134_2, S134_3, BS, ixs, inbs, le_nlt, hM, isy, e2, r74, a7, n0, j0, jx]
  refine m_owns hr' (fun L2 f2 ow2 => ?_)
  simp [S134_0, S134_1, S134_2, S134_3, BS, ixs, inbs, le_nlt, hM, r74, n0, j0, jx, ow2]
  exact Inv_mk (h7.scr (fun i hi => by rw [f2 i (by omega), f1 i (by omega)]) (fun _ _ => rfl) ⟨rfl, rfl, rfl⟩ (fun i k h1 _ => by rw [u2_rd, if_neg h1]))

set_option maxRecDepth 100000 in
set_option maxHeartbeats 8000000 in
theorem own_111 {n sl : Nat} {C Z : Nat → Nat} {I : Nat → Nat → Int32} {L : Nat → Nat → Int64} {R : Nat → Nat → Nat} {M rn t j q : Nat} (h7 : Inv7 n C Z I L R M rn t) (hj : j < M) (hq : MOK n C Z I R j q 1) : Two 68 134 [some (.ref 1), some (.int (nI j)), some (.int 1), some (.int 1), none] [some (.ref 74), some (.int (nI j)), some (.int 1), some (.int 1), none, none, none] (n, sl, C, Z, I, L, R) := by
  obtain ⟨hM12, hn98, ⟨hB, hK, hO, hE, hM⟩, ⟨e1, e2⟩, -⟩ := id h7
  have hB' := hB
  have hM' := hM
  have hKK := hK
  unfold LayB at hB
  unfold LayM at hM
  unfold LayK at hKK
  unfold Two
  obtain ⟨a1, a2, -⟩ := id hq
  have n0 : nI 1 = 1 := rfl
  have a6 : I q 1 = nI 1 := hq.2.2.2.2.1.2.2.1
  have a7 : I 76 j = nI 1 := hq.2.2.2.2.1.2.2.2
  have hq0 : ¬ q = 0 := by omega
  have hc := hq.cm
  have hc' : CM C Z I (u2 R 8 0 q) q 1 (I q 2) _ _ _ _ := hc.keep (fun _ _ => rfl) (fun i hi => u2_ne _ _ _ (by omega))
  have hr' := (hq.rm hM' (by omega)).keep (R' := u2 R 8 0 q) (I' := I) (hM'.look 8 q (by omega)) (fun _ _ _ => rfl)
  have hK' : LayK C Z (u2 R 8 0 q) := by unfold LayK at *; simp [hK, u2_rd]
  have rr : u2 R 8 0 q 8 0 = q := by simp [u2_rd]
  have c8 : C 8 = 4 := by simp [hKK]
  have r74 : ∀ k, u2 R 8 0 q 74 k = R 74 k := fun k => by rw [u2_ne _ _ _ (by omega)]
  have r1 : ∀ k, u2 R 8 0 q 1 k = R 1 k := fun k => by rw [u2_ne _ _ _ (by omega)]
  have r8 : R 8 3 = 27 := by simp [hKK]
  have hM2 := hM'.look 8 q (by omega)
  have md : I 78 j = I (q + 4) 0 := hq.2.2.2.2.2.2.2.2.2.2.2.1.1
  have a8 : I 77 j = I q 2 := hq.2.2.2.2.2.1.1.symm
  have r6 : R q 6 = q + 4 := hq.2.2.2.2.2.2.1.2.2.2
  have c4 : C (q + 4) = 21 ∧ Z (q + 4) = 1 := ⟨hq.2.2.2.2.2.2.2.1.2.2.2.1, hq.2.2.2.2.2.2.2.1.2.2.2.2.2.2.2⟩
  have kin : inG 7 (C q) = true := hc.1.1
  have j0 : inb (nI j) 12 = true := by rw [inb_nI (by omega)]; simp; omega
  have jx := ix_nI (show j < 2 ^ 31 by omega)
  have rq : ∀ k, u2 R 8 0 q q k = R q k := fun k => by rw [u2_ne _ _ _ (by omega)]
  have isy := fun (n sl : Nat) (I' : Nat → Nat → Int32) (L' : Nat → Nat → Int64) => is_yesG hM2 hM12 hj n sl I' L'
  simp [S68_0, S68_1, S87_0, at_yesG hB' hM12 hj, Call_in (k2 := 87), BS, ixs, inbs, le_nlt, hB, e1, a1, hq0, kin, a6, n0, c8]
  refine c_at8 hc hK (fun L1 f1 lk => ?_)
  have ow : ∀ i, i ≤ 1 → L1 27 i = wL (cf (fun i => (I (q + 1) i).toInt) (1 - i)) := lk.2.2
  have pl0 := fun k pc ls st Q => c_pl8 (n := n) (sl := sl) hc' hK' rr lk (show 0 < 8 by omega) k pc ls st Q
  have pl1 := fun k pc ls st Q => c_pl8 (n := n) (sl := sl) hc' hK' rr lk (show 1 < 8 by omega) k pc ls st Q
  have pl2 := fun k pc ls st Q => c_pl8 (n := n) (sl := sl) hc' hK' rr lk (show 2 < 8 by omega) k pc ls st Q
  simp only [nI_0, show nI 1 = 1 from rfl, show nI 2 = 2 from rfl] at pl0 pl1 pl2
  simp [S68_0, S68_1, S24_0, S24_1, Call_in (k2 := 24), BS, ixs, inbs, le_nlt, hB, hKK, c8, r1, r8, rr, rq, r6, c4, kin, a6, n0, ow, pl0, pl1, pl2, wL_i2l, wL_mul, wL_add, u2_rd]
  simp [S134_0, S134_1, S134_2, S134_3, BS, ixs, inbs, le_nlt, hM, isy, e2, r74, a7, n0, j0, jx]
  refine m_owns hr' (fun L2 f2 ow2 => ?_)
  simp [S134_0, S134_1, S134_2, S134_3, BS, ixs, inbs, le_nlt, hM, r74, a7, a8, md, n0, j0, jx, ow2, wL_i2l, wL_mul, wL_add]
  exact Inv_mk (h7.scr (fun i hi => by rw [f2 i (by omega), f1 i (by omega)]) (fun _ _ => rfl) ⟨rfl, rfl, rfl⟩ (fun i k h1 _ => by rw [u2_rd, if_neg h1]))

set_option maxRecDepth 100000 in
set_option maxHeartbeats 8000000 in
theorem own_200 {n sl : Nat} {C Z : Nat → Nat} {I : Nat → Nat → Int32} {L : Nat → Nat → Int64} {R : Nat → Nat → Nat} {M rn t j q : Nat} (h7 : Inv7 n C Z I L R M rn t) (hj : j < M) (hq : MOK n C Z I R j q 2) : Two 68 134 [some (.ref 1), some (.int (nI j)), some (.int 0), some (.int 0), none] [some (.ref 74), some (.int (nI j)), some (.int 0), some (.int 0), none, none, none] (n, sl, C, Z, I, L, R) := by
  obtain ⟨hM12, hn98, ⟨hB, hK, hO, hE, hM⟩, ⟨e1, e2⟩, -⟩ := id h7
  have hB' := hB
  have hM' := hM
  have hKK := hK
  unfold LayB at hB
  unfold LayM at hM
  unfold LayK at hKK
  unfold Two
  obtain ⟨a1, a2, -⟩ := id hq
  have n0 : nI 2 = 2 := rfl
  have a6 : I q 1 = nI 2 := hq.2.2.2.2.1.2.2.1
  have a7 : I 76 j = nI 2 := hq.2.2.2.2.1.2.2.2
  have hq0 : ¬ q = 0 := by omega
  have hc := hq.cm
  have hc' : CM C Z I (u2 R 8 0 q) q 2 (I q 2) _ _ _ _ := hc.keep (fun _ _ => rfl) (fun i hi => u2_ne _ _ _ (by omega))
  have hr' := (hq.rm hM' (by omega)).keep (R' := u2 R 8 0 q) (I' := I) (hM'.look 8 q (by omega)) (fun _ _ _ => rfl)
  have hK' : LayK C Z (u2 R 8 0 q) := by unfold LayK at *; simp [hK, u2_rd]
  have rr : u2 R 8 0 q 8 0 = q := by simp [u2_rd]
  have c8 : C 8 = 4 := by simp [hKK]
  have r74 : ∀ k, u2 R 8 0 q 74 k = R 74 k := fun k => by rw [u2_ne _ _ _ (by omega)]
  have r1 : ∀ k, u2 R 8 0 q 1 k = R 1 k := fun k => by rw [u2_ne _ _ _ (by omega)]
  have r8 : R 8 3 = 27 := by simp [hKK]
  have hM2 := hM'.look 8 q (by omega)
  have md : I 78 j = I (q + 4) 0 := hq.2.2.2.2.2.2.2.2.2.2.2.1.1
  have a8 : I 77 j = I q 2 := hq.2.2.2.2.2.1.1.symm
  have r6 : R q 6 = q + 4 := hq.2.2.2.2.2.2.1.2.2.2
  have c4 : C (q + 4) = 21 ∧ Z (q + 4) = 1 := ⟨hq.2.2.2.2.2.2.2.1.2.2.2.1, hq.2.2.2.2.2.2.2.1.2.2.2.2.2.2.2⟩
  have kin : inG 7 (C q) = true := hc.1.1
  have j0 : inb (nI j) 12 = true := by rw [inb_nI (by omega)]; simp; omega
  have jx := ix_nI (show j < 2 ^ 31 by omega)
  have rq : ∀ k, u2 R 8 0 q q k = R q k := fun k => by rw [u2_ne _ _ _ (by omega)]
  have isy := fun (n sl : Nat) (I' : Nat → Nat → Int32) (L' : Nat → Nat → Int64) => is_yesG hM2 hM12 hj n sl I' L'
  simp [S68_0, S68_1, S87_0, at_yesG hB' hM12 hj, Call_in (k2 := 87), BS, ixs, inbs, le_nlt, hB, e1, a1, hq0, kin, a6, n0, c8]
  refine c_at8 hc hK (fun L1 f1 lk => ?_)
  have ow : ∀ i, i ≤ 2 → L1 27 i = wL (cf (fun i => (I (q + 1) i).toInt) (2 - i)) := lk.2.2
  have pl0 := fun k pc ls st Q => c_pl8 (n := n) (sl := sl) hc' hK' rr lk (show 0 < 8 by omega) k pc ls st Q
  have pl1 := fun k pc ls st Q => c_pl8 (n := n) (sl := sl) hc' hK' rr lk (show 1 < 8 by omega) k pc ls st Q
  have pl2 := fun k pc ls st Q => c_pl8 (n := n) (sl := sl) hc' hK' rr lk (show 2 < 8 by omega) k pc ls st Q
  simp only [nI_0, show nI 1 = 1 from rfl, show nI 2 = 2 from rfl] at pl0 pl1 pl2
  simp [S68_0, S68_1, S24_0, S24_1, Call_in (k2 := 24), BS, ixs, inbs, le_nlt, hB, hKK, c8, r1, r8, rr, rq, r6, c4, kin, a6, n0, ow, pl0, pl1, pl2, wL_i2l, wL_mul, wL_add, u2_rd]
  simp [S134_0, S134_1, S134_2, S134_3, BS, ixs, inbs, le_nlt, hM, isy, e2, r74, a7, n0, j0, jx]
  refine m_owns hr' (fun L2 f2 ow2 => ?_)
  simp [S134_0, S134_1, S134_2, S134_3, BS, ixs, inbs, le_nlt, hM, r74, n0, j0, jx, ow2]
  exact Inv_mk (h7.scr (fun i hi => by rw [f2 i (by omega), f1 i (by omega)]) (fun _ _ => rfl) ⟨rfl, rfl, rfl⟩ (fun i k h1 _ => by rw [u2_rd, if_neg h1]))

set_option maxRecDepth 100000 in
set_option maxHeartbeats 8000000 in
theorem own_201 {n sl : Nat} {C Z : Nat → Nat} {I : Nat → Nat → Int32} {L : Nat → Nat → Int64} {R : Nat → Nat → Nat} {M rn t j q : Nat} (h7 : Inv7 n C Z I L R M rn t) (hj : j < M) (hq : MOK n C Z I R j q 2) : Two 68 134 [some (.ref 1), some (.int (nI j)), some (.int 1), some (.int 0), none] [some (.ref 74), some (.int (nI j)), some (.int 1), some (.int 0), none, none, none] (n, sl, C, Z, I, L, R) := by
  obtain ⟨hM12, hn98, ⟨hB, hK, hO, hE, hM⟩, ⟨e1, e2⟩, -⟩ := id h7
  have hB' := hB
  have hM' := hM
  have hKK := hK
  unfold LayB at hB
  unfold LayM at hM
  unfold LayK at hKK
  unfold Two
  obtain ⟨a1, a2, -⟩ := id hq
  have n0 : nI 2 = 2 := rfl
  have a6 : I q 1 = nI 2 := hq.2.2.2.2.1.2.2.1
  have a7 : I 76 j = nI 2 := hq.2.2.2.2.1.2.2.2
  have hq0 : ¬ q = 0 := by omega
  have hc := hq.cm
  have hc' : CM C Z I (u2 R 8 0 q) q 2 (I q 2) _ _ _ _ := hc.keep (fun _ _ => rfl) (fun i hi => u2_ne _ _ _ (by omega))
  have hr' := (hq.rm hM' (by omega)).keep (R' := u2 R 8 0 q) (I' := I) (hM'.look 8 q (by omega)) (fun _ _ _ => rfl)
  have hK' : LayK C Z (u2 R 8 0 q) := by unfold LayK at *; simp [hK, u2_rd]
  have rr : u2 R 8 0 q 8 0 = q := by simp [u2_rd]
  have c8 : C 8 = 4 := by simp [hKK]
  have r74 : ∀ k, u2 R 8 0 q 74 k = R 74 k := fun k => by rw [u2_ne _ _ _ (by omega)]
  have r1 : ∀ k, u2 R 8 0 q 1 k = R 1 k := fun k => by rw [u2_ne _ _ _ (by omega)]
  have r8 : R 8 3 = 27 := by simp [hKK]
  have hM2 := hM'.look 8 q (by omega)
  have md : I 78 j = I (q + 4) 0 := hq.2.2.2.2.2.2.2.2.2.2.2.1.1
  have a8 : I 77 j = I q 2 := hq.2.2.2.2.2.1.1.symm
  have r6 : R q 6 = q + 4 := hq.2.2.2.2.2.2.1.2.2.2
  have c4 : C (q + 4) = 21 ∧ Z (q + 4) = 1 := ⟨hq.2.2.2.2.2.2.2.1.2.2.2.1, hq.2.2.2.2.2.2.2.1.2.2.2.2.2.2.2⟩
  have kin : inG 7 (C q) = true := hc.1.1
  have j0 : inb (nI j) 12 = true := by rw [inb_nI (by omega)]; simp; omega
  have jx := ix_nI (show j < 2 ^ 31 by omega)
  have rq : ∀ k, u2 R 8 0 q q k = R q k := fun k => by rw [u2_ne _ _ _ (by omega)]
  have isy := fun (n sl : Nat) (I' : Nat → Nat → Int32) (L' : Nat → Nat → Int64) => is_yesG hM2 hM12 hj n sl I' L'
  simp [S68_0, S68_1, S87_0, at_yesG hB' hM12 hj, Call_in (k2 := 87), BS, ixs, inbs, le_nlt, hB, e1, a1, hq0, kin, a6, n0, c8]
  refine c_at8 hc hK (fun L1 f1 lk => ?_)
  have ow : ∀ i, i ≤ 2 → L1 27 i = wL (cf (fun i => (I (q + 1) i).toInt) (2 - i)) := lk.2.2
  have pl0 := fun k pc ls st Q => c_pl8 (n := n) (sl := sl) hc' hK' rr lk (show 0 < 8 by omega) k pc ls st Q
  have pl1 := fun k pc ls st Q => c_pl8 (n := n) (sl := sl) hc' hK' rr lk (show 1 < 8 by omega) k pc ls st Q
  have pl2 := fun k pc ls st Q => c_pl8 (n := n) (sl := sl) hc' hK' rr lk (show 2 < 8 by omega) k pc ls st Q
  simp only [nI_0, show nI 1 = 1 from rfl, show nI 2 = 2 from rfl] at pl0 pl1 pl2
  simp [S68_0, S68_1, S24_0, S24_1, Call_in (k2 := 24), BS, ixs, inbs, le_nlt, hB, hKK, c8, r1, r8, rr, rq, r6, c4, kin, a6, n0, ow, pl0, pl1, pl2, wL_i2l, wL_mul, wL_add, u2_rd]
  simp [S134_0, S134_1, S134_2, S134_3, BS, ixs, inbs, le_nlt, hM, isy, e2, r74, a7, n0, j0, jx]
  refine m_owns hr' (fun L2 f2 ow2 => ?_)
  simp [S134_0, S134_1, S134_2, S134_3, BS, ixs, inbs, le_nlt, hM, r74, a7, a8, md, n0, j0, jx, ow2, wL_i2l, wL_mul, wL_add]
  refine m_beat hr' (show 0 < 1000 by omega) (fun L3 g3 => ?_)
  have ow3 : ∀ i, i ≤ 2 → L3 92 i = wL (cf (fun i => (I (q + 1) i).toInt) (2 - i)) := fun i hi => by rw [g3 92 (by omega) (by omega)]; exact ow2 i hi
  simp [S134_0, S134_1, S134_2, S134_3, BS, ixs, inbs, le_nlt, hM, r74, a7, a8, md, n0, j0, jx, ow3, wL_i2l, wL_mul, wL_add]
  refine m_beat hr' (show 1 < 1000 by omega) (fun L4 g4 => ?_)
  have ow4 : ∀ i, i ≤ 2 → L4 92 i = wL (cf (fun i => (I (q + 1) i).toInt) (2 - i)) := fun i hi => by rw [g4 92 (by omega) (by omega)]; exact ow3 i hi
  simp [S134_0, S134_1, S134_2, S134_3, BS, ixs, inbs, le_nlt, hM, r74, a7, a8, md, n0, j0, jx, ow4, wL_i2l, wL_mul, wL_add]
  exact Inv_mk (h7.scr (fun i hi => by rw [g4 i (by omega) (by omega), g3 i (by omega) (by omega), f2 i (by omega), f1 i (by omega)]) (fun _ _ => rfl) ⟨rfl, rfl, rfl⟩ (fun i k h1 _ => by rw [u2_rd, if_neg h1]))

set_option maxRecDepth 100000 in
set_option maxHeartbeats 8000000 in
theorem own_210 {n sl : Nat} {C Z : Nat → Nat} {I : Nat → Nat → Int32} {L : Nat → Nat → Int64} {R : Nat → Nat → Nat} {M rn t j q : Nat} (h7 : Inv7 n C Z I L R M rn t) (hj : j < M) (hq : MOK n C Z I R j q 2) : Two 68 134 [some (.ref 1), some (.int (nI j)), some (.int 0), some (.int 1), none] [some (.ref 74), some (.int (nI j)), some (.int 0), some (.int 1), none, none, none] (n, sl, C, Z, I, L, R) := by
  obtain ⟨hM12, hn98, ⟨hB, hK, hO, hE, hM⟩, ⟨e1, e2⟩, -⟩ := id h7
  have hB' := hB
  have hM' := hM
  have hKK := hK
  unfold LayB at hB
  unfold LayM at hM
  unfold LayK at hKK
  unfold Two
  obtain ⟨a1, a2, -⟩ := id hq
  have n0 : nI 2 = 2 := rfl
  have a6 : I q 1 = nI 2 := hq.2.2.2.2.1.2.2.1
  have a7 : I 76 j = nI 2 := hq.2.2.2.2.1.2.2.2
  have hq0 : ¬ q = 0 := by omega
  have hc := hq.cm
  have hc' : CM C Z I (u2 R 8 0 q) q 2 (I q 2) _ _ _ _ := hc.keep (fun _ _ => rfl) (fun i hi => u2_ne _ _ _ (by omega))
  have hr' := (hq.rm hM' (by omega)).keep (R' := u2 R 8 0 q) (I' := I) (hM'.look 8 q (by omega)) (fun _ _ _ => rfl)
  have hK' : LayK C Z (u2 R 8 0 q) := by unfold LayK at *; simp [hK, u2_rd]
  have rr : u2 R 8 0 q 8 0 = q := by simp [u2_rd]
  have c8 : C 8 = 4 := by simp [hKK]
  have r74 : ∀ k, u2 R 8 0 q 74 k = R 74 k := fun k => by rw [u2_ne _ _ _ (by omega)]
  have r1 : ∀ k, u2 R 8 0 q 1 k = R 1 k := fun k => by rw [u2_ne _ _ _ (by omega)]
  have r8 : R 8 3 = 27 := by simp [hKK]
  have hM2 := hM'.look 8 q (by omega)
  have md : I 78 j = I (q + 4) 0 := hq.2.2.2.2.2.2.2.2.2.2.2.1.1
  have a8 : I 77 j = I q 2 := hq.2.2.2.2.2.1.1.symm
  have r6 : R q 6 = q + 4 := hq.2.2.2.2.2.2.1.2.2.2
  have c4 : C (q + 4) = 21 ∧ Z (q + 4) = 1 := ⟨hq.2.2.2.2.2.2.2.1.2.2.2.1, hq.2.2.2.2.2.2.2.1.2.2.2.2.2.2.2⟩
  have kin : inG 7 (C q) = true := hc.1.1
  have j0 : inb (nI j) 12 = true := by rw [inb_nI (by omega)]; simp; omega
  have jx := ix_nI (show j < 2 ^ 31 by omega)
  have rq : ∀ k, u2 R 8 0 q q k = R q k := fun k => by rw [u2_ne _ _ _ (by omega)]
  have isy := fun (n sl : Nat) (I' : Nat → Nat → Int32) (L' : Nat → Nat → Int64) => is_yesG hM2 hM12 hj n sl I' L'
  simp [S68_0, S68_1, S87_0, at_yesG hB' hM12 hj, Call_in (k2 := 87), BS, ixs, inbs, le_nlt, hB, e1, a1, hq0, kin, a6, n0, c8]
  refine c_at8 hc hK (fun L1 f1 lk => ?_)
  have ow : ∀ i, i ≤ 2 → L1 27 i = wL (cf (fun i => (I (q + 1) i).toInt) (2 - i)) := lk.2.2
  have pl0 := fun k pc ls st Q => c_pl8 (n := n) (sl := sl) hc' hK' rr lk (show 0 < 8 by omega) k pc ls st Q
  have pl1 := fun k pc ls st Q => c_pl8 (n := n) (sl := sl) hc' hK' rr lk (show 1 < 8 by omega) k pc ls st Q
  have pl2 := fun k pc ls st Q => c_pl8 (n := n) (sl := sl) hc' hK' rr lk (show 2 < 8 by omega) k pc ls st Q
  simp only [nI_0, show nI 1 = 1 from rfl, show nI 2 = 2 from rfl] at pl0 pl1 pl2
  simp [S68_0, S68_1, S24_0, S24_1, Call_in (k2 := 24), BS, ixs, inbs, le_nlt, hB, hKK, c8, r1, r8, rr, rq, r6, c4, kin, a6, n0, ow, pl0, pl1, pl2, wL_i2l, wL_mul, wL_add, u2_rd]
  simp [S134_0, S134_1, S134_2, S134_3, BS, ixs, inbs, le_nlt, hM, isy, e2, r74, a7, n0, j0, jx]
  refine m_owns hr' (fun L2 f2 ow2 => ?_)
  simp [S134_0, S134_1, S134_2, S134_3, BS, ixs, inbs, le_nlt, hM, r74, n0, j0, jx, ow2]
  exact Inv_mk (h7.scr (fun i hi => by rw [f2 i (by omega), f1 i (by omega)]) (fun _ _ => rfl) ⟨rfl, rfl, rfl⟩ (fun i k h1 _ => by rw [u2_rd, if_neg h1]))

set_option maxRecDepth 100000 in
set_option maxHeartbeats 8000000 in
theorem own_211 {n sl : Nat} {C Z : Nat → Nat} {I : Nat → Nat → Int32} {L : Nat → Nat → Int64} {R : Nat → Nat → Nat} {M rn t j q : Nat} (h7 : Inv7 n C Z I L R M rn t) (hj : j < M) (hq : MOK n C Z I R j q 2) : Two 68 134 [some (.ref 1), some (.int (nI j)), some (.int 1), some (.int 1), none] [some (.ref 74), some (.int (nI j)), some (.int 1), some (.int 1), none, none, none] (n, sl, C, Z, I, L, R) := by
  obtain ⟨hM12, hn98, ⟨hB, hK, hO, hE, hM⟩, ⟨e1, e2⟩, -⟩ := id h7
  have hB' := hB
  have hM' := hM
  have hKK := hK
  unfold LayB at hB
  unfold LayM at hM
  unfold LayK at hKK
  unfold Two
  obtain ⟨a1, a2, -⟩ := id hq
  have n0 : nI 2 = 2 := rfl
  have a6 : I q 1 = nI 2 := hq.2.2.2.2.1.2.2.1
  have a7 : I 76 j = nI 2 := hq.2.2.2.2.1.2.2.2
  have hq0 : ¬ q = 0 := by omega
  have hc := hq.cm
  have hc' : CM C Z I (u2 R 8 0 q) q 2 (I q 2) _ _ _ _ := hc.keep (fun _ _ => rfl) (fun i hi => u2_ne _ _ _ (by omega))
  have hr' := (hq.rm hM' (by omega)).keep (R' := u2 R 8 0 q) (I' := I) (hM'.look 8 q (by omega)) (fun _ _ _ => rfl)
  have hK' : LayK C Z (u2 R 8 0 q) := by unfold LayK at *; simp [hK, u2_rd]
  have rr : u2 R 8 0 q 8 0 = q := by simp [u2_rd]
  have c8 : C 8 = 4 := by simp [hKK]
  have r74 : ∀ k, u2 R 8 0 q 74 k = R 74 k := fun k => by rw [u2_ne _ _ _ (by omega)]
  have r1 : ∀ k, u2 R 8 0 q 1 k = R 1 k := fun k => by rw [u2_ne _ _ _ (by omega)]
  have r8 : R 8 3 = 27 := by simp [hKK]
  have hM2 := hM'.look 8 q (by omega)
  have md : I 78 j = I (q + 4) 0 := hq.2.2.2.2.2.2.2.2.2.2.2.1.1
  have a8 : I 77 j = I q 2 := hq.2.2.2.2.2.1.1.symm
  have r6 : R q 6 = q + 4 := hq.2.2.2.2.2.2.1.2.2.2
  have c4 : C (q + 4) = 21 ∧ Z (q + 4) = 1 := ⟨hq.2.2.2.2.2.2.2.1.2.2.2.1, hq.2.2.2.2.2.2.2.1.2.2.2.2.2.2.2⟩
  have kin : inG 7 (C q) = true := hc.1.1
  have j0 : inb (nI j) 12 = true := by rw [inb_nI (by omega)]; simp; omega
  have jx := ix_nI (show j < 2 ^ 31 by omega)
  have rq : ∀ k, u2 R 8 0 q q k = R q k := fun k => by rw [u2_ne _ _ _ (by omega)]
  have isy := fun (n sl : Nat) (I' : Nat → Nat → Int32) (L' : Nat → Nat → Int64) => is_yesG hM2 hM12 hj n sl I' L'
  simp [S68_0, S68_1, S87_0, at_yesG hB' hM12 hj, Call_in (k2 := 87), BS, ixs, inbs, le_nlt, hB, e1, a1, hq0, kin, a6, n0, c8]
  refine c_at8 hc hK (fun L1 f1 lk => ?_)
  have ow : ∀ i, i ≤ 2 → L1 27 i = wL (cf (fun i => (I (q + 1) i).toInt) (2 - i)) := lk.2.2
  have pl0 := fun k pc ls st Q => c_pl8 (n := n) (sl := sl) hc' hK' rr lk (show 0 < 8 by omega) k pc ls st Q
  have pl1 := fun k pc ls st Q => c_pl8 (n := n) (sl := sl) hc' hK' rr lk (show 1 < 8 by omega) k pc ls st Q
  have pl2 := fun k pc ls st Q => c_pl8 (n := n) (sl := sl) hc' hK' rr lk (show 2 < 8 by omega) k pc ls st Q
  simp only [nI_0, show nI 1 = 1 from rfl, show nI 2 = 2 from rfl] at pl0 pl1 pl2
  simp [S68_0, S68_1, S24_0, S24_1, Call_in (k2 := 24), BS, ixs, inbs, le_nlt, hB, hKK, c8, r1, r8, rr, rq, r6, c4, kin, a6, n0, ow, pl0, pl1, pl2, wL_i2l, wL_mul, wL_add, u2_rd]
  simp [S134_0, S134_1, S134_2, S134_3, BS, ixs, inbs, le_nlt, hM, isy, e2, r74, a7, n0, j0, jx]
  refine m_owns hr' (fun L2 f2 ow2 => ?_)
  simp [S134_0, S134_1, S134_2, S134_3, BS, ixs, inbs, le_nlt, hM, r74, a7, a8, md, n0, j0, jx, ow2, wL_i2l, wL_mul, wL_add]
  refine m_beat hr' (show 0 < 1000 by omega) (fun L3 g3 => ?_)
  have ow3 : ∀ i, i ≤ 2 → L3 92 i = wL (cf (fun i => (I (q + 1) i).toInt) (2 - i)) := fun i hi => by rw [g3 92 (by omega) (by omega)]; exact ow2 i hi
  simp [S134_0, S134_1, S134_2, S134_3, BS, ixs, inbs, le_nlt, hM, r74, a7, a8, md, n0, j0, jx, ow3, wL_i2l, wL_mul, wL_add]
  exact Inv_mk (h7.scr (fun i hi => by rw [g3 i (by omega) (by omega), f2 i (by omega), f1 i (by omega)]) (fun _ _ => rfl) ⟨rfl, rfl, rfl⟩ (fun i k h1 _ => by rw [u2_rd, if_neg h1]))

set_option maxRecDepth 100000 in
set_option maxHeartbeats 8000000 in
theorem own_220 {n sl : Nat} {C Z : Nat → Nat} {I : Nat → Nat → Int32} {L : Nat → Nat → Int64} {R : Nat → Nat → Nat} {M rn t j q : Nat} (h7 : Inv7 n C Z I L R M rn t) (hj : j < M) (hq : MOK n C Z I R j q 2) : Two 68 134 [some (.ref 1), some (.int (nI j)), some (.int 0), some (.int 2), none] [some (.ref 74), some (.int (nI j)), some (.int 0), some (.int 2), none, none, none] (n, sl, C, Z, I, L, R) := by
  obtain ⟨hM12, hn98, ⟨hB, hK, hO, hE, hM⟩, ⟨e1, e2⟩, -⟩ := id h7
  have hB' := hB
  have hM' := hM
  have hKK := hK
  unfold LayB at hB
  unfold LayM at hM
  unfold LayK at hKK
  unfold Two
  obtain ⟨a1, a2, -⟩ := id hq
  have n0 : nI 2 = 2 := rfl
  have a6 : I q 1 = nI 2 := hq.2.2.2.2.1.2.2.1
  have a7 : I 76 j = nI 2 := hq.2.2.2.2.1.2.2.2
  have hq0 : ¬ q = 0 := by omega
  have hc := hq.cm
  have hc' : CM C Z I (u2 R 8 0 q) q 2 (I q 2) _ _ _ _ := hc.keep (fun _ _ => rfl) (fun i hi => u2_ne _ _ _ (by omega))
  have hr' := (hq.rm hM' (by omega)).keep (R' := u2 R 8 0 q) (I' := I) (hM'.look 8 q (by omega)) (fun _ _ _ => rfl)
  have hK' : LayK C Z (u2 R 8 0 q) := by unfold LayK at *; simp [hK, u2_rd]
  have rr : u2 R 8 0 q 8 0 = q := by simp [u2_rd]
  have c8 : C 8 = 4 := by simp [hKK]
  have r74 : ∀ k, u2 R 8 0 q 74 k = R 74 k := fun k => by rw [u2_ne _ _ _ (by omega)]
  have r1 : ∀ k, u2 R 8 0 q 1 k = R 1 k := fun k => by rw [u2_ne _ _ _ (by omega)]
  have r8 : R 8 3 = 27 := by simp [hKK]
  have hM2 := hM'.look 8 q (by omega)
  have md : I 78 j = I (q + 4) 0 := hq.2.2.2.2.2.2.2.2.2.2.2.1.1
  have a8 : I 77 j = I q 2 := hq.2.2.2.2.2.1.1.symm
  have r6 : R q 6 = q + 4 := hq.2.2.2.2.2.2.1.2.2.2
  have c4 : C (q + 4) = 21 ∧ Z (q + 4) = 1 := ⟨hq.2.2.2.2.2.2.2.1.2.2.2.1, hq.2.2.2.2.2.2.2.1.2.2.2.2.2.2.2⟩
  have kin : inG 7 (C q) = true := hc.1.1
  have j0 : inb (nI j) 12 = true := by rw [inb_nI (by omega)]; simp; omega
  have jx := ix_nI (show j < 2 ^ 31 by omega)
  have rq : ∀ k, u2 R 8 0 q q k = R q k := fun k => by rw [u2_ne _ _ _ (by omega)]
  have isy := fun (n sl : Nat) (I' : Nat → Nat → Int32) (L' : Nat → Nat → Int64) => is_yesG hM2 hM12 hj n sl I' L'
  simp [S68_0, S68_1, S87_0, at_yesG hB' hM12 hj, Call_in (k2 := 87), BS, ixs, inbs, le_nlt, hB, e1, a1, hq0, kin, a6, n0, c8]
  refine c_at8 hc hK (fun L1 f1 lk => ?_)
  have ow : ∀ i, i ≤ 2 → L1 27 i = wL (cf (fun i => (I (q + 1) i).toInt) (2 - i)) := lk.2.2
  have pl0 := fun k pc ls st Q => c_pl8 (n := n) (sl := sl) hc' hK' rr lk (show 0 < 8 by omega) k pc ls st Q
  have pl1 := fun k pc ls st Q => c_pl8 (n := n) (sl := sl) hc' hK' rr lk (show 1 < 8 by omega) k pc ls st Q
  have pl2 := fun k pc ls st Q => c_pl8 (n := n) (sl := sl) hc' hK' rr lk (show 2 < 8 by omega) k pc ls st Q
  simp only [nI_0, show nI 1 = 1 from rfl, show nI 2 = 2 from rfl] at pl0 pl1 pl2
  simp [S68_0, S68_1, S24_0, S24_1, Call_in (k2 := 24), BS, ixs, inbs, le_nlt, hB, hKK, c8, r1, r8, rr, rq, r6, c4, kin, a6, n0, ow, pl0, pl1, pl2, wL_i2l, wL_mul, wL_add, u2_rd]
  simp [S134_0, S134_1, S134_2, S134_3, BS, ixs, inbs, le_nlt, hM, isy, e2, r74, a7, n0, j0, jx]
  refine m_owns hr' (fun L2 f2 ow2 => ?_)
  simp [S134_0, S134_1, S134_2, S134_3, BS, ixs, inbs, le_nlt, hM, r74, n0, j0, jx, ow2]
  exact Inv_mk (h7.scr (fun i hi => by rw [f2 i (by omega), f1 i (by omega)]) (fun _ _ => rfl) ⟨rfl, rfl, rfl⟩ (fun i k h1 _ => by rw [u2_rd, if_neg h1]))

set_option maxRecDepth 100000 in
set_option maxHeartbeats 8000000 in
theorem own_221 {n sl : Nat} {C Z : Nat → Nat} {I : Nat → Nat → Int32} {L : Nat → Nat → Int64} {R : Nat → Nat → Nat} {M rn t j q : Nat} (h7 : Inv7 n C Z I L R M rn t) (hj : j < M) (hq : MOK n C Z I R j q 2) : Two 68 134 [some (.ref 1), some (.int (nI j)), some (.int 1), some (.int 2), none] [some (.ref 74), some (.int (nI j)), some (.int 1), some (.int 2), none, none, none] (n, sl, C, Z, I, L, R) := by
  obtain ⟨hM12, hn98, ⟨hB, hK, hO, hE, hM⟩, ⟨e1, e2⟩, -⟩ := id h7
  have hB' := hB
  have hM' := hM
  have hKK := hK
  unfold LayB at hB
  unfold LayM at hM
  unfold LayK at hKK
  unfold Two
  obtain ⟨a1, a2, -⟩ := id hq
  have n0 : nI 2 = 2 := rfl
  have a6 : I q 1 = nI 2 := hq.2.2.2.2.1.2.2.1
  have a7 : I 76 j = nI 2 := hq.2.2.2.2.1.2.2.2
  have hq0 : ¬ q = 0 := by omega
  have hc := hq.cm
  have hc' : CM C Z I (u2 R 8 0 q) q 2 (I q 2) _ _ _ _ := hc.keep (fun _ _ => rfl) (fun i hi => u2_ne _ _ _ (by omega))
  have hr' := (hq.rm hM' (by omega)).keep (R' := u2 R 8 0 q) (I' := I) (hM'.look 8 q (by omega)) (fun _ _ _ => rfl)
  have hK' : LayK C Z (u2 R 8 0 q) := by unfold LayK at *; simp [hK, u2_rd]
  have rr : u2 R 8 0 q 8 0 = q := by simp [u2_rd]
  have c8 : C 8 = 4 := by simp [hKK]
  have r74 : ∀ k, u2 R 8 0 q 74 k = R 74 k := fun k => by rw [u2_ne _ _ _ (by omega)]
  have r1 : ∀ k, u2 R 8 0 q 1 k = R 1 k := fun k => by rw [u2_ne _ _ _ (by omega)]
  have r8 : R 8 3 = 27 := by simp [hKK]
  have hM2 := hM'.look 8 q (by omega)
  have md : I 78 j = I (q + 4) 0 := hq.2.2.2.2.2.2.2.2.2.2.2.1.1
  have a8 : I 77 j = I q 2 := hq.2.2.2.2.2.1.1.symm
  have r6 : R q 6 = q + 4 := hq.2.2.2.2.2.2.1.2.2.2
  have c4 : C (q + 4) = 21 ∧ Z (q + 4) = 1 := ⟨hq.2.2.2.2.2.2.2.1.2.2.2.1, hq.2.2.2.2.2.2.2.1.2.2.2.2.2.2.2⟩
  have kin : inG 7 (C q) = true := hc.1.1
  have j0 : inb (nI j) 12 = true := by rw [inb_nI (by omega)]; simp; omega
  have jx := ix_nI (show j < 2 ^ 31 by omega)
  have rq : ∀ k, u2 R 8 0 q q k = R q k := fun k => by rw [u2_ne _ _ _ (by omega)]
  have isy := fun (n sl : Nat) (I' : Nat → Nat → Int32) (L' : Nat → Nat → Int64) => is_yesG hM2 hM12 hj n sl I' L'
  simp [S68_0, S68_1, S87_0, at_yesG hB' hM12 hj, Call_in (k2 := 87), BS, ixs, inbs, le_nlt, hB, e1, a1, hq0, kin, a6, n0, c8]
  refine c_at8 hc hK (fun L1 f1 lk => ?_)
  have ow : ∀ i, i ≤ 2 → L1 27 i = wL (cf (fun i => (I (q + 1) i).toInt) (2 - i)) := lk.2.2
  have pl0 := fun k pc ls st Q => c_pl8 (n := n) (sl := sl) hc' hK' rr lk (show 0 < 8 by omega) k pc ls st Q
  have pl1 := fun k pc ls st Q => c_pl8 (n := n) (sl := sl) hc' hK' rr lk (show 1 < 8 by omega) k pc ls st Q
  have pl2 := fun k pc ls st Q => c_pl8 (n := n) (sl := sl) hc' hK' rr lk (show 2 < 8 by omega) k pc ls st Q
  simp only [nI_0, show nI 1 = 1 from rfl, show nI 2 = 2 from rfl] at pl0 pl1 pl2
  simp [S68_0, S68_1, S24_0, S24_1, Call_in (k2 := 24), BS, ixs, inbs, le_nlt, hB, hKK, c8, r1, r8, rr, rq, r6, c4, kin, a6, n0, ow, pl0, pl1, pl2, wL_i2l, wL_mul, wL_add, u2_rd]
  simp [S134_0, S134_1, S134_2, S134_3, BS, ixs, inbs, le_nlt, hM, isy, e2, r74, a7, n0, j0, jx]
  refine m_owns hr' (fun L2 f2 ow2 => ?_)
  simp [S134_0, S134_1, S134_2, S134_3, BS, ixs, inbs, le_nlt, hM, r74, a7, a8, md, n0, j0, jx, ow2, wL_i2l, wL_mul, wL_add]
  exact Inv_mk (h7.scr (fun i hi => by rw [f2 i (by omega), f1 i (by omega)]) (fun _ _ => rfl) ⟨rfl, rfl, rfl⟩ (fun i k h1 _ => by rw [u2_rd, if_neg h1]))

set_option maxRecDepth 100000 in
set_option maxHeartbeats 8000000 in
theorem own_300 {n sl : Nat} {C Z : Nat → Nat} {I : Nat → Nat → Int32} {L : Nat → Nat → Int64} {R : Nat → Nat → Nat} {M rn t j q : Nat} (h7 : Inv7 n C Z I L R M rn t) (hj : j < M) (hq : MOK n C Z I R j q 3) : Two 68 134 [some (.ref 1), some (.int (nI j)), some (.int 0), some (.int 0), none] [some (.ref 74), some (.int (nI j)), some (.int 0), some (.int 0), none, none, none] (n, sl, C, Z, I, L, R) := by
  obtain ⟨hM12, hn98, ⟨hB, hK, hO, hE, hM⟩, ⟨e1, e2⟩, -⟩ := id h7
  have hB' := hB
  have hM' := hM
  have hKK := hK
  unfold LayB at hB
  unfold LayM at hM
  unfold LayK at hKK
  unfold Two
  obtain ⟨a1, a2, -⟩ := id hq
  have n0 : nI 3 = 3 := rfl
  have a6 : I q 1 = nI 3 := hq.2.2.2.2.1.2.2.1
  have a7 : I 76 j = nI 3 := hq.2.2.2.2.1.2.2.2
  have hq0 : ¬ q = 0 := by omega
  have hc := hq.cm
  have hc' : CM C Z I (u2 R 8 0 q) q 3 (I q 2) _ _ _ _ := hc.keep (fun _ _ => rfl) (fun i hi => u2_ne _ _ _ (by omega))
  have hr' := (hq.rm hM' (by omega)).keep (R' := u2 R 8 0 q) (I' := I) (hM'.look 8 q (by omega)) (fun _ _ _ => rfl)
  have hK' : LayK C Z (u2 R 8 0 q) := by unfold LayK at *; simp [hK, u2_rd]
  have rr : u2 R 8 0 q 8 0 = q := by simp [u2_rd]
  have c8 : C 8 = 4 := by simp [hKK]
  have r74 : ∀ k, u2 R 8 0 q 74 k = R 74 k := fun k => by rw [u2_ne _ _ _ (by omega)]
  have r1 : ∀ k, u2 R 8 0 q 1 k = R 1 k := fun k => by rw [u2_ne _ _ _ (by omega)]
  have r8 : R 8 3 = 27 := by simp [hKK]
  have hM2 := hM'.look 8 q (by omega)
  have md : I 78 j = I (q + 4) 0 := hq.2.2.2.2.2.2.2.2.2.2.2.1.1
  have a8 : I 77 j = I q 2 := hq.2.2.2.2.2.1.1.symm
  have r6 : R q 6 = q + 4 := hq.2.2.2.2.2.2.1.2.2.2
  have c4 : C (q + 4) = 21 ∧ Z (q + 4) = 1 := ⟨hq.2.2.2.2.2.2.2.1.2.2.2.1, hq.2.2.2.2.2.2.2.1.2.2.2.2.2.2.2⟩
  have kin : inG 7 (C q) = true := hc.1.1
  have j0 : inb (nI j) 12 = true := by rw [inb_nI (by omega)]; simp; omega
  have jx := ix_nI (show j < 2 ^ 31 by omega)
  have rq : ∀ k, u2 R 8 0 q q k = R q k := fun k => by rw [u2_ne _ _ _ (by omega)]
  have isy := fun (n sl : Nat) (I' : Nat → Nat → Int32) (L' : Nat → Nat → Int64) => is_yesG hM2 hM12 hj n sl I' L'
  simp [S68_0, S68_1, S87_0, at_yesG hB' hM12 hj, Call_in (k2 := 87), BS, ixs, inbs, le_nlt, hB, e1, a1, hq0, kin, a6, n0, c8]
  refine c_at8 hc hK (fun L1 f1 lk => ?_)
  have ow : ∀ i, i ≤ 3 → L1 27 i = wL (cf (fun i => (I (q + 1) i).toInt) (3 - i)) := lk.2.2
  have pl0 := fun k pc ls st Q => c_pl8 (n := n) (sl := sl) hc' hK' rr lk (show 0 < 8 by omega) k pc ls st Q
  have pl1 := fun k pc ls st Q => c_pl8 (n := n) (sl := sl) hc' hK' rr lk (show 1 < 8 by omega) k pc ls st Q
  have pl2 := fun k pc ls st Q => c_pl8 (n := n) (sl := sl) hc' hK' rr lk (show 2 < 8 by omega) k pc ls st Q
  simp only [nI_0, show nI 1 = 1 from rfl, show nI 2 = 2 from rfl] at pl0 pl1 pl2
  simp [S68_0, S68_1, S24_0, S24_1, Call_in (k2 := 24), BS, ixs, inbs, le_nlt, hB, hKK, c8, r1, r8, rr, rq, r6, c4, kin, a6, n0, ow, pl0, pl1, pl2, wL_i2l, wL_mul, wL_add, u2_rd]
  simp [S134_0, S134_1, S134_2, S134_3, BS, ixs, inbs, le_nlt, hM, isy, e2, r74, a7, n0, j0, jx]
  refine m_owns hr' (fun L2 f2 ow2 => ?_)
  simp [S134_0, S134_1, S134_2, S134_3, BS, ixs, inbs, le_nlt, hM, r74, n0, j0, jx, ow2]
  exact Inv_mk (h7.scr (fun i hi => by rw [f2 i (by omega), f1 i (by omega)]) (fun _ _ => rfl) ⟨rfl, rfl, rfl⟩ (fun i k h1 _ => by rw [u2_rd, if_neg h1]))

set_option maxRecDepth 100000 in
set_option maxHeartbeats 8000000 in
theorem own_301 {n sl : Nat} {C Z : Nat → Nat} {I : Nat → Nat → Int32} {L : Nat → Nat → Int64} {R : Nat → Nat → Nat} {M rn t j q : Nat} (h7 : Inv7 n C Z I L R M rn t) (hj : j < M) (hq : MOK n C Z I R j q 3) : Two 68 134 [some (.ref 1), some (.int (nI j)), some (.int 1), some (.int 0), none] [some (.ref 74), some (.int (nI j)), some (.int 1), some (.int 0), none, none, none] (n, sl, C, Z, I, L, R) := by
  obtain ⟨hM12, hn98, ⟨hB, hK, hO, hE, hM⟩, ⟨e1, e2⟩, -⟩ := id h7
  have hB' := hB
  have hM' := hM
  have hKK := hK
  unfold LayB at hB
  unfold LayM at hM
  unfold LayK at hKK
  unfold Two
  obtain ⟨a1, a2, -⟩ := id hq
  have n0 : nI 3 = 3 := rfl
  have a6 : I q 1 = nI 3 := hq.2.2.2.2.1.2.2.1
  have a7 : I 76 j = nI 3 := hq.2.2.2.2.1.2.2.2
  have hq0 : ¬ q = 0 := by omega
  have hc := hq.cm
  have hc' : CM C Z I (u2 R 8 0 q) q 3 (I q 2) _ _ _ _ := hc.keep (fun _ _ => rfl) (fun i hi => u2_ne _ _ _ (by omega))
  have hr' := (hq.rm hM' (by omega)).keep (R' := u2 R 8 0 q) (I' := I) (hM'.look 8 q (by omega)) (fun _ _ _ => rfl)
  have hK' : LayK C Z (u2 R 8 0 q) := by unfold LayK at *; simp [hK, u2_rd]
  have rr : u2 R 8 0 q 8 0 = q := by simp [u2_rd]
  have c8 : C 8 = 4 := by simp [hKK]
  have r74 : ∀ k, u2 R 8 0 q 74 k = R 74 k := fun k => by rw [u2_ne _ _ _ (by omega)]
  have r1 : ∀ k, u2 R 8 0 q 1 k = R 1 k := fun k => by rw [u2_ne _ _ _ (by omega)]
  have r8 : R 8 3 = 27 := by simp [hKK]
  have hM2 := hM'.look 8 q (by omega)
  have md : I 78 j = I (q + 4) 0 := hq.2.2.2.2.2.2.2.2.2.2.2.1.1
  have a8 : I 77 j = I q 2 := hq.2.2.2.2.2.1.1.symm
  have r6 : R q 6 = q + 4 := hq.2.2.2.2.2.2.1.2.2.2
  have c4 : C (q + 4) = 21 ∧ Z (q + 4) = 1 := ⟨hq.2.2.2.2.2.2.2.1.2.2.2.1, hq.2.2.2.2.2.2.2.1.2.2.2.2.2.2.2⟩
  have kin : inG 7 (C q) = true := hc.1.1
  have j0 : inb (nI j) 12 = true := by rw [inb_nI (by omega)]; simp; omega
  have jx := ix_nI (show j < 2 ^ 31 by omega)
  have rq : ∀ k, u2 R 8 0 q q k = R q k := fun k => by rw [u2_ne _ _ _ (by omega)]
  have isy := fun (n sl : Nat) (I' : Nat → Nat → Int32) (L' : Nat → Nat → Int64) => is_yesG hM2 hM12 hj n sl I' L'
  simp [S68_0, S68_1, S87_0, at_yesG hB' hM12 hj, Call_in (k2 := 87), BS, ixs, inbs, le_nlt, hB, e1, a1, hq0, kin, a6, n0, c8]
  refine c_at8 hc hK (fun L1 f1 lk => ?_)
  have ow : ∀ i, i ≤ 3 → L1 27 i = wL (cf (fun i => (I (q + 1) i).toInt) (3 - i)) := lk.2.2
  have pl0 := fun k pc ls st Q => c_pl8 (n := n) (sl := sl) hc' hK' rr lk (show 0 < 8 by omega) k pc ls st Q
  have pl1 := fun k pc ls st Q => c_pl8 (n := n) (sl := sl) hc' hK' rr lk (show 1 < 8 by omega) k pc ls st Q
  have pl2 := fun k pc ls st Q => c_pl8 (n := n) (sl := sl) hc' hK' rr lk (show 2 < 8 by omega) k pc ls st Q
  simp only [nI_0, show nI 1 = 1 from rfl, show nI 2 = 2 from rfl] at pl0 pl1 pl2
  simp [S68_0, S68_1, S24_0, S24_1, Call_in (k2 := 24), BS, ixs, inbs, le_nlt, hB, hKK, c8, r1, r8, rr, rq, r6, c4, kin, a6, n0, ow, pl0, pl1, pl2, wL_i2l, wL_mul, wL_add, u2_rd]
  simp [S134_0, S134_1, S134_2, S134_3, BS, ixs, inbs, le_nlt, hM, isy, e2, r74, a7, n0, j0, jx]
  refine m_owns hr' (fun L2 f2 ow2 => ?_)
  simp [S134_0, S134_1, S134_2, S134_3, BS, ixs, inbs, le_nlt, hM, r74, a7, a8, md, n0, j0, jx, ow2, wL_i2l, wL_mul, wL_add]
  refine m_beat hr' (show 0 < 1000 by omega) (fun L3 g3 => ?_)
  have ow3 : ∀ i, i ≤ 3 → L3 92 i = wL (cf (fun i => (I (q + 1) i).toInt) (3 - i)) := fun i hi => by rw [g3 92 (by omega) (by omega)]; exact ow2 i hi
  simp [S134_0, S134_1, S134_2, S134_3, BS, ixs, inbs, le_nlt, hM, r74, a7, a8, md, n0, j0, jx, ow3, wL_i2l, wL_mul, wL_add]
  refine m_beat hr' (show 1 < 1000 by omega) (fun L4 g4 => ?_)
  have ow4 : ∀ i, i ≤ 3 → L4 92 i = wL (cf (fun i => (I (q + 1) i).toInt) (3 - i)) := fun i hi => by rw [g4 92 (by omega) (by omega)]; exact ow3 i hi
  simp [S134_0, S134_1, S134_2, S134_3, BS, ixs, inbs, le_nlt, hM, r74, a7, a8, md, n0, j0, jx, ow4, wL_i2l, wL_mul, wL_add]
  refine m_beat hr' (show 2 < 1000 by omega) (fun L5 g5 => ?_)
  have ow5 : ∀ i, i ≤ 3 → L5 92 i = wL (cf (fun i => (I (q + 1) i).toInt) (3 - i)) := fun i hi => by rw [g5 92 (by omega) (by omega)]; exact ow4 i hi
  simp [S134_0, S134_1, S134_2, S134_3, BS, ixs, inbs, le_nlt, hM, r74, a7, a8, md, n0, j0, jx, ow5, wL_i2l, wL_mul, wL_add]
  exact Inv_mk (h7.scr (fun i hi => by rw [g5 i (by omega) (by omega), g4 i (by omega) (by omega), g3 i (by omega) (by omega), f2 i (by omega), f1 i (by omega)]) (fun _ _ => rfl) ⟨rfl, rfl, rfl⟩ (fun i k h1 _ => by rw [u2_rd, if_neg h1]))

set_option maxRecDepth 100000 in
set_option maxHeartbeats 8000000 in
theorem own_310 {n sl : Nat} {C Z : Nat → Nat} {I : Nat → Nat → Int32} {L : Nat → Nat → Int64} {R : Nat → Nat → Nat} {M rn t j q : Nat} (h7 : Inv7 n C Z I L R M rn t) (hj : j < M) (hq : MOK n C Z I R j q 3) : Two 68 134 [some (.ref 1), some (.int (nI j)), some (.int 0), some (.int 1), none] [some (.ref 74), some (.int (nI j)), some (.int 0), some (.int 1), none, none, none] (n, sl, C, Z, I, L, R) := by
  obtain ⟨hM12, hn98, ⟨hB, hK, hO, hE, hM⟩, ⟨e1, e2⟩, -⟩ := id h7
  have hB' := hB
  have hM' := hM
  have hKK := hK
  unfold LayB at hB
  unfold LayM at hM
  unfold LayK at hKK
  unfold Two
  obtain ⟨a1, a2, -⟩ := id hq
  have n0 : nI 3 = 3 := rfl
  have a6 : I q 1 = nI 3 := hq.2.2.2.2.1.2.2.1
  have a7 : I 76 j = nI 3 := hq.2.2.2.2.1.2.2.2
  have hq0 : ¬ q = 0 := by omega
  have hc := hq.cm
  have hc' : CM C Z I (u2 R 8 0 q) q 3 (I q 2) _ _ _ _ := hc.keep (fun _ _ => rfl) (fun i hi => u2_ne _ _ _ (by omega))
  have hr' := (hq.rm hM' (by omega)).keep (R' := u2 R 8 0 q) (I' := I) (hM'.look 8 q (by omega)) (fun _ _ _ => rfl)
  have hK' : LayK C Z (u2 R 8 0 q) := by unfold LayK at *; simp [hK, u2_rd]
  have rr : u2 R 8 0 q 8 0 = q := by simp [u2_rd]
  have c8 : C 8 = 4 := by simp [hKK]
  have r74 : ∀ k, u2 R 8 0 q 74 k = R 74 k := fun k => by rw [u2_ne _ _ _ (by omega)]
  have r1 : ∀ k, u2 R 8 0 q 1 k = R 1 k := fun k => by rw [u2_ne _ _ _ (by omega)]
  have r8 : R 8 3 = 27 := by simp [hKK]
  have hM2 := hM'.look 8 q (by omega)
  have md : I 78 j = I (q + 4) 0 := hq.2.2.2.2.2.2.2.2.2.2.2.1.1
  have a8 : I 77 j = I q 2 := hq.2.2.2.2.2.1.1.symm
  have r6 : R q 6 = q + 4 := hq.2.2.2.2.2.2.1.2.2.2
  have c4 : C (q + 4) = 21 ∧ Z (q + 4) = 1 := ⟨hq.2.2.2.2.2.2.2.1.2.2.2.1, hq.2.2.2.2.2.2.2.1.2.2.2.2.2.2.2⟩
  have kin : inG 7 (C q) = true := hc.1.1
  have j0 : inb (nI j) 12 = true := by rw [inb_nI (by omega)]; simp; omega
  have jx := ix_nI (show j < 2 ^ 31 by omega)
  have rq : ∀ k, u2 R 8 0 q q k = R q k := fun k => by rw [u2_ne _ _ _ (by omega)]
  have isy := fun (n sl : Nat) (I' : Nat → Nat → Int32) (L' : Nat → Nat → Int64) => is_yesG hM2 hM12 hj n sl I' L'
  simp [S68_0, S68_1, S87_0, at_yesG hB' hM12 hj, Call_in (k2 := 87), BS, ixs, inbs, le_nlt, hB, e1, a1, hq0, kin, a6, n0, c8]
  refine c_at8 hc hK (fun L1 f1 lk => ?_)
  have ow : ∀ i, i ≤ 3 → L1 27 i = wL (cf (fun i => (I (q + 1) i).toInt) (3 - i)) := lk.2.2
  have pl0 := fun k pc ls st Q => c_pl8 (n := n) (sl := sl) hc' hK' rr lk (show 0 < 8 by omega) k pc ls st Q
  have pl1 := fun k pc ls st Q => c_pl8 (n := n) (sl := sl) hc' hK' rr lk (show 1 < 8 by omega) k pc ls st Q
  have pl2 := fun k pc ls st Q => c_pl8 (n := n) (sl := sl) hc' hK' rr lk (show 2 < 8 by omega) k pc ls st Q
  simp only [nI_0, show nI 1 = 1 from rfl, show nI 2 = 2 from rfl] at pl0 pl1 pl2
  simp [S68_0, S68_1, S24_0, S24_1, Call_in (k2 := 24), BS, ixs, inbs, le_nlt, hB, hKK, c8, r1, r8, rr, rq, r6, c4, kin, a6, n0, ow, pl0, pl1, pl2, wL_i2l, wL_mul, wL_add, u2_rd]
  simp [S134_0, S134_1, S134_2, S134_3, BS, ixs, inbs, le_nlt, hM, isy, e2, r74, a7, n0, j0, jx]
  refine m_owns hr' (fun L2 f2 ow2 => ?_)
  simp [S134_0, S134_1, S134_2, S134_3, BS, ixs, inbs, le_nlt, hM, r74, n0, j0, jx, ow2]
  exact Inv_mk (h7.scr (fun i hi => by rw [f2 i (by omega), f1 i (by omega)]) (fun _ _ => rfl) ⟨rfl, rfl, rfl⟩ (fun i k h1 _ => by rw [u2_rd, if_neg h1]))

set_option maxRecDepth 100000 in
set_option maxHeartbeats 8000000 in
theorem own_311 {n sl : Nat} {C Z : Nat → Nat} {I : Nat → Nat → Int32} {L : Nat → Nat → Int64} {R : Nat → Nat → Nat} {M rn t j q : Nat} (h7 : Inv7 n C Z I L R M rn t) (hj : j < M) (hq : MOK n C Z I R j q 3) : Two 68 134 [some (.ref 1), some (.int (nI j)), some (.int 1), some (.int 1), none] [some (.ref 74), some (.int (nI j)), some (.int 1), some (.int 1), none, none, none] (n, sl, C, Z, I, L, R) := by
  obtain ⟨hM12, hn98, ⟨hB, hK, hO, hE, hM⟩, ⟨e1, e2⟩, -⟩ := id h7
  have hB' := hB
  have hM' := hM
  have hKK := hK
  unfold LayB at hB
  unfold LayM at hM
  unfold LayK at hKK
  unfold Two
  obtain ⟨a1, a2, -⟩ := id hq
  have n0 : nI 3 = 3 := rfl
  have a6 : I q 1 = nI 3 := hq.2.2.2.2.1.2.2.1
  have a7 : I 76 j = nI 3 := hq.2.2.2.2.1.2.2.2
  have hq0 : ¬ q = 0 := by omega
  have hc := hq.cm
  have hc' : CM C Z I (u2 R 8 0 q) q 3 (I q 2) _ _ _ _ := hc.keep (fun _ _ => rfl) (fun i hi => u2_ne _ _ _ (by omega))
  have hr' := (hq.rm hM' (by omega)).keep (R' := u2 R 8 0 q) (I' := I) (hM'.look 8 q (by omega)) (fun _ _ _ => rfl)
  have hK' : LayK C Z (u2 R 8 0 q) := by unfold LayK at *; simp [hK, u2_rd]
  have rr : u2 R 8 0 q 8 0 = q := by simp [u2_rd]
  have c8 : C 8 = 4 := by simp [hKK]
  have r74 : ∀ k, u2 R 8 0 q 74 k = R 74 k := fun k => by rw [u2_ne _ _ _ (by omega)]
  have r1 : ∀ k, u2 R 8 0 q 1 k = R 1 k := fun k => by rw [u2_ne _ _ _ (by omega)]
  have r8 : R 8 3 = 27 := by simp [hKK]
  have hM2 := hM'.look 8 q (by omega)
  have md : I 78 j = I (q + 4) 0 := hq.2.2.2.2.2.2.2.2.2.2.2.1.1
  have a8 : I 77 j = I q 2 := hq.2.2.2.2.2.1.1.symm
  have r6 : R q 6 = q + 4 := hq.2.2.2.2.2.2.1.2.2.2
  have c4 : C (q + 4) = 21 ∧ Z (q + 4) = 1 := ⟨hq.2.2.2.2.2.2.2.1.2.2.2.1, hq.2.2.2.2.2.2.2.1.2.2.2.2.2.2.2⟩
  have kin : inG 7 (C q) = true := hc.1.1
  have j0 : inb (nI j) 12 = true := by rw [inb_nI (by omega)]; simp; omega
  have jx := ix_nI (show j < 2 ^ 31 by omega)
  have rq : ∀ k, u2 R 8 0 q q k = R q k := fun k => by rw [u2_ne _ _ _ (by omega)]
  have isy := fun (n sl : Nat) (I' : Nat → Nat → Int32) (L' : Nat → Nat → Int64) => is_yesG hM2 hM12 hj n sl I' L'
  simp [S68_0, S68_1, S87_0, at_yesG hB' hM12 hj, Call_in (k2 := 87), BS, ixs, inbs, le_nlt, hB, e1, a1, hq0, kin, a6, n0, c8]
  refine c_at8 hc hK (fun L1 f1 lk => ?_)
  have ow : ∀ i, i ≤ 3 → L1 27 i = wL (cf (fun i => (I (q + 1) i).toInt) (3 - i)) := lk.2.2
  have pl0 := fun k pc ls st Q => c_pl8 (n := n) (sl := sl) hc' hK' rr lk (show 0 < 8 by omega) k pc ls st Q
  have pl1 := fun k pc ls st Q => c_pl8 (n := n) (sl := sl) hc' hK' rr lk (show 1 < 8 by omega) k pc ls st Q
  have pl2 := fun k pc ls st Q => c_pl8 (n := n) (sl := sl) hc' hK' rr lk (show 2 < 8 by omega) k pc ls st Q
  simp only [nI_0, show nI 1 = 1 from rfl, show nI 2 = 2 from rfl] at pl0 pl1 pl2
  simp [S68_0, S68_1, S24_0, S24_1, Call_in (k2 := 24), BS, ixs, inbs, le_nlt, hB, hKK, c8, r1, r8, rr, rq, r6, c4, kin, a6, n0, ow, pl0, pl1, pl2, wL_i2l, wL_mul, wL_add, u2_rd]
  simp [S134_0, S134_1, S134_2, S134_3, BS, ixs, inbs, le_nlt, hM, isy, e2, r74, a7, n0, j0, jx]
  refine m_owns hr' (fun L2 f2 ow2 => ?_)
  simp [S134_0, S134_1, S134_2, S134_3, BS, ixs, inbs, le_nlt, hM, r74, a7, a8, md, n0, j0, jx, ow2, wL_i2l, wL_mul, wL_add]
  refine m_beat hr' (show 0 < 1000 by omega) (fun L3 g3 => ?_)
  have ow3 : ∀ i, i ≤ 3 → L3 92 i = wL (cf (fun i => (I (q + 1) i).toInt) (3 - i)) := fun i hi => by rw [g3 92 (by omega) (by omega)]; exact ow2 i hi
  simp [S134_0, S134_1, S134_2, S134_3, BS, ixs, inbs, le_nlt, hM, r74, a7, a8, md, n0, j0, jx, ow3, wL_i2l, wL_mul, wL_add]
  refine m_beat hr' (show 1 < 1000 by omega) (fun L4 g4 => ?_)
  have ow4 : ∀ i, i ≤ 3 → L4 92 i = wL (cf (fun i => (I (q + 1) i).toInt) (3 - i)) := fun i hi => by rw [g4 92 (by omega) (by omega)]; exact ow3 i hi
  simp [S134_0, S134_1, S134_2, S134_3, BS, ixs, inbs, le_nlt, hM, r74, a7, a8, md, n0, j0, jx, ow4, wL_i2l, wL_mul, wL_add]
  exact Inv_mk (h7.scr (fun i hi => by rw [g4 i (by omega) (by omega), g3 i (by omega) (by omega), f2 i (by omega), f1 i (by omega)]) (fun _ _ => rfl) ⟨rfl, rfl, rfl⟩ (fun i k h1 _ => by rw [u2_rd, if_neg h1]))

set_option maxRecDepth 100000 in
set_option maxHeartbeats 8000000 in
theorem own_320 {n sl : Nat} {C Z : Nat → Nat} {I : Nat → Nat → Int32} {L : Nat → Nat → Int64} {R : Nat → Nat → Nat} {M rn t j q : Nat} (h7 : Inv7 n C Z I L R M rn t) (hj : j < M) (hq : MOK n C Z I R j q 3) : Two 68 134 [some (.ref 1), some (.int (nI j)), some (.int 0), some (.int 2), none] [some (.ref 74), some (.int (nI j)), some (.int 0), some (.int 2), none, none, none] (n, sl, C, Z, I, L, R) := by
  obtain ⟨hM12, hn98, ⟨hB, hK, hO, hE, hM⟩, ⟨e1, e2⟩, -⟩ := id h7
  have hB' := hB
  have hM' := hM
  have hKK := hK
  unfold LayB at hB
  unfold LayM at hM
  unfold LayK at hKK
  unfold Two
  obtain ⟨a1, a2, -⟩ := id hq
  have n0 : nI 3 = 3 := rfl
  have a6 : I q 1 = nI 3 := hq.2.2.2.2.1.2.2.1
  have a7 : I 76 j = nI 3 := hq.2.2.2.2.1.2.2.2
  have hq0 : ¬ q = 0 := by omega
  have hc := hq.cm
  have hc' : CM C Z I (u2 R 8 0 q) q 3 (I q 2) _ _ _ _ := hc.keep (fun _ _ => rfl) (fun i hi => u2_ne _ _ _ (by omega))
  have hr' := (hq.rm hM' (by omega)).keep (R' := u2 R 8 0 q) (I' := I) (hM'.look 8 q (by omega)) (fun _ _ _ => rfl)
  have hK' : LayK C Z (u2 R 8 0 q) := by unfold LayK at *; simp [hK, u2_rd]
  have rr : u2 R 8 0 q 8 0 = q := by simp [u2_rd]
  have c8 : C 8 = 4 := by simp [hKK]
  have r74 : ∀ k, u2 R 8 0 q 74 k = R 74 k := fun k => by rw [u2_ne _ _ _ (by omega)]
  have r1 : ∀ k, u2 R 8 0 q 1 k = R 1 k := fun k => by rw [u2_ne _ _ _ (by omega)]
  have r8 : R 8 3 = 27 := by simp [hKK]
  have hM2 := hM'.look 8 q (by omega)
  have md : I 78 j = I (q + 4) 0 := hq.2.2.2.2.2.2.2.2.2.2.2.1.1
  have a8 : I 77 j = I q 2 := hq.2.2.2.2.2.1.1.symm
  have r6 : R q 6 = q + 4 := hq.2.2.2.2.2.2.1.2.2.2
  have c4 : C (q + 4) = 21 ∧ Z (q + 4) = 1 := ⟨hq.2.2.2.2.2.2.2.1.2.2.2.1, hq.2.2.2.2.2.2.2.1.2.2.2.2.2.2.2⟩
  have kin : inG 7 (C q) = true := hc.1.1
  have j0 : inb (nI j) 12 = true := by rw [inb_nI (by omega)]; simp; omega
  have jx := ix_nI (show j < 2 ^ 31 by omega)
  have rq : ∀ k, u2 R 8 0 q q k = R q k := fun k => by rw [u2_ne _ _ _ (by omega)]
  have isy := fun (n sl : Nat) (I' : Nat → Nat → Int32) (L' : Nat → Nat → Int64) => is_yesG hM2 hM12 hj n sl I' L'
  simp [S68_0, S68_1, S87_0, at_yesG hB' hM12 hj, Call_in (k2 := 87), BS, ixs, inbs, le_nlt, hB, e1, a1, hq0, kin, a6, n0, c8]
  refine c_at8 hc hK (fun L1 f1 lk => ?_)
  have ow : ∀ i, i ≤ 3 → L1 27 i = wL (cf (fun i => (I (q + 1) i).toInt) (3 - i)) := lk.2.2
  have pl0 := fun k pc ls st Q => c_pl8 (n := n) (sl := sl) hc' hK' rr lk (show 0 < 8 by omega) k pc ls st Q
  have pl1 := fun k pc ls st Q => c_pl8 (n := n) (sl := sl) hc' hK' rr lk (show 1 < 8 by omega) k pc ls st Q
  have pl2 := fun k pc ls st Q => c_pl8 (n := n) (sl := sl) hc' hK' rr lk (show 2 < 8 by omega) k pc ls st Q
  simp only [nI_0, show nI 1 = 1 from rfl, show nI 2 = 2 from rfl] at pl0 pl1 pl2
  simp [S68_0, S68_1, S24_0, S24_1, Call_in (k2 := 24), BS, ixs, inbs, le_nlt, hB, hKK, c8, r1, r8, rr, rq, r6, c4, kin, a6, n0, ow, pl0, pl1, pl2, wL_i2l, wL_mul, wL_add, u2_rd]
  simp [S134_0, S134_1, S134_2, S134_3, BS, ixs, inbs, le_nlt, hM, isy, e2, r74, a7, n0, j0, jx]
  refine m_owns hr' (fun L2 f2 ow2 => ?_)
  simp [S134_0, S134_1, S134_2, S134_3, BS, ixs, inbs, le_nlt, hM, r74, n0, j0, jx, ow2]
  exact Inv_mk (h7.scr (fun i hi => by rw [f2 i (by omega), f1 i (by omega)]) (fun _ _ => rfl) ⟨rfl, rfl, rfl⟩ (fun i k h1 _ => by rw [u2_rd, if_neg h1]))

set_option maxRecDepth 100000 in
set_option maxHeartbeats 8000000 in
theorem own_321 {n sl : Nat} {C Z : Nat → Nat} {I : Nat → Nat → Int32} {L : Nat → Nat → Int64} {R : Nat → Nat → Nat} {M rn t j q : Nat} (h7 : Inv7 n C Z I L R M rn t) (hj : j < M) (hq : MOK n C Z I R j q 3) : Two 68 134 [some (.ref 1), some (.int (nI j)), some (.int 1), some (.int 2), none] [some (.ref 74), some (.int (nI j)), some (.int 1), some (.int 2), none, none, none] (n, sl, C, Z, I, L, R) := by
  obtain ⟨hM12, hn98, ⟨hB, hK, hO, hE, hM⟩, ⟨e1, e2⟩, -⟩ := id h7
  have hB' := hB
  have hM' := hM
  have hKK := hK
  unfold LayB at hB
  unfold LayM at hM
  unfold LayK at hKK
  unfold Two
  obtain ⟨a1, a2, -⟩ := id hq
  have n0 : nI 3 = 3 := rfl
  have a6 : I q 1 = nI 3 := hq.2.2.2.2.1.2.2.1
  have a7 : I 76 j = nI 3 := hq.2.2.2.2.1.2.2.2
  have hq0 : ¬ q = 0 := by omega
  have hc := hq.cm
  have hc' : CM C Z I (u2 R 8 0 q) q 3 (I q 2) _ _ _ _ := hc.keep (fun _ _ => rfl) (fun i hi => u2_ne _ _ _ (by omega))
  have hr' := (hq.rm hM' (by omega)).keep (R' := u2 R 8 0 q) (I' := I) (hM'.look 8 q (by omega)) (fun _ _ _ => rfl)
  have hK' : LayK C Z (u2 R 8 0 q) := by unfold LayK at *; simp [hK, u2_rd]
  have rr : u2 R 8 0 q 8 0 = q := by simp [u2_rd]
  have c8 : C 8 = 4 := by simp [hKK]
  have r74 : ∀ k, u2 R 8 0 q 74 k = R 74 k := fun k => by rw [u2_ne _ _ _ (by omega)]
  have r1 : ∀ k, u2 R 8 0 q 1 k = R 1 k := fun k => by rw [u2_ne _ _ _ (by omega)]
  have r8 : R 8 3 = 27 := by simp [hKK]
  have hM2 := hM'.look 8 q (by omega)
  have md : I 78 j = I (q + 4) 0 := hq.2.2.2.2.2.2.2.2.2.2.2.1.1
  have a8 : I 77 j = I q 2 := hq.2.2.2.2.2.1.1.symm
  have r6 : R q 6 = q + 4 := hq.2.2.2.2.2.2.1.2.2.2
  have c4 : C (q + 4) = 21 ∧ Z (q + 4) = 1 := ⟨hq.2.2.2.2.2.2.2.1.2.2.2.1, hq.2.2.2.2.2.2.2.1.2.2.2.2.2.2.2⟩
  have kin : inG 7 (C q) = true := hc.1.1
  have j0 : inb (nI j) 12 = true := by rw [inb_nI (by omega)]; simp; omega
  have jx := ix_nI (show j < 2 ^ 31 by omega)
  have rq : ∀ k, u2 R 8 0 q q k = R q k := fun k => by rw [u2_ne _ _ _ (by omega)]
  have isy := fun (n sl : Nat) (I' : Nat → Nat → Int32) (L' : Nat → Nat → Int64) => is_yesG hM2 hM12 hj n sl I' L'
  simp [S68_0, S68_1, S87_0, at_yesG hB' hM12 hj, Call_in (k2 := 87), BS, ixs, inbs, le_nlt, hB, e1, a1, hq0, kin, a6, n0, c8]
  refine c_at8 hc hK (fun L1 f1 lk => ?_)
  have ow : ∀ i, i ≤ 3 → L1 27 i = wL (cf (fun i => (I (q + 1) i).toInt) (3 - i)) := lk.2.2
  have pl0 := fun k pc ls st Q => c_pl8 (n := n) (sl := sl) hc' hK' rr lk (show 0 < 8 by omega) k pc ls st Q
  have pl1 := fun k pc ls st Q => c_pl8 (n := n) (sl := sl) hc' hK' rr lk (show 1 < 8 by omega) k pc ls st Q
  have pl2 := fun k pc ls st Q => c_pl8 (n := n) (sl := sl) hc' hK' rr lk (show 2 < 8 by omega) k pc ls st Q
  simp only [nI_0, show nI 1 = 1 from rfl, show nI 2 = 2 from rfl] at pl0 pl1 pl2
  simp [S68_0, S68_1, S24_0, S24_1, Call_in (k2 := 24), BS, ixs, inbs, le_nlt, hB, hKK, c8, r1, r8, rr, rq, r6, c4, kin, a6, n0, ow, pl0, pl1, pl2, wL_i2l, wL_mul, wL_add, u2_rd]
  simp [S134_0, S134_1, S134_2, S134_3, BS, ixs, inbs, le_nlt, hM, isy, e2, r74, a7, n0, j0, jx]
  refine m_owns hr' (fun L2 f2 ow2 => ?_)
  simp [S134_0, S134_1, S134_2, S134_3, BS, ixs, inbs, le_nlt, hM, r74, a7, a8, md, n0, j0, jx, ow2, wL_i2l, wL_mul, wL_add]
  refine m_beat hr' (show 0 < 1000 by omega) (fun L3 g3 => ?_)
  have ow3 : ∀ i, i ≤ 3 → L3 92 i = wL (cf (fun i => (I (q + 1) i).toInt) (3 - i)) := fun i hi => by rw [g3 92 (by omega) (by omega)]; exact ow2 i hi
  simp [S134_0, S134_1, S134_2, S134_3, BS, ixs, inbs, le_nlt, hM, r74, a7, a8, md, n0, j0, jx, ow3, wL_i2l, wL_mul, wL_add]
  exact Inv_mk (h7.scr (fun i hi => by rw [g3 i (by omega) (by omega), f2 i (by omega), f1 i (by omega)]) (fun _ _ => rfl) ⟨rfl, rfl, rfl⟩ (fun i k h1 _ => by rw [u2_rd, if_neg h1]))

set_option maxRecDepth 100000 in
set_option maxHeartbeats 8000000 in
theorem own_330 {n sl : Nat} {C Z : Nat → Nat} {I : Nat → Nat → Int32} {L : Nat → Nat → Int64} {R : Nat → Nat → Nat} {M rn t j q : Nat} (h7 : Inv7 n C Z I L R M rn t) (hj : j < M) (hq : MOK n C Z I R j q 3) : Two 68 134 [some (.ref 1), some (.int (nI j)), some (.int 0), some (.int 3), none] [some (.ref 74), some (.int (nI j)), some (.int 0), some (.int 3), none, none, none] (n, sl, C, Z, I, L, R) := by
  obtain ⟨hM12, hn98, ⟨hB, hK, hO, hE, hM⟩, ⟨e1, e2⟩, -⟩ := id h7
  have hB' := hB
  have hM' := hM
  have hKK := hK
  unfold LayB at hB
  unfold LayM at hM
  unfold LayK at hKK
  unfold Two
  obtain ⟨a1, a2, -⟩ := id hq
  have n0 : nI 3 = 3 := rfl
  have a6 : I q 1 = nI 3 := hq.2.2.2.2.1.2.2.1
  have a7 : I 76 j = nI 3 := hq.2.2.2.2.1.2.2.2
  have hq0 : ¬ q = 0 := by omega
  have hc := hq.cm
  have hc' : CM C Z I (u2 R 8 0 q) q 3 (I q 2) _ _ _ _ := hc.keep (fun _ _ => rfl) (fun i hi => u2_ne _ _ _ (by omega))
  have hr' := (hq.rm hM' (by omega)).keep (R' := u2 R 8 0 q) (I' := I) (hM'.look 8 q (by omega)) (fun _ _ _ => rfl)
  have hK' : LayK C Z (u2 R 8 0 q) := by unfold LayK at *; simp [hK, u2_rd]
  have rr : u2 R 8 0 q 8 0 = q := by simp [u2_rd]
  have c8 : C 8 = 4 := by simp [hKK]
  have r74 : ∀ k, u2 R 8 0 q 74 k = R 74 k := fun k => by rw [u2_ne _ _ _ (by omega)]
  have r1 : ∀ k, u2 R 8 0 q 1 k = R 1 k := fun k => by rw [u2_ne _ _ _ (by omega)]
  have r8 : R 8 3 = 27 := by simp [hKK]
  have hM2 := hM'.look 8 q (by omega)
  have md : I 78 j = I (q + 4) 0 := hq.2.2.2.2.2.2.2.2.2.2.2.1.1
  have a8 : I 77 j = I q 2 := hq.2.2.2.2.2.1.1.symm
  have r6 : R q 6 = q + 4 := hq.2.2.2.2.2.2.1.2.2.2
  have c4 : C (q + 4) = 21 ∧ Z (q + 4) = 1 := ⟨hq.2.2.2.2.2.2.2.1.2.2.2.1, hq.2.2.2.2.2.2.2.1.2.2.2.2.2.2.2⟩
  have kin : inG 7 (C q) = true := hc.1.1
  have j0 : inb (nI j) 12 = true := by rw [inb_nI (by omega)]; simp; omega
  have jx := ix_nI (show j < 2 ^ 31 by omega)
  have rq : ∀ k, u2 R 8 0 q q k = R q k := fun k => by rw [u2_ne _ _ _ (by omega)]
  have isy := fun (n sl : Nat) (I' : Nat → Nat → Int32) (L' : Nat → Nat → Int64) => is_yesG hM2 hM12 hj n sl I' L'
  simp [S68_0, S68_1, S87_0, at_yesG hB' hM12 hj, Call_in (k2 := 87), BS, ixs, inbs, le_nlt, hB, e1, a1, hq0, kin, a6, n0, c8]
  refine c_at8 hc hK (fun L1 f1 lk => ?_)
  have ow : ∀ i, i ≤ 3 → L1 27 i = wL (cf (fun i => (I (q + 1) i).toInt) (3 - i)) := lk.2.2
  have pl0 := fun k pc ls st Q => c_pl8 (n := n) (sl := sl) hc' hK' rr lk (show 0 < 8 by omega) k pc ls st Q
  have pl1 := fun k pc ls st Q => c_pl8 (n := n) (sl := sl) hc' hK' rr lk (show 1 < 8 by omega) k pc ls st Q
  have pl2 := fun k pc ls st Q => c_pl8 (n := n) (sl := sl) hc' hK' rr lk (show 2 < 8 by omega) k pc ls st Q
  simp only [nI_0, show nI 1 = 1 from rfl, show nI 2 = 2 from rfl] at pl0 pl1 pl2
  simp [S68_0, S68_1, S24_0, S24_1, Call_in (k2 := 24), BS, ixs, inbs, le_nlt, hB, hKK, c8, r1, r8, rr, rq, r6, c4, kin, a6, n0, ow, pl0, pl1, pl2, wL_i2l, wL_mul, wL_add, u2_rd]
  simp [S134_0, S134_1, S134_2, S134_3, BS, ixs, inbs, le_nlt, hM, isy, e2, r74, a7, n0, j0, jx]
  refine m_owns hr' (fun L2 f2 ow2 => ?_)
  simp [S134_0, S134_1, S134_2, S134_3, BS, ixs, inbs, le_nlt, hM, r74, n0, j0, jx, ow2]
  exact Inv_mk (h7.scr (fun i hi => by rw [f2 i (by omega), f1 i (by omega)]) (fun _ _ => rfl) ⟨rfl, rfl, rfl⟩ (fun i k h1 _ => by rw [u2_rd, if_neg h1]))

set_option maxRecDepth 100000 in
set_option maxHeartbeats 8000000 in
theorem own_331 {n sl : Nat} {C Z : Nat → Nat} {I : Nat → Nat → Int32} {L : Nat → Nat → Int64} {R : Nat → Nat → Nat} {M rn t j q : Nat} (h7 : Inv7 n C Z I L R M rn t) (hj : j < M) (hq : MOK n C Z I R j q 3) : Two 68 134 [some (.ref 1), some (.int (nI j)), some (.int 1), some (.int 3), none] [some (.ref 74), some (.int (nI j)), some (.int 1), some (.int 3), none, none, none] (n, sl, C, Z, I, L, R) := by
  obtain ⟨hM12, hn98, ⟨hB, hK, hO, hE, hM⟩, ⟨e1, e2⟩, -⟩ := id h7
  have hB' := hB
  have hM' := hM
  have hKK := hK
  unfold LayB at hB
  unfold LayM at hM
  unfold LayK at hKK
  unfold Two
  obtain ⟨a1, a2, -⟩ := id hq
  have n0 : nI 3 = 3 := rfl
  have a6 : I q 1 = nI 3 := hq.2.2.2.2.1.2.2.1
  have a7 : I 76 j = nI 3 := hq.2.2.2.2.1.2.2.2
  have hq0 : ¬ q = 0 := by omega
  have hc := hq.cm
  have hc' : CM C Z I (u2 R 8 0 q) q 3 (I q 2) _ _ _ _ := hc.keep (fun _ _ => rfl) (fun i hi => u2_ne _ _ _ (by omega))
  have hr' := (hq.rm hM' (by omega)).keep (R' := u2 R 8 0 q) (I' := I) (hM'.look 8 q (by omega)) (fun _ _ _ => rfl)
  have hK' : LayK C Z (u2 R 8 0 q) := by unfold LayK at *; simp [hK, u2_rd]
  have rr : u2 R 8 0 q 8 0 = q := by simp [u2_rd]
  have c8 : C 8 = 4 := by simp [hKK]
  have r74 : ∀ k, u2 R 8 0 q 74 k = R 74 k := fun k => by rw [u2_ne _ _ _ (by omega)]
  have r1 : ∀ k, u2 R 8 0 q 1 k = R 1 k := fun k => by rw [u2_ne _ _ _ (by omega)]
  have r8 : R 8 3 = 27 := by simp [hKK]
  have hM2 := hM'.look 8 q (by omega)
  have md : I 78 j = I (q + 4) 0 := hq.2.2.2.2.2.2.2.2.2.2.2.1.1
  have a8 : I 77 j = I q 2 := hq.2.2.2.2.2.1.1.symm
  have r6 : R q 6 = q + 4 := hq.2.2.2.2.2.2.1.2.2.2
  have c4 : C (q + 4) = 21 ∧ Z (q + 4) = 1 := ⟨hq.2.2.2.2.2.2.2.1.2.2.2.1, hq.2.2.2.2.2.2.2.1.2.2.2.2.2.2.2⟩
  have kin : inG 7 (C q) = true := hc.1.1
  have j0 : inb (nI j) 12 = true := by rw [inb_nI (by omega)]; simp; omega
  have jx := ix_nI (show j < 2 ^ 31 by omega)
  have rq : ∀ k, u2 R 8 0 q q k = R q k := fun k => by rw [u2_ne _ _ _ (by omega)]
  have isy := fun (n sl : Nat) (I' : Nat → Nat → Int32) (L' : Nat → Nat → Int64) => is_yesG hM2 hM12 hj n sl I' L'
  simp [S68_0, S68_1, S87_0, at_yesG hB' hM12 hj, Call_in (k2 := 87), BS, ixs, inbs, le_nlt, hB, e1, a1, hq0, kin, a6, n0, c8]
  refine c_at8 hc hK (fun L1 f1 lk => ?_)
  have ow : ∀ i, i ≤ 3 → L1 27 i = wL (cf (fun i => (I (q + 1) i).toInt) (3 - i)) := lk.2.2
  have pl0 := fun k pc ls st Q => c_pl8 (n := n) (sl := sl) hc' hK' rr lk (show 0 < 8 by omega) k pc ls st Q
  have pl1 := fun k pc ls st Q => c_pl8 (n := n) (sl := sl) hc' hK' rr lk (show 1 < 8 by omega) k pc ls st Q
  have pl2 := fun k pc ls st Q => c_pl8 (n := n) (sl := sl) hc' hK' rr lk (show 2 < 8 by omega) k pc ls st Q
  simp only [nI_0, show nI 1 = 1 from rfl, show nI 2 = 2 from rfl] at pl0 pl1 pl2
  simp [S68_0, S68_1, S24_0, S24_1, Call_in (k2 := 24), BS, ixs, inbs, le_nlt, hB, hKK, c8, r1, r8, rr, rq, r6, c4, kin, a6, n0, ow, pl0, pl1, pl2, wL_i2l, wL_mul, wL_add, u2_rd]
  simp [S134_0, S134_1, S134_2, S134_3, BS, ixs, inbs, le_nlt, hM, isy, e2, r74, a7, n0, j0, jx]
  refine m_owns hr' (fun L2 f2 ow2 => ?_)
  simp [S134_0, S134_1, S134_2, S134_3, BS, ixs, inbs, le_nlt, hM, r74, a7, a8, md, n0, j0, jx, ow2, wL_i2l, wL_mul, wL_add]
  exact Inv_mk (h7.scr (fun i hi => by rw [f2 i (by omega), f1 i (by omega)]) (fun _ _ => rfl) ⟨rfl, rfl, rfl⟩ (fun i k h1 _ => by rw [u2_rd, if_neg h1]))

set_option maxRecDepth 100000 in
set_option maxHeartbeats 8000000 in
/-- own(machine, which, i) -/
theorem two_own (h : Hp) (hI : Inv h) (x wh y : Int32) : Two 68 134 [some (.ref 1), some (.int x), some (.int wh), some (.int y), none] [some (.ref 74), some (.int x), some (.int wh), some (.int y), none, none, none] h := by
  obtain ⟨n, sl, C, Z, I, L, R⟩ := h
  obtain ⟨M, rn, t, h7⟩ := id hI
  obtain ⟨hM12, hn98, ⟨hB, hK, hO, hE, hM⟩, ⟨e1, e2⟩, hms, hss, hap, ⟨hrn, e3, e4, hrw⟩, ht, e5, e6, htr⟩ := id h7
  dsimp only at hM12 hn98 hB hK hO hE hM e1 e2 hms hss hap hrn e3 e4 hrw ht e5 e6 htr h7
  have hB' := hB
  have hM' := hM
  unfold LayB at hB
  unfold LayM at hM
  unfold Two
  rcases pk_ix x (n := M) (by omega) with hx | hx | ⟨j, hj, rfl⟩
  · have hm : x < 0 ∨ nI M ≤ x := Or.inl hx
    simp [S68_0, S68_1, S87_0, S134_0, S134_1, S134_2, S134_3, at_noG hB' hM12 hm, is_noG hM' hm, Call_in, BS, ixs, inbs, le_nlt, hB, hM, hI, e1, e2]
  · have hm : x < 0 ∨ nI M ≤ x := Or.inr hx
    simp [S68_0, S68_1, S87_0, S134_0, S134_1, S134_2, S134_3, at_noG hB' hM12 hm, is_noG hM' hm, Call_in, BS, ixs, inbs, le_nlt, hB, hM, hI, e1, e2]
  · obtain ⟨q, s, hq⟩ := hms j hj
    obtain ⟨a1, a2, -⟩ := id hq
    have hq0 : ¬ q = 0 := by omega
    have hs3 : s ≤ 3 := hq.2.2.2.2.1.2.1
    have a6 : I q 1 = nI s := hq.2.2.2.2.1.2.2.1
    have a7 : I 76 j = nI s := hq.2.2.2.2.1.2.2.2
    have kin : inG 7 (C q) = true := hq.cm.1.1
    have j0 : inb (nI j) 12 = true := by rw [inb_nI (by omega)]; simp; omega
    have jx := ix_nI (show j < 2 ^ 31 by omega)
    by_cases w0 : wh < 0
    · simp [S68_0, S68_1, S87_0, S134_0, S134_1, S134_2, S134_3, at_yesG hB' hM12 hj, is_yesG hM' hM12 hj, e1, e2, Call_in, BS, ixs, inbs, le_nlt, hB, hM, hI, a1, hq0, w0]
    by_cases w1 : (1 : Int32) < wh
    · simp [S68_0, S68_1, S87_0, S134_0, S134_1, S134_2, S134_3, at_yesG hB' hM12 hj, is_yesG hM' hM12 hj, e1, e2, Call_in, BS, ixs, inbs, le_nlt, hB, hM, hI, a1, hq0, w0, w1]
    by_cases y0 : y < 0
    · simp [S68_0, S68_1, S87_0, S134_0, S134_1, S134_2, S134_3, at_yesG hB' hM12 hj, is_yesG hM' hM12 hj, e1, e2, Call_in, BS, ixs, inbs, le_nlt, hB, hM, hI, a1, hq0, w0, w1, y0, kin, a6]
    by_cases y1 : nI s < y
    · simp [S68_0, S68_1, S87_0, S134_0, S134_1, S134_2, S134_3, at_yesG hB' hM12 hj, is_yesG hM' hM12 hj, e1, e2, Call_in, BS, ixs, inbs, le_nlt, hB, hM, hI, a1, hq0, w0, w1, y0, y1, kin, a6, a7, j0, jx]
    obtain ⟨i, hi, rfl⟩ : ∃ i, i ≤ s ∧ y = nI i := nI_of2 (M := nI s) (nI_toInt (by omega)) y0 (by rw [← Int32.not_lt]; exact y1)
    have hwh : wh = 0 ∨ wh = 1 := by
      rcases in4 wh with h | h | h | h | h | h
      · exact absurd h w0
      · exact absurd (Int32.lt_trans (by decide) h) w1
      · exact Or.inl h
      · exact Or.inr h
      · exact absurd (by rw [h]; decide) w1
      · exact absurd (by rw [h]; decide) w1
    have fin : ∀ s' i' : Nat, s = s' → i = i' → (∀ h7' : Inv7 n C Z I L R M rn t, MOK n C Z I R j q s' → Two 68 134 [some (.ref 1), some (.int (nI j)), some (.int wh), some (.int (nI i')), none] [some (.ref 74), some (.int (nI j)), some (.int wh), some (.int (nI i')), none, none, none] (n, sl, C, Z, I, L, R)) → Two 68 134 [some (.ref 1), some (.int (nI j)), some (.int wh), some (.int (nI i)), none] [some (.ref 74), some (.int (nI j)), some (.int wh), some (.int (nI i)), none, none, none] (n, sl, C, Z, I, L, R) := fun s' i' e1 e2 h => by subst e1; subst e2; exact h h7 hq
    rcases hwh with rfl | rfl
    · rcases (by omega : (s = 0 ∧ i = 0) ∨ (s = 1 ∧ i = 0) ∨ (s = 1 ∧ i = 1) ∨ (s = 2 ∧ i = 0) ∨ (s = 2 ∧ i = 1) ∨ (s = 2 ∧ i = 2) ∨ (s = 3 ∧ i = 0) ∨ (s = 3 ∧ i = 1) ∨ (s = 3 ∧ i = 2) ∨ (s = 3 ∧ i = 3)) with ⟨es, ei⟩ | ⟨es, ei⟩ | ⟨es, ei⟩ | ⟨es, ei⟩ | ⟨es, ei⟩ | ⟨es, ei⟩ | ⟨es, ei⟩ | ⟨es, ei⟩ | ⟨es, ei⟩ | ⟨es, ei⟩
      · exact fin 0 0 es ei (fun h hm => own_000 h hj hm)
      · exact fin 1 0 es ei (fun h hm => own_100 h hj hm)
      · exact fin 1 1 es ei (fun h hm => own_110 h hj hm)
      · exact fin 2 0 es ei (fun h hm => own_200 h hj hm)
      · exact fin 2 1 es ei (fun h hm => own_210 h hj hm)
      · exact fin 2 2 es ei (fun h hm => own_220 h hj hm)
      · exact fin 3 0 es ei (fun h hm => own_300 h hj hm)
      · exact fin 3 1 es ei (fun h hm => own_310 h hj hm)
      · exact fin 3 2 es ei (fun h hm => own_320 h hj hm)
      · exact fin 3 3 es ei (fun h hm => own_330 h hj hm)
    · rcases (by omega : (s = 0 ∧ i = 0) ∨ (s = 1 ∧ i = 0) ∨ (s = 1 ∧ i = 1) ∨ (s = 2 ∧ i = 0) ∨ (s = 2 ∧ i = 1) ∨ (s = 2 ∧ i = 2) ∨ (s = 3 ∧ i = 0) ∨ (s = 3 ∧ i = 1) ∨ (s = 3 ∧ i = 2) ∨ (s = 3 ∧ i = 3)) with ⟨es, ei⟩ | ⟨es, ei⟩ | ⟨es, ei⟩ | ⟨es, ei⟩ | ⟨es, ei⟩ | ⟨es, ei⟩ | ⟨es, ei⟩ | ⟨es, ei⟩ | ⟨es, ei⟩ | ⟨es, ei⟩
      · exact fin 0 0 es ei (fun h hm => own_001 h hj hm)
      · exact fin 1 0 es ei (fun h hm => own_101 h hj hm)
      · exact fin 1 1 es ei (fun h hm => own_111 h hj hm)
      · exact fin 2 0 es ei (fun h hm => own_201 h hj hm)
      · exact fin 2 1 es ei (fun h hm => own_211 h hj hm)
      · exact fin 2 2 es ei (fun h hm => own_221 h hj hm)
      · exact fin 3 0 es ei (fun h hm => own_301 h hj hm)
      · exact fin 3 1 es ei (fun h hm => own_311 h hj hm)
      · exact fin 3 2 es ei (fun h hm => own_321 h hj hm)
      · exact fin 3 3 es ei (fun h hm => own_331 h hj hm)

