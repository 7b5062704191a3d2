set_option maxRecDepth 100000 in
set_option maxHeartbeats 8000000 in
theorem gain_p_10 {n sl : Nat} {C Z : Nat → Nat} {I : Nat → Nat → Int32} {L : Nat → Nat → Int64} {R : Nat → Nat → Nat} {M rn t j q i : Nat} (h7 : Inv7 n C Z I L R M rn t) (hj : j < M) (hq : MOK n C Z I R j q 1) (p0 p1 p2 : Int32)  (hb : p0 < -100 ∨ 100 < p0) (hi : i < 1) (wh : Int32) (hw : wh = 0 ∨ wh = 1) : Two 72 140 [some (.ref 1), some (.int (nI j)), some (.int p0), some (.int p1), some (.int p2), some (.int (nI i)), some (.int wh), none] [some (.ref 74), some (.int (nI j)), some (.int p0), some (.int p1), some (.int p2), some (.int (nI i)), some (.int wh), none, none, none, none] (n, sl, C, Z, I, L, R) := by
  obtain ⟨hM12, hn98, ⟨hB, hK, hO, hE, hM⟩, ⟨e1, e2⟩, -⟩ := id h7
  have hB' := hB
  have hM' := hM
  unfold LayB at hB
  unfold LayM at hM
  unfold Two
  obtain ⟨a1, a2, -⟩ := id hq
  have hq0 : ¬ q = 0 := by omega
  have hc := hq.cm
  have kin : inG 7 (C q) = true := hc.1.1
  have a6 : I q 1 = nI 1 := hc.1.2.2.2.2.1
  have n0 : nI 1 = 1 := rfl
  have k76 : I 76 j = nI 1 := hq.2.2.2.2.1.2.2.2
  have c8 : C 8 = 4 := by unfold LayK at hK; simp [hK]
  have j0 : inb (nI j) 12 = true := by rw [inb_nI (by omega)]; simp; omega
  have jx := ix_nI (show j < 2 ^ 31 by omega)
  have ip : ¬ nI i < 0 := nI_nneg (by omega)
  have il : ¬ (0 : Int32) < nI i := nI_nlt (b := i) (a := 0) (by omega) (by omega)
  have im : nI i < 1 := nI_lt (b := 1) (by omega) (by omega)
  have hI : Inv (n, sl, C, Z, I, L, R) := Inv_mk h7
  rcases hb with hb | hb
  · rcases hw with rfl | rfl <;> simp [S72_0, S72_1, S72_2, S88_0, S88_1, S87_0, Call_in (k2 := 87), Call_in (k2 := 88), BS, ixs, inbs, le_nlt, hB, kin, a6, n0, c8, at_yesG hB' hM12 hj, e1, a1, hq0, ip, il, hb, S140_0, S140_1, S140_2, S140_3, S140_4, S140_5, S140_6, S140_7, S140_8, is_yesG hM' hM12 hj, hM, e2, j0, jx, k76, im, hI]
  · have hb2 : ¬ p0 < -100 := fun h => by have := Int32.lt_trans (Int32.lt_trans h (by decide : (-100 : Int32) < 100)) hb; simp at this
    rcases hw with rfl | rfl <;> simp [S72_0, S72_1, S72_2, S88_0, S88_1, S87_0, Call_in (k2 := 87), Call_in (k2 := 88), BS, ixs, inbs, le_nlt, hB, kin, a6, n0, c8, at_yesG hB' hM12 hj, e1, a1, hq0, ip, il, hb, hb2, S140_0, S140_1, S140_2, S140_3, S140_4, S140_5, S140_6, S140_7, S140_8, is_yesG hM' hM12 hj, hM, e2, j0, jx, k76, im, hI]
set_option maxRecDepth 100000 in
set_option maxHeartbeats 8000000 in
theorem gain_rk_1 {n sl : Nat} {C Z : Nat → Nat} {I : Nat → Nat → Int32} {L : Nat → Nat → Int64} {R : Nat → Nat → Nat} {M rn t j q i : Nat} (h7 : Inv7 n C Z I L R M rn t) (hj : j < M) (hq : MOK n C Z I R j q 1) (p0 p1 p2 : Int32) (q0 : ¬ p0 < -100 ∧ ¬ 100 < p0) (hi : i < 1) (wh : Int32) (hw : wh = 0 ∨ wh = 1) (hrk : ¬ IsRk (pw (fun i => (I (q + 1) i).toInt) (fun i => (I (q + 2) i).toInt)) 3 1) : Two 72 140 [some (.ref 1), some (.int (nI j)), some (.int p0), some (.int p1), some (.int p2), some (.int (nI i)), some (.int wh), none] [some (.ref 74), some (.int (nI j)), some (.int p0), some (.int p1), some (.int p2), some (.int (nI i)), some (.int wh), none, none, none, none] (n, sl, C, Z, I, L, R) := by
  obtain ⟨hM12, hn98, ⟨hB, hK, hO, hE, hM⟩, ⟨e1, e2⟩, -⟩ := id h7
  have hB' := hB
  have hM' := hM
  unfold LayB at hB
  unfold LayM at hM
  unfold Two
  obtain ⟨a1, a2, -⟩ := id hq
  have hq0 : ¬ q = 0 := by omega
  have hc := hq.cm
  have kin : inG 7 (C q) = true := hc.1.1
  have a6 : I q 1 = nI 1 := hc.1.2.2.2.2.1
  have n0 : nI 1 = 1 := rfl
  have k76 : I 76 j = nI 1 := hq.2.2.2.2.1.2.2.2
  have c8 : C 8 = 4 := by unfold LayK at hK; simp [hK]
  have j0 : inb (nI j) 12 = true := by rw [inb_nI (by omega)]; simp; omega
  have jx := ix_nI (show j < 2 ^ 31 by omega)
  have hu := hq.un
  obtain ⟨bA, bB, bK, -⟩ := hq.bns
  have rm0 := hq.rm hM' (by omega)
  have zA := rm0.2.2.2.2.2.2.2.2.2.1
  have zB := rm0.2.2.2.2.2.2.2.2.2.2
  obtain ⟨R2, hR2⟩ : ∃ R2, R2 = u2 R 8 0 q := ⟨_, rfl⟩
  have r2n : ∀ i, i ≠ 8 → R2 i = R i := fun i h => by rw [hR2, u2_ne _ _ _ h]
  have hc' : CM C Z I R2 q 1 (I q 2) _ _ _ _ := hc.keep (fun _ _ => rfl) (fun i hi => r2n i (by omega))
  have hK2 : LayK C Z R2 := by rw [hR2]; unfold LayK at *; simp [hK, u2_rd]
  have hM2 : LayM C Z R2 := by rw [hR2]; exact hM'.look 8 q (by omega)
  have rr : R2 8 0 = q := by rw [hR2]; simp [u2_rd]
  have r1 : ∀ k, R2 1 k = R 1 k := fun k => by rw [r2n 1 (by omega)]
  have r74 : ∀ k, R2 74 k = R 74 k := fun k => by rw [r2n 74 (by omega)]
  have rq : ∀ k, R2 q k = R q k := fun k => by rw [r2n q (by omega)]
  have hr2 := rm0.keep (R' := R2) (I' := I) hM2 (fun _ _ _ => rfl)
  have isy := is_yesG hM2 hM12 hj n sl I
  have ip : ¬ nI i < 0 := nI_nneg (by omega)
  have il : ¬ (0 : Int32) < nI i := nI_nlt (b := i) (a := 0) (by omega) (by omega)
  have im : nI i < 1 := nI_lt (b := 1) (by omega) (by omega)
  rcases hw with rfl | rfl
  all_goals
    simp [S72_0, S72_1, S72_2, S88_0, S88_1, S87_0, Call_in (k2 := 87), Call_in (k2 := 88), BS, ixs, inbs, le_nlt, hB, kin, a6, n0, c8, at_yesG hB' hM12 hj, e1, a1, hq0, q0, ip, il]
    refine c_at8 hc hK (fun L1 f1 lk => ?_)
    rw [← hR2]
    simp [S72_0, S72_1, S72_2, S88_0, S88_1, S87_0, Call_in (k2 := 87), Call_in (k2 := 88), BS, ixs, inbs, le_nlt, hB, kin, a6, n0, c8, r1, rr]
    refine c_reached hc' hK2 rr lk bA bB (fun r h1 h2 => ?_)
    have rn : ¬ r = 1 := fun h => hrk (by rw [h] at h2; exact h2)
    have rn' : ¬ nI r = 1 := fun h => rn ((nI_eq (a := r) (b := 1) (by omega) (by omega)).mp h)
    simp [S72_0, S72_1, S72_2, S88_0, S88_1, S87_0, Call_in (k2 := 87), Call_in (k2 := 88), BS, ixs, inbs, le_nlt, hB, kin, a6, n0, c8, r1, rr, rn']
    simp [S140_0, S140_1, S140_2, S140_3, S140_4, S140_5, S140_6, S140_7, S140_8, BS, ixs, inbs, le_nlt, hM, r74, isy, e2, j0, jx, k76, n0, ip, il, im, q0]
    refine m_reached hr2 bA bB (fun r' h1' h2' L3 f3 => ?_)
    have er := h2.uniq h2'
    subst er
    simp [S140_0, S140_1, S140_2, S140_3, S140_4, S140_5, S140_6, S140_7, S140_8, BS, ixs, inbs, hM, r74, j0, jx, k76, n0, rn']
    exact Inv_mk (h7.scr (fun i hi => by rw [f3 i (by omega) (by omega) (by omega), f1 i (by omega)]) (fun _ _ => rfl) ⟨rfl, rfl, rfl⟩ (fun i k h1 _ => by rw [hR2, u2_rd, if_neg h1]))
set_option maxRecDepth 100000 in
set_option maxHeartbeats 8000000 in
theorem gain_p_20 {n sl : Nat} {C Z : Nat → Nat} {I : Nat → Nat → Int32} {L : Nat → Nat → Int64} {R : Nat → Nat → Nat} {M rn t j q i : Nat} (h7 : Inv7 n C Z I L R M rn t) (hj : j < M) (hq : MOK n C Z I R j q 2) (p0 p1 p2 : Int32)  (hb : p0 < -100 ∨ 100 < p0) (hi : i < 2) (wh : Int32) (hw : wh = 0 ∨ wh = 1) : Two 72 140 [some (.ref 1), some (.int (nI j)), some (.int p0), some (.int p1), some (.int p2), some (.int (nI i)), some (.int wh), none] [some (.ref 74), some (.int (nI j)), some (.int p0), some (.int p1), some (.int p2), some (.int (nI i)), some (.int wh), none, none, none, none] (n, sl, C, Z, I, L, R) := by
  obtain ⟨hM12, hn98, ⟨hB, hK, hO, hE, hM⟩, ⟨e1, e2⟩, -⟩ := id h7
  have hB' := hB
  have hM' := hM
  unfold LayB at hB
  unfold LayM at hM
  unfold Two
  obtain ⟨a1, a2, -⟩ := id hq
  have hq0 : ¬ q = 0 := by omega
  have hc := hq.cm
  have kin : inG 7 (C q) = true := hc.1.1
  have a6 : I q 1 = nI 2 := hc.1.2.2.2.2.1
  have n0 : nI 2 = 2 := rfl
  have k76 : I 76 j = nI 2 := hq.2.2.2.2.1.2.2.2
  have c8 : C 8 = 4 := by unfold LayK at hK; simp [hK]
  have j0 : inb (nI j) 12 = true := by rw [inb_nI (by omega)]; simp; omega
  have jx := ix_nI (show j < 2 ^ 31 by omega)
  have ip : ¬ nI i < 0 := nI_nneg (by omega)
  have il : ¬ (1 : Int32) < nI i := nI_nlt (b := i) (a := 1) (by omega) (by omega)
  have im : nI i < 2 := nI_lt (b := 2) (by omega) (by omega)
  have hI : Inv (n, sl, C, Z, I, L, R) := Inv_mk h7
  rcases hb with hb | hb
  · rcases hw with rfl | rfl <;> simp [S72_0, S72_1, S72_2, S88_0, S88_1, S87_0, Call_in (k2 := 87), Call_in (k2 := 88), BS, ixs, inbs, le_nlt, hB, kin, a6, n0, c8, at_yesG hB' hM12 hj, e1, a1, hq0, ip, il, hb, S140_0, S140_1, S140_2, S140_3, S140_4, S140_5, S140_6, S140_7, S140_8, is_yesG hM' hM12 hj, hM, e2, j0, jx, k76, im, hI]
  · have hb2 : ¬ p0 < -100 := fun h => by have := Int32.lt_trans (Int32.lt_trans h (by decide : (-100 : Int32) < 100)) hb; simp at this
    rcases hw with rfl | rfl <;> simp [S72_0, S72_1, S72_2, S88_0, S88_1, S87_0, Call_in (k2 := 87), Call_in (k2 := 88), BS, ixs, inbs, le_nlt, hB, kin, a6, n0, c8, at_yesG hB' hM12 hj, e1, a1, hq0, ip, il, hb, hb2, S140_0, S140_1, S140_2, S140_3, S140_4, S140_5, S140_6, S140_7, S140_8, is_yesG hM' hM12 hj, hM, e2, j0, jx, k76, im, hI]
set_option maxRecDepth 100000 in
set_option maxHeartbeats 8000000 in
theorem gain_p_21 {n sl : Nat} {C Z : Nat → Nat} {I : Nat → Nat → Int32} {L : Nat → Nat → Int64} {R : Nat → Nat → Nat} {M rn t j q i : Nat} (h7 : Inv7 n C Z I L R M rn t) (hj : j < M) (hq : MOK n C Z I R j q 2) (p0 p1 p2 : Int32) (q0 : ¬ p0 < -100 ∧ ¬ 100 < p0) (hb : p1 < -100 ∨ 100 < p1) (hi : i < 2) (wh : Int32) (hw : wh = 0 ∨ wh = 1) : Two 72 140 [some (.ref 1), some (.int (nI j)), some (.int p0), some (.int p1), some (.int p2), some (.int (nI i)), some (.int wh), none] [some (.ref 74), some (.int (nI j)), some (.int p0), some (.int p1), some (.int p2), some (.int (nI i)), some (.int wh), none, none, none, none] (n, sl, C, Z, I, L, R) := by
  obtain ⟨hM12, hn98, ⟨hB, hK, hO, hE, hM⟩, ⟨e1, e2⟩, -⟩ := id h7
  have hB' := hB
  have hM' := hM
  unfold LayB at hB
  unfold LayM at hM
  unfold Two
  obtain ⟨a1, a2, -⟩ := id hq
  have hq0 : ¬ q = 0 := by omega
  have hc := hq.cm
  have kin : inG 7 (C q) = true := hc.1.1
  have a6 : I q 1 = nI 2 := hc.1.2.2.2.2.1
  have n0 : nI 2 = 2 := rfl
  have k76 : I 76 j = nI 2 := hq.2.2.2.2.1.2.2.2
  have c8 : C 8 = 4 := by unfold LayK at hK; simp [hK]
  have j0 : inb (nI j) 12 = true := by rw [inb_nI (by omega)]; simp; omega
  have jx := ix_nI (show j < 2 ^ 31 by omega)
  have ip : ¬ nI i < 0 := nI_nneg (by omega)
  have il : ¬ (1 : Int32) < nI i := nI_nlt (b := i) (a := 1) (by omega) (by omega)
  have im : nI i < 2 := nI_lt (b := 2) (by omega) (by omega)
  have hI : Inv (n, sl, C, Z, I, L, R) := Inv_mk h7
  rcases hb with hb | hb
  · rcases hw with rfl | rfl <;> simp [S72_0, S72_1, S72_2, S88_0, S88_1, S87_0, Call_in (k2 := 87), Call_in (k2 := 88), BS, ixs, inbs, le_nlt, hB, kin, a6, n0, c8, at_yesG hB' hM12 hj, e1, a1, hq0, q0, ip, il, hb, S140_0, S140_1, S140_2, S140_3, S140_4, S140_5, S140_6, S140_7, S140_8, is_yesG hM' hM12 hj, hM, e2, j0, jx, k76, im, hI]
  · have hb2 : ¬ p1 < -100 := fun h => by have := Int32.lt_trans (Int32.lt_trans h (by decide : (-100 : Int32) < 100)) hb; simp at this
    rcases hw with rfl | rfl <;> simp [S72_0, S72_1, S72_2, S88_0, S88_1, S87_0, Call_in (k2 := 87), Call_in (k2 := 88), BS, ixs, inbs, le_nlt, hB, kin, a6, n0, c8, at_yesG hB' hM12 hj, e1, a1, hq0, q0, ip, il, hb, hb2, S140_0, S140_1, S140_2, S140_3, S140_4, S140_5, S140_6, S140_7, S140_8, is_yesG hM' hM12 hj, hM, e2, j0, jx, k76, im, hI]
set_option maxRecDepth 100000 in
set_option maxHeartbeats 8000000 in
theorem gain_rk_2 {n sl : Nat} {C Z : Nat → Nat} {I : Nat → Nat → Int32} {L : Nat → Nat → Int64} {R : Nat → Nat → Nat} {M rn t j q i : Nat} (h7 : Inv7 n C Z I L R M rn t) (hj : j < M) (hq : MOK n C Z I R j q 2) (p0 p1 p2 : Int32) (q0 : ¬ p0 < -100 ∧ ¬ 100 < p0) (q1 : ¬ p1 < -100 ∧ ¬ 100 < p1) (hi : i < 2) (wh : Int32) (hw : wh = 0 ∨ wh = 1) (hrk : ¬ IsRk (pw (fun i => (I (q + 1) i).toInt) (fun i => (I (q + 2) i).toInt)) 3 2) : Two 72 140 [some (.ref 1), some (.int (nI j)), some (.int p0), some (.int p1), some (.int p2), some (.int (nI i)), some (.int wh), none] [some (.ref 74), some (.int (nI j)), some (.int p0), some (.int p1), some (.int p2), some (.int (nI i)), some (.int wh), none, none, none, none] (n, sl, C, Z, I, L, R) := by
  obtain ⟨hM12, hn98, ⟨hB, hK, hO, hE, hM⟩, ⟨e1, e2⟩, -⟩ := id h7
  have hB' := hB
  have hM' := hM
  unfold LayB at hB
  unfold LayM at hM
  unfold Two
  obtain ⟨a1, a2, -⟩ := id hq
  have hq0 : ¬ q = 0 := by omega
  have hc := hq.cm
  have kin : inG 7 (C q) = true := hc.1.1
  have a6 : I q 1 = nI 2 := hc.1.2.2.2.2.1
  have n0 : nI 2 = 2 := rfl
  have k76 : I 76 j = nI 2 := hq.2.2.2.2.1.2.2.2
  have c8 : C 8 = 4 := by unfold LayK at hK; simp [hK]
  have j0 : inb (nI j) 12 = true := by rw [inb_nI (by omega)]; simp; omega
  have jx := ix_nI (show j < 2 ^ 31 by omega)
  have hu := hq.un
  obtain ⟨bA, bB, bK, -⟩ := hq.bns
  have rm0 := hq.rm hM' (by omega)
  have zA := rm0.2.2.2.2.2.2.2.2.2.1
  have zB := rm0.2.2.2.2.2.2.2.2.2.2
  obtain ⟨R2, hR2⟩ : ∃ R2, R2 = u2 R 8 0 q := ⟨_, rfl⟩
  have r2n : ∀ i, i ≠ 8 → R2 i = R i := fun i h => by rw [hR2, u2_ne _ _ _ h]
  have hc' : CM C Z I R2 q 2 (I q 2) _ _ _ _ := hc.keep (fun _ _ => rfl) (fun i hi => r2n i (by omega))
  have hK2 : LayK C Z R2 := by rw [hR2]; unfold LayK at *; simp [hK, u2_rd]
  have hM2 : LayM C Z R2 := by rw [hR2]; exact hM'.look 8 q (by omega)
  have rr : R2 8 0 = q := by rw [hR2]; simp [u2_rd]
  have r1 : ∀ k, R2 1 k = R 1 k := fun k => by rw [r2n 1 (by omega)]
  have r74 : ∀ k, R2 74 k = R 74 k := fun k => by rw [r2n 74 (by omega)]
  have rq : ∀ k, R2 q k = R q k := fun k => by rw [r2n q (by omega)]
  have hr2 := rm0.keep (R' := R2) (I' := I) hM2 (fun _ _ _ => rfl)
  have isy := is_yesG hM2 hM12 hj n sl I
  have ip : ¬ nI i < 0 := nI_nneg (by omega)
  have il : ¬ (1 : Int32) < nI i := nI_nlt (b := i) (a := 1) (by omega) (by omega)
  have im : nI i < 2 := nI_lt (b := 2) (by omega) (by omega)
  rcases hw with rfl | rfl
  all_goals
    simp [S72_0, S72_1, S72_2, S88_0, S88_1, S87_0, Call_in (k2 := 87), Call_in (k2 := 88), BS, ixs, inbs, le_nlt, hB, kin, a6, n0, c8, at_yesG hB' hM12 hj, e1, a1, hq0, q0, q1, ip, il]
    refine c_at8 hc hK (fun L1 f1 lk => ?_)
    rw [← hR2]
    simp [S72_0, S72_1, S72_2, S88_0, S88_1, S87_0, Call_in (k2 := 87), Call_in (k2 := 88), BS, ixs, inbs, le_nlt, hB, kin, a6, n0, c8, r1, rr]
    refine c_reached hc' hK2 rr lk bA bB (fun r h1 h2 => ?_)
    have rn : ¬ r = 2 := fun h => hrk (by rw [h] at h2; exact h2)
    have rn' : ¬ nI r = 2 := fun h => rn ((nI_eq (a := r) (b := 2) (by omega) (by omega)).mp h)
    simp [S72_0, S72_1, S72_2, S88_0, S88_1, S87_0, Call_in (k2 := 87), Call_in (k2 := 88), BS, ixs, inbs, le_nlt, hB, kin, a6, n0, c8, r1, rr, rn']
    simp [S140_0, S140_1, S140_2, S140_3, S140_4, S140_5, S140_6, S140_7, S140_8, BS, ixs, inbs, le_nlt, hM, r74, isy, e2, j0, jx, k76, n0, ip, il, im, q0, q1]
    refine m_reached hr2 bA bB (fun r' h1' h2' L3 f3 => ?_)
    have er := h2.uniq h2'
    subst er
    simp [S140_0, S140_1, S140_2, S140_3, S140_4, S140_5, S140_6, S140_7, S140_8, BS, ixs, inbs, hM, r74, j0, jx, k76, n0, rn']
    exact Inv_mk (h7.scr (fun i hi => by rw [f3 i (by omega) (by omega) (by omega), f1 i (by omega)]) (fun _ _ => rfl) ⟨rfl, rfl, rfl⟩ (fun i k h1 _ => by rw [hR2, u2_rd, if_neg h1]))
set_option maxRecDepth 100000 in
set_option maxHeartbeats 8000000 in
theorem gain_p_30 {n sl : Nat} {C Z : Nat → Nat} {I : Nat → Nat → Int32} {L : Nat → Nat → Int64} {R : Nat → Nat → Nat} {M rn t j q i : Nat} (h7 : Inv7 n C Z I L R M rn t) (hj : j < M) (hq : MOK n C Z I R j q 3) (p0 p1 p2 : Int32)  (hb : p0 < -100 ∨ 100 < p0) (hi : i < 3) (wh : Int32) (hw : wh = 0 ∨ wh = 1) : Two 72 140 [some (.ref 1), some (.int (nI j)), some (.int p0), some (.int p1), some (.int p2), some (.int (nI i)), some (.int wh), none] [some (.ref 74), some (.int (nI j)), some (.int p0), some (.int p1), some (.int p2), some (.int (nI i)), some (.int wh), none, none, none, none] (n, sl, C, Z, I, L, R) := by
  obtain ⟨hM12, hn98, ⟨hB, hK, hO, hE, hM⟩, ⟨e1, e2⟩, -⟩ := id h7
  have hB' := hB
  have hM' := hM
  unfold LayB at hB
  unfold LayM at hM
  unfold Two
  obtain ⟨a1, a2, -⟩ := id hq
  have hq0 : ¬ q = 0 := by omega
  have hc := hq.cm
  have kin : inG 7 (C q) = true := hc.1.1
  have a6 : I q 1 = nI 3 := hc.1.2.2.2.2.1
  have n0 : nI 3 = 3 := rfl
  have k76 : I 76 j = nI 3 := hq.2.2.2.2.1.2.2.2
  have c8 : C 8 = 4 := by unfold LayK at hK; simp [hK]
  have j0 : inb (nI j) 12 = true := by rw [inb_nI (by omega)]; simp; omega
  have jx := ix_nI (show j < 2 ^ 31 by omega)
  have ip : ¬ nI i < 0 := nI_nneg (by omega)
  have il : ¬ (2 : Int32) < nI i := nI_nlt (b := i) (a := 2) (by omega) (by omega)
  have im : nI i < 3 := nI_lt (b := 3) (by omega) (by omega)
  have hI : Inv (n, sl, C, Z, I, L, R) := Inv_mk h7
  rcases hb with hb | hb
  · rcases hw with rfl | rfl <;> simp [S72_0, S72_1, S72_2, S88_0, S88_1, S87_0, Call_in (k2 := 87), Call_in (k2 := 88), BS, ixs, inbs, le_nlt, hB, kin, a6, n0, c8, at_yesG hB' hM12 hj, e1, a1, hq0, ip, il, hb, S140_0, S140_1, S140_2, S140_3, S140_4, S140_5, S140_6, S140_7, S140_8, is_yesG hM' hM12 hj, hM, e2, j0, jx, k76, im, hI]
  · have hb2 : ¬ p0 < -100 := fun h => by have := Int32.lt_trans (Int32.lt_trans h (by decide : (-100 : Int32) < 100)) hb; simp at this
    rcases hw with rfl | rfl <;> simp [S72_0, S72_1, S72_2, S88_0, S88_1, S87_0, Call_in (k2 := 87), Call_in (k2 := 88), BS, ixs, inbs, le_nlt, hB, kin, a6, n0, c8, at_yesG hB' hM12 hj, e1, a1, hq0, ip, il, hb, hb2, S140_0, S140_1, S140_2, S140_3, S140_4, S140_5, S140_6, S140_7, S140_8, is_yesG hM' hM12 hj, hM, e2, j0, jx, k76, im, hI]
set_option maxRecDepth 100000 in
set_option maxHeartbeats 8000000 in
theorem gain_p_31 {n sl : Nat} {C Z : Nat → Nat} {I : Nat → Nat → Int32} {L : Nat → Nat → Int64} {R : Nat → Nat → Nat} {M rn t j q i : Nat} (h7 : Inv7 n C Z I L R M rn t) (hj : j < M) (hq : MOK n C Z I R j q 3) (p0 p1 p2 : Int32) (q0 : ¬ p0 < -100 ∧ ¬ 100 < p0) (hb : p1 < -100 ∨ 100 < p1) (hi : i < 3) (wh : Int32) (hw : wh = 0 ∨ wh = 1) : Two 72 140 [some (.ref 1), some (.int (nI j)), some (.int p0), some (.int p1), some (.int p2), some (.int (nI i)), some (.int wh), none] [some (.ref 74), some (.int (nI j)), some (.int p0), some (.int p1), some (.int p2), some (.int (nI i)), some (.int wh), none, none, none, none] (n, sl, C, Z, I, L, R) := by
  obtain ⟨hM12, hn98, ⟨hB, hK, hO, hE, hM⟩, ⟨e1, e2⟩, -⟩ := id h7
  have hB' := hB
  have hM' := hM
  unfold LayB at hB
  unfold LayM at hM
  unfold Two
  obtain ⟨a1, a2, -⟩ := id hq
  have hq0 : ¬ q = 0 := by omega
  have hc := hq.cm
  have kin : inG 7 (C q) = true := hc.1.1
  have a6 : I q 1 = nI 3 := hc.1.2.2.2.2.1
  have n0 : nI 3 = 3 := rfl
  have k76 : I 76 j = nI 3 := hq.2.2.2.2.1.2.2.2
  have c8 : C 8 = 4 := by unfold LayK at hK; simp [hK]
  have j0 : inb (nI j) 12 = true := by rw [inb_nI (by omega)]; simp; omega
  have jx := ix_nI (show j < 2 ^ 31 by omega)
  have ip : ¬ nI i < 0 := nI_nneg (by omega)
  have il : ¬ (2 : Int32) < nI i := nI_nlt (b := i) (a := 2) (by omega) (by omega)
  have im : nI i < 3 := nI_lt (b := 3) (by omega) (by omega)
  have hI : Inv (n, sl, C, Z, I, L, R) := Inv_mk h7
  rcases hb with hb | hb
  · rcases hw with rfl | rfl <;> simp [S72_0, S72_1, S72_2, S88_0, S88_1, S87_0, Call_in (k2 := 87), Call_in (k2 := 88), BS, ixs, inbs, le_nlt, hB, kin, a6, n0, c8, at_yesG hB' hM12 hj, e1, a1, hq0, q0, ip, il, hb, S140_0, S140_1, S140_2, S140_3, S140_4, S140_5, S140_6, S140_7, S140_8, is_yesG hM' hM12 hj, hM, e2, j0, jx, k76, im, hI]
  · have hb2 : ¬ p1 < -100 := fun h => by have := Int32.lt_trans (Int32.lt_trans h (by decide : (-100 : Int32) < 100)) hb; simp at this
    rcases hw with rfl | rfl <;> simp [S72_0, S72_1, S72_2, S88_0, S88_1, S87_0, Call_in (k2 := 87), Call_in (k2 := 88), BS, ixs, inbs, le_nlt, hB, kin, a6, n0, c8, at_yesG hB' hM12 hj, e1, a1, hq0, q0, ip, il, hb, hb2, S140_0, S140_1, S140_2, S140_3, S140_4, S140_5, S140_6, S140_7, S140_8, is_yesG hM' hM12 hj, hM, e2, j0, jx, k76, im, hI]
set_option maxRecDepth 100000 in
set_option maxHeartbeats 8000000 in
theorem gain_p_32 {n sl : Nat} {C Z : Nat → Nat} {I : Nat → Nat → Int32} {L : Nat → Nat → Int64} {R : Nat → Nat → Nat} {M rn t j q i : Nat} (h7 : Inv7 n C Z I L R M rn t) (hj : j < M) (hq : MOK n C Z I R j q 3) (p0 p1 p2 : Int32) (q0 : ¬ p0 < -100 ∧ ¬ 100 < p0) (q1 : ¬ p1 < -100 ∧ ¬ 100 < p1) (hb : p2 < -100 ∨ 100 < p2) (hi : i < 3) (wh : Int32) (hw : wh = 0 ∨ wh = 1) : Two 72 140 [some (.ref 1), some (.int (nI j)), some (.int p0), some (.int p1), some (.int p2), some (.int (nI i)), some (.int wh), none] [some (.ref 74), some (.int (nI j)), some (.int p0), some (.int p1), some (.int p2), some (.int (nI i)), some (.int wh), none, none, none, none] (n, sl, C, Z, I, L, R) := by
  obtain ⟨hM12, hn98, ⟨hB, hK, hO, hE, hM⟩, ⟨e1, e2⟩, -⟩ := id h7
  have hB' := hB
  have hM' := hM
  unfold LayB at hB
  unfold LayM at hM
  unfold Two
  obtain ⟨a1, a2, -⟩ := id hq
  have hq0 : ¬ q = 0 := by omega
  have hc := hq.cm
  have kin : inG 7 (C q) = true := hc.1.1
  have a6 : I q 1 = nI 3 := hc.1.2.2.2.2.1
  have n0 : nI 3 = 3 := rfl
  have k76 : I 76 j = nI 3 := hq.2.2.2.2.1.2.2.2
  have c8 : C 8 = 4 := by unfold LayK at hK; simp [hK]
  have j0 : inb (nI j) 12 = true := by rw [inb_nI (by omega)]; simp; omega
  have jx := ix_nI (show j < 2 ^ 31 by omega)
  have ip : ¬ nI i < 0 := nI_nneg (by omega)
  have il : ¬ (2 : Int32) < nI i := nI_nlt (b := i) (a := 2) (by omega) (by omega)
  have im : nI i < 3 := nI_lt (b := 3) (by omega) (by omega)
  have hI : Inv (n, sl, C, Z, I, L, R) := Inv_mk h7
  rcases hb with hb | hb
  · rcases hw with rfl | rfl <;> simp [S72_0, S72_1, S72_2, S88_0, S88_1, S87_0, Call_in (k2 := 87), Call_in (k2 := 88), BS, ixs, inbs, le_nlt, hB, kin, a6, n0, c8, at_yesG hB' hM12 hj, e1, a1, hq0, q0, q1, ip, il, hb, S140_0, S140_1, S140_2, S140_3, S140_4, S140_5, S140_6, S140_7, S140_8, is_yesG hM' hM12 hj, hM, e2, j0, jx, k76, im, hI]
  · have hb2 : ¬ p2 < -100 := fun h => by have := Int32.lt_trans (Int32.lt_trans h (by decide : (-100 : Int32) < 100)) hb; simp at this
    rcases hw with rfl | rfl <;> simp [S72_0, S72_1, S72_2, S88_0, S88_1, S87_0, Call_in (k2 := 87), Call_in (k2 := 88), BS, ixs, inbs, le_nlt, hB, kin, a6, n0, c8, at_yesG hB' hM12 hj, e1, a1, hq0, q0, q1, ip, il, hb, hb2, S140_0, S140_1, S140_2, S140_3, S140_4, S140_5, S140_6, S140_7, S140_8, is_yesG hM' hM12 hj, hM, e2, j0, jx, k76, im, hI]
set_option maxRecDepth 100000 in
set_option maxHeartbeats 8000000 in
theorem gain_rk_3 {n sl : Nat} {C Z : Nat → Nat} {I : Nat → Nat → Int32} {L : Nat → Nat → Int64} {R : Nat → Nat → Nat} {M rn t j q i : Nat} (h7 : Inv7 n C Z I L R M rn t) (hj : j < M) (hq : MOK n C Z I R j q 3) (p0 p1 p2 : Int32) (q0 : ¬ p0 < -100 ∧ ¬ 100 < p0) (q1 : ¬ p1 < -100 ∧ ¬ 100 < p1) (q2 : ¬ p2 < -100 ∧ ¬ 100 < p2) (hi : i < 3) (wh : Int32) (hw : wh = 0 ∨ wh = 1) (hrk : ¬ IsRk (pw (fun i => (I (q + 1) i).toInt) (fun i => (I (q + 2) i).toInt)) 3 3) : Two 72 140 [some (.ref 1), some (.int (nI j)), some (.int p0), some (.int p1), some (.int p2), some (.int (nI i)), some (.int wh), none] [some (.ref 74), some (.int (nI j)), some (.int p0), some (.int p1), some (.int p2), some (.int (nI i)), some (.int wh), none, none, none, none] (n, sl, C, Z, I, L, R) := by
  obtain ⟨hM12, hn98, ⟨hB, hK, hO, hE, hM⟩, ⟨e1, e2⟩, -⟩ := id h7
  have hB' := hB
  have hM' := hM
  unfold LayB at hB
  unfold LayM at hM
  unfold Two
  obtain ⟨a1, a2, -⟩ := id hq
  have hq0 : ¬ q = 0 := by omega
  have hc := hq.cm
  have kin : inG 7 (C q) = true := hc.1.1
  have a6 : I q 1 = nI 3 := hc.1.2.2.2.2.1
  have n0 : nI 3 = 3 := rfl
  have k76 : I 76 j = nI 3 := hq.2.2.2.2.1.2.2.2
  have c8 : C 8 = 4 := by unfold LayK at hK; simp [hK]
  have j0 : inb (nI j) 12 = true := by rw [inb_nI (by omega)]; simp; omega
  have jx := ix_nI (show j < 2 ^ 31 by omega)
  have hu := hq.un
  obtain ⟨bA, bB, bK, -⟩ := hq.bns
  have rm0 := hq.rm hM' (by omega)
  have zA := rm0.2.2.2.2.2.2.2.2.2.1
  have zB := rm0.2.2.2.2.2.2.2.2.2.2
  obtain ⟨R2, hR2⟩ : ∃ R2, R2 = u2 R 8 0 q := ⟨_, rfl⟩
  have r2n : ∀ i, i ≠ 8 → R2 i = R i := fun i h => by rw [hR2, u2_ne _ _ _ h]
  have hc' : CM C Z I R2 q 3 (I q 2) _ _ _ _ := hc.keep (fun _ _ => rfl) (fun i hi => r2n i (by omega))
  have hK2 : LayK C Z R2 := by rw [hR2]; unfold LayK at *; simp [hK, u2_rd]
  have hM2 : LayM C Z R2 := by rw [hR2]; exact hM'.look 8 q (by omega)
  have rr : R2 8 0 = q := by rw [hR2]; simp [u2_rd]
  have r1 : ∀ k, R2 1 k = R 1 k := fun k => by rw [r2n 1 (by omega)]
  have r74 : ∀ k, R2 74 k = R 74 k := fun k => by rw [r2n 74 (by omega)]
  have rq : ∀ k, R2 q k = R q k := fun k => by rw [r2n q (by omega)]
  have hr2 := rm0.keep (R' := R2) (I' := I) hM2 (fun _ _ _ => rfl)
  have isy := is_yesG hM2 hM12 hj n sl I
  have ip : ¬ nI i < 0 := nI_nneg (by omega)
  have il : ¬ (2 : Int32) < nI i := nI_nlt (b := i) (a := 2) (by omega) (by omega)
  have im : nI i < 3 := nI_lt (b := 3) (by omega) (by omega)
  rcases hw with rfl | rfl
  all_goals
    simp [S72_0, S72_1, S72_2, S88_0, S88_1, S87_0, Call_in (k2 := 87), Call_in (k2 := 88), BS, ixs, inbs, le_nlt, hB, kin, a6, n0, c8, at_yesG hB' hM12 hj, e1, a1, hq0, q0, q1, q2, ip, il]
    refine c_at8 hc hK (fun L1 f1 lk => ?_)
    rw [← hR2]
    simp [S72_0, S72_1, S72_2, S88_0, S88_1, S87_0, Call_in (k2 := 87), Call_in (k2 := 88), BS, ixs, inbs, le_nlt, hB, kin, a6, n0, c8, r1, rr]
    refine c_reached hc' hK2 rr lk bA bB (fun r h1 h2 => ?_)
    have rn : ¬ r = 3 := fun h => hrk (by rw [h] at h2; exact h2)
    have rn' : ¬ nI r = 3 := fun h => rn ((nI_eq (a := r) (b := 3) (by omega) (by omega)).mp h)
    simp [S72_0, S72_1, S72_2, S88_0, S88_1, S87_0, Call_in (k2 := 87), Call_in (k2 := 88), BS, ixs, inbs, le_nlt, hB, kin, a6, n0, c8, r1, rr, rn']
    simp [S140_0, S140_1, S140_2, S140_3, S140_4, S140_5, S140_6, S140_7, S140_8, BS, ixs, inbs, le_nlt, hM, r74, isy, e2, j0, jx, k76, n0, ip, il, im, q0, q1, q2]
    refine m_reached hr2 bA bB (fun r' h1' h2' L3 f3 => ?_)
    have er := h2.uniq h2'
    subst er
    simp [S140_0, S140_1, S140_2, S140_3, S140_4, S140_5, S140_6, S140_7, S140_8, BS, ixs, inbs, hM, r74, j0, jx, k76, n0, rn']
    exact Inv_mk (h7.scr (fun i hi => by rw [f3 i (by omega) (by omega) (by omega), f1 i (by omega)]) (fun _ _ => rfl) ⟨rfl, rfl, rfl⟩ (fun i k h1 _ => by rw [hR2, u2_rd, if_neg h1]))
