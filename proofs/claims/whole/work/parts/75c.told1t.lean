set_option maxRecDepth 100000 in
set_option maxHeartbeats 8000000 in
theorem told_1t {n sl : Nat} {C Z : Nat → Nat} {I : Nat → Nat → Int32} {L : Nat → Nat → Int64} {R : Nat → Nat → Nat} {M rn t j q : Nat} (h7 : Inv7 n C Z I L R M rn t) (hj : j < M) (hq : MOK n C Z I R j q 1) (kf : isa (C q) 1 = false) (kd : ¬ I 75 j = 1) (wh : Int32) : Two 66 133 [some (.ref 1), some (.int (nI j)), some (.int wh), none] [some (.ref 74), some (.int (nI j)), some (.int wh)] (n, sl, C, Z, I, L, R) := by
  obtain ⟨hM12, hn98, ⟨hB, hK, hO, hE, hM⟩, ⟨e1, e2⟩, -⟩ := id h7
  have hB' := hB
  have hM' := hM
  unfold LayB at hB
  unfold LayM at hM
  unfold Two
  obtain ⟨a1, a2, -, a4, -⟩ := id hq
  have hq0 : ¬ q = 0 := by omega
  have hc := hq.cm
  have kin : inG 7 (C q) = true := hc.1.1
  have a6 : I q 1 = nI 1 := hc.1.2.2.2.2.1
  have hu := hq.un
  obtain ⟨bA, bB, bK, -⟩ := hq.bns
  have zA := (hq.rm hM' (by omega)).2.2.2.2.2.2.2.2.2.1
  have n0 : nI 1 = 1 := rfl
  have c8 : C 8 = 4 := by unfold LayK at hK; simp [hK]
  have c66 : C 66 = 1 := by unfold LayE at hE; simp [hE]
  simp [S66_0, S66_1, S66_2, at_yesG hB' hM12 hj, BS, ixs, inbs, hB, e1, a1, hq0, c8]
  refine c_at8 hc hK (fun L1 f1 lk => ?_)
  obtain ⟨R2, hR2⟩ : ∃ R2, R2 = u2 R 8 0 q := ⟨_, rfl⟩
  rw [← hR2]
  have r2n : ∀ i, i ≠ 8 → R2 i = R i := fun i h => by rw [hR2, u2_ne _ _ _ h]
  have hc' : CM C Z I R2 q 1 (I q 2) _ _ _ _ := hc.keep (fun _ _ => rfl) (fun i hi => r2n i (by omega))
  have hE2 : LayE C Z R2 := by rw [hR2]; unfold LayE at *; simp [hE, u2_rd]
  have hK2 : LayK C Z R2 := by rw [hR2]; unfold LayK at *; simp [hK, u2_rd]
  have hM2 : LayM C Z R2 := by rw [hR2]; exact hM'.look 8 q (by omega)
  have rr : R2 8 0 = q := by rw [hR2]; simp [u2_rd]
  have r1 : ∀ k, R2 1 k = R 1 k := fun k => by rw [r2n 1 (by omega)]
  have r74 : ∀ k, R2 74 k = R 74 k := fun k => by rw [r2n 74 (by omega)]
  have rq : ∀ k, R2 q k = R q k := fun k => by rw [r2n q (by omega)]
  simp [S66_0, S66_1, S66_2, BS, ixs, inbs, hB, r1, c8, c66]
  refine c_eFill_1t hc' hE2 kf hu bA zA (fun L2 I1 fL fI v3 v5 => ?_)
  have lk2 : LK L2 8 1 _ _ _ := lk.keep (fun c h1 h2 => fL c (by omega))
  have hc2 : CM C Z I1 R2 q 1 (I q 2) _ _ _ _ := hc.keep (fun i hi => fI i (by omega)) (fun i hi => r2n i (by omega))
  have hr2 := (hq.rm hM' (by omega)).keep (R' := R2) (I' := I1) hM2 (fun i h1 h2 => fI i (by omega))
  have kd2 : ¬ I1 75 j = 1 := by rw [fI 75 (by omega)]; exact kd
  have iq : I1 q = I q := fI q (by omega)
  have i75 : I1 75 = I 75 := fI 75 (by omega)
  have e22 : I1 74 0 = nI M := by rw [fI 74 (by omega)]; exact e2
  have k76 : I1 76 j = nI 1 := hr2.2.2.2.1
  have k77 : I1 77 j = I q 2 := hr2.2.2.2.2.1
  have isy := is_yesG hM2 hM12 hj n sl I1
  have j0 : inb (nI j) 12 = true := by rw [inb_nI (by omega)]; simp; omega
  have jx := ix_nI (show j < 2 ^ 31 by omega)
  have fin : ∀ L3 L4 : Nat → Nat → Int64, (∀ c, c < 14 ∨ 36 < c → L3 c = L2 c) → (∀ c, c < 92 ∨ 98 < c → L4 c = L3 c) → Inv (n, sl, C, Z, I1, L4, R2) := fun L3 L4 g3 g4 => Inv_mk (h7.scr (fun i hi => by rw [g4 i (by omega), g3 i (by omega), fL i (by omega), f1 i (by omega)]) (fun i hi => fI i (by omega)) ⟨by rw [fI 74 (by omega)], by rw [fI 74 (by omega)], by rw [fI 74 (by omega)]⟩ (fun i k h1 _ => by rw [hR2, u2_rd, if_neg h1]))
  have fin0 := fin L2 L2 (fun _ _ => rfl) (fun _ _ => rfl)
  have base : ∀ L3 L4 : Nat → Nat → Int64, (∀ c, c < 14 ∨ 36 < c → L3 c = L2 c) → (∀ c, c < 92 ∨ 98 < c → L4 c = L3 c) → ∀ v : Value, some v = some v ∧ Inv (n, sl, C, Z, I1, L4, R2) ∧ n ≤ n + 5 ∧ sl ≤ sl + 42 := fun L3 L4 g3 g4 v => ⟨rfl, fin L3 L4 g3 g4, by omega, by omega⟩
  by_cases w0 : wh = 0
  · subst w0
    rcases a4 with ⟨b1, b2⟩ | ⟨b1, b2⟩ | ⟨b1, b2, -⟩ | ⟨b1, b2, -⟩ <;> simp [S66_0, S66_1, S66_2, S133_0, S133_1, S133_2, BS, ixs, inbs, hB, hM, r1, r74, rq, rr, c8, c66, kin, iq, i75, a6, isy, e22, k76, k77, j0, jx, n0, S10_0, S38_0, S46_0, S52_0, Call_in (k2 := 10), Call_in (k2 := 38), Call_in (k2 := 46), Call_in (k2 := 52), b1, b2, fin0]
  by_cases w1 : wh = 1
  · subst w1
    simp [S66_0, S66_1, S66_2, S133_0, S133_1, S133_2, BS, ixs, inbs, hB, hM, r1, r74, rq, rr, c8, c66, kin, iq, i75, a6, isy, e22, k76, k77, j0, jx, n0, fin0]
  by_cases w2 : wh = 2
  · subst w2
    simp [S66_0, S66_1, S66_2, S133_0, S133_1, S133_2, BS, ixs, inbs, hB, hM, r1, r74, rq, rr, c8, c66, kin, iq, i75, a6, isy, e22, k76, k77, j0, jx, n0, fin0]
  by_cases w3 : wh = 3
  · subst w3
    simp [S66_0, S66_1, S66_2, S133_0, S133_1, S133_2, BS, ixs, inbs, hB, hM, r1, r74, rq, rr, c8, c66, kin, iq, i75, a6, isy, e22, k76, k77, j0, jx, n0]
    refine c_stT_1 hc2 hK2 rr lk2 kf hu bA (fun h L3 g3 => ?_) (fun h L3 g3 => ?_)
    · simp [S66_0, S66_1, S66_2, S133_0, S133_1, S133_2, BS, ixs, inbs, hB, hM, r1, r74, rq, rr, c8, c66, kin, iq, i75, a6, isy, e22, k76, k77, j0, jx, n0]
      refine m_stT_1 hr2 kd2 hu bA (fun h' L4 g4 => ?_) (fun h' => absurd h h')
      simp [S66_0, S66_1, S66_2, S133_0, S133_1, S133_2, BS, ixs, inbs, hB, hM, r1, r74, rq, rr, c8, c66, kin, iq, i75, a6, isy, e22, k76, k77, j0, jx, n0]
      exact fin L3 L4 (fun c hc => g3 c (by omega) (by omega)) (fun c hc => g4 c (by omega) (by omega) (by omega))
    · simp [S66_0, S66_1, S66_2, S133_0, S133_1, S133_2, BS, ixs, inbs, hB, hM, r1, r74, rq, rr, c8, c66, kin, iq, i75, a6, isy, e22, k76, k77, j0, jx, n0]
      refine m_stT_1 hr2 kd2 hu bA (fun h' => absurd h' h) (fun h' L4 g4 => ?_)
      simp [S66_0, S66_1, S66_2, S133_0, S133_1, S133_2, BS, ixs, inbs, hB, hM, r1, r74, rq, rr, c8, c66, kin, iq, i75, a6, isy, e22, k76, k77, j0, jx, n0]
      exact fin L3 L4 (fun c hc => g3 c (by omega) (by omega)) (fun c hc => g4 c (by omega) (by omega) (by omega))
  by_cases w4 : wh = 4
  · subst w4
    simp [S66_0, S66_1, S66_2, S133_0, S133_1, S133_2, BS, ixs, inbs, hB, hM, r1, r74, rq, rr, c8, c66, kin, iq, i75, a6, isy, e22, k76, k77, j0, jx, n0]
    refine c_reached hc2 hK2 rr lk2 bA bB (fun r h1 h2 => ?_)
    simp [S66_0, S66_1, S66_2, S133_0, S133_1, S133_2, BS, ixs, inbs, hB, hM, r1, r74, rq, rr, c8, c66, kin, iq, i75, a6, isy, e22, k76, k77, j0, jx, n0]
    refine m_reached hr2 bA bB (fun r' h1' h2' L4 g4 => ?_)
    have er := h2.uniq h2'
    subst er
    simp [S66_0, S66_1, S66_2, S133_0, S133_1, S133_2, BS, ixs, inbs, hB, hM, r1, r74, rq, rr, c8, c66, kin, iq, i75, a6, isy, e22, k76, k77, j0, jx, n0]
    exact fin L2 L4 (fun _ _ => rfl) (fun c hc => g4 c (by omega) (by omega) (by omega))
  by_cases w5 : wh = 5
  · subst w5
    simp [S66_0, S66_1, S66_2, S133_0, S133_1, S133_2, BS, ixs, inbs, hB, hM, r1, r74, rq, rr, c8, c66, kin, iq, i75, a6, isy, e22, k76, k77, j0, jx, n0]
    refine c_seen hc2 hK2 rr lk2 bA bK (fun r h1 h2 => ?_)
    simp [S66_0, S66_1, S66_2, S133_0, S133_1, S133_2, BS, ixs, inbs, hB, hM, r1, r74, rq, rr, c8, c66, kin, iq, i75, a6, isy, e22, k76, k77, j0, jx, n0]
    refine m_seen_1 hr2 bA bK (fun r' h1' h2' L4 g4 => ?_)
    have er := h2.uniq h2'
    subst er
    simp [S66_0, S66_1, S66_2, S133_0, S133_1, S133_2, BS, ixs, inbs, hB, hM, r1, r74, rq, rr, c8, c66, kin, iq, i75, a6, isy, e22, k76, k77, j0, jx, n0]
    exact fin L2 L4 (fun _ _ => rfl) (fun c hc => g4 c (by omega) (by omega) (by omega))
  by_cases w6 : wh = 6
  · subst w6
    simp [S66_0, S66_1, S66_2, S133_0, S133_1, S133_2, BS, ixs, inbs, hB, hM, r1, r74, rq, rr, c8, c66, kin, iq, i75, a6, isy, e22, k76, k77, j0, jx, n0]
    refine c_least hc2 hK2 rr lk2 bA bB bK (fun r h1 h2 L3 g3 => ?_)
    simp [S66_0, S66_1, S66_2, S133_0, S133_1, S133_2, BS, ixs, inbs, hB, hM, r1, r74, rq, rr, c8, c66, kin, iq, i75, a6, isy, e22, k76, k77, j0, jx, n0]
    refine m_least_1 hr2 bA bB bK trivial (fun r' h1' h2' L4 g4 => ?_)
    have er := h2.uniq h2'
    subst er
    simp [S66_0, S66_1, S66_2, S133_0, S133_1, S133_2, BS, ixs, inbs, hB, hM, r1, r74, rq, rr, c8, c66, kin, iq, i75, a6, isy, e22, k76, k77, j0, jx, n0]
    exact fin L3 L4 (fun c hc => g3 c (by omega)) (fun c hc => g4 c (by omega) (by omega) (by omega))
  by_cases w7 : wh = 7
  · subst w7
    by_cases d0 : eD false 1 (I q 2).toInt (fun i => (I (q + 1) i).toInt) = 0
    · have t5 : I1 66 5 = 0 := by rw [v5.2, if_pos d0]
      simp [S66_0, S66_1, S66_2, S133_0, S133_1, S133_2, BS, ixs, inbs, hB, hM, r1, r74, rq, rr, c8, c66, kin, iq, i75, a6, isy, e22, k76, k77, j0, jx, n0, t5]
      refine m_has_1t hr2 kd2 hu bA (fun L4 g4 _ => ?_)
      rw [if_pos d0]
      simp [S66_0, S66_1, S66_2, S133_0, S133_1, S133_2, BS, ixs, inbs, hB, hM, r1, r74, rq, rr, c8, c66, kin, iq, i75, a6, isy, e22, k76, k77, j0, jx, n0]
      exact fin L2 L4 (fun _ _ => rfl) (fun c hc => g4 c (by omega) (by omega) (by omega))
    · have t5 : I1 66 5 = 1 := by rw [v5.2, if_neg d0]
      simp [S66_0, S66_1, S66_2, S133_0, S133_1, S133_2, BS, ixs, inbs, hB, hM, r1, r74, rq, rr, c8, c66, kin, iq, i75, a6, isy, e22, k76, k77, j0, jx, n0, t5]
      refine m_has_1t hr2 kd2 hu bA (fun L4 g4 _ => ?_)
      rw [if_neg d0]
      simp [S66_0, S66_1, S66_2, S133_0, S133_1, S133_2, BS, ixs, inbs, hB, hM, r1, r74, rq, rr, c8, c66, kin, iq, i75, a6, isy, e22, k76, k77, j0, jx, n0]
      exact fin L2 L4 (fun _ _ => rfl) (fun c hc => g4 c (by omega) (by omega) (by omega))
  simp [S66_0, S66_1, S66_2, S133_0, S133_1, S133_2, BS, ixs, inbs, hB, hM, r1, r74, rq, rr, c8, c66, kin, iq, i75, a6, isy, e22, k76, k77, j0, jx, n0, w0, w1, w2, w3, w4, w5, w6, w7, fin0]
