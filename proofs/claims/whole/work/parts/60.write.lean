set_option maxRecDepth 100000 in
set_option maxHeartbeats 8000000 in
theorem wr_no_1t {n sl : Nat} {C Z : Nat → Nat} {I : Nat → Nat → Int32} {L : Nat → Nat → Int64} {R : Nat → Nat → Nat} {M rn t j q : Nat} (h7 : Inv7 n C Z I L R M rn t) (hj : j < M) (hq : MOK n C Z I R j q 1) (kf : isa (C q) 1 = false) (kd : ¬ I 75 j = 1) (d0 : (eD false 1 (I q 2).toInt (fun i => (I (q + 1) i).toInt)) = 0) : Two 75 146 [some (.ref 1), some (.int (nI j)), none] [some (.ref 74), some (.int (nI j)), none] (n, sl, C, Z, I, L, R) := by
  obtain ⟨hM12, hn98, ⟨hB, hK, hO, hE, hM⟩, ⟨e1, e2⟩, -⟩ := id h7
  have hB' := hB
  have hM' := hM
  unfold LayB at hB
  unfold LayM at hM
  have hE' := hE
  unfold LayE at hE'
  unfold Two
  obtain ⟨a1, a2, -⟩ := id hq
  have hq0 : ¬ q = 0 := by omega
  have hc := hq.cm
  have c73 : C 73 = 3 := by simp [hB]
  have kin : inG 7 (C q) = true := hc.1.1
  have a6 : I q 1 = nI 1 := hc.1.2.2.2.2.1
  have hu := hq.un
  have bA := hq.bns.1
  have zA := (hq.rm hM' (by omega)).2.2.2.2.2.2.2.2.2.1
  have n0 : nI 1 = 1 := rfl
  simp [S75_0, S75_1, S87_0, at_yesG hB' hM12 hj, Call_in (k2 := 87), BS, ixs, inbs, le_nlt, hB, hE', e1, a1, hq0, kin, a6, n0]
  refine c_eFill_1t hc hE kf hu bA zA (fun L1 I1 fL fI v3 v5 => ?_)
  have iq : I1 q = I q := fI q (by omega)
  have i1 : I1 1 = I 1 := fI 1 (by omega)
  have e2' : I1 74 0 = nI M := by rw [fI 74 (by omega)]; exact e2
  have kd' : ¬ I1 75 j = 1 := by rw [fI 75 (by omega)]; exact kd
  have hr' := (hq.rm hM' (by omega)).keep (R' := R) (I' := I1) hM' (fun i h1 h2 => fI i (by omega))
  have k76 : I1 76 j = nI 1 := hr'.2.2.2.1
  have isy := is_yesG hM' hM12 hj n sl I1
  have j0 : inb (nI j) 12 = true := by rw [inb_nI (by omega)]; simp; omega
  have jx := ix_nI (show j < 2 ^ 31 by omega)
  have tn : I1 66 5 = 0 := by rw [v5.2, if_pos d0]
  simp [S75_0, S75_1, S146_0, S146_1, BS, ixs, inbs, le_nlt, hB, hE', hM, i1, tn, isy, e2']
  refine m_has_1t hr' kd' hu bA (fun L2 f2 _ => ?_)
  rw [if_pos d0]
  have fin : Inv (n, sl, C, Z, I1, L2, R) := Inv_mk (h7.scr (fun i hi => by rw [f2 i (by omega) (by omega) (by omega)]; exact fL i (by omega)) (fun i hi => fI i (by omega)) ⟨by rw [fI 74 (by omega)], by rw [fI 74 (by omega)], by rw [fI 74 (by omega)]⟩ (fun _ _ _ _ => rfl))
  simp [S146_0, S146_1, BS, ixs, inbs, fin]
set_option maxRecDepth 100000 in
set_option maxHeartbeats 8000000 in
theorem wr_no_2t {n sl : Nat} {C Z : Nat → Nat} {I : Nat → Nat → Int32} {L : Nat → Nat → Int64} {R : Nat → Nat → Nat} {M rn t j q : Nat} (h7 : Inv7 n C Z I L R M rn t) (hj : j < M) (hq : MOK n C Z I R j q 2) (kf : isa (C q) 1 = false) (kd : ¬ I 75 j = 1) (d0 : (eD false 2 (I q 2).toInt (fun i => (I (q + 1) i).toInt)) = 0) : Two 75 146 [some (.ref 1), some (.int (nI j)), none] [some (.ref 74), some (.int (nI j)), none] (n, sl, C, Z, I, L, R) := by
  obtain ⟨hM12, hn98, ⟨hB, hK, hO, hE, hM⟩, ⟨e1, e2⟩, -⟩ := id h7
  have hB' := hB
  have hM' := hM
  unfold LayB at hB
  unfold LayM at hM
  have hE' := hE
  unfold LayE at hE'
  unfold Two
  obtain ⟨a1, a2, -⟩ := id hq
  have hq0 : ¬ q = 0 := by omega
  have hc := hq.cm
  have c73 : C 73 = 3 := by simp [hB]
  have kin : inG 7 (C q) = true := hc.1.1
  have a6 : I q 1 = nI 2 := hc.1.2.2.2.2.1
  have hu := hq.un
  have bA := hq.bns.1
  have zA := (hq.rm hM' (by omega)).2.2.2.2.2.2.2.2.2.1
  have n0 : nI 2 = 2 := rfl
  simp [S75_0, S75_1, S87_0, at_yesG hB' hM12 hj, Call_in (k2 := 87), BS, ixs, inbs, le_nlt, hB, hE', e1, a1, hq0, kin, a6, n0]
  refine c_eFill_2t hc hE kf hu bA zA (fun L1 I1 fL fI v3 v5 => ?_)
  have iq : I1 q = I q := fI q (by omega)
  have i1 : I1 1 = I 1 := fI 1 (by omega)
  have e2' : I1 74 0 = nI M := by rw [fI 74 (by omega)]; exact e2
  have kd' : ¬ I1 75 j = 1 := by rw [fI 75 (by omega)]; exact kd
  have hr' := (hq.rm hM' (by omega)).keep (R' := R) (I' := I1) hM' (fun i h1 h2 => fI i (by omega))
  have k76 : I1 76 j = nI 2 := hr'.2.2.2.1
  have isy := is_yesG hM' hM12 hj n sl I1
  have j0 : inb (nI j) 12 = true := by rw [inb_nI (by omega)]; simp; omega
  have jx := ix_nI (show j < 2 ^ 31 by omega)
  have tn : I1 66 5 = 0 := by rw [v5.2, if_pos d0]
  simp [S75_0, S75_1, S146_0, S146_1, BS, ixs, inbs, le_nlt, hB, hE', hM, i1, tn, isy, e2']
  refine m_has_2t hr' kd' hu bA (fun L2 f2 _ => ?_)
  rw [if_pos d0]
  have fin : Inv (n, sl, C, Z, I1, L2, R) := Inv_mk (h7.scr (fun i hi => by rw [f2 i (by omega) (by omega) (by omega)]; exact fL i (by omega)) (fun i hi => fI i (by omega)) ⟨by rw [fI 74 (by omega)], by rw [fI 74 (by omega)], by rw [fI 74 (by omega)]⟩ (fun _ _ _ _ => rfl))
  simp [S146_0, S146_1, BS, ixs, inbs, fin]
set_option maxRecDepth 100000 in
set_option maxHeartbeats 8000000 in
theorem wr_no_3t {n sl : Nat} {C Z : Nat → Nat} {I : Nat → Nat → Int32} {L : Nat → Nat → Int64} {R : Nat → Nat → Nat} {M rn t j q : Nat} (h7 : Inv7 n C Z I L R M rn t) (hj : j < M) (hq : MOK n C Z I R j q 3) (kf : isa (C q) 1 = false) (kd : ¬ I 75 j = 1) : Two 75 146 [some (.ref 1), some (.int (nI j)), none] [some (.ref 74), some (.int (nI j)), none] (n, sl, C, Z, I, L, R) := by
  obtain ⟨hM12, hn98, ⟨hB, hK, hO, hE, hM⟩, ⟨e1, e2⟩, -⟩ := id h7
  have hB' := hB
  have hM' := hM
  unfold LayB at hB
  unfold LayM at hM
  have hE' := hE
  unfold LayE at hE'
  unfold Two
  obtain ⟨a1, a2, -⟩ := id hq
  have hq0 : ¬ q = 0 := by omega
  have hc := hq.cm
  have c73 : C 73 = 3 := by simp [hB]
  have kin : inG 7 (C q) = true := hc.1.1
  have a6 : I q 1 = nI 3 := hc.1.2.2.2.2.1
  have hu := hq.un
  have bA := hq.bns.1
  have zA := (hq.rm hM' (by omega)).2.2.2.2.2.2.2.2.2.1
  have n0 : nI 3 = 3 := rfl
  simp [S75_0, S75_1, S87_0, at_yesG hB' hM12 hj, Call_in (k2 := 87), BS, ixs, inbs, le_nlt, hB, hE', e1, a1, hq0, kin, a6, n0]
  refine c_eAt3 hc hE (fun I1 fI v4 v5 => ?_)
  have fL : ∀ c, c < 66 ∨ 72 < c → L c = L c := fun _ _ => rfl
  have iq : I1 q = I q := fI q (by omega)
  have i1 : I1 1 = I 1 := fI 1 (by omega)
  have e2' : I1 74 0 = nI M := by rw [fI 74 (by omega)]; exact e2
  have kd' : ¬ I1 75 j = 1 := by rw [fI 75 (by omega)]; exact kd
  have hr' := (hq.rm hM' (by omega)).keep (R' := R) (I' := I1) hM' (fun i h1 h2 => fI i (by omega))
  have k76 : I1 76 j = nI 3 := hr'.2.2.2.1
  have isy := is_yesG hM' hM12 hj n sl I1
  have j0 : inb (nI j) 12 = true := by rw [inb_nI (by omega)]; simp; omega
  have jx := ix_nI (show j < 2 ^ 31 by omega)
  have tn : I1 66 5 = 0 := v5
  simp [S75_0, S75_1, S146_0, S146_1, BS, ixs, inbs, le_nlt, hB, hE', hM, i1, tn, isy, e2']
  refine m_has_3t hr' kd' hu bA (fun L2 f2 _ => ?_)
  have fin : Inv (n, sl, C, Z, I1, L2, R) := Inv_mk (h7.scr (fun i hi => by rw [f2 i (by omega) (by omega) (by omega)]) (fun i hi => fI i (by omega)) ⟨by rw [fI 74 (by omega)], by rw [fI 74 (by omega)], by rw [fI 74 (by omega)]⟩ (fun _ _ _ _ => rfl))
  simp [S146_0, S146_1, BS, ixs, inbs, fin]
set_option maxRecDepth 100000 in
set_option maxHeartbeats 8000000 in
theorem wr_yes_0t {n sl : Nat} {C Z : Nat → Nat} {I : Nat → Nat → Int32} {L : Nat → Nat → Int64} {R : Nat → Nat → Nat} {M rn t j q : Nat} (h7 : Inv7 n C Z I L R M rn t) (hj : j < M) (hq : MOK n C Z I R j q 0) (kf : isa (C q) 1 = false) (kd : ¬ I 75 j = 1) (d0 : ¬ (eD false 0 (I q 2).toInt (fun i => (I (q + 1) i).toInt)) = 0) : Two 75 146 [some (.ref 1), some (.int (nI j)), none] [some (.ref 74), some (.int (nI j)), none] (n, sl, C, Z, I, L, R) := by
  obtain ⟨hM12, hn98, ⟨hB, hK, hO, hE, hM⟩, ⟨e1, e2⟩, -⟩ := id h7
  have hB' := hB
  have hM' := hM
  unfold LayB at hB
  unfold LayM at hM
  have hE' := hE
  unfold LayE at hE'
  unfold Two
  obtain ⟨a1, a2, -⟩ := id hq
  have hq0 : ¬ q = 0 := by omega
  have hc := hq.cm
  have c73 : C 73 = 3 := by simp [hB]
  have kin : inG 7 (C q) = true := hc.1.1
  have a6 : I q 1 = nI 0 := hc.1.2.2.2.2.1
  have hu := hq.un
  have bA := hq.bns.1
  have zA := (hq.rm hM' (by omega)).2.2.2.2.2.2.2.2.2.1
  have n0 : nI 0 = 0 := rfl
  simp [S75_0, S75_1, S87_0, at_yesG hB' hM12 hj, Call_in (k2 := 87), BS, ixs, inbs, le_nlt, hB, hE', e1, a1, hq0, kin, a6, n0]
  refine c_eFill_0t hc hE kf hu bA zA (fun L1 I1 fL fI v3 v5 => ?_)
  have iq : I1 q = I q := fI q (by omega)
  have i1 : I1 1 = I 1 := fI 1 (by omega)
  have e2' : I1 74 0 = nI M := by rw [fI 74 (by omega)]; exact e2
  have kd' : ¬ I1 75 j = 1 := by rw [fI 75 (by omega)]; exact kd
  have hr' := (hq.rm hM' (by omega)).keep (R' := R) (I' := I1) hM' (fun i h1 h2 => fI i (by omega))
  have k76 : I1 76 j = nI 0 := hr'.2.2.2.1
  have isy := is_yesG hM' hM12 hj n sl I1
  have j0 : inb (nI j) 12 = true := by rw [inb_nI (by omega)]; simp; omega
  have jx := ix_nI (show j < 2 ^ 31 by omega)
  have tn : I1 66 5 = 1 := by rw [v5.2, if_neg d0]
  have hc1 : CM C Z I1 R q 0 (I q 2) _ _ _ _ := hc.keep (fun i hi => fI i (by omega)) (fun _ _ => rfl)
  simp [S75_0, S75_1, BS, ixs, inbs, le_nlt, hB, hE', i1, tn]
  refine c_prf_0t (tt := 3) hc1 hB' hE (by simp [hB]) (by simp [hB]) (Or.inl rfl) v3.1 v3.2 d0 hu bA (fun L2 f2 p2 => ?_)
  have hr2 : RM C Z (u2 I1 1 4 1) R j 0 (I q 2) _ _ _ _ := hr'.keep hM' (fun i h1 h2 => u2_ne _ _ _ (by omega))
  have kd2 : ¬ u2 I1 1 4 1 75 j = 1 := by rw [u2_ne _ _ _ (by omega)]; exact kd'
  have e22 : u2 I1 1 4 1 74 0 = nI M := by rw [u2_ne _ _ _ (by omega)]; exact e2'
  have isy2 := is_yesG hM' hM12 hj n sl (u2 I1 1 4 1)
  simp [S75_0, S75_1, S146_0, S146_1, BS, ixs, inbs, hB, hM, isy2, e22, u2_rd]
  refine m_has_0t hr2 kd2 hu bA (fun L3 f3 _ => ?_)
  simp [S146_0, S146_1, BS, ixs, inbs, hM]
  refine m_wr_0t hr2 kd2 hM12 hj e22 hu bA d0 (fun L4 I4 f4 g4 p4 q4 v4 => ?_)
  simp [S146_0, S146_1, BS, ixs, inbs, hM, q4, u2_rd]
  refine Inv_mk (h7.rows (rn' := 1) (fun i hi => ?_) (fun i hi => ?_) ⟨?_, ?_, ?_⟩ ⟨by omega, ?_, ?_, fun i hi => ?_⟩)
  · repeat (first | rw [u2_ne _ _ _ (by omega)])
    rw [f4 i (by omega) (by omega) (by omega) (by omega) (by omega), f3 i (by omega) (by omega) (by omega), f2 i (by omega) (by omega)]
    exact fL i (by omega)
  · rw [u2_ne _ _ _ (by omega), g4 i (by omega), u2_ne _ _ _ (by omega)]
    exact fI i (by omega)
  · rw [u2_ne _ _ _ (by omega), g4 1 (by omega)]
    simp [u2_rd, i1]
  · simp [u2_rd, p4, fI 74]
  · simp [u2_rd, p4, fI 74]
  · rw [u2_ne _ _ _ (by omega), g4 1 (by omega)]
    simp [u2_rd]
    rfl
  · simp [u2_rd]
    rfl
  · have l3 : L4 3 = L2 3 := by rw [f4 3 (by omega) (by omega) (by omega) (by omega) (by omega), f3 3 (by omega) (by omega) (by omega)]
    have e := p2 i hi
    have e' := v4 i hi
    rcases (by omega : i = 0) with rfl <;> simp [u2_rd, l3, e, e']
set_option maxRecDepth 100000 in
set_option maxHeartbeats 8000000 in
theorem wr_yes_1t {n sl : Nat} {C Z : Nat → Nat} {I : Nat → Nat → Int32} {L : Nat → Nat → Int64} {R : Nat → Nat → Nat} {M rn t j q : Nat} (h7 : Inv7 n C Z I L R M rn t) (hj : j < M) (hq : MOK n C Z I R j q 1) (kf : isa (C q) 1 = false) (kd : ¬ I 75 j = 1) (d0 : ¬ (eD false 1 (I q 2).toInt (fun i => (I (q + 1) i).toInt)) = 0) : Two 75 146 [some (.ref 1), some (.int (nI j)), none] [some (.ref 74), some (.int (nI j)), none] (n, sl, C, Z, I, L, R) := by
  obtain ⟨hM12, hn98, ⟨hB, hK, hO, hE, hM⟩, ⟨e1, e2⟩, -⟩ := id h7
  have hB' := hB
  have hM' := hM
  unfold LayB at hB
  unfold LayM at hM
  have hE' := hE
  unfold LayE at hE'
  unfold Two
  obtain ⟨a1, a2, -⟩ := id hq
  have hq0 : ¬ q = 0 := by omega
  have hc := hq.cm
  have c73 : C 73 = 3 := by simp [hB]
  have kin : inG 7 (C q) = true := hc.1.1
  have a6 : I q 1 = nI 1 := hc.1.2.2.2.2.1
  have hu := hq.un
  have bA := hq.bns.1
  have zA := (hq.rm hM' (by omega)).2.2.2.2.2.2.2.2.2.1
  have n0 : nI 1 = 1 := rfl
  simp [S75_0, S75_1, S87_0, at_yesG hB' hM12 hj, Call_in (k2 := 87), BS, ixs, inbs, le_nlt, hB, hE', e1, a1, hq0, kin, a6, n0]
  refine c_eFill_1t hc hE kf hu bA zA (fun L1 I1 fL fI v3 v5 => ?_)
  have iq : I1 q = I q := fI q (by omega)
  have i1 : I1 1 = I 1 := fI 1 (by omega)
  have e2' : I1 74 0 = nI M := by rw [fI 74 (by omega)]; exact e2
  have kd' : ¬ I1 75 j = 1 := by rw [fI 75 (by omega)]; exact kd
  have hr' := (hq.rm hM' (by omega)).keep (R' := R) (I' := I1) hM' (fun i h1 h2 => fI i (by omega))
  have k76 : I1 76 j = nI 1 := hr'.2.2.2.1
  have isy := is_yesG hM' hM12 hj n sl I1
  have j0 : inb (nI j) 12 = true := by rw [inb_nI (by omega)]; simp; omega
  have jx := ix_nI (show j < 2 ^ 31 by omega)
  have tn : I1 66 5 = 1 := by rw [v5.2, if_neg d0]
  have hc1 : CM C Z I1 R q 1 (I q 2) _ _ _ _ := hc.keep (fun i hi => fI i (by omega)) (fun _ _ => rfl)
  simp [S75_0, S75_1, BS, ixs, inbs, le_nlt, hB, hE', i1, tn]
  refine c_prf_1t (tt := 3) hc1 hB' hE (by simp [hB]) (by simp [hB]) (Or.inl rfl) v3.1 v3.2 d0 hu bA (fun L2 f2 p2 => ?_)
  have hr2 : RM C Z (u2 I1 1 4 4) R j 1 (I q 2) _ _ _ _ := hr'.keep hM' (fun i h1 h2 => u2_ne _ _ _ (by omega))
  have kd2 : ¬ u2 I1 1 4 4 75 j = 1 := by rw [u2_ne _ _ _ (by omega)]; exact kd'
  have e22 : u2 I1 1 4 4 74 0 = nI M := by rw [u2_ne _ _ _ (by omega)]; exact e2'
  have isy2 := is_yesG hM' hM12 hj n sl (u2 I1 1 4 4)
  simp [S75_0, S75_1, S146_0, S146_1, BS, ixs, inbs, hB, hM, isy2, e22, u2_rd]
  refine m_has_1t hr2 kd2 hu bA (fun L3 f3 _ => ?_)
  rw [if_neg d0]
  simp [S146_0, S146_1, BS, ixs, inbs, hM]
  refine m_wr_1t hr2 kd2 hM12 hj e22 hu bA d0 (fun L4 I4 f4 g4 p4 q4 v4 => ?_)
  simp [S146_0, S146_1, BS, ixs, inbs, hM, q4, u2_rd]
  refine Inv_mk (h7.rows (rn' := 4) (fun i hi => ?_) (fun i hi => ?_) ⟨?_, ?_, ?_⟩ ⟨by omega, ?_, ?_, fun i hi => ?_⟩)
  · repeat (first | rw [u2_ne _ _ _ (by omega)])
    rw [f4 i (by omega) (by omega) (by omega) (by omega) (by omega), f3 i (by omega) (by omega) (by omega), f2 i (by omega) (by omega)]
    exact fL i (by omega)
  · rw [u2_ne _ _ _ (by omega), g4 i (by omega), u2_ne _ _ _ (by omega)]
    exact fI i (by omega)
  · rw [u2_ne _ _ _ (by omega), g4 1 (by omega)]
    simp [u2_rd, i1]
  · simp [u2_rd, p4, fI 74]
  · simp [u2_rd, p4, fI 74]
  · rw [u2_ne _ _ _ (by omega), g4 1 (by omega)]
    simp [u2_rd]
    rfl
  · simp [u2_rd]
    rfl
  · have l3 : L4 3 = L2 3 := by rw [f4 3 (by omega) (by omega) (by omega) (by omega) (by omega), f3 3 (by omega) (by omega) (by omega)]
    have e := p2 i hi
    have e' := v4 i hi
    rcases (by omega : i = 0 ∨ i = 1 ∨ i = 2 ∨ i = 3) with rfl | rfl | rfl | rfl <;> simp [u2_rd, l3, e, e']
set_option maxRecDepth 100000 in
set_option maxHeartbeats 8000000 in
theorem wr_yes_2t {n sl : Nat} {C Z : Nat → Nat} {I : Nat → Nat → Int32} {L : Nat → Nat → Int64} {R : Nat → Nat → Nat} {M rn t j q : Nat} (h7 : Inv7 n C Z I L R M rn t) (hj : j < M) (hq : MOK n C Z I R j q 2) (kf : isa (C q) 1 = false) (kd : ¬ I 75 j = 1) (d0 : ¬ (eD false 2 (I q 2).toInt (fun i => (I (q + 1) i).toInt)) = 0) : Two 75 146 [some (.ref 1), some (.int (nI j)), none] [some (.ref 74), some (.int (nI j)), none] (n, sl, C, Z, I, L, R) := by
  obtain ⟨hM12, hn98, ⟨hB, hK, hO, hE, hM⟩, ⟨e1, e2⟩, -⟩ := id h7
  have hB' := hB
  have hM' := hM
  unfold LayB at hB
  unfold LayM at hM
  have hE' := hE
  unfold LayE at hE'
  unfold Two
  obtain ⟨a1, a2, -⟩ := id hq
  have hq0 : ¬ q = 0 := by omega
  have hc := hq.cm
  have c73 : C 73 = 3 := by simp [hB]
  have kin : inG 7 (C q) = true := hc.1.1
  have a6 : I q 1 = nI 2 := hc.1.2.2.2.2.1
  have hu := hq.un
  have bA := hq.bns.1
  have zA := (hq.rm hM' (by omega)).2.2.2.2.2.2.2.2.2.1
  have n0 : nI 2 = 2 := rfl
  simp [S75_0, S75_1, S87_0, at_yesG hB' hM12 hj, Call_in (k2 := 87), BS, ixs, inbs, le_nlt, hB, hE', e1, a1, hq0, kin, a6, n0]
  refine c_eFill_2t hc hE kf hu bA zA (fun L1 I1 fL fI v3 v5 => ?_)
  have iq : I1 q = I q := fI q (by omega)
  have i1 : I1 1 = I 1 := fI 1 (by omega)
  have e2' : I1 74 0 = nI M := by rw [fI 74 (by omega)]; exact e2
  have kd' : ¬ I1 75 j = 1 := by rw [fI 75 (by omega)]; exact kd
  have hr' := (hq.rm hM' (by omega)).keep (R' := R) (I' := I1) hM' (fun i h1 h2 => fI i (by omega))
  have k76 : I1 76 j = nI 2 := hr'.2.2.2.1
  have isy := is_yesG hM' hM12 hj n sl I1
  have j0 : inb (nI j) 12 = true := by rw [inb_nI (by omega)]; simp; omega
  have jx := ix_nI (show j < 2 ^ 31 by omega)
  have tn : I1 66 5 = 1 := by rw [v5.2, if_neg d0]
  have hc1 : CM C Z I1 R q 2 (I q 2) _ _ _ _ := hc.keep (fun i hi => fI i (by omega)) (fun _ _ => rfl)
  simp [S75_0, S75_1, BS, ixs, inbs, le_nlt, hB, hE', i1, tn]
  refine c_prf_2t (tt := 3) hc1 hB' hE (by simp [hB]) (by simp [hB]) (Or.inl rfl) v3.1 v3.2 d0 hu bA (fun L2 f2 p2 => ?_)
  have hr2 : RM C Z (u2 I1 1 4 11) R j 2 (I q 2) _ _ _ _ := hr'.keep hM' (fun i h1 h2 => u2_ne _ _ _ (by omega))
  have kd2 : ¬ u2 I1 1 4 11 75 j = 1 := by rw [u2_ne _ _ _ (by omega)]; exact kd'
  have e22 : u2 I1 1 4 11 74 0 = nI M := by rw [u2_ne _ _ _ (by omega)]; exact e2'
  have isy2 := is_yesG hM' hM12 hj n sl (u2 I1 1 4 11)
  simp [S75_0, S75_1, S146_0, S146_1, BS, ixs, inbs, hB, hM, isy2, e22, u2_rd]
  refine m_has_2t hr2 kd2 hu bA (fun L3 f3 _ => ?_)
  rw [if_neg d0]
  simp [S146_0, S146_1, BS, ixs, inbs, hM]
  refine m_wr_2t hr2 kd2 hM12 hj e22 hu bA d0 (fun L4 I4 f4 g4 p4 q4 v4 => ?_)
  simp [S146_0, S146_1, BS, ixs, inbs, hM, q4, u2_rd]
  refine Inv_mk (h7.rows (rn' := 11) (fun i hi => ?_) (fun i hi => ?_) ⟨?_, ?_, ?_⟩ ⟨by omega, ?_, ?_, fun i hi => ?_⟩)
  · repeat (first | rw [u2_ne _ _ _ (by omega)])
    rw [f4 i (by omega) (by omega) (by omega) (by omega) (by omega), f3 i (by omega) (by omega) (by omega), f2 i (by omega) (by omega)]
    exact fL i (by omega)
  · rw [u2_ne _ _ _ (by omega), g4 i (by omega), u2_ne _ _ _ (by omega)]
    exact fI i (by omega)
  · rw [u2_ne _ _ _ (by omega), g4 1 (by omega)]
    simp [u2_rd, i1]
  · simp [u2_rd, p4, fI 74]
  · simp [u2_rd, p4, fI 74]
  · rw [u2_ne _ _ _ (by omega), g4 1 (by omega)]
    simp [u2_rd]
    rfl
  · simp [u2_rd]
    rfl
  · have l3 : L4 3 = L2 3 := by rw [f4 3 (by omega) (by omega) (by omega) (by omega) (by omega), f3 3 (by omega) (by omega) (by omega)]
    have e := p2 i hi
    have e' := v4 i hi
    rcases (by omega : i = 0 ∨ i = 1 ∨ i = 2 ∨ i = 3 ∨ i = 4 ∨ i = 5 ∨ i = 6 ∨ i = 7 ∨ i = 8 ∨ i = 9 ∨ i = 10) with rfl | rfl | rfl | rfl | rfl | rfl | rfl | rfl | rfl | rfl | rfl <;> simp [u2_rd, l3, e, e']
set_option maxRecDepth 100000 in
set_option maxHeartbeats 8000000 in
theorem wr_no_1f {n sl : Nat} {C Z : Nat → Nat} {I : Nat → Nat → Int32} {L : Nat → Nat → Int64} {R : Nat → Nat → Nat} {M rn t j q : Nat} (h7 : Inv7 n C Z I L R M rn t) (hj : j < M) (hq : MOK n C Z I R j q 1) (kf : isa (C q) 1 = true) (kd : I 75 j = 1) (d0 : (eD true 1 (I q 2).toInt (fun i => (I (q + 1) i).toInt)) = 0) : Two 75 146 [some (.ref 1), some (.int (nI j)), none] [some (.ref 74), some (.int (nI j)), none] (n, sl, C, Z, I, L, R) := by
  obtain ⟨hM12, hn98, ⟨hB, hK, hO, hE, hM⟩, ⟨e1, e2⟩, -⟩ := id h7
  have hB' := hB
  have hM' := hM
  unfold LayB at hB
  unfold LayM at hM
  have hE' := hE
  unfold LayE at hE'
  unfold Two
  obtain ⟨a1, a2, -⟩ := id hq
  have hq0 : ¬ q = 0 := by omega
  have hc := hq.cm
  have c73 : C 73 = 3 := by simp [hB]
  have kin : inG 7 (C q) = true := hc.1.1
  have a6 : I q 1 = nI 1 := hc.1.2.2.2.2.1
  have hu := hq.un
  have bA := hq.bns.1
  have zA := (hq.rm hM' (by omega)).2.2.2.2.2.2.2.2.2.1
  have n0 : nI 1 = 1 := rfl
  simp [S75_0, S75_1, S87_0, at_yesG hB' hM12 hj, Call_in (k2 := 87), BS, ixs, inbs, le_nlt, hB, hE', e1, a1, hq0, kin, a6, n0]
  refine c_eFill_1f hc hE kf hu bA zA (fun L1 I1 fL fI v3 v5 => ?_)
  have iq : I1 q = I q := fI q (by omega)
  have i1 : I1 1 = I 1 := fI 1 (by omega)
  have e2' : I1 74 0 = nI M := by rw [fI 74 (by omega)]; exact e2
  have kd' : I1 75 j = 1 := by rw [fI 75 (by omega)]; exact kd
  have hr' := (hq.rm hM' (by omega)).keep (R' := R) (I' := I1) hM' (fun i h1 h2 => fI i (by omega))
  have k76 : I1 76 j = nI 1 := hr'.2.2.2.1
  have isy := is_yesG hM' hM12 hj n sl I1
  have j0 : inb (nI j) 12 = true := by rw [inb_nI (by omega)]; simp; omega
  have jx := ix_nI (show j < 2 ^ 31 by omega)
  have tn : I1 66 5 = 0 := by rw [v5.2, if_pos d0]
  simp [S75_0, S75_1, S146_0, S146_1, BS, ixs, inbs, le_nlt, hB, hE', hM, i1, tn, isy, e2']
  refine m_has_1f hr' kd' hu bA (fun L2 f2 _ => ?_)
  rw [if_pos d0]
  have fin : Inv (n, sl, C, Z, I1, L2, R) := Inv_mk (h7.scr (fun i hi => by rw [f2 i (by omega) (by omega) (by omega)]; exact fL i (by omega)) (fun i hi => fI i (by omega)) ⟨by rw [fI 74 (by omega)], by rw [fI 74 (by omega)], by rw [fI 74 (by omega)]⟩ (fun _ _ _ _ => rfl))
  simp [S146_0, S146_1, BS, ixs, inbs, fin]
set_option maxRecDepth 100000 in
set_option maxHeartbeats 8000000 in
theorem wr_no_2f {n sl : Nat} {C Z : Nat → Nat} {I : Nat → Nat → Int32} {L : Nat → Nat → Int64} {R : Nat → Nat → Nat} {M rn t j q : Nat} (h7 : Inv7 n C Z I L R M rn t) (hj : j < M) (hq : MOK n C Z I R j q 2) (kf : isa (C q) 1 = true) (kd : I 75 j = 1) (d0 : (eD true 2 (I q 2).toInt (fun i => (I (q + 1) i).toInt)) = 0) : Two 75 146 [some (.ref 1), some (.int (nI j)), none] [some (.ref 74), some (.int (nI j)), none] (n, sl, C, Z, I, L, R) := by
  obtain ⟨hM12, hn98, ⟨hB, hK, hO, hE, hM⟩, ⟨e1, e2⟩, -⟩ := id h7
  have hB' := hB
  have hM' := hM
  unfold LayB at hB
  unfold LayM at hM
  have hE' := hE
  unfold LayE at hE'
  unfold Two
  obtain ⟨a1, a2, -⟩ := id hq
  have hq0 : ¬ q = 0 := by omega
  have hc := hq.cm
  have c73 : C 73 = 3 := by simp [hB]
  have kin : inG 7 (C q) = true := hc.1.1
  have a6 : I q 1 = nI 2 := hc.1.2.2.2.2.1
  have hu := hq.un
  have bA := hq.bns.1
  have zA := (hq.rm hM' (by omega)).2.2.2.2.2.2.2.2.2.1
  have n0 : nI 2 = 2 := rfl
  simp [S75_0, S75_1, S87_0, at_yesG hB' hM12 hj, Call_in (k2 := 87), BS, ixs, inbs, le_nlt, hB, hE', e1, a1, hq0, kin, a6, n0]
  refine c_eFill_2f hc hE kf hu bA zA (fun L1 I1 fL fI v3 v5 => ?_)
  have iq : I1 q = I q := fI q (by omega)
  have i1 : I1 1 = I 1 := fI 1 (by omega)
  have e2' : I1 74 0 = nI M := by rw [fI 74 (by omega)]; exact e2
  have kd' : I1 75 j = 1 := by rw [fI 75 (by omega)]; exact kd
  have hr' := (hq.rm hM' (by omega)).keep (R' := R) (I' := I1) hM' (fun i h1 h2 => fI i (by omega))
  have k76 : I1 76 j = nI 2 := hr'.2.2.2.1
  have isy := is_yesG hM' hM12 hj n sl I1
  have j0 : inb (nI j) 12 = true := by rw [inb_nI (by omega)]; simp; omega
  have jx := ix_nI (show j < 2 ^ 31 by omega)
  have tn : I1 66 5 = 0 := by rw [v5.2, if_pos d0]
  simp [S75_0, S75_1, S146_0, S146_1, BS, ixs, inbs, le_nlt, hB, hE', hM, i1, tn, isy, e2']
  refine m_has_2f hr' kd' hu bA (fun L2 f2 _ => ?_)
  rw [if_pos d0]
  have fin : Inv (n, sl, C, Z, I1, L2, R) := Inv_mk (h7.scr (fun i hi => by rw [f2 i (by omega) (by omega) (by omega)]; exact fL i (by omega)) (fun i hi => fI i (by omega)) ⟨by rw [fI 74 (by omega)], by rw [fI 74 (by omega)], by rw [fI 74 (by omega)]⟩ (fun _ _ _ _ => rfl))
  simp [S146_0, S146_1, BS, ixs, inbs, fin]
set_option maxRecDepth 100000 in
set_option maxHeartbeats 8000000 in
theorem wr_no_3f {n sl : Nat} {C Z : Nat → Nat} {I : Nat → Nat → Int32} {L : Nat → Nat → Int64} {R : Nat → Nat → Nat} {M rn t j q : Nat} (h7 : Inv7 n C Z I L R M rn t) (hj : j < M) (hq : MOK n C Z I R j q 3) (kf : isa (C q) 1 = true) (kd : I 75 j = 1) : Two 75 146 [some (.ref 1), some (.int (nI j)), none] [some (.ref 74), some (.int (nI j)), none] (n, sl, C, Z, I, L, R) := by
  obtain ⟨hM12, hn98, ⟨hB, hK, hO, hE, hM⟩, ⟨e1, e2⟩, -⟩ := id h7
  have hB' := hB
  have hM' := hM
  unfold LayB at hB
  unfold LayM at hM
  have hE' := hE
  unfold LayE at hE'
  unfold Two
  obtain ⟨a1, a2, -⟩ := id hq
  have hq0 : ¬ q = 0 := by omega
  have hc := hq.cm
  have c73 : C 73 = 3 := by simp [hB]
  have kin : inG 7 (C q) = true := hc.1.1
  have a6 : I q 1 = nI 3 := hc.1.2.2.2.2.1
  have hu := hq.un
  have bA := hq.bns.1
  have zA := (hq.rm hM' (by omega)).2.2.2.2.2.2.2.2.2.1
  have n0 : nI 3 = 3 := rfl
  simp [S75_0, S75_1, S87_0, at_yesG hB' hM12 hj, Call_in (k2 := 87), BS, ixs, inbs, le_nlt, hB, hE', e1, a1, hq0, kin, a6, n0]
  refine c_eAt3 hc hE (fun I1 fI v4 v5 => ?_)
  have fL : ∀ c, c < 66 ∨ 72 < c → L c = L c := fun _ _ => rfl
  have iq : I1 q = I q := fI q (by omega)
  have i1 : I1 1 = I 1 := fI 1 (by omega)
  have e2' : I1 74 0 = nI M := by rw [fI 74 (by omega)]; exact e2
  have kd' : I1 75 j = 1 := by rw [fI 75 (by omega)]; exact kd
  have hr' := (hq.rm hM' (by omega)).keep (R' := R) (I' := I1) hM' (fun i h1 h2 => fI i (by omega))
  have k76 : I1 76 j = nI 3 := hr'.2.2.2.1
  have isy := is_yesG hM' hM12 hj n sl I1
  have j0 : inb (nI j) 12 = true := by rw [inb_nI (by omega)]; simp; omega
  have jx := ix_nI (show j < 2 ^ 31 by omega)
  have tn : I1 66 5 = 0 := v5
  simp [S75_0, S75_1, S146_0, S146_1, BS, ixs, inbs, le_nlt, hB, hE', hM, i1, tn, isy, e2']
  refine m_has_3f hr' kd' hu bA (fun L2 f2 _ => ?_)
  have fin : Inv (n, sl, C, Z, I1, L2, R) := Inv_mk (h7.scr (fun i hi => by rw [f2 i (by omega) (by omega) (by omega)]) (fun i hi => fI i (by omega)) ⟨by rw [fI 74 (by omega)], by rw [fI 74 (by omega)], by rw [fI 74 (by omega)]⟩ (fun _ _ _ _ => rfl))
  simp [S146_0, S146_1, BS, ixs, inbs, fin]
set_option maxRecDepth 100000 in
set_option maxHeartbeats 8000000 in
theorem wr_yes_0f {n sl : Nat} {C Z : Nat → Nat} {I : Nat → Nat → Int32} {L : Nat → Nat → Int64} {R : Nat → Nat → Nat} {M rn t j q : Nat} (h7 : Inv7 n C Z I L R M rn t) (hj : j < M) (hq : MOK n C Z I R j q 0) (kf : isa (C q) 1 = true) (kd : I 75 j = 1) (d0 : ¬ (eD true 0 (I q 2).toInt (fun i => (I (q + 1) i).toInt)) = 0) : Two 75 146 [some (.ref 1), some (.int (nI j)), none] [some (.ref 74), some (.int (nI j)), none] (n, sl, C, Z, I, L, R) := by
  obtain ⟨hM12, hn98, ⟨hB, hK, hO, hE, hM⟩, ⟨e1, e2⟩, -⟩ := id h7
  have hB' := hB
  have hM' := hM
  unfold LayB at hB
  unfold LayM at hM
  have hE' := hE
  unfold LayE at hE'
  unfold Two
  obtain ⟨a1, a2, -⟩ := id hq
  have hq0 : ¬ q = 0 := by omega
  have hc := hq.cm
  have c73 : C 73 = 3 := by simp [hB]
  have kin : inG 7 (C q) = true := hc.1.1
  have a6 : I q 1 = nI 0 := hc.1.2.2.2.2.1
  have hu := hq.un
  have bA := hq.bns.1
  have zA := (hq.rm hM' (by omega)).2.2.2.2.2.2.2.2.2.1
  have n0 : nI 0 = 0 := rfl
  simp [S75_0, S75_1, S87_0, at_yesG hB' hM12 hj, Call_in (k2 := 87), BS, ixs, inbs, le_nlt, hB, hE', e1, a1, hq0, kin, a6, n0]
  refine c_eFill_0f hc hE kf hu bA zA (fun L1 I1 fL fI v3 v5 => ?_)
  have iq : I1 q = I q := fI q (by omega)
  have i1 : I1 1 = I 1 := fI 1 (by omega)
  have e2' : I1 74 0 = nI M := by rw [fI 74 (by omega)]; exact e2
  have kd' : I1 75 j = 1 := by rw [fI 75 (by omega)]; exact kd
  have hr' := (hq.rm hM' (by omega)).keep (R' := R) (I' := I1) hM' (fun i h1 h2 => fI i (by omega))
  have k76 : I1 76 j = nI 0 := hr'.2.2.2.1
  have isy := is_yesG hM' hM12 hj n sl I1
  have j0 : inb (nI j) 12 = true := by rw [inb_nI (by omega)]; simp; omega
  have jx := ix_nI (show j < 2 ^ 31 by omega)
  have tn : I1 66 5 = 1 := by rw [v5.2, if_neg d0]
  have hc1 : CM C Z I1 R q 0 (I q 2) _ _ _ _ := hc.keep (fun i hi => fI i (by omega)) (fun _ _ => rfl)
  simp [S75_0, S75_1, BS, ixs, inbs, le_nlt, hB, hE', i1, tn]
  refine c_prf_0f (tt := 3) hc1 hB' hE (by simp [hB]) (by simp [hB]) (Or.inl rfl) v3.1 v3.2 d0 hu bA (fun L2 f2 p2 => ?_)
  have hr2 : RM C Z (u2 I1 1 4 1) R j 0 (I q 2) _ _ _ _ := hr'.keep hM' (fun i h1 h2 => u2_ne _ _ _ (by omega))
  have kd2 : u2 I1 1 4 1 75 j = 1 := by rw [u2_ne _ _ _ (by omega)]; exact kd'
  have e22 : u2 I1 1 4 1 74 0 = nI M := by rw [u2_ne _ _ _ (by omega)]; exact e2'
  have isy2 := is_yesG hM' hM12 hj n sl (u2 I1 1 4 1)
  simp [S75_0, S75_1, S146_0, S146_1, BS, ixs, inbs, hB, hM, isy2, e22, u2_rd]
  refine m_has_0f hr2 kd2 hu bA (fun L3 f3 _ => ?_)
  simp [S146_0, S146_1, BS, ixs, inbs, hM]
  refine m_wr_0f hr2 kd2 hM12 hj e22 hu bA d0 (fun L4 I4 f4 g4 p4 q4 v4 => ?_)
  simp [S146_0, S146_1, BS, ixs, inbs, hM, q4, u2_rd]
  refine Inv_mk (h7.rows (rn' := 1) (fun i hi => ?_) (fun i hi => ?_) ⟨?_, ?_, ?_⟩ ⟨by omega, ?_, ?_, fun i hi => ?_⟩)
  · repeat (first | rw [u2_ne _ _ _ (by omega)])
    rw [f4 i (by omega) (by omega) (by omega) (by omega) (by omega), f3 i (by omega) (by omega) (by omega), f2 i (by omega) (by omega)]
    exact fL i (by omega)
  · rw [u2_ne _ _ _ (by omega), g4 i (by omega), u2_ne _ _ _ (by omega)]
    exact fI i (by omega)
  · rw [u2_ne _ _ _ (by omega), g4 1 (by omega)]
    simp [u2_rd, i1]
  · simp [u2_rd, p4, fI 74]
  · simp [u2_rd, p4, fI 74]
  · rw [u2_ne _ _ _ (by omega), g4 1 (by omega)]
    simp [u2_rd]
    rfl
  · simp [u2_rd]
    rfl
  · have l3 : L4 3 = L2 3 := by rw [f4 3 (by omega) (by omega) (by omega) (by omega) (by omega), f3 3 (by omega) (by omega) (by omega)]
    have e := p2 i hi
    have e' := v4 i hi
    rcases (by omega : i = 0) with rfl <;> simp [u2_rd, l3, e, e']
set_option maxRecDepth 100000 in
set_option maxHeartbeats 8000000 in
theorem wr_yes_1f {n sl : Nat} {C Z : Nat → Nat} {I : Nat → Nat → Int32} {L : Nat → Nat → Int64} {R : Nat → Nat → Nat} {M rn t j q : Nat} (h7 : Inv7 n C Z I L R M rn t) (hj : j < M) (hq : MOK n C Z I R j q 1) (kf : isa (C q) 1 = true) (kd : I 75 j = 1) (d0 : ¬ (eD true 1 (I q 2).toInt (fun i => (I (q + 1) i).toInt)) = 0) : Two 75 146 [some (.ref 1), some (.int (nI j)), none] [some (.ref 74), some (.int (nI j)), none] (n, sl, C, Z, I, L, R) := by
  obtain ⟨hM12, hn98, ⟨hB, hK, hO, hE, hM⟩, ⟨e1, e2⟩, -⟩ := id h7
  have hB' := hB
  have hM' := hM
  unfold LayB at hB
  unfold LayM at hM
  have hE' := hE
  unfold LayE at hE'
  unfold Two
  obtain ⟨a1, a2, -⟩ := id hq
  have hq0 : ¬ q = 0 := by omega
  have hc := hq.cm
  have c73 : C 73 = 3 := by simp [hB]
  have kin : inG 7 (C q) = true := hc.1.1
  have a6 : I q 1 = nI 1 := hc.1.2.2.2.2.1
  have hu := hq.un
  have bA := hq.bns.1
  have zA := (hq.rm hM' (by omega)).2.2.2.2.2.2.2.2.2.1
  have n0 : nI 1 = 1 := rfl
  simp [S75_0, S75_1, S87_0, at_yesG hB' hM12 hj, Call_in (k2 := 87), BS, ixs, inbs, le_nlt, hB, hE', e1, a1, hq0, kin, a6, n0]
  refine c_eFill_1f hc hE kf hu bA zA (fun L1 I1 fL fI v3 v5 => ?_)
  have iq : I1 q = I q := fI q (by omega)
  have i1 : I1 1 = I 1 := fI 1 (by omega)
  have e2' : I1 74 0 = nI M := by rw [fI 74 (by omega)]; exact e2
  have kd' : I1 75 j = 1 := by rw [fI 75 (by omega)]; exact kd
  have hr' := (hq.rm hM' (by omega)).keep (R' := R) (I' := I1) hM' (fun i h1 h2 => fI i (by omega))
  have k76 : I1 76 j = nI 1 := hr'.2.2.2.1
  have isy := is_yesG hM' hM12 hj n sl I1
  have j0 : inb (nI j) 12 = true := by rw [inb_nI (by omega)]; simp; omega
  have jx := ix_nI (show j < 2 ^ 31 by omega)
  have tn : I1 66 5 = 1 := by rw [v5.2, if_neg d0]
  have hc1 : CM C Z I1 R q 1 (I q 2) _ _ _ _ := hc.keep (fun i hi => fI i (by omega)) (fun _ _ => rfl)
  simp [S75_0, S75_1, BS, ixs, inbs, le_nlt, hB, hE', i1, tn]
  refine c_prf_1f (tt := 3) hc1 hB' hE (by simp [hB]) (by simp [hB]) (Or.inl rfl) v3.1 v3.2 d0 hu bA (fun L2 f2 p2 => ?_)
  have hr2 : RM C Z (u2 I1 1 4 4) R j 1 (I q 2) _ _ _ _ := hr'.keep hM' (fun i h1 h2 => u2_ne _ _ _ (by omega))
  have kd2 : u2 I1 1 4 4 75 j = 1 := by rw [u2_ne _ _ _ (by omega)]; exact kd'
  have e22 : u2 I1 1 4 4 74 0 = nI M := by rw [u2_ne _ _ _ (by omega)]; exact e2'
  have isy2 := is_yesG hM' hM12 hj n sl (u2 I1 1 4 4)
  simp [S75_0, S75_1, S146_0, S146_1, BS, ixs, inbs, hB, hM, isy2, e22, u2_rd]
  refine m_has_1f hr2 kd2 hu bA (fun L3 f3 _ => ?_)
  rw [if_neg d0]
  simp [S146_0, S146_1, BS, ixs, inbs, hM]
  refine m_wr_1f hr2 kd2 hM12 hj e22 hu bA d0 (fun L4 I4 f4 g4 p4 q4 v4 => ?_)
  simp [S146_0, S146_1, BS, ixs, inbs, hM, q4, u2_rd]
  refine Inv_mk (h7.rows (rn' := 4) (fun i hi => ?_) (fun i hi => ?_) ⟨?_, ?_, ?_⟩ ⟨by omega, ?_, ?_, fun i hi => ?_⟩)
  · repeat (first | rw [u2_ne _ _ _ (by omega)])
    rw [f4 i (by omega) (by omega) (by omega) (by omega) (by omega), f3 i (by omega) (by omega) (by omega), f2 i (by omega) (by omega)]
    exact fL i (by omega)
  · rw [u2_ne _ _ _ (by omega), g4 i (by omega), u2_ne _ _ _ (by omega)]
    exact fI i (by omega)
  · rw [u2_ne _ _ _ (by omega), g4 1 (by omega)]
    simp [u2_rd, i1]
  · simp [u2_rd, p4, fI 74]
  · simp [u2_rd, p4, fI 74]
  · rw [u2_ne _ _ _ (by omega), g4 1 (by omega)]
    simp [u2_rd]
    rfl
  · simp [u2_rd]
    rfl
  · have l3 : L4 3 = L2 3 := by rw [f4 3 (by omega) (by omega) (by omega) (by omega) (by omega), f3 3 (by omega) (by omega) (by omega)]
    have e := p2 i hi
    have e' := v4 i hi
    rcases (by omega : i = 0 ∨ i = 1 ∨ i = 2 ∨ i = 3) with rfl | rfl | rfl | rfl <;> simp [u2_rd, l3, e, e']
set_option maxRecDepth 100000 in
set_option maxHeartbeats 8000000 in
theorem wr_yes_2f {n sl : Nat} {C Z : Nat → Nat} {I : Nat → Nat → Int32} {L : Nat → Nat → Int64} {R : Nat → Nat → Nat} {M rn t j q : Nat} (h7 : Inv7 n C Z I L R M rn t) (hj : j < M) (hq : MOK n C Z I R j q 2) (kf : isa (C q) 1 = true) (kd : I 75 j = 1) (d0 : ¬ (eD true 2 (I q 2).toInt (fun i => (I (q + 1) i).toInt)) = 0) : Two 75 146 [some (.ref 1), some (.int (nI j)), none] [some (.ref 74), some (.int (nI j)), none] (n, sl, C, Z, I, L, R) := by
  obtain ⟨hM12, hn98, ⟨hB, hK, hO, hE, hM⟩, ⟨e1, e2⟩, -⟩ := id h7
  have hB' := hB
  have hM' := hM
  unfold LayB at hB
  unfold LayM at hM
  have hE' := hE
  unfold LayE at hE'
  unfold Two
  obtain ⟨a1, a2, -⟩ := id hq
  have hq0 : ¬ q = 0 := by omega
  have hc := hq.cm
  have c73 : C 73 = 3 := by simp [hB]
  have kin : inG 7 (C q) = true := hc.1.1
  have a6 : I q 1 = nI 2 := hc.1.2.2.2.2.1
  have hu := hq.un
  have bA := hq.bns.1
  have zA := (hq.rm hM' (by omega)).2.2.2.2.2.2.2.2.2.1
  have n0 : nI 2 = 2 := rfl
  simp [S75_0, S75_1, S87_0, at_yesG hB' hM12 hj, Call_in (k2 := 87), BS, ixs, inbs, le_nlt, hB, hE', e1, a1, hq0, kin, a6, n0]
  refine c_eFill_2f hc hE kf hu bA zA (fun L1 I1 fL fI v3 v5 => ?_)
  have iq : I1 q = I q := fI q (by omega)
  have i1 : I1 1 = I 1 := fI 1 (by omega)
  have e2' : I1 74 0 = nI M := by rw [fI 74 (by omega)]; exact e2
  have kd' : I1 75 j = 1 := by rw [fI 75 (by omega)]; exact kd
  have hr' := (hq.rm hM' (by omega)).keep (R' := R) (I' := I1) hM' (fun i h1 h2 => fI i (by omega))
  have k76 : I1 76 j = nI 2 := hr'.2.2.2.1
  have isy := is_yesG hM' hM12 hj n sl I1
  have j0 : inb (nI j) 12 = true := by rw [inb_nI (by omega)]; simp; omega
  have jx := ix_nI (show j < 2 ^ 31 by omega)
  have tn : I1 66 5 = 1 := by rw [v5.2, if_neg d0]
  have hc1 : CM C Z I1 R q 2 (I q 2) _ _ _ _ := hc.keep (fun i hi => fI i (by omega)) (fun _ _ => rfl)
  simp [S75_0, S75_1, BS, ixs, inbs, le_nlt, hB, hE', i1, tn]
  refine c_prf_2f (tt := 3) hc1 hB' hE (by simp [hB]) (by simp [hB]) (Or.inl rfl) v3.1 v3.2 d0 hu bA (fun L2 f2 p2 => ?_)
  have hr2 : RM C Z (u2 I1 1 4 11) R j 2 (I q 2) _ _ _ _ := hr'.keep hM' (fun i h1 h2 => u2_ne _ _ _ (by omega))
  have kd2 : u2 I1 1 4 11 75 j = 1 := by rw [u2_ne _ _ _ (by omega)]; exact kd'
  have e22 : u2 I1 1 4 11 74 0 = nI M := by rw [u2_ne _ _ _ (by omega)]; exact e2'
  have isy2 := is_yesG hM' hM12 hj n sl (u2 I1 1 4 11)
  simp [S75_0, S75_1, S146_0, S146_1, BS, ixs, inbs, hB, hM, isy2, e22, u2_rd]
  refine m_has_2f hr2 kd2 hu bA (fun L3 f3 _ => ?_)
  rw [if_neg d0]
  simp [S146_0, S146_1, BS, ixs, inbs, hM]
  refine m_wr_2f hr2 kd2 hM12 hj e22 hu bA d0 (fun L4 I4 f4 g4 p4 q4 v4 => ?_)
  simp [S146_0, S146_1, BS, ixs, inbs, hM, q4, u2_rd]
  refine Inv_mk (h7.rows (rn' := 11) (fun i hi => ?_) (fun i hi => ?_) ⟨?_, ?_, ?_⟩ ⟨by omega, ?_, ?_, fun i hi => ?_⟩)
  · repeat (first | rw [u2_ne _ _ _ (by omega)])
    rw [f4 i (by omega) (by omega) (by omega) (by omega) (by omega), f3 i (by omega) (by omega) (by omega), f2 i (by omega) (by omega)]
    exact fL i (by omega)
  · rw [u2_ne _ _ _ (by omega), g4 i (by omega), u2_ne _ _ _ (by omega)]
    exact fI i (by omega)
  · rw [u2_ne _ _ _ (by omega), g4 1 (by omega)]
    simp [u2_rd, i1]
  · simp [u2_rd, p4, fI 74]
  · simp [u2_rd, p4, fI 74]
  · rw [u2_ne _ _ _ (by omega), g4 1 (by omega)]
    simp [u2_rd]
    rfl
  · simp [u2_rd]
    rfl
  · have l3 : L4 3 = L2 3 := by rw [f4 3 (by omega) (by omega) (by omega) (by omega) (by omega), f3 3 (by omega) (by omega) (by omega)]
    have e := p2 i hi
    have e' := v4 i hi
    rcases (by omega : i = 0 ∨ i = 1 ∨ i = 2 ∨ i = 3 ∨ i = 4 ∨ i = 5 ∨ i = 6 ∨ i = 7 ∨ i = 8 ∨ i = 9 ∨ i = 10) with rfl | rfl | rfl | rfl | rfl | rfl | rfl | rfl | rfl | rfl | rfl <;> simp [u2_rd, l3, e, e']
set_option maxRecDepth 100000 in
set_option maxHeartbeats 8000000 in
/-- write(machine) -/
theorem two_write (h : Hp) (hI : Inv h) (x : Int32) : Two 75 146 [some (.ref 1), some (.int x), none] [some (.ref 74), some (.int x), none] h := by
  obtain ⟨n, sl, C, Z, I, L, R⟩ := h
  obtain ⟨M, rn, t, h7⟩ := id hI
  obtain ⟨hM12, hn98, ⟨hB, hK, hO, hE, hM⟩, ⟨e1, e2⟩, hms, hss, hap, ⟨hrn, e3, e4, hrw⟩, ht, e5, e6, htr⟩ := id h7
  dsimp only at hM12 hn98 hB hK hO hE hM e1 e2 hms hss hap hrn e3 e4 hrw ht e5 e6 htr h7
  have hB' := hB
  have hM' := hM
  unfold LayB at hB
  unfold LayM at hM
  have no : ∀ x : Int32, (x < 0 ∨ nI M ≤ x) → Two 75 146 [some (.ref 1), some (.int x), none] [some (.ref 74), some (.int x), none] (n, sl, C, Z, I, L, R) := by
    intro x hm
    unfold Two
    simp [S75_0, S75_1, S146_0, S146_1, at_noG hB' hM12 hm, is_noG hM' hm, BS, ixs, inbs, le_nlt, hB, hM, hI, e1, e2]
  rcases pk_ix x (n := M) (by omega) with hx | hx | ⟨j, hj, rfl⟩
  · exact no x (Or.inl hx)
  · exact no x (Or.inr hx)
  · obtain ⟨q, s, hq⟩ := hms j hj
    have hs3 := hq.2.2.2.2.1.2.1
    have a4 := hq.2.2.2.1
    have kk : (isa (C q) 1 = true ∧ I 75 j = 1) ∨ (isa (C q) 1 = false ∧ ¬ I 75 j = 1) := by
      rcases nflow a4 with ⟨b1, b2⟩ | ⟨-, b2, b3⟩
      · exact Or.inl ⟨by rw [b1]; decide, b2⟩
      · exact Or.inr ⟨b2, b3⟩
    rcases (by omega : s = 0 ∨ s = 1 ∨ s = 2 ∨ s = 3) with rfl | rfl | rfl | rfl <;> rcases kk with ⟨b1, b2⟩ | ⟨b1, b2⟩
    · exact wr_yes_0f h7 hj hq b1 b2 (by rw [eD_0]; decide)
    · exact wr_yes_0t h7 hj hq b1 b2 (by rw [eD_0]; decide)
    · by_cases d0 : (eD true 1 (I q 2).toInt (fun i => (I (q + 1) i).toInt)) = 0
      · exact wr_no_1f h7 hj hq b1 b2 d0
      · exact wr_yes_1f h7 hj hq b1 b2 d0
    · by_cases d0 : (eD false 1 (I q 2).toInt (fun i => (I (q + 1) i).toInt)) = 0
      · exact wr_no_1t h7 hj hq b1 b2 d0
      · exact wr_yes_1t h7 hj hq b1 b2 d0
    · by_cases d0 : (eD true 2 (I q 2).toInt (fun i => (I (q + 1) i).toInt)) = 0
      · exact wr_no_2f h7 hj hq b1 b2 d0
      · exact wr_yes_2f h7 hj hq b1 b2 d0
    · by_cases d0 : (eD false 2 (I q 2).toInt (fun i => (I (q + 1) i).toInt)) = 0
      · exact wr_no_2t h7 hj hq b1 b2 d0
      · exact wr_yes_2t h7 hj hq b1 b2 d0
    · exact wr_no_3f h7 hj hq b1 b2
    · exact wr_no_3t h7 hj hq b1 b2
