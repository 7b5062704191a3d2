set_option maxRecDepth 100000 in
set_option maxHeartbeats 8000000 in
theorem ck_no_1t {n sl : Nat} {C Z : Nat → Nat} {I : Nat → Nat → Int32} {L : Nat → Nat → Int64} {R : Nat → Nat → Nat} {M rn t j q : Nat} (h7 : Inv7 n C Z I L R M rn t) (hj : j < M) (hq : MOK n C Z I R j q 1) (kf : isa (C q) 1 = false) (kd : ¬ I 75 j = 1) (d0 : (eD false 1 (I q 2).toInt (fun i => (I (q + 1) i).toInt)) = 0) : Two 78 149 [some (.ref 1), some (.int (nI j)), none, none, none, none] [some (.ref 74), some (.int (nI j)), none, none, none, none, none, none, none, none] (n, sl, C, Z, I, L, R) := by
  obtain ⟨hM12, hn98, ⟨hB, hK, hO, hE, hM⟩, ⟨e1, e2⟩, -⟩ := id h7
  have hB' := hB
  have hM' := hM
  unfold LayB at hB
  unfold LayM at hM
  have hE' := hE
  unfold LayE at hE'
  unfold Two
  obtain ⟨a1, a2, -⟩ := id hq
  have hq0 : ¬ q = 0 := by omega
  have hc := hq.cm
  have c73 : C 73 = 3 := by simp [hB]
  have kin : inG 7 (C q) = true := hc.1.1
  have a6 : I q 1 = nI 1 := hc.1.2.2.2.2.1
  have hu := hq.un
  have bA := hq.bns.1
  have zA := (hq.rm hM' (by omega)).2.2.2.2.2.2.2.2.2.1
  have n0 : nI 1 = 1 := rfl
  simp [S78_0, S78_1, S78_2, S87_0, at_yesG hB' hM12 hj, Call_in (k2 := 87), BS, ixs, inbs, le_nlt, hB, hE', e1, a1, hq0, kin, a6, n0]
  refine c_eFill_1t hc hE kf hu bA zA (fun L1 I1 fL fI v3 v5 => ?_)
  have iq : I1 q = I q := fI q (by omega)
  have i1 : I1 1 = I 1 := fI 1 (by omega)
  have e2' : I1 74 0 = nI M := by rw [fI 74 (by omega)]; exact e2
  have kd' : ¬ I1 75 j = 1 := by rw [fI 75 (by omega)]; exact kd
  have hr' := (hq.rm hM' (by omega)).keep (R' := R) (I' := I1) hM' (fun i h1 h2 => fI i (by omega))
  have k76 : I1 76 j = nI 1 := hr'.2.2.2.1
  have isy := is_yesG hM' hM12 hj n sl I1
  have j0 : inb (nI j) 12 = true := by rw [inb_nI (by omega)]; simp; omega
  have jx := ix_nI (show j < 2 ^ 31 by omega)
  have tn : I1 66 5 = 0 := by rw [v5.2, if_pos d0]
  simp [S78_0, S78_1, S78_2, S149_0, S149_1, S149_2, S149_3, S149_4, BS, ixs, inbs, le_nlt, hB, hE', hM, i1, tn, isy, e2']
  refine m_has_1t hr' kd' hu bA (fun L2 f2 _ => ?_)
  rw [if_pos d0]
  have fin : Inv (n, sl, C, Z, I1, L2, R) := Inv_mk (h7.scr (fun i hi => by rw [f2 i (by omega) (by omega) (by omega)]; exact fL i (by omega)) (fun i hi => fI i (by omega)) ⟨by rw [fI 74 (by omega)], by rw [fI 74 (by omega)], by rw [fI 74 (by omega)]⟩ (fun _ _ _ _ => rfl))
  simp [S149_0, S149_1, S149_2, S149_3, S149_4, BS, ixs, inbs, fin]
set_option maxRecDepth 100000 in
set_option maxHeartbeats 8000000 in
theorem ck_no_2t {n sl : Nat} {C Z : Nat → Nat} {I : Nat → Nat → Int32} {L : Nat → Nat → Int64} {R : Nat → Nat → Nat} {M rn t j q : Nat} (h7 : Inv7 n C Z I L R M rn t) (hj : j < M) (hq : MOK n C Z I R j q 2) (kf : isa (C q) 1 = false) (kd : ¬ I 75 j = 1) (d0 : (eD false 2 (I q 2).toInt (fun i => (I (q + 1) i).toInt)) = 0) : Two 78 149 [some (.ref 1), some (.int (nI j)), none, none, none, none] [some (.ref 74), some (.int (nI j)), none, none, none, none, none, none, none, none] (n, sl, C, Z, I, L, R) := by
  obtain ⟨hM12, hn98, ⟨hB, hK, hO, hE, hM⟩, ⟨e1, e2⟩, -⟩ := id h7
  have hB' := hB
  have hM' := hM
  unfold LayB at hB
  unfold LayM at hM
  have hE' := hE
  unfold LayE at hE'
  unfold Two
  obtain ⟨a1, a2, -⟩ := id hq
  have hq0 : ¬ q = 0 := by omega
  have hc := hq.cm
  have c73 : C 73 = 3 := by simp [hB]
  have kin : inG 7 (C q) = true := hc.1.1
  have a6 : I q 1 = nI 2 := hc.1.2.2.2.2.1
  have hu := hq.un
  have bA := hq.bns.1
  have zA := (hq.rm hM' (by omega)).2.2.2.2.2.2.2.2.2.1
  have n0 : nI 2 = 2 := rfl
  simp [S78_0, S78_1, S78_2, S87_0, at_yesG hB' hM12 hj, Call_in (k2 := 87), BS, ixs, inbs, le_nlt, hB, hE', e1, a1, hq0, kin, a6, n0]
  refine c_eFill_2t hc hE kf hu bA zA (fun L1 I1 fL fI v3 v5 => ?_)
  have iq : I1 q = I q := fI q (by omega)
  have i1 : I1 1 = I 1 := fI 1 (by omega)
  have e2' : I1 74 0 = nI M := by rw [fI 74 (by omega)]; exact e2
  have kd' : ¬ I1 75 j = 1 := by rw [fI 75 (by omega)]; exact kd
  have hr' := (hq.rm hM' (by omega)).keep (R' := R) (I' := I1) hM' (fun i h1 h2 => fI i (by omega))
  have k76 : I1 76 j = nI 2 := hr'.2.2.2.1
  have isy := is_yesG hM' hM12 hj n sl I1
  have j0 : inb (nI j) 12 = true := by rw [inb_nI (by omega)]; simp; omega
  have jx := ix_nI (show j < 2 ^ 31 by omega)
  have tn : I1 66 5 = 0 := by rw [v5.2, if_pos d0]
  simp [S78_0, S78_1, S78_2, S149_0, S149_1, S149_2, S149_3, S149_4, BS, ixs, inbs, le_nlt, hB, hE', hM, i1, tn, isy, e2']
  refine m_has_2t hr' kd' hu bA (fun L2 f2 _ => ?_)
  rw [if_pos d0]
  have fin : Inv (n, sl, C, Z, I1, L2, R) := Inv_mk (h7.scr (fun i hi => by rw [f2 i (by omega) (by omega) (by omega)]; exact fL i (by omega)) (fun i hi => fI i (by omega)) ⟨by rw [fI 74 (by omega)], by rw [fI 74 (by omega)], by rw [fI 74 (by omega)]⟩ (fun _ _ _ _ => rfl))
  simp [S149_0, S149_1, S149_2, S149_3, S149_4, BS, ixs, inbs, fin]
set_option maxRecDepth 100000 in
set_option maxHeartbeats 8000000 in
theorem ck_no_3t {n sl : Nat} {C Z : Nat → Nat} {I : Nat → Nat → Int32} {L : Nat → Nat → Int64} {R : Nat → Nat → Nat} {M rn t j q : Nat} (h7 : Inv7 n C Z I L R M rn t) (hj : j < M) (hq : MOK n C Z I R j q 3) (kf : isa (C q) 1 = false) (kd : ¬ I 75 j = 1) : Two 78 149 [some (.ref 1), some (.int (nI j)), none, none, none, none] [some (.ref 74), some (.int (nI j)), none, none, none, none, none, none, none, none] (n, sl, C, Z, I, L, R) := by
  obtain ⟨hM12, hn98, ⟨hB, hK, hO, hE, hM⟩, ⟨e1, e2⟩, -⟩ := id h7
  have hB' := hB
  have hM' := hM
  unfold LayB at hB
  unfold LayM at hM
  have hE' := hE
  unfold LayE at hE'
  unfold Two
  obtain ⟨a1, a2, -⟩ := id hq
  have hq0 : ¬ q = 0 := by omega
  have hc := hq.cm
  have c73 : C 73 = 3 := by simp [hB]
  have kin : inG 7 (C q) = true := hc.1.1
  have a6 : I q 1 = nI 3 := hc.1.2.2.2.2.1
  have hu := hq.un
  have bA := hq.bns.1
  have zA := (hq.rm hM' (by omega)).2.2.2.2.2.2.2.2.2.1
  have n0 : nI 3 = 3 := rfl
  simp [S78_0, S78_1, S78_2, S87_0, at_yesG hB' hM12 hj, Call_in (k2 := 87), BS, ixs, inbs, le_nlt, hB, hE', e1, a1, hq0, kin, a6, n0]
  refine c_eAt3 hc hE (fun I1 fI v4 v5 => ?_)
  have fL : ∀ c, c < 66 ∨ 72 < c → L c = L c := fun _ _ => rfl
  have iq : I1 q = I q := fI q (by omega)
  have i1 : I1 1 = I 1 := fI 1 (by omega)
  have e2' : I1 74 0 = nI M := by rw [fI 74 (by omega)]; exact e2
  have kd' : ¬ I1 75 j = 1 := by rw [fI 75 (by omega)]; exact kd
  have hr' := (hq.rm hM' (by omega)).keep (R' := R) (I' := I1) hM' (fun i h1 h2 => fI i (by omega))
  have k76 : I1 76 j = nI 3 := hr'.2.2.2.1
  have isy := is_yesG hM' hM12 hj n sl I1
  have j0 : inb (nI j) 12 = true := by rw [inb_nI (by omega)]; simp; omega
  have jx := ix_nI (show j < 2 ^ 31 by omega)
  have tn : I1 66 5 = 0 := v5
  simp [S78_0, S78_1, S78_2, S149_0, S149_1, S149_2, S149_3, S149_4, BS, ixs, inbs, le_nlt, hB, hE', hM, i1, tn, isy, e2']
  refine m_has_3t hr' kd' hu bA (fun L2 f2 _ => ?_)
  have fin : Inv (n, sl, C, Z, I1, L2, R) := Inv_mk (h7.scr (fun i hi => by rw [f2 i (by omega) (by omega) (by omega)]) (fun i hi => fI i (by omega)) ⟨by rw [fI 74 (by omega)], by rw [fI 74 (by omega)], by rw [fI 74 (by omega)]⟩ (fun _ _ _ _ => rfl))
  simp [S149_0, S149_1, S149_2, S149_3, S149_4, BS, ixs, inbs, fin]
set_option maxRecDepth 100000 in
set_option maxHeartbeats 8000000 in
theorem ck_no_1f {n sl : Nat} {C Z : Nat → Nat} {I : Nat → Nat → Int32} {L : Nat → Nat → Int64} {R : Nat → Nat → Nat} {M rn t j q : Nat} (h7 : Inv7 n C Z I L R M rn t) (hj : j < M) (hq : MOK n C Z I R j q 1) (kf : isa (C q) 1 = true) (kd : I 75 j = 1) (d0 : (eD true 1 (I q 2).toInt (fun i => (I (q + 1) i).toInt)) = 0) : Two 78 149 [some (.ref 1), some (.int (nI j)), none, none, none, none] [some (.ref 74), some (.int (nI j)), none, none, none, none, none, none, none, none] (n, sl, C, Z, I, L, R) := by
  obtain ⟨hM12, hn98, ⟨hB, hK, hO, hE, hM⟩, ⟨e1, e2⟩, -⟩ := id h7
  have hB' := hB
  have hM' := hM
  unfold LayB at hB
  unfold LayM at hM
  have hE' := hE
  unfold LayE at hE'
  unfold Two
  obtain ⟨a1, a2, -⟩ := id hq
  have hq0 : ¬ q = 0 := by omega
  have hc := hq.cm
  have c73 : C 73 = 3 := by simp [hB]
  have kin : inG 7 (C q) = true := hc.1.1
  have a6 : I q 1 = nI 1 := hc.1.2.2.2.2.1
  have hu := hq.un
  have bA := hq.bns.1
  have zA := (hq.rm hM' (by omega)).2.2.2.2.2.2.2.2.2.1
  have n0 : nI 1 = 1 := rfl
  simp [S78_0, S78_1, S78_2, S87_0, at_yesG hB' hM12 hj, Call_in (k2 := 87), BS, ixs, inbs, le_nlt, hB, hE', e1, a1, hq0, kin, a6, n0]
  refine c_eFill_1f hc hE kf hu bA zA (fun L1 I1 fL fI v3 v5 => ?_)
  have iq : I1 q = I q := fI q (by omega)
  have i1 : I1 1 = I 1 := fI 1 (by omega)
  have e2' : I1 74 0 = nI M := by rw [fI 74 (by omega)]; exact e2
  have kd' : I1 75 j = 1 := by rw [fI 75 (by omega)]; exact kd
  have hr' := (hq.rm hM' (by omega)).keep (R' := R) (I' := I1) hM' (fun i h1 h2 => fI i (by omega))
  have k76 : I1 76 j = nI 1 := hr'.2.2.2.1
  have isy := is_yesG hM' hM12 hj n sl I1
  have j0 : inb (nI j) 12 = true := by rw [inb_nI (by omega)]; simp; omega
  have jx := ix_nI (show j < 2 ^ 31 by omega)
  have tn : I1 66 5 = 0 := by rw [v5.2, if_pos d0]
  simp [S78_0, S78_1, S78_2, S149_0, S149_1, S149_2, S149_3, S149_4, BS, ixs, inbs, le_nlt, hB, hE', hM, i1, tn, isy, e2']
  refine m_has_1f hr' kd' hu bA (fun L2 f2 _ => ?_)
  rw [if_pos d0]
  have fin : Inv (n, sl, C, Z, I1, L2, R) := Inv_mk (h7.scr (fun i hi => by rw [f2 i (by omega) (by omega) (by omega)]; exact fL i (by omega)) (fun i hi => fI i (by omega)) ⟨by rw [fI 74 (by omega)], by rw [fI 74 (by omega)], by rw [fI 74 (by omega)]⟩ (fun _ _ _ _ => rfl))
  simp [S149_0, S149_1, S149_2, S149_3, S149_4, BS, ixs, inbs, fin]
set_option maxRecDepth 100000 in
set_option maxHeartbeats 8000000 in
theorem ck_no_2f {n sl : Nat} {C Z : Nat → Nat} {I : Nat → Nat → Int32} {L : Nat → Nat → Int64} {R : Nat → Nat → Nat} {M rn t j q : Nat} (h7 : Inv7 n C Z I L R M rn t) (hj : j < M) (hq : MOK n C Z I R j q 2) (kf : isa (C q) 1 = true) (kd : I 75 j = 1) (d0 : (eD true 2 (I q 2).toInt (fun i => (I (q + 1) i).toInt)) = 0) : Two 78 149 [some (.ref 1), some (.int (nI j)), none, none, none, none] [some (.ref 74), some (.int (nI j)), none, none, none, none, none, none, none, none] (n, sl, C, Z, I, L, R) := by
  obtain ⟨hM12, hn98, ⟨hB, hK, hO, hE, hM⟩, ⟨e1, e2⟩, -⟩ := id h7
  have hB' := hB
  have hM' := hM
  unfold LayB at hB
  unfold LayM at hM
  have hE' := hE
  unfold LayE at hE'
  unfold Two
  obtain ⟨a1, a2, -⟩ := id hq
  have hq0 : ¬ q = 0 := by omega
  have hc := hq.cm
  have c73 : C 73 = 3 := by simp [hB]
  have kin : inG 7 (C q) = true := hc.1.1
  have a6 : I q 1 = nI 2 := hc.1.2.2.2.2.1
  have hu := hq.un
  have bA := hq.bns.1
  have zA := (hq.rm hM' (by omega)).2.2.2.2.2.2.2.2.2.1
  have n0 : nI 2 = 2 := rfl
  simp [S78_0, S78_1, S78_2, S87_0, at_yesG hB' hM12 hj, Call_in (k2 := 87), BS, ixs, inbs, le_nlt, hB, hE', e1, a1, hq0, kin, a6, n0]
  refine c_eFill_2f hc hE kf hu bA zA (fun L1 I1 fL fI v3 v5 => ?_)
  have iq : I1 q = I q := fI q (by omega)
  have i1 : I1 1 = I 1 := fI 1 (by omega)
  have e2' : I1 74 0 = nI M := by rw [fI 74 (by omega)]; exact e2
  have kd' : I1 75 j = 1 := by rw [fI 75 (by omega)]; exact kd
  have hr' := (hq.rm hM' (by omega)).keep (R' := R) (I' := I1) hM' (fun i h1 h2 => fI i (by omega))
  have k76 : I1 76 j = nI 2 := hr'.2.2.2.1
  have isy := is_yesG hM' hM12 hj n sl I1
  have j0 : inb (nI j) 12 = true := by rw [inb_nI (by omega)]; simp; omega
  have jx := ix_nI (show j < 2 ^ 31 by omega)
  have tn : I1 66 5 = 0 := by rw [v5.2, if_pos d0]
  simp [S78_0, S78_1, S78_2, S149_0, S149_1, S149_2, S149_3, S149_4, BS, ixs, inbs, le_nlt, hB, hE', hM, i1, tn, isy, e2']
  refine m_has_2f hr' kd' hu bA (fun L2 f2 _ => ?_)
  rw [if_pos d0]
  have fin : Inv (n, sl, C, Z, I1, L2, R) := Inv_mk (h7.scr (fun i hi => by rw [f2 i (by omega) (by omega) (by omega)]; exact fL i (by omega)) (fun i hi => fI i (by omega)) ⟨by rw [fI 74 (by omega)], by rw [fI 74 (by omega)], by rw [fI 74 (by omega)]⟩ (fun _ _ _ _ => rfl))
  simp [S149_0, S149_1, S149_2, S149_3, S149_4, BS, ixs, inbs, fin]
set_option maxRecDepth 100000 in
set_option maxHeartbeats 8000000 in
theorem ck_no_3f {n sl : Nat} {C Z : Nat → Nat} {I : Nat → Nat → Int32} {L : Nat → Nat → Int64} {R : Nat → Nat → Nat} {M rn t j q : Nat} (h7 : Inv7 n C Z I L R M rn t) (hj : j < M) (hq : MOK n C Z I R j q 3) (kf : isa (C q) 1 = true) (kd : I 75 j = 1) : Two 78 149 [some (.ref 1), some (.int (nI j)), none, none, none, none] [some (.ref 74), some (.int (nI j)), none, none, none, none, none, none, none, none] (n, sl, C, Z, I, L, R) := by
  obtain ⟨hM12, hn98, ⟨hB, hK, hO, hE, hM⟩, ⟨e1, e2⟩, -⟩ := id h7
  have hB' := hB
  have hM' := hM
  unfold LayB at hB
  unfold LayM at hM
  have hE' := hE
  unfold LayE at hE'
  unfold Two
  obtain ⟨a1, a2, -⟩ := id hq
  have hq0 : ¬ q = 0 := by omega
  have hc := hq.cm
  have c73 : C 73 = 3 := by simp [hB]
  have kin : inG 7 (C q) = true := hc.1.1
  have a6 : I q 1 = nI 3 := hc.1.2.2.2.2.1
  have hu := hq.un
  have bA := hq.bns.1
  have zA := (hq.rm hM' (by omega)).2.2.2.2.2.2.2.2.2.1
  have n0 : nI 3 = 3 := rfl
  simp [S78_0, S78_1, S78_2, S87_0, at_yesG hB' hM12 hj, Call_in (k2 := 87), BS, ixs, inbs, le_nlt, hB, hE', e1, a1, hq0, kin, a6, n0]
  refine c_eAt3 hc hE (fun I1 fI v4 v5 => ?_)
  have fL : ∀ c, c < 66 ∨ 72 < c → L c = L c := fun _ _ => rfl
  have iq : I1 q = I q := fI q (by omega)
  have i1 : I1 1 = I 1 := fI 1 (by omega)
  have e2' : I1 74 0 = nI M := by rw [fI 74 (by omega)]; exact e2
  have kd' : I1 75 j = 1 := by rw [fI 75 (by omega)]; exact kd
  have hr' := (hq.rm hM' (by omega)).keep (R' := R) (I' := I1) hM' (fun i h1 h2 => fI i (by omega))
  have k76 : I1 76 j = nI 3 := hr'.2.2.2.1
  have isy := is_yesG hM' hM12 hj n sl I1
  have j0 : inb (nI j) 12 = true := by rw [inb_nI (by omega)]; simp; omega
  have jx := ix_nI (show j < 2 ^ 31 by omega)
  have tn : I1 66 5 = 0 := v5
  simp [S78_0, S78_1, S78_2, S149_0, S149_1, S149_2, S149_3, S149_4, BS, ixs, inbs, le_nlt, hB, hE', hM, i1, tn, isy, e2']
  refine m_has_3f hr' kd' hu bA (fun L2 f2 _ => ?_)
  have fin : Inv (n, sl, C, Z, I1, L2, R) := Inv_mk (h7.scr (fun i hi => by rw [f2 i (by omega) (by omega) (by omega)]) (fun i hi => fI i (by omega)) ⟨by rw [fI 74 (by omega)], by rw [fI 74 (by omega)], by rw [fI 74 (by omega)]⟩ (fun _ _ _ _ => rfl))
  simp [S149_0, S149_1, S149_2, S149_3, S149_4, BS, ixs, inbs, fin]
