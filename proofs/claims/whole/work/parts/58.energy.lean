set_option maxRecDepth 100000 in
set_option maxHeartbeats 8000000 in
theorem en_bad_1t {n sl : Nat} {C Z : Nat → Nat} {I : Nat → Nat → Int32} {L : Nat → Nat → Int64} {R : Nat → Nat → Nat} {M rn t j q i k : Nat} (h7 : Inv7 n C Z I L R M rn t) (hj : j < M) (hq : MOK n C Z I R j q 1) (kf : isa (C q) 1 = false) (kd : ¬ I 75 j = 1) (hi : i < 1) (hk : k < 1) (wh : Int32) (hw : wh < 0 ∨ (1 : Int32) < wh) : Two 74 144 [some (.ref 1), some (.int (nI j)), some (.int (nI i)), some (.int (nI k)), some (.int wh), none] [some (.ref 74), some (.int (nI j)), some (.int (nI i)), some (.int (nI k)), some (.int wh)] (n, sl, C, Z, I, L, R) := by
  obtain ⟨hM12, hn98, ⟨hB, hK, hO, hE, hM⟩, ⟨e1, e2⟩, -⟩ := id h7
  have hB' := hB
  have hM' := hM
  unfold LayB at hB
  unfold LayM at hM
  have hE' := hE
  unfold LayE at hE'
  unfold Two
  obtain ⟨a1, a2, -⟩ := id hq
  have hq0 : ¬ q = 0 := by omega
  have hc := hq.cm
  have c73 : C 73 = 3 := by simp [hB]
  have kin : inG 7 (C q) = true := hc.1.1
  have a6 : I q 1 = nI 1 := hc.1.2.2.2.2.1
  have hu := hq.un
  have bA := hq.bns.1
  have zA := (hq.rm hM' (by omega)).2.2.2.2.2.2.2.2.2.1
  have n0 : nI 1 = 1 := rfl
  have ip : ¬ nI i < 0 := nI_nneg (by omega)
  have kp : ¬ nI k < 0 := nI_nneg (by omega)
  have il : ¬ (0 : Int32) < nI i := nI_nlt (b := i) (a := 0) (by omega) (by omega)
  have kl : ¬ (0 : Int32) < nI k := nI_nlt (b := k) (a := 0) (by omega) (by omega)
  have im : nI i < 1 := nI_lt (b := 1) (by omega) (by omega)
  have km : nI k < 1 := nI_lt (b := 1) (by omega) (by omega)
  simp [S74_0, S74_1, S74_2, S87_0, at_yesG hB' hM12 hj, Call_in (k2 := 87), BS, ixs, inbs, le_nlt, hB, hE', e1, a1, hq0, kin, a6, n0, ip, kp, il, kl]
  refine c_eFill_1t hc hE kf hu bA zA (fun L1 I1 fL fI v3 v5 => ?_)
  have iq : I1 q = I q := fI q (by omega)
  have i1 : I1 1 = I 1 := fI 1 (by omega)
  have e2' : I1 74 0 = nI M := by rw [fI 74 (by omega)]; exact e2
  have kd' : ¬ I1 75 j = 1 := by rw [fI 75 (by omega)]; exact kd
  have hr' := (hq.rm hM' (by omega)).keep (R' := R) (I' := I1) hM' (fun i h1 h2 => fI i (by omega))
  have k76 : I1 76 j = nI 1 := hr'.2.2.2.1
  have isy := is_yesG hM' hM12 hj n sl I1
  have j0 : inb (nI j) 12 = true := by rw [inb_nI (by omega)]; simp; omega
  have jx := ix_nI (show j < 2 ^ 31 by omega)
  have tn : I1 66 5 = 0 ∨ I1 66 5 = 1 := by rw [v5.2]; split <;> simp
  have fin : Inv (n, sl, C, Z, I1, L1, R) := Inv_mk (h7.scr (fun i hi => by exact fL i (by omega)) (fun i hi => fI i (by omega)) ⟨by rw [fI 74 (by omega)], by rw [fI 74 (by omega)], by rw [fI 74 (by omega)]⟩ (fun _ _ _ _ => rfl))
  rcases hw with w0 | w0
  · rcases tn with tn | tn <;> simp [S74_0, S74_1, S74_2, S144_0, S144_1, S144_2, S87_0, Call_in (k2 := 87), BS, ixs, inbs, le_nlt, hB, hE', hM, i1, iq, tn, w0, isy, e2', j0, jx, k76, n0, ip, kp, il, kl, im, km, fin]
  · have w1 : ¬ wh < 0 := fun h => by have := Int32.lt_trans h (Int32.lt_trans (by decide : (0 : Int32) < 1) w0); simp at this
    rcases tn with tn | tn <;> simp [S74_0, S74_1, S74_2, S144_0, S144_1, S144_2, S87_0, Call_in (k2 := 87), BS, ixs, inbs, le_nlt, hB, hE', hM, i1, iq, tn, w0, w1, isy, e2', j0, jx, k76, n0, ip, kp, il, kl, im, km, fin]
set_option maxRecDepth 100000 in
set_option maxHeartbeats 8000000 in
theorem en_no_1t {n sl : Nat} {C Z : Nat → Nat} {I : Nat → Nat → Int32} {L : Nat → Nat → Int64} {R : Nat → Nat → Nat} {M rn t j q i k : Nat} (h7 : Inv7 n C Z I L R M rn t) (hj : j < M) (hq : MOK n C Z I R j q 1) (kf : isa (C q) 1 = false) (kd : ¬ I 75 j = 1) (d0 : (eD false 1 (I q 2).toInt (fun i => (I (q + 1) i).toInt)) = 0) (hi : i < 1) (hk : k < 1) (wh : Int32) (hw : wh = 0 ∨ wh = 1) : Two 74 144 [some (.ref 1), some (.int (nI j)), some (.int (nI i)), some (.int (nI k)), some (.int wh), none] [some (.ref 74), some (.int (nI j)), some (.int (nI i)), some (.int (nI k)), some (.int wh)] (n, sl, C, Z, I, L, R) := by
  obtain ⟨hM12, hn98, ⟨hB, hK, hO, hE, hM⟩, ⟨e1, e2⟩, -⟩ := id h7
  have hB' := hB
  have hM' := hM
  unfold LayB at hB
  unfold LayM at hM
  have hE' := hE
  unfold LayE at hE'
  unfold Two
  obtain ⟨a1, a2, -⟩ := id hq
  have hq0 : ¬ q = 0 := by omega
  have hc := hq.cm
  have c73 : C 73 = 3 := by simp [hB]
  have kin : inG 7 (C q) = true := hc.1.1
  have a6 : I q 1 = nI 1 := hc.1.2.2.2.2.1
  have hu := hq.un
  have bA := hq.bns.1
  have zA := (hq.rm hM' (by omega)).2.2.2.2.2.2.2.2.2.1
  have n0 : nI 1 = 1 := rfl
  have ip : ¬ nI i < 0 := nI_nneg (by omega)
  have kp : ¬ nI k < 0 := nI_nneg (by omega)
  have il : ¬ (0 : Int32) < nI i := nI_nlt (b := i) (a := 0) (by omega) (by omega)
  have kl : ¬ (0 : Int32) < nI k := nI_nlt (b := k) (a := 0) (by omega) (by omega)
  have im : nI i < 1 := nI_lt (b := 1) (by omega) (by omega)
  have km : nI k < 1 := nI_lt (b := 1) (by omega) (by omega)
  simp [S74_0, S74_1, S74_2, S87_0, at_yesG hB' hM12 hj, Call_in (k2 := 87), BS, ixs, inbs, le_nlt, hB, hE', e1, a1, hq0, kin, a6, n0, ip, kp, il, kl]
  refine c_eFill_1t hc hE kf hu bA zA (fun L1 I1 fL fI v3 v5 => ?_)
  have iq : I1 q = I q := fI q (by omega)
  have i1 : I1 1 = I 1 := fI 1 (by omega)
  have e2' : I1 74 0 = nI M := by rw [fI 74 (by omega)]; exact e2
  have kd' : ¬ I1 75 j = 1 := by rw [fI 75 (by omega)]; exact kd
  have hr' := (hq.rm hM' (by omega)).keep (R' := R) (I' := I1) hM' (fun i h1 h2 => fI i (by omega))
  have k76 : I1 76 j = nI 1 := hr'.2.2.2.1
  have isy := is_yesG hM' hM12 hj n sl I1
  have j0 : inb (nI j) 12 = true := by rw [inb_nI (by omega)]; simp; omega
  have jx := ix_nI (show j < 2 ^ 31 by omega)
  have tn : I1 66 5 = 0 := by rw [v5.2, if_pos d0]
  rcases hw with rfl | rfl
  all_goals
    simp [S74_0, S74_1, S74_2, S144_0, S144_1, S144_2, S87_0, Call_in (k2 := 87), BS, ixs, inbs, le_nlt, hB, hE', hM, i1, iq, tn, isy, e2', j0, jx, k76, n0, ip, kp, il, kl, im, km]
    refine m_has_1t hr' kd' hu bA (fun L2 f2 _ => ?_)
    rw [if_pos d0]
    have fin : Inv (n, sl, C, Z, I1, L2, R) := Inv_mk (h7.scr (fun i hi => by rw [f2 i (by omega) (by omega) (by omega)]; exact fL i (by omega)) (fun i hi => fI i (by omega)) ⟨by rw [fI 74 (by omega)], by rw [fI 74 (by omega)], by rw [fI 74 (by omega)]⟩ (fun _ _ _ _ => rfl))
    simp [S144_0, S144_1, S144_2, BS, ixs, inbs, fin]
set_option maxRecDepth 100000 in
set_option maxHeartbeats 8000000 in
theorem en_bad_2t {n sl : Nat} {C Z : Nat → Nat} {I : Nat → Nat → Int32} {L : Nat → Nat → Int64} {R : Nat → Nat → Nat} {M rn t j q i k : Nat} (h7 : Inv7 n C Z I L R M rn t) (hj : j < M) (hq : MOK n C Z I R j q 2) (kf : isa (C q) 1 = false) (kd : ¬ I 75 j = 1) (hi : i < 2) (hk : k < 2) (wh : Int32) (hw : wh < 0 ∨ (1 : Int32) < wh) : Two 74 144 [some (.ref 1), some (.int (nI j)), some (.int (nI i)), some (.int (nI k)), some (.int wh), none] [some (.ref 74), some (.int (nI j)), some (.int (nI i)), some (.int (nI k)), some (.int wh)] (n, sl, C, Z, I, L, R) := by
  obtain ⟨hM12, hn98, ⟨hB, hK, hO, hE, hM⟩, ⟨e1, e2⟩, -⟩ := id h7
  have hB' := hB
  have hM' := hM
  unfold LayB at hB
  unfold LayM at hM
  have hE' := hE
  unfold LayE at hE'
  unfold Two
  obtain ⟨a1, a2, -⟩ := id hq
  have hq0 : ¬ q = 0 := by omega
  have hc := hq.cm
  have c73 : C 73 = 3 := by simp [hB]
  have kin : inG 7 (C q) = true := hc.1.1
  have a6 : I q 1 = nI 2 := hc.1.2.2.2.2.1
  have hu := hq.un
  have bA := hq.bns.1
  have zA := (hq.rm hM' (by omega)).2.2.2.2.2.2.2.2.2.1
  have n0 : nI 2 = 2 := rfl
  have ip : ¬ nI i < 0 := nI_nneg (by omega)
  have kp : ¬ nI k < 0 := nI_nneg (by omega)
  have il : ¬ (1 : Int32) < nI i := nI_nlt (b := i) (a := 1) (by omega) (by omega)
  have kl : ¬ (1 : Int32) < nI k := nI_nlt (b := k) (a := 1) (by omega) (by omega)
  have im : nI i < 2 := nI_lt (b := 2) (by omega) (by omega)
  have km : nI k < 2 := nI_lt (b := 2) (by omega) (by omega)
  simp [S74_0, S74_1, S74_2, S87_0, at_yesG hB' hM12 hj, Call_in (k2 := 87), BS, ixs, inbs, le_nlt, hB, hE', e1, a1, hq0, kin, a6, n0, ip, kp, il, kl]
  refine c_eFill_2t hc hE kf hu bA zA (fun L1 I1 fL fI v3 v5 => ?_)
  have iq : I1 q = I q := fI q (by omega)
  have i1 : I1 1 = I 1 := fI 1 (by omega)
  have e2' : I1 74 0 = nI M := by rw [fI 74 (by omega)]; exact e2
  have kd' : ¬ I1 75 j = 1 := by rw [fI 75 (by omega)]; exact kd
  have hr' := (hq.rm hM' (by omega)).keep (R' := R) (I' := I1) hM' (fun i h1 h2 => fI i (by omega))
  have k76 : I1 76 j = nI 2 := hr'.2.2.2.1
  have isy := is_yesG hM' hM12 hj n sl I1
  have j0 : inb (nI j) 12 = true := by rw [inb_nI (by omega)]; simp; omega
  have jx := ix_nI (show j < 2 ^ 31 by omega)
  have tn : I1 66 5 = 0 ∨ I1 66 5 = 1 := by rw [v5.2]; split <;> simp
  have fin : Inv (n, sl, C, Z, I1, L1, R) := Inv_mk (h7.scr (fun i hi => by exact fL i (by omega)) (fun i hi => fI i (by omega)) ⟨by rw [fI 74 (by omega)], by rw [fI 74 (by omega)], by rw [fI 74 (by omega)]⟩ (fun _ _ _ _ => rfl))
  rcases hw with w0 | w0
  · rcases tn with tn | tn <;> simp [S74_0, S74_1, S74_2, S144_0, S144_1, S144_2, S87_0, Call_in (k2 := 87), BS, ixs, inbs, le_nlt, hB, hE', hM, i1, iq, tn, w0, isy, e2', j0, jx, k76, n0, ip, kp, il, kl, im, km, fin]
  · have w1 : ¬ wh < 0 := fun h => by have := Int32.lt_trans h (Int32.lt_trans (by decide : (0 : Int32) < 1) w0); simp at this
    rcases tn with tn | tn <;> simp [S74_0, S74_1, S74_2, S144_0, S144_1, S144_2, S87_0, Call_in (k2 := 87), BS, ixs, inbs, le_nlt, hB, hE', hM, i1, iq, tn, w0, w1, isy, e2', j0, jx, k76, n0, ip, kp, il, kl, im, km, fin]
set_option maxRecDepth 100000 in
set_option maxHeartbeats 8000000 in
theorem en_no_2t {n sl : Nat} {C Z : Nat → Nat} {I : Nat → Nat → Int32} {L : Nat → Nat → Int64} {R : Nat → Nat → Nat} {M rn t j q i k : Nat} (h7 : Inv7 n C Z I L R M rn t) (hj : j < M) (hq : MOK n C Z I R j q 2) (kf : isa (C q) 1 = false) (kd : ¬ I 75 j = 1) (d0 : (eD false 2 (I q 2).toInt (fun i => (I (q + 1) i).toInt)) = 0) (hi : i < 2) (hk : k < 2) (wh : Int32) (hw : wh = 0 ∨ wh = 1) : Two 74 144 [some (.ref 1), some (.int (nI j)), some (.int (nI i)), some (.int (nI k)), some (.int wh), none] [some (.ref 74), some (.int (nI j)), some (.int (nI i)), some (.int (nI k)), some (.int wh)] (n, sl, C, Z, I, L, R) := by
  obtain ⟨hM12, hn98, ⟨hB, hK, hO, hE, hM⟩, ⟨e1, e2⟩, -⟩ := id h7
  have hB' := hB
  have hM' := hM
  unfold LayB at hB
  unfold LayM at hM
  have hE' := hE
  unfold LayE at hE'
  unfold Two
  obtain ⟨a1, a2, -⟩ := id hq
  have hq0 : ¬ q = 0 := by omega
  have hc := hq.cm
  have c73 : C 73 = 3 := by simp [hB]
  have kin : inG 7 (C q) = true := hc.1.1
  have a6 : I q 1 = nI 2 := hc.1.2.2.2.2.1
  have hu := hq.un
  have bA := hq.bns.1
  have zA := (hq.rm hM' (by omega)).2.2.2.2.2.2.2.2.2.1
  have n0 : nI 2 = 2 := rfl
  have ip : ¬ nI i < 0 := nI_nneg (by omega)
  have kp : ¬ nI k < 0 := nI_nneg (by omega)
  have il : ¬ (1 : Int32) < nI i := nI_nlt (b := i) (a := 1) (by omega) (by omega)
  have kl : ¬ (1 : Int32) < nI k := nI_nlt (b := k) (a := 1) (by omega) (by omega)
  have im : nI i < 2 := nI_lt (b := 2) (by omega) (by omega)
  have km : nI k < 2 := nI_lt (b := 2) (by omega) (by omega)
  simp [S74_0, S74_1, S74_2, S87_0, at_yesG hB' hM12 hj, Call_in (k2 := 87), BS, ixs, inbs, le_nlt, hB, hE', e1, a1, hq0, kin, a6, n0, ip, kp, il, kl]
  refine c_eFill_2t hc hE kf hu bA zA (fun L1 I1 fL fI v3 v5 => ?_)
  have iq : I1 q = I q := fI q (by omega)
  have i1 : I1 1 = I 1 := fI 1 (by omega)
  have e2' : I1 74 0 = nI M := by rw [fI 74 (by omega)]; exact e2
  have kd' : ¬ I1 75 j = 1 := by rw [fI 75 (by omega)]; exact kd
  have hr' := (hq.rm hM' (by omega)).keep (R' := R) (I' := I1) hM' (fun i h1 h2 => fI i (by omega))
  have k76 : I1 76 j = nI 2 := hr'.2.2.2.1
  have isy := is_yesG hM' hM12 hj n sl I1
  have j0 : inb (nI j) 12 = true := by rw [inb_nI (by omega)]; simp; omega
  have jx := ix_nI (show j < 2 ^ 31 by omega)
  have tn : I1 66 5 = 0 := by rw [v5.2, if_pos d0]
  rcases hw with rfl | rfl
  all_goals
    simp [S74_0, S74_1, S74_2, S144_0, S144_1, S144_2, S87_0, Call_in (k2 := 87), BS, ixs, inbs, le_nlt, hB, hE', hM, i1, iq, tn, isy, e2', j0, jx, k76, n0, ip, kp, il, kl, im, km]
    refine m_has_2t hr' kd' hu bA (fun L2 f2 _ => ?_)
    rw [if_pos d0]
    have fin : Inv (n, sl, C, Z, I1, L2, R) := Inv_mk (h7.scr (fun i hi => by rw [f2 i (by omega) (by omega) (by omega)]; exact fL i (by omega)) (fun i hi => fI i (by omega)) ⟨by rw [fI 74 (by omega)], by rw [fI 74 (by omega)], by rw [fI 74 (by omega)]⟩ (fun _ _ _ _ => rfl))
    simp [S144_0, S144_1, S144_2, BS, ixs, inbs, fin]
set_option maxRecDepth 100000 in
set_option maxHeartbeats 8000000 in
theorem en_bad_3t {n sl : Nat} {C Z : Nat → Nat} {I : Nat → Nat → Int32} {L : Nat → Nat → Int64} {R : Nat → Nat → Nat} {M rn t j q i k : Nat} (h7 : Inv7 n C Z I L R M rn t) (hj : j < M) (hq : MOK n C Z I R j q 3) (kf : isa (C q) 1 = false) (kd : ¬ I 75 j = 1) (hi : i < 3) (hk : k < 3) (wh : Int32) (hw : wh < 0 ∨ (1 : Int32) < wh) : Two 74 144 [some (.ref 1), some (.int (nI j)), some (.int (nI i)), some (.int (nI k)), some (.int wh), none] [some (.ref 74), some (.int (nI j)), some (.int (nI i)), some (.int (nI k)), some (.int wh)] (n, sl, C, Z, I, L, R) := by
  obtain ⟨hM12, hn98, ⟨hB, hK, hO, hE, hM⟩, ⟨e1, e2⟩, -⟩ := id h7
  have hB' := hB
  have hM' := hM
  unfold LayB at hB
  unfold LayM at hM
  have hE' := hE
  unfold LayE at hE'
  unfold Two
  obtain ⟨a1, a2, -⟩ := id hq
  have hq0 : ¬ q = 0 := by omega
  have hc := hq.cm
  have c73 : C 73 = 3 := by simp [hB]
  have kin : inG 7 (C q) = true := hc.1.1
  have a6 : I q 1 = nI 3 := hc.1.2.2.2.2.1
  have hu := hq.un
  have bA := hq.bns.1
  have zA := (hq.rm hM' (by omega)).2.2.2.2.2.2.2.2.2.1
  have n0 : nI 3 = 3 := rfl
  have ip : ¬ nI i < 0 := nI_nneg (by omega)
  have kp : ¬ nI k < 0 := nI_nneg (by omega)
  have il : ¬ (2 : Int32) < nI i := nI_nlt (b := i) (a := 2) (by omega) (by omega)
  have kl : ¬ (2 : Int32) < nI k := nI_nlt (b := k) (a := 2) (by omega) (by omega)
  have im : nI i < 3 := nI_lt (b := 3) (by omega) (by omega)
  have km : nI k < 3 := nI_lt (b := 3) (by omega) (by omega)
  simp [S74_0, S74_1, S74_2, S87_0, at_yesG hB' hM12 hj, Call_in (k2 := 87), BS, ixs, inbs, le_nlt, hB, hE', e1, a1, hq0, kin, a6, n0, ip, kp, il, kl]
  refine c_eAt3 hc hE (fun I1 fI v4 v5 => ?_)
  have fL : ∀ c, c < 66 ∨ 72 < c → L c = L c := fun _ _ => rfl
  have iq : I1 q = I q := fI q (by omega)
  have i1 : I1 1 = I 1 := fI 1 (by omega)
  have e2' : I1 74 0 = nI M := by rw [fI 74 (by omega)]; exact e2
  have kd' : ¬ I1 75 j = 1 := by rw [fI 75 (by omega)]; exact kd
  have hr' := (hq.rm hM' (by omega)).keep (R' := R) (I' := I1) hM' (fun i h1 h2 => fI i (by omega))
  have k76 : I1 76 j = nI 3 := hr'.2.2.2.1
  have isy := is_yesG hM' hM12 hj n sl I1
  have j0 : inb (nI j) 12 = true := by rw [inb_nI (by omega)]; simp; omega
  have jx := ix_nI (show j < 2 ^ 31 by omega)
  have tn : I1 66 5 = 0 ∨ I1 66 5 = 1 := Or.inl v5
  have fin : Inv (n, sl, C, Z, I1, L, R) := Inv_mk (h7.scr (fun i hi => by exact fL i (by omega)) (fun i hi => fI i (by omega)) ⟨by rw [fI 74 (by omega)], by rw [fI 74 (by omega)], by rw [fI 74 (by omega)]⟩ (fun _ _ _ _ => rfl))
  rcases hw with w0 | w0
  · rcases tn with tn | tn <;> simp [S74_0, S74_1, S74_2, S144_0, S144_1, S144_2, S87_0, Call_in (k2 := 87), BS, ixs, inbs, le_nlt, hB, hE', hM, i1, iq, tn, w0, isy, e2', j0, jx, k76, n0, ip, kp, il, kl, im, km, fin]
  · have w1 : ¬ wh < 0 := fun h => by have := Int32.lt_trans h (Int32.lt_trans (by decide : (0 : Int32) < 1) w0); simp at this
    rcases tn with tn | tn <;> simp [S74_0, S74_1, S74_2, S144_0, S144_1, S144_2, S87_0, Call_in (k2 := 87), BS, ixs, inbs, le_nlt, hB, hE', hM, i1, iq, tn, w0, w1, isy, e2', j0, jx, k76, n0, ip, kp, il, kl, im, km, fin]
set_option maxRecDepth 100000 in
set_option maxHeartbeats 8000000 in
theorem en_no_3t {n sl : Nat} {C Z : Nat → Nat} {I : Nat → Nat → Int32} {L : Nat → Nat → Int64} {R : Nat → Nat → Nat} {M rn t j q i k : Nat} (h7 : Inv7 n C Z I L R M rn t) (hj : j < M) (hq : MOK n C Z I R j q 3) (kf : isa (C q) 1 = false) (kd : ¬ I 75 j = 1) (hi : i < 3) (hk : k < 3) (wh : Int32) (hw : wh = 0 ∨ wh = 1) : Two 74 144 [some (.ref 1), some (.int (nI j)), some (.int (nI i)), some (.int (nI k)), some (.int wh), none] [some (.ref 74), some (.int (nI j)), some (.int (nI i)), some (.int (nI k)), some (.int wh)] (n, sl, C, Z, I, L, R) := by
  obtain ⟨hM12, hn98, ⟨hB, hK, hO, hE, hM⟩, ⟨e1, e2⟩, -⟩ := id h7
  have hB' := hB
  have hM' := hM
  unfold LayB at hB
  unfold LayM at hM
  have hE' := hE
  unfold LayE at hE'
  unfold Two
  obtain ⟨a1, a2, -⟩ := id hq
  have hq0 : ¬ q = 0 := by omega
  have hc := hq.cm
  have c73 : C 73 = 3 := by simp [hB]
  have kin : inG 7 (C q) = true := hc.1.1
  have a6 : I q 1 = nI 3 := hc.1.2.2.2.2.1
  have hu := hq.un
  have bA := hq.bns.1
  have zA := (hq.rm hM' (by omega)).2.2.2.2.2.2.2.2.2.1
  have n0 : nI 3 = 3 := rfl
  have ip : ¬ nI i < 0 := nI_nneg (by omega)
  have kp : ¬ nI k < 0 := nI_nneg (by omega)
  have il : ¬ (2 : Int32) < nI i := nI_nlt (b := i) (a := 2) (by omega) (by omega)
  have kl : ¬ (2 : Int32) < nI k := nI_nlt (b := k) (a := 2) (by omega) (by omega)
  have im : nI i < 3 := nI_lt (b := 3) (by omega) (by omega)
  have km : nI k < 3 := nI_lt (b := 3) (by omega) (by omega)
  simp [S74_0, S74_1, S74_2, S87_0, at_yesG hB' hM12 hj, Call_in (k2 := 87), BS, ixs, inbs, le_nlt, hB, hE', e1, a1, hq0, kin, a6, n0, ip, kp, il, kl]
  refine c_eAt3 hc hE (fun I1 fI v4 v5 => ?_)
  have fL : ∀ c, c < 66 ∨ 72 < c → L c = L c := fun _ _ => rfl
  have iq : I1 q = I q := fI q (by omega)
  have i1 : I1 1 = I 1 := fI 1 (by omega)
  have e2' : I1 74 0 = nI M := by rw [fI 74 (by omega)]; exact e2
  have kd' : ¬ I1 75 j = 1 := by rw [fI 75 (by omega)]; exact kd
  have hr' := (hq.rm hM' (by omega)).keep (R' := R) (I' := I1) hM' (fun i h1 h2 => fI i (by omega))
  have k76 : I1 76 j = nI 3 := hr'.2.2.2.1
  have isy := is_yesG hM' hM12 hj n sl I1
  have j0 : inb (nI j) 12 = true := by rw [inb_nI (by omega)]; simp; omega
  have jx := ix_nI (show j < 2 ^ 31 by omega)
  have tn : I1 66 5 = 0 := v5
  rcases hw with rfl | rfl
  all_goals
    simp [S74_0, S74_1, S74_2, S144_0, S144_1, S144_2, S87_0, Call_in (k2 := 87), BS, ixs, inbs, le_nlt, hB, hE', hM, i1, iq, tn, isy, e2', j0, jx, k76, n0, ip, kp, il, kl, im, km]
    refine m_has_3t hr' kd' hu bA (fun L2 f2 _ => ?_)
    have fin : Inv (n, sl, C, Z, I1, L2, R) := Inv_mk (h7.scr (fun i hi => by rw [f2 i (by omega) (by omega) (by omega)]) (fun i hi => fI i (by omega)) ⟨by rw [fI 74 (by omega)], by rw [fI 74 (by omega)], by rw [fI 74 (by omega)]⟩ (fun _ _ _ _ => rfl))
    simp [S144_0, S144_1, S144_2, BS, ixs, inbs, fin]
set_option maxRecDepth 100000 in
set_option maxHeartbeats 8000000 in
theorem en_yes_1t_00_0 {n sl : Nat} {C Z : Nat → Nat} {I : Nat → Nat → Int32} {L : Nat → Nat → Int64} {R : Nat → Nat → Nat} {M rn t j q : Nat} (h7 : Inv7 n C Z I L R M rn t) (hj : j < M) (hq : MOK n C Z I R j q 1) (kf : isa (C q) 1 = false) (kd : ¬ I 75 j = 1) (d0 : ¬ (eD false 1 (I q 2).toInt (fun i => (I (q + 1) i).toInt)) = 0) : Two 74 144 [some (.ref 1), some (.int (nI j)), some (.int 0), some (.int 0), some (.int 0), none] [some (.ref 74), some (.int (nI j)), some (.int 0), some (.int 0), some (.int 0)] (n, sl, C, Z, I, L, R) := by
  obtain ⟨hM12, hn98, ⟨hB, hK, hO, hE, hM⟩, ⟨e1, e2⟩, -⟩ := id h7
  have hB' := hB
  have hM' := hM
  unfold LayB at hB
  unfold LayM at hM
  have hE' := hE
  unfold LayE at hE'
  unfold Two
  obtain ⟨a1, a2, -⟩ := id hq
  have hq0 : ¬ q = 0 := by omega
  have hc := hq.cm
  have c73 : C 73 = 3 := by simp [hB]
  have kin : inG 7 (C q) = true := hc.1.1
  have a6 : I q 1 = nI 1 := hc.1.2.2.2.2.1
  have hu := hq.un
  have bA := hq.bns.1
  have zA := (hq.rm hM' (by omega)).2.2.2.2.2.2.2.2.2.1
  have n0 : nI 1 = 1 := rfl
  simp [S74_0, S74_1, S74_2, S87_0, at_yesG hB' hM12 hj, Call_in (k2 := 87), BS, ixs, inbs, le_nlt, hB, hE', e1, a1, hq0, kin, a6, n0]
  refine c_eFill_1t hc hE kf hu bA zA (fun L1 I1 fL fI v3 v5 => ?_)
  have iq : I1 q = I q := fI q (by omega)
  have i1 : I1 1 = I 1 := fI 1 (by omega)
  have e2' : I1 74 0 = nI M := by rw [fI 74 (by omega)]; exact e2
  have kd' : ¬ I1 75 j = 1 := by rw [fI 75 (by omega)]; exact kd
  have hr' := (hq.rm hM' (by omega)).keep (R' := R) (I' := I1) hM' (fun i h1 h2 => fI i (by omega))
  have k76 : I1 76 j = nI 1 := hr'.2.2.2.1
  have isy := is_yesG hM' hM12 hj n sl I1
  have j0 : inb (nI j) 12 = true := by rw [inb_nI (by omega)]; simp; omega
  have jx := ix_nI (show j < 2 ^ 31 by omega)
  have tn : I1 66 5 = 1 := by rw [v5.2, if_neg d0]
  have bN : bn 9223372036854775807 (eN false 1 (I q 2).toInt (fun i => (I (q + 1) i).toInt) 0) := bn_le (bn_eN hu bA 0) (by omega)
  have bD : bn 1125899906842623 (eD false 1 (I q 2).toInt (fun i => (I (q + 1) i).toInt)) := bn_le (bn_eD hu bA) (by omega)
  have v3n := v3.2 0 (by omega)
  simp [S74_0, S74_1, S74_2, S87_0, S7_0, Call_in (k2 := 87), Call_in (k2 := 7), BS, ixs, inbs, le_nlt, hB, hE', i1, iq, tn, v3n, v3.1]
  refine (c_put bN bD d0 c73 _ _ _ _ _).mpr ?_
  simp [S74_0, S74_1, S74_2, S7_0, S14_0, Call_in (k2 := 14), BS, ixs, inbs, le_nlt, hB, i1, c73, u2_rd]
  refine m_en_1t_00_0 hr' kd' hM12 hj e2' hu bA d0 (fun L2 f2 _ => ⟨rfl, ?_, by dsimp only; omega, by dsimp only; omega⟩)
  exact Inv_mk (h7.scr (fun i hi => by rw [f2 i (by omega) (by omega) (by omega) (by omega), u2_ne _ _ _ (by omega), u2_ne _ _ _ (by omega)]; exact fL i (by omega)) (fun i hi => fI i (by omega)) ⟨by rw [fI 74 (by omega)], by rw [fI 74 (by omega)], by rw [fI 74 (by omega)]⟩ (fun _ _ _ _ => rfl))
set_option maxRecDepth 100000 in
set_option maxHeartbeats 8000000 in
theorem en_yes_1t_00_1 {n sl : Nat} {C Z : Nat → Nat} {I : Nat → Nat → Int32} {L : Nat → Nat → Int64} {R : Nat → Nat → Nat} {M rn t j q : Nat} (h7 : Inv7 n C Z I L R M rn t) (hj : j < M) (hq : MOK n C Z I R j q 1) (kf : isa (C q) 1 = false) (kd : ¬ I 75 j = 1) (d0 : ¬ (eD false 1 (I q 2).toInt (fun i => (I (q + 1) i).toInt)) = 0) : Two 74 144 [some (.ref 1), some (.int (nI j)), some (.int 0), some (.int 0), some (.int 1), none] [some (.ref 74), some (.int (nI j)), some (.int 0), some (.int 0), some (.int 1)] (n, sl, C, Z, I, L, R) := by
  obtain ⟨hM12, hn98, ⟨hB, hK, hO, hE, hM⟩, ⟨e1, e2⟩, -⟩ := id h7
  have hB' := hB
  have hM' := hM
  unfold LayB at hB
  unfold LayM at hM
  have hE' := hE
  unfold LayE at hE'
  unfold Two
  obtain ⟨a1, a2, -⟩ := id hq
  have hq0 : ¬ q = 0 := by omega
  have hc := hq.cm
  have c73 : C 73 = 3 := by simp [hB]
  have kin : inG 7 (C q) = true := hc.1.1
  have a6 : I q 1 = nI 1 := hc.1.2.2.2.2.1
  have hu := hq.un
  have bA := hq.bns.1
  have zA := (hq.rm hM' (by omega)).2.2.2.2.2.2.2.2.2.1
  have n0 : nI 1 = 1 := rfl
  simp [S74_0, S74_1, S74_2, S87_0, at_yesG hB' hM12 hj, Call_in (k2 := 87), BS, ixs, inbs, le_nlt, hB, hE', e1, a1, hq0, kin, a6, n0]
  refine c_eFill_1t hc hE kf hu bA zA (fun L1 I1 fL fI v3 v5 => ?_)
  have iq : I1 q = I q := fI q (by omega)
  have i1 : I1 1 = I 1 := fI 1 (by omega)
  have e2' : I1 74 0 = nI M := by rw [fI 74 (by omega)]; exact e2
  have kd' : ¬ I1 75 j = 1 := by rw [fI 75 (by omega)]; exact kd
  have hr' := (hq.rm hM' (by omega)).keep (R' := R) (I' := I1) hM' (fun i h1 h2 => fI i (by omega))
  have k76 : I1 76 j = nI 1 := hr'.2.2.2.1
  have isy := is_yesG hM' hM12 hj n sl I1
  have j0 : inb (nI j) 12 = true := by rw [inb_nI (by omega)]; simp; omega
  have jx := ix_nI (show j < 2 ^ 31 by omega)
  have tn : I1 66 5 = 1 := by rw [v5.2, if_neg d0]
  have bN : bn 9223372036854775807 (eN false 1 (I q 2).toInt (fun i => (I (q + 1) i).toInt) 0) := bn_le (bn_eN hu bA 0) (by omega)
  have bD : bn 1125899906842623 (eD false 1 (I q 2).toInt (fun i => (I (q + 1) i).toInt)) := bn_le (bn_eD hu bA) (by omega)
  have v3n := v3.2 0 (by omega)
  simp [S74_0, S74_1, S74_2, S87_0, S7_0, Call_in (k2 := 87), Call_in (k2 := 7), BS, ixs, inbs, le_nlt, hB, hE', i1, iq, tn, v3n, v3.1]
  refine (c_put bN bD d0 c73 _ _ _ _ _).mpr ?_
  simp [S74_0, S74_1, S74_2, S7_0, S14_0, Call_in (k2 := 14), BS, ixs, inbs, le_nlt, hB, i1, c73, u2_rd]
  refine m_en_1t_00_1 hr' kd' hM12 hj e2' hu bA d0 (fun L2 f2 _ => ⟨rfl, ?_, by dsimp only; omega, by dsimp only; omega⟩)
  exact Inv_mk (h7.scr (fun i hi => by rw [f2 i (by omega) (by omega) (by omega) (by omega), u2_ne _ _ _ (by omega), u2_ne _ _ _ (by omega)]; exact fL i (by omega)) (fun i hi => fI i (by omega)) ⟨by rw [fI 74 (by omega)], by rw [fI 74 (by omega)], by rw [fI 74 (by omega)]⟩ (fun _ _ _ _ => rfl))
set_option maxRecDepth 100000 in
set_option maxHeartbeats 8000000 in
theorem en_yes_2t_00_0 {n sl : Nat} {C Z : Nat → Nat} {I : Nat → Nat → Int32} {L : Nat → Nat → Int64} {R : Nat → Nat → Nat} {M rn t j q : Nat} (h7 : Inv7 n C Z I L R M rn t) (hj : j < M) (hq : MOK n C Z I R j q 2) (kf : isa (C q) 1 = false) (kd : ¬ I 75 j = 1) (d0 : ¬ (eD false 2 (I q 2).toInt (fun i => (I (q + 1) i).toInt)) = 0) : Two 74 144 [some (.ref 1), some (.int (nI j)), some (.int 0), some (.int 0), some (.int 0), none] [some (.ref 74), some (.int (nI j)), some (.int 0), some (.int 0), some (.int 0)] (n, sl, C, Z, I, L, R) := by
  obtain ⟨hM12, hn98, ⟨hB, hK, hO, hE, hM⟩, ⟨e1, e2⟩, -⟩ := id h7
  have hB' := hB
  have hM' := hM
  unfold LayB at hB
  unfold LayM at hM
  have hE' := hE
  unfold LayE at hE'
  unfold Two
  obtain ⟨a1, a2, -⟩ := id hq
  have hq0 : ¬ q = 0 := by omega
  have hc := hq.cm
  have c73 : C 73 = 3 := by simp [hB]
  have kin : inG 7 (C q) = true := hc.1.1
  have a6 : I q 1 = nI 2 := hc.1.2.2.2.2.1
  have hu := hq.un
  have bA := hq.bns.1
  have zA := (hq.rm hM' (by omega)).2.2.2.2.2.2.2.2.2.1
  have n0 : nI 2 = 2 := rfl
  simp [S74_0, S74_1, S74_2, S87_0, at_yesG hB' hM12 hj, Call_in (k2 := 87), BS, ixs, inbs, le_nlt, hB, hE', e1, a1, hq0, kin, a6, n0]
  refine c_eFill_2t hc hE kf hu bA zA (fun L1 I1 fL fI v3 v5 => ?_)
  have iq : I1 q = I q := fI q (by omega)
  have i1 : I1 1 = I 1 := fI 1 (by omega)
  have e2' : I1 74 0 = nI M := by rw [fI 74 (by omega)]; exact e2
  have kd' : ¬ I1 75 j = 1 := by rw [fI 75 (by omega)]; exact kd
  have hr' := (hq.rm hM' (by omega)).keep (R' := R) (I' := I1) hM' (fun i h1 h2 => fI i (by omega))
  have k76 : I1 76 j = nI 2 := hr'.2.2.2.1
  have isy := is_yesG hM' hM12 hj n sl I1
  have j0 : inb (nI j) 12 = true := by rw [inb_nI (by omega)]; simp; omega
  have jx := ix_nI (show j < 2 ^ 31 by omega)
  have tn : I1 66 5 = 1 := by rw [v5.2, if_neg d0]
  have bN : bn 9223372036854775807 (eN false 2 (I q 2).toInt (fun i => (I (q + 1) i).toInt) 0) := bn_le (bn_eN hu bA 0) (by omega)
  have bD : bn 1125899906842623 (eD false 2 (I q 2).toInt (fun i => (I (q + 1) i).toInt)) := bn_le (bn_eD hu bA) (by omega)
  have v3n := v3.2 0 (by omega)
  simp [S74_0, S74_1, S74_2, S87_0, S7_0, Call_in (k2 := 87), Call_in (k2 := 7), BS, ixs, inbs, le_nlt, hB, hE', i1, iq, tn, v3n, v3.1]
  refine (c_put bN bD d0 c73 _ _ _ _ _).mpr ?_
  simp [S74_0, S74_1, S74_2, S7_0, S14_0, Call_in (k2 := 14), BS, ixs, inbs, le_nlt, hB, i1, c73, u2_rd]
  refine m_en_2t_00_0 hr' kd' hM12 hj e2' hu bA d0 (fun L2 f2 _ => ⟨rfl, ?_, by dsimp only; omega, by dsimp only; omega⟩)
  exact Inv_mk (h7.scr (fun i hi => by rw [f2 i (by omega) (by omega) (by omega) (by omega), u2_ne _ _ _ (by omega), u2_ne _ _ _ (by omega)]; exact fL i (by omega)) (fun i hi => fI i (by omega)) ⟨by rw [fI 74 (by omega)], by rw [fI 74 (by omega)], by rw [fI 74 (by omega)]⟩ (fun _ _ _ _ => rfl))
set_option maxRecDepth 100000 in
set_option maxHeartbeats 8000000 in
theorem en_yes_2t_00_1 {n sl : Nat} {C Z : Nat → Nat} {I : Nat → Nat → Int32} {L : Nat → Nat → Int64} {R : Nat → Nat → Nat} {M rn t j q : Nat} (h7 : Inv7 n C Z I L R M rn t) (hj : j < M) (hq : MOK n C Z I R j q 2) (kf : isa (C q) 1 = false) (kd : ¬ I 75 j = 1) (d0 : ¬ (eD false 2 (I q 2).toInt (fun i => (I (q + 1) i).toInt)) = 0) : Two 74 144 [some (.ref 1), some (.int (nI j)), some (.int 0), some (.int 0), some (.int 1), none] [some (.ref 74), some (.int (nI j)), some (.int 0), some (.int 0), some (.int 1)] (n, sl, C, Z, I, L, R) := by
  obtain ⟨hM12, hn98, ⟨hB, hK, hO, hE, hM⟩, ⟨e1, e2⟩, -⟩ := id h7
  have hB' := hB
  have hM' := hM
  unfold LayB at hB
  unfold LayM at hM
  have hE' := hE
  unfold LayE at hE'
  unfold Two
  obtain ⟨a1, a2, -⟩ := id hq
  have hq0 : ¬ q = 0 := by omega
  have hc := hq.cm
  have c73 : C 73 = 3 := by simp [hB]
  have kin : inG 7 (C q) = true := hc.1.1
  have a6 : I q 1 = nI 2 := hc.1.2.2.2.2.1
  have hu := hq.un
  have bA := hq.bns.1
  have zA := (hq.rm hM' (by omega)).2.2.2.2.2.2.2.2.2.1
  have n0 : nI 2 = 2 := rfl
  simp [S74_0, S74_1, S74_2, S87_0, at_yesG hB' hM12 hj, Call_in (k2 := 87), BS, ixs, inbs, le_nlt, hB, hE', e1, a1, hq0, kin, a6, n0]
  refine c_eFill_2t hc hE kf hu bA zA (fun L1 I1 fL fI v3 v5 => ?_)
  have iq : I1 q = I q := fI q (by omega)
  have i1 : I1 1 = I 1 := fI 1 (by omega)
  have e2' : I1 74 0 = nI M := by rw [fI 74 (by omega)]; exact e2
  have kd' : ¬ I1 75 j = 1 := by rw [fI 75 (by omega)]; exact kd
  have hr' := (hq.rm hM' (by omega)).keep (R' := R) (I' := I1) hM' (fun i h1 h2 => fI i (by omega))
  have k76 : I1 76 j = nI 2 := hr'.2.2.2.1
  have isy := is_yesG hM' hM12 hj n sl I1
  have j0 : inb (nI j) 12 = true := by rw [inb_nI (by omega)]; simp; omega
  have jx := ix_nI (show j < 2 ^ 31 by omega)
  have tn : I1 66 5 = 1 := by rw [v5.2, if_neg d0]
  have bN : bn 9223372036854775807 (eN false 2 (I q 2).toInt (fun i => (I (q + 1) i).toInt) 0) := bn_le (bn_eN hu bA 0) (by omega)
  have bD : bn 1125899906842623 (eD false 2 (I q 2).toInt (fun i => (I (q + 1) i).toInt)) := bn_le (bn_eD hu bA) (by omega)
  have v3n := v3.2 0 (by omega)
  simp [S74_0, S74_1, S74_2, S87_0, S7_0, Call_in (k2 := 87), Call_in (k2 := 7), BS, ixs, inbs, le_nlt, hB, hE', i1, iq, tn, v3n, v3.1]
  refine (c_put bN bD d0 c73 _ _ _ _ _).mpr ?_
  simp [S74_0, S74_1, S74_2, S7_0, S14_0, Call_in (k2 := 14), BS, ixs, inbs, le_nlt, hB, i1, c73, u2_rd]
  refine m_en_2t_00_1 hr' kd' hM12 hj e2' hu bA d0 (fun L2 f2 _ => ⟨rfl, ?_, by dsimp only; omega, by dsimp only; omega⟩)
  exact Inv_mk (h7.scr (fun i hi => by rw [f2 i (by omega) (by omega) (by omega) (by omega), u2_ne _ _ _ (by omega), u2_ne _ _ _ (by omega)]; exact fL i (by omega)) (fun i hi => fI i (by omega)) ⟨by rw [fI 74 (by omega)], by rw [fI 74 (by omega)], by rw [fI 74 (by omega)]⟩ (fun _ _ _ _ => rfl))
set_option maxRecDepth 100000 in
set_option maxHeartbeats 8000000 in
theorem en_yes_2t_01_0 {n sl : Nat} {C Z : Nat → Nat} {I : Nat → Nat → Int32} {L : Nat → Nat → Int64} {R : Nat → Nat → Nat} {M rn t j q : Nat} (h7 : Inv7 n C Z I L R M rn t) (hj : j < M) (hq : MOK n C Z I R j q 2) (kf : isa (C q) 1 = false) (kd : ¬ I 75 j = 1) (d0 : ¬ (eD false 2 (I q 2).toInt (fun i => (I (q + 1) i).toInt)) = 0) : Two 74 144 [some (.ref 1), some (.int (nI j)), some (.int 0), some (.int 1), some (.int 0), none] [some (.ref 74), some (.int (nI j)), some (.int 0), some (.int 1), some (.int 0)] (n, sl, C, Z, I, L, R) := by
  obtain ⟨hM12, hn98, ⟨hB, hK, hO, hE, hM⟩, ⟨e1, e2⟩, -⟩ := id h7
  have hB' := hB
  have hM' := hM
  unfold LayB at hB
  unfold LayM at hM
  have hE' := hE
  unfold LayE at hE'
  unfold Two
  obtain ⟨a1, a2, -⟩ := id hq
  have hq0 : ¬ q = 0 := by omega
  have hc := hq.cm
  have c73 : C 73 = 3 := by simp [hB]
  have kin : inG 7 (C q) = true := hc.1.1
  have a6 : I q 1 = nI 2 := hc.1.2.2.2.2.1
  have hu := hq.un
  have bA := hq.bns.1
  have zA := (hq.rm hM' (by omega)).2.2.2.2.2.2.2.2.2.1
  have n0 : nI 2 = 2 := rfl
  simp [S74_0, S74_1, S74_2, S87_0, at_yesG hB' hM12 hj, Call_in (k2 := 87), BS, ixs, inbs, le_nlt, hB, hE', e1, a1, hq0, kin, a6, n0]
  refine c_eFill_2t hc hE kf hu bA zA (fun L1 I1 fL fI v3 v5 => ?_)
  have iq : I1 q = I q := fI q (by omega)
  have i1 : I1 1 = I 1 := fI 1 (by omega)
  have e2' : I1 74 0 = nI M := by rw [fI 74 (by omega)]; exact e2
  have kd' : ¬ I1 75 j = 1 := by rw [fI 75 (by omega)]; exact kd
  have hr' := (hq.rm hM' (by omega)).keep (R' := R) (I' := I1) hM' (fun i h1 h2 => fI i (by omega))
  have k76 : I1 76 j = nI 2 := hr'.2.2.2.1
  have isy := is_yesG hM' hM12 hj n sl I1
  have j0 : inb (nI j) 12 = true := by rw [inb_nI (by omega)]; simp; omega
  have jx := ix_nI (show j < 2 ^ 31 by omega)
  have tn : I1 66 5 = 1 := by rw [v5.2, if_neg d0]
  have bN : bn 9223372036854775807 (eN false 2 (I q 2).toInt (fun i => (I (q + 1) i).toInt) 1) := bn_le (bn_eN hu bA 1) (by omega)
  have bD : bn 1125899906842623 (eD false 2 (I q 2).toInt (fun i => (I (q + 1) i).toInt)) := bn_le (bn_eD hu bA) (by omega)
  have v3n := v3.2 1 (by omega)
  simp [S74_0, S74_1, S74_2, S87_0, S7_0, Call_in (k2 := 87), Call_in (k2 := 7), BS, ixs, inbs, le_nlt, hB, hE', i1, iq, tn, v3n, v3.1]
  refine (c_put bN bD d0 c73 _ _ _ _ _).mpr ?_
  simp [S74_0, S74_1, S74_2, S7_0, S14_0, Call_in (k2 := 14), BS, ixs, inbs, le_nlt, hB, i1, c73, u2_rd]
  refine m_en_2t_01_0 hr' kd' hM12 hj e2' hu bA d0 (fun L2 f2 _ => ⟨rfl, ?_, by dsimp only; omega, by dsimp only; omega⟩)
  exact Inv_mk (h7.scr (fun i hi => by rw [f2 i (by omega) (by omega) (by omega) (by omega), u2_ne _ _ _ (by omega), u2_ne _ _ _ (by omega)]; exact fL i (by omega)) (fun i hi => fI i (by omega)) ⟨by rw [fI 74 (by omega)], by rw [fI 74 (by omega)], by rw [fI 74 (by omega)]⟩ (fun _ _ _ _ => rfl))
set_option maxRecDepth 100000 in
set_option maxHeartbeats 8000000 in
theorem en_yes_2t_01_1 {n sl : Nat} {C Z : Nat → Nat} {I : Nat → Nat → Int32} {L : Nat → Nat → Int64} {R : Nat → Nat → Nat} {M rn t j q : Nat} (h7 : Inv7 n C Z I L R M rn t) (hj : j < M) (hq : MOK n C Z I R j q 2) (kf : isa (C q) 1 = false) (kd : ¬ I 75 j = 1) (d0 : ¬ (eD false 2 (I q 2).toInt (fun i => (I (q + 1) i).toInt)) = 0) : Two 74 144 [some (.ref 1), some (.int (nI j)), some (.int 0), some (.int 1), some (.int 1), none] [some (.ref 74), some (.int (nI j)), some (.int 0), some (.int 1), some (.int 1)] (n, sl, C, Z, I, L, R) := by
  obtain ⟨hM12, hn98, ⟨hB, hK, hO, hE, hM⟩, ⟨e1, e2⟩, -⟩ := id h7
  have hB' := hB
  have hM' := hM
  unfold LayB at hB
  unfold LayM at hM
  have hE' := hE
  unfold LayE at hE'
  unfold Two
  obtain ⟨a1, a2, -⟩ := id hq
  have hq0 : ¬ q = 0 := by omega
  have hc := hq.cm
  have c73 : C 73 = 3 := by simp [hB]
  have kin : inG 7 (C q) = true := hc.1.1
  have a6 : I q 1 = nI 2 := hc.1.2.2.2.2.1
  have hu := hq.un
  have bA := hq.bns.1
  have zA := (hq.rm hM' (by omega)).2.2.2.2.2.2.2.2.2.1
  have n0 : nI 2 = 2 := rfl
  simp [S74_0, S74_1, S74_2, S87_0, at_yesG hB' hM12 hj, Call_in (k2 := 87), BS, ixs, inbs, le_nlt, hB, hE', e1, a1, hq0, kin, a6, n0]
  refine c_eFill_2t hc hE kf hu bA zA (fun L1 I1 fL fI v3 v5 => ?_)
  have iq : I1 q = I q := fI q (by omega)
  have i1 : I1 1 = I 1 := fI 1 (by omega)
  have e2' : I1 74 0 = nI M := by rw [fI 74 (by omega)]; exact e2
  have kd' : ¬ I1 75 j = 1 := by rw [fI 75 (by omega)]; exact kd
  have hr' := (hq.rm hM' (by omega)).keep (R' := R) (I' := I1) hM' (fun i h1 h2 => fI i (by omega))
  have k76 : I1 76 j = nI 2 := hr'.2.2.2.1
  have isy := is_yesG hM' hM12 hj n sl I1
  have j0 : inb (nI j) 12 = true := by rw [inb_nI (by omega)]; simp; omega
  have jx := ix_nI (show j < 2 ^ 31 by omega)
  have tn : I1 66 5 = 1 := by rw [v5.2, if_neg d0]
  have bN : bn 9223372036854775807 (eN false 2 (I q 2).toInt (fun i => (I (q + 1) i).toInt) 1) := bn_le (bn_eN hu bA 1) (by omega)
  have bD : bn 1125899906842623 (eD false 2 (I q 2).toInt (fun i => (I (q + 1) i).toInt)) := bn_le (bn_eD hu bA) (by omega)
  have v3n := v3.2 1 (by omega)
  simp [S74_0, S74_1, S74_2, S87_0, S7_0, Call_in (k2 := 87), Call_in (k2 := 7), BS, ixs, inbs, le_nlt, hB, hE', i1, iq, tn, v3n, v3.1]
  refine (c_put bN bD d0 c73 _ _ _ _ _).mpr ?_
  simp [S74_0, S74_1, S74_2, S7_0, S14_0, Call_in (k2 := 14), BS, ixs, inbs, le_nlt, hB, i1, c73, u2_rd]
  refine m_en_2t_01_1 hr' kd' hM12 hj e2' hu bA d0 (fun L2 f2 _ => ⟨rfl, ?_, by dsimp only; omega, by dsimp only; omega⟩)
  exact Inv_mk (h7.scr (fun i hi => by rw [f2 i (by omega) (by omega) (by omega) (by omega), u2_ne _ _ _ (by omega), u2_ne _ _ _ (by omega)]; exact fL i (by omega)) (fun i hi => fI i (by omega)) ⟨by rw [fI 74 (by omega)], by rw [fI 74 (by omega)], by rw [fI 74 (by omega)]⟩ (fun _ _ _ _ => rfl))
set_option maxRecDepth 100000 in
set_option maxHeartbeats 8000000 in
theorem en_yes_2t_10_0 {n sl : Nat} {C Z : Nat → Nat} {I : Nat → Nat → Int32} {L : Nat → Nat → Int64} {R : Nat → Nat → Nat} {M rn t j q : Nat} (h7 : Inv7 n C Z I L R M rn t) (hj : j < M) (hq : MOK n C Z I R j q 2) (kf : isa (C q) 1 = false) (kd : ¬ I 75 j = 1) (d0 : ¬ (eD false 2 (I q 2).toInt (fun i => (I (q + 1) i).toInt)) = 0) : Two 74 144 [some (.ref 1), some (.int (nI j)), some (.int 1), some (.int 0), some (.int 0), none] [some (.ref 74), some (.int (nI j)), some (.int 1), some (.int 0), some (.int 0)] (n, sl, C, Z, I, L, R) := by
  obtain ⟨hM12, hn98, ⟨hB, hK, hO, hE, hM⟩, ⟨e1, e2⟩, -⟩ := id h7
  have hB' := hB
  have hM' := hM
  unfold LayB at hB
  unfold LayM at hM
  have hE' := hE
  unfold LayE at hE'
  unfold Two
  obtain ⟨a1, a2, -⟩ := id hq
  have hq0 : ¬ q = 0 := by omega
  have hc := hq.cm
  have c73 : C 73 = 3 := by simp [hB]
  have kin : inG 7 (C q) = true := hc.1.1
  have a6 : I q 1 = nI 2 := hc.1.2.2.2.2.1
  have hu := hq.un
  have bA := hq.bns.1
  have zA := (hq.rm hM' (by omega)).2.2.2.2.2.2.2.2.2.1
  have n0 : nI 2 = 2 := rfl
  simp [S74_0, S74_1, S74_2, S87_0, at_yesG hB' hM12 hj, Call_in (k2 := 87), BS, ixs, inbs, le_nlt, hB, hE', e1, a1, hq0, kin, a6, n0]
  refine c_eFill_2t hc hE kf hu bA zA (fun L1 I1 fL fI v3 v5 => ?_)
  have iq : I1 q = I q := fI q (by omega)
  have i1 : I1 1 = I 1 := fI 1 (by omega)
  have e2' : I1 74 0 = nI M := by rw [fI 74 (by omega)]; exact e2
  have kd' : ¬ I1 75 j = 1 := by rw [fI 75 (by omega)]; exact kd
  have hr' := (hq.rm hM' (by omega)).keep (R' := R) (I' := I1) hM' (fun i h1 h2 => fI i (by omega))
  have k76 : I1 76 j = nI 2 := hr'.2.2.2.1
  have isy := is_yesG hM' hM12 hj n sl I1
  have j0 : inb (nI j) 12 = true := by rw [inb_nI (by omega)]; simp; omega
  have jx := ix_nI (show j < 2 ^ 31 by omega)
  have tn : I1 66 5 = 1 := by rw [v5.2, if_neg d0]
  have bN : bn 9223372036854775807 (eN false 2 (I q 2).toInt (fun i => (I (q + 1) i).toInt) 1) := bn_le (bn_eN hu bA 1) (by omega)
  have bD : bn 1125899906842623 (eD false 2 (I q 2).toInt (fun i => (I (q + 1) i).toInt)) := bn_le (bn_eD hu bA) (by omega)
  have v3n := v3.2 1 (by omega)
  simp [S74_0, S74_1, S74_2, S87_0, S7_0, Call_in (k2 := 87), Call_in (k2 := 7), BS, ixs, inbs, le_nlt, hB, hE', i1, iq, tn, v3n, v3.1]
  refine (c_put bN bD d0 c73 _ _ _ _ _).mpr ?_
  simp [S74_0, S74_1, S74_2, S7_0, S14_0, Call_in (k2 := 14), BS, ixs, inbs, le_nlt, hB, i1, c73, u2_rd]
  refine m_en_2t_10_0 hr' kd' hM12 hj e2' hu bA d0 (fun L2 f2 _ => ⟨rfl, ?_, by dsimp only; omega, by dsimp only; omega⟩)
  exact Inv_mk (h7.scr (fun i hi => by rw [f2 i (by omega) (by omega) (by omega) (by omega), u2_ne _ _ _ (by omega), u2_ne _ _ _ (by omega)]; exact fL i (by omega)) (fun i hi => fI i (by omega)) ⟨by rw [fI 74 (by omega)], by rw [fI 74 (by omega)], by rw [fI 74 (by omega)]⟩ (fun _ _ _ _ => rfl))
set_option maxRecDepth 100000 in
set_option maxHeartbeats 8000000 in
theorem en_yes_2t_10_1 {n sl : Nat} {C Z : Nat → Nat} {I : Nat → Nat → Int32} {L : Nat → Nat → Int64} {R : Nat → Nat → Nat} {M rn t j q : Nat} (h7 : Inv7 n C Z I L R M rn t) (hj : j < M) (hq : MOK n C Z I R j q 2) (kf : isa (C q) 1 = false) (kd : ¬ I 75 j = 1) (d0 : ¬ (eD false 2 (I q 2).toInt (fun i => (I (q + 1) i).toInt)) = 0) : Two 74 144 [some (.ref 1), some (.int (nI j)), some (.int 1), some (.int 0), some (.int 1), none] [some (.ref 74), some (.int (nI j)), some (.int 1), some (.int 0), some (.int 1)] (n, sl, C, Z, I, L, R) := by
  obtain ⟨hM12, hn98, ⟨hB, hK, hO, hE, hM⟩, ⟨e1, e2⟩, -⟩ := id h7
  have hB' := hB
  have hM' := hM
  unfold LayB at hB
  unfold LayM at hM
  have hE' := hE
  unfold LayE at hE'
  unfold Two
  obtain ⟨a1, a2, -⟩ := id hq
  have hq0 : ¬ q = 0 := by omega
  have hc := hq.cm
  have c73 : C 73 = 3 := by simp [hB]
  have kin : inG 7 (C q) = true := hc.1.1
  have a6 : I q 1 = nI 2 := hc.1.2.2.2.2.1
  have hu := hq.un
  have bA := hq.bns.1
  have zA := (hq.rm hM' (by omega)).2.2.2.2.2.2.2.2.2.1
  have n0 : nI 2 = 2 := rfl
  simp [S74_0, S74_1, S74_2, S87_0, at_yesG hB' hM12 hj, Call_in (k2 := 87), BS, ixs, inbs, le_nlt, hB, hE', e1, a1, hq0, kin, a6, n0]
  refine c_eFill_2t hc hE kf hu bA zA (fun L1 I1 fL fI v3 v5 => ?_)
  have iq : I1 q = I q := fI q (by omega)
  have i1 : I1 1 = I 1 := fI 1 (by omega)
  have e2' : I1 74 0 = nI M := by rw [fI 74 (by omega)]; exact e2
  have kd' : ¬ I1 75 j = 1 := by rw [fI 75 (by omega)]; exact kd
  have hr' := (hq.rm hM' (by omega)).keep (R' := R) (I' := I1) hM' (fun i h1 h2 => fI i (by omega))
  have k76 : I1 76 j = nI 2 := hr'.2.2.2.1
  have isy := is_yesG hM' hM12 hj n sl I1
  have j0 : inb (nI j) 12 = true := by rw [inb_nI (by omega)]; simp; omega
  have jx := ix_nI (show j < 2 ^ 31 by omega)
  have tn : I1 66 5 = 1 := by rw [v5.2, if_neg d0]
  have bN : bn 9223372036854775807 (eN false 2 (I q 2).toInt (fun i => (I (q + 1) i).toInt) 1) := bn_le (bn_eN hu bA 1) (by omega)
  have bD : bn 1125899906842623 (eD false 2 (I q 2).toInt (fun i => (I (q + 1) i).toInt)) := bn_le (bn_eD hu bA) (by omega)
  have v3n := v3.2 1 (by omega)
  simp [S74_0, S74_1, S74_2, S87_0, S7_0, Call_in (k2 := 87), Call_in (k2 := 7), BS, ixs, inbs, le_nlt, hB, hE', i1, iq, tn, v3n, v3.1]
  refine (c_put bN bD d0 c73 _ _ _ _ _).mpr ?_
  simp [S74_0, S74_1, S74_2, S7_0, S14_0, Call_in (k2 := 14), BS, ixs, inbs, le_nlt, hB, i1, c73, u2_rd]
  refine m_en_2t_10_1 hr' kd' hM12 hj e2' hu bA d0 (fun L2 f2 _ => ⟨rfl, ?_, by dsimp only; omega, by dsimp only; omega⟩)
  exact Inv_mk (h7.scr (fun i hi => by rw [f2 i (by omega) (by omega) (by omega) (by omega), u2_ne _ _ _ (by omega), u2_ne _ _ _ (by omega)]; exact fL i (by omega)) (fun i hi => fI i (by omega)) ⟨by rw [fI 74 (by omega)], by rw [fI 74 (by omega)], by rw [fI 74 (by omega)]⟩ (fun _ _ _ _ => rfl))
set_option maxRecDepth 100000 in
set_option maxHeartbeats 8000000 in
theorem en_yes_2t_11_0 {n sl : Nat} {C Z : Nat → Nat} {I : Nat → Nat → Int32} {L : Nat → Nat → Int64} {R : Nat → Nat → Nat} {M rn t j q : Nat} (h7 : Inv7 n C Z I L R M rn t) (hj : j < M) (hq : MOK n C Z I R j q 2) (kf : isa (C q) 1 = false) (kd : ¬ I 75 j = 1) (d0 : ¬ (eD false 2 (I q 2).toInt (fun i => (I (q + 1) i).toInt)) = 0) : Two 74 144 [some (.ref 1), some (.int (nI j)), some (.int 1), some (.int 1), some (.int 0), none] [some (.ref 74), some (.int (nI j)), some (.int 1), some (.int 1), some (.int 0)] (n, sl, C, Z, I, L, R) := by
  obtain ⟨hM12, hn98, ⟨hB, hK, hO, hE, hM⟩, ⟨e1, e2⟩, -⟩ := id h7
  have hB' := hB
  have hM' := hM
  unfold LayB at hB
  unfold LayM at hM
  have hE' := hE
  unfold LayE at hE'
  unfold Two
  obtain ⟨a1, a2, -⟩ := id hq
  have hq0 : ¬ q = 0 := by omega
  have hc := hq.cm
  have c73 : C 73 = 3 := by simp [hB]
  have kin : inG 7 (C q) = true := hc.1.1
  have a6 : I q 1 = nI 2 := hc.1.2.2.2.2.1
  have hu := hq.un
  have bA := hq.bns.1
  have zA := (hq.rm hM' (by omega)).2.2.2.2.2.2.2.2.2.1
  have n0 : nI 2 = 2 := rfl
  simp [S74_0, S74_1, S74_2, S87_0, at_yesG hB' hM12 hj, Call_in (k2 := 87), BS, ixs, inbs, le_nlt, hB, hE', e1, a1, hq0, kin, a6, n0]
  refine c_eFill_2t hc hE kf hu bA zA (fun L1 I1 fL fI v3 v5 => ?_)
  have iq : I1 q = I q := fI q (by omega)
  have i1 : I1 1 = I 1 := fI 1 (by omega)
  have e2' : I1 74 0 = nI M := by rw [fI 74 (by omega)]; exact e2
  have kd' : ¬ I1 75 j = 1 := by rw [fI 75 (by omega)]; exact kd
  have hr' := (hq.rm hM' (by omega)).keep (R' := R) (I' := I1) hM' (fun i h1 h2 => fI i (by omega))
  have k76 : I1 76 j = nI 2 := hr'.2.2.2.1
  have isy := is_yesG hM' hM12 hj n sl I1
  have j0 : inb (nI j) 12 = true := by rw [inb_nI (by omega)]; simp; omega
  have jx := ix_nI (show j < 2 ^ 31 by omega)
  have tn : I1 66 5 = 1 := by rw [v5.2, if_neg d0]
  have bN : bn 9223372036854775807 (eN false 2 (I q 2).toInt (fun i => (I (q + 1) i).toInt) 2) := bn_le (bn_eN hu bA 2) (by omega)
  have bD : bn 1125899906842623 (eD false 2 (I q 2).toInt (fun i => (I (q + 1) i).toInt)) := bn_le (bn_eD hu bA) (by omega)
  have v3n := v3.2 2 (by omega)
  simp [S74_0, S74_1, S74_2, S87_0, S7_0, Call_in (k2 := 87), Call_in (k2 := 7), BS, ixs, inbs, le_nlt, hB, hE', i1, iq, tn, v3n, v3.1]
  refine (c_put bN bD d0 c73 _ _ _ _ _).mpr ?_
  simp [S74_0, S74_1, S74_2, S7_0, S14_0, Call_in (k2 := 14), BS, ixs, inbs, le_nlt, hB, i1, c73, u2_rd]
  refine m_en_2t_11_0 hr' kd' hM12 hj e2' hu bA d0 (fun L2 f2 _ => ⟨rfl, ?_, by dsimp only; omega, by dsimp only; omega⟩)
  exact Inv_mk (h7.scr (fun i hi => by rw [f2 i (by omega) (by omega) (by omega) (by omega), u2_ne _ _ _ (by omega), u2_ne _ _ _ (by omega)]; exact fL i (by omega)) (fun i hi => fI i (by omega)) ⟨by rw [fI 74 (by omega)], by rw [fI 74 (by omega)], by rw [fI 74 (by omega)]⟩ (fun _ _ _ _ => rfl))
set_option maxRecDepth 100000 in
set_option maxHeartbeats 8000000 in
theorem en_yes_2t_11_1 {n sl : Nat} {C Z : Nat → Nat} {I : Nat → Nat → Int32} {L : Nat → Nat → Int64} {R : Nat → Nat → Nat} {M rn t j q : Nat} (h7 : Inv7 n C Z I L R M rn t) (hj : j < M) (hq : MOK n C Z I R j q 2) (kf : isa (C q) 1 = false) (kd : ¬ I 75 j = 1) (d0 : ¬ (eD false 2 (I q 2).toInt (fun i => (I (q + 1) i).toInt)) = 0) : Two 74 144 [some (.ref 1), some (.int (nI j)), some (.int 1), some (.int 1), some (.int 1), none] [some (.ref 74), some (.int (nI j)), some (.int 1), some (.int 1), some (.int 1)] (n, sl, C, Z, I, L, R) := by
  obtain ⟨hM12, hn98, ⟨hB, hK, hO, hE, hM⟩, ⟨e1, e2⟩, -⟩ := id h7
  have hB' := hB
  have hM' := hM
  unfold LayB at hB
  unfold LayM at hM
  have hE' := hE
  unfold LayE at hE'
  unfold Two
  obtain ⟨a1, a2, -⟩ := id hq
  have hq0 : ¬ q = 0 := by omega
  have hc := hq.cm
  have c73 : C 73 = 3 := by simp [hB]
  have kin : inG 7 (C q) = true := hc.1.1
  have a6 : I q 1 = nI 2 := hc.1.2.2.2.2.1
  have hu := hq.un
  have bA := hq.bns.1
  have zA := (hq.rm hM' (by omega)).2.2.2.2.2.2.2.2.2.1
  have n0 : nI 2 = 2 := rfl
  simp [S74_0, S74_1, S74_2, S87_0, at_yesG hB' hM12 hj, Call_in (k2 := 87), BS, ixs, inbs, le_nlt, hB, hE', e1, a1, hq0, kin, a6, n0]
  refine c_eFill_2t hc hE kf hu bA zA (fun L1 I1 fL fI v3 v5 => ?_)
  have iq : I1 q = I q := fI q (by omega)
  have i1 : I1 1 = I 1 := fI 1 (by omega)
  have e2' : I1 74 0 = nI M := by rw [fI 74 (by omega)]; exact e2
  have kd' : ¬ I1 75 j = 1 := by rw [fI 75 (by omega)]; exact kd
  have hr' := (hq.rm hM' (by omega)).keep (R' := R) (I' := I1) hM' (fun i h1 h2 => fI i (by omega))
  have k76 : I1 76 j = nI 2 := hr'.2.2.2.1
  have isy := is_yesG hM' hM12 hj n sl I1
  have j0 : inb (nI j) 12 = true := by rw [inb_nI (by omega)]; simp; omega
  have jx := ix_nI (show j < 2 ^ 31 by omega)
  have tn : I1 66 5 = 1 := by rw [v5.2, if_neg d0]
  have bN : bn 9223372036854775807 (eN false 2 (I q 2).toInt (fun i => (I (q + 1) i).toInt) 2) := bn_le (bn_eN hu bA 2) (by omega)
  have bD : bn 1125899906842623 (eD false 2 (I q 2).toInt (fun i => (I (q + 1) i).toInt)) := bn_le (bn_eD hu bA) (by omega)
  have v3n := v3.2 2 (by omega)
  simp [S74_0, S74_1, S74_2, S87_0, S7_0, Call_in (k2 := 87), Call_in (k2 := 7), BS, ixs, inbs, le_nlt, hB, hE', i1, iq, tn, v3n, v3.1]
  refine (c_put bN bD d0 c73 _ _ _ _ _).mpr ?_
  simp [S74_0, S74_1, S74_2, S7_0, S14_0, Call_in (k2 := 14), BS, ixs, inbs, le_nlt, hB, i1, c73, u2_rd]
  refine m_en_2t_11_1 hr' kd' hM12 hj e2' hu bA d0 (fun L2 f2 _ => ⟨rfl, ?_, by dsimp only; omega, by dsimp only; omega⟩)
  exact Inv_mk (h7.scr (fun i hi => by rw [f2 i (by omega) (by omega) (by omega) (by omega), u2_ne _ _ _ (by omega), u2_ne _ _ _ (by omega)]; exact fL i (by omega)) (fun i hi => fI i (by omega)) ⟨by rw [fI 74 (by omega)], by rw [fI 74 (by omega)], by rw [fI 74 (by omega)]⟩ (fun _ _ _ _ => rfl))
set_option maxRecDepth 100000 in
set_option maxHeartbeats 8000000 in
theorem en_bad_1f {n sl : Nat} {C Z : Nat → Nat} {I : Nat → Nat → Int32} {L : Nat → Nat → Int64} {R : Nat → Nat → Nat} {M rn t j q i k : Nat} (h7 : Inv7 n C Z I L R M rn t) (hj : j < M) (hq : MOK n C Z I R j q 1) (kf : isa (C q) 1 = true) (kd : I 75 j = 1) (hi : i < 1) (hk : k < 1) (wh : Int32) (hw : wh < 0 ∨ (1 : Int32) < wh) : Two 74 144 [some (.ref 1), some (.int (nI j)), some (.int (nI i)), some (.int (nI k)), some (.int wh), none] [some (.ref 74), some (.int (nI j)), some (.int (nI i)), some (.int (nI k)), some (.int wh)] (n, sl, C, Z, I, L, R) := by
  obtain ⟨hM12, hn98, ⟨hB, hK, hO, hE, hM⟩, ⟨e1, e2⟩, -⟩ := id h7
  have hB' := hB
  have hM' := hM
  unfold LayB at hB
  unfold LayM at hM
  have hE' := hE
  unfold LayE at hE'
  unfold Two
  obtain ⟨a1, a2, -⟩ := id hq
  have hq0 : ¬ q = 0 := by omega
  have hc := hq.cm
  have c73 : C 73 = 3 := by simp [hB]
  have kin : inG 7 (C q) = true := hc.1.1
  have a6 : I q 1 = nI 1 := hc.1.2.2.2.2.1
  have hu := hq.un
  have bA := hq.bns.1
  have zA := (hq.rm hM' (by omega)).2.2.2.2.2.2.2.2.2.1
  have n0 : nI 1 = 1 := rfl
  have ip : ¬ nI i < 0 := nI_nneg (by omega)
  have kp : ¬ nI k < 0 := nI_nneg (by omega)
  have il : ¬ (0 : Int32) < nI i := nI_nlt (b := i) (a := 0) (by omega) (by omega)
  have kl : ¬ (0 : Int32) < nI k := nI_nlt (b := k) (a := 0) (by omega) (by omega)
  have im : nI i < 1 := nI_lt (b := 1) (by omega) (by omega)
  have km : nI k < 1 := nI_lt (b := 1) (by omega) (by omega)
  simp [S74_0, S74_1, S74_2, S87_0, at_yesG hB' hM12 hj, Call_in (k2 := 87), BS, ixs, inbs, le_nlt, hB, hE', e1, a1, hq0, kin, a6, n0, ip, kp, il, kl]
  refine c_eFill_1f hc hE kf hu bA zA (fun L1 I1 fL fI v3 v5 => ?_)
  have iq : I1 q = I q := fI q (by omega)
  have i1 : I1 1 = I 1 := fI 1 (by omega)
  have e2' : I1 74 0 = nI M := by rw [fI 74 (by omega)]; exact e2
  have kd' : I1 75 j = 1 := by rw [fI 75 (by omega)]; exact kd
  have hr' := (hq.rm hM' (by omega)).keep (R' := R) (I' := I1) hM' (fun i h1 h2 => fI i (by omega))
  have k76 : I1 76 j = nI 1 := hr'.2.2.2.1
  have isy := is_yesG hM' hM12 hj n sl I1
  have j0 : inb (nI j) 12 = true := by rw [inb_nI (by omega)]; simp; omega
  have jx := ix_nI (show j < 2 ^ 31 by omega)
  have tn : I1 66 5 = 0 ∨ I1 66 5 = 1 := by rw [v5.2]; split <;> simp
  have fin : Inv (n, sl, C, Z, I1, L1, R) := Inv_mk (h7.scr (fun i hi => by exact fL i (by omega)) (fun i hi => fI i (by omega)) ⟨by rw [fI 74 (by omega)], by rw [fI 74 (by omega)], by rw [fI 74 (by omega)]⟩ (fun _ _ _ _ => rfl))
  rcases hw with w0 | w0
  · rcases tn with tn | tn <;> simp [S74_0, S74_1, S74_2, S144_0, S144_1, S144_2, S87_0, Call_in (k2 := 87), BS, ixs, inbs, le_nlt, hB, hE', hM, i1, iq, tn, w0, isy, e2', j0, jx, k76, n0, ip, kp, il, kl, im, km, fin]
  · have w1 : ¬ wh < 0 := fun h => by have := Int32.lt_trans h (Int32.lt_trans (by decide : (0 : Int32) < 1) w0); simp at this
    rcases tn with tn | tn <;> simp [S74_0, S74_1, S74_2, S144_0, S144_1, S144_2, S87_0, Call_in (k2 := 87), BS, ixs, inbs, le_nlt, hB, hE', hM, i1, iq, tn, w0, w1, isy, e2', j0, jx, k76, n0, ip, kp, il, kl, im, km, fin]
set_option maxRecDepth 100000 in
set_option maxHeartbeats 8000000 in
theorem en_no_1f {n sl : Nat} {C Z : Nat → Nat} {I : Nat → Nat → Int32} {L : Nat → Nat → Int64} {R : Nat → Nat → Nat} {M rn t j q i k : Nat} (h7 : Inv7 n C Z I L R M rn t) (hj : j < M) (hq : MOK n C Z I R j q 1) (kf : isa (C q) 1 = true) (kd : I 75 j = 1) (d0 : (eD true 1 (I q 2).toInt (fun i => (I (q + 1) i).toInt)) = 0) (hi : i < 1) (hk : k < 1) (wh : Int32) (hw : wh = 0 ∨ wh = 1) : Two 74 144 [some (.ref 1), some (.int (nI j)), some (.int (nI i)), some (.int (nI k)), some (.int wh), none] [some (.ref 74), some (.int (nI j)), some (.int (nI i)), some (.int (nI k)), some (.int wh)] (n, sl, C, Z, I, L, R) := by
  obtain ⟨hM12, hn98, ⟨hB, hK, hO, hE, hM⟩, ⟨e1, e2⟩, -⟩ := id h7
  have hB' := hB
  have hM' := hM
  unfold LayB at hB
  unfold LayM at hM
  have hE' := hE
  unfold LayE at hE'
  unfold Two
  obtain ⟨a1, a2, -⟩ := id hq
  have hq0 : ¬ q = 0 := by omega
  have hc := hq.cm
  have c73 : C 73 = 3 := by simp [hB]
  have kin : inG 7 (C q) = true := hc.1.1
  have a6 : I q 1 = nI 1 := hc.1.2.2.2.2.1
  have hu := hq.un
  have bA := hq.bns.1
  have zA := (hq.rm hM' (by omega)).2.2.2.2.2.2.2.2.2.1
  have n0 : nI 1 = 1 := rfl
  have ip : ¬ nI i < 0 := nI_nneg (by omega)
  have kp : ¬ nI k < 0 := nI_nneg (by omega)
  have il : ¬ (0 : Int32) < nI i := nI_nlt (b := i) (a := 0) (by omega) (by omega)
  have kl : ¬ (0 : Int32) < nI k := nI_nlt (b := k) (a := 0) (by omega) (by omega)
  have im : nI i < 1 := nI_lt (b := 1) (by omega) (by omega)
  have km : nI k < 1 := nI_lt (b := 1) (by omega) (by omega)
  simp [S74_0, S74_1, S74_2, S87_0, at_yesG hB' hM12 hj, Call_in (k2 := 87), BS, ixs, inbs, le_nlt, hB, hE', e1, a1, hq0, kin, a6, n0, ip, kp, il, kl]
  refine c_eFill_1f hc hE kf hu bA zA (fun L1 I1 fL fI v3 v5 => ?_)
  have iq : I1 q = I q := fI q (by omega)
  have i1 : I1 1 = I 1 := fI 1 (by omega)
  have e2' : I1 74 0 = nI M := by rw [fI 74 (by omega)]; exact e2
  have kd' : I1 75 j = 1 := by rw [fI 75 (by omega)]; exact kd
  have hr' := (hq.rm hM' (by omega)).keep (R' := R) (I' := I1) hM' (fun i h1 h2 => fI i (by omega))
  have k76 : I1 76 j = nI 1 := hr'.2.2.2.1
  have isy := is_yesG hM' hM12 hj n sl I1
  have j0 : inb (nI j) 12 = true := by rw [inb_nI (by omega)]; simp; omega
  have jx := ix_nI (show j < 2 ^ 31 by omega)
  have tn : I1 66 5 = 0 := by rw [v5.2, if_pos d0]
  rcases hw with rfl | rfl
  all_goals
    simp [S74_0, S74_1, S74_2, S144_0, S144_1, S144_2, S87_0, Call_in (k2 := 87), BS, ixs, inbs, le_nlt, hB, hE', hM, i1, iq, tn, isy, e2', j0, jx, k76, n0, ip, kp, il, kl, im, km]
    refine m_has_1f hr' kd' hu bA (fun L2 f2 _ => ?_)
    rw [if_pos d0]
    have fin : Inv (n, sl, C, Z, I1, L2, R) := Inv_mk (h7.scr (fun i hi => by rw [f2 i (by omega) (by omega) (by omega)]; exact fL i (by omega)) (fun i hi => fI i (by omega)) ⟨by rw [fI 74 (by omega)], by rw [fI 74 (by omega)], by rw [fI 74 (by omega)]⟩ (fun _ _ _ _ => rfl))
    simp [S144_0, S144_1, S144_2, BS, ixs, inbs, fin]
set_option maxRecDepth 100000 in
set_option maxHeartbeats 8000000 in
theorem en_bad_2f {n sl : Nat} {C Z : Nat → Nat} {I : Nat → Nat → Int32} {L : Nat → Nat → Int64} {R : Nat → Nat → Nat} {M rn t j q i k : Nat} (h7 : Inv7 n C Z I L R M rn t) (hj : j < M) (hq : MOK n C Z I R j q 2) (kf : isa (C q) 1 = true) (kd : I 75 j = 1) (hi : i < 2) (hk : k < 2) (wh : Int32) (hw : wh < 0 ∨ (1 : Int32) < wh) : Two 74 144 [some (.ref 1), some (.int (nI j)), some (.int (nI i)), some (.int (nI k)), some (.int wh), none] [some (.ref 74), some (.int (nI j)), some (.int (nI i)), some (.int (nI k)), some (.int wh)] (n, sl, C, Z, I, L, R) := by
  obtain ⟨hM12, hn98, ⟨hB, hK, hO, hE, hM⟩, ⟨e1, e2⟩, -⟩ := id h7
  have hB' := hB
  have hM' := hM
  unfold LayB at hB
  unfold LayM at hM
  have hE' := hE
  unfold LayE at hE'
  unfold Two
  obtain ⟨a1, a2, -⟩ := id hq
  have hq0 : ¬ q = 0 := by omega
  have hc := hq.cm
  have c73 : C 73 = 3 := by simp [hB]
  have kin : inG 7 (C q) = true := hc.1.1
  have a6 : I q 1 = nI 2 := hc.1.2.2.2.2.1
  have hu := hq.un
  have bA := hq.bns.1
  have zA := (hq.rm hM' (by omega)).2.2.2.2.2.2.2.2.2.1
  have n0 : nI 2 = 2 := rfl
  have ip : ¬ nI i < 0 := nI_nneg (by omega)
  have kp : ¬ nI k < 0 := nI_nneg (by omega)
  have il : ¬ (1 : Int32) < nI i := nI_nlt (b := i) (a := 1) (by omega) (by omega)
  have kl : ¬ (1 : Int32) < nI k := nI_nlt (b := k) (a := 1) (by omega) (by omega)
  have im : nI i < 2 := nI_lt (b := 2) (by omega) (by omega)
  have km : nI k < 2 := nI_lt (b := 2) (by omega) (by omega)
  simp [S74_0, S74_1, S74_2, S87_0, at_yesG hB' hM12 hj, Call_in (k2 := 87), BS, ixs, inbs, le_nlt, hB, hE', e1, a1, hq0, kin, a6, n0, ip, kp, il, kl]
  refine c_eFill_2f hc hE kf hu bA zA (fun L1 I1 fL fI v3 v5 => ?_)
  have iq : I1 q = I q := fI q (by omega)
  have i1 : I1 1 = I 1 := fI 1 (by omega)
  have e2' : I1 74 0 = nI M := by rw [fI 74 (by omega)]; exact e2
  have kd' : I1 75 j = 1 := by rw [fI 75 (by omega)]; exact kd
  have hr' := (hq.rm hM' (by omega)).keep (R' := R) (I' := I1) hM' (fun i h1 h2 => fI i (by omega))
  have k76 : I1 76 j = nI 2 := hr'.2.2.2.1
  have isy := is_yesG hM' hM12 hj n sl I1
  have j0 : inb (nI j) 12 = true := by rw [inb_nI (by omega)]; simp; omega
  have jx := ix_nI (show j < 2 ^ 31 by omega)
  have tn : I1 66 5 = 0 ∨ I1 66 5 = 1 := by rw [v5.2]; split <;> simp
  have fin : Inv (n, sl, C, Z, I1, L1, R) := Inv_mk (h7.scr (fun i hi => by exact fL i (by omega)) (fun i hi => fI i (by omega)) ⟨by rw [fI 74 (by omega)], by rw [fI 74 (by omega)], by rw [fI 74 (by omega)]⟩ (fun _ _ _ _ => rfl))
  rcases hw with w0 | w0
  · rcases tn with tn | tn <;> simp [S74_0, S74_1, S74_2, S144_0, S144_1, S144_2, S87_0, Call_in (k2 := 87), BS, ixs, inbs, le_nlt, hB, hE', hM, i1, iq, tn, w0, isy, e2', j0, jx, k76, n0, ip, kp, il, kl, im, km, fin]
  · have w1 : ¬ wh < 0 := fun h => by have := Int32.lt_trans h (Int32.lt_trans (by decide : (0 : Int32) < 1) w0); simp at this
    rcases tn with tn | tn <;> simp [S74_0, S74_1, S74_2, S144_0, S144_1, S144_2, S87_0, Call_in (k2 := 87), BS, ixs, inbs, le_nlt, hB, hE', hM, i1, iq, tn, w0, w1, isy, e2', j0, jx, k76, n0, ip, kp, il, kl, im, km, fin]
set_option maxRecDepth 100000 in
set_option maxHeartbeats 8000000 in
theorem en_no_2f {n sl : Nat} {C Z : Nat → Nat} {I : Nat → Nat → Int32} {L : Nat → Nat → Int64} {R : Nat → Nat → Nat} {M rn t j q i k : Nat} (h7 : Inv7 n C Z I L R M rn t) (hj : j < M) (hq : MOK n C Z I R j q 2) (kf : isa (C q) 1 = true) (kd : I 75 j = 1) (d0 : (eD true 2 (I q 2).toInt (fun i => (I (q + 1) i).toInt)) = 0) (hi : i < 2) (hk : k < 2) (wh : Int32) (hw : wh = 0 ∨ wh = 1) : Two 74 144 [some (.ref 1), some (.int (nI j)), some (.int (nI i)), some (.int (nI k)), some (.int wh), none] [some (.ref 74), some (.int (nI j)), some (.int (nI i)), some (.int (nI k)), some (.int wh)] (n, sl, C, Z, I, L, R) := by
  obtain ⟨hM12, hn98, ⟨hB, hK, hO, hE, hM⟩, ⟨e1, e2⟩, -⟩ := id h7
  have hB' := hB
  have hM' := hM
  unfold LayB at hB
  unfold LayM at hM
  have hE' := hE
  unfold LayE at hE'
  unfold Two
  obtain ⟨a1, a2, -⟩ := id hq
  have hq0 : ¬ q = 0 := by omega
  have hc := hq.cm
  have c73 : C 73 = 3 := by simp [hB]
  have kin : inG 7 (C q) = true := hc.1.1
  have a6 : I q 1 = nI 2 := hc.1.2.2.2.2.1
  have hu := hq.un
  have bA := hq.bns.1
  have zA := (hq.rm hM' (by omega)).2.2.2.2.2.2.2.2.2.1
  have n0 : nI 2 = 2 := rfl
  have ip : ¬ nI i < 0 := nI_nneg (by omega)
  have kp : ¬ nI k < 0 := nI_nneg (by omega)
  have il : ¬ (1 : Int32) < nI i := nI_nlt (b := i) (a := 1) (by omega) (by omega)
  have kl : ¬ (1 : Int32) < nI k := nI_nlt (b := k) (a := 1) (by omega) (by omega)
  have im : nI i < 2 := nI_lt (b := 2) (by omega) (by omega)
  have km : nI k < 2 := nI_lt (b := 2) (by omega) (by omega)
  simp [S74_0, S74_1, S74_2, S87_0, at_yesG hB' hM12 hj, Call_in (k2 := 87), BS, ixs, inbs, le_nlt, hB, hE', e1, a1, hq0, kin, a6, n0, ip, kp, il, kl]
  refine c_eFill_2f hc hE kf hu bA zA (fun L1 I1 fL fI v3 v5 => ?_)
  have iq : I1 q = I q := fI q (by omega)
  have i1 : I1 1 = I 1 := fI 1 (by omega)
  have e2' : I1 74 0 = nI M := by rw [fI 74 (by omega)]; exact e2
  have kd' : I1 75 j = 1 := by rw [fI 75 (by omega)]; exact kd
  have hr' := (hq.rm hM' (by omega)).keep (R' := R) (I' := I1) hM' (fun i h1 h2 => fI i (by omega))
  have k76 : I1 76 j = nI 2 := hr'.2.2.2.1
  have isy := is_yesG hM' hM12 hj n sl I1
  have j0 : inb (nI j) 12 = true := by rw [inb_nI (by omega)]; simp; omega
  have jx := ix_nI (show j < 2 ^ 31 by omega)
  have tn : I1 66 5 = 0 := by rw [v5.2, if_pos d0]
  rcases hw with rfl | rfl
  all_goals
    simp [S74_0, S74_1, S74_2, S144_0, S144_1, S144_2, S87_0, Call_in (k2 := 87), BS, ixs, inbs, le_nlt, hB, hE', hM, i1, iq, tn, isy, e2', j0, jx, k76, n0, ip, kp, il, kl, im, km]
    refine m_has_2f hr' kd' hu bA (fun L2 f2 _ => ?_)
    rw [if_pos d0]
    have fin : Inv (n, sl, C, Z, I1, L2, R) := Inv_mk (h7.scr (fun i hi => by rw [f2 i (by omega) (by omega) (by omega)]; exact fL i (by omega)) (fun i hi => fI i (by omega)) ⟨by rw [fI 74 (by omega)], by rw [fI 74 (by omega)], by rw [fI 74 (by omega)]⟩ (fun _ _ _ _ => rfl))
    simp [S144_0, S144_1, S144_2, BS, ixs, inbs, fin]
set_option maxRecDepth 100000 in
set_option maxHeartbeats 8000000 in
theorem en_bad_3f {n sl : Nat} {C Z : Nat → Nat} {I : Nat → Nat → Int32} {L : Nat → Nat → Int64} {R : Nat → Nat → Nat} {M rn t j q i k : Nat} (h7 : Inv7 n C Z I L R M rn t) (hj : j < M) (hq : MOK n C Z I R j q 3) (kf : isa (C q) 1 = true) (kd : I 75 j = 1) (hi : i < 3) (hk : k < 3) (wh : Int32) (hw : wh < 0 ∨ (1 : Int32) < wh) : Two 74 144 [some (.ref 1), some (.int (nI j)), some (.int (nI i)), some (.int (nI k)), some (.int wh), none] [some (.ref 74), some (.int (nI j)), some (.int (nI i)), some (.int (nI k)), some (.int wh)] (n, sl, C, Z, I, L, R) := by
  obtain ⟨hM12, hn98, ⟨hB, hK, hO, hE, hM⟩, ⟨e1, e2⟩, -⟩ := id h7
  have hB' := hB
  have hM' := hM
  unfold LayB at hB
  unfold LayM at hM
  have hE' := hE
  unfold LayE at hE'
  unfold Two
  obtain ⟨a1, a2, -⟩ := id hq
  have hq0 : ¬ q = 0 := by omega
  have hc := hq.cm
  have c73 : C 73 = 3 := by simp [hB]
  have kin : inG 7 (C q) = true := hc.1.1
  have a6 : I q 1 = nI 3 := hc.1.2.2.2.2.1
  have hu := hq.un
  have bA := hq.bns.1
  have zA := (hq.rm hM' (by omega)).2.2.2.2.2.2.2.2.2.1
  have n0 : nI 3 = 3 := rfl
  have ip : ¬ nI i < 0 := nI_nneg (by omega)
  have kp : ¬ nI k < 0 := nI_nneg (by omega)
  have il : ¬ (2 : Int32) < nI i := nI_nlt (b := i) (a := 2) (by omega) (by omega)
  have kl : ¬ (2 : Int32) < nI k := nI_nlt (b := k) (a := 2) (by omega) (by omega)
  have im : nI i < 3 := nI_lt (b := 3) (by omega) (by omega)
  have km : nI k < 3 := nI_lt (b := 3) (by omega) (by omega)
  simp [S74_0, S74_1, S74_2, S87_0, at_yesG hB' hM12 hj, Call_in (k2 := 87), BS, ixs, inbs, le_nlt, hB, hE', e1, a1, hq0, kin, a6, n0, ip, kp, il, kl]
  refine c_eAt3 hc hE (fun I1 fI v4 v5 => ?_)
  have fL : ∀ c, c < 66 ∨ 72 < c → L c = L c := fun _ _ => rfl
  have iq : I1 q = I q := fI q (by omega)
  have i1 : I1 1 = I 1 := fI 1 (by omega)
  have e2' : I1 74 0 = nI M := by rw [fI 74 (by omega)]; exact e2
  have kd' : I1 75 j = 1 := by rw [fI 75 (by omega)]; exact kd
  have hr' := (hq.rm hM' (by omega)).keep (R' := R) (I' := I1) hM' (fun i h1 h2 => fI i (by omega))
  have k76 : I1 76 j = nI 3 := hr'.2.2.2.1
  have isy := is_yesG hM' hM12 hj n sl I1
  have j0 : inb (nI j) 12 = true := by rw [inb_nI (by omega)]; simp; omega
  have jx := ix_nI (show j < 2 ^ 31 by omega)
  have tn : I1 66 5 = 0 ∨ I1 66 5 = 1 := Or.inl v5
  have fin : Inv (n, sl, C, Z, I1, L, R) := Inv_mk (h7.scr (fun i hi => by exact fL i (by omega)) (fun i hi => fI i (by omega)) ⟨by rw [fI 74 (by omega)], by rw [fI 74 (by omega)], by rw [fI 74 (by omega)]⟩ (fun _ _ _ _ => rfl))
  rcases hw with w0 | w0
  · rcases tn with tn | tn <;> simp [S74_0, S74_1, S74_2, S144_0, S144_1, S144_2, S87_0, Call_in (k2 := 87), BS, ixs, inbs, le_nlt, hB, hE', hM, i1, iq, tn, w0, isy, e2', j0, jx, k76, n0, ip, kp, il, kl, im, km, fin]
  · have w1 : ¬ wh < 0 := fun h => by have := Int32.lt_trans h (Int32.lt_trans (by decide : (0 : Int32) < 1) w0); simp at this
    rcases tn with tn | tn <;> simp [S74_0, S74_1, S74_2, S144_0, S144_1, S144_2, S87_0, Call_in (k2 := 87), BS, ixs, inbs, le_nlt, hB, hE', hM, i1, iq, tn, w0, w1, isy, e2', j0, jx, k76, n0, ip, kp, il, kl, im, km, fin]
set_option maxRecDepth 100000 in
set_option maxHeartbeats 8000000 in
theorem en_no_3f {n sl : Nat} {C Z : Nat → Nat} {I : Nat → Nat → Int32} {L : Nat → Nat → Int64} {R : Nat → Nat → Nat} {M rn t j q i k : Nat} (h7 : Inv7 n C Z I L R M rn t) (hj : j < M) (hq : MOK n C Z I R j q 3) (kf : isa (C q) 1 = true) (kd : I 75 j = 1) (hi : i < 3) (hk : k < 3) (wh : Int32) (hw : wh = 0 ∨ wh = 1) : Two 74 144 [some (.ref 1), some (.int (nI j)), some (.int (nI i)), some (.int (nI k)), some (.int wh), none] [some (.ref 74), some (.int (nI j)), some (.int (nI i)), some (.int (nI k)), some (.int wh)] (n, sl, C, Z, I, L, R) := by
  obtain ⟨hM12, hn98, ⟨hB, hK, hO, hE, hM⟩, ⟨e1, e2⟩, -⟩ := id h7
  have hB' := hB
  have hM' := hM
  unfold LayB at hB
  unfold LayM at hM
  have hE' := hE
  unfold LayE at hE'
  unfold Two
  obtain ⟨a1, a2, -⟩ := id hq
  have hq0 : ¬ q = 0 := by omega
  have hc := hq.cm
  have c73 : C 73 = 3 := by simp [hB]
  have kin : inG 7 (C q) = true := hc.1.1
  have a6 : I q 1 = nI 3 := hc.1.2.2.2.2.1
  have hu := hq.un
  have bA := hq.bns.1
  have zA := (hq.rm hM' (by omega)).2.2.2.2.2.2.2.2.2.1
  have n0 : nI 3 = 3 := rfl
  have ip : ¬ nI i < 0 := nI_nneg (by omega)
  have kp : ¬ nI k < 0 := nI_nneg (by omega)
  have il : ¬ (2 : Int32) < nI i := nI_nlt (b := i) (a := 2) (by omega) (by omega)
  have kl : ¬ (2 : Int32) < nI k := nI_nlt (b := k) (a := 2) (by omega) (by omega)
  have im : nI i < 3 := nI_lt (b := 3) (by omega) (by omega)
  have km : nI k < 3 := nI_lt (b := 3) (by omega) (by omega)
  simp [S74_0, S74_1, S74_2, S87_0, at_yesG hB' hM12 hj, Call_in (k2 := 87), BS, ixs, inbs, le_nlt, hB, hE', e1, a1, hq0, kin, a6, n0, ip, kp, il, kl]
  refine c_eAt3 hc hE (fun I1 fI v4 v5 => ?_)
  have fL : ∀ c, c < 66 ∨ 72 < c → L c = L c := fun _ _ => rfl
  have iq : I1 q = I q := fI q (by omega)
  have i1 : I1 1 = I 1 := fI 1 (by omega)
  have e2' : I1 74 0 = nI M := by rw [fI 74 (by omega)]; exact e2
  have kd' : I1 75 j = 1 := by rw [fI 75 (by omega)]; exact kd
  have hr' := (hq.rm hM' (by omega)).keep (R' := R) (I' := I1) hM' (fun i h1 h2 => fI i (by omega))
  have k76 : I1 76 j = nI 3 := hr'.2.2.2.1
  have isy := is_yesG hM' hM12 hj n sl I1
  have j0 : inb (nI j) 12 = true := by rw [inb_nI (by omega)]; simp; omega
  have jx := ix_nI (show j < 2 ^ 31 by omega)
  have tn : I1 66 5 = 0 := v5
  rcases hw with rfl | rfl
  all_goals
    simp [S74_0, S74_1, S74_2, S144_0, S144_1, S144_2, S87_0, Call_in (k2 := 87), BS, ixs, inbs, le_nlt, hB, hE', hM, i1, iq, tn, isy, e2', j0, jx, k76, n0, ip, kp, il, kl, im, km]
    refine m_has_3f hr' kd' hu bA (fun L2 f2 _ => ?_)
    have fin : Inv (n, sl, C, Z, I1, L2, R) := Inv_mk (h7.scr (fun i hi => by rw [f2 i (by omega) (by omega) (by omega)]) (fun i hi => fI i (by omega)) ⟨by rw [fI 74 (by omega)], by rw [fI 74 (by omega)], by rw [fI 74 (by omega)]⟩ (fun _ _ _ _ => rfl))
    simp [S144_0, S144_1, S144_2, BS, ixs, inbs, fin]
set_option maxRecDepth 100000 in
set_option maxHeartbeats 8000000 in
theorem en_yes_1f_00_0 {n sl : Nat} {C Z : Nat → Nat} {I : Nat → Nat → Int32} {L : Nat → Nat → Int64} {R : Nat → Nat → Nat} {M rn t j q : Nat} (h7 : Inv7 n C Z I L R M rn t) (hj : j < M) (hq : MOK n C Z I R j q 1) (kf : isa (C q) 1 = true) (kd : I 75 j = 1) (d0 : ¬ (eD true 1 (I q 2).toInt (fun i => (I (q + 1) i).toInt)) = 0) : Two 74 144 [some (.ref 1), some (.int (nI j)), some (.int 0), some (.int 0), some (.int 0), none] [some (.ref 74), some (.int (nI j)), some (.int 0), some (.int 0), some (.int 0)] (n, sl, C, Z, I, L, R) := by
  obtain ⟨hM12, hn98, ⟨hB, hK, hO, hE, hM⟩, ⟨e1, e2⟩, -⟩ := id h7
  have hB' := hB
  have hM' := hM
  unfold LayB at hB
  unfold LayM at hM
  have hE' := hE
  unfold LayE at hE'
  unfold Two
  obtain ⟨a1, a2, -⟩ := id hq
  have hq0 : ¬ q = 0 := by omega
  have hc := hq.cm
  have c73 : C 73 = 3 := by simp [hB]
  have kin : inG 7 (C q) = true := hc.1.1
  have a6 : I q 1 = nI 1 := hc.1.2.2.2.2.1
  have hu := hq.un
  have bA := hq.bns.1
  have zA := (hq.rm hM' (by omega)).2.2.2.2.2.2.2.2.2.1
  have n0 : nI 1 = 1 := rfl
  simp [S74_0, S74_1, S74_2, S87_0, at_yesG hB' hM12 hj, Call_in (k2 := 87), BS, ixs, inbs, le_nlt, hB, hE', e1, a1, hq0, kin, a6, n0]
  refine c_eFill_1f hc hE kf hu bA zA (fun L1 I1 fL fI v3 v5 => ?_)
  have iq : I1 q = I q := fI q (by omega)
  have i1 : I1 1 = I 1 := fI 1 (by omega)
  have e2' : I1 74 0 = nI M := by rw [fI 74 (by omega)]; exact e2
  have kd' : I1 75 j = 1 := by rw [fI 75 (by omega)]; exact kd
  have hr' := (hq.rm hM' (by omega)).keep (R' := R) (I' := I1) hM' (fun i h1 h2 => fI i (by omega))
  have k76 : I1 76 j = nI 1 := hr'.2.2.2.1
  have isy := is_yesG hM' hM12 hj n sl I1
  have j0 : inb (nI j) 12 = true := by rw [inb_nI (by omega)]; simp; omega
  have jx := ix_nI (show j < 2 ^ 31 by omega)
  have tn : I1 66 5 = 1 := by rw [v5.2, if_neg d0]
  have bN : bn 9223372036854775807 (eN true 1 (I q 2).toInt (fun i => (I (q + 1) i).toInt) 0) := bn_le (bn_eN hu bA 0) (by omega)
  have bD : bn 1125899906842623 (eD true 1 (I q 2).toInt (fun i => (I (q + 1) i).toInt)) := bn_le (bn_eD hu bA) (by omega)
  have v3n := v3.2 0 (by omega)
  simp [S74_0, S74_1, S74_2, S87_0, S7_0, Call_in (k2 := 87), Call_in (k2 := 7), BS, ixs, inbs, le_nlt, hB, hE', i1, iq, tn, v3n, v3.1]
  refine (c_put bN bD d0 c73 _ _ _ _ _).mpr ?_
  simp [S74_0, S74_1, S74_2, S7_0, S14_0, Call_in (k2 := 14), BS, ixs, inbs, le_nlt, hB, i1, c73, u2_rd]
  refine m_en_1f_00_0 hr' kd' hM12 hj e2' hu bA d0 (fun L2 f2 _ => ⟨rfl, ?_, by dsimp only; omega, by dsimp only; omega⟩)
  exact Inv_mk (h7.scr (fun i hi => by rw [f2 i (by omega) (by omega) (by omega) (by omega), u2_ne _ _ _ (by omega), u2_ne _ _ _ (by omega)]; exact fL i (by omega)) (fun i hi => fI i (by omega)) ⟨by rw [fI 74 (by omega)], by rw [fI 74 (by omega)], by rw [fI 74 (by omega)]⟩ (fun _ _ _ _ => rfl))
set_option maxRecDepth 100000 in
set_option maxHeartbeats 8000000 in
theorem en_yes_1f_00_1 {n sl : Nat} {C Z : Nat → Nat} {I : Nat → Nat → Int32} {L : Nat → Nat → Int64} {R : Nat → Nat → Nat} {M rn t j q : Nat} (h7 : Inv7 n C Z I L R M rn t) (hj : j < M) (hq : MOK n C Z I R j q 1) (kf : isa (C q) 1 = true) (kd : I 75 j = 1) (d0 : ¬ (eD true 1 (I q 2).toInt (fun i => (I (q + 1) i).toInt)) = 0) : Two 74 144 [some (.ref 1), some (.int (nI j)), some (.int 0), some (.int 0), some (.int 1), none] [some (.ref 74), some (.int (nI j)), some (.int 0), some (.int 0), some (.int 1)] (n, sl, C, Z, I, L, R) := by
  obtain ⟨hM12, hn98, ⟨hB, hK, hO, hE, hM⟩, ⟨e1, e2⟩, -⟩ := id h7
  have hB' := hB
  have hM' := hM
  unfold LayB at hB
  unfold LayM at hM
  have hE' := hE
  unfold LayE at hE'
  unfold Two
  obtain ⟨a1, a2, -⟩ := id hq
  have hq0 : ¬ q = 0 := by omega
  have hc := hq.cm
  have c73 : C 73 = 3 := by simp [hB]
  have kin : inG 7 (C q) = true := hc.1.1
  have a6 : I q 1 = nI 1 := hc.1.2.2.2.2.1
  have hu := hq.un
  have bA := hq.bns.1
  have zA := (hq.rm hM' (by omega)).2.2.2.2.2.2.2.2.2.1
  have n0 : nI 1 = 1 := rfl
  simp [S74_0, S74_1, S74_2, S87_0, at_yesG hB' hM12 hj, Call_in (k2 := 87), BS, ixs, inbs, le_nlt, hB, hE', e1, a1, hq0, kin, a6, n0]
  refine c_eFill_1f hc hE kf hu bA zA (fun L1 I1 fL fI v3 v5 => ?_)
  have iq : I1 q = I q := fI q (by omega)
  have i1 : I1 1 = I 1 := fI 1 (by omega)
  have e2' : I1 74 0 = nI M := by rw [fI 74 (by omega)]; exact e2
  have kd' : I1 75 j = 1 := by rw [fI 75 (by omega)]; exact kd
  have hr' := (hq.rm hM' (by omega)).keep (R' := R) (I' := I1) hM' (fun i h1 h2 => fI i (by omega))
  have k76 : I1 76 j = nI 1 := hr'.2.2.2.1
  have isy := is_yesG hM' hM12 hj n sl I1
  have j0 : inb (nI j) 12 = true := by rw [inb_nI (by omega)]; simp; omega
  have jx := ix_nI (show j < 2 ^ 31 by omega)
  have tn : I1 66 5 = 1 := by rw [v5.2, if_neg d0]
  have bN : bn 9223372036854775807 (eN true 1 (I q 2).toInt (fun i => (I (q + 1) i).toInt) 0) := bn_le (bn_eN hu bA 0) (by omega)
  have bD : bn 1125899906842623 (eD true 1 (I q 2).toInt (fun i => (I (q + 1) i).toInt)) := bn_le (bn_eD hu bA) (by omega)
  have v3n := v3.2 0 (by omega)
  simp [S74_0, S74_1, S74_2, S87_0, S7_0, Call_in (k2 := 87), Call_in (k2 := 7), BS, ixs, inbs, le_nlt, hB, hE', i1, iq, tn, v3n, v3.1]
  refine (c_put bN bD d0 c73 _ _ _ _ _).mpr ?_
  simp [S74_0, S74_1, S74_2, S7_0, S14_0, Call_in (k2 := 14), BS, ixs, inbs, le_nlt, hB, i1, c73, u2_rd]
  refine m_en_1f_00_1 hr' kd' hM12 hj e2' hu bA d0 (fun L2 f2 _ => ⟨rfl, ?_, by dsimp only; omega, by dsimp only; omega⟩)
  exact Inv_mk (h7.scr (fun i hi => by rw [f2 i (by omega) (by omega) (by omega) (by omega), u2_ne _ _ _ (by omega), u2_ne _ _ _ (by omega)]; exact fL i (by omega)) (fun i hi => fI i (by omega)) ⟨by rw [fI 74 (by omega)], by rw [fI 74 (by omega)], by rw [fI 74 (by omega)]⟩ (fun _ _ _ _ => rfl))
set_option maxRecDepth 100000 in
set_option maxHeartbeats 8000000 in
theorem en_yes_2f_00_0 {n sl : Nat} {C Z : Nat → Nat} {I : Nat → Nat → Int32} {L : Nat → Nat → Int64} {R : Nat → Nat → Nat} {M rn t j q : Nat} (h7 : Inv7 n C Z I L R M rn t) (hj : j < M) (hq : MOK n C Z I R j q 2) (kf : isa (C q) 1 = true) (kd : I 75 j = 1) (d0 : ¬ (eD true 2 (I q 2).toInt (fun i => (I (q + 1) i).toInt)) = 0) : Two 74 144 [some (.ref 1), some (.int (nI j)), some (.int 0), some (.int 0), some (.int 0), none] [some (.ref 74), some (.int (nI j)), some (.int 0), some (.int 0), some (.int 0)] (n, sl, C, Z, I, L, R) := by
  obtain ⟨hM12, hn98, ⟨hB, hK, hO, hE, hM⟩, ⟨e1, e2⟩, -⟩ := id h7
  have hB' := hB
  have hM' := hM
  unfold LayB at hB
  unfold LayM at hM
  have hE' := hE
  unfold LayE at hE'
  unfold Two
  obtain ⟨a1, a2, -⟩ := id hq
  have hq0 : ¬ q = 0 := by omega
  have hc := hq.cm
  have c73 : C 73 = 3 := by simp [hB]
  have kin : inG 7 (C q) = true := hc.1.1
  have a6 : I q 1 = nI 2 := hc.1.2.2.2.2.1
  have hu := hq.un
  have bA := hq.bns.1
  have zA := (hq.rm hM' (by omega)).2.2.2.2.2.2.2.2.2.1
  have n0 : nI 2 = 2 := rfl
  simp [S74_0, S74_1, S74_2, S87_0, at_yesG hB' hM12 hj, Call_in (k2 := 87), BS, ixs, inbs, le_nlt, hB, hE', e1, a1, hq0, kin, a6, n0]
  refine c_eFill_2f hc hE kf hu bA zA (fun L1 I1 fL fI v3 v5 => ?_)
  have iq : I1 q = I q := fI q (by omega)
  have i1 : I1 1 = I 1 := fI 1 (by omega)
  have e2' : I1 74 0 = nI M := by rw [fI 74 (by omega)]; exact e2
  have kd' : I1 75 j = 1 := by rw [fI 75 (by omega)]; exact kd
  have hr' := (hq.rm hM' (by omega)).keep (R' := R) (I' := I1) hM' (fun i h1 h2 => fI i (by omega))
  have k76 : I1 76 j = nI 2 := hr'.2.2.2.1
  have isy := is_yesG hM' hM12 hj n sl I1
  have j0 : inb (nI j) 12 = true := by rw [inb_nI (by omega)]; simp; omega
  have jx := ix_nI (show j < 2 ^ 31 by omega)
  have tn : I1 66 5 = 1 := by rw [v5.2, if_neg d0]
  have bN : bn 9223372036854775807 (eN true 2 (I q 2).toInt (fun i => (I (q + 1) i).toInt) 0) := bn_le (bn_eN hu bA 0) (by omega)
  have bD : bn 1125899906842623 (eD true 2 (I q 2).toInt (fun i => (I (q + 1) i).toInt)) := bn_le (bn_eD hu bA) (by omega)
  have v3n := v3.2 0 (by omega)
  simp [S74_0, S74_1, S74_2, S87_0, S7_0, Call_in (k2 := 87), Call_in (k2 := 7), BS, ixs, inbs, le_nlt, hB, hE', i1, iq, tn, v3n, v3.1]
  refine (c_put bN bD d0 c73 _ _ _ _ _).mpr ?_
  simp [S74_0, S74_1, S74_2, S7_0, S14_0, Call_in (k2 := 14), BS, ixs, inbs, le_nlt, hB, i1, c73, u2_rd]
  refine m_en_2f_00_0 hr' kd' hM12 hj e2' hu bA d0 (fun L2 f2 _ => ⟨rfl, ?_, by dsimp only; omega, by dsimp only; omega⟩)
  exact Inv_mk (h7.scr (fun i hi => by rw [f2 i (by omega) (by omega) (by omega) (by omega), u2_ne _ _ _ (by omega), u2_ne _ _ _ (by omega)]; exact fL i (by omega)) (fun i hi => fI i (by omega)) ⟨by rw [fI 74 (by omega)], by rw [fI 74 (by omega)], by rw [fI 74 (by omega)]⟩ (fun _ _ _ _ => rfl))
set_option maxRecDepth 100000 in
set_option maxHeartbeats 8000000 in
theorem en_yes_2f_00_1 {n sl : Nat} {C Z : Nat → Nat} {I : Nat → Nat → Int32} {L : Nat → Nat → Int64} {R : Nat → Nat → Nat} {M rn t j q : Nat} (h7 : Inv7 n C Z I L R M rn t) (hj : j < M) (hq : MOK n C Z I R j q 2) (kf : isa (C q) 1 = true) (kd : I 75 j = 1) (d0 : ¬ (eD true 2 (I q 2).toInt (fun i => (I (q + 1) i).toInt)) = 0) : Two 74 144 [some (.ref 1), some (.int (nI j)), some (.int 0), some (.int 0), some (.int 1), none] [some (.ref 74), some (.int (nI j)), some (.int 0), some (.int 0), some (.int 1)] (n, sl, C, Z, I, L, R) := by
  obtain ⟨hM12, hn98, ⟨hB, hK, hO, hE, hM⟩, ⟨e1, e2⟩, -⟩ := id h7
  have hB' := hB
  have hM' := hM
  unfold LayB at hB
  unfold LayM at hM
  have hE' := hE
  unfold LayE at hE'
  unfold Two
  obtain ⟨a1, a2, -⟩ := id hq
  have hq0 : ¬ q = 0 := by omega
  have hc := hq.cm
  have c73 : C 73 = 3 := by simp [hB]
  have kin : inG 7 (C q) = true := hc.1.1
  have a6 : I q 1 = nI 2 := hc.1.2.2.2.2.1
  have hu := hq.un
  have bA := hq.bns.1
  have zA := (hq.rm hM' (by omega)).2.2.2.2.2.2.2.2.2.1
  have n0 : nI 2 = 2 := rfl
  simp [S74_0, S74_1, S74_2, S87_0, at_yesG hB' hM12 hj, Call_in (k2 := 87), BS, ixs, inbs, le_nlt, hB, hE', e1, a1, hq0, kin, a6, n0]
  refine c_eFill_2f hc hE kf hu bA zA (fun L1 I1 fL fI v3 v5 => ?_)
  have iq : I1 q = I q := fI q (by omega)
  have i1 : I1 1 = I 1 := fI 1 (by omega)
  have e2' : I1 74 0 = nI M := by rw [fI 74 (by omega)]; exact e2
  have kd' : I1 75 j = 1 := by rw [fI 75 (by omega)]; exact kd
  have hr' := (hq.rm hM' (by omega)).keep (R' := R) (I' := I1) hM' (fun i h1 h2 => fI i (by omega))
  have k76 : I1 76 j = nI 2 := hr'.2.2.2.1
  have isy := is_yesG hM' hM12 hj n sl I1
  have j0 : inb (nI j) 12 = true := by rw [inb_nI (by omega)]; simp; omega
  have jx := ix_nI (show j < 2 ^ 31 by omega)
  have tn : I1 66 5 = 1 := by rw [v5.2, if_neg d0]
  have bN : bn 9223372036854775807 (eN true 2 (I q 2).toInt (fun i => (I (q + 1) i).toInt) 0) := bn_le (bn_eN hu bA 0) (by omega)
  have bD : bn 1125899906842623 (eD true 2 (I q 2).toInt (fun i => (I (q + 1) i).toInt)) := bn_le (bn_eD hu bA) (by omega)
  have v3n := v3.2 0 (by omega)
  simp [S74_0, S74_1, S74_2, S87_0, S7_0, Call_in (k2 := 87), Call_in (k2 := 7), BS, ixs, inbs, le_nlt, hB, hE', i1, iq, tn, v3n, v3.1]
  refine (c_put bN bD d0 c73 _ _ _ _ _).mpr ?_
  simp [S74_0, S74_1, S74_2, S7_0, S14_0, Call_in (k2 := 14), BS, ixs, inbs, le_nlt, hB, i1, c73, u2_rd]
  refine m_en_2f_00_1 hr' kd' hM12 hj e2' hu bA d0 (fun L2 f2 _ => ⟨rfl, ?_, by dsimp only; omega, by dsimp only; omega⟩)
  exact Inv_mk (h7.scr (fun i hi => by rw [f2 i (by omega) (by omega) (by omega) (by omega), u2_ne _ _ _ (by omega), u2_ne _ _ _ (by omega)]; exact fL i (by omega)) (fun i hi => fI i (by omega)) ⟨by rw [fI 74 (by omega)], by rw [fI 74 (by omega)], by rw [fI 74 (by omega)]⟩ (fun _ _ _ _ => rfl))
set_option maxRecDepth 100000 in
set_option maxHeartbeats 8000000 in
theorem en_yes_2f_01_0 {n sl : Nat} {C Z : Nat → Nat} {I : Nat → Nat → Int32} {L : Nat → Nat → Int64} {R : Nat → Nat → Nat} {M rn t j q : Nat} (h7 : Inv7 n C Z I L R M rn t) (hj : j < M) (hq : MOK n C Z I R j q 2) (kf : isa (C q) 1 = true) (kd : I 75 j = 1) (d0 : ¬ (eD true 2 (I q 2).toInt (fun i => (I (q + 1) i).toInt)) = 0) : Two 74 144 [some (.ref 1), some (.int (nI j)), some (.int 0), some (.int 1), some (.int 0), none] [some (.ref 74), some (.int (nI j)), some (.int 0), some (.int 1), some (.int 0)] (n, sl, C, Z, I, L, R) := by
  obtain ⟨hM12, hn98, ⟨hB, hK, hO, hE, hM⟩, ⟨e1, e2⟩, -⟩ := id h7
  have hB' := hB
  have hM' := hM
  unfold LayB at hB
  unfold LayM at hM
  have hE' := hE
  unfold LayE at hE'
  unfold Two
  obtain ⟨a1, a2, -⟩ := id hq
  have hq0 : ¬ q = 0 := by omega
  have hc := hq.cm
  have c73 : C 73 = 3 := by simp [hB]
  have kin : inG 7 (C q) = true := hc.1.1
  have a6 : I q 1 = nI 2 := hc.1.2.2.2.2.1
  have hu := hq.un
  have bA := hq.bns.1
  have zA := (hq.rm hM' (by omega)).2.2.2.2.2.2.2.2.2.1
  have n0 : nI 2 = 2 := rfl
  simp [S74_0, S74_1, S74_2, S87_0, at_yesG hB' hM12 hj, Call_in (k2 := 87), BS, ixs, inbs, le_nlt, hB, hE', e1, a1, hq0, kin, a6, n0]
  refine c_eFill_2f hc hE kf hu bA zA (fun L1 I1 fL fI v3 v5 => ?_)
  have iq : I1 q = I q := fI q (by omega)
  have i1 : I1 1 = I 1 := fI 1 (by omega)
  have e2' : I1 74 0 = nI M := by rw [fI 74 (by omega)]; exact e2
  have kd' : I1 75 j = 1 := by rw [fI 75 (by omega)]; exact kd
  have hr' := (hq.rm hM' (by omega)).keep (R' := R) (I' := I1) hM' (fun i h1 h2 => fI i (by omega))
  have k76 : I1 76 j = nI 2 := hr'.2.2.2.1
  have isy := is_yesG hM' hM12 hj n sl I1
  have j0 : inb (nI j) 12 = true := by rw [inb_nI (by omega)]; simp; omega
  have jx := ix_nI (show j < 2 ^ 31 by omega)
  have tn : I1 66 5 = 1 := by rw [v5.2, if_neg d0]
  have bN : bn 9223372036854775807 (eN true 2 (I q 2).toInt (fun i => (I (q + 1) i).toInt) 1) := bn_le (bn_eN hu bA 1) (by omega)
  have bD : bn 1125899906842623 (eD true 2 (I q 2).toInt (fun i => (I (q + 1) i).toInt)) := bn_le (bn_eD hu bA) (by omega)
  have v3n := v3.2 1 (by omega)
  simp [S74_0, S74_1, S74_2, S87_0, S7_0, Call_in (k2 := 87), Call_in (k2 := 7), BS, ixs, inbs, le_nlt, hB, hE', i1, iq, tn, v3n, v3.1]
  refine (c_put bN bD d0 c73 _ _ _ _ _).mpr ?_
  simp [S74_0, S74_1, S74_2, S7_0, S14_0, Call_in (k2 := 14), BS, ixs, inbs, le_nlt, hB, i1, c73, u2_rd]
  refine m_en_2f_01_0 hr' kd' hM12 hj e2' hu bA d0 (fun L2 f2 _ => ⟨rfl, ?_, by dsimp only; omega, by dsimp only; omega⟩)
  exact Inv_mk (h7.scr (fun i hi => by rw [f2 i (by omega) (by omega) (by omega) (by omega), u2_ne _ _ _ (by omega), u2_ne _ _ _ (by omega)]; exact fL i (by omega)) (fun i hi => fI i (by omega)) ⟨by rw [fI 74 (by omega)], by rw [fI 74 (by omega)], by rw [fI 74 (by omega)]⟩ (fun _ _ _ _ => rfl))
set_option maxRecDepth 100000 in
set_option maxHeartbeats 8000000 in
theorem en_yes_2f_01_1 {n sl : Nat} {C Z : Nat → Nat} {I : Nat → Nat → Int32} {L : Nat → Nat → Int64} {R : Nat → Nat → Nat} {M rn t j q : Nat} (h7 : Inv7 n C Z I L R M rn t) (hj : j < M) (hq : MOK n C Z I R j q 2) (kf : isa (C q) 1 = true) (kd : I 75 j = 1) (d0 : ¬ (eD true 2 (I q 2).toInt (fun i => (I (q + 1) i).toInt)) = 0) : Two 74 144 [some (.ref 1), some (.int (nI j)), some (.int 0), some (.int 1), some (.int 1), none] [some (.ref 74), some (.int (nI j)), some (.int 0), some (.int 1), some (.int 1)] (n, sl, C, Z, I, L, R) := by
  obtain ⟨hM12, hn98, ⟨hB, hK, hO, hE, hM⟩, ⟨e1, e2⟩, -⟩ := id h7
  have hB' := hB
  have hM' := hM
  unfold LayB at hB
  unfold LayM at hM
  have hE' := hE
  unfold LayE at hE'
  unfold Two
  obtain ⟨a1, a2, -⟩ := id hq
  have hq0 : ¬ q = 0 := by omega
  have hc := hq.cm
  have c73 : C 73 = 3 := by simp [hB]
  have kin : inG 7 (C q) = true := hc.1.1
  have a6 : I q 1 = nI 2 := hc.1.2.2.2.2.1
  have hu := hq.un
  have bA := hq.bns.1
  have zA := (hq.rm hM' (by omega)).2.2.2.2.2.2.2.2.2.1
  have n0 : nI 2 = 2 := rfl
  simp [S74_0, S74_1, S74_2, S87_0, at_yesG hB' hM12 hj, Call_in (k2 := 87), BS, ixs, inbs, le_nlt, hB, hE', e1, a1, hq0, kin, a6, n0]
  refine c_eFill_2f hc hE kf hu bA zA (fun L1 I1 fL fI v3 v5 => ?_)
  have iq : I1 q = I q := fI q (by omega)
  have i1 : I1 1 = I 1 := fI 1 (by omega)
  have e2' : I1 74 0 = nI M := by rw [fI 74 (by omega)]; exact e2
  have kd' : I1 75 j = 1 := by rw [fI 75 (by omega)]; exact kd
  have hr' := (hq.rm hM' (by omega)).keep (R' := R) (I' := I1) hM' (fun i h1 h2 => fI i (by omega))
  have k76 : I1 76 j = nI 2 := hr'.2.2.2.1
  have isy := is_yesG hM' hM12 hj n sl I1
  have j0 : inb (nI j) 12 = true := by rw [inb_nI (by omega)]; simp; omega
  have jx := ix_nI (show j < 2 ^ 31 by omega)
  have tn : I1 66 5 = 1 := by rw [v5.2, if_neg d0]
  have bN : bn 9223372036854775807 (eN true 2 (I q 2).toInt (fun i => (I (q + 1) i).toInt) 1) := bn_le (bn_eN hu bA 1) (by omega)
  have bD : bn 1125899906842623 (eD true 2 (I q 2).toInt (fun i => (I (q + 1) i).toInt)) := bn_le (bn_eD hu bA) (by omega)
  have v3n := v3.2 1 (by omega)
  simp [S74_0, S74_1, S74_2, S87_0, S7_0, Call_in (k2 := 87), Call_in (k2 := 7), BS, ixs, inbs, le_nlt, hB, hE', i1, iq, tn, v3n, v3.1]
  refine (c_put bN bD d0 c73 _ _ _ _ _).mpr ?_
  simp [S74_0, S74_1, S74_2, S7_0, S14_0, Call_in (k2 := 14), BS, ixs, inbs, le_nlt, hB, i1, c73, u2_rd]
  refine m_en_2f_01_1 hr' kd' hM12 hj e2' hu bA d0 (fun L2 f2 _ => ⟨rfl, ?_, by dsimp only; omega, by dsimp only; omega⟩)
  exact Inv_mk (h7.scr (fun i hi => by rw [f2 i (by omega) (by omega) (by omega) (by omega), u2_ne _ _ _ (by omega), u2_ne _ _ _ (by omega)]; exact fL i (by omega)) (fun i hi => fI i (by omega)) ⟨by rw [fI 74 (by omega)], by rw [fI 74 (by omega)], by rw [fI 74 (by omega)]⟩ (fun _ _ _ _ => rfl))
set_option maxRecDepth 100000 in
set_option maxHeartbeats 8000000 in
theorem en_yes_2f_10_0 {n sl : Nat} {C Z : Nat → Nat} {I : Nat → Nat → Int32} {L : Nat → Nat → Int64} {R : Nat → Nat → Nat} {M rn t j q : Nat} (h7 : Inv7 n C Z I L R M rn t) (hj : j < M) (hq : MOK n C Z I R j q 2) (kf : isa (C q) 1 = true) (kd : I 75 j = 1) (d0 : ¬ (eD true 2 (I q 2).toInt (fun i => (I (q + 1) i).toInt)) = 0) : Two 74 144 [some (.ref 1), some (.int (nI j)), some (.int 1), some (.int 0), some (.int 0), none] [some (.ref 74), some (.int (nI j)), some (.int 1), some (.int 0), some (.int 0)] (n, sl, C, Z, I, L, R) := by
  obtain ⟨hM12, hn98, ⟨hB, hK, hO, hE, hM⟩, ⟨e1, e2⟩, -⟩ := id h7
  have hB' := hB
  have hM' := hM
  unfold LayB at hB
  unfold LayM at hM
  have hE' := hE
  unfold LayE at hE'
  unfold Two
  obtain ⟨a1, a2, -⟩ := id hq
  have hq0 : ¬ q = 0 := by omega
  have hc := hq.cm
  have c73 : C 73 = 3 := by simp [hB]
  have kin : inG 7 (C q) = true := hc.1.1
  have a6 : I q 1 = nI 2 := hc.1.2.2.2.2.1
  have hu := hq.un
  have bA := hq.bns.1
  have zA := (hq.rm hM' (by omega)).2.2.2.2.2.2.2.2.2.1
  have n0 : nI 2 = 2 := rfl
  simp [S74_0, S74_1, S74_2, S87_0, at_yesG hB' hM12 hj, Call_in (k2 := 87), BS, ixs, inbs, le_nlt, hB, hE', e1, a1, hq0, kin, a6, n0]
  refine c_eFill_2f hc hE kf hu bA zA (fun L1 I1 fL fI v3 v5 => ?_)
  have iq : I1 q = I q := fI q (by omega)
  have i1 : I1 1 = I 1 := fI 1 (by omega)
  have e2' : I1 74 0 = nI M := by rw [fI 74 (by omega)]; exact e2
  have kd' : I1 75 j = 1 := by rw [fI 75 (by omega)]; exact kd
  have hr' := (hq.rm hM' (by omega)).keep (R' := R) (I' := I1) hM' (fun i h1 h2 => fI i (by omega))
  have k76 : I1 76 j = nI 2 := hr'.2.2.2.1
  have isy := is_yesG hM' hM12 hj n sl I1
  have j0 : inb (nI j) 12 = true := by rw [inb_nI (by omega)]; simp; omega
  have jx := ix_nI (show j < 2 ^ 31 by omega)
  have tn : I1 66 5 = 1 := by rw [v5.2, if_neg d0]
  have bN : bn 9223372036854775807 (eN true 2 (I q 2).toInt (fun i => (I (q + 1) i).toInt) 1) := bn_le (bn_eN hu bA 1) (by omega)
  have bD : bn 1125899906842623 (eD true 2 (I q 2).toInt (fun i => (I (q + 1) i).toInt)) := bn_le (bn_eD hu bA) (by omega)
  have v3n := v3.2 1 (by omega)
  simp [S74_0, S74_1, S74_2, S87_0, S7_0, Call_in (k2 := 87), Call_in (k2 := 7), BS, ixs, inbs, le_nlt, hB, hE', i1, iq, tn, v3n, v3.1]
  refine (c_put bN bD d0 c73 _ _ _ _ _).mpr ?_
  simp [S74_0, S74_1, S74_2, S7_0, S14_0, Call_in (k2 := 14), BS, ixs, inbs, le_nlt, hB, i1, c73, u2_rd]
  refine m_en_2f_10_0 hr' kd' hM12 hj e2' hu bA d0 (fun L2 f2 _ => ⟨rfl, ?_, by dsimp only; omega, by dsimp only; omega⟩)
  exact Inv_mk (h7.scr (fun i hi => by rw [f2 i (by omega) (by omega) (by omega) (by omega), u2_ne _ _ _ (by omega), u2_ne _ _ _ (by omega)]; exact fL i (by omega)) (fun i hi => fI i (by omega)) ⟨by rw [fI 74 (by omega)], by rw [fI 74 (by omega)], by rw [fI 74 (by omega)]⟩ (fun _ _ _ _ => rfl))
set_option maxRecDepth 100000 in
set_option maxHeartbeats 8000000 in
theorem en_yes_2f_10_1 {n sl : Nat} {C Z : Nat → Nat} {I : Nat → Nat → Int32} {L : Nat → Nat → Int64} {R : Nat → Nat → Nat} {M rn t j q : Nat} (h7 : Inv7 n C Z I L R M rn t) (hj : j < M) (hq : MOK n C Z I R j q 2) (kf : isa (C q) 1 = true) (kd : I 75 j = 1) (d0 : ¬ (eD true 2 (I q 2).toInt (fun i => (I (q + 1) i).toInt)) = 0) : Two 74 144 [some (.ref 1), some (.int (nI j)), some (.int 1), some (.int 0), some (.int 1), none] [some (.ref 74), some (.int (nI j)), some (.int 1), some (.int 0), some (.int 1)] (n, sl, C, Z, I, L, R) := by
  obtain ⟨hM12, hn98, ⟨hB, hK, hO, hE, hM⟩, ⟨e1, e2⟩, -⟩ := id h7
  have hB' := hB
  have hM' := hM
  unfold LayB at hB
  unfold LayM at hM
  have hE' := hE
  unfold LayE at hE'
  unfold Two
  obtain ⟨a1, a2, -⟩ := id hq
  have hq0 : ¬ q = 0 := by omega
  have hc := hq.cm
  have c73 : C 73 = 3 := by simp [hB]
  have kin : inG 7 (C q) = true := hc.1.1
  have a6 : I q 1 = nI 2 := hc.1.2.2.2.2.1
  have hu := hq.un
  have bA := hq.bns.1
  have zA := (hq.rm hM' (by omega)).2.2.2.2.2.2.2.2.2.1
  have n0 : nI 2 = 2 := rfl
  simp [S74_0, S74_1, S74_2, S87_0, at_yesG hB' hM12 hj, Call_in (k2 := 87), BS, ixs, inbs, le_nlt, hB, hE', e1, a1, hq0, kin, a6, n0]
  refine c_eFill_2f hc hE kf hu bA zA (fun L1 I1 fL fI v3 v5 => ?_)
  have iq : I1 q = I q := fI q (by omega)
  have i1 : I1 1 = I 1 := fI 1 (by omega)
  have e2' : I1 74 0 = nI M := by rw [fI 74 (by omega)]; exact e2
  have kd' : I1 75 j = 1 := by rw [fI 75 (by omega)]; exact kd
  have hr' := (hq.rm hM' (by omega)).keep (R' := R) (I' := I1) hM' (fun i h1 h2 => fI i (by omega))
  have k76 : I1 76 j = nI 2 := hr'.2.2.2.1
  have isy := is_yesG hM' hM12 hj n sl I1
  have j0 : inb (nI j) 12 = true := by rw [inb_nI (by omega)]; simp; omega
  have jx := ix_nI (show j < 2 ^ 31 by omega)
  have tn : I1 66 5 = 1 := by rw [v5.2, if_neg d0]
  have bN : bn 9223372036854775807 (eN true 2 (I q 2).toInt (fun i => (I (q + 1) i).toInt) 1) := bn_le (bn_eN hu bA 1) (by omega)
  have bD : bn 1125899906842623 (eD true 2 (I q 2).toInt (fun i => (I (q + 1) i).toInt)) := bn_le (bn_eD hu bA) (by omega)
  have v3n := v3.2 1 (by omega)
  simp [S74_0, S74_1, S74_2, S87_0, S7_0, Call_in (k2 := 87), Call_in (k2 := 7), BS, ixs, inbs, le_nlt, hB, hE', i1, iq, tn, v3n, v3.1]
  refine (c_put bN bD d0 c73 _ _ _ _ _).mpr ?_
  simp [S74_0, S74_1, S74_2, S7_0, S14_0, Call_in (k2 := 14), BS, ixs, inbs, le_nlt, hB, i1, c73, u2_rd]
  refine m_en_2f_10_1 hr' kd' hM12 hj e2' hu bA d0 (fun L2 f2 _ => ⟨rfl, ?_, by dsimp only; omega, by dsimp only; omega⟩)
  exact Inv_mk (h7.scr (fun i hi => by rw [f2 i (by omega) (by omega) (by omega) (by omega), u2_ne _ _ _ (by omega), u2_ne _ _ _ (by omega)]; exact fL i (by omega)) (fun i hi => fI i (by omega)) ⟨by rw [fI 74 (by omega)], by rw [fI 74 (by omega)], by rw [fI 74 (by omega)]⟩ (fun _ _ _ _ => rfl))
set_option maxRecDepth 100000 in
set_option maxHeartbeats 8000000 in
theorem en_yes_2f_11_0 {n sl : Nat} {C Z : Nat → Nat} {I : Nat → Nat → Int32} {L : Nat → Nat → Int64} {R : Nat → Nat → Nat} {M rn t j q : Nat} (h7 : Inv7 n C Z I L R M rn t) (hj : j < M) (hq : MOK n C Z I R j q 2) (kf : isa (C q) 1 = true) (kd : I 75 j = 1) (d0 : ¬ (eD true 2 (I q 2).toInt (fun i => (I (q + 1) i).toInt)) = 0) : Two 74 144 [some (.ref 1), some (.int (nI j)), some (.int 1), some (.int 1), some (.int 0), none] [some (.ref 74), some (.int (nI j)), some (.int 1), some (.int 1), some (.int 0)] (n, sl, C, Z, I, L, R) := by
  obtain ⟨hM12, hn98, ⟨hB, hK, hO, hE, hM⟩, ⟨e1, e2⟩, -⟩ := id h7
  have hB' := hB
  have hM' := hM
  unfold LayB at hB
  unfold LayM at hM
  have hE' := hE
  unfold LayE at hE'
  unfold Two
  obtain ⟨a1, a2, -⟩ := id hq
  have hq0 : ¬ q = 0 := by omega
  have hc := hq.cm
  have c73 : C 73 = 3 := by simp [hB]
  have kin : inG 7 (C q) = true := hc.1.1
  have a6 : I q 1 = nI 2 := hc.1.2.2.2.2.1
  have hu := hq.un
  have bA := hq.bns.1
  have zA := (hq.rm hM' (by omega)).2.2.2.2.2.2.2.2.2.1
  have n0 : nI 2 = 2 := rfl
  simp [S74_0, S74_1, S74_2, S87_0, at_yesG hB' hM12 hj, Call_in (k2 := 87), BS, ixs, inbs, le_nlt, hB, hE', e1, a1, hq0, kin, a6, n0]
  refine c_eFill_2f hc hE kf hu bA zA (fun L1 I1 fL fI v3 v5 => ?_)
  have iq : I1 q = I q := fI q (by omega)
  have i1 : I1 1 = I 1 := fI 1 (by omega)
  have e2' : I1 74 0 = nI M := by rw [fI 74 (by omega)]; exact e2
  have kd' : I1 75 j = 1 := by rw [fI 75 (by omega)]; exact kd
  have hr' := (hq.rm hM' (by omega)).keep (R' := R) (I' := I1) hM' (fun i h1 h2 => fI i (by omega))
  have k76 : I1 76 j = nI 2 := hr'.2.2.2.1
  have isy := is_yesG hM' hM12 hj n sl I1
  have j0 : inb (nI j) 12 = true := by rw [inb_nI (by omega)]; simp; omega
  have jx := ix_nI (show j < 2 ^ 31 by omega)
  have tn : I1 66 5 = 1 := by rw [v5.2, if_neg d0]
  have bN : bn 9223372036854775807 (eN true 2 (I q 2).toInt (fun i => (I (q + 1) i).toInt) 2) := bn_le (bn_eN hu bA 2) (by omega)
  have bD : bn 1125899906842623 (eD true 2 (I q 2).toInt (fun i => (I (q + 1) i).toInt)) := bn_le (bn_eD hu bA) (by omega)
  have v3n := v3.2 2 (by omega)
  simp [S74_0, S74_1, S74_2, S87_0, S7_0, Call_in (k2 := 87), Call_in (k2 := 7), BS, ixs, inbs, le_nlt, hB, hE', i1, iq, tn, v3n, v3.1]
  refine (c_put bN bD d0 c73 _ _ _ _ _).mpr ?_
  simp [S74_0, S74_1, S74_2, S7_0, S14_0, Call_in (k2 := 14), BS, ixs, inbs, le_nlt, hB, i1, c73, u2_rd]
  refine m_en_2f_11_0 hr' kd' hM12 hj e2' hu bA d0 (fun L2 f2 _ => ⟨rfl, ?_, by dsimp only; omega, by dsimp only; omega⟩)
  exact Inv_mk (h7.scr (fun i hi => by rw [f2 i (by omega) (by omega) (by omega) (by omega), u2_ne _ _ _ (by omega), u2_ne _ _ _ (by omega)]; exact fL i (by omega)) (fun i hi => fI i (by omega)) ⟨by rw [fI 74 (by omega)], by rw [fI 74 (by omega)], by rw [fI 74 (by omega)]⟩ (fun _ _ _ _ => rfl))
set_option maxRecDepth 100000 in
set_option maxHeartbeats 8000000 in
theorem en_yes_2f_11_1 {n sl : Nat} {C Z : Nat → Nat} {I : Nat → Nat → Int32} {L : Nat → Nat → Int64} {R : Nat → Nat → Nat} {M rn t j q : Nat} (h7 : Inv7 n C Z I L R M rn t) (hj : j < M) (hq : MOK n C Z I R j q 2) (kf : isa (C q) 1 = true) (kd : I 75 j = 1) (d0 : ¬ (eD true 2 (I q 2).toInt (fun i => (I (q + 1) i).toInt)) = 0) : Two 74 144 [some (.ref 1), some (.int (nI j)), some (.int 1), some (.int 1), some (.int 1), none] [some (.ref 74), some (.int (nI j)), some (.int 1), some (.int 1), some (.int 1)] (n, sl, C, Z, I, L, R) := by
  obtain ⟨hM12, hn98, ⟨hB, hK, hO, hE, hM⟩, ⟨e1, e2⟩, -⟩ := id h7
  have hB' := hB
  have hM' := hM
  unfold LayB at hB
  unfold LayM at hM
  have hE' := hE
  unfold LayE at hE'
  unfold Two
  obtain ⟨a1, a2, -⟩ := id hq
  have hq0 : ¬ q = 0 := by omega
  have hc := hq.cm
  have c73 : C 73 = 3 := by simp [hB]
  have kin : inG 7 (C q) = true := hc.1.1
  have a6 : I q 1 = nI 2 := hc.1.2.2.2.2.1
  have hu := hq.un
  have bA := hq.bns.1
  have zA := (hq.rm hM' (by omega)).2.2.2.2.2.2.2.2.2.1
  have n0 : nI 2 = 2 := rfl
  simp [S74_0, S74_1, S74_2, S87_0, at_yesG hB' hM12 hj, Call_in (k2 := 87), BS, ixs, inbs, le_nlt, hB, hE', e1, a1, hq0, kin, a6, n0]
  refine c_eFill_2f hc hE kf hu bA zA (fun L1 I1 fL fI v3 v5 => ?_)
  have iq : I1 q = I q := fI q (by omega)
  have i1 : I1 1 = I 1 := fI 1 (by omega)
  have e2' : I1 74 0 = nI M := by rw [fI 74 (by omega)]; exact e2
  have kd' : I1 75 j = 1 := by rw [fI 75 (by omega)]; exact kd
  have hr' := (hq.rm hM' (by omega)).keep (R' := R) (I' := I1) hM' (fun i h1 h2 => fI i (by omega))
  have k76 : I1 76 j = nI 2 := hr'.2.2.2.1
  have isy := is_yesG hM' hM12 hj n sl I1
  have j0 : inb (nI j) 12 = true := by rw [inb_nI (by omega)]; simp; omega
  have jx := ix_nI (show j < 2 ^ 31 by omega)
  have tn : I1 66 5 = 1 := by rw [v5.2, if_neg d0]
  have bN : bn 9223372036854775807 (eN true 2 (I q 2).toInt (fun i => (I (q + 1) i).toInt) 2) := bn_le (bn_eN hu bA 2) (by omega)
  have bD : bn 1125899906842623 (eD true 2 (I q 2).toInt (fun i => (I (q + 1) i).toInt)) := bn_le (bn_eD hu bA) (by omega)
  have v3n := v3.2 2 (by omega)
  simp [S74_0, S74_1, S74_2, S87_0, S7_0, Call_in (k2 := 87), Call_in (k2 := 7), BS, ixs, inbs, le_nlt, hB, hE', i1, iq, tn, v3n, v3.1]
  refine (c_put bN bD d0 c73 _ _ _ _ _).mpr ?_
  simp [S74_0, S74_1, S74_2, S7_0, S14_0, Call_in (k2 := 14), BS, ixs, inbs, le_nlt, hB, i1, c73, u2_rd]
  refine m_en_2f_11_1 hr' kd' hM12 hj e2' hu bA d0 (fun L2 f2 _ => ⟨rfl, ?_, by dsimp only; omega, by dsimp only; omega⟩)
  exact Inv_mk (h7.scr (fun i hi => by rw [f2 i (by omega) (by omega) (by omega) (by omega), u2_ne _ _ _ (by omega), u2_ne _ _ _ (by omega)]; exact fL i (by omega)) (fun i hi => fI i (by omega)) ⟨by rw [fI 74 (by omega)], by rw [fI 74 (by omega)], by rw [fI 74 (by omega)]⟩ (fun _ _ _ _ => rfl))
set_option maxRecDepth 100000 in
set_option maxHeartbeats 8000000 in
/-- energy(machine, i, k, what) -/
theorem two_energy (h : Hp) (hI : Inv h) (x y z wh : Int32) : Two 74 144 [some (.ref 1), some (.int x), some (.int y), some (.int z), some (.int wh), none] [some (.ref 74), some (.int x), some (.int y), some (.int z), some (.int wh)] h := by
  obtain ⟨n, sl, C, Z, I, L, R⟩ := h
  obtain ⟨M, rn, t, h7⟩ := id hI
  obtain ⟨hM12, hn98, ⟨hB, hK, hO, hE, hM⟩, ⟨e1, e2⟩, hms, hss, hap, ⟨hrn, e3, e4, hrw⟩, ht, e5, e6, htr⟩ := id h7
  dsimp only at hM12 hn98 hB hK hO hE hM e1 e2 hms hss hap hrn e3 e4 hrw ht e5 e6 htr h7
  have hB' := hB
  have hM' := hM
  unfold LayB at hB
  unfold LayM at hM
  have no : ∀ x : Int32, (x < 0 ∨ nI M ≤ x) → Two 74 144 [some (.ref 1), some (.int x), some (.int y), some (.int z), some (.int wh), none] [some (.ref 74), some (.int x), some (.int y), some (.int z), some (.int wh)] (n, sl, C, Z, I, L, R) := by
    intro x hm
    unfold Two
    simp [S74_0, S74_1, S74_2, S144_0, S144_1, S144_2, at_noG hB' hM12 hm, is_noG hM' hm, BS, ixs, inbs, le_nlt, hB, hM, hI, e1, e2]
  rcases pk_ix x (n := M) (by omega) with hx | hx | ⟨j, hj, rfl⟩
  · exact no x (Or.inl hx)
  · exact no x (Or.inr hx)
  · obtain ⟨q, s, hq⟩ := hms j hj
    have hs3 := hq.2.2.2.2.1.2.1
    have a1 := hq.1
    have a2 := hq.2.1
    have a4 := hq.2.2.2.1
    have hq0 : ¬ q = 0 := by omega
    have kin : inG 7 (C q) = true := hq.cm.1.1
    have a6 : I q 1 = nI s := hq.cm.1.2.2.2.2.1
    have k76 : I 76 j = nI s := hq.2.2.2.2.1.2.2.2
    have j0 : inb (nI j) 12 = true := by rw [inb_nI (by omega)]; simp; omega
    have jx := ix_nI (show j < 2 ^ 31 by omega)
    have kk : (isa (C q) 1 = true ∧ I 75 j = 1) ∨ (isa (C q) 1 = false ∧ ¬ I 75 j = 1) := by
      rcases nflow a4 with ⟨b1, b2⟩ | ⟨-, b2, b3⟩
      · exact Or.inl ⟨by rw [b1]; decide, b2⟩
      · exact Or.inr ⟨b2, b3⟩
    by_cases y0 : y < 0
    · unfold Two
      simp [S74_0, S74_1, S74_2, S144_0, S144_1, S144_2, S87_0, at_yesG hB' hM12 hj, is_yesG hM' hM12 hj, Call_in (k2 := 87), BS, ixs, inbs, le_nlt, hB, hM, hI, e1, e2, a1, hq0, kin, a6, k76, j0, jx, y0]
    by_cases y1 : nI s ≤ y
    · have y2 : nI s - 1 < y := by rw [← Int32.not_le]; intro h; exact absurd y1 (by rw [Int32.not_le]; exact (le_predk (by omega)).mp h)
      have y3 : ¬ y < nI s := by rw [Int32.not_lt]; exact y1
      unfold Two
      simp [S74_0, S74_1, S74_2, S144_0, S144_1, S144_2, S87_0, at_yesG hB' hM12 hj, is_yesG hM' hM12 hj, Call_in (k2 := 87), BS, ixs, inbs, le_nlt, hB, hM, hI, e1, e2, a1, hq0, kin, a6, k76, j0, jx, y0, y2, y3]
    obtain ⟨i, hi, rfl⟩ : ∃ i, i < s ∧ y = nI i := by
      rcases pk_ix y (n := s) (by omega) with h | h | h
      · exact absurd h y0
      · exact absurd h y1
      · exact h
    have i2 : ¬ nI s - 1 < nI i := by rw [Int32.not_lt]; exact (le_predk (by omega)).mpr (nI_lt hi (by omega))
    have i3 : nI i < nI s := nI_lt hi (by omega)
    by_cases z0 : z < 0
    · unfold Two
      simp [S74_0, S74_1, S74_2, S144_0, S144_1, S144_2, S87_0, at_yesG hB' hM12 hj, is_yesG hM' hM12 hj, Call_in (k2 := 87), BS, ixs, inbs, le_nlt, hB, hM, hI, e1, e2, a1, hq0, kin, a6, k76, j0, jx, y0, i2, i3, z0]
    by_cases z1 : nI s ≤ z
    · have z2 : nI s - 1 < z := by rw [← Int32.not_le]; intro h; exact absurd z1 (by rw [Int32.not_le]; exact (le_predk (by omega)).mp h)
      have z3 : ¬ z < nI s := by rw [Int32.not_lt]; exact z1
      unfold Two
      simp [S74_0, S74_1, S74_2, S144_0, S144_1, S144_2, S87_0, at_yesG hB' hM12 hj, is_yesG hM' hM12 hj, Call_in (k2 := 87), BS, ixs, inbs, le_nlt, hB, hM, hI, e1, e2, a1, hq0, kin, a6, k76, j0, jx, y0, i2, i3, z0, z2, z3]
    obtain ⟨k, hk, rfl⟩ : ∃ i, i < s ∧ z = nI i := by
      rcases pk_ix z (n := s) (by omega) with h | h | h
      · exact absurd h z0
      · exact absurd h z1
      · exact h
    by_cases hw : wh < 0 ∨ (1 : Int32) < wh
    · rcases (by omega : s = 1 ∨ s = 2 ∨ s = 3) with rfl | rfl | rfl <;> rcases kk with ⟨b1, b2⟩ | ⟨b1, b2⟩
      · exact en_bad_1f h7 hj hq b1 b2 hi hk wh hw
      · exact en_bad_1t h7 hj hq b1 b2 hi hk wh hw
      · exact en_bad_2f h7 hj hq b1 b2 hi hk wh hw
      · exact en_bad_2t h7 hj hq b1 b2 hi hk wh hw
      · exact en_bad_3f h7 hj hq b1 b2 hi hk wh hw
      · exact en_bad_3t h7 hj hq b1 b2 hi hk wh hw
    have hwh : wh = 0 ∨ wh = 1 := by
      rcases in4 wh with h | h | h | h | h | h
      · exact absurd (Or.inl h) hw
      · exact absurd (Or.inr (Int32.lt_trans (by decide) h)) hw
      · exact Or.inl h
      · exact Or.inr h
      · exact absurd (Or.inr (by rw [h]; decide)) hw
      · exact absurd (Or.inr (by rw [h]; decide)) hw
    rcases (by omega : s = 1 ∨ s = 2 ∨ s = 3) with rfl | rfl | rfl <;> rcases kk with ⟨b1, b2⟩ | ⟨b1, b2⟩
    · by_cases d0 : (eD true 1 (I q 2).toInt (fun i => (I (q + 1) i).toInt)) = 0
      · exact en_no_1f h7 hj hq b1 b2 d0 hi hk wh hwh
      · rcases hwh with rfl | rfl <;> rcases (by omega : i = 0) with rfl <;> rcases (by omega : k = 0) with rfl
        · exact en_yes_1f_00_0 h7 hj hq b1 b2 d0
        · exact en_yes_1f_00_1 h7 hj hq b1 b2 d0
    · by_cases d0 : (eD false 1 (I q 2).toInt (fun i => (I (q + 1) i).toInt)) = 0
      · exact en_no_1t h7 hj hq b1 b2 d0 hi hk wh hwh
      · rcases hwh with rfl | rfl <;> rcases (by omega : i = 0) with rfl <;> rcases (by omega : k = 0) with rfl
        · exact en_yes_1t_00_0 h7 hj hq b1 b2 d0
        · exact en_yes_1t_00_1 h7 hj hq b1 b2 d0
    · by_cases d0 : (eD true 2 (I q 2).toInt (fun i => (I (q + 1) i).toInt)) = 0
      · exact en_no_2f h7 hj hq b1 b2 d0 hi hk wh hwh
      · rcases hwh with rfl | rfl <;> rcases (by omega : i = 0 ∨ i = 1) with rfl | rfl <;> rcases (by omega : k = 0 ∨ k = 1) with rfl | rfl
        · exact en_yes_2f_00_0 h7 hj hq b1 b2 d0
        · exact en_yes_2f_01_0 h7 hj hq b1 b2 d0
        · exact en_yes_2f_10_0 h7 hj hq b1 b2 d0
        · exact en_yes_2f_11_0 h7 hj hq b1 b2 d0
        · exact en_yes_2f_00_1 h7 hj hq b1 b2 d0
        · exact en_yes_2f_01_1 h7 hj hq b1 b2 d0
        · exact en_yes_2f_10_1 h7 hj hq b1 b2 d0
        · exact en_yes_2f_11_1 h7 hj hq b1 b2 d0
    · by_cases d0 : (eD false 2 (I q 2).toInt (fun i => (I (q + 1) i).toInt)) = 0
      · exact en_no_2t h7 hj hq b1 b2 d0 hi hk wh hwh
      · rcases hwh with rfl | rfl <;> rcases (by omega : i = 0 ∨ i = 1) with rfl | rfl <;> rcases (by omega : k = 0 ∨ k = 1) with rfl | rfl
        · exact en_yes_2t_00_0 h7 hj hq b1 b2 d0
        · exact en_yes_2t_01_0 h7 hj hq b1 b2 d0
        · exact en_yes_2t_10_0 h7 hj hq b1 b2 d0
        · exact en_yes_2t_11_0 h7 hj hq b1 b2 d0
        · exact en_yes_2t_00_1 h7 hj hq b1 b2 d0
        · exact en_yes_2t_01_1 h7 hj hq b1 b2 d0
        · exact en_yes_2t_10_1 h7 hj hq b1 b2 d0
        · exact en_yes_2t_11_1 h7 hj hq b1 b2 d0
    · exact en_no_3f h7 hj hq b1 b2 hi hk wh hwh
    · exact en_no_3t h7 hj hq b1 b2 hi hk wh hwh
