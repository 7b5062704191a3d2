/-! run -/
theorem fn_scale {a b a2 b2 c : Int} (hc : 0 < c) (ha : a = c * a2) (hb : b = c * b2) : fn a b = fn a2 b2 ∧ fd a b = fd a2 b2 := by
  subst ha
  subst hb
  have g : (Int.gcd (c * a2) (c * b2) : Int) = c * (Int.gcd a2 b2 : Int) := by
    rw [Int.gcd_mul_left]
    have : (c.natAbs : Int) = c := by omega
    rw [Int.natCast_mul, this]
  have s : (c * b2 < 0) ↔ b2 < 0 := by
    constructor
    · intro h
      by_cases q : b2 < 0
      · exact q
      · have := Int.mul_nonneg (Int.le_of_lt hc) (show 0 ≤ b2 by omega)
        omega
    · intro h
      exact Int.mul_neg_of_pos_of_neg hc h
  unfold fn fd
  rw [g, Int.mul_ediv_mul_of_pos _ _ hc, Int.mul_ediv_mul_of_pos _ _ hc]
  by_cases q : b2 < 0
  · rw [if_pos (s.mpr q), if_pos q, if_pos (s.mpr q), if_pos q]
    exact ⟨rfl, rfl⟩
  · rw [if_neg (fun h => q (s.mp h)), if_neg q, if_neg (fun h => q (s.mp h)), if_neg q]
    exact ⟨rfl, rfl⟩
theorem dig {m : Nat} (h : m < 7) : bn 3 (nI m - 3).toInt := by
  unfold bn
  rw [Int32.toInt_sub, nI_toInt (by omega), show (3 : Int32).toInt = 3 from rfl, Int.bmod_eq_of_le (by omega) (by omega)]
  omega
theorem div7 {z : Nat} (h : z < 1000000) : nI z / 7 = nI (z / 7) := pk_div (d := 7) (by omega) (by omega) (by omega)
theorem rem7 {z : Nat} (h : z < 1000000) : nI z - nI (z / 7) * 7 = nI (z % 7) := by
  rw [← div7 h]
  exact pk_rem (d := 7) (by omega) (by omega) (by omega)
theorem upow {u : Int} (hu : u = 1 ∨ u = 2 ∨ u = 4) {e : Nat} (he : e < 8) : bn 16384 (u ^ e) ∧ ¬ u ^ e = 0 := by
  rcases hu with h | h | h <;> rw [h] <;> rcases i8 he with h | h | h | h | h | h | h | h <;> rw [h] <;> unfold bn <;> decide
set_option maxRecDepth 100000 in
set_option maxHeartbeats 8000000 in
theorem run_00 {n sl : Nat} {C Z : Nat → Nat} {I : Nat → Nat → Int32} {L : Nat → Nat → Int64} {R : Nat → Nat → Nat} {M rn t j q s z : Nat} (h7 : Inv7 n C Z I L R M rn t) (hj : j < M) (hq : MOK n C Z I R j q s) (kf : inG 7 (C q) = true ∧ isa (C q) 1 = false ∧ ¬ I 75 j = 1) (hz : z < 7) : Two 70 137 [some (.ref 1), some (.int (nI j)), some (.int 0), some (.int (nI z)), some (.int 0), none] [some (.ref 74), some (.int (nI j)), some (.int 0), some (.int (nI z)), some (.int 0), none, none, none, none, none, none, none] (n, sl, C, Z, I, L, R) := by
  obtain ⟨hM12, hn98, ⟨hB, hK, hO, hE, hM⟩, ⟨e1, e2⟩, -⟩ := id h7
  have hB' := hB
  have hM' := hM
  have hKK := hK
  unfold LayB at hB
  unfold LayM at hM
  unfold LayK at hKK
  unfold Two
  obtain ⟨a1, a2, -⟩ := id hq
  obtain ⟨kin, kf2, kf3⟩ := kf
  have hq0 : ¬ q = 0 := by omega
  have hc := hq.cm
  have hc' : CM C Z I (u2 R 8 0 q) q s (I q 2) _ _ _ _ := hc.keep (fun _ _ => rfl) (fun i hi => u2_ne _ _ _ (by omega))
  have hr' := (hq.rm hM' (by omega)).keep (R' := u2 R 8 0 q) (I' := I) (hM'.look 8 q (by omega)) (fun _ _ _ => rfl)
  have hK' : LayK C Z (u2 R 8 0 q) := by unfold LayK at *; simp [hK, u2_rd]
  have rr : u2 R 8 0 q 8 0 = q := by simp [u2_rd]
  have c8 : C 8 = 4 := by simp [hKK]
  have r74 : ∀ k, u2 R 8 0 q 74 k = R 74 k := fun k => by rw [u2_ne _ _ _ (by omega)]
  have r1 : ∀ k, u2 R 8 0 q 1 k = R 1 k := fun k => by rw [u2_ne _ _ _ (by omega)]
  have hM2 := hM'.look 8 q (by omega)
  have md : I 78 j = I (q + 4) 0 := hq.2.2.2.2.2.2.2.2.2.2.2.1.1
  have a8 : I 77 j = I q 2 := hq.2.2.2.2.2.1.1.symm
  have r6 : R q 6 = q + 4 := hq.2.2.2.2.2.2.1.2.2.2
  have c4 : C (q + 4) = 21 ∧ Z (q + 4) = 1 := ⟨hq.2.2.2.2.2.2.2.1.2.2.2.1, hq.2.2.2.2.2.2.2.1.2.2.2.2.2.2.2⟩
  have j0 : inb (nI j) 12 = true := by rw [inb_nI (by omega)]; simp; omega
  have jx := ix_nI (show j < 2 ^ 31 by omega)
  have rq : ∀ k, u2 R 8 0 q q k = R q k := fun k => by rw [u2_ne _ _ _ (by omega)]
  have isy := fun (n sl : Nat) (I' : Nat → Nat → Int32) (L' : Nat → Nat → Int64) => is_yesG hM2 hM12 hj n sl I' L'
  obtain ⟨bA, bB, bK, bD⟩ := hq.bns
  have c73 : C 73 = 3 := by simp [hB]
  have c74 : C 74 = 11 := by simp [hM]
  have z0 : ¬ nI z < 0 := nI_nneg (by omega)
  have z1 : ¬ (6 : Int32) < nI z := nI_nlt (b := z) (a := 6) (by omega) (by omega)
  have z2 : (nI z).toInt64 < 7 := by rw [nI_l (by omega)]; exact (pk_lLT (b := 7) (by omega) (by omega)).mpr (by omega)
  have cp7 := fun h k pc ls st Q => c_pow 7 (show 1 < 1000 by omega) h k pc ls st Q
  have mp7 := fun h k pc ls st Q => m_pow 7 (show 1 < 1000 by omega) h k pc ls st Q
  simp only [show nI 1 = 1 from rfl, show wL ((7 : Int32).toInt ^ 1) = 7 from by decide +kernel, show wL (7 : Int32).toInt = 7 from by decide +kernel] at cp7 mp7
  have c7 : (7 : Int64).toInt32 = 7 := by decide +kernel
  have dv0 := div7 (z := z) (by omega)
  have rm0 := rem7 (z := z) (by omega)
  have lm : z % 7 = z := by omega
  have l7 : z < 7 := by omega
  obtain ⟨X0, tx0, bX0⟩ : ∃ X, (nI (z) - 3).toInt64 = wL X ∧ bn 3 X := ⟨_, wL_i2l _, dig (by omega)⟩
  have tD : (I (q + 4) 0).toInt64 = wL (I (q + 4) 0).toInt := wL_i2l _
  have tU : (I q 2).toInt64 = wL (I q 2).toInt := wL_i2l _
  simp [S70_0, S70_1, S70_2, S87_0, at_yesG hB' hM12 hj, Call_in (k2 := 87), BS, ixs, inbs, le_nlt, hB, e1, a1, hq0, kin, kf2, c8, cp7, c7, z0, z1]
  refine c_at8 hc hK (fun L1 f1 lk => ?_)

  have cp0 := fun h k pc ls st Q => c_pow (I q 2) (show 0 < 1000 by omega) h k pc ls st Q
  simp only [show nI 0 = 0 from rfl] at cp0
  have mp0 := fun h k pc ls st Q => m_pow (I q 2) (show 0 < 1000 by omega) h k pc ls st Q
  simp only [show nI 0 = 0 from rfl] at mp0
  simp [S70_0, S70_1, S70_2, S32_0, S32_1, S32_2, S14_0, Call_in (k2 := 32), BS, ixs, inbs, le_nlt, hB, hKK, c8, c73, r1, rr, rq, r6, c4, kin, tD, tx0, wL_mul, wL_add, u2_rd, cp0, dv0, rm0]
  refine (c_put ?_ ?_ ?_ c73 _ _ _ _ _).mpr ?_
  · exact bn_le (bn_mul bD bX0) (by decide)
  · unfold bn; decide
  · decide
  simp [S70_0, S70_1, S70_2, S32_0, S32_1, S32_2, S14_0, Call_in (k2 := 32), Call_in (k2 := 14), BS, ixs, inbs, le_nlt, hB, c8, c73, r1, u2_rd]
  simp [S137_0, S137_1, S137_2, S137_3, S137_4, S107_0, BS, ixs, inbs, le_nlt, hM, isy, e2, r74, kf3, j0, jx, z0, z2, mp7, lg_lt, a8, md, tU, tD, tx0, wL_mul, wL_add, mp0, dv0, rm0, lm, ← wL_1]
  refine (m_low ?_ ?_ ?_ c74 _ _ _ _ _).mpr ?_
  · exact bn_le (bn_mul bD bX0) (by decide)
  · unfold bn; decide
  · decide
  have sc := fn_scale (c := 1) (by decide) (show (I (q + 4) 0).toInt * X0 = 1 * ((I (q + 4) 0).toInt * X0) from by grind) (show 1 = 1 * (1) from by grind)
  simp [S137_0, S137_1, S137_2, S137_3, S137_4, S107_0, Call_in (k2 := 107), BS, ixs, inbs, le_nlt, hM, c74, r74, u2_rd]
  exact Inv_mk (h7.scr (fun i hi => by rw [u2_ne _ _ _ (by omega), u2_ne _ _ _ (by omega), u2_ne _ _ _ (by omega), u2_ne _ _ _ (by omega), f1 i (by omega)]) (fun _ _ => rfl) ⟨rfl, rfl, rfl⟩ (fun i k h1 _ => by rw [u2_rd, if_neg h1]))

set_option maxRecDepth 100000 in
set_option maxHeartbeats 8000000 in
theorem run_01 {n sl : Nat} {C Z : Nat → Nat} {I : Nat → Nat → Int32} {L : Nat → Nat → Int64} {R : Nat → Nat → Nat} {M rn t j q s z : Nat} (h7 : Inv7 n C Z I L R M rn t) (hj : j < M) (hq : MOK n C Z I R j q s) (kf : inG 7 (C q) = true ∧ isa (C q) 1 = false ∧ ¬ I 75 j = 1) (hz : z < 7) : Two 70 137 [some (.ref 1), some (.int (nI j)), some (.int 0), some (.int (nI z)), some (.int 1), none] [some (.ref 74), some (.int (nI j)), some (.int 0), some (.int (nI z)), some (.int 1), none, none, none, none, none, none, none] (n, sl, C, Z, I, L, R) := by
  obtain ⟨hM12, hn98, ⟨hB, hK, hO, hE, hM⟩, ⟨e1, e2⟩, -⟩ := id h7
  have hB' := hB
  have hM' := hM
  have hKK := hK
  unfold LayB at hB
  unfold LayM at hM
  unfold LayK at hKK
  unfold Two
  obtain ⟨a1, a2, -⟩ := id hq
  obtain ⟨kin, kf2, kf3⟩ := kf
  have hq0 : ¬ q = 0 := by omega
  have hc := hq.cm
  have hc' : CM C Z I (u2 R 8 0 q) q s (I q 2) _ _ _ _ := hc.keep (fun _ _ => rfl) (fun i hi => u2_ne _ _ _ (by omega))
  have hr' := (hq.rm hM' (by omega)).keep (R' := u2 R 8 0 q) (I' := I) (hM'.look 8 q (by omega)) (fun _ _ _ => rfl)
  have hK' : LayK C Z (u2 R 8 0 q) := by unfold LayK at *; simp [hK, u2_rd]
  have rr : u2 R 8 0 q 8 0 = q := by simp [u2_rd]
  have c8 : C 8 = 4 := by simp [hKK]
  have r74 : ∀ k, u2 R 8 0 q 74 k = R 74 k := fun k => by rw [u2_ne _ _ _ (by omega)]
  have r1 : ∀ k, u2 R 8 0 q 1 k = R 1 k := fun k => by rw [u2_ne _ _ _ (by omega)]
  have hM2 := hM'.look 8 q (by omega)
  have md : I 78 j = I (q + 4) 0 := hq.2.2.2.2.2.2.2.2.2.2.2.1.1
  have a8 : I 77 j = I q 2 := hq.2.2.2.2.2.1.1.symm
  have r6 : R q 6 = q + 4 := hq.2.2.2.2.2.2.1.2.2.2
  have c4 : C (q + 4) = 21 ∧ Z (q + 4) = 1 := ⟨hq.2.2.2.2.2.2.2.1.2.2.2.1, hq.2.2.2.2.2.2.2.1.2.2.2.2.2.2.2⟩
  have j0 : inb (nI j) 12 = true := by rw [inb_nI (by omega)]; simp; omega
  have jx := ix_nI (show j < 2 ^ 31 by omega)
  have rq : ∀ k, u2 R 8 0 q q k = R q k := fun k => by rw [u2_ne _ _ _ (by omega)]
  have isy := fun (n sl : Nat) (I' : Nat → Nat → Int32) (L' : Nat → Nat → Int64) => is_yesG hM2 hM12 hj n sl I' L'
  obtain ⟨bA, bB, bK, bD⟩ := hq.bns
  have c73 : C 73 = 3 := by simp [hB]
  have c74 : C 74 = 11 := by simp [hM]
  have z0 : ¬ nI z < 0 := nI_nneg (by omega)
  have z1 : ¬ (6 : Int32) < nI z := nI_nlt (b := z) (a := 6) (by omega) (by omega)
  have z2 : (nI z).toInt64 < 7 := by rw [nI_l (by omega)]; exact (pk_lLT (b := 7) (by omega) (by omega)).mpr (by omega)
  have cp7 := fun h k pc ls st Q => c_pow 7 (show 1 < 1000 by omega) h k pc ls st Q
  have mp7 := fun h k pc ls st Q => m_pow 7 (show 1 < 1000 by omega) h k pc ls st Q
  simp only [show nI 1 = 1 from rfl, show wL ((7 : Int32).toInt ^ 1) = 7 from by decide +kernel, show wL (7 : Int32).toInt = 7 from by decide +kernel] at cp7 mp7
  have c7 : (7 : Int64).toInt32 = 7 := by decide +kernel
  have dv0 := div7 (z := z) (by omega)
  have rm0 := rem7 (z := z) (by omega)
  have lm : z % 7 = z := by omega
  have l7 : z < 7 := by omega
  obtain ⟨X0, tx0, bX0⟩ : ∃ X, (nI (z) - 3).toInt64 = wL X ∧ bn 3 X := ⟨_, wL_i2l _, dig (by omega)⟩
  have tD : (I (q + 4) 0).toInt64 = wL (I (q + 4) 0).toInt := wL_i2l _
  have tU : (I q 2).toInt64 = wL (I q 2).toInt := wL_i2l _
  simp [S70_0, S70_1, S70_2, S87_0, at_yesG hB' hM12 hj, Call_in (k2 := 87), BS, ixs, inbs, le_nlt, hB, e1, a1, hq0, kin, kf2, c8, cp7, c7, z0, z1]
  refine c_at8 hc hK (fun L1 f1 lk => ?_)

  have cp0 := fun h k pc ls st Q => c_pow (I q 2) (show 0 < 1000 by omega) h k pc ls st Q
  simp only [show nI 0 = 0 from rfl] at cp0
  have mp0 := fun h k pc ls st Q => m_pow (I q 2) (show 0 < 1000 by omega) h k pc ls st Q
  simp only [show nI 0 = 0 from rfl] at mp0
  simp [S70_0, S70_1, S70_2, S32_0, S32_1, S32_2, S14_0, Call_in (k2 := 32), BS, ixs, inbs, le_nlt, hB, hKK, c8, c73, r1, rr, rq, r6, c4, kin, tD, tx0, wL_mul, wL_add, u2_rd, cp0, dv0, rm0]
  refine (c_put ?_ ?_ ?_ c73 _ _ _ _ _).mpr ?_
  · exact bn_le (bn_mul bD bX0) (by decide)
  · unfold bn; decide
  · decide
  simp [S70_0, S70_1, S70_2, S32_0, S32_1, S32_2, S14_0, Call_in (k2 := 32), Call_in (k2 := 14), BS, ixs, inbs, le_nlt, hB, c8, c73, r1, u2_rd]
  simp [S137_0, S137_1, S137_2, S137_3, S137_4, S107_0, BS, ixs, inbs, le_nlt, hM, isy, e2, r74, kf3, j0, jx, z0, z2, mp7, lg_lt, a8, md, tU, tD, tx0, wL_mul, wL_add, mp0, dv0, rm0, lm, ← wL_1]
  refine (m_low ?_ ?_ ?_ c74 _ _ _ _ _).mpr ?_
  · exact bn_le (bn_mul bD bX0) (by decide)
  · unfold bn; decide
  · decide
  have sc := fn_scale (c := 1) (by decide) (show (I (q + 4) 0).toInt * X0 = 1 * ((I (q + 4) 0).toInt * X0) from by grind) (show 1 = 1 * (1) from by grind)
  simp [S137_0, S137_1, S137_2, S137_3, S137_4, S107_0, Call_in (k2 := 107), BS, ixs, inbs, le_nlt, hM, c74, r74, u2_rd]
  exact Inv_mk (h7.scr (fun i hi => by rw [u2_ne _ _ _ (by omega), u2_ne _ _ _ (by omega), u2_ne _ _ _ (by omega), u2_ne _ _ _ (by omega), f1 i (by omega)]) (fun _ _ => rfl) ⟨rfl, rfl, rfl⟩ (fun i k h1 _ => by rw [u2_rd, if_neg h1]))

set_option maxRecDepth 100000 in
set_option maxHeartbeats 8000000 in
theorem run_10 {n sl : Nat} {C Z : Nat → Nat} {I : Nat → Nat → Int32} {L : Nat → Nat → Int64} {R : Nat → Nat → Nat} {M rn t j q s z : Nat} (h7 : Inv7 n C Z I L R M rn t) (hj : j < M) (hq : MOK n C Z I R j q s) (kf : inG 7 (C q) = true ∧ isa (C q) 1 = false ∧ ¬ I 75 j = 1) (hz : z < 49) : Two 70 137 [some (.ref 1), some (.int (nI j)), some (.int 1), some (.int (nI z)), some (.int 0), none] [some (.ref 74), some (.int (nI j)), some (.int 1), some (.int (nI z)), some (.int 0), none, none, none, none, none, none, none] (n, sl, C, Z, I, L, R) := by
  obtain ⟨hM12, hn98, ⟨hB, hK, hO, hE, hM⟩, ⟨e1, e2⟩, -⟩ := id h7
  have hB' := hB
  have hM' := hM
  have hKK := hK
  unfold LayB at hB
  unfold LayM at hM
  unfold LayK at hKK
  unfold Two
  obtain ⟨a1, a2, -⟩ := id hq
  obtain ⟨kin, kf2, kf3⟩ := kf
  have hq0 : ¬ q = 0 := by omega
  have hc := hq.cm
  have hc' : CM C Z I (u2 R 8 0 q) q s (I q 2) _ _ _ _ := hc.keep (fun _ _ => rfl) (fun i hi => u2_ne _ _ _ (by omega))
  have hr' := (hq.rm hM' (by omega)).keep (R' := u2 R 8 0 q) (I' := I) (hM'.look 8 q (by omega)) (fun _ _ _ => rfl)
  have hK' : LayK C Z (u2 R 8 0 q) := by unfold LayK at *; simp [hK, u2_rd]
  have rr : u2 R 8 0 q 8 0 = q := by simp [u2_rd]
  have c8 : C 8 = 4 := by simp [hKK]
  have r74 : ∀ k, u2 R 8 0 q 74 k = R 74 k := fun k => by rw [u2_ne _ _ _ (by omega)]
  have r1 : ∀ k, u2 R 8 0 q 1 k = R 1 k := fun k => by rw [u2_ne _ _ _ (by omega)]
  have hM2 := hM'.look 8 q (by omega)
  have md : I 78 j = I (q + 4) 0 := hq.2.2.2.2.2.2.2.2.2.2.2.1.1
  have a8 : I 77 j = I q 2 := hq.2.2.2.2.2.1.1.symm
  have r6 : R q 6 = q + 4 := hq.2.2.2.2.2.2.1.2.2.2
  have c4 : C (q + 4) = 21 ∧ Z (q + 4) = 1 := ⟨hq.2.2.2.2.2.2.2.1.2.2.2.1, hq.2.2.2.2.2.2.2.1.2.2.2.2.2.2.2⟩
  have j0 : inb (nI j) 12 = true := by rw [inb_nI (by omega)]; simp; omega
  have jx := ix_nI (show j < 2 ^ 31 by omega)
  have rq : ∀ k, u2 R 8 0 q q k = R q k := fun k => by rw [u2_ne _ _ _ (by omega)]
  have isy := fun (n sl : Nat) (I' : Nat → Nat → Int32) (L' : Nat → Nat → Int64) => is_yesG hM2 hM12 hj n sl I' L'
  obtain ⟨bA, bB, bK, bD⟩ := hq.bns
  have c73 : C 73 = 3 := by simp [hB]
  have c74 : C 74 = 11 := by simp [hM]
  have z0 : ¬ nI z < 0 := nI_nneg (by omega)
  have z1 : ¬ (48 : Int32) < nI z := nI_nlt (b := z) (a := 48) (by omega) (by omega)
  have z2 : (nI z).toInt64 < 49 := by rw [nI_l (by omega)]; exact (pk_lLT (b := 49) (by omega) (by omega)).mpr (by omega)
  have cp7 := fun h k pc ls st Q => c_pow 7 (show 2 < 1000 by omega) h k pc ls st Q
  have mp7 := fun h k pc ls st Q => m_pow 7 (show 2 < 1000 by omega) h k pc ls st Q
  simp only [show nI 2 = 2 from rfl, show wL ((7 : Int32).toInt ^ 2) = 49 from by decide +kernel, show wL (7 : Int32).toInt = 7 from by decide +kernel] at cp7 mp7
  have c7 : (49 : Int64).toInt32 = 49 := by decide +kernel
  have dv0 := div7 (z := z) (by omega)
  have rm0 := rem7 (z := z) (by omega)
  have dv1 := div7 (z := (z / 7)) (by omega)
  have rm1 := rem7 (z := (z / 7)) (by omega)
  have lm : (z / 7) % 7 = (z / 7) := by omega
  have l7 : (z / 7) < 7 := by omega
  obtain ⟨X0, tx0, bX0⟩ : ∃ X, (nI (z % 7) - 3).toInt64 = wL X ∧ bn 3 X := ⟨_, wL_i2l _, dig (by omega)⟩
  obtain ⟨X1, tx1, bX1⟩ : ∃ X, (nI ((z / 7)) - 3).toInt64 = wL X ∧ bn 3 X := ⟨_, wL_i2l _, dig (by omega)⟩
  have tD : (I (q + 4) 0).toInt64 = wL (I (q + 4) 0).toInt := wL_i2l _
  have tU : (I q 2).toInt64 = wL (I q 2).toInt := wL_i2l _
  simp [S70_0, S70_1, S70_2, S87_0, at_yesG hB' hM12 hj, Call_in (k2 := 87), BS, ixs, inbs, le_nlt, hB, e1, a1, hq0, kin, kf2, c8, cp7, c7, z0, z1]
  refine c_at8 hc hK (fun L1 f1 lk => ?_)
  have pl0 := fun k pc ls st Q => c_pl8 (n := n) (sl := sl) hc' hK' rr lk (show 0 < 8 by omega) k pc ls st Q
  simp only [show nI 0 = 0 from rfl] at pl0
  have cp0 := fun h k pc ls st Q => c_pow (I q 2) (show 0 < 1000 by omega) h k pc ls st Q
  simp only [show nI 0 = 0 from rfl] at cp0
  have cp1 := fun h k pc ls st Q => c_pow (I q 2) (show 1 < 1000 by omega) h k pc ls st Q
  simp only [show nI 1 = 1 from rfl] at cp1
  have mp0 := fun h k pc ls st Q => m_pow (I q 2) (show 0 < 1000 by omega) h k pc ls st Q
  simp only [show nI 0 = 0 from rfl] at mp0
  have mp1 := fun h k pc ls st Q => m_pow (I q 2) (show 1 < 1000 by omega) h k pc ls st Q
  simp only [show nI 1 = 1 from rfl] at mp1
  simp [S70_0, S70_1, S70_2, S32_0, S32_1, S32_2, S14_0, Call_in (k2 := 32), BS, ixs, inbs, le_nlt, hB, hKK, c8, c73, r1, rr, rq, r6, c4, kin, tD, tx0, tx1, wL_mul, wL_add, u2_rd, pl0, cp0, cp1, dv0, rm0, dv1, rm1]
  refine (c_put ?_ ?_ ?_ c73 _ _ _ _ _).mpr ?_
  · exact bn_le (bn_add (bn_mul (bn_mul (bn_pl bA bB bK 0) (upow hq.un (show 1 < 8 by omega)).1) bX0) (bn_mul (bn_mul bD (upow hq.un (show 1 < 8 by omega)).1) bX1)) (by decide)
  · exact bn_le (upow hq.un (show 1 < 8 by omega)).1 (by omega)
  · exact (upow hq.un (show 1 < 8 by omega)).2
  simp [S70_0, S70_1, S70_2, S32_0, S32_1, S32_2, S14_0, Call_in (k2 := 32), Call_in (k2 := 14), BS, ixs, inbs, le_nlt, hB, c8, c73, r1, u2_rd]
  simp [S137_0, S137_1, S137_2, S137_3, S137_4, S107_0, BS, ixs, inbs, le_nlt, hM, isy, e2, r74, kf3, j0, jx, z0, z2, mp7, lg_lt, a8, md, tU, tD, tx0, tx1, wL_mul, wL_add, mp0, mp1, dv0, rm0, dv1, rm1, lm]
  refine m_beat hr' (show 0 < 1000 by omega) (fun L2 g2 => ?_)
  simp [S137_0, S137_1, S137_2, S137_3, S137_4, S107_0, BS, ixs, inbs, le_nlt, hM, r74, a8, md, j0, jx, tU, tD, tx0, tx1, wL_mul, wL_add, mp0, mp1, dv0, rm0, dv1, rm1, lm]
  refine (m_low ?_ ?_ ?_ c74 _ _ _ _ _).mpr ?_
  · exact bn_le (bn_add (bn_mul (bn_pl bA bB bK 0) bX0) (bn_mul bD bX1)) (by decide)
  · unfold bn; decide
  · decide
  have sc := fn_scale (c := (I q 2).toInt) (by rcases hq.un with h | h | h <;> rw [h] <;> decide) (show (pl (fun i => (I (q + 1) i).toInt) (fun i => (I (q + 2) i).toInt) (fun i => (I (q + 3) i).toInt) 0) * (I q 2).toInt ^ 1 * X0 + (I (q + 4) 0).toInt * (I q 2).toInt ^ 1 * X1 = (I q 2).toInt * ((pl (fun i => (I (q + 1) i).toInt) (fun i => (I (q + 2) i).toInt) (fun i => (I (q + 3) i).toInt) 0) * X0 + (I (q + 4) 0).toInt * X1) from by grind) (show (I q 2).toInt ^ 1 = (I q 2).toInt * (1) from by grind)
  simp [S137_0, S137_1, S137_2, S137_3, S137_4, S107_0, Call_in (k2 := 107), BS, ixs, inbs, le_nlt, hM, c74, r74, u2_rd]
  refine ⟨by rw [← sc.1], Inv_mk (h7.scr (fun i hi => by rw [u2_ne _ _ _ (by omega), u2_ne _ _ _ (by omega), g2 i (by omega) (by omega), u2_ne _ _ _ (by omega), u2_ne _ _ _ (by omega), f1 i (by omega)]) (fun _ _ => rfl) ⟨rfl, rfl, rfl⟩ (fun i k h1 _ => by rw [u2_rd, if_neg h1]))⟩

set_option maxRecDepth 100000 in
set_option maxHeartbeats 8000000 in
theorem run_11 {n sl : Nat} {C Z : Nat → Nat} {I : Nat → Nat → Int32} {L : Nat → Nat → Int64} {R : Nat → Nat → Nat} {M rn t j q s z : Nat} (h7 : Inv7 n C Z I L R M rn t) (hj : j < M) (hq : MOK n C Z I R j q s) (kf : inG 7 (C q) = true ∧ isa (C q) 1 = false ∧ ¬ I 75 j = 1) (hz : z < 49) : Two 70 137 [some (.ref 1), some (.int (nI j)), some (.int 1), some (.int (nI z)), some (.int 1), none] [some (.ref 74), some (.int (nI j)), some (.int 1), some (.int (nI z)), some (.int 1), none, none, none, none, none, none, none] (n, sl, C, Z, I, L, R) := by
  obtain ⟨hM12, hn98, ⟨hB, hK, hO, hE, hM⟩, ⟨e1, e2⟩, -⟩ := id h7
  have hB' := hB
  have hM' := hM
  have hKK := hK
  unfold LayB at hB
  unfold LayM at hM
  unfold LayK at hKK
  unfold Two
  obtain ⟨a1, a2, -⟩ := id hq
  obtain ⟨kin, kf2, kf3⟩ := kf
  have hq0 : ¬ q = 0 := by omega
  have hc := hq.cm
  have hc' : CM C Z I (u2 R 8 0 q) q s (I q 2) _ _ _ _ := hc.keep (fun _ _ => rfl) (fun i hi => u2_ne _ _ _ (by omega))
  have hr' := (hq.rm hM' (by omega)).keep (R' := u2 R 8 0 q) (I' := I) (hM'.look 8 q (by omega)) (fun _ _ _ => rfl)
  have hK' : LayK C Z (u2 R 8 0 q) := by unfold LayK at *; simp [hK, u2_rd]
  have rr : u2 R 8 0 q 8 0 = q := by simp [u2_rd]
  have c8 : C 8 = 4 := by simp [hKK]
  have r74 : ∀ k, u2 R 8 0 q 74 k = R 74 k := fun k => by rw [u2_ne _ _ _ (by omega)]
  have r1 : ∀ k, u2 R 8 0 q 1 k = R 1 k := fun k => by rw [u2_ne _ _ _ (by omega)]
  have hM2 := hM'.look 8 q (by omega)
  have md : I 78 j = I (q + 4) 0 := hq.2.2.2.2.2.2.2.2.2.2.2.1.1
  have a8 : I 77 j = I q 2 := hq.2.2.2.2.2.1.1.symm
  have r6 : R q 6 = q + 4 := hq.2.2.2.2.2.2.1.2.2.2
  have c4 : C (q + 4) = 21 ∧ Z (q + 4) = 1 := ⟨hq.2.2.2.2.2.2.2.1.2.2.2.1, hq.2.2.2.2.2.2.2.1.2.2.2.2.2.2.2⟩
  have j0 : inb (nI j) 12 = true := by rw [inb_nI (by omega)]; simp; omega
  have jx := ix_nI (show j < 2 ^ 31 by omega)
  have rq : ∀ k, u2 R 8 0 q q k = R q k := fun k => by rw [u2_ne _ _ _ (by omega)]
  have isy := fun (n sl : Nat) (I' : Nat → Nat → Int32) (L' : Nat → Nat → Int64) => is_yesG hM2 hM12 hj n sl I' L'
  obtain ⟨bA, bB, bK, bD⟩ := hq.bns
  have c73 : C 73 = 3 := by simp [hB]
  have c74 : C 74 = 11 := by simp [hM]
  have z0 : ¬ nI z < 0 := nI_nneg (by omega)
  have z1 : ¬ (48 : Int32) < nI z := nI_nlt (b := z) (a := 48) (by omega) (by omega)
  have z2 : (nI z).toInt64 < 49 := by rw [nI_l (by omega)]; exact (pk_lLT (b := 49) (by omega) (by omega)).mpr (by omega)
  have cp7 := fun h k pc ls st Q => c_pow 7 (show 2 < 1000 by omega) h k pc ls st Q
  have mp7 := fun h k pc ls st Q => m_pow 7 (show 2 < 1000 by omega) h k pc ls st Q
  simp only [show nI 2 = 2 from rfl, show wL ((7 : Int32).toInt ^ 2) = 49 from by decide +kernel, show wL (7 : Int32).toInt = 7 from by decide +kernel] at cp7 mp7
  have c7 : (49 : Int64).toInt32 = 49 := by decide +kernel
  have dv0 := div7 (z := z) (by omega)
  have rm0 := rem7 (z := z) (by omega)
  have dv1 := div7 (z := (z / 7)) (by omega)
  have rm1 := rem7 (z := (z / 7)) (by omega)
  have lm : (z / 7) % 7 = (z / 7) := by omega
  have l7 : (z / 7) < 7 := by omega
  obtain ⟨X0, tx0, bX0⟩ : ∃ X, (nI (z % 7) - 3).toInt64 = wL X ∧ bn 3 X := ⟨_, wL_i2l _, dig (by omega)⟩
  obtain ⟨X1, tx1, bX1⟩ : ∃ X, (nI ((z / 7)) - 3).toInt64 = wL X ∧ bn 3 X := ⟨_, wL_i2l _, dig (by omega)⟩
  have tD : (I (q + 4) 0).toInt64 = wL (I (q + 4) 0).toInt := wL_i2l _
  have tU : (I q 2).toInt64 = wL (I q 2).toInt := wL_i2l _
  simp [S70_0, S70_1, S70_2, S87_0, at_yesG hB' hM12 hj, Call_in (k2 := 87), BS, ixs, inbs, le_nlt, hB, e1, a1, hq0, kin, kf2, c8, cp7, c7, z0, z1]
  refine c_at8 hc hK (fun L1 f1 lk => ?_)
  have pl0 := fun k pc ls st Q => c_pl8 (n := n) (sl := sl) hc' hK' rr lk (show 0 < 8 by omega) k pc ls st Q
  simp only [show nI 0 = 0 from rfl] at pl0
  have cp0 := fun h k pc ls st Q => c_pow (I q 2) (show 0 < 1000 by omega) h k pc ls st Q
  simp only [show nI 0 = 0 from rfl] at cp0
  have cp1 := fun h k pc ls st Q => c_pow (I q 2) (show 1 < 1000 by omega) h k pc ls st Q
  simp only [show nI 1 = 1 from rfl] at cp1
  have mp0 := fun h k pc ls st Q => m_pow (I q 2) (show 0 < 1000 by omega) h k pc ls st Q
  simp only [show nI 0 = 0 from rfl] at mp0
  have mp1 := fun h k pc ls st Q => m_pow (I q 2) (show 1 < 1000 by omega) h k pc ls st Q
  simp only [show nI 1 = 1 from rfl] at mp1
  simp [S70_0, S70_1, S70_2, S32_0, S32_1, S32_2, S14_0, Call_in (k2 := 32), BS, ixs, inbs, le_nlt, hB, hKK, c8, c73, r1, rr, rq, r6, c4, kin, tD, tx0, tx1, wL_mul, wL_add, u2_rd, pl0, cp0, cp1, dv0, rm0, dv1, rm1]
  refine (c_put ?_ ?_ ?_ c73 _ _ _ _ _).mpr ?_
  · exact bn_le (bn_add (bn_mul (bn_mul (bn_pl bA bB bK 0) (upow hq.un (show 1 < 8 by omega)).1) bX0) (bn_mul (bn_mul bD (upow hq.un (show 1 < 8 by omega)).1) bX1)) (by decide)
  · exact bn_le (upow hq.un (show 1 < 8 by omega)).1 (by omega)
  · exact (upow hq.un (show 1 < 8 by omega)).2
  simp [S70_0, S70_1, S70_2, S32_0, S32_1, S32_2, S14_0, Call_in (k2 := 32), Call_in (k2 := 14), BS, ixs, inbs, le_nlt, hB, c8, c73, r1, u2_rd]
  simp [S137_0, S137_1, S137_2, S137_3, S137_4, S107_0, BS, ixs, inbs, le_nlt, hM, isy, e2, r74, kf3, j0, jx, z0, z2, mp7, lg_lt, a8, md, tU, tD, tx0, tx1, wL_mul, wL_add, mp0, mp1, dv0, rm0, dv1, rm1, lm]
  refine m_beat hr' (show 0 < 1000 by omega) (fun L2 g2 => ?_)
  simp [S137_0, S137_1, S137_2, S137_3, S137_4, S107_0, BS, ixs, inbs, le_nlt, hM, r74, a8, md, j0, jx, tU, tD, tx0, tx1, wL_mul, wL_add, mp0, mp1, dv0, rm0, dv1, rm1, lm]
  refine (m_low ?_ ?_ ?_ c74 _ _ _ _ _).mpr ?_
  · exact bn_le (bn_add (bn_mul (bn_pl bA bB bK 0) bX0) (bn_mul bD bX1)) (by decide)
  · unfold bn; decide
  · decide
  have sc := fn_scale (c := (I q 2).toInt) (by rcases hq.un with h | h | h <;> rw [h] <;> decide) (show (pl (fun i => (I (q + 1) i).toInt) (fun i => (I (q + 2) i).toInt) (fun i => (I (q + 3) i).toInt) 0) * (I q 2).toInt ^ 1 * X0 + (I (q + 4) 0).toInt * (I q 2).toInt ^ 1 * X1 = (I q 2).toInt * ((pl (fun i => (I (q + 1) i).toInt) (fun i => (I (q + 2) i).toInt) (fun i => (I (q + 3) i).toInt) 0) * X0 + (I (q + 4) 0).toInt * X1) from by grind) (show (I q 2).toInt ^ 1 = (I q 2).toInt * (1) from by grind)
  simp [S137_0, S137_1, S137_2, S137_3, S137_4, S107_0, Call_in (k2 := 107), BS, ixs, inbs, le_nlt, hM, c74, r74, u2_rd]
  refine ⟨by rw [← sc.2], Inv_mk (h7.scr (fun i hi => by rw [u2_ne _ _ _ (by omega), u2_ne _ _ _ (by omega), g2 i (by omega) (by omega), u2_ne _ _ _ (by omega), u2_ne _ _ _ (by omega), f1 i (by omega)]) (fun _ _ => rfl) ⟨rfl, rfl, rfl⟩ (fun i k h1 _ => by rw [u2_rd, if_neg h1]))⟩

set_option maxRecDepth 100000 in
set_option maxHeartbeats 8000000 in
theorem run_20 {n sl : Nat} {C Z : Nat → Nat} {I : Nat → Nat → Int32} {L : Nat → Nat → Int64} {R : Nat → Nat → Nat} {M rn t j q s z : Nat} (h7 : Inv7 n C Z I L R M rn t) (hj : j < M) (hq : MOK n C Z I R j q s) (kf : inG 7 (C q) = true ∧ isa (C q) 1 = false ∧ ¬ I 75 j = 1) (hz : z < 343) : Two 70 137 [some (.ref 1), some (.int (nI j)), some (.int 2), some (.int (nI z)), some (.int 0), none] [some (.ref 74), some (.int (nI j)), some (.int 2), some (.int (nI z)), some (.int 0), none, none, none, none, none, none, none] (n, sl, C, Z, I, L, R) := by
  obtain ⟨hM12, hn98, ⟨hB, hK, hO, hE, hM⟩, ⟨e1, e2⟩, -⟩ := id h7
  have hB' := hB
  have hM' := hM
  have hKK := hK
  unfold LayB at hB
  unfold LayM at hM
  unfold LayK at hKK
  unfold Two
  obtain ⟨a1, a2, -⟩ := id hq
  obtain ⟨kin, kf2, kf3⟩ := kf
  have hq0 : ¬ q = 0 := by omega
  have hc := hq.cm
  have hc' : CM C Z I (u2 R 8 0 q) q s (I q 2) _ _ _ _ := hc.keep (fun _ _ => rfl) (fun i hi => u2_ne _ _ _ (by omega))
  have hr' := (hq.rm hM' (by omega)).keep (R' := u2 R 8 0 q) (I' := I) (hM'.look 8 q (by omega)) (fun _ _ _ => rfl)
  have hK' : LayK C Z (u2 R 8 0 q) := by unfold LayK at *; simp [hK, u2_rd]
  have rr : u2 R 8 0 q 8 0 = q := by simp [u2_rd]
  have c8 : C 8 = 4 := by simp [hKK]
  have r74 : ∀ k, u2 R 8 0 q 74 k = R 74 k := fun k => by rw [u2_ne _ _ _ (by omega)]
  have r1 : ∀ k, u2 R 8 0 q 1 k = R 1 k := fun k => by rw [u2_ne _ _ _ (by omega)]
  have hM2 := hM'.look 8 q (by omega)
  have md : I 78 j = I (q + 4) 0 := hq.2.2.2.2.2.2.2.2.2.2.2.1.1
  have a8 : I 77 j = I q 2 := hq.2.2.2.2.2.1.1.symm
  have r6 : R q 6 = q + 4 := hq.2.2.2.2.2.2.1.2.2.2
  have c4 : C (q + 4) = 21 ∧ Z (q + 4) = 1 := ⟨hq.2.2.2.2.2.2.2.1.2.2.2.1, hq.2.2.2.2.2.2.2.1.2.2.2.2.2.2.2⟩
  have j0 : inb (nI j) 12 = true := by rw [inb_nI (by omega)]; simp; omega
  have jx := ix_nI (show j < 2 ^ 31 by omega)
  have rq : ∀ k, u2 R 8 0 q q k = R q k := fun k => by rw [u2_ne _ _ _ (by omega)]
  have isy := fun (n sl : Nat) (I' : Nat → Nat → Int32) (L' : Nat → Nat → Int64) => is_yesG hM2 hM12 hj n sl I' L'
  obtain ⟨bA, bB, bK, bD⟩ := hq.bns
  have c73 : C 73 = 3 := by simp [hB]
  have c74 : C 74 = 11 := by simp [hM]
  have z0 : ¬ nI z < 0 := nI_nneg (by omega)
  have z1 : ¬ (342 : Int32) < nI z := nI_nlt (b := z) (a := 342) (by omega) (by omega)
  have z2 : (nI z).toInt64 < 343 := by rw [nI_l (by omega)]; exact (pk_lLT (b := 343) (by omega) (by omega)).mpr (by omega)
  have cp7 := fun h k pc ls st Q => c_pow 7 (show 3 < 1000 by omega) h k pc ls st Q
  have mp7 := fun h k pc ls st Q => m_pow 7 (show 3 < 1000 by omega) h k pc ls st Q
  simp only [show nI 3 = 3 from rfl, show wL ((7 : Int32).toInt ^ 3) = 343 from by decide +kernel, show wL (7 : Int32).toInt = 7 from by decide +kernel] at cp7 mp7
  have c7 : (343 : Int64).toInt32 = 343 := by decide +kernel
  have dv0 := div7 (z := z) (by omega)
  have rm0 := rem7 (z := z) (by omega)
  have dv1 := div7 (z := (z / 7)) (by omega)
  have rm1 := rem7 (z := (z / 7)) (by omega)
  have dv2 := div7 (z := ((z / 7) / 7)) (by omega)
  have rm2 := rem7 (z := ((z / 7) / 7)) (by omega)
  have lm : ((z / 7) / 7) % 7 = ((z / 7) / 7) := by omega
  have l7 : ((z / 7) / 7) < 7 := by omega
  obtain ⟨X0, tx0, bX0⟩ : ∃ X, (nI (z % 7) - 3).toInt64 = wL X ∧ bn 3 X := ⟨_, wL_i2l _, dig (by omega)⟩
  obtain ⟨X1, tx1, bX1⟩ : ∃ X, (nI ((z / 7) % 7) - 3).toInt64 = wL X ∧ bn 3 X := ⟨_, wL_i2l _, dig (by omega)⟩
  obtain ⟨X2, tx2, bX2⟩ : ∃ X, (nI (((z / 7) / 7)) - 3).toInt64 = wL X ∧ bn 3 X := ⟨_, wL_i2l _, dig (by omega)⟩
  have tD : (I (q + 4) 0).toInt64 = wL (I (q + 4) 0).toInt := wL_i2l _
  have tU : (I q 2).toInt64 = wL (I q 2).toInt := wL_i2l _
  simp [S70_0, S70_1, S70_2, S87_0, at_yesG hB' hM12 hj, Call_in (k2 := 87), BS, ixs, inbs, le_nlt, hB, e1, a1, hq0, kin, kf2, c8, cp7, c7, z0, z1]
  refine c_at8 hc hK (fun L1 f1 lk => ?_)
  have pl0 := fun k pc ls st Q => c_pl8 (n := n) (sl := sl) hc' hK' rr lk (show 0 < 8 by omega) k pc ls st Q
  simp only [show nI 0 = 0 from rfl] at pl0
  have pl1 := fun k pc ls st Q => c_pl8 (n := n) (sl := sl) hc' hK' rr lk (show 1 < 8 by omega) k pc ls st Q
  simp only [show nI 1 = 1 from rfl] at pl1
  have cp0 := fun h k pc ls st Q => c_pow (I q 2) (show 0 < 1000 by omega) h k pc ls st Q
  simp only [show nI 0 = 0 from rfl] at cp0
  have cp1 := fun h k pc ls st Q => c_pow (I q 2) (show 1 < 1000 by omega) h k pc ls st Q
  simp only [show nI 1 = 1 from rfl] at cp1
  have cp2 := fun h k pc ls st Q => c_pow (I q 2) (show 2 < 1000 by omega) h k pc ls st Q
  simp only [show nI 2 = 2 from rfl] at cp2
  have mp0 := fun h k pc ls st Q => m_pow (I q 2) (show 0 < 1000 by omega) h k pc ls st Q
  simp only [show nI 0 = 0 from rfl] at mp0
  have mp1 := fun h k pc ls st Q => m_pow (I q 2) (show 1 < 1000 by omega) h k pc ls st Q
  simp only [show nI 1 = 1 from rfl] at mp1
  have mp2 := fun h k pc ls st Q => m_pow (I q 2) (show 2 < 1000 by omega) h k pc ls st Q
  simp only [show nI 2 = 2 from rfl] at mp2
  simp [S70_0, S70_1, S70_2, S32_0, S32_1, S32_2, S14_0, Call_in (k2 := 32), BS, ixs, inbs, le_nlt, hB, hKK, c8, c73, r1, rr, rq, r6, c4, kin, tD, tx0, tx1, tx2, wL_mul, wL_add, u2_rd, pl0, pl1, cp0, cp1, cp2, dv0, rm0, dv1, rm1, dv2, rm2]
  refine (c_put ?_ ?_ ?_ c73 _ _ _ _ _).mpr ?_
  · exact bn_le (bn_add (bn_add (bn_mul (bn_mul (bn_pl bA bB bK 1) (upow hq.un (show 1 < 8 by omega)).1) bX0) (bn_mul (bn_mul (bn_pl bA bB bK 0) (upow hq.un (show 2 < 8 by omega)).1) bX1)) (bn_mul (bn_mul bD (upow hq.un (show 2 < 8 by omega)).1) bX2)) (by decide)
  · exact bn_le (upow hq.un (show 2 < 8 by omega)).1 (by omega)
  · exact (upow hq.un (show 2 < 8 by omega)).2
  simp [S70_0, S70_1, S70_2, S32_0, S32_1, S32_2, S14_0, Call_in (k2 := 32), Call_in (k2 := 14), BS, ixs, inbs, le_nlt, hB, c8, c73, r1, u2_rd]
  simp [S137_0, S137_1, S137_2, S137_3, S137_4, S107_0, BS, ixs, inbs, le_nlt, hM, isy, e2, r74, kf3, j0, jx, z0, z2, mp7, lg_lt, a8, md, tU, tD, tx0, tx1, tx2, wL_mul, wL_add, mp0, mp1, mp2, dv0, rm0, dv1, rm1, dv2, rm2, lm]
  refine m_beat hr' (show 1 < 1000 by omega) (fun L2 g2 => ?_)
  simp [S137_0, S137_1, S137_2, S137_3, S137_4, S107_0, BS, ixs, inbs, le_nlt, hM, r74, a8, md, j0, jx, tU, tD, tx0, tx1, tx2, wL_mul, wL_add, mp0, mp1, mp2, dv0, rm0, dv1, rm1, dv2, rm2, lm]
  refine m_beat hr' (show 0 < 1000 by omega) (fun L3 g3 => ?_)
  simp [S137_0, S137_1, S137_2, S137_3, S137_4, S107_0, BS, ixs, inbs, le_nlt, hM, r74, a8, md, j0, jx, tU, tD, tx0, tx1, tx2, wL_mul, wL_add, mp0, mp1, mp2, dv0, rm0, dv1, rm1, dv2, rm2, lm]
  refine (m_low ?_ ?_ ?_ c74 _ _ _ _ _).mpr ?_
  · exact bn_le (bn_add (bn_add (bn_mul (bn_pl bA bB bK 1) bX0) (bn_mul (bn_mul (bn_pl bA bB bK 0) bX1) (upow hq.un (show 1 < 8 by omega)).1)) (bn_mul (bn_mul (upow hq.un (show 1 < 8 by omega)).1 bD) bX2)) (by decide)
  · exact bn_le (upow hq.un (show 1 < 8 by omega)).1 (by omega)
  · exact (upow hq.un (show 1 < 8 by omega)).2
  have sc := fn_scale (c := (I q 2).toInt) (by rcases hq.un with h | h | h <;> rw [h] <;> decide) (show (pl (fun i => (I (q + 1) i).toInt) (fun i => (I (q + 2) i).toInt) (fun i => (I (q + 3) i).toInt) 1) * (I q 2).toInt ^ 1 * X0 + (pl (fun i => (I (q + 1) i).toInt) (fun i => (I (q + 2) i).toInt) (fun i => (I (q + 3) i).toInt) 0) * (I q 2).toInt ^ 2 * X1 + (I (q + 4) 0).toInt * (I q 2).toInt ^ 2 * X2 = (I q 2).toInt * ((pl (fun i => (I (q + 1) i).toInt) (fun i => (I (q + 2) i).toInt) (fun i => (I (q + 3) i).toInt) 1) * X0 + (pl (fun i => (I (q + 1) i).toInt) (fun i => (I (q + 2) i).toInt) (fun i => (I (q + 3) i).toInt) 0) * X1 * (I q 2).toInt ^ 1 + (I q 2).toInt ^ 1 * (I (q + 4) 0).toInt * X2) from by grind) (show (I q 2).toInt ^ 2 = (I q 2).toInt * ((I q 2).toInt ^ 1) from by grind)
  simp [S137_0, S137_1, S137_2, S137_3, S137_4, S107_0, Call_in (k2 := 107), BS, ixs, inbs, le_nlt, hM, c74, r74, u2_rd]
  refine ⟨by rw [← sc.1], Inv_mk (h7.scr (fun i hi => by rw [u2_ne _ _ _ (by omega), u2_ne _ _ _ (by omega), g3 i (by omega) (by omega), g2 i (by omega) (by omega), u2_ne _ _ _ (by omega), u2_ne _ _ _ (by omega), f1 i (by omega)]) (fun _ _ => rfl) ⟨rfl, rfl, rfl⟩ (fun i k h1 _ => by rw [u2_rd, if_neg h1]))⟩

set_option maxRecDepth 100000 in
set_option maxHeartbeats 8000000 in
theorem run_21 {n sl : Nat} {C Z : Nat → Nat} {I : Nat → Nat → Int32} {L : Nat → Nat → Int64} {R : Nat → Nat → Nat} {M rn t j q s z : Nat} (h7 : Inv7 n C Z I L R M rn t) (hj : j < M) (hq : MOK n C Z I R j q s) (kf : inG 7 (C q) = true ∧ isa (C q) 1 = false ∧ ¬ I 75 j = 1) (hz : z < 343) : Two 70 137 [some (.ref 1), some (.int (nI j)), some (.int 2), some (.int (nI z)), some (.int 1), none] [some (.ref 74), some (.int (nI j)), some (.int 2), some (.int (nI z)), some (.int 1), none, none, none, none, none, none, none] (n, sl, C, Z, I, L, R) := by
  obtain ⟨hM12, hn98, ⟨hB, hK, hO, hE, hM⟩, ⟨e1, e2⟩, -⟩ := id h7
  have hB' := hB
  have hM' := hM
  have hKK := hK
  unfold LayB at hB
  unfold LayM at hM
  unfold LayK at hKK
  unfold Two
  obtain ⟨a1, a2, -⟩ := id hq
  obtain ⟨kin, kf2, kf3⟩ := kf
  have hq0 : ¬ q = 0 := by omega
  have hc := hq.cm
  have hc' : CM C Z I (u2 R 8 0 q) q s (I q 2) _ _ _ _ := hc.keep (fun _ _ => rfl) (fun i hi => u2_ne _ _ _ (by omega))
  have hr' := (hq.rm hM' (by omega)).keep (R' := u2 R 8 0 q) (I' := I) (hM'.look 8 q (by omega)) (fun _ _ _ => rfl)
  have hK' : LayK C Z (u2 R 8 0 q) := by unfold LayK at *; simp [hK, u2_rd]
  have rr : u2 R 8 0 q 8 0 = q := by simp [u2_rd]
  have c8 : C 8 = 4 := by simp [hKK]
  have r74 : ∀ k, u2 R 8 0 q 74 k = R 74 k := fun k => by rw [u2_ne _ _ _ (by omega)]
  have r1 : ∀ k, u2 R 8 0 q 1 k = R 1 k := fun k => by rw [u2_ne _ _ _ (by omega)]
  have hM2 := hM'.look 8 q (by omega)
  have md : I 78 j = I (q + 4) 0 := hq.2.2.2.2.2.2.2.2.2.2.2.1.1
  have a8 : I 77 j = I q 2 := hq.2.2.2.2.2.1.1.symm
  have r6 : R q 6 = q + 4 := hq.2.2.2.2.2.2.1.2.2.2
  have c4 : C (q + 4) = 21 ∧ Z (q + 4) = 1 := ⟨hq.2.2.2.2.2.2.2.1.2.2.2.1, hq.2.2.2.2.2.2.2.1.2.2.2.2.2.2.2⟩
  have j0 : inb (nI j) 12 = true := by rw [inb_nI (by omega)]; simp; omega
  have jx := ix_nI (show j < 2 ^ 31 by omega)
  have rq : ∀ k, u2 R 8 0 q q k = R q k := fun k => by rw [u2_ne _ _ _ (by omega)]
  have isy := fun (n sl : Nat) (I' : Nat → Nat → Int32) (L' : Nat → Nat → Int64) => is_yesG hM2 hM12 hj n sl I' L'
  obtain ⟨bA, bB, bK, bD⟩ := hq.bns
  have c73 : C 73 = 3 := by simp [hB]
  have c74 : C 74 = 11 := by simp [hM]
  have z0 : ¬ nI z < 0 := nI_nneg (by omega)
  have z1 : ¬ (342 : Int32) < nI z := nI_nlt (b := z) (a := 342) (by omega) (by omega)
  have z2 : (nI z).toInt64 < 343 := by rw [nI_l (by omega)]; exact (pk_lLT (b := 343) (by omega) (by omega)).mpr (by omega)
  have cp7 := fun h k pc ls st Q => c_pow 7 (show 3 < 1000 by omega) h k pc ls st Q
  have mp7 := fun h k pc ls st Q => m_pow 7 (show 3 < 1000 by omega) h k pc ls st Q
  simp only [show nI 3 = 3 from rfl, show wL ((7 : Int32).toInt ^ 3) = 343 from by decide +kernel, show wL (7 : Int32).toInt = 7 from by decide +kernel] at cp7 mp7
  have c7 : (343 : Int64).toInt32 = 343 := by decide +kernel
  have dv0 := div7 (z := z) (by omega)
  have rm0 := rem7 (z := z) (by omega)
  have dv1 := div7 (z := (z / 7)) (by omega)
  have rm1 := rem7 (z := (z / 7)) (by omega)
  have dv2 := div7 (z := ((z / 7) / 7)) (by omega)
  have rm2 := rem7 (z := ((z / 7) / 7)) (by omega)
  have lm : ((z / 7) / 7) % 7 = ((z / 7) / 7) := by omega
  have l7 : ((z / 7) / 7) < 7 := by omega
  obtain ⟨X0, tx0, bX0⟩ : ∃ X, (nI (z % 7) - 3).toInt64 = wL X ∧ bn 3 X := ⟨_, wL_i2l _, dig (by omega)⟩
  obtain ⟨X1, tx1, bX1⟩ : ∃ X, (nI ((z / 7) % 7) - 3).toInt64 = wL X ∧ bn 3 X := ⟨_, wL_i2l _, dig (by omega)⟩
  obtain ⟨X2, tx2, bX2⟩ : ∃ X, (nI (((z / 7) / 7)) - 3).toInt64 = wL X ∧ bn 3 X := ⟨_, wL_i2l _, dig (by omega)⟩
  have tD : (I (q + 4) 0).toInt64 = wL (I (q + 4) 0).toInt := wL_i2l _
  have tU : (I q 2).toInt64 = wL (I q 2).toInt := wL_i2l _
  simp [S70_0, S70_1, S70_2, S87_0, at_yesG hB' hM12 hj, Call_in (k2 := 87), BS, ixs, inbs, le_nlt, hB, e1, a1, hq0, kin, kf2, c8, cp7, c7, z0, z1]
  refine c_at8 hc hK (fun L1 f1 lk => ?_)
  have pl0 := fun k pc ls st Q => c_pl8 (n := n) (sl := sl) hc' hK' rr lk (show 0 < 8 by omega) k pc ls st Q
  simp only [show nI 0 = 0 from rfl] at pl0
  have pl1 := fun k pc ls st Q => c_pl8 (n := n) (sl := sl) hc' hK' rr lk (show 1 < 8 by omega) k pc ls st Q
  simp only [show nI 1 = 1 from rfl] at pl1
  have cp0 := fun h k pc ls st Q => c_pow (I q 2) (show 0 < 1000 by omega) h k pc ls st Q
  simp only [show nI 0 = 0 from rfl] at cp0
  have cp1 := fun h k pc ls st Q => c_pow (I q 2) (show 1 < 1000 by omega) h k pc ls st Q
  simp only [show nI 1 = 1 from rfl] at cp1
  have cp2 := fun h k pc ls st Q => c_pow (I q 2) (show 2 < 1000 by omega) h k pc ls st Q
  simp only [show nI 2 = 2 from rfl] at cp2
  have mp0 := fun h k pc ls st Q => m_pow (I q 2) (show 0 < 1000 by omega) h k pc ls st Q
  simp only [show nI 0 = 0 from rfl] at mp0
  have mp1 := fun h k pc ls st Q => m_pow (I q 2) (show 1 < 1000 by omega) h k pc ls st Q
  simp only [show nI 1 = 1 from rfl] at mp1
  have mp2 := fun h k pc ls st Q => m_pow (I q 2) (show 2 < 1000 by omega) h k pc ls st Q
  simp only [show nI 2 = 2 from rfl] at mp2
  simp [S70_0, S70_1, S70_2, S32_0, S32_1, S32_2, S14_0, Call_in (k2 := 32), BS, ixs, inbs, le_nlt, hB, hKK, c8, c73, r1, rr, rq, r6, c4, kin, tD, tx0, tx1, tx2, wL_mul, wL_add, u2_rd, pl0, pl1, cp0, cp1, cp2, dv0, rm0, dv1, rm1, dv2, rm2]
  refine (c_put ?_ ?_ ?_ c73 _ _ _ _ _).mpr ?_
  · exact bn_le (bn_add (bn_add (bn_mul (bn_mul (bn_pl bA bB bK 1) (upow hq.un (show 1 < 8 by omega)).1) bX0) (bn_mul (bn_mul (bn_pl bA bB bK 0) (upow hq.un (show 2 < 8 by omega)).1) bX1)) (bn_mul (bn_mul bD (upow hq.un (show 2 < 8 by omega)).1) bX2)) (by decide)
  · exact bn_le (upow hq.un (show 2 < 8 by omega)).1 (by omega)
  · exact (upow hq.un (show 2 < 8 by omega)).2
  simp [S70_0, S70_1, S70_2, S32_0, S32_1, S32_2, S14_0, Call_in (k2 := 32), Call_in (k2 := 14), BS, ixs, inbs, le_nlt, hB, c8, c73, r1, u2_rd]
  simp [S137_0, S137_1, S137_2, S137_3, S137_4, S107_0, BS, ixs, inbs, le_nlt, hM, isy, e2, r74, kf3, j0, jx, z0, z2, mp7, lg_lt, a8, md, tU, tD, tx0, tx1, tx2, wL_mul, wL_add, mp0, mp1, mp2, dv0, rm0, dv1, rm1, dv2, rm2, lm]
  refine m_beat hr' (show 1 < 1000 by omega) (fun L2 g2 => ?_)
  simp [S137_0, S137_1, S137_2, S137_3, S137_4, S107_0, BS, ixs, inbs, le_nlt, hM, r74, a8, md, j0, jx, tU, tD, tx0, tx1, tx2, wL_mul, wL_add, mp0, mp1, mp2, dv0, rm0, dv1, rm1, dv2, rm2, lm]
  refine m_beat hr' (show 0 < 1000 by omega) (fun L3 g3 => ?_)
  simp [S137_0, S137_1, S137_2, S137_3, S137_4, S107_0, BS, ixs, inbs, le_nlt, hM, r74, a8, md, j0, jx, tU, tD, tx0, tx1, tx2, wL_mul, wL_add, mp0, mp1, mp2, dv0, rm0, dv1, rm1, dv2, rm2, lm]
  refine (m_low ?_ ?_ ?_ c74 _ _ _ _ _).mpr ?_
  · exact bn_le (bn_add (bn_add (bn_mul (bn_pl bA bB bK 1) bX0) (bn_mul (bn_mul (bn_pl bA bB bK 0) bX1) (upow hq.un (show 1 < 8 by omega)).1)) (bn_mul (bn_mul (upow hq.un (show 1 < 8 by omega)).1 bD) bX2)) (by decide)
  · exact bn_le (upow hq.un (show 1 < 8 by omega)).1 (by omega)
  · exact (upow hq.un (show 1 < 8 by omega)).2
  have sc := fn_scale (c := (I q 2).toInt) (by rcases hq.un with h | h | h <;> rw [h] <;> decide) (show (pl (fun i => (I (q + 1) i).toInt) (fun i => (I (q + 2) i).toInt) (fun i => (I (q + 3) i).toInt) 1) * (I q 2).toInt ^ 1 * X0 + (pl (fun i => (I (q + 1) i).toInt) (fun i => (I (q + 2) i).toInt) (fun i => (I (q + 3) i).toInt) 0) * (I q 2).toInt ^ 2 * X1 + (I (q + 4) 0).toInt * (I q 2).toInt ^ 2 * X2 = (I q 2).toInt * ((pl (fun i => (I (q + 1) i).toInt) (fun i => (I (q + 2) i).toInt) (fun i => (I (q + 3) i).toInt) 1) * X0 + (pl (fun i => (I (q + 1) i).toInt) (fun i => (I (q + 2) i).toInt) (fun i => (I (q + 3) i).toInt) 0) * X1 * (I q 2).toInt ^ 1 + (I q 2).toInt ^ 1 * (I (q + 4) 0).toInt * X2) from by grind) (show (I q 2).toInt ^ 2 = (I q 2).toInt * ((I q 2).toInt ^ 1) from by grind)
  simp [S137_0, S137_1, S137_2, S137_3, S137_4, S107_0, Call_in (k2 := 107), BS, ixs, inbs, le_nlt, hM, c74, r74, u2_rd]
  refine ⟨by rw [← sc.2], Inv_mk (h7.scr (fun i hi => by rw [u2_ne _ _ _ (by omega), u2_ne _ _ _ (by omega), g3 i (by omega) (by omega), g2 i (by omega) (by omega), u2_ne _ _ _ (by omega), u2_ne _ _ _ (by omega), f1 i (by omega)]) (fun _ _ => rfl) ⟨rfl, rfl, rfl⟩ (fun i k h1 _ => by rw [u2_rd, if_neg h1]))⟩

set_option maxRecDepth 100000 in
set_option maxHeartbeats 8000000 in
theorem run_30 {n sl : Nat} {C Z : Nat → Nat} {I : Nat → Nat → Int32} {L : Nat → Nat → Int64} {R : Nat → Nat → Nat} {M rn t j q s z : Nat} (h7 : Inv7 n C Z I L R M rn t) (hj : j < M) (hq : MOK n C Z I R j q s) (kf : inG 7 (C q) = true ∧ isa (C q) 1 = false ∧ ¬ I 75 j = 1) (hz : z < 2401) : Two 70 137 [some (.ref 1), some (.int (nI j)), some (.int 3), some (.int (nI z)), some (.int 0), none] [some (.ref 74), some (.int (nI j)), some (.int 3), some (.int (nI z)), some (.int 0), none, none, none, none, none, none, none] (n, sl, C, Z, I, L, R) := by
  obtain ⟨hM12, hn98, ⟨hB, hK, hO, hE, hM⟩, ⟨e1, e2⟩, -⟩ := id h7
  have hB' := hB
  have hM' := hM
  have hKK := hK
  unfold LayB at hB
  unfold LayM at hM
  unfold LayK at hKK
  unfold Two
  obtain ⟨a1, a2, -⟩ := id hq
  obtain ⟨kin, kf2, kf3⟩ := kf
  have hq0 : ¬ q = 0 := by omega
  have hc := hq.cm
  have hc' : CM C Z I (u2 R 8 0 q) q s (I q 2) _ _ _ _ := hc.keep (fun _ _ => rfl) (fun i hi => u2_ne _ _ _ (by omega))
  have hr' := (hq.rm hM' (by omega)).keep (R' := u2 R 8 0 q) (I' := I) (hM'.look 8 q (by omega)) (fun _ _ _ => rfl)
  have hK' : LayK C Z (u2 R 8 0 q) := by unfold LayK at *; simp [hK, u2_rd]
  have rr : u2 R 8 0 q 8 0 = q := by simp [u2_rd]
  have c8 : C 8 = 4 := by simp [hKK]
  have r74 : ∀ k, u2 R 8 0 q 74 k = R 74 k := fun k => by rw [u2_ne _ _ _ (by omega)]
  have r1 : ∀ k, u2 R 8 0 q 1 k = R 1 k := fun k => by rw [u2_ne _ _ _ (by omega)]
  have hM2 := hM'.look 8 q (by omega)
  have md : I 78 j = I (q + 4) 0 := hq.2.2.2.2.2.2.2.2.2.2.2.1.1
  have a8 : I 77 j = I q 2 := hq.2.2.2.2.2.1.1.symm
  have r6 : R q 6 = q + 4 := hq.2.2.2.2.2.2.1.2.2.2
  have c4 : C (q + 4) = 21 ∧ Z (q + 4) = 1 := ⟨hq.2.2.2.2.2.2.2.1.2.2.2.1, hq.2.2.2.2.2.2.2.1.2.2.2.2.2.2.2⟩
  have j0 : inb (nI j) 12 = true := by rw [inb_nI (by omega)]; simp; omega
  have jx := ix_nI (show j < 2 ^ 31 by omega)
  have rq : ∀ k, u2 R 8 0 q q k = R q k := fun k => by rw [u2_ne _ _ _ (by omega)]
  have isy := fun (n sl : Nat) (I' : Nat → Nat → Int32) (L' : Nat → Nat → Int64) => is_yesG hM2 hM12 hj n sl I' L'
  obtain ⟨bA, bB, bK, bD⟩ := hq.bns
  have c73 : C 73 = 3 := by simp [hB]
  have c74 : C 74 = 11 := by simp [hM]
  have z0 : ¬ nI z < 0 := nI_nneg (by omega)
  have z1 : ¬ (2400 : Int32) < nI z := nI_nlt (b := z) (a := 2400) (by omega) (by omega)
  have z2 : (nI z).toInt64 < 2401 := by rw [nI_l (by omega)]; exact (pk_lLT (b := 2401) (by omega) (by omega)).mpr (by omega)
  have cp7 := fun h k pc ls st Q => c_pow 7 (show 4 < 1000 by omega) h k pc ls st Q
  have mp7 := fun h k pc ls st Q => m_pow 7 (show 4 < 1000 by omega) h k pc ls st Q
  simp only [show nI 4 = 4 from rfl, show wL ((7 : Int32).toInt ^ 4) = 2401 from by decide +kernel, show wL (7 : Int32).toInt = 7 from by decide +kernel] at cp7 mp7
  have c7 : (2401 : Int64).toInt32 = 2401 := by decide +kernel
  have dv0 := div7 (z := z) (by omega)
  have rm0 := rem7 (z := z) (by omega)
  have dv1 := div7 (z := (z / 7)) (by omega)
  have rm1 := rem7 (z := (z / 7)) (by omega)
  have dv2 := div7 (z := ((z / 7) / 7)) (by omega)
  have rm2 := rem7 (z := ((z / 7) / 7)) (by omega)
  have dv3 := div7 (z := (((z / 7) / 7) / 7)) (by omega)
  have rm3 := rem7 (z := (((z / 7) / 7) / 7)) (by omega)
  have lm : (((z / 7) / 7) / 7) % 7 = (((z / 7) / 7) / 7) := by omega
  have l7 : (((z / 7) / 7) / 7) < 7 := by omega
  obtain ⟨X0, tx0, bX0⟩ : ∃ X, (nI (z % 7) - 3).toInt64 = wL X ∧ bn 3 X := ⟨_, wL_i2l _, dig (by omega)⟩
  obtain ⟨X1, tx1, bX1⟩ : ∃ X, (nI ((z / 7) % 7) - 3).toInt64 = wL X ∧ bn 3 X := ⟨_, wL_i2l _, dig (by omega)⟩
  obtain ⟨X2, tx2, bX2⟩ : ∃ X, (nI (((z / 7) / 7) % 7) - 3).toInt64 = wL X ∧ bn 3 X := ⟨_, wL_i2l _, dig (by omega)⟩
  obtain ⟨X3, tx3, bX3⟩ : ∃ X, (nI ((((z / 7) / 7) / 7)) - 3).toInt64 = wL X ∧ bn 3 X := ⟨_, wL_i2l _, dig (by omega)⟩
  have tD : (I (q + 4) 0).toInt64 = wL (I (q + 4) 0).toInt := wL_i2l _
  have tU : (I q 2).toInt64 = wL (I q 2).toInt := wL_i2l _
  simp [S70_0, S70_1, S70_2, S87_0, at_yesG hB' hM12 hj, Call_in (k2 := 87), BS, ixs, inbs, le_nlt, hB, e1, a1, hq0, kin, kf2, c8, cp7, c7, z0, z1]
  refine c_at8 hc hK (fun L1 f1 lk => ?_)
  have pl0 := fun k pc ls st Q => c_pl8 (n := n) (sl := sl) hc' hK' rr lk (show 0 < 8 by omega) k pc ls st Q
  simp only [show nI 0 = 0 from rfl] at pl0
  have pl1 := fun k pc ls st Q => c_pl8 (n := n) (sl := sl) hc' hK' rr lk (show 1 < 8 by omega) k pc ls st Q
  simp only [show nI 1 = 1 from rfl] at pl1
  have pl2 := fun k pc ls st Q => c_pl8 (n := n) (sl := sl) hc' hK' rr lk (show 2 < 8 by omega) k pc ls st Q
  simp only [show nI 2 = 2 from rfl] at pl2
  have cp0 := fun h k pc ls st Q => c_pow (I q 2) (show 0 < 1000 by omega) h k pc ls st Q
  simp only [show nI 0 = 0 from rfl] at cp0
  have cp1 := fun h k pc ls st Q => c_pow (I q 2) (show 1 < 1000 by omega) h k pc ls st Q
  simp only [show nI 1 = 1 from rfl] at cp1
  have cp2 := fun h k pc ls st Q => c_pow (I q 2) (show 2 < 1000 by omega) h k pc ls st Q
  simp only [show nI 2 = 2 from rfl] at cp2
  have cp3 := fun h k pc ls st Q => c_pow (I q 2) (show 3 < 1000 by omega) h k pc ls st Q
  simp only [show nI 3 = 3 from rfl] at cp3
  have mp0 := fun h k pc ls st Q => m_pow (I q 2) (show 0 < 1000 by omega) h k pc ls st Q
  simp only [show nI 0 = 0 from rfl] at mp0
  have mp1 := fun h k pc ls st Q => m_pow (I q 2) (show 1 < 1000 by omega) h k pc ls st Q
  simp only [show nI 1 = 1 from rfl] at mp1
  have mp2 := fun h k pc ls st Q => m_pow (I q 2) (show 2 < 1000 by omega) h k pc ls st Q
  simp only [show nI 2 = 2 from rfl] at mp2
  have mp3 := fun h k pc ls st Q => m_pow (I q 2) (show 3 < 1000 by omega) h k pc ls st Q
  simp only [show nI 3 = 3 from rfl] at mp3
  simp [S70_0, S70_1, S70_2, S32_0, S32_1, S32_2, S14_0, Call_in (k2 := 32), BS, ixs, inbs, le_nlt, hB, hKK, c8, c73, r1, rr, rq, r6, c4, kin, tD, tx0, tx1, tx2, tx3, wL_mul, wL_add, u2_rd, pl0, pl1, pl2, cp0, cp1, cp2, cp3, dv0, rm0, dv1, rm1, dv2, rm2, dv3, rm3]
  refine (c_put ?_ ?_ ?_ c73 _ _ _ _ _).mpr ?_
  · exact bn_le (bn_add (bn_add (bn_add (bn_mul (bn_mul (bn_pl bA bB bK 2) (upow hq.un (show 1 < 8 by omega)).1) bX0) (bn_mul (bn_mul (bn_pl bA bB bK 1) (upow hq.un (show 2 < 8 by omega)).1) bX1)) (bn_mul (bn_mul (bn_pl bA bB bK 0) (upow hq.un (show 3 < 8 by omega)).1) bX2)) (bn_mul (bn_mul bD (upow hq.un (show 3 < 8 by omega)).1) bX3)) (by decide)
  · exact bn_le (upow hq.un (show 3 < 8 by omega)).1 (by omega)
  · exact (upow hq.un (show 3 < 8 by omega)).2
  simp [S70_0, S70_1, S70_2, S32_0, S32_1, S32_2, S14_0, Call_in (k2 := 32), Call_in (k2 := 14), BS, ixs, inbs, le_nlt, hB, c8, c73, r1, u2_rd]
  simp [S137_0, S137_1, S137_2, S137_3, S137_4, S107_0, BS, ixs, inbs, le_nlt, hM, isy, e2, r74, kf3, j0, jx, z0, z2, mp7, lg_lt, a8, md, tU, tD, tx0, tx1, tx2, tx3, wL_mul, wL_add, mp0, mp1, mp2, mp3, dv0, rm0, dv1, rm1, dv2, rm2, dv3, rm3, lm]
  refine m_beat hr' (show 2 < 1000 by omega) (fun L2 g2 => ?_)
  simp [S137_0, S137_1, S137_2, S137_3, S137_4, S107_0, BS, ixs, inbs, le_nlt, hM, r74, a8, md, j0, jx, tU, tD, tx0, tx1, tx2, tx3, wL_mul, wL_add, mp0, mp1, mp2, mp3, dv0, rm0, dv1, rm1, dv2, rm2, dv3, rm3, lm]
  refine m_beat hr' (show 1 < 1000 by omega) (fun L3 g3 => ?_)
  simp [S137_0, S137_1, S137_2, S137_3, S137_4, S107_0, BS, ixs, inbs, le_nlt, hM, r74, a8, md, j0, jx, tU, tD, tx0, tx1, tx2, tx3, wL_mul, wL_add, mp0, mp1, mp2, mp3, dv0, rm0, dv1, rm1, dv2, rm2, dv3, rm3, lm]
  refine m_beat hr' (show 0 < 1000 by omega) (fun L4 g4 => ?_)
  simp [S137_0, S137_1, S137_2, S137_3, S137_4, S107_0, BS, ixs, inbs, le_nlt, hM, r74, a8, md, j0, jx, tU, tD, tx0, tx1, tx2, tx3, wL_mul, wL_add, mp0, mp1, mp2, mp3, dv0, rm0, dv1, rm1, dv2, rm2, dv3, rm3, lm]
  refine (m_low ?_ ?_ ?_ c74 _ _ _ _ _).mpr ?_
  · exact bn_le (bn_add (bn_add (bn_add (bn_mul (bn_pl bA bB bK 2) bX0) (bn_mul (bn_mul (bn_pl bA bB bK 1) bX1) (upow hq.un (show 1 < 8 by omega)).1)) (bn_mul (bn_mul (bn_pl bA bB bK 0) bX2) (upow hq.un (show 2 < 8 by omega)).1)) (bn_mul (bn_mul (upow hq.un (show 2 < 8 by omega)).1 bD) bX3)) (by decide)
  · exact bn_le (upow hq.un (show 2 < 8 by omega)).1 (by omega)
  · exact (upow hq.un (show 2 < 8 by omega)).2
  have sc := fn_scale (c := (I q 2).toInt) (by rcases hq.un with h | h | h <;> rw [h] <;> decide) (show (pl (fun i => (I (q + 1) i).toInt) (fun i => (I (q + 2) i).toInt) (fun i => (I (q + 3) i).toInt) 2) * (I q 2).toInt ^ 1 * X0 + (pl (fun i => (I (q + 1) i).toInt) (fun i => (I (q + 2) i).toInt) (fun i => (I (q + 3) i).toInt) 1) * (I q 2).toInt ^ 2 * X1 + (pl (fun i => (I (q + 1) i).toInt) (fun i => (I (q + 2) i).toInt) (fun i => (I (q + 3) i).toInt) 0) * (I q 2).toInt ^ 3 * X2 + (I (q + 4) 0).toInt * (I q 2).toInt ^ 3 * X3 = (I q 2).toInt * ((pl (fun i => (I (q + 1) i).toInt) (fun i => (I (q + 2) i).toInt) (fun i => (I (q + 3) i).toInt) 2) * X0 + (pl (fun i => (I (q + 1) i).toInt) (fun i => (I (q + 2) i).toInt) (fun i => (I (q + 3) i).toInt) 1) * X1 * (I q 2).toInt ^ 1 + (pl (fun i => (I (q + 1) i).toInt) (fun i => (I (q + 2) i).toInt) (fun i => (I (q + 3) i).toInt) 0) * X2 * (I q 2).toInt ^ 2 + (I q 2).toInt ^ 2 * (I (q + 4) 0).toInt * X3) from by grind) (show (I q 2).toInt ^ 3 = (I q 2).toInt * ((I q 2).toInt ^ 2) from by grind)
  simp [S137_0, S137_1, S137_2, S137_3, S137_4, S107_0, Call_in (k2 := 107), BS, ixs, inbs, le_nlt, hM, c74, r74, u2_rd]
  refine ⟨by rw [← sc.1], Inv_mk (h7.scr (fun i hi => by rw [u2_ne _ _ _ (by omega), u2_ne _ _ _ (by omega), g4 i (by omega) (by omega), g3 i (by omega) (by omega), g2 i (by omega) (by omega), u2_ne _ _ _ (by omega), u2_ne _ _ _ (by omega), f1 i (by omega)]) (fun _ _ => rfl) ⟨rfl, rfl, rfl⟩ (fun i k h1 _ => by rw [u2_rd, if_neg h1]))⟩

set_option maxRecDepth 100000 in
set_option maxHeartbeats 8000000 in
theorem run_31 {n sl : Nat} {C Z : Nat → Nat} {I : Nat → Nat → Int32} {L : Nat → Nat → Int64} {R : Nat → Nat → Nat} {M rn t j q s z : Nat} (h7 : Inv7 n C Z I L R M rn t) (hj : j < M) (hq : MOK n C Z I R j q s) (kf : inG 7 (C q) = true ∧ isa (C q) 1 = false ∧ ¬ I 75 j = 1) (hz : z < 2401) : Two 70 137 [some (.ref 1), some (.int (nI j)), some (.int 3), some (.int (nI z)), some (.int 1), none] [some (.ref 74), some (.int (nI j)), some (.int 3), some (.int (nI z)), some (.int 1), none, none, none, none, none, none, none] (n, sl, C, Z, I, L, R) := by
  obtain ⟨hM12, hn98, ⟨hB, hK, hO, hE, hM⟩, ⟨e1, e2⟩, -⟩ := id h7
  have hB' := hB
  have hM' := hM
  have hKK := hK
  unfold LayB at hB
  unfold LayM at hM
  unfold LayK at hKK
  unfold Two
  obtain ⟨a1, a2, -⟩ := id hq
  obtain ⟨kin, kf2, kf3⟩ := kf
  have hq0 : ¬ q = 0 := by omega
  have hc := hq.cm
  have hc' : CM C Z I (u2 R 8 0 q) q s (I q 2) _ _ _ _ := hc.keep (fun _ _ => rfl) (fun i hi => u2_ne _ _ _ (by omega))
  have hr' := (hq.rm hM' (by omega)).keep (R' := u2 R 8 0 q) (I' := I) (hM'.look 8 q (by omega)) (fun _ _ _ => rfl)
  have hK' : LayK C Z (u2 R 8 0 q) := by unfold LayK at *; simp [hK, u2_rd]
  have rr : u2 R 8 0 q 8 0 = q := by simp [u2_rd]
  have c8 : C 8 = 4 := by simp [hKK]
  have r74 : ∀ k, u2 R 8 0 q 74 k = R 74 k := fun k => by rw [u2_ne _ _ _ (by omega)]
  have r1 : ∀ k, u2 R 8 0 q 1 k = R 1 k := fun k => by rw [u2_ne _ _ _ (by omega)]
  have hM2 := hM'.look 8 q (by omega)
  have md : I 78 j = I (q + 4) 0 := hq.2.2.2.2.2.2.2.2.2.2.2.1.1
  have a8 : I 77 j = I q 2 := hq.2.2.2.2.2.1.1.symm
  have r6 : R q 6 = q + 4 := hq.2.2.2.2.2.2.1.2.2.2
  have c4 : C (q + 4) = 21 ∧ Z (q + 4) = 1 := ⟨hq.2.2.2.2.2.2.2.1.2.2.2.1, hq.2.2.2.2.2.2.2.1.2.2.2.2.2.2.2⟩
  have j0 : inb (nI j) 12 = true := by rw [inb_nI (by omega)]; simp; omega
  have jx := ix_nI (show j < 2 ^ 31 by omega)
  have rq : ∀ k, u2 R 8 0 q q k = R q k := fun k => by rw [u2_ne _ _ _ (by omega)]
  have isy := fun (n sl : Nat) (I' : Nat → Nat → Int32) (L' : Nat → Nat → Int64) => is_yesG hM2 hM12 hj n sl I' L'
  obtain ⟨bA, bB, bK, bD⟩ := hq.bns
  have c73 : C 73 = 3 := by simp [hB]
  have c74 : C 74 = 11 := by simp [hM]
  have z0 : ¬ nI z < 0 := nI_nneg (by omega)
  have z1 : ¬ (2400 : Int32) < nI z := nI_nlt (b := z) (a := 2400) (by omega) (by omega)
  have z2 : (nI z).toInt64 < 2401 := by rw [nI_l (by omega)]; exact (pk_lLT (b := 2401) (by omega) (by omega)).mpr (by omega)
  have cp7 := fun h k pc ls st Q => c_pow 7 (show 4 < 1000 by omega) h k pc ls st Q
  have mp7 := fun h k pc ls st Q => m_pow 7 (show 4 < 1000 by omega) h k pc ls st Q
  simp only [show nI 4 = 4 from rfl, show wL ((7 : Int32).toInt ^ 4) = 2401 from by decide +kernel, show wL (7 : Int32).toInt = 7 from by decide +kernel] at cp7 mp7
  have c7 : (2401 : Int64).toInt32 = 2401 := by decide +kernel
  have dv0 := div7 (z := z) (by omega)
  have rm0 := rem7 (z := z) (by omega)
  have dv1 := div7 (z := (z / 7)) (by omega)
  have rm1 := rem7 (z := (z / 7)) (by omega)
  have dv2 := div7 (z := ((z / 7) / 7)) (by omega)
  have rm2 := rem7 (z := ((z / 7) / 7)) (by omega)
  have dv3 := div7 (z := (((z / 7) / 7) / 7)) (by omega)
  have rm3 := rem7 (z := (((z / 7) / 7) / 7)) (by omega)
  have lm : (((z / 7) / 7) / 7) % 7 = (((z / 7) / 7) / 7) := by omega
  have l7 : (((z / 7) / 7) / 7) < 7 := by omega
  obtain ⟨X0, tx0, bX0⟩ : ∃ X, (nI (z % 7) - 3).toInt64 = wL X ∧ bn 3 X := ⟨_, wL_i2l _, dig (by omega)⟩
  obtain ⟨X1, tx1, bX1⟩ : ∃ X, (nI ((z / 7) % 7) - 3).toInt64 = wL X ∧ bn 3 X := ⟨_, wL_i2l _, dig (by omega)⟩
  obtain ⟨X2, tx2, bX2⟩ : ∃ X, (nI (((z / 7) / 7) % 7) - 3).toInt64 = wL X ∧ bn 3 X := ⟨_, wL_i2l _, dig (by omega)⟩
  obtain ⟨X3, tx3, bX3⟩ : ∃ X, (nI ((((z / 7) / 7) / 7)) - 3).toInt64 = wL X ∧ bn 3 X := ⟨_, wL_i2l _, dig (by omega)⟩
  have tD : (I (q + 4) 0).toInt64 = wL (I (q + 4) 0).toInt := wL_i2l _
  have tU : (I q 2).toInt64 = wL (I q 2).toInt := wL_i2l _
  simp [S70_0, S70_1, S70_2, S87_0, at_yesG hB' hM12 hj, Call_in (k2 := 87), BS, ixs, inbs, le_nlt, hB, e1, a1, hq0, kin, kf2, c8, cp7, c7, z0, z1]
  refine c_at8 hc hK (fun L1 f1 lk => ?_)
  have pl0 := fun k pc ls st Q => c_pl8 (n := n) (sl := sl) hc' hK' rr lk (show 0 < 8 by omega) k pc ls st Q
  simp only [show nI 0 = 0 from rfl] at pl0
  have pl1 := fun k pc ls st Q => c_pl8 (n := n) (sl := sl) hc' hK' rr lk (show 1 < 8 by omega) k pc ls st Q
  simp only [show nI 1 = 1 from rfl] at pl1
  have pl2 := fun k pc ls st Q => c_pl8 (n := n) (sl := sl) hc' hK' rr lk (show 2 < 8 by omega) k pc ls st Q
  simp only [show nI 2 = 2 from rfl] at pl2
  have cp0 := fun h k pc ls st Q => c_pow (I q 2) (show 0 < 1000 by omega) h k pc ls st Q
  simp only [show nI 0 = 0 from rfl] at cp0
  have cp1 := fun h k pc ls st Q => c_pow (I q 2) (show 1 < 1000 by omega) h k pc ls st Q
  simp only [show nI 1 = 1 from rfl] at cp1
  have cp2 := fun h k pc ls st Q => c_pow (I q 2) (show 2 < 1000 by omega) h k pc ls st Q
  simp only [show nI 2 = 2 from rfl] at cp2
  have cp3 := fun h k pc ls st Q => c_pow (I q 2) (show 3 < 1000 by omega) h k pc ls st Q
  simp only [show nI 3 = 3 from rfl] at cp3
  have mp0 := fun h k pc ls st Q => m_pow (I q 2) (show 0 < 1000 by omega) h k pc ls st Q
  simp only [show nI 0 = 0 from rfl] at mp0
  have mp1 := fun h k pc ls st Q => m_pow (I q 2) (show 1 < 1000 by omega) h k pc ls st Q
  simp only [show nI 1 = 1 from rfl] at mp1
  have mp2 := fun h k pc ls st Q => m_pow (I q 2) (show 2 < 1000 by omega) h k pc ls st Q
  simp only [show nI 2 = 2 from rfl] at mp2
  have mp3 := fun h k pc ls st Q => m_pow (I q 2) (show 3 < 1000 by omega) h k pc ls st Q
  simp only [show nI 3 = 3 from rfl] at mp3
  simp [S70_0, S70_1, S70_2, S32_0, S32_1, S32_2, S14_0, Call_in (k2 := 32), BS, ixs, inbs, le_nlt, hB, hKK, c8, c73, r1, rr, rq, r6, c4, kin, tD, tx0, tx1, tx2, tx3, wL_mul, wL_add, u2_rd, pl0, pl1, pl2, cp0, cp1, cp2, cp3, dv0, rm0, dv1, rm1, dv2, rm2, dv3, rm3]
  refine (c_put ?_ ?_ ?_ c73 _ _ _ _ _).mpr ?_
  · exact bn_le (bn_add (bn_add (bn_add (bn_mul (bn_mul (bn_pl bA bB bK 2) (upow hq.un (show 1 < 8 by omega)).1) bX0) (bn_mul (bn_mul (bn_pl bA bB bK 1) (upow hq.un (show 2 < 8 by omega)).1) bX1)) (bn_mul (bn_mul (bn_pl bA bB bK 0) (upow hq.un (show 3 < 8 by omega)).1) bX2)) (bn_mul (bn_mul bD (upow hq.un (show 3 < 8 by omega)).1) bX3)) (by decide)
  · exact bn_le (upow hq.un (show 3 < 8 by omega)).1 (by omega)
  · exact (upow hq.un (show 3 < 8 by omega)).2
  simp [S70_0, S70_1, S70_2, S32_0, S32_1, S32_2, S14_0, Call_in (k2 := 32), Call_in (k2 := 14), BS, ixs, inbs, le_nlt, hB, c8, c73, r1, u2_rd]
  simp [S137_0, S137_1, S137_2, S137_3, S137_4, S107_0, BS, ixs, inbs, le_nlt, hM, isy, e2, r74, kf3, j0, jx, z0, z2, mp7, lg_lt, a8, md, tU, tD, tx0, tx1, tx2, tx3, wL_mul, wL_add, mp0, mp1, mp2, mp3, dv0, rm0, dv1, rm1, dv2, rm2, dv3, rm3, lm]
  refine m_beat hr' (show 2 < 1000 by omega) (fun L2 g2 => ?_)
  simp [S137_0, S137_1, S137_2, S137_3, S137_4, S107_0, BS, ixs, inbs, le_nlt, hM, r74, a8, md, j0, jx, tU, tD, tx0, tx1, tx2, tx3, wL_mul, wL_add, mp0, mp1, mp2, mp3, dv0, rm0, dv1, rm1, dv2, rm2, dv3, rm3, lm]
  refine m_beat hr' (show 1 < 1000 by omega) (fun L3 g3 => ?_)
  simp [S137_0, S137_1, S137_2, S137_3, S137_4, S107_0, BS, ixs, inbs, le_nlt, hM, r74, a8, md, j0, jx, tU, tD, tx0, tx1, tx2, tx3, wL_mul, wL_add, mp0, mp1, mp2, mp3, dv0, rm0, dv1, rm1, dv2, rm2, dv3, rm3, lm]
  refine m_beat hr' (show 0 < 1000 by omega) (fun L4 g4 => ?_)
  simp [S137_0, S137_1, S137_2, S137_3, S137_4, S107_0, BS, ixs, inbs, le_nlt, hM, r74, a8, md, j0, jx, tU, tD, tx0, tx1, tx2, tx3, wL_mul, wL_add, mp0, mp1, mp2, mp3, dv0, rm0, dv1, rm1, dv2, rm2, dv3, rm3, lm]
  refine (m_low ?_ ?_ ?_ c74 _ _ _ _ _).mpr ?_
  · exact bn_le (bn_add (bn_add (bn_add (bn_mul (bn_pl bA bB bK 2) bX0) (bn_mul (bn_mul (bn_pl bA bB bK 1) bX1) (upow hq.un (show 1 < 8 by omega)).1)) (bn_mul (bn_mul (bn_pl bA bB bK 0) bX2) (upow hq.un (show 2 < 8 by omega)).1)) (bn_mul (bn_mul (upow hq.un (show 2 < 8 by omega)).1 bD) bX3)) (by decide)
  · exact bn_le (upow hq.un (show 2 < 8 by omega)).1 (by omega)
  · exact (upow hq.un (show 2 < 8 by omega)).2
  have sc := fn_scale (c := (I q 2).toInt) (by rcases hq.un with h | h | h <;> rw [h] <;> decide) (show (pl (fun i => (I (q + 1) i).toInt) (fun i => (I (q + 2) i).toInt) (fun i => (I (q + 3) i).toInt) 2) * (I q 2).toInt ^ 1 * X0 + (pl (fun i => (I (q + 1) i).toInt) (fun i => (I (q + 2) i).toInt) (fun i => (I (q + 3) i).toInt) 1) * (I q 2).toInt ^ 2 * X1 + (pl (fun i => (I (q + 1) i).toInt) (fun i => (I (q + 2) i).toInt) (fun i => (I (q + 3) i).toInt) 0) * (I q 2).toInt ^ 3 * X2 + (I (q + 4) 0).toInt * (I q 2).toInt ^ 3 * X3 = (I q 2).toInt * ((pl (fun i => (I (q + 1) i).toInt) (fun i => (I (q + 2) i).toInt) (fun i => (I (q + 3) i).toInt) 2) * X0 + (pl (fun i => (I (q + 1) i).toInt) (fun i => (I (q + 2) i).toInt) (fun i => (I (q + 3) i).toInt) 1) * X1 * (I q 2).toInt ^ 1 + (pl (fun i => (I (q + 1) i).toInt) (fun i => (I (q + 2) i).toInt) (fun i => (I (q + 3) i).toInt) 0) * X2 * (I q 2).toInt ^ 2 + (I q 2).toInt ^ 2 * (I (q + 4) 0).toInt * X3) from by grind) (show (I q 2).toInt ^ 3 = (I q 2).toInt * ((I q 2).toInt ^ 2) from by grind)
  simp [S137_0, S137_1, S137_2, S137_3, S137_4, S107_0, Call_in (k2 := 107), BS, ixs, inbs, le_nlt, hM, c74, r74, u2_rd]
  refine ⟨by rw [← sc.2], Inv_mk (h7.scr (fun i hi => by rw [u2_ne _ _ _ (by omega), u2_ne _ _ _ (by omega), g4 i (by omega) (by omega), g3 i (by omega) (by omega), g2 i (by omega) (by omega), u2_ne _ _ _ (by omega), u2_ne _ _ _ (by omega), f1 i (by omega)]) (fun _ _ => rfl) ⟨rfl, rfl, rfl⟩ (fun i k h1 _ => by rw [u2_rd, if_neg h1]))⟩

set_option maxRecDepth 100000 in
set_option maxHeartbeats 8000000 in
theorem run_40 {n sl : Nat} {C Z : Nat → Nat} {I : Nat → Nat → Int32} {L : Nat → Nat → Int64} {R : Nat → Nat → Nat} {M rn t j q s z : Nat} (h7 : Inv7 n C Z I L R M rn t) (hj : j < M) (hq : MOK n C Z I R j q s) (kf : inG 7 (C q) = true ∧ isa (C q) 1 = false ∧ ¬ I 75 j = 1) (hz : z < 16807) : Two 70 137 [some (.ref 1), some (.int (nI j)), some (.int 4), some (.int (nI z)), some (.int 0), none] [some (.ref 74), some (.int (nI j)), some (.int 4), some (.int (nI z)), some (.int 0), none, none, none, none, none, none, none] (n, sl, C, Z, I, L, R) := by
  obtain ⟨hM12, hn98, ⟨hB, hK, hO, hE, hM⟩, ⟨e1, e2⟩, -⟩ := id h7
  have hB' := hB
  have hM' := hM
  have hKK := hK
  unfold LayB at hB
  unfold LayM at hM
  unfold LayK at hKK
  unfold Two
  obtain ⟨a1, a2, -⟩ := id hq
  obtain ⟨kin, kf2, kf3⟩ := kf
  have hq0 : ¬ q = 0 := by omega
  have hc := hq.cm
  have hc' : CM C Z I (u2 R 8 0 q) q s (I q 2) _ _ _ _ := hc.keep (fun _ _ => rfl) (fun i hi => u2_ne _ _ _ (by omega))
  have hr' := (hq.rm hM' (by omega)).keep (R' := u2 R 8 0 q) (I' := I) (hM'.look 8 q (by omega)) (fun _ _ _ => rfl)
  have hK' : LayK C Z (u2 R 8 0 q) := by unfold LayK at *; simp [hK, u2_rd]
  have rr : u2 R 8 0 q 8 0 = q := by simp [u2_rd]
  have c8 : C 8 = 4 := by simp [hKK]
  have r74 : ∀ k, u2 R 8 0 q 74 k = R 74 k := fun k => by rw [u2_ne _ _ _ (by omega)]
  have r1 : ∀ k, u2 R 8 0 q 1 k = R 1 k := fun k => by rw [u2_ne _ _ _ (by omega)]
  have hM2 := hM'.look 8 q (by omega)
  have md : I 78 j = I (q + 4) 0 := hq.2.2.2.2.2.2.2.2.2.2.2.1.1
  have a8 : I 77 j = I q 2 := hq.2.2.2.2.2.1.1.symm
  have r6 : R q 6 = q + 4 := hq.2.2.2.2.2.2.1.2.2.2
  have c4 : C (q + 4) = 21 ∧ Z (q + 4) = 1 := ⟨hq.2.2.2.2.2.2.2.1.2.2.2.1, hq.2.2.2.2.2.2.2.1.2.2.2.2.2.2.2⟩
  have j0 : inb (nI j) 12 = true := by rw [inb_nI (by omega)]; simp; omega
  have jx := ix_nI (show j < 2 ^ 31 by omega)
  have rq : ∀ k, u2 R 8 0 q q k = R q k := fun k => by rw [u2_ne _ _ _ (by omega)]
  have isy := fun (n sl : Nat) (I' : Nat → Nat → Int32) (L' : Nat → Nat → Int64) => is_yesG hM2 hM12 hj n sl I' L'
  obtain ⟨bA, bB, bK, bD⟩ := hq.bns
  have c73 : C 73 = 3 := by simp [hB]
  have c74 : C 74 = 11 := by simp [hM]
  have z0 : ¬ nI z < 0 := nI_nneg (by omega)
  have z1 : ¬ (16806 : Int32) < nI z := nI_nlt (b := z) (a := 16806) (by omega) (by omega)
  have z2 : (nI z).toInt64 < 16807 := by rw [nI_l (by omega)]; exact (pk_lLT (b := 16807) (by omega) (by omega)).mpr (by omega)
  have cp7 := fun h k pc ls st Q => c_pow 7 (show 5 < 1000 by omega) h k pc ls st Q
  have mp7 := fun h k pc ls st Q => m_pow 7 (show 5 < 1000 by omega) h k pc ls st Q
  simp only [show nI 5 = 5 from rfl, show wL ((7 : Int32).toInt ^ 5) = 16807 from by decide +kernel, show wL (7 : Int32).toInt = 7 from by decide +kernel] at cp7 mp7
  have c7 : (16807 : Int64).toInt32 = 16807 := by decide +kernel
  have dv0 := div7 (z := z) (by omega)
  have rm0 := rem7 (z := z) (by omega)
  have dv1 := div7 (z := (z / 7)) (by omega)
  have rm1 := rem7 (z := (z / 7)) (by omega)
  have dv2 := div7 (z := ((z / 7) / 7)) (by omega)
  have rm2 := rem7 (z := ((z / 7) / 7)) (by omega)
  have dv3 := div7 (z := (((z / 7) / 7) / 7)) (by omega)
  have rm3 := rem7 (z := (((z / 7) / 7) / 7)) (by omega)
  have dv4 := div7 (z := ((((z / 7) / 7) / 7) / 7)) (by omega)
  have rm4 := rem7 (z := ((((z / 7) / 7) / 7) / 7)) (by omega)
  have lm : ((((z / 7) / 7) / 7) / 7) % 7 = ((((z / 7) / 7) / 7) / 7) := by omega
  have l7 : ((((z / 7) / 7) / 7) / 7) < 7 := by omega
  obtain ⟨X0, tx0, bX0⟩ : ∃ X, (nI (z % 7) - 3).toInt64 = wL X ∧ bn 3 X := ⟨_, wL_i2l _, dig (by omega)⟩
  obtain ⟨X1, tx1, bX1⟩ : ∃ X, (nI ((z / 7) % 7) - 3).toInt64 = wL X ∧ bn 3 X := ⟨_, wL_i2l _, dig (by omega)⟩
  obtain ⟨X2, tx2, bX2⟩ : ∃ X, (nI (((z / 7) / 7) % 7) - 3).toInt64 = wL X ∧ bn 3 X := ⟨_, wL_i2l _, dig (by omega)⟩
  obtain ⟨X3, tx3, bX3⟩ : ∃ X, (nI ((((z / 7) / 7) / 7) % 7) - 3).toInt64 = wL X ∧ bn 3 X := ⟨_, wL_i2l _, dig (by omega)⟩
  obtain ⟨X4, tx4, bX4⟩ : ∃ X, (nI (((((z / 7) / 7) / 7) / 7)) - 3).toInt64 = wL X ∧ bn 3 X := ⟨_, wL_i2l _, dig (by omega)⟩
  have tD : (I (q + 4) 0).toInt64 = wL (I (q + 4) 0).toInt := wL_i2l _
  have tU : (I q 2).toInt64 = wL (I q 2).toInt := wL_i2l _
  simp [S70_0, S70_1, S70_2, S87_0, at_yesG hB' hM12 hj, Call_in (k2 := 87), BS, ixs, inbs, le_nlt, hB, e1, a1, hq0, kin, kf2, c8, cp7, c7, z0, z1]
  refine c_at8 hc hK (fun L1 f1 lk => ?_)
  have pl0 := fun k pc ls st Q => c_pl8 (n := n) (sl := sl) hc' hK' rr lk (show 0 < 8 by omega) k pc ls st Q
  simp only [show nI 0 = 0 from rfl] at pl0
  have pl1 := fun k pc ls st Q => c_pl8 (n := n) (sl := sl) hc' hK' rr lk (show 1 < 8 by omega) k pc ls st Q
  simp only [show nI 1 = 1 from rfl] at pl1
  have pl2 := fun k pc ls st Q => c_pl8 (n := n) (sl := sl) hc' hK' rr lk (show 2 < 8 by omega) k pc ls st Q
  simp only [show nI 2 = 2 from rfl] at pl2
  have pl3 := fun k pc ls st Q => c_pl8 (n := n) (sl := sl) hc' hK' rr lk (show 3 < 8 by omega) k pc ls st Q
  simp only [show nI 3 = 3 from rfl] at pl3
  have cp0 := fun h k pc ls st Q => c_pow (I q 2) (show 0 < 1000 by omega) h k pc ls st Q
  simp only [show nI 0 = 0 from rfl] at cp0
  have cp1 := fun h k pc ls st Q => c_pow (I q 2) (show 1 < 1000 by omega) h k pc ls st Q
  simp only [show nI 1 = 1 from rfl] at cp1
  have cp2 := fun h k pc ls st Q => c_pow (I q 2) (show 2 < 1000 by omega) h k pc ls st Q
  simp only [show nI 2 = 2 from rfl] at cp2
  have cp3 := fun h k pc ls st Q => c_pow (I q 2) (show 3 < 1000 by omega) h k pc ls st Q
  simp only [show nI 3 = 3 from rfl] at cp3
  have cp4 := fun h k pc ls st Q => c_pow (I q 2) (show 4 < 1000 by omega) h k pc ls st Q
  simp only [show nI 4 = 4 from rfl] at cp4
  have mp0 := fun h k pc ls st Q => m_pow (I q 2) (show 0 < 1000 by omega) h k pc ls st Q
  simp only [show nI 0 = 0 from rfl] at mp0
  have mp1 := fun h k pc ls st Q => m_pow (I q 2) (show 1 < 1000 by omega) h k pc ls st Q
  simp only [show nI 1 = 1 from rfl] at mp1
  have mp2 := fun h k pc ls st Q => m_pow (I q 2) (show 2 < 1000 by omega) h k pc ls st Q
  simp only [show nI 2 = 2 from rfl] at mp2
  have mp3 := fun h k pc ls st Q => m_pow (I q 2) (show 3 < 1000 by omega) h k pc ls st Q
  simp only [show nI 3 = 3 from rfl] at mp3
  have mp4 := fun h k pc ls st Q => m_pow (I q 2) (show 4 < 1000 by omega) h k pc ls st Q
  simp only [show nI 4 = 4 from rfl] at mp4
  simp [S70_0, S70_1, S70_2, S32_0, S32_1, S32_2, S14_0, Call_in (k2 := 32), BS, ixs, inbs, le_nlt, hB, hKK, c8, c73, r1, rr, rq, r6, c4, kin, tD, tx0, tx1, tx2, tx3, tx4, wL_mul, wL_add, u2_rd, pl0, pl1, pl2, pl3, cp0, cp1, cp2, cp3, cp4, dv0, rm0, dv1, rm1, dv2, rm2, dv3, rm3, dv4, rm4]
  refine (c_put ?_ ?_ ?_ c73 _ _ _ _ _).mpr ?_
  · exact bn_le (bn_add (bn_add (bn_add (bn_add (bn_mul (bn_mul (bn_pl bA bB bK 3) (upow hq.un (show 1 < 8 by omega)).1) bX0) (bn_mul (bn_mul (bn_pl bA bB bK 2) (upow hq.un (show 2 < 8 by omega)).1) bX1)) (bn_mul (bn_mul (bn_pl bA bB bK 1) (upow hq.un (show 3 < 8 by omega)).1) bX2)) (bn_mul (bn_mul (bn_pl bA bB bK 0) (upow hq.un (show 4 < 8 by omega)).1) bX3)) (bn_mul (bn_mul bD (upow hq.un (show 4 < 8 by omega)).1) bX4)) (by decide)
  · exact bn_le (upow hq.un (show 4 < 8 by omega)).1 (by omega)
  · exact (upow hq.un (show 4 < 8 by omega)).2
  simp [S70_0, S70_1, S70_2, S32_0, S32_1, S32_2, S14_0, Call_in (k2 := 32), Call_in (k2 := 14), BS, ixs, inbs, le_nlt, hB, c8, c73, r1, u2_rd]
  simp [S137_0, S137_1, S137_2, S137_3, S137_4, S107_0, BS, ixs, inbs, le_nlt, hM, isy, e2, r74, kf3, j0, jx, z0, z2, mp7, lg_lt, a8, md, tU, tD, tx0, tx1, tx2, tx3, tx4, wL_mul, wL_add, mp0, mp1, mp2, mp3, mp4, dv0, rm0, dv1, rm1, dv2, rm2, dv3, rm3, dv4, rm4, lm]
  refine m_beat hr' (show 3 < 1000 by omega) (fun L2 g2 => ?_)
  simp [S137_0, S137_1, S137_2, S137_3, S137_4, S107_0, BS, ixs, inbs, le_nlt, hM, r74, a8, md, j0, jx, tU, tD, tx0, tx1, tx2, tx3, tx4, wL_mul, wL_add, mp0, mp1, mp2, mp3, mp4, dv0, rm0, dv1, rm1, dv2, rm2, dv3, rm3, dv4, rm4, lm]
  refine m_beat hr' (show 2 < 1000 by omega) (fun L3 g3 => ?_)
  simp [S137_0, S137_1, S137_2, S137_3, S137_4, S107_0, BS, ixs, inbs, le_nlt, hM, r74, a8, md, j0, jx, tU, tD, tx0, tx1, tx2, tx3, tx4, wL_mul, wL_add, mp0, mp1, mp2, mp3, mp4, dv0, rm0, dv1, rm1, dv2, rm2, dv3, rm3, dv4, rm4, lm]
  refine m_beat hr' (show 1 < 1000 by omega) (fun L4 g4 => ?_)
  simp [S137_0, S137_1, S137_2, S137_3, S137_4, S107_0, BS, ixs, inbs, le_nlt, hM, r74, a8, md, j0, jx, tU, tD, tx0, tx1, tx2, tx3, tx4, wL_mul, wL_add, mp0, mp1, mp2, mp3, mp4, dv0, rm0, dv1, rm1, dv2, rm2, dv3, rm3, dv4, rm4, lm]
  refine m_beat hr' (show 0 < 1000 by omega) (fun L5 g5 => ?_)
  simp [S137_0, S137_1, S137_2, S137_3, S137_4, S107_0, BS, ixs, inbs, le_nlt, hM, r74, a8, md, j0, jx, tU, tD, tx0, tx1, tx2, tx3, tx4, wL_mul, wL_add, mp0, mp1, mp2, mp3, mp4, dv0, rm0, dv1, rm1, dv2, rm2, dv3, rm3, dv4, rm4, lm]
  refine (m_low ?_ ?_ ?_ c74 _ _ _ _ _).mpr ?_
  · exact bn_le (bn_add (bn_add (bn_add (bn_add (bn_mul (bn_pl bA bB bK 3) bX0) (bn_mul (bn_mul (bn_pl bA bB bK 2) bX1) (upow hq.un (show 1 < 8 by omega)).1)) (bn_mul (bn_mul (bn_pl bA bB bK 1) bX2) (upow hq.un (show 2 < 8 by omega)).1)) (bn_mul (bn_mul (bn_pl bA bB bK 0) bX3) (upow hq.un (show 3 < 8 by omega)).1)) (bn_mul (bn_mul (upow hq.un (show 3 < 8 by omega)).1 bD) bX4)) (by decide)
  · exact bn_le (upow hq.un (show 3 < 8 by omega)).1 (by omega)
  · exact (upow hq.un (show 3 < 8 by omega)).2
  have sc := fn_scale (c := (I q 2).toInt) (by rcases hq.un with h | h | h <;> rw [h] <;> decide) (show (pl (fun i => (I (q + 1) i).toInt) (fun i => (I (q + 2) i).toInt) (fun i => (I (q + 3) i).toInt) 3) * (I q 2).toInt ^ 1 * X0 + (pl (fun i => (I (q + 1) i).toInt) (fun i => (I (q + 2) i).toInt) (fun i => (I (q + 3) i).toInt) 2) * (I q 2).toInt ^ 2 * X1 + (pl (fun i => (I (q + 1) i).toInt) (fun i => (I (q + 2) i).toInt) (fun i => (I (q + 3) i).toInt) 1) * (I q 2).toInt ^ 3 * X2 + (pl (fun i => (I (q + 1) i).toInt) (fun i => (I (q + 2) i).toInt) (fun i => (I (q + 3) i).toInt) 0) * (I q 2).toInt ^ 4 * X3 + (I (q + 4) 0).toInt * (I q 2).toInt ^ 4 * X4 = (I q 2).toInt * ((pl (fun i => (I (q + 1) i).toInt) (fun i => (I (q + 2) i).toInt) (fun i => (I (q + 3) i).toInt) 3) * X0 + (pl (fun i => (I (q + 1) i).toInt) (fun i => (I (q + 2) i).toInt) (fun i => (I (q + 3) i).toInt) 2) * X1 * (I q 2).toInt ^ 1 + (pl (fun i => (I (q + 1) i).toInt) (fun i => (I (q + 2) i).toInt) (fun i => (I (q + 3) i).toInt) 1) * X2 * (I q 2).toInt ^ 2 + (pl (fun i => (I (q + 1) i).toInt) (fun i => (I (q + 2) i).toInt) (fun i => (I (q + 3) i).toInt) 0) * X3 * (I q 2).toInt ^ 3 + (I q 2).toInt ^ 3 * (I (q + 4) 0).toInt * X4) from by grind) (show (I q 2).toInt ^ 4 = (I q 2).toInt * ((I q 2).toInt ^ 3) from by grind)
  simp [S137_0, S137_1, S137_2, S137_3, S137_4, S107_0, Call_in (k2 := 107), BS, ixs, inbs, le_nlt, hM, c74, r74, u2_rd]
  refine ⟨by rw [← sc.1], Inv_mk (h7.scr (fun i hi => by rw [u2_ne _ _ _ (by omega), u2_ne _ _ _ (by omega), g5 i (by omega) (by omega), g4 i (by omega) (by omega), g3 i (by omega) (by omega), g2 i (by omega) (by omega), u2_ne _ _ _ (by omega), u2_ne _ _ _ (by omega), f1 i (by omega)]) (fun _ _ => rfl) ⟨rfl, rfl, rfl⟩ (fun i k h1 _ => by rw [u2_rd, if_neg h1]))⟩

set_option maxRecDepth 100000 in
set_option maxHeartbeats 8000000 in
theorem run_41 {n sl : Nat} {C Z : Nat → Nat} {I : Nat → Nat → Int32} {L : Nat → Nat → Int64} {R : Nat → Nat → Nat} {M rn t j q s z : Nat} (h7 : Inv7 n C Z I L R M rn t) (hj : j < M) (hq : MOK n C Z I R j q s) (kf : inG 7 (C q) = true ∧ isa (C q) 1 = false ∧ ¬ I 75 j = 1) (hz : z < 16807) : Two 70 137 [some (.ref 1), some (.int (nI j)), some (.int 4), some (.int (nI z)), some (.int 1), none] [some (.ref 74), some (.int (nI j)), some (.int 4), some (.int (nI z)), some (.int 1), none, none, none, none, none, none, none] (n, sl, C, Z, I, L, R) := by
  obtain ⟨hM12, hn98, ⟨hB, hK, hO, hE, hM⟩, ⟨e1, e2⟩, -⟩ := id h7
  have hB' := hB
  have hM' := hM
  have hKK := hK
  unfold LayB at hB
  unfold LayM at hM
  unfold LayK at hKK
  unfold Two
  obtain ⟨a1, a2, -⟩ := id hq
  obtain ⟨kin, kf2, kf3⟩ := kf
  have hq0 : ¬ q = 0 := by omega
  have hc := hq.cm
  have hc' : CM C Z I (u2 R 8 0 q) q s (I q 2) _ _ _ _ := hc.keep (fun _ _ => rfl) (fun i hi => u2_ne _ _ _ (by omega))
  have hr' := (hq.rm hM' (by omega)).keep (R' := u2 R 8 0 q) (I' := I) (hM'.look 8 q (by omega)) (fun _ _ _ => rfl)
  have hK' : LayK C Z (u2 R 8 0 q) := by unfold LayK at *; simp [hK, u2_rd]
  have rr : u2 R 8 0 q 8 0 = q := by simp [u2_rd]
  have c8 : C 8 = 4 := by simp [hKK]
  have r74 : ∀ k, u2 R 8 0 q 74 k = R 74 k := fun k => by rw [u2_ne _ _ _ (by omega)]
  have r1 : ∀ k, u2 R 8 0 q 1 k = R 1 k := fun k => by rw [u2_ne _ _ _ (by omega)]
  have hM2 := hM'.look 8 q (by omega)
  have md : I 78 j = I (q + 4) 0 := hq.2.2.2.2.2.2.2.2.2.2.2.1.1
  have a8 : I 77 j = I q 2 := hq.2.2.2.2.2.1.1.symm
  have r6 : R q 6 = q + 4 := hq.2.2.2.2.2.2.1.2.2.2
  have c4 : C (q + 4) = 21 ∧ Z (q + 4) = 1 := ⟨hq.2.2.2.2.2.2.2.1.2.2.2.1, hq.2.2.2.2.2.2.2.1.2.2.2.2.2.2.2⟩
  have j0 : inb (nI j) 12 = true := by rw [inb_nI (by omega)]; simp; omega
  have jx := ix_nI (show j < 2 ^ 31 by omega)
  have rq : ∀ k, u2 R 8 0 q q k = R q k := fun k => by rw [u2_ne _ _ _ (by omega)]
  have isy := fun (n sl : Nat) (I' : Nat → Nat → Int32) (L' : Nat → Nat → Int64) => is_yesG hM2 hM12 hj n sl I' L'
  obtain ⟨bA, bB, bK, bD⟩ := hq.bns
  have c73 : C 73 = 3 := by simp [hB]
  have c74 : C 74 = 11 := by simp [hM]
  have z0 : ¬ nI z < 0 := nI_nneg (by omega)
  have z1 : ¬ (16806 : Int32) < nI z := nI_nlt (b := z) (a := 16806) (by omega) (by omega)
  have z2 : (nI z).toInt64 < 16807 := by rw [nI_l (by omega)]; exact (pk_lLT (b := 16807) (by omega) (by omega)).mpr (by omega)
  have cp7 := fun h k pc ls st Q => c_pow 7 (show 5 < 1000 by omega) h k pc ls st Q
  have mp7 := fun h k pc ls st Q => m_pow 7 (show 5 < 1000 by omega) h k pc ls st Q
  simp only [show nI 5 = 5 from rfl, show wL ((7 : Int32).toInt ^ 5) = 16807 from by decide +kernel, show wL (7 : Int32).toInt = 7 from by decide +kernel] at cp7 mp7
  have c7 : (16807 : Int64).toInt32 = 16807 := by decide +kernel
  have dv0 := div7 (z := z) (by omega)
  have rm0 := rem7 (z := z) (by omega)
  have dv1 := div7 (z := (z / 7)) (by omega)
  have rm1 := rem7 (z := (z / 7)) (by omega)
  have dv2 := div7 (z := ((z / 7) / 7)) (by omega)
  have rm2 := rem7 (z := ((z / 7) / 7)) (by omega)
  have dv3 := div7 (z := (((z / 7) / 7) / 7)) (by omega)
  have rm3 := rem7 (z := (((z / 7) / 7) / 7)) (by omega)
  have dv4 := div7 (z := ((((z / 7) / 7) / 7) / 7)) (by omega)
  have rm4 := rem7 (z := ((((z / 7) / 7) / 7) / 7)) (by omega)
  have lm : ((((z / 7) / 7) / 7) / 7) % 7 = ((((z / 7) / 7) / 7) / 7) := by omega
  have l7 : ((((z / 7) / 7) / 7) / 7) < 7 := by omega
  obtain ⟨X0, tx0, bX0⟩ : ∃ X, (nI (z % 7) - 3).toInt64 = wL X ∧ bn 3 X := ⟨_, wL_i2l _, dig (by omega)⟩
  obtain ⟨X1, tx1, bX1⟩ : ∃ X, (nI ((z / 7) % 7) - 3).toInt64 = wL X ∧ bn 3 X := ⟨_, wL_i2l _, dig (by omega)⟩
  obtain ⟨X2, tx2, bX2⟩ : ∃ X, (nI (((z / 7) / 7) % 7) - 3).toInt64 = wL X ∧ bn 3 X := ⟨_, wL_i2l _, dig (by omega)⟩
  obtain ⟨X3, tx3, bX3⟩ : ∃ X, (nI ((((z / 7) / 7) / 7) % 7) - 3).toInt64 = wL X ∧ bn 3 X := ⟨_, wL_i2l _, dig (by omega)⟩
  obtain ⟨X4, tx4, bX4⟩ : ∃ X, (nI (((((z / 7) / 7) / 7) / 7)) - 3).toInt64 = wL X ∧ bn 3 X := ⟨_, wL_i2l _, dig (by omega)⟩
  have tD : (I (q + 4) 0).toInt64 = wL (I (q + 4) 0).toInt := wL_i2l _
  have tU : (I q 2).toInt64 = wL (I q 2).toInt := wL_i2l _
  simp [S70_0, S70_1, S70_2, S87_0, at_yesG hB' hM12 hj, Call_in (k2 := 87), BS, ixs, inbs, le_nlt, hB, e1, a1, hq0, kin, kf2, c8, cp7, c7, z0, z1]
  refine c_at8 hc hK (fun L1 f1 lk => ?_)
  have pl0 := fun k pc ls st Q => c_pl8 (n := n) (sl := sl) hc' hK' rr lk (show 0 < 8 by omega) k pc ls st Q
  simp only [show nI 0 = 0 from rfl] at pl0
  have pl1 := fun k pc ls st Q => c_pl8 (n := n) (sl := sl) hc' hK' rr lk (show 1 < 8 by omega) k pc ls st Q
  simp only [show nI 1 = 1 from rfl] at pl1
  have pl2 := fun k pc ls st Q => c_pl8 (n := n) (sl := sl) hc' hK' rr lk (show 2 < 8 by omega) k pc ls st Q
  simp only [show nI 2 = 2 from rfl] at pl2
  have pl3 := fun k pc ls st Q => c_pl8 (n := n) (sl := sl) hc' hK' rr lk (show 3 < 8 by omega) k pc ls st Q
  simp only [show nI 3 = 3 from rfl] at pl3
  have cp0 := fun h k pc ls st Q => c_pow (I q 2) (show 0 < 1000 by omega) h k pc ls st Q
  simp only [show nI 0 = 0 from rfl] at cp0
  have cp1 := fun h k pc ls st Q => c_pow (I q 2) (show 1 < 1000 by omega) h k pc ls st Q
  simp only [show nI 1 = 1 from rfl] at cp1
  have cp2 := fun h k pc ls st Q => c_pow (I q 2) (show 2 < 1000 by omega) h k pc ls st Q
  simp only [show nI 2 = 2 from rfl] at cp2
  have cp3 := fun h k pc ls st Q => c_pow (I q 2) (show 3 < 1000 by omega) h k pc ls st Q
  simp only [show nI 3 = 3 from rfl] at cp3
  have cp4 := fun h k pc ls st Q => c_pow (I q 2) (show 4 < 1000 by omega) h k pc ls st Q
  simp only [show nI 4 = 4 from rfl] at cp4
  have mp0 := fun h k pc ls st Q => m_pow (I q 2) (show 0 < 1000 by omega) h k pc ls st Q
  simp only [show nI 0 = 0 from rfl] at mp0
  have mp1 := fun h k pc ls st Q => m_pow (I q 2) (show 1 < 1000 by omega) h k pc ls st Q
  simp only [show nI 1 = 1 from rfl] at mp1
  have mp2 := fun h k pc ls st Q => m_pow (I q 2) (show 2 < 1000 by omega) h k pc ls st Q
  simp only [show nI 2 = 2 from rfl] at mp2
  have mp3 := fun h k pc ls st Q => m_pow (I q 2) (show 3 < 1000 by omega) h k pc ls st Q
  simp only [show nI 3 = 3 from rfl] at mp3
  have mp4 := fun h k pc ls st Q => m_pow (I q 2) (show 4 < 1000 by omega) h k pc ls st Q
  simp only [show nI 4 = 4 from rfl] at mp4
  simp [S70_0, S70_1, S70_2, S32_0, S32_1, S32_2, S14_0, Call_in (k2 := 32), BS, ixs, inbs, le_nlt, hB, hKK, c8, c73, r1, rr, rq, r6, c4, kin, tD, tx0, tx1, tx2, tx3, tx4, wL_mul, wL_add, u2_rd, pl0, pl1, pl2, pl3, cp0, cp1, cp2, cp3, cp4, dv0, rm0, dv1, rm1, dv2, rm2, dv3, rm3, dv4, rm4]
  refine (c_put ?_ ?_ ?_ c73 _ _ _ _ _).mpr ?_
  · exact bn_le (bn_add (bn_add (bn_add (bn_add (bn_mul (bn_mul (bn_pl bA bB bK 3) (upow hq.un (show 1 < 8 by omega)).1) bX0) (bn_mul (bn_mul (bn_pl bA bB bK 2) (upow hq.un (show 2 < 8 by omega)).1) bX1)) (bn_mul (bn_mul (bn_pl bA bB bK 1) (upow hq.un (show 3 < 8 by omega)).1) bX2)) (bn_mul (bn_mul (bn_pl bA bB bK 0) (upow hq.un (show 4 < 8 by omega)).1) bX3)) (bn_mul (bn_mul bD (upow hq.un (show 4 < 8 by omega)).1) bX4)) (by decide)
  · exact bn_le (upow hq.un (show 4 < 8 by omega)).1 (by omega)
  · exact (upow hq.un (show 4 < 8 by omega)).2
  simp [S70_0, S70_1, S70_2, S32_0, S32_1, S32_2, S14_0, Call_in (k2 := 32), Call_in (k2 := 14), BS, ixs, inbs, le_nlt, hB, c8, c73, r1, u2_rd]
  simp [S137_0, S137_1, S137_2, S137_3, S137_4, S107_0, BS, ixs, inbs, le_nlt, hM, isy, e2, r74, kf3, j0, jx, z0, z2, mp7, lg_lt, a8, md, tU, tD, tx0, tx1, tx2, tx3, tx4, wL_mul, wL_add, mp0, mp1, mp2, mp3, mp4, dv0, rm0, dv1, rm1, dv2, rm2, dv3, rm3, dv4, rm4, lm]
  refine m_beat hr' (show 3 < 1000 by omega) (fun L2 g2 => ?_)
  simp [S137_0, S137_1, S137_2, S137_3, S137_4, S107_0, BS, ixs, inbs, le_nlt, hM, r74, a8, md, j0, jx, tU, tD, tx0, tx1, tx2, tx3, tx4, wL_mul, wL_add, mp0, mp1, mp2, mp3, mp4, dv0, rm0, dv1, rm1, dv2, rm2, dv3, rm3, dv4, rm4, lm]
  refine m_beat hr' (show 2 < 1000 by omega) (fun L3 g3 => ?_)
  simp [S137_0, S137_1, S137_2, S137_3, S137_4, S107_0, BS, ixs, inbs, le_nlt, hM, r74, a8, md, j0, jx, tU, tD, tx0, tx1, tx2, tx3, tx4, wL_mul, wL_add, mp0, mp1, mp2, mp3, mp4, dv0, rm0, dv1, rm1, dv2, rm2, dv3, rm3, dv4, rm4, lm]
  refine m_beat hr' (show 1 < 1000 by omega) (fun L4 g4 => ?_)
  simp [S137_0, S137_1, S137_2, S137_3, S137_4, S107_0, BS, ixs, inbs, le_nlt, hM, r74, a8, md, j0, jx, tU, tD, tx0, tx1, tx2, tx3, tx4, wL_mul, wL_add, mp0, mp1, mp2, mp3, mp4, dv0, rm0, dv1, rm1, dv2, rm2, dv3, rm3, dv4, rm4, lm]
  refine m_beat hr' (show 0 < 1000 by omega) (fun L5 g5 => ?_)
  simp [S137_0, S137_1, S137_2, S137_3, S137_4, S107_0, BS, ixs, inbs, le_nlt, hM, r74, a8, md, j0, jx, tU, tD, tx0, tx1, tx2, tx3, tx4, wL_mul, wL_add, mp0, mp1, mp2, mp3, mp4, dv0, rm0, dv1, rm1, dv2, rm2, dv3, rm3, dv4, rm4, lm]
  refine (m_low ?_ ?_ ?_ c74 _ _ _ _ _).mpr ?_
  · exact bn_le (bn_add (bn_add (bn_add (bn_add (bn_mul (bn_pl bA bB bK 3) bX0) (bn_mul (bn_mul (bn_pl bA bB bK 2) bX1) (upow hq.un (show 1 < 8 by omega)).1)) (bn_mul (bn_mul (bn_pl bA bB bK 1) bX2) (upow hq.un (show 2 < 8 by omega)).1)) (bn_mul (bn_mul (bn_pl bA bB bK 0) bX3) (upow hq.un (show 3 < 8 by omega)).1)) (bn_mul (bn_mul (upow hq.un (show 3 < 8 by omega)).1 bD) bX4)) (by decide)
  · exact bn_le (upow hq.un (show 3 < 8 by omega)).1 (by omega)
  · exact (upow hq.un (show 3 < 8 by omega)).2
  have sc := fn_scale (c := (I q 2).toInt) (by rcases hq.un with h | h | h <;> rw [h] <;> decide) (show (pl (fun i => (I (q + 1) i).toInt) (fun i => (I (q + 2) i).toInt) (fun i => (I (q + 3) i).toInt) 3) * (I q 2).toInt ^ 1 * X0 + (pl (fun i => (I (q + 1) i).toInt) (fun i => (I (q + 2) i).toInt) (fun i => (I (q + 3) i).toInt) 2) * (I q 2).toInt ^ 2 * X1 + (pl (fun i => (I (q + 1) i).toInt) (fun i => (I (q + 2) i).toInt) (fun i => (I (q + 3) i).toInt) 1) * (I q 2).toInt ^ 3 * X2 + (pl (fun i => (I (q + 1) i).toInt) (fun i => (I (q + 2) i).toInt) (fun i => (I (q + 3) i).toInt) 0) * (I q 2).toInt ^ 4 * X3 + (I (q + 4) 0).toInt * (I q 2).toInt ^ 4 * X4 = (I q 2).toInt * ((pl (fun i => (I (q + 1) i).toInt) (fun i => (I (q + 2) i).toInt) (fun i => (I (q + 3) i).toInt) 3) * X0 + (pl (fun i => (I (q + 1) i).toInt) (fun i => (I (q + 2) i).toInt) (fun i => (I (q + 3) i).toInt) 2) * X1 * (I q 2).toInt ^ 1 + (pl (fun i => (I (q + 1) i).toInt) (fun i => (I (q + 2) i).toInt) (fun i => (I (q + 3) i).toInt) 1) * X2 * (I q 2).toInt ^ 2 + (pl (fun i => (I (q + 1) i).toInt) (fun i => (I (q + 2) i).toInt) (fun i => (I (q + 3) i).toInt) 0) * X3 * (I q 2).toInt ^ 3 + (I q 2).toInt ^ 3 * (I (q + 4) 0).toInt * X4) from by grind) (show (I q 2).toInt ^ 4 = (I q 2).toInt * ((I q 2).toInt ^ 3) from by grind)
  simp [S137_0, S137_1, S137_2, S137_3, S137_4, S107_0, Call_in (k2 := 107), BS, ixs, inbs, le_nlt, hM, c74, r74, u2_rd]
  refine ⟨by rw [← sc.2], Inv_mk (h7.scr (fun i hi => by rw [u2_ne _ _ _ (by omega), u2_ne _ _ _ (by omega), g5 i (by omega) (by omega), g4 i (by omega) (by omega), g3 i (by omega) (by omega), g2 i (by omega) (by omega), u2_ne _ _ _ (by omega), u2_ne _ _ _ (by omega), f1 i (by omega)]) (fun _ _ => rfl) ⟨rfl, rfl, rfl⟩ (fun i k h1 _ => by rw [u2_rd, if_neg h1]))⟩

set_option maxRecDepth 100000 in
set_option maxHeartbeats 8000000 in
theorem run_50 {n sl : Nat} {C Z : Nat → Nat} {I : Nat → Nat → Int32} {L : Nat → Nat → Int64} {R : Nat → Nat → Nat} {M rn t j q s z : Nat} (h7 : Inv7 n C Z I L R M rn t) (hj : j < M) (hq : MOK n C Z I R j q s) (kf : inG 7 (C q) = true ∧ isa (C q) 1 = false ∧ ¬ I 75 j = 1) (hz : z < 117649) : Two 70 137 [some (.ref 1), some (.int (nI j)), some (.int 5), some (.int (nI z)), some (.int 0), none] [some (.ref 74), some (.int (nI j)), some (.int 5), some (.int (nI z)), some (.int 0), none, none, none, none, none, none, none] (n, sl, C, Z, I, L, R) := by
  obtain ⟨hM12, hn98, ⟨hB, hK, hO, hE, hM⟩, ⟨e1, e2⟩, -⟩ := id h7
  have hB' := hB
  have hM' := hM
  have hKK := hK
  unfold LayB at hB
  unfold LayM at hM
  unfold LayK at hKK
  unfold Two
  obtain ⟨a1, a2, -⟩ := id hq
  obtain ⟨kin, kf2, kf3⟩ := kf
  have hq0 : ¬ q = 0 := by omega
  have hc := hq.cm
  have hc' : CM C Z I (u2 R 8 0 q) q s (I q 2) _ _ _ _ := hc.keep (fun _ _ => rfl) (fun i hi => u2_ne _ _ _ (by omega))
  have hr' := (hq.rm hM' (by omega)).keep (R' := u2 R 8 0 q) (I' := I) (hM'.look 8 q (by omega)) (fun _ _ _ => rfl)
  have hK' : LayK C Z (u2 R 8 0 q) := by unfold LayK at *; simp [hK, u2_rd]
  have rr : u2 R 8 0 q 8 0 = q := by simp [u2_rd]
  have c8 : C 8 = 4 := by simp [hKK]
  have r74 : ∀ k, u2 R 8 0 q 74 k = R 74 k := fun k => by rw [u2_ne _ _ _ (by omega)]
  have r1 : ∀ k, u2 R 8 0 q 1 k = R 1 k := fun k => by rw [u2_ne _ _ _ (by omega)]
  have hM2 := hM'.look 8 q (by omega)
  have md : I 78 j = I (q + 4) 0 := hq.2.2.2.2.2.2.2.2.2.2.2.1.1
  have a8 : I 77 j = I q 2 := hq.2.2.2.2.2.1.1.symm
  have r6 : R q 6 = q + 4 := hq.2.2.2.2.2.2.1.2.2.2
  have c4 : C (q + 4) = 21 ∧ Z (q + 4) = 1 := ⟨hq.2.2.2.2.2.2.2.1.2.2.2.1, hq.2.2.2.2.2.2.2.1.2.2.2.2.2.2.2⟩
  have j0 : inb (nI j) 12 = true := by rw [inb_nI (by omega)]; simp; omega
  have jx := ix_nI (show j < 2 ^ 31 by omega)
  have rq : ∀ k, u2 R 8 0 q q k = R q k := fun k => by rw [u2_ne _ _ _ (by omega)]
  have isy := fun (n sl : Nat) (I' : Nat → Nat → Int32) (L' : Nat → Nat → Int64) => is_yesG hM2 hM12 hj n sl I' L'
  obtain ⟨bA, bB, bK, bD⟩ := hq.bns
  have c73 : C 73 = 3 := by simp [hB]
  have c74 : C 74 = 11 := by simp [hM]
  have z0 : ¬ nI z < 0 := nI_nneg (by omega)
  have z1 : ¬ (117648 : Int32) < nI z := nI_nlt (b := z) (a := 117648) (by omega) (by omega)
  have z2 : (nI z).toInt64 < 117649 := by rw [nI_l (by omega)]; exact (pk_lLT (b := 117649) (by omega) (by omega)).mpr (by omega)
  have cp7 := fun h k pc ls st Q => c_pow 7 (show 6 < 1000 by omega) h k pc ls st Q
  have mp7 := fun h k pc ls st Q => m_pow 7 (show 6 < 1000 by omega) h k pc ls st Q
  simp only [show nI 6 = 6 from rfl, show wL ((7 : Int32).toInt ^ 6) = 117649 from by decide +kernel, show wL (7 : Int32).toInt = 7 from by decide +kernel] at cp7 mp7
  have c7 : (117649 : Int64).toInt32 = 117649 := by decide +kernel
  have dv0 := div7 (z := z) (by omega)
  have rm0 := rem7 (z := z) (by omega)
  have dv1 := div7 (z := (z / 7)) (by omega)
  have rm1 := rem7 (z := (z / 7)) (by omega)
  have dv2 := div7 (z := ((z / 7) / 7)) (by omega)
  have rm2 := rem7 (z := ((z / 7) / 7)) (by omega)
  have dv3 := div7 (z := (((z / 7) / 7) / 7)) (by omega)
  have rm3 := rem7 (z := (((z / 7) / 7) / 7)) (by omega)
  have dv4 := div7 (z := ((((z / 7) / 7) / 7) / 7)) (by omega)
  have rm4 := rem7 (z := ((((z / 7) / 7) / 7) / 7)) (by omega)
  have dv5 := div7 (z := (((((z / 7) / 7) / 7) / 7) / 7)) (by omega)
  have rm5 := rem7 (z := (((((z / 7) / 7) / 7) / 7) / 7)) (by omega)
  have lm : (((((z / 7) / 7) / 7) / 7) / 7) % 7 = (((((z / 7) / 7) / 7) / 7) / 7) := by omega
  have l7 : (((((z / 7) / 7) / 7) / 7) / 7) < 7 := by omega
  obtain ⟨X0, tx0, bX0⟩ : ∃ X, (nI (z % 7) - 3).toInt64 = wL X ∧ bn 3 X := ⟨_, wL_i2l _, dig (by omega)⟩
  obtain ⟨X1, tx1, bX1⟩ : ∃ X, (nI ((z / 7) % 7) - 3).toInt64 = wL X ∧ bn 3 X := ⟨_, wL_i2l _, dig (by omega)⟩
  obtain ⟨X2, tx2, bX2⟩ : ∃ X, (nI (((z / 7) / 7) % 7) - 3).toInt64 = wL X ∧ bn 3 X := ⟨_, wL_i2l _, dig (by omega)⟩
  obtain ⟨X3, tx3, bX3⟩ : ∃ X, (nI ((((z / 7) / 7) / 7) % 7) - 3).toInt64 = wL X ∧ bn 3 X := ⟨_, wL_i2l _, dig (by omega)⟩
  obtain ⟨X4, tx4, bX4⟩ : ∃ X, (nI (((((z / 7) / 7) / 7) / 7) % 7) - 3).toInt64 = wL X ∧ bn 3 X := ⟨_, wL_i2l _, dig (by omega)⟩
  obtain ⟨X5, tx5, bX5⟩ : ∃ X, (nI ((((((z / 7) / 7) / 7) / 7) / 7)) - 3).toInt64 = wL X ∧ bn 3 X := ⟨_, wL_i2l _, dig (by omega)⟩
  have tD : (I (q + 4) 0).toInt64 = wL (I (q + 4) 0).toInt := wL_i2l _
  have tU : (I q 2).toInt64 = wL (I q 2).toInt := wL_i2l _
  simp [S70_0, S70_1, S70_2, S87_0, at_yesG hB' hM12 hj, Call_in (k2 := 87), BS, ixs, inbs, le_nlt, hB, e1, a1, hq0, kin, kf2, c8, cp7, c7, z0, z1]
  refine c_at8 hc hK (fun L1 f1 lk => ?_)
  have pl0 := fun k pc ls st Q => c_pl8 (n := n) (sl := sl) hc' hK' rr lk (show 0 < 8 by omega) k pc ls st Q
  simp only [show nI 0 = 0 from rfl] at pl0
  have pl1 := fun k pc ls st Q => c_pl8 (n := n) (sl := sl) hc' hK' rr lk (show 1 < 8 by omega) k pc ls st Q
  simp only [show nI 1 = 1 from rfl] at pl1
  have pl2 := fun k pc ls st Q => c_pl8 (n := n) (sl := sl) hc' hK' rr lk (show 2 < 8 by omega) k pc ls st Q
  simp only [show nI 2 = 2 from rfl] at pl2
  have pl3 := fun k pc ls st Q => c_pl8 (n := n) (sl := sl) hc' hK' rr lk (show 3 < 8 by omega) k pc ls st Q
  simp only [show nI 3 = 3 from rfl] at pl3
  have pl4 := fun k pc ls st Q => c_pl8 (n := n) (sl := sl) hc' hK' rr lk (show 4 < 8 by omega) k pc ls st Q
  simp only [show nI 4 = 4 from rfl] at pl4
  have cp0 := fun h k pc ls st Q => c_pow (I q 2) (show 0 < 1000 by omega) h k pc ls st Q
  simp only [show nI 0 = 0 from rfl] at cp0
  have cp1 := fun h k pc ls st Q => c_pow (I q 2) (show 1 < 1000 by omega) h k pc ls st Q
  simp only [show nI 1 = 1 from rfl] at cp1
  have cp2 := fun h k pc ls st Q => c_pow (I q 2) (show 2 < 1000 by omega) h k pc ls st Q
  simp only [show nI 2 = 2 from rfl] at cp2
  have cp3 := fun h k pc ls st Q => c_pow (I q 2) (show 3 < 1000 by omega) h k pc ls st Q
  simp only [show nI 3 = 3 from rfl] at cp3
  have cp4 := fun h k pc ls st Q => c_pow (I q 2) (show 4 < 1000 by omega) h k pc ls st Q
  simp only [show nI 4 = 4 from rfl] at cp4
  have cp5 := fun h k pc ls st Q => c_pow (I q 2) (show 5 < 1000 by omega) h k pc ls st Q
  simp only [show nI 5 = 5 from rfl] at cp5
  have mp0 := fun h k pc ls st Q => m_pow (I q 2) (show 0 < 1000 by omega) h k pc ls st Q
  simp only [show nI 0 = 0 from rfl] at mp0
  have mp1 := fun h k pc ls st Q => m_pow (I q 2) (show 1 < 1000 by omega) h k pc ls st Q
  simp only [show nI 1 = 1 from rfl] at mp1
  have mp2 := fun h k pc ls st Q => m_pow (I q 2) (show 2 < 1000 by omega) h k pc ls st Q
  simp only [show nI 2 = 2 from rfl] at mp2
  have mp3 := fun h k pc ls st Q => m_pow (I q 2) (show 3 < 1000 by omega) h k pc ls st Q
  simp only [show nI 3 = 3 from rfl] at mp3
  have mp4 := fun h k pc ls st Q => m_pow (I q 2) (show 4 < 1000 by omega) h k pc ls st Q
  simp only [show nI 4 = 4 from rfl] at mp4
  have mp5 := fun h k pc ls st Q => m_pow (I q 2) (show 5 < 1000 by omega) h k pc ls st Q
  simp only [show nI 5 = 5 from rfl] at mp5
  simp [S70_0, S70_1, S70_2, S32_0, S32_1, S32_2, S14_0, Call_in (k2 := 32), BS, ixs, inbs, le_nlt, hB, hKK, c8, c73, r1, rr, rq, r6, c4, kin, tD, tx0, tx1, tx2, tx3, tx4, tx5, wL_mul, wL_add, u2_rd, pl0, pl1, pl2, pl3, pl4, cp0, cp1, cp2, cp3, cp4, cp5, dv0, rm0, dv1, rm1, dv2, rm2, dv3, rm3, dv4, rm4, dv5, rm5]
  refine (c_put ?_ ?_ ?_ c73 _ _ _ _ _).mpr ?_
  · exact bn_le (bn_add (bn_add (bn_add (bn_add (bn_add (bn_mul (bn_mul (bn_pl bA bB bK 4) (upow hq.un (show 1 < 8 by omega)).1) bX0) (bn_mul (bn_mul (bn_pl bA bB bK 3) (upow hq.un (show 2 < 8 by omega)).1) bX1)) (bn_mul (bn_mul (bn_pl bA bB bK 2) (upow hq.un (show 3 < 8 by omega)).1) bX2)) (bn_mul (bn_mul (bn_pl bA bB bK 1) (upow hq.un (show 4 < 8 by omega)).1) bX3)) (bn_mul (bn_mul (bn_pl bA bB bK 0) (upow hq.un (show 5 < 8 by omega)).1) bX4)) (bn_mul (bn_mul bD (upow hq.un (show 5 < 8 by omega)).1) bX5)) (by decide)
  · exact bn_le (upow hq.un (show 5 < 8 by omega)).1 (by omega)
  · exact (upow hq.un (show 5 < 8 by omega)).2
  simp [S70_0, S70_1, S70_2, S32_0, S32_1, S32_2, S14_0, Call_in (k2 := 32), Call_in (k2 := 14), BS, ixs, inbs, le_nlt, hB, c8, c73, r1, u2_rd]
  simp [S137_0, S137_1, S137_2, S137_3, S137_4, S107_0, BS, ixs, inbs, le_nlt, hM, isy, e2, r74, kf3, j0, jx, z0, z2, mp7, lg_lt, a8, md, tU, tD, tx0, tx1, tx2, tx3, tx4, tx5, wL_mul, wL_add, mp0, mp1, mp2, mp3, mp4, mp5, dv0, rm0, dv1, rm1, dv2, rm2, dv3, rm3, dv4, rm4, dv5, rm5, lm]
  refine m_beat hr' (show 4 < 1000 by omega) (fun L2 g2 => ?_)
  simp [S137_0, S137_1, S137_2, S137_3, S137_4, S107_0, BS, ixs, inbs, le_nlt, hM, r74, a8, md, j0, jx, tU, tD, tx0, tx1, tx2, tx3, tx4, tx5, wL_mul, wL_add, mp0, mp1, mp2, mp3, mp4, mp5, dv0, rm0, dv1, rm1, dv2, rm2, dv3, rm3, dv4, rm4, dv5, rm5, lm]
  refine m_beat hr' (show 3 < 1000 by omega) (fun L3 g3 => ?_)
  simp [S137_0, S137_1, S137_2, S137_3, S137_4, S107_0, BS, ixs, inbs, le_nlt, hM, r74, a8, md, j0, jx, tU, tD, tx0, tx1, tx2, tx3, tx4, tx5, wL_mul, wL_add, mp0, mp1, mp2, mp3, mp4, mp5, dv0, rm0, dv1, rm1, dv2, rm2, dv3, rm3, dv4, rm4, dv5, rm5, lm]
  refine m_beat hr' (show 2 < 1000 by omega) (fun L4 g4 => ?_)
  simp [S137_0, S137_1, S137_2, S137_3, S137_4, S107_0, BS, ixs, inbs, le_nlt, hM, r74, a8, md, j0, jx, tU, tD, tx0, tx1, tx2, tx3, tx4, tx5, wL_mul, wL_add, mp0, mp1, mp2, mp3, mp4, mp5, dv0, rm0, dv1, rm1, dv2, rm2, dv3, rm3, dv4, rm4, dv5, rm5, lm]
  refine m_beat hr' (show 1 < 1000 by omega) (fun L5 g5 => ?_)
  simp [S137_0, S137_1, S137_2, S137_3, S137_4, S107_0, BS, ixs, inbs, le_nlt, hM, r74, a8, md, j0, jx, tU, tD, tx0, tx1, tx2, tx3, tx4, tx5, wL_mul, wL_add, mp0, mp1, mp2, mp3, mp4, mp5, dv0, rm0, dv1, rm1, dv2, rm2, dv3, rm3, dv4, rm4, dv5, rm5, lm]
  refine m_beat hr' (show 0 < 1000 by omega) (fun L6 g6 => ?_)
  simp [S137_0, S137_1, S137_2, S137_3, S137_4, S107_0, BS, ixs, inbs, le_nlt, hM, r74, a8, md, j0, jx, tU, tD, tx0, tx1, tx2, tx3, tx4, tx5, wL_mul, wL_add, mp0, mp1, mp2, mp3, mp4, mp5, dv0, rm0, dv1, rm1, dv2, rm2, dv3, rm3, dv4, rm4, dv5, rm5, lm]
  refine (m_low ?_ ?_ ?_ c74 _ _ _ _ _).mpr ?_
  · exact bn_le (bn_add (bn_add (bn_add (bn_add (bn_add (bn_mul (bn_pl bA bB bK 4) bX0) (bn_mul (bn_mul (bn_pl bA bB bK 3) bX1) (upow hq.un (show 1 < 8 by omega)).1)) (bn_mul (bn_mul (bn_pl bA bB bK 2) bX2) (upow hq.un (show 2 < 8 by omega)).1)) (bn_mul (bn_mul (bn_pl bA bB bK 1) bX3) (upow hq.un (show 3 < 8 by omega)).1)) (bn_mul (bn_mul (bn_pl bA bB bK 0) bX4) (upow hq.un (show 4 < 8 by omega)).1)) (bn_mul (bn_mul (upow hq.un (show 4 < 8 by omega)).1 bD) bX5)) (by decide)
  · exact bn_le (upow hq.un (show 4 < 8 by omega)).1 (by omega)
  · exact (upow hq.un (show 4 < 8 by omega)).2
  have sc := fn_scale (c := (I q 2).toInt) (by rcases hq.un with h | h | h <;> rw [h] <;> decide) (show (pl (fun i => (I (q + 1) i).toInt) (fun i => (I (q + 2) i).toInt) (fun i => (I (q + 3) i).toInt) 4) * (I q 2).toInt ^ 1 * X0 + (pl (fun i => (I (q + 1) i).toInt) (fun i => (I (q + 2) i).toInt) (fun i => (I (q + 3) i).toInt) 3) * (I q 2).toInt ^ 2 * X1 + (pl (fun i => (I (q + 1) i).toInt) (fun i => (I (q + 2) i).toInt) (fun i => (I (q + 3) i).toInt) 2) * (I q 2).toInt ^ 3 * X2 + (pl (fun i => (I (q + 1) i).toInt) (fun i => (I (q + 2) i).toInt) (fun i => (I (q + 3) i).toInt) 1) * (I q 2).toInt ^ 4 * X3 + (pl (fun i => (I (q + 1) i).toInt) (fun i => (I (q + 2) i).toInt) (fun i => (I (q + 3) i).toInt) 0) * (I q 2).toInt ^ 5 * X4 + (I (q + 4) 0).toInt * (I q 2).toInt ^ 5 * X5 = (I q 2).toInt * ((pl (fun i => (I (q + 1) i).toInt) (fun i => (I (q + 2) i).toInt) (fun i => (I (q + 3) i).toInt) 4) * X0 + (pl (fun i => (I (q + 1) i).toInt) (fun i => (I (q + 2) i).toInt) (fun i => (I (q + 3) i).toInt) 3) * X1 * (I q 2).toInt ^ 1 + (pl (fun i => (I (q + 1) i).toInt) (fun i => (I (q + 2) i).toInt) (fun i => (I (q + 3) i).toInt) 2) * X2 * (I q 2).toInt ^ 2 + (pl (fun i => (I (q + 1) i).toInt) (fun i => (I (q + 2) i).toInt) (fun i => (I (q + 3) i).toInt) 1) * X3 * (I q 2).toInt ^ 3 + (pl (fun i => (I (q + 1) i).toInt) (fun i => (I (q + 2) i).toInt) (fun i => (I (q + 3) i).toInt) 0) * X4 * (I q 2).toInt ^ 4 + (I q 2).toInt ^ 4 * (I (q + 4) 0).toInt * X5) from by grind) (show (I q 2).toInt ^ 5 = (I q 2).toInt * ((I q 2).toInt ^ 4) from by grind)
  simp [S137_0, S137_1, S137_2, S137_3, S137_4, S107_0, Call_in (k2 := 107), BS, ixs, inbs, le_nlt, hM, c74, r74, u2_rd]
  refine ⟨by rw [← sc.1], Inv_mk (h7.scr (fun i hi => by rw [u2_ne _ _ _ (by omega), u2_ne _ _ _ (by omega), g6 i (by omega) (by omega), g5 i (by omega) (by omega), g4 i (by omega) (by omega), g3 i (by omega) (by omega), g2 i (by omega) (by omega), u2_ne _ _ _ (by omega), u2_ne _ _ _ (by omega), f1 i (by omega)]) (fun _ _ => rfl) ⟨rfl, rfl, rfl⟩ (fun i k h1 _ => by rw [u2_rd, if_neg h1]))⟩

set_option maxRecDepth 100000 in
set_option maxHeartbeats 8000000 in
theorem run_51 {n sl : Nat} {C Z : Nat → Nat} {I : Nat → Nat → Int32} {L : Nat → Nat → Int64} {R : Nat → Nat → Nat} {M rn t j q s z : Nat} (h7 : Inv7 n C Z I L R M rn t) (hj : j < M) (hq : MOK n C Z I R j q s) (kf : inG 7 (C q) = true ∧ isa (C q) 1 = false ∧ ¬ I 75 j = 1) (hz : z < 117649) : Two 70 137 [some (.ref 1), some (.int (nI j)), some (.int 5), some (.int (nI z)), some (.int 1), none] [some (.ref 74), some (.int (nI j)), some (.int 5), some (.int (nI z)), some (.int 1), none, none, none, none, none, none, none] (n, sl, C, Z, I, L, R) := by
  obtain ⟨hM12, hn98, ⟨hB, hK, hO, hE, hM⟩, ⟨e1, e2⟩, -⟩ := id h7
  have hB' := hB
  have hM' := hM
  have hKK := hK
  unfold LayB at hB
  unfold LayM at hM
  unfold LayK at hKK
  unfold Two
  obtain ⟨a1, a2, -⟩ := id hq
  obtain ⟨kin, kf2, kf3⟩ := kf
  have hq0 : ¬ q = 0 := by omega
  have hc := hq.cm
  have hc' : CM C Z I (u2 R 8 0 q) q s (I q 2) _ _ _ _ := hc.keep (fun _ _ => rfl) (fun i hi => u2_ne _ _ _ (by omega))
  have hr' := (hq.rm hM' (by omega)).keep (R' := u2 R 8 0 q) (I' := I) (hM'.look 8 q (by omega)) (fun _ _ _ => rfl)
  have hK' : LayK C Z (u2 R 8 0 q) := by unfold LayK at *; simp [hK, u2_rd]
  have rr : u2 R 8 0 q 8 0 = q := by simp [u2_rd]
  have c8 : C 8 = 4 := by simp [hKK]
  have r74 : ∀ k, u2 R 8 0 q 74 k = R 74 k := fun k => by rw [u2_ne _ _ _ (by omega)]
  have r1 : ∀ k, u2 R 8 0 q 1 k = R 1 k := fun k => by rw [u2_ne _ _ _ (by omega)]
  have hM2 := hM'.look 8 q (by omega)
  have md : I 78 j = I (q + 4) 0 := hq.2.2.2.2.2.2.2.2.2.2.2.1.1
  have a8 : I 77 j = I q 2 := hq.2.2.2.2.2.1.1.symm
  have r6 : R q 6 = q + 4 := hq.2.2.2.2.2.2.1.2.2.2
  have c4 : C (q + 4) = 21 ∧ Z (q + 4) = 1 := ⟨hq.2.2.2.2.2.2.2.1.2.2.2.1, hq.2.2.2.2.2.2.2.1.2.2.2.2.2.2.2⟩
  have j0 : inb (nI j) 12 = true := by rw [inb_nI (by omega)]; simp; omega
  have jx := ix_nI (show j < 2 ^ 31 by omega)
  have rq : ∀ k, u2 R 8 0 q q k = R q k := fun k => by rw [u2_ne _ _ _ (by omega)]
  have isy := fun (n sl : Nat) (I' : Nat → Nat → Int32) (L' : Nat → Nat → Int64) => is_yesG hM2 hM12 hj n sl I' L'
  obtain ⟨bA, bB, bK, bD⟩ := hq.bns
  have c73 : C 73 = 3 := by simp [hB]
  have c74 : C 74 = 11 := by simp [hM]
  have z0 : ¬ nI z < 0 := nI_nneg (by omega)
  have z1 : ¬ (117648 : Int32) < nI z := nI_nlt (b := z) (a := 117648) (by omega) (by omega)
  have z2 : (nI z).toInt64 < 117649 := by rw [nI_l (by omega)]; exact (pk_lLT (b := 117649) (by omega) (by omega)).mpr (by omega)
  have cp7 := fun h k pc ls st Q => c_pow 7 (show 6 < 1000 by omega) h k pc ls st Q
  have mp7 := fun h k pc ls st Q => m_pow 7 (show 6 < 1000 by omega) h k pc ls st Q
  simp only [show nI 6 = 6 from rfl, show wL ((7 : Int32).toInt ^ 6) = 117649 from by decide +kernel, show wL (7 : Int32).toInt = 7 from by decide +kernel] at cp7 mp7
  have c7 : (117649 : Int64).toInt32 = 117649 := by decide +kernel
  have dv0 := div7 (z := z) (by omega)
  have rm0 := rem7 (z := z) (by omega)
  have dv1 := div7 (z := (z / 7)) (by omega)
  have rm1 := rem7 (z := (z / 7)) (by omega)
  have dv2 := div7 (z := ((z / 7) / 7)) (by omega)
  have rm2 := rem7 (z := ((z / 7) / 7)) (by omega)
  have dv3 := div7 (z := (((z / 7) / 7) / 7)) (by omega)
  have rm3 := rem7 (z := (((z / 7) / 7) / 7)) (by omega)
  have dv4 := div7 (z := ((((z / 7) / 7) / 7) / 7)) (by omega)
  have rm4 := rem7 (z := ((((z / 7) / 7) / 7) / 7)) (by omega)
  have dv5 := div7 (z := (((((z / 7) / 7) / 7) / 7) / 7)) (by omega)
  have rm5 := rem7 (z := (((((z / 7) / 7) / 7) / 7) / 7)) (by omega)
  have lm : (((((z / 7) / 7) / 7) / 7) / 7) % 7 = (((((z / 7) / 7) / 7) / 7) / 7) := by omega
  have l7 : (((((z / 7) / 7) / 7) / 7) / 7) < 7 := by omega
  obtain ⟨X0, tx0, bX0⟩ : ∃ X, (nI (z % 7) - 3).toInt64 = wL X ∧ bn 3 X := ⟨_, wL_i2l _, dig (by omega)⟩
  obtain ⟨X1, tx1, bX1⟩ : ∃ X, (nI ((z / 7) % 7) - 3).toInt64 = wL X ∧ bn 3 X := ⟨_, wL_i2l _, dig (by omega)⟩
  obtain ⟨X2, tx2, bX2⟩ : ∃ X, (nI (((z / 7) / 7) % 7) - 3).toInt64 = wL X ∧ bn 3 X := ⟨_, wL_i2l _, dig (by omega)⟩
  obtain ⟨X3, tx3, bX3⟩ : ∃ X, (nI ((((z / 7) / 7) / 7) % 7) - 3).toInt64 = wL X ∧ bn 3 X := ⟨_, wL_i2l _, dig (by omega)⟩
  obtain ⟨X4, tx4, bX4⟩ : ∃ X, (nI (((((z / 7) / 7) / 7) / 7) % 7) - 3).toInt64 = wL X ∧ bn 3 X := ⟨_, wL_i2l _, dig (by omega)⟩
  obtain ⟨X5, tx5, bX5⟩ : ∃ X, (nI ((((((z / 7) / 7) / 7) / 7) / 7)) - 3).toInt64 = wL X ∧ bn 3 X := ⟨_, wL_i2l _, dig (by omega)⟩
  have tD : (I (q + 4) 0).toInt64 = wL (I (q + 4) 0).toInt := wL_i2l _
  have tU : (I q 2).toInt64 = wL (I q 2).toInt := wL_i2l _
  simp [S70_0, S70_1, S70_2, S87_0, at_yesG hB' hM12 hj, Call_in (k2 := 87), BS, ixs, inbs, le_nlt, hB, e1, a1, hq0, kin, kf2, c8, cp7, c7, z0, z1]
  refine c_at8 hc hK (fun L1 f1 lk => ?_)
  have pl0 := fun k pc ls st Q => c_pl8 (n := n) (sl := sl) hc' hK' rr lk (show 0 < 8 by omega) k pc ls st Q
  simp only [show nI 0 = 0 from rfl] at pl0
  have pl1 := fun k pc ls st Q => c_pl8 (n := n) (sl := sl) hc' hK' rr lk (show 1 < 8 by omega) k pc ls st Q
  simp only [show nI 1 = 1 from rfl] at pl1
  have pl2 := fun k pc ls st Q => c_pl8 (n := n) (sl := sl) hc' hK' rr lk (show 2 < 8 by omega) k pc ls st Q
  simp only [show nI 2 = 2 from rfl] at pl2
  have pl3 := fun k pc ls st Q => c_pl8 (n := n) (sl := sl) hc' hK' rr lk (show 3 < 8 by omega) k pc ls st Q
  simp only [show nI 3 = 3 from rfl] at pl3
  have pl4 := fun k pc ls st Q => c_pl8 (n := n) (sl := sl) hc' hK' rr lk (show 4 < 8 by omega) k pc ls st Q
  simp only [show nI 4 = 4 from rfl] at pl4
  have cp0 := fun h k pc ls st Q => c_pow (I q 2) (show 0 < 1000 by omega) h k pc ls st Q
  simp only [show nI 0 = 0 from rfl] at cp0
  have cp1 := fun h k pc ls st Q => c_pow (I q 2) (show 1 < 1000 by omega) h k pc ls st Q
  simp only [show nI 1 = 1 from rfl] at cp1
  have cp2 := fun h k pc ls st Q => c_pow (I q 2) (show 2 < 1000 by omega) h k pc ls st Q
  simp only [show nI 2 = 2 from rfl] at cp2
  have cp3 := fun h k pc ls st Q => c_pow (I q 2) (show 3 < 1000 by omega) h k pc ls st Q
  simp only [show nI 3 = 3 from rfl] at cp3
  have cp4 := fun h k pc ls st Q => c_pow (I q 2) (show 4 < 1000 by omega) h k pc ls st Q
  simp only [show nI 4 = 4 from rfl] at cp4
  have cp5 := fun h k pc ls st Q => c_pow (I q 2) (show 5 < 1000 by omega) h k pc ls st Q
  simp only [show nI 5 = 5 from rfl] at cp5
  have mp0 := fun h k pc ls st Q => m_pow (I q 2) (show 0 < 1000 by omega) h k pc ls st Q
  simp only [show nI 0 = 0 from rfl] at mp0
  have mp1 := fun h k pc ls st Q => m_pow (I q 2) (show 1 < 1000 by omega) h k pc ls st Q
  simp only [show nI 1 = 1 from rfl] at mp1
  have mp2 := fun h k pc ls st Q => m_pow (I q 2) (show 2 < 1000 by omega) h k pc ls st Q
  simp only [show nI 2 = 2 from rfl] at mp2
  have mp3 := fun h k pc ls st Q => m_pow (I q 2) (show 3 < 1000 by omega) h k pc ls st Q
  simp only [show nI 3 = 3 from rfl] at mp3
  have mp4 := fun h k pc ls st Q => m_pow (I q 2) (show 4 < 1000 by omega) h k pc ls st Q
  simp only [show nI 4 = 4 from rfl] at mp4
  have mp5 := fun h k pc ls st Q => m_pow (I q 2) (show 5 < 1000 by omega) h k pc ls st Q
  simp only [show nI 5 = 5 from rfl] at mp5
  simp [S70_0, S70_1, S70_2, S32_0, S32_1, S32_2, S14_0, Call_in (k2 := 32), BS, ixs, inbs, le_nlt, hB, hKK, c8, c73, r1, rr, rq, r6, c4, kin, tD, tx0, tx1, tx2, tx3, tx4, tx5, wL_mul, wL_add, u2_rd, pl0, pl1, pl2, pl3, pl4, cp0, cp1, cp2, cp3, cp4, cp5, dv0, rm0, dv1, rm1, dv2, rm2, dv3, rm3, dv4, rm4, dv5, rm5]
  refine (c_put ?_ ?_ ?_ c73 _ _ _ _ _).mpr ?_
  · exact bn_le (bn_add (bn_add (bn_add (bn_add (bn_add (bn_mul (bn_mul (bn_pl bA bB bK 4) (upow hq.un (show 1 < 8 by omega)).1) bX0) (bn_mul (bn_mul (bn_pl bA bB bK 3) (upow hq.un (show 2 < 8 by omega)).1) bX1)) (bn_mul (bn_mul (bn_pl bA bB bK 2) (upow hq.un (show 3 < 8 by omega)).1) bX2)) (bn_mul (bn_mul (bn_pl bA bB bK 1) (upow hq.un (show 4 < 8 by omega)).1) bX3)) (bn_mul (bn_mul (bn_pl bA bB bK 0) (upow hq.un (show 5 < 8 by omega)).1) bX4)) (bn_mul (bn_mul bD (upow hq.un (show 5 < 8 by omega)).1) bX5)) (by decide)
  · exact bn_le (upow hq.un (show 5 < 8 by omega)).1 (by omega)
  · exact (upow hq.un (show 5 < 8 by omega)).2
  simp [S70_0, S70_1, S70_2, S32_0, S32_1, S32_2, S14_0, Call_in (k2 := 32), Call_in (k2 := 14), BS, ixs, inbs, le_nlt, hB, c8, c73, r1, u2_rd]
  simp [S137_0, S137_1, S137_2, S137_3, S137_4, S107_0, BS, ixs, inbs, le_nlt, hM, isy, e2, r74, kf3, j0, jx, z0, z2, mp7, lg_lt, a8, md, tU, tD, tx0, tx1, tx2, tx3, tx4, tx5, wL_mul, wL_add, mp0, mp1, mp2, mp3, mp4, mp5, dv0, rm0, dv1, rm1, dv2, rm2, dv3, rm3, dv4, rm4, dv5, rm5, lm]
  refine m_beat hr' (show 4 < 1000 by omega) (fun L2 g2 => ?_)
  simp [S137_0, S137_1, S137_2, S137_3, S137_4, S107_0, BS, ixs, inbs, le_nlt, hM, r74, a8, md, j0, jx, tU, tD, tx0, tx1, tx2, tx3, tx4, tx5, wL_mul, wL_add, mp0, mp1, mp2, mp3, mp4, mp5, dv0, rm0, dv1, rm1, dv2, rm2, dv3, rm3, dv4, rm4, dv5, rm5, lm]
  refine m_beat hr' (show 3 < 1000 by omega) (fun L3 g3 => ?_)
  simp [S137_0, S137_1, S137_2, S137_3, S137_4, S107_0, BS, ixs, inbs, le_nlt, hM, r74, a8, md, j0, jx, tU, tD, tx0, tx1, tx2, tx3, tx4, tx5, wL_mul, wL_add, mp0, mp1, mp2, mp3, mp4, mp5, dv0, rm0, dv1, rm1, dv2, rm2, dv3, rm3, dv4, rm4, dv5, rm5, lm]
  refine m_beat hr' (show 2 < 1000 by omega) (fun L4 g4 => ?_)
  simp [S137_0, S137_1, S137_2, S137_3, S137_4, S107_0, BS, ixs, inbs, le_nlt, hM, r74, a8, md, j0, jx, tU, tD, tx0, tx1, tx2, tx3, tx4, tx5, wL_mul, wL_add, mp0, mp1, mp2, mp3, mp4, mp5, dv0, rm0, dv1, rm1, dv2, rm2, dv3, rm3, dv4, rm4, dv5, rm5, lm]
  refine m_beat hr' (show 1 < 1000 by omega) (fun L5 g5 => ?_)
  simp [S137_0, S137_1, S137_2, S137_3, S137_4, S107_0, BS, ixs, inbs, le_nlt, hM, r74, a8, md, j0, jx, tU, tD, tx0, tx1, tx2, tx3, tx4, tx5, wL_mul, wL_add, mp0, mp1, mp2, mp3, mp4, mp5, dv0, rm0, dv1, rm1, dv2, rm2, dv3, rm3, dv4, rm4, dv5, rm5, lm]
  refine m_beat hr' (show 0 < 1000 by omega) (fun L6 g6 => ?_)
  simp [S137_0, S137_1, S137_2, S137_3, S137_4, S107_0, BS, ixs, inbs, le_nlt, hM, r74, a8, md, j0, jx, tU, tD, tx0, tx1, tx2, tx3, tx4, tx5, wL_mul, wL_add, mp0, mp1, mp2, mp3, mp4, mp5, dv0, rm0, dv1, rm1, dv2, rm2, dv3, rm3, dv4, rm4, dv5, rm5, lm]
  refine (m_low ?_ ?_ ?_ c74 _ _ _ _ _).mpr ?_
  · exact bn_le (bn_add (bn_add (bn_add (bn_add (bn_add (bn_mul (bn_pl bA bB bK 4) bX0) (bn_mul (bn_mul (bn_pl bA bB bK 3) bX1) (upow hq.un (show 1 < 8 by omega)).1)) (bn_mul (bn_mul (bn_pl bA bB bK 2) bX2) (upow hq.un (show 2 < 8 by omega)).1)) (bn_mul (bn_mul (bn_pl bA bB bK 1) bX3) (upow hq.un (show 3 < 8 by omega)).1)) (bn_mul (bn_mul (bn_pl bA bB bK 0) bX4) (upow hq.un (show 4 < 8 by omega)).1)) (bn_mul (bn_mul (upow hq.un (show 4 < 8 by omega)).1 bD) bX5)) (by decide)
  · exact bn_le (upow hq.un (show 4 < 8 by omega)).1 (by omega)
  · exact (upow hq.un (show 4 < 8 by omega)).2
  have sc := fn_scale (c := (I q 2).toInt) (by rcases hq.un with h | h | h <;> rw [h] <;> decide) (show (pl (fun i => (I (q + 1) i).toInt) (fun i => (I (q + 2) i).toInt) (fun i => (I (q + 3) i).toInt) 4) * (I q 2).toInt ^ 1 * X0 + (pl (fun i => (I (q + 1) i).toInt) (fun i => (I (q + 2) i).toInt) (fun i => (I (q + 3) i).toInt) 3) * (I q 2).toInt ^ 2 * X1 + (pl (fun i => (I (q + 1) i).toInt) (fun i => (I (q + 2) i).toInt) (fun i => (I (q + 3) i).toInt) 2) * (I q 2).toInt ^ 3 * X2 + (pl (fun i => (I (q + 1) i).toInt) (fun i => (I (q + 2) i).toInt) (fun i => (I (q + 3) i).toInt) 1) * (I q 2).toInt ^ 4 * X3 + (pl (fun i => (I (q + 1) i).toInt) (fun i => (I (q + 2) i).toInt) (fun i => (I (q + 3) i).toInt) 0) * (I q 2).toInt ^ 5 * X4 + (I (q + 4) 0).toInt * (I q 2).toInt ^ 5 * X5 = (I q 2).toInt * ((pl (fun i => (I (q + 1) i).toInt) (fun i => (I (q + 2) i).toInt) (fun i => (I (q + 3) i).toInt) 4) * X0 + (pl (fun i => (I (q + 1) i).toInt) (fun i => (I (q + 2) i).toInt) (fun i => (I (q + 3) i).toInt) 3) * X1 * (I q 2).toInt ^ 1 + (pl (fun i => (I (q + 1) i).toInt) (fun i => (I (q + 2) i).toInt) (fun i => (I (q + 3) i).toInt) 2) * X2 * (I q 2).toInt ^ 2 + (pl (fun i => (I (q + 1) i).toInt) (fun i => (I (q + 2) i).toInt) (fun i => (I (q + 3) i).toInt) 1) * X3 * (I q 2).toInt ^ 3 + (pl (fun i => (I (q + 1) i).toInt) (fun i => (I (q + 2) i).toInt) (fun i => (I (q + 3) i).toInt) 0) * X4 * (I q 2).toInt ^ 4 + (I q 2).toInt ^ 4 * (I (q + 4) 0).toInt * X5) from by grind) (show (I q 2).toInt ^ 5 = (I q 2).toInt * ((I q 2).toInt ^ 4) from by grind)
  simp [S137_0, S137_1, S137_2, S137_3, S137_4, S107_0, Call_in (k2 := 107), BS, ixs, inbs, le_nlt, hM, c74, r74, u2_rd]
  refine ⟨by rw [← sc.2], Inv_mk (h7.scr (fun i hi => by rw [u2_ne _ _ _ (by omega), u2_ne _ _ _ (by omega), g6 i (by omega) (by omega), g5 i (by omega) (by omega), g4 i (by omega) (by omega), g3 i (by omega) (by omega), g2 i (by omega) (by omega), u2_ne _ _ _ (by omega), u2_ne _ _ _ (by omega), f1 i (by omega)]) (fun _ _ => rfl) ⟨rfl, rfl, rfl⟩ (fun i k h1 _ => by rw [u2_rd, if_neg h1]))⟩

set_option maxRecDepth 100000 in
set_option maxHeartbeats 8000000 in
/-- run(machine, t, inputs, what) -/
theorem two_run (h : Hp) (hI : Inv h) (x y z wh : Int32) : Two 70 137 [some (.ref 1), some (.int x), some (.int y), some (.int z), some (.int wh), none] [some (.ref 74), some (.int x), some (.int y), some (.int z), some (.int wh), none, none, none, none, none, none, none] h := by
  obtain ⟨n, sl, C, Z, I, L, R⟩ := h
  obtain ⟨M, rn, t, h7⟩ := id hI
  obtain ⟨hM12, hn98, ⟨hB, hK, hO, hE, hM⟩, ⟨e1, e2⟩, hms, hss, hap, ⟨hrn, e3, e4, hrw⟩, ht, e5, e6, htr⟩ := id h7
  dsimp only at hM12 hn98 hB hK hO hE hM e1 e2 hms hss hap hrn e3 e4 hrw ht e5 e6 htr h7
  have hB' := hB
  have hM' := hM
  unfold LayB at hB
  unfold LayM at hM
  unfold Two
  rcases pk_ix x (n := M) (by omega) with hx | hx | ⟨j, hj, rfl⟩
  · have hm : x < 0 ∨ nI M ≤ x := Or.inl hx
    simp [S70_0, S70_1, S70_2, S87_0, S137_0, S137_1, S137_2, S137_3, S137_4, at_noG hB' hM12 hm, is_noG hM' hm, Call_in (k2 := 87), Call_in (k2 := 70), Call_in (k2 := 137), BS, ixs, inbs, le_nlt, hB, hM, hI, e1, e2]
  · have hm : x < 0 ∨ nI M ≤ x := Or.inr hx
    simp [S70_0, S70_1, S70_2, S87_0, S137_0, S137_1, S137_2, S137_3, S137_4, at_noG hB' hM12 hm, is_noG hM' hm, Call_in (k2 := 87), Call_in (k2 := 70), Call_in (k2 := 137), BS, ixs, inbs, le_nlt, hB, hM, hI, e1, e2]
  · obtain ⟨q, s, hq⟩ := hms j hj
    obtain ⟨a1, a2, -⟩ := id hq
    have hq0 : ¬ q = 0 := by omega
    have j0 : inb (nI j) 12 = true := by rw [inb_nI (by omega)]; simp; omega
    have jx := ix_nI (show j < 2 ^ 31 by omega)
    rcases nflow hq.2.2.2.1 with ⟨b1, b2⟩ | ⟨k1, k2, k3⟩
    · simp [S70_0, S70_1, S70_2, S87_0, S137_0, S137_1, S137_2, S137_3, S137_4, at_yesG hB' hM12 hj, is_yesG hM' hM12 hj, e1, e2, Call_in (k2 := 87), Call_in (k2 := 70), Call_in (k2 := 137), BS, ixs, inbs, le_nlt, hB, hM, hI, a1, hq0, b1, b2, inGs, isas, j0, jx]
    by_cases y0 : y < 0
    · simp [S70_0, S70_1, S70_2, S87_0, S137_0, S137_1, S137_2, S137_3, S137_4, at_yesG hB' hM12 hj, is_yesG hM' hM12 hj, e1, e2, Call_in (k2 := 87), Call_in (k2 := 70), Call_in (k2 := 137), BS, ixs, inbs, le_nlt, hB, hM, hI, a1, hq0, k1, k2, k3, j0, jx, y0]
    by_cases y5 : (5 : Int32) < y
    · simp [S70_0, S70_1, S70_2, S87_0, S137_0, S137_1, S137_2, S137_3, S137_4, at_yesG hB' hM12 hj, is_yesG hM' hM12 hj, e1, e2, Call_in (k2 := 87), Call_in (k2 := 70), Call_in (k2 := 137), BS, ixs, inbs, le_nlt, hB, hM, hI, a1, hq0, k1, k2, k3, j0, jx, y0, y5]
    by_cases w0 : wh < 0
    · simp [S70_0, S70_1, S70_2, S87_0, S137_0, S137_1, S137_2, S137_3, S137_4, at_yesG hB' hM12 hj, is_yesG hM' hM12 hj, e1, e2, Call_in (k2 := 87), Call_in (k2 := 70), Call_in (k2 := 137), BS, ixs, inbs, le_nlt, hB, hM, hI, a1, hq0, k1, k2, k3, j0, jx, y0, y5, w0]
    by_cases w1 : (1 : Int32) < wh
    · simp [S70_0, S70_1, S70_2, S87_0, S137_0, S137_1, S137_2, S137_3, S137_4, at_yesG hB' hM12 hj, is_yesG hM' hM12 hj, e1, e2, Call_in (k2 := 87), Call_in (k2 := 70), Call_in (k2 := 137), BS, ixs, inbs, le_nlt, hB, hM, hI, a1, hq0, k1, k2, k3, j0, jx, y0, y5, w0, w1]
    have hwh : wh = 0 ∨ wh = 1 := by
      rcases in4 wh with h | h | h | h | h | h
      · exact absurd h w0
      · exact absurd (Int32.lt_trans (by decide) h) w1
      · exact Or.inl h
      · exact Or.inr h
      · exact absurd (by rw [h]; decide) w1
      · exact absurd (by rw [h]; decide) w1
    obtain ⟨e, he, rfl⟩ : ∃ e, e ≤ 5 ∧ y = nI e := nI_of2 (M := 5) rfl y0 (by rw [← Int32.not_lt]; exact y5)
    clear y0 y5 w0 w1
    rcases (by omega : e = 0 ∨ e = 1 ∨ e = 2 ∨ e = 3 ∨ e = 4 ∨ e = 5) with rfl | rfl | rfl | rfl | rfl | rfl
    · have n0 : nI 0 = 0 := rfl
      rw [n0]
      have cp7 := fun h k pc ls st Q => c_pow 7 (show 1 < 1000 by omega) h k pc ls st Q
      have mp7 := fun h k pc ls st Q => m_pow 7 (show 1 < 1000 by omega) h k pc ls st Q
      simp only [show nI 1 = 1 from rfl, show wL ((7 : Int32).toInt ^ 1) = 7 from by decide +kernel, show wL (7 : Int32).toInt = 7 from by decide +kernel] at cp7 mp7
      have c7 : (7 : Int64).toInt32 = 7 := by decide +kernel
      by_cases z0 : z < 0
      · rcases hwh with rfl | rfl <;> simp [S70_0, S70_1, S70_2, S87_0, S137_0, S137_1, S137_2, S137_3, S137_4, at_yesG hB' hM12 hj, is_yesG hM' hM12 hj, e1, e2, Call_in (k2 := 87), Call_in (k2 := 70), Call_in (k2 := 137), BS, ixs, inbs, le_nlt, hB, hM, hI, a1, hq0, k1, k2, k3, j0, jx, cp7, c7, z0]
      obtain ⟨v, hv, rfl⟩ := nI_of z0
      by_cases hz : v < 7
      · rcases hwh with rfl | rfl
        · exact run_00 h7 hj hq ⟨k1, k2, k3⟩ hz
        · exact run_01 h7 hj hq ⟨k1, k2, k3⟩ hz
      have z1 : (6 : Int32) < nI v := nI_lt (a := 6) (by omega) (by omega)
      have z2 : ¬ (nI v).toInt64 < 7 := by rw [nI_l (by omega)]; exact fun h => absurd ((pk_lLT (b := 7) (by omega) (by omega)).mp h) (by omega)
      rcases hwh with rfl | rfl <;> simp [S70_0, S70_1, S70_2, S87_0, S137_0, S137_1, S137_2, S137_3, S137_4, at_yesG hB' hM12 hj, is_yesG hM' hM12 hj, e1, e2, Call_in (k2 := 87), Call_in (k2 := 70), Call_in (k2 := 137), BS, ixs, inbs, le_nlt, hB, hM, hI, a1, hq0, k1, k2, k3, j0, jx, cp7, mp7, c7, z0, z1, z2, lg_lt]
    · have n0 : nI 1 = 1 := rfl
      rw [n0]
      have cp7 := fun h k pc ls st Q => c_pow 7 (show 2 < 1000 by omega) h k pc ls st Q
      have mp7 := fun h k pc ls st Q => m_pow 7 (show 2 < 1000 by omega) h k pc ls st Q
      simp only [show nI 2 = 2 from rfl, show wL ((7 : Int32).toInt ^ 2) = 49 from by decide +kernel, show wL (7 : Int32).toInt = 7 from by decide +kernel] at cp7 mp7
      have c7 : (49 : Int64).toInt32 = 49 := by decide +kernel
      by_cases z0 : z < 0
      · rcases hwh with rfl | rfl <;> simp [S70_0, S70_1, S70_2, S87_0, S137_0, S137_1, S137_2, S137_3, S137_4, at_yesG hB' hM12 hj, is_yesG hM' hM12 hj, e1, e2, Call_in (k2 := 87), Call_in (k2 := 70), Call_in (k2 := 137), BS, ixs, inbs, le_nlt, hB, hM, hI, a1, hq0, k1, k2, k3, j0, jx, cp7, c7, z0]
      obtain ⟨v, hv, rfl⟩ := nI_of z0
      by_cases hz : v < 49
      · rcases hwh with rfl | rfl
        · exact run_10 h7 hj hq ⟨k1, k2, k3⟩ hz
        · exact run_11 h7 hj hq ⟨k1, k2, k3⟩ hz
      have z1 : (48 : Int32) < nI v := nI_lt (a := 48) (by omega) (by omega)
      have z2 : ¬ (nI v).toInt64 < 49 := by rw [nI_l (by omega)]; exact fun h => absurd ((pk_lLT (b := 49) (by omega) (by omega)).mp h) (by omega)
      rcases hwh with rfl | rfl <;> simp [S70_0, S70_1, S70_2, S87_0, S137_0, S137_1, S137_2, S137_3, S137_4, at_yesG hB' hM12 hj, is_yesG hM' hM12 hj, e1, e2, Call_in (k2 := 87), Call_in (k2 := 70), Call_in (k2 := 137), BS, ixs, inbs, le_nlt, hB, hM, hI, a1, hq0, k1, k2, k3, j0, jx, cp7, mp7, c7, z0, z1, z2, lg_lt]
    · have n0 : nI 2 = 2 := rfl
      rw [n0]
      have cp7 := fun h k pc ls st Q => c_pow 7 (show 3 < 1000 by omega) h k pc ls st Q
      have mp7 := fun h k pc ls st Q => m_pow 7 (show 3 < 1000 by omega) h k pc ls st Q
      simp only [show nI 3 = 3 from rfl, show wL ((7 : Int32).toInt ^ 3) = 343 from by decide +kernel, show wL (7 : Int32).toInt = 7 from by decide +kernel] at cp7 mp7
      have c7 : (343 : Int64).toInt32 = 343 := by decide +kernel
      by_cases z0 : z < 0
      · rcases hwh with rfl | rfl <;> simp [S70_0, S70_1, S70_2, S87_0, S137_0, S137_1, S137_2, S137_3, S137_4, at_yesG hB' hM12 hj, is_yesG hM' hM12 hj, e1, e2, Call_in (k2 := 87), Call_in (k2 := 70), Call_in (k2 := 137), BS, ixs, inbs, le_nlt, hB, hM, hI, a1, hq0, k1, k2, k3, j0, jx, cp7, c7, z0]
      obtain ⟨v, hv, rfl⟩ := nI_of z0
      by_cases hz : v < 343
      · rcases hwh with rfl | rfl
        · exact run_20 h7 hj hq ⟨k1, k2, k3⟩ hz
        · exact run_21 h7 hj hq ⟨k1, k2, k3⟩ hz
      have z1 : (342 : Int32) < nI v := nI_lt (a := 342) (by omega) (by omega)
      have z2 : ¬ (nI v).toInt64 < 343 := by rw [nI_l (by omega)]; exact fun h => absurd ((pk_lLT (b := 343) (by omega) (by omega)).mp h) (by omega)
      rcases hwh with rfl | rfl <;> simp [S70_0, S70_1, S70_2, S87_0, S137_0, S137_1, S137_2, S137_3, S137_4, at_yesG hB' hM12 hj, is_yesG hM' hM12 hj, e1, e2, Call_in (k2 := 87), Call_in (k2 := 70), Call_in (k2 := 137), BS, ixs, inbs, le_nlt, hB, hM, hI, a1, hq0, k1, k2, k3, j0, jx, cp7, mp7, c7, z0, z1, z2, lg_lt]
    · have n0 : nI 3 = 3 := rfl
      rw [n0]
      have cp7 := fun h k pc ls st Q => c_pow 7 (show 4 < 1000 by omega) h k pc ls st Q
      have mp7 := fun h k pc ls st Q => m_pow 7 (show 4 < 1000 by omega) h k pc ls st Q
      simp only [show nI 4 = 4 from rfl, show wL ((7 : Int32).toInt ^ 4) = 2401 from by decide +kernel, show wL (7 : Int32).toInt = 7 from by decide +kernel] at cp7 mp7
      have c7 : (2401 : Int64).toInt32 = 2401 := by decide +kernel
      by_cases z0 : z < 0
      · rcases hwh with rfl | rfl <;> simp [S70_0, S70_1, S70_2, S87_0, S137_0, S137_1, S137_2, S137_3, S137_4, at_yesG hB' hM12 hj, is_yesG hM' hM12 hj, e1, e2, Call_in (k2 := 87), Call_in (k2 := 70), Call_in (k2 := 137), BS, ixs, inbs, le_nlt, hB, hM, hI, a1, hq0, k1, k2, k3, j0, jx, cp7, c7, z0]
      obtain ⟨v, hv, rfl⟩ := nI_of z0
      by_cases hz : v < 2401
      · rcases hwh with rfl | rfl
        · exact run_30 h7 hj hq ⟨k1, k2, k3⟩ hz
        · exact run_31 h7 hj hq ⟨k1, k2, k3⟩ hz
      have z1 : (2400 : Int32) < nI v := nI_lt (a := 2400) (by omega) (by omega)
      have z2 : ¬ (nI v).toInt64 < 2401 := by rw [nI_l (by omega)]; exact fun h => absurd ((pk_lLT (b := 2401) (by omega) (by omega)).mp h) (by omega)
      rcases hwh with rfl | rfl <;> simp [S70_0, S70_1, S70_2, S87_0, S137_0, S137_1, S137_2, S137_3, S137_4, at_yesG hB' hM12 hj, is_yesG hM' hM12 hj, e1, e2, Call_in (k2 := 87), Call_in (k2 := 70), Call_in (k2 := 137), BS, ixs, inbs, le_nlt, hB, hM, hI, a1, hq0, k1, k2, k3, j0, jx, cp7, mp7, c7, z0, z1, z2, lg_lt]
    · have n0 : nI 4 = 4 := rfl
      rw [n0]
      have cp7 := fun h k pc ls st Q => c_pow 7 (show 5 < 1000 by omega) h k pc ls st Q
      have mp7 := fun h k pc ls st Q => m_pow 7 (show 5 < 1000 by omega) h k pc ls st Q
      simp only [show nI 5 = 5 from rfl, show wL ((7 : Int32).toInt ^ 5) = 16807 from by decide +kernel, show wL (7 : Int32).toInt = 7 from by decide +kernel] at cp7 mp7
      have c7 : (16807 : Int64).toInt32 = 16807 := by decide +kernel
      by_cases z0 : z < 0
      · rcases hwh with rfl | rfl <;> simp [S70_0, S70_1, S70_2, S87_0, S137_0, S137_1, S137_2, S137_3, S137_4, at_yesG hB' hM12 hj, is_yesG hM' hM12 hj, e1, e2, Call_in (k2 := 87), Call_in (k2 := 70), Call_in (k2 := 137), BS, ixs, inbs, le_nlt, hB, hM, hI, a1, hq0, k1, k2, k3, j0, jx, cp7, c7, z0]
      obtain ⟨v, hv, rfl⟩ := nI_of z0
      by_cases hz : v < 16807
      · rcases hwh with rfl | rfl
        · exact run_40 h7 hj hq ⟨k1, k2, k3⟩ hz
        · exact run_41 h7 hj hq ⟨k1, k2, k3⟩ hz
      have z1 : (16806 : Int32) < nI v := nI_lt (a := 16806) (by omega) (by omega)
      have z2 : ¬ (nI v).toInt64 < 16807 := by rw [nI_l (by omega)]; exact fun h => absurd ((pk_lLT (b := 16807) (by omega) (by omega)).mp h) (by omega)
      rcases hwh with rfl | rfl <;> simp [S70_0, S70_1, S70_2, S87_0, S137_0, S137_1, S137_2, S137_3, S137_4, at_yesG hB' hM12 hj, is_yesG hM' hM12 hj, e1, e2, Call_in (k2 := 87), Call_in (k2 := 70), Call_in (k2 := 137), BS, ixs, inbs, le_nlt, hB, hM, hI, a1, hq0, k1, k2, k3, j0, jx, cp7, mp7, c7, z0, z1, z2, lg_lt]
    · have n0 : nI 5 = 5 := rfl
      rw [n0]
      have cp7 := fun h k pc ls st Q => c_pow 7 (show 6 < 1000 by omega) h k pc ls st Q
      have mp7 := fun h k pc ls st Q => m_pow 7 (show 6 < 1000 by omega) h k pc ls st Q
      simp only [show nI 6 = 6 from rfl, show wL ((7 : Int32).toInt ^ 6) = 117649 from by decide +kernel, show wL (7 : Int32).toInt = 7 from by decide +kernel] at cp7 mp7
      have c7 : (117649 : Int64).toInt32 = 117649 := by decide +kernel
      by_cases z0 : z < 0
      · rcases hwh with rfl | rfl <;> simp [S70_0, S70_1, S70_2, S87_0, S137_0, S137_1, S137_2, S137_3, S137_4, at_yesG hB' hM12 hj, is_yesG hM' hM12 hj, e1, e2, Call_in (k2 := 87), Call_in (k2 := 70), Call_in (k2 := 137), BS, ixs, inbs, le_nlt, hB, hM, hI, a1, hq0, k1, k2, k3, j0, jx, cp7, c7, z0]
      obtain ⟨v, hv, rfl⟩ := nI_of z0
      by_cases hz : v < 117649
      · rcases hwh with rfl | rfl
        · exact run_50 h7 hj hq ⟨k1, k2, k3⟩ hz
        · exact run_51 h7 hj hq ⟨k1, k2, k3⟩ hz
      have z1 : (117648 : Int32) < nI v := nI_lt (a := 117648) (by omega) (by omega)
      have z2 : ¬ (nI v).toInt64 < 117649 := by rw [nI_l (by omega)]; exact fun h => absurd ((pk_lLT (b := 117649) (by omega) (by omega)).mp h) (by omega)
      rcases hwh with rfl | rfl <;> simp [S70_0, S70_1, S70_2, S87_0, S137_0, S137_1, S137_2, S137_3, S137_4, at_yesG hB' hM12 hj, is_yesG hM' hM12 hj, e1, e2, Call_in (k2 := 87), Call_in (k2 := 70), Call_in (k2 := 137), BS, ixs, inbs, le_nlt, hB, hM, hI, a1, hq0, k1, k2, k3, j0, jx, cp7, mp7, c7, z0, z1, z2, lg_lt]

