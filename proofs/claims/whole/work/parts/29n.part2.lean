set_option maxRecDepth 100000 in
set_option maxHeartbeats 8000000 in
theorem two_part0_0 {n sl : Nat} {C Z : Nat → Nat} {I : Nat → Nat → Int32} {L : Nat → Nat → Int64} {R : Nat → Nat → Nat} {M rn t j q : Nat} (h7 : Inv7 n C Z I L R M rn t) (hMl : M < 12) (hj : j < M) (hq : MOK n C Z I R j q 0) (kf : inG 7 (C q) = true ∧ isa (C q) 1 = false ∧ ¬ I 75 j = 1) : Two 64 120 [some (.ref 1), some (.int (nI j)), some (.int 0), none, none, none, none] [some (.ref 74), some (.int (nI j)), some (.int 0), none, none, none, none] (n, sl, C, Z, I, L, R) := by
  obtain ⟨hM12, hn98, ⟨hB, hK, hO, hE, hM⟩, ⟨e1, e2⟩, hms, hss, hap, ⟨hrn, e3, e4, hrw⟩, ht, e5, e6, htr⟩ := id h7
  obtain ⟨a1, a2, a3, a4, ⟨a5, hs3, a6, a7⟩, ⟨a8, a9⟩, ⟨r3, r4, r5, r6⟩, ⟨c1, c2, c3, c4, z1, z2, z3, z4⟩, ma, mbb, mcc, ⟨md, mdb⟩, za, zb⟩ := id hq
  obtain ⟨f1, f2, f3⟩ := kf
  have hB' := hB
  unfold LayB at hB
  unfold Two
  have n0 : nI 0 = 0 := rfl
  have n2 : nI 0 = 0 := rfl
  obtain ⟨m, rfl⟩ : ∃ m, n = m + 98 := ⟨n - 98, by omega⟩
  have hq0 : ¬ q = 0 := by omega
  have p2 : ¬ (12 : Int32) ≤ nI M := nI_ge (b := 12) (by omega) (by omega)
  have p1 : nI M < 12 := nI_lt (b := 12) (by omega) (by omega)
  have p3 : inb (nI M) 12 = true := by rw [inb_nI (by omega)]; simp; omega
  have p4 := ix_nI (show M < 2 ^ 31 by omega)
  have p5 : nI M + 1 = nI (M + 1) := nI_1 M
  have qn : ∀ c, 95 ≤ c → ¬ q = m + c := fun c h => by omega
  have b12 : ∀ (k v : Int32), bnd (mb k) v → bnd 12 v := fun k v hv => by unfold bnd mb at *; split at hv <;> omega
  have fA : ∀ i, i < 9 → fit (I (q + 1) i) := fun i hi => bnd_fit (b12 _ _ (ma i hi).2)
  have fB : ∀ i, i < 3 → fit (I (q + 2) i) := fun i hi => bnd_fit (b12 _ _ (mbb i hi).2)
  have fK : ∀ i, i < 3 → fit (I (q + 3) i) := fun i hi => bnd_fit (b12 _ _ (mcc i hi).2)
  have fD : fit (I (q + 4) 0) := bnd_fit (b12 _ _ mdb)
  simp [S64_0, S64_1, S64_2, S64_3, S87_0, S91_0, S45_0, S37_0, S51_0, S51_1, S100_0, S100_1, S100_2, S95_0, Call_in (k2 := 87), Call_in (k2 := 91), Call_in (k2 := 45), Call_in (k2 := 37), Call_in (k2 := 51), Call_in (k2 := 100), Call_in (k2 := 95), c_bc0, c_bc1, c_bc2, c_bc3, c_bc4, c_bc5, c_bc6, c_bc7, BS, ixs, inbs, le_nlt, hB, at_yesG hB' hM12 hj, e1, a1, hq0, f1, f2, r3, r4, r5, r6, c1, c2, c3, c4, z1, z2, z3, z4, a6, n0, p1, p2, p3, p4, p5, nI_pred, shr8, shl4, va_up_rd, u2_rd, qn, Nat.add_assoc, inGs, okS]
  refine part_fin (n := m + 98) (sl := sl) (sl' := sl + 23) (s := 0) (u := I q 2) h7 hMl (by omega) (by rw [a8]; exact a9) (by omega) (fun i hi => ?_) (fun i hi => ?_) (fun i hi => ?_) (fun i hi => ?_) (fun i hi => ?_) ?_ ?_ ?_ ?_ (fun i k hi hk hz => ?_) (fun i hi hz => ?_) (fun p hp => ?_) (fun p hp => ?_) (fun p hp => ?_) ?_ ?_ (fun I3 L3 R3 Q lm i3' go => ?_)
  · repeat (first | rw [va_up_no _ _ (by omega)] | rw [u2_ne _ _ _ (by omega)])
  · repeat (first | rw [va_up_no _ _ (by omega)] | rw [u2_ne _ _ _ (by omega)])
  · repeat (first | rw [va_up_no _ _ (by omega)] | rw [u2_ne _ _ _ (by omega)])
  · repeat (first | rw [va_up_no _ _ (by omega)] | rw [u2_ne _ _ _ (by omega)])
  · repeat (first | rw [va_up_no _ _ (by omega)] | rw [u2_ne _ _ _ (by omega)])
  · simp [va_up_rd]
  · simp [va_up_rd, u2_rd]
  · simp [va_up_rd]
  · simp [va_up_rd, u2_rd, n2]
  · rcases i3 hi with rfl | rfl | rfl <;> rcases i3 hk with rfl | rfl | rfl <;> first | (exact absurd hz (by omega)) | simp [va_up_rd, u2_rd]
  · rcases i3 hi with rfl | rfl | rfl <;> first | (exact absurd hz (by omega)) | simp [va_up_rd, u2_rd]
  · rcases i9 hp with rfl | rfl | rfl | rfl | rfl | rfl | rfl | rfl | rfl <;> simp [va_up_rd, u2_rd, fit_0, fA, fB, fK, fD]
  · rcases i3 hp with rfl | rfl | rfl <;> simp [va_up_rd, u2_rd, fit_0, fA, fB, fK, fD]
  · rcases i3 hp with rfl | rfl | rfl <;> simp [va_up_rd, u2_rd, fit_0, fA, fB, fK, fD]
  · simp [va_up_rd, u2_rd, fit_0, fA, fB, fK, fD]
  · intro h0; exact absurd h0 (by decide)
  · have w74 := i3' 74 (by omega) (by omega)
    have w75 := i3' 75 (by omega) (by omega)
    have w76 := i3' 76 (by omega) (by omega)
    have w77 := i3' 77 (by omega) (by omega)
    have w78 := i3' 78 (by omega) (by omega)
    have w79 := i3' 79 (by omega) (by omega)
    have w80 := i3' 80 (by omega) (by omega)
    have w81 := i3' 81 (by omega) (by omega)
    have Af : ∀ i, i < 9 → I 79 (9 * j + i) = I (q + 1) i := fun i hi => (ma i hi).1
    have Af0 : I 79 (9 * j) = I (q + 1) 0 := Af 0 (by omega)
    have Bf : ∀ i, i < 3 → I 80 (3 * j + i) = I (q + 2) i := fun i hi => (mbb i hi).1
    have Bf0 : I 80 (3 * j) = I (q + 2) 0 := Bf 0 (by omega)
    have Kf : ∀ i, i < 3 → I 81 (3 * j + i) = I (q + 3) i := fun i hi => (mcc i hi).1
    have Kf0 : I 81 (3 * j) = I (q + 3) 0 := Kf 0 (by omega)
    refine m_part0_0 (I := I3) lm hM12 hj (by rw [w74]; exact e2) (by rw [w75]; exact f3) (by rw [w76]; exact a7) (fun I4 ls g1 g2 => ?_)
    have go2 := go I4 120 185 ls Q (fun v h => by simp [S120_0, S120_1, S120_2, S120_3, S120_4]) g1 (fun i k hi hk => ?_) (fun i hi => ?_)
    · simpa [va_up_rd, u2_rd, w77, w78, md, a8] using go2
    · first | (exact absurd hi (by omega)) | (rcases i3 (show i < 3 by omega) with rfl | rfl | rfl <;> rcases i3 (show k < 3 by omega) with rfl | rfl | rfl <;> first | (exact absurd hi (by omega)) | (exact absurd hk (by omega)) | simp [va_up_rd, u2_rd, g2, w79, Af, Af0])
    · first | (exact absurd hi (by omega)) | (rcases i3 (show i < 3 by omega) with rfl | rfl | rfl <;> first | (exact absurd hi (by omega)) | simp [va_up_rd, u2_rd, g2, w80, w81, Bf, Bf0, Kf, Kf0])

set_option maxRecDepth 100000 in
set_option maxHeartbeats 8000000 in
theorem two_part1_0 {n sl : Nat} {C Z : Nat → Nat} {I : Nat → Nat → Int32} {L : Nat → Nat → Int64} {R : Nat → Nat → Nat} {M rn t j q : Nat} (h7 : Inv7 n C Z I L R M rn t) (hMl : M < 12) (hj : j < M) (hq : MOK n C Z I R j q 1) (kf : inG 7 (C q) = true ∧ isa (C q) 1 = false ∧ ¬ I 75 j = 1) : Two 64 120 [some (.ref 1), some (.int (nI j)), some (.int 0), none, none, none, none] [some (.ref 74), some (.int (nI j)), some (.int 0), none, none, none, none] (n, sl, C, Z, I, L, R) := by
  obtain ⟨hM12, hn98, ⟨hB, hK, hO, hE, hM⟩, ⟨e1, e2⟩, hms, hss, hap, ⟨hrn, e3, e4, hrw⟩, ht, e5, e6, htr⟩ := id h7
  obtain ⟨a1, a2, a3, a4, ⟨a5, hs3, a6, a7⟩, ⟨a8, a9⟩, ⟨r3, r4, r5, r6⟩, ⟨c1, c2, c3, c4, z1, z2, z3, z4⟩, ma, mbb, mcc, ⟨md, mdb⟩, za, zb⟩ := id hq
  obtain ⟨f1, f2, f3⟩ := kf
  have hB' := hB
  unfold LayB at hB
  unfold Two
  have n0 : nI 1 = 1 := rfl
  have n2 : nI 0 = 0 := rfl
  obtain ⟨m, rfl⟩ : ∃ m, n = m + 98 := ⟨n - 98, by omega⟩
  have hq0 : ¬ q = 0 := by omega
  have p2 : ¬ (12 : Int32) ≤ nI M := nI_ge (b := 12) (by omega) (by omega)
  have p1 : nI M < 12 := nI_lt (b := 12) (by omega) (by omega)
  have p3 : inb (nI M) 12 = true := by rw [inb_nI (by omega)]; simp; omega
  have p4 := ix_nI (show M < 2 ^ 31 by omega)
  have p5 : nI M + 1 = nI (M + 1) := nI_1 M
  have qn : ∀ c, 95 ≤ c → ¬ q = m + c := fun c h => by omega
  have b12 : ∀ (k v : Int32), bnd (mb k) v → bnd 12 v := fun k v hv => by unfold bnd mb at *; split at hv <;> omega
  have fA : ∀ i, i < 9 → fit (I (q + 1) i) := fun i hi => bnd_fit (b12 _ _ (ma i hi).2)
  have fB : ∀ i, i < 3 → fit (I (q + 2) i) := fun i hi => bnd_fit (b12 _ _ (mbb i hi).2)
  have fK : ∀ i, i < 3 → fit (I (q + 3) i) := fun i hi => bnd_fit (b12 _ _ (mcc i hi).2)
  have fD : fit (I (q + 4) 0) := bnd_fit (b12 _ _ mdb)
  simp [S64_0, S64_1, S64_2, S64_3, S87_0, S91_0, S45_0, S37_0, S51_0, S51_1, S100_0, S100_1, S100_2, S95_0, Call_in (k2 := 87), Call_in (k2 := 91), Call_in (k2 := 45), Call_in (k2 := 37), Call_in (k2 := 51), Call_in (k2 := 100), Call_in (k2 := 95), c_bc0, c_bc1, c_bc2, c_bc3, c_bc4, c_bc5, c_bc6, c_bc7, BS, ixs, inbs, le_nlt, hB, at_yesG hB' hM12 hj, e1, a1, hq0, f1, f2, r3, r4, r5, r6, c1, c2, c3, c4, z1, z2, z3, z4, a6, n0, p1, p2, p3, p4, p5, nI_pred, shr8, shl4, va_up_rd, u2_rd, qn, Nat.add_assoc, inGs, okS]
  refine part_fin (n := m + 98) (sl := sl) (sl' := sl + 23) (s := 0) (u := I q 2) h7 hMl (by omega) (by rw [a8]; exact a9) (by omega) (fun i hi => ?_) (fun i hi => ?_) (fun i hi => ?_) (fun i hi => ?_) (fun i hi => ?_) ?_ ?_ ?_ ?_ (fun i k hi hk hz => ?_) (fun i hi hz => ?_) (fun p hp => ?_) (fun p hp => ?_) (fun p hp => ?_) ?_ ?_ (fun I3 L3 R3 Q lm i3' go => ?_)
  · repeat (first | rw [va_up_no _ _ (by omega)] | rw [u2_ne _ _ _ (by omega)])
  · repeat (first | rw [va_up_no _ _ (by omega)] | rw [u2_ne _ _ _ (by omega)])
  · repeat (first | rw [va_up_no _ _ (by omega)] | rw [u2_ne _ _ _ (by omega)])
  · repeat (first | rw [va_up_no _ _ (by omega)] | rw [u2_ne _ _ _ (by omega)])
  · repeat (first | rw [va_up_no _ _ (by omega)] | rw [u2_ne _ _ _ (by omega)])
  · simp [va_up_rd]
  · simp [va_up_rd, u2_rd]
  · simp [va_up_rd]
  · simp [va_up_rd, u2_rd, n2]
  · rcases i3 hi with rfl | rfl | rfl <;> rcases i3 hk with rfl | rfl | rfl <;> first | (exact absurd hz (by omega)) | simp [va_up_rd, u2_rd]
  · rcases i3 hi with rfl | rfl | rfl <;> first | (exact absurd hz (by omega)) | simp [va_up_rd, u2_rd]
  · rcases i9 hp with rfl | rfl | rfl | rfl | rfl | rfl | rfl | rfl | rfl <;> simp [va_up_rd, u2_rd, fit_0, fA, fB, fK, fD]
  · rcases i3 hp with rfl | rfl | rfl <;> simp [va_up_rd, u2_rd, fit_0, fA, fB, fK, fD]
  · rcases i3 hp with rfl | rfl | rfl <;> simp [va_up_rd, u2_rd, fit_0, fA, fB, fK, fD]
  · simp [va_up_rd, u2_rd, fit_0, fA, fB, fK, fD]
  · intro h0; exact absurd h0 (by decide)
  · have w74 := i3' 74 (by omega) (by omega)
    have w75 := i3' 75 (by omega) (by omega)
    have w76 := i3' 76 (by omega) (by omega)
    have w77 := i3' 77 (by omega) (by omega)
    have w78 := i3' 78 (by omega) (by omega)
    have w79 := i3' 79 (by omega) (by omega)
    have w80 := i3' 80 (by omega) (by omega)
    have w81 := i3' 81 (by omega) (by omega)
    have Af : ∀ i, i < 9 → I 79 (9 * j + i) = I (q + 1) i := fun i hi => (ma i hi).1
    have Af0 : I 79 (9 * j) = I (q + 1) 0 := Af 0 (by omega)
    have Bf : ∀ i, i < 3 → I 80 (3 * j + i) = I (q + 2) i := fun i hi => (mbb i hi).1
    have Bf0 : I 80 (3 * j) = I (q + 2) 0 := Bf 0 (by omega)
    have Kf : ∀ i, i < 3 → I 81 (3 * j + i) = I (q + 3) i := fun i hi => (mcc i hi).1
    have Kf0 : I 81 (3 * j) = I (q + 3) 0 := Kf 0 (by omega)
    refine m_part1_0 (I := I3) lm hM12 hj (by rw [w74]; exact e2) (by rw [w75]; exact f3) (by rw [w76]; exact a7) (fun I4 ls g1 g2 => ?_)
    have go2 := go I4 120 185 ls Q (fun v h => by simp [S120_0, S120_1, S120_2, S120_3, S120_4]) g1 (fun i k hi hk => ?_) (fun i hi => ?_)
    · simpa [va_up_rd, u2_rd, w77, w78, md, a8] using go2
    · first | (exact absurd hi (by omega)) | (rcases i3 (show i < 3 by omega) with rfl | rfl | rfl <;> rcases i3 (show k < 3 by omega) with rfl | rfl | rfl <;> first | (exact absurd hi (by omega)) | (exact absurd hk (by omega)) | simp [va_up_rd, u2_rd, g2, w79, Af, Af0])
    · first | (exact absurd hi (by omega)) | (rcases i3 (show i < 3 by omega) with rfl | rfl | rfl <;> first | (exact absurd hi (by omega)) | simp [va_up_rd, u2_rd, g2, w80, w81, Bf, Bf0, Kf, Kf0])

set_option maxRecDepth 100000 in
set_option maxHeartbeats 8000000 in
theorem two_part1_1 {n sl : Nat} {C Z : Nat → Nat} {I : Nat → Nat → Int32} {L : Nat → Nat → Int64} {R : Nat → Nat → Nat} {M rn t j q : Nat} (h7 : Inv7 n C Z I L R M rn t) (hMl : M < 12) (hj : j < M) (hq : MOK n C Z I R j q 1) (kf : inG 7 (C q) = true ∧ isa (C q) 1 = false ∧ ¬ I 75 j = 1) : Two 64 120 [some (.ref 1), some (.int (nI j)), some (.int 1), none, none, none, none] [some (.ref 74), some (.int (nI j)), some (.int 1), none, none, none, none] (n, sl, C, Z, I, L, R) := by
  obtain ⟨hM12, hn98, ⟨hB, hK, hO, hE, hM⟩, ⟨e1, e2⟩, hms, hss, hap, ⟨hrn, e3, e4, hrw⟩, ht, e5, e6, htr⟩ := id h7
  obtain ⟨a1, a2, a3, a4, ⟨a5, hs3, a6, a7⟩, ⟨a8, a9⟩, ⟨r3, r4, r5, r6⟩, ⟨c1, c2, c3, c4, z1, z2, z3, z4⟩, ma, mbb, mcc, ⟨md, mdb⟩, za, zb⟩ := id hq
  obtain ⟨f1, f2, f3⟩ := kf
  have hB' := hB
  unfold LayB at hB
  unfold Two
  have n0 : nI 1 = 1 := rfl
  have n2 : nI 1 = 1 := rfl
  obtain ⟨m, rfl⟩ : ∃ m, n = m + 98 := ⟨n - 98, by omega⟩
  have hq0 : ¬ q = 0 := by omega
  have p2 : ¬ (12 : Int32) ≤ nI M := nI_ge (b := 12) (by omega) (by omega)
  have p1 : nI M < 12 := nI_lt (b := 12) (by omega) (by omega)
  have p3 : inb (nI M) 12 = true := by rw [inb_nI (by omega)]; simp; omega
  have p4 := ix_nI (show M < 2 ^ 31 by omega)
  have p5 : nI M + 1 = nI (M + 1) := nI_1 M
  have qn : ∀ c, 95 ≤ c → ¬ q = m + c := fun c h => by omega
  have b12 : ∀ (k v : Int32), bnd (mb k) v → bnd 12 v := fun k v hv => by unfold bnd mb at *; split at hv <;> omega
  have fA : ∀ i, i < 9 → fit (I (q + 1) i) := fun i hi => bnd_fit (b12 _ _ (ma i hi).2)
  have fB : ∀ i, i < 3 → fit (I (q + 2) i) := fun i hi => bnd_fit (b12 _ _ (mbb i hi).2)
  have fK : ∀ i, i < 3 → fit (I (q + 3) i) := fun i hi => bnd_fit (b12 _ _ (mcc i hi).2)
  have fD : fit (I (q + 4) 0) := bnd_fit (b12 _ _ mdb)
  simp [S64_0, S64_1, S64_2, S64_3, S87_0, S91_0, S45_0, S37_0, S51_0, S51_1, S100_0, S100_1, S100_2, S95_0, Call_in (k2 := 87), Call_in (k2 := 91), Call_in (k2 := 45), Call_in (k2 := 37), Call_in (k2 := 51), Call_in (k2 := 100), Call_in (k2 := 95), c_bc0, c_bc1, c_bc2, c_bc3, c_bc4, c_bc5, c_bc6, c_bc7, BS, ixs, inbs, le_nlt, hB, at_yesG hB' hM12 hj, e1, a1, hq0, f1, f2, r3, r4, r5, r6, c1, c2, c3, c4, z1, z2, z3, z4, a6, n0, p1, p2, p3, p4, p5, nI_pred, shr8, shl4, va_up_rd, u2_rd, qn, Nat.add_assoc, inGs, okS]
  refine part_fin (n := m + 98) (sl := sl) (sl' := sl + 23) (s := 1) (u := I q 2) h7 hMl (by omega) (by rw [a8]; exact a9) (by omega) (fun i hi => ?_) (fun i hi => ?_) (fun i hi => ?_) (fun i hi => ?_) (fun i hi => ?_) ?_ ?_ ?_ ?_ (fun i k hi hk hz => ?_) (fun i hi hz => ?_) (fun p hp => ?_) (fun p hp => ?_) (fun p hp => ?_) ?_ ?_ (fun I3 L3 R3 Q lm i3' go => ?_)
  · repeat (first | rw [va_up_no _ _ (by omega)] | rw [u2_ne _ _ _ (by omega)])
  · repeat (first | rw [va_up_no _ _ (by omega)] | rw [u2_ne _ _ _ (by omega)])
  · repeat (first | rw [va_up_no _ _ (by omega)] | rw [u2_ne _ _ _ (by omega)])
  · repeat (first | rw [va_up_no _ _ (by omega)] | rw [u2_ne _ _ _ (by omega)])
  · repeat (first | rw [va_up_no _ _ (by omega)] | rw [u2_ne _ _ _ (by omega)])
  · simp [va_up_rd]
  · simp [va_up_rd, u2_rd]
  · simp [va_up_rd]
  · simp [va_up_rd, u2_rd, n2]
  · rcases i3 hi with rfl | rfl | rfl <;> rcases i3 hk with rfl | rfl | rfl <;> first | (exact absurd hz (by omega)) | simp [va_up_rd, u2_rd]
  · rcases i3 hi with rfl | rfl | rfl <;> first | (exact absurd hz (by omega)) | simp [va_up_rd, u2_rd]
  · rcases i9 hp with rfl | rfl | rfl | rfl | rfl | rfl | rfl | rfl | rfl <;> simp [va_up_rd, u2_rd, fit_0, fA, fB, fK, fD]
  · rcases i3 hp with rfl | rfl | rfl <;> simp [va_up_rd, u2_rd, fit_0, fA, fB, fK, fD]
  · rcases i3 hp with rfl | rfl | rfl <;> simp [va_up_rd, u2_rd, fit_0, fA, fB, fK, fD]
  · simp [va_up_rd, u2_rd, fit_0, fA, fB, fK, fD]
  · intro h0; exact absurd h0 (by decide)
  · have w74 := i3' 74 (by omega) (by omega)
    have w75 := i3' 75 (by omega) (by omega)
    have w76 := i3' 76 (by omega) (by omega)
    have w77 := i3' 77 (by omega) (by omega)
    have w78 := i3' 78 (by omega) (by omega)
    have w79 := i3' 79 (by omega) (by omega)
    have w80 := i3' 80 (by omega) (by omega)
    have w81 := i3' 81 (by omega) (by omega)
    have Af : ∀ i, i < 9 → I 79 (9 * j + i) = I (q + 1) i := fun i hi => (ma i hi).1
    have Af0 : I 79 (9 * j) = I (q + 1) 0 := Af 0 (by omega)
    have Bf : ∀ i, i < 3 → I 80 (3 * j + i) = I (q + 2) i := fun i hi => (mbb i hi).1
    have Bf0 : I 80 (3 * j) = I (q + 2) 0 := Bf 0 (by omega)
    have Kf : ∀ i, i < 3 → I 81 (3 * j + i) = I (q + 3) i := fun i hi => (mcc i hi).1
    have Kf0 : I 81 (3 * j) = I (q + 3) 0 := Kf 0 (by omega)
    refine m_part1_1 (I := I3) lm hM12 hj (by rw [w74]; exact e2) (by rw [w75]; exact f3) (by rw [w76]; exact a7) (fun I4 ls g1 g2 => ?_)
    have go2 := go I4 120 185 ls Q (fun v h => by simp [S120_0, S120_1, S120_2, S120_3, S120_4]) g1 (fun i k hi hk => ?_) (fun i hi => ?_)
    · simpa [va_up_rd, u2_rd, w77, w78, md, a8] using go2
    · first | (exact absurd hi (by omega)) | (rcases i3 (show i < 3 by omega) with rfl | rfl | rfl <;> rcases i3 (show k < 3 by omega) with rfl | rfl | rfl <;> first | (exact absurd hi (by omega)) | (exact absurd hk (by omega)) | simp [va_up_rd, u2_rd, g2, w79, Af, Af0])
    · first | (exact absurd hi (by omega)) | (rcases i3 (show i < 3 by omega) with rfl | rfl | rfl <;> first | (exact absurd hi (by omega)) | simp [va_up_rd, u2_rd, g2, w80, w81, Bf, Bf0, Kf, Kf0])

set_option maxRecDepth 100000 in
set_option maxHeartbeats 8000000 in
theorem two_part2_0 {n sl : Nat} {C Z : Nat → Nat} {I : Nat → Nat → Int32} {L : Nat → Nat → Int64} {R : Nat → Nat → Nat} {M rn t j q : Nat} (h7 : Inv7 n C Z I L R M rn t) (hMl : M < 12) (hj : j < M) (hq : MOK n C Z I R j q 2) (kf : inG 7 (C q) = true ∧ isa (C q) 1 = false ∧ ¬ I 75 j = 1) : Two 64 120 [some (.ref 1), some (.int (nI j)), some (.int 0), none, none, none, none] [some (.ref 74), some (.int (nI j)), some (.int 0), none, none, none, none] (n, sl, C, Z, I, L, R) := by
  obtain ⟨hM12, hn98, ⟨hB, hK, hO, hE, hM⟩, ⟨e1, e2⟩, hms, hss, hap, ⟨hrn, e3, e4, hrw⟩, ht, e5, e6, htr⟩ := id h7
  obtain ⟨a1, a2, a3, a4, ⟨a5, hs3, a6, a7⟩, ⟨a8, a9⟩, ⟨r3, r4, r5, r6⟩, ⟨c1, c2, c3, c4, z1, z2, z3, z4⟩, ma, mbb, mcc, ⟨md, mdb⟩, za, zb⟩ := id hq
  obtain ⟨f1, f2, f3⟩ := kf
  have hB' := hB
  unfold LayB at hB
  unfold Two
  have n0 : nI 2 = 2 := rfl
  have n2 : nI 0 = 0 := rfl
  obtain ⟨m, rfl⟩ : ∃ m, n = m + 98 := ⟨n - 98, by omega⟩
  have hq0 : ¬ q = 0 := by omega
  have p2 : ¬ (12 : Int32) ≤ nI M := nI_ge (b := 12) (by omega) (by omega)
  have p1 : nI M < 12 := nI_lt (b := 12) (by omega) (by omega)
  have p3 : inb (nI M) 12 = true := by rw [inb_nI (by omega)]; simp; omega
  have p4 := ix_nI (show M < 2 ^ 31 by omega)
  have p5 : nI M + 1 = nI (M + 1) := nI_1 M
  have qn : ∀ c, 95 ≤ c → ¬ q = m + c := fun c h => by omega
  have b12 : ∀ (k v : Int32), bnd (mb k) v → bnd 12 v := fun k v hv => by unfold bnd mb at *; split at hv <;> omega
  have fA : ∀ i, i < 9 → fit (I (q + 1) i) := fun i hi => bnd_fit (b12 _ _ (ma i hi).2)
  have fB : ∀ i, i < 3 → fit (I (q + 2) i) := fun i hi => bnd_fit (b12 _ _ (mbb i hi).2)
  have fK : ∀ i, i < 3 → fit (I (q + 3) i) := fun i hi => bnd_fit (b12 _ _ (mcc i hi).2)
  have fD : fit (I (q + 4) 0) := bnd_fit (b12 _ _ mdb)
  simp [S64_0, S64_1, S64_2, S64_3, S87_0, S91_0, S45_0, S37_0, S51_0, S51_1, S100_0, S100_1, S100_2, S95_0, Call_in (k2 := 87), Call_in (k2 := 91), Call_in (k2 := 45), Call_in (k2 := 37), Call_in (k2 := 51), Call_in (k2 := 100), Call_in (k2 := 95), c_bc0, c_bc1, c_bc2, c_bc3, c_bc4, c_bc5, c_bc6, c_bc7, BS, ixs, inbs, le_nlt, hB, at_yesG hB' hM12 hj, e1, a1, hq0, f1, f2, r3, r4, r5, r6, c1, c2, c3, c4, z1, z2, z3, z4, a6, n0, p1, p2, p3, p4, p5, nI_pred, shr8, shl4, va_up_rd, u2_rd, qn, Nat.add_assoc, inGs, okS]
  refine part_fin (n := m + 98) (sl := sl) (sl' := sl + 23) (s := 0) (u := I q 2) h7 hMl (by omega) (by rw [a8]; exact a9) (by omega) (fun i hi => ?_) (fun i hi => ?_) (fun i hi => ?_) (fun i hi => ?_) (fun i hi => ?_) ?_ ?_ ?_ ?_ (fun i k hi hk hz => ?_) (fun i hi hz => ?_) (fun p hp => ?_) (fun p hp => ?_) (fun p hp => ?_) ?_ ?_ (fun I3 L3 R3 Q lm i3' go => ?_)
  · repeat (first | rw [va_up_no _ _ (by omega)] | rw [u2_ne _ _ _ (by omega)])
  · repeat (first | rw [va_up_no _ _ (by omega)] | rw [u2_ne _ _ _ (by omega)])
  · repeat (first | rw [va_up_no _ _ (by omega)] | rw [u2_ne _ _ _ (by omega)])
  · repeat (first | rw [va_up_no _ _ (by omega)] | rw [u2_ne _ _ _ (by omega)])
  · repeat (first | rw [va_up_no _ _ (by omega)] | rw [u2_ne _ _ _ (by omega)])
  · simp [va_up_rd]
  · simp [va_up_rd, u2_rd]
  · simp [va_up_rd]
  · simp [va_up_rd, u2_rd, n2]
  · rcases i3 hi with rfl | rfl | rfl <;> rcases i3 hk with rfl | rfl | rfl <;> first | (exact absurd hz (by omega)) | simp [va_up_rd, u2_rd]
  · rcases i3 hi with rfl | rfl | rfl <;> first | (exact absurd hz (by omega)) | simp [va_up_rd, u2_rd]
  · rcases i9 hp with rfl | rfl | rfl | rfl | rfl | rfl | rfl | rfl | rfl <;> simp [va_up_rd, u2_rd, fit_0, fA, fB, fK, fD]
  · rcases i3 hp with rfl | rfl | rfl <;> simp [va_up_rd, u2_rd, fit_0, fA, fB, fK, fD]
  · rcases i3 hp with rfl | rfl | rfl <;> simp [va_up_rd, u2_rd, fit_0, fA, fB, fK, fD]
  · simp [va_up_rd, u2_rd, fit_0, fA, fB, fK, fD]
  · intro h0; exact absurd h0 (by decide)
  · have w74 := i3' 74 (by omega) (by omega)
    have w75 := i3' 75 (by omega) (by omega)
    have w76 := i3' 76 (by omega) (by omega)
    have w77 := i3' 77 (by omega) (by omega)
    have w78 := i3' 78 (by omega) (by omega)
    have w79 := i3' 79 (by omega) (by omega)
    have w80 := i3' 80 (by omega) (by omega)
    have w81 := i3' 81 (by omega) (by omega)
    have Af : ∀ i, i < 9 → I 79 (9 * j + i) = I (q + 1) i := fun i hi => (ma i hi).1
    have Af0 : I 79 (9 * j) = I (q + 1) 0 := Af 0 (by omega)
    have Bf : ∀ i, i < 3 → I 80 (3 * j + i) = I (q + 2) i := fun i hi => (mbb i hi).1
    have Bf0 : I 80 (3 * j) = I (q + 2) 0 := Bf 0 (by omega)
    have Kf : ∀ i, i < 3 → I 81 (3 * j + i) = I (q + 3) i := fun i hi => (mcc i hi).1
    have Kf0 : I 81 (3 * j) = I (q + 3) 0 := Kf 0 (by omega)
    refine m_part2_0 (I := I3) lm hM12 hj (by rw [w74]; exact e2) (by rw [w75]; exact f3) (by rw [w76]; exact a7) (fun I4 ls g1 g2 => ?_)
    have go2 := go I4 120 185 ls Q (fun v h => by simp [S120_0, S120_1, S120_2, S120_3, S120_4]) g1 (fun i k hi hk => ?_) (fun i hi => ?_)
    · simpa [va_up_rd, u2_rd, w77, w78, md, a8] using go2
    · first | (exact absurd hi (by omega)) | (rcases i3 (show i < 3 by omega) with rfl | rfl | rfl <;> rcases i3 (show k < 3 by omega) with rfl | rfl | rfl <;> first | (exact absurd hi (by omega)) | (exact absurd hk (by omega)) | simp [va_up_rd, u2_rd, g2, w79, Af, Af0])
    · first | (exact absurd hi (by omega)) | (rcases i3 (show i < 3 by omega) with rfl | rfl | rfl <;> first | (exact absurd hi (by omega)) | simp [va_up_rd, u2_rd, g2, w80, w81, Bf, Bf0, Kf, Kf0])

set_option maxRecDepth 100000 in
set_option maxHeartbeats 8000000 in
theorem two_part2_1 {n sl : Nat} {C Z : Nat → Nat} {I : Nat → Nat → Int32} {L : Nat → Nat → Int64} {R : Nat → Nat → Nat} {M rn t j q : Nat} (h7 : Inv7 n C Z I L R M rn t) (hMl : M < 12) (hj : j < M) (hq : MOK n C Z I R j q 2) (kf : inG 7 (C q) = true ∧ isa (C q) 1 = false ∧ ¬ I 75 j = 1) : Two 64 120 [some (.ref 1), some (.int (nI j)), some (.int 1), none, none, none, none] [some (.ref 74), some (.int (nI j)), some (.int 1), none, none, none, none] (n, sl, C, Z, I, L, R) := by
  obtain ⟨hM12, hn98, ⟨hB, hK, hO, hE, hM⟩, ⟨e1, e2⟩, hms, hss, hap, ⟨hrn, e3, e4, hrw⟩, ht, e5, e6, htr⟩ := id h7
  obtain ⟨a1, a2, a3, a4, ⟨a5, hs3, a6, a7⟩, ⟨a8, a9⟩, ⟨r3, r4, r5, r6⟩, ⟨c1, c2, c3, c4, z1, z2, z3, z4⟩, ma, mbb, mcc, ⟨md, mdb⟩, za, zb⟩ := id hq
  obtain ⟨f1, f2, f3⟩ := kf
  have hB' := hB
  unfold LayB at hB
  unfold Two
  have n0 : nI 2 = 2 := rfl
  have n2 : nI 1 = 1 := rfl
  obtain ⟨m, rfl⟩ : ∃ m, n = m + 98 := ⟨n - 98, by omega⟩
  have hq0 : ¬ q = 0 := by omega
  have p2 : ¬ (12 : Int32) ≤ nI M := nI_ge (b := 12) (by omega) (by omega)
  have p1 : nI M < 12 := nI_lt (b := 12) (by omega) (by omega)
  have p3 : inb (nI M) 12 = true := by rw [inb_nI (by omega)]; simp; omega
  have p4 := ix_nI (show M < 2 ^ 31 by omega)
  have p5 : nI M + 1 = nI (M + 1) := nI_1 M
  have qn : ∀ c, 95 ≤ c → ¬ q = m + c := fun c h => by omega
  have b12 : ∀ (k v : Int32), bnd (mb k) v → bnd 12 v := fun k v hv => by unfold bnd mb at *; split at hv <;> omega
  have fA : ∀ i, i < 9 → fit (I (q + 1) i) := fun i hi => bnd_fit (b12 _ _ (ma i hi).2)
  have fB : ∀ i, i < 3 → fit (I (q + 2) i) := fun i hi => bnd_fit (b12 _ _ (mbb i hi).2)
  have fK : ∀ i, i < 3 → fit (I (q + 3) i) := fun i hi => bnd_fit (b12 _ _ (mcc i hi).2)
  have fD : fit (I (q + 4) 0) := bnd_fit (b12 _ _ mdb)
  simp [S64_0, S64_1, S64_2, S64_3, S87_0, S91_0, S45_0, S37_0, S51_0, S51_1, S100_0, S100_1, S100_2, S95_0, Call_in (k2 := 87), Call_in (k2 := 91), Call_in (k2 := 45), Call_in (k2 := 37), Call_in (k2 := 51), Call_in (k2 := 100), Call_in (k2 := 95), c_bc0, c_bc1, c_bc2, c_bc3, c_bc4, c_bc5, c_bc6, c_bc7, BS, ixs, inbs, le_nlt, hB, at_yesG hB' hM12 hj, e1, a1, hq0, f1, f2, r3, r4, r5, r6, c1, c2, c3, c4, z1, z2, z3, z4, a6, n0, p1, p2, p3, p4, p5, nI_pred, shr8, shl4, va_up_rd, u2_rd, qn, Nat.add_assoc, inGs, okS]
  refine part_fin (n := m + 98) (sl := sl) (sl' := sl + 23) (s := 1) (u := I q 2) h7 hMl (by omega) (by rw [a8]; exact a9) (by omega) (fun i hi => ?_) (fun i hi => ?_) (fun i hi => ?_) (fun i hi => ?_) (fun i hi => ?_) ?_ ?_ ?_ ?_ (fun i k hi hk hz => ?_) (fun i hi hz => ?_) (fun p hp => ?_) (fun p hp => ?_) (fun p hp => ?_) ?_ ?_ (fun I3 L3 R3 Q lm i3' go => ?_)
  · repeat (first | rw [va_up_no _ _ (by omega)] | rw [u2_ne _ _ _ (by omega)])
  · repeat (first | rw [va_up_no _ _ (by omega)] | rw [u2_ne _ _ _ (by omega)])
  · repeat (first | rw [va_up_no _ _ (by omega)] | rw [u2_ne _ _ _ (by omega)])
  · repeat (first | rw [va_up_no _ _ (by omega)] | rw [u2_ne _ _ _ (by omega)])
  · repeat (first | rw [va_up_no _ _ (by omega)] | rw [u2_ne _ _ _ (by omega)])
  · simp [va_up_rd]
  · simp [va_up_rd, u2_rd]
  · simp [va_up_rd]
  · simp [va_up_rd, u2_rd, n2]
  · rcases i3 hi with rfl | rfl | rfl <;> rcases i3 hk with rfl | rfl | rfl <;> first | (exact absurd hz (by omega)) | simp [va_up_rd, u2_rd]
  · rcases i3 hi with rfl | rfl | rfl <;> first | (exact absurd hz (by omega)) | simp [va_up_rd, u2_rd]
  · rcases i9 hp with rfl | rfl | rfl | rfl | rfl | rfl | rfl | rfl | rfl <;> simp [va_up_rd, u2_rd, fit_0, fA, fB, fK, fD]
  · rcases i3 hp with rfl | rfl | rfl <;> simp [va_up_rd, u2_rd, fit_0, fA, fB, fK, fD]
  · rcases i3 hp with rfl | rfl | rfl <;> simp [va_up_rd, u2_rd, fit_0, fA, fB, fK, fD]
  · simp [va_up_rd, u2_rd, fit_0, fA, fB, fK, fD]
  · intro h0; exact absurd h0 (by decide)
  · have w74 := i3' 74 (by omega) (by omega)
    have w75 := i3' 75 (by omega) (by omega)
    have w76 := i3' 76 (by omega) (by omega)
    have w77 := i3' 77 (by omega) (by omega)
    have w78 := i3' 78 (by omega) (by omega)
    have w79 := i3' 79 (by omega) (by omega)
    have w80 := i3' 80 (by omega) (by omega)
    have w81 := i3' 81 (by omega) (by omega)
    have Af : ∀ i, i < 9 → I 79 (9 * j + i) = I (q + 1) i := fun i hi => (ma i hi).1
    have Af0 : I 79 (9 * j) = I (q + 1) 0 := Af 0 (by omega)
    have Bf : ∀ i, i < 3 → I 80 (3 * j + i) = I (q + 2) i := fun i hi => (mbb i hi).1
    have Bf0 : I 80 (3 * j) = I (q + 2) 0 := Bf 0 (by omega)
    have Kf : ∀ i, i < 3 → I 81 (3 * j + i) = I (q + 3) i := fun i hi => (mcc i hi).1
    have Kf0 : I 81 (3 * j) = I (q + 3) 0 := Kf 0 (by omega)
    refine m_part2_1 (I := I3) lm hM12 hj (by rw [w74]; exact e2) (by rw [w75]; exact f3) (by rw [w76]; exact a7) (fun I4 ls g1 g2 => ?_)
    have go2 := go I4 120 185 ls Q (fun v h => by simp [S120_0, S120_1, S120_2, S120_3, S120_4]) g1 (fun i k hi hk => ?_) (fun i hi => ?_)
    · simpa [va_up_rd, u2_rd, w77, w78, md, a8] using go2
    · first | (exact absurd hi (by omega)) | (rcases i3 (show i < 3 by omega) with rfl | rfl | rfl <;> rcases i3 (show k < 3 by omega) with rfl | rfl | rfl <;> first | (exact absurd hi (by omega)) | (exact absurd hk (by omega)) | simp [va_up_rd, u2_rd, g2, w79, Af, Af0])
    · first | (exact absurd hi (by omega)) | (rcases i3 (show i < 3 by omega) with rfl | rfl | rfl <;> first | (exact absurd hi (by omega)) | simp [va_up_rd, u2_rd, g2, w80, w81, Bf, Bf0, Kf, Kf0])

set_option maxRecDepth 100000 in
set_option maxHeartbeats 8000000 in
theorem two_part2_2 {n sl : Nat} {C Z : Nat → Nat} {I : Nat → Nat → Int32} {L : Nat → Nat → Int64} {R : Nat → Nat → Nat} {M rn t j q : Nat} (h7 : Inv7 n C Z I L R M rn t) (hMl : M < 12) (hj : j < M) (hq : MOK n C Z I R j q 2) (kf : inG 7 (C q) = true ∧ isa (C q) 1 = false ∧ ¬ I 75 j = 1) : Two 64 120 [some (.ref 1), some (.int (nI j)), some (.int 2), none, none, none, none] [some (.ref 74), some (.int (nI j)), some (.int 2), none, none, none, none] (n, sl, C, Z, I, L, R) := by
  obtain ⟨hM12, hn98, ⟨hB, hK, hO, hE, hM⟩, ⟨e1, e2⟩, hms, hss, hap, ⟨hrn, e3, e4, hrw⟩, ht, e5, e6, htr⟩ := id h7
  obtain ⟨a1, a2, a3, a4, ⟨a5, hs3, a6, a7⟩, ⟨a8, a9⟩, ⟨r3, r4, r5, r6⟩, ⟨c1, c2, c3, c4, z1, z2, z3, z4⟩, ma, mbb, mcc, ⟨md, mdb⟩, za, zb⟩ := id hq
  obtain ⟨f1, f2, f3⟩ := kf
  have hB' := hB
  unfold LayB at hB
  unfold Two
  have n0 : nI 2 = 2 := rfl
  have n2 : nI 1 = 1 := rfl
  obtain ⟨m, rfl⟩ : ∃ m, n = m + 98 := ⟨n - 98, by omega⟩
  have hq0 : ¬ q = 0 := by omega
  have p2 : ¬ (12 : Int32) ≤ nI M := nI_ge (b := 12) (by omega) (by omega)
  have p1 : nI M < 12 := nI_lt (b := 12) (by omega) (by omega)
  have p3 : inb (nI M) 12 = true := by rw [inb_nI (by omega)]; simp; omega
  have p4 := ix_nI (show M < 2 ^ 31 by omega)
  have p5 : nI M + 1 = nI (M + 1) := nI_1 M
  have qn : ∀ c, 95 ≤ c → ¬ q = m + c := fun c h => by omega
  have b12 : ∀ (k v : Int32), bnd (mb k) v → bnd 12 v := fun k v hv => by unfold bnd mb at *; split at hv <;> omega
  have fA : ∀ i, i < 9 → fit (I (q + 1) i) := fun i hi => bnd_fit (b12 _ _ (ma i hi).2)
  have fB : ∀ i, i < 3 → fit (I (q + 2) i) := fun i hi => bnd_fit (b12 _ _ (mbb i hi).2)
  have fK : ∀ i, i < 3 → fit (I (q + 3) i) := fun i hi => bnd_fit (b12 _ _ (mcc i hi).2)
  have fD : fit (I (q + 4) 0) := bnd_fit (b12 _ _ mdb)
  simp [S64_0, S64_1, S64_2, S64_3, S87_0, S91_0, S45_0, S37_0, S51_0, S51_1, S100_0, S100_1, S100_2, S95_0, Call_in (k2 := 87), Call_in (k2 := 91), Call_in (k2 := 45), Call_in (k2 := 37), Call_in (k2 := 51), Call_in (k2 := 100), Call_in (k2 := 95), c_bc0, c_bc1, c_bc2, c_bc3, c_bc4, c_bc5, c_bc6, c_bc7, BS, ixs, inbs, le_nlt, hB, at_yesG hB' hM12 hj, e1, a1, hq0, f1, f2, r3, r4, r5, r6, c1, c2, c3, c4, z1, z2, z3, z4, a6, n0, p1, p2, p3, p4, p5, nI_pred, shr8, shl4, va_up_rd, u2_rd, qn, Nat.add_assoc, inGs, okS]
  refine part_fin (n := m + 98) (sl := sl) (sl' := sl + 23) (s := 1) (u := I q 2) h7 hMl (by omega) (by rw [a8]; exact a9) (by omega) (fun i hi => ?_) (fun i hi => ?_) (fun i hi => ?_) (fun i hi => ?_) (fun i hi => ?_) ?_ ?_ ?_ ?_ (fun i k hi hk hz => ?_) (fun i hi hz => ?_) (fun p hp => ?_) (fun p hp => ?_) (fun p hp => ?_) ?_ ?_ (fun I3 L3 R3 Q lm i3' go => ?_)
  · repeat (first | rw [va_up_no _ _ (by omega)] | rw [u2_ne _ _ _ (by omega)])
  · repeat (first | rw [va_up_no _ _ (by omega)] | rw [u2_ne _ _ _ (by omega)])
  · repeat (first | rw [va_up_no _ _ (by omega)] | rw [u2_ne _ _ _ (by omega)])
  · repeat (first | rw [va_up_no _ _ (by omega)] | rw [u2_ne _ _ _ (by omega)])
  · repeat (first | rw [va_up_no _ _ (by omega)] | rw [u2_ne _ _ _ (by omega)])
  · simp [va_up_rd]
  · simp [va_up_rd, u2_rd]
  · simp [va_up_rd]
  · simp [va_up_rd, u2_rd, n2]
  · rcases i3 hi with rfl | rfl | rfl <;> rcases i3 hk with rfl | rfl | rfl <;> first | (exact absurd hz (by omega)) | simp [va_up_rd, u2_rd]
  · rcases i3 hi with rfl | rfl | rfl <;> first | (exact absurd hz (by omega)) | simp [va_up_rd, u2_rd]
  · rcases i9 hp with rfl | rfl | rfl | rfl | rfl | rfl | rfl | rfl | rfl <;> simp [va_up_rd, u2_rd, fit_0, fA, fB, fK, fD]
  · rcases i3 hp with rfl | rfl | rfl <;> simp [va_up_rd, u2_rd, fit_0, fA, fB, fK, fD]
  · rcases i3 hp with rfl | rfl | rfl <;> simp [va_up_rd, u2_rd, fit_0, fA, fB, fK, fD]
  · simp [va_up_rd, u2_rd, fit_0, fA, fB, fK, fD]
  · intro h0; exact absurd h0 (by decide)
  · have w74 := i3' 74 (by omega) (by omega)
    have w75 := i3' 75 (by omega) (by omega)
    have w76 := i3' 76 (by omega) (by omega)
    have w77 := i3' 77 (by omega) (by omega)
    have w78 := i3' 78 (by omega) (by omega)
    have w79 := i3' 79 (by omega) (by omega)
    have w80 := i3' 80 (by omega) (by omega)
    have w81 := i3' 81 (by omega) (by omega)
    have Af : ∀ i, i < 9 → I 79 (9 * j + i) = I (q + 1) i := fun i hi => (ma i hi).1
    have Af0 : I 79 (9 * j) = I (q + 1) 0 := Af 0 (by omega)
    have Bf : ∀ i, i < 3 → I 80 (3 * j + i) = I (q + 2) i := fun i hi => (mbb i hi).1
    have Bf0 : I 80 (3 * j) = I (q + 2) 0 := Bf 0 (by omega)
    have Kf : ∀ i, i < 3 → I 81 (3 * j + i) = I (q + 3) i := fun i hi => (mcc i hi).1
    have Kf0 : I 81 (3 * j) = I (q + 3) 0 := Kf 0 (by omega)
    refine m_part2_2 (I := I3) lm hM12 hj (by rw [w74]; exact e2) (by rw [w75]; exact f3) (by rw [w76]; exact a7) (fun I4 ls g1 g2 => ?_)
    have go2 := go I4 120 185 ls Q (fun v h => by simp [S120_0, S120_1, S120_2, S120_3, S120_4]) g1 (fun i k hi hk => ?_) (fun i hi => ?_)
    · simpa [va_up_rd, u2_rd, w77, w78, md, a8] using go2
    · first | (exact absurd hi (by omega)) | (rcases i3 (show i < 3 by omega) with rfl | rfl | rfl <;> rcases i3 (show k < 3 by omega) with rfl | rfl | rfl <;> first | (exact absurd hi (by omega)) | (exact absurd hk (by omega)) | simp [va_up_rd, u2_rd, g2, w79, Af, Af0])
    · first | (exact absurd hi (by omega)) | (rcases i3 (show i < 3 by omega) with rfl | rfl | rfl <;> first | (exact absurd hi (by omega)) | simp [va_up_rd, u2_rd, g2, w80, w81, Bf, Bf0, Kf, Kf0])

set_option maxRecDepth 100000 in
set_option maxHeartbeats 8000000 in
theorem two_part2_3 {n sl : Nat} {C Z : Nat → Nat} {I : Nat → Nat → Int32} {L : Nat → Nat → Int64} {R : Nat → Nat → Nat} {M rn t j q : Nat} (h7 : Inv7 n C Z I L R M rn t) (hMl : M < 12) (hj : j < M) (hq : MOK n C Z I R j q 2) (kf : inG 7 (C q) = true ∧ isa (C q) 1 = false ∧ ¬ I 75 j = 1) : Two 64 120 [some (.ref 1), some (.int (nI j)), some (.int 3), none, none, none, none] [some (.ref 74), some (.int (nI j)), some (.int 3), none, none, none, none] (n, sl, C, Z, I, L, R) := by
  obtain ⟨hM12, hn98, ⟨hB, hK, hO, hE, hM⟩, ⟨e1, e2⟩, hms, hss, hap, ⟨hrn, e3, e4, hrw⟩, ht, e5, e6, htr⟩ := id h7
  obtain ⟨a1, a2, a3, a4, ⟨a5, hs3, a6, a7⟩, ⟨a8, a9⟩, ⟨r3, r4, r5, r6⟩, ⟨c1, c2, c3, c4, z1, z2, z3, z4⟩, ma, mbb, mcc, ⟨md, mdb⟩, za, zb⟩ := id hq
  obtain ⟨f1, f2, f3⟩ := kf
  have hB' := hB
  unfold LayB at hB
  unfold Two
  have n0 : nI 2 = 2 := rfl
  have n2 : nI 2 = 2 := rfl
  obtain ⟨m, rfl⟩ : ∃ m, n = m + 98 := ⟨n - 98, by omega⟩
  have hq0 : ¬ q = 0 := by omega
  have p2 : ¬ (12 : Int32) ≤ nI M := nI_ge (b := 12) (by omega) (by omega)
  have p1 : nI M < 12 := nI_lt (b := 12) (by omega) (by omega)
  have p3 : inb (nI M) 12 = true := by rw [inb_nI (by omega)]; simp; omega
  have p4 := ix_nI (show M < 2 ^ 31 by omega)
  have p5 : nI M + 1 = nI (M + 1) := nI_1 M
  have qn : ∀ c, 95 ≤ c → ¬ q = m + c := fun c h => by omega
  have b12 : ∀ (k v : Int32), bnd (mb k) v → bnd 12 v := fun k v hv => by unfold bnd mb at *; split at hv <;> omega
  have fA : ∀ i, i < 9 → fit (I (q + 1) i) := fun i hi => bnd_fit (b12 _ _ (ma i hi).2)
  have fB : ∀ i, i < 3 → fit (I (q + 2) i) := fun i hi => bnd_fit (b12 _ _ (mbb i hi).2)
  have fK : ∀ i, i < 3 → fit (I (q + 3) i) := fun i hi => bnd_fit (b12 _ _ (mcc i hi).2)
  have fD : fit (I (q + 4) 0) := bnd_fit (b12 _ _ mdb)
  simp [S64_0, S64_1, S64_2, S64_3, S87_0, S91_0, S45_0, S37_0, S51_0, S51_1, S100_0, S100_1, S100_2, S95_0, Call_in (k2 := 87), Call_in (k2 := 91), Call_in (k2 := 45), Call_in (k2 := 37), Call_in (k2 := 51), Call_in (k2 := 100), Call_in (k2 := 95), c_bc0, c_bc1, c_bc2, c_bc3, c_bc4, c_bc5, c_bc6, c_bc7, BS, ixs, inbs, le_nlt, hB, at_yesG hB' hM12 hj, e1, a1, hq0, f1, f2, r3, r4, r5, r6, c1, c2, c3, c4, z1, z2, z3, z4, a6, n0, p1, p2, p3, p4, p5, nI_pred, shr8, shl4, va_up_rd, u2_rd, qn, Nat.add_assoc, inGs, okS]
  refine part_fin (n := m + 98) (sl := sl) (sl' := sl + 23) (s := 2) (u := I q 2) h7 hMl (by omega) (by rw [a8]; exact a9) (by omega) (fun i hi => ?_) (fun i hi => ?_) (fun i hi => ?_) (fun i hi => ?_) (fun i hi => ?_) ?_ ?_ ?_ ?_ (fun i k hi hk hz => ?_) (fun i hi hz => ?_) (fun p hp => ?_) (fun p hp => ?_) (fun p hp => ?_) ?_ ?_ (fun I3 L3 R3 Q lm i3' go => ?_)
  · repeat (first | rw [va_up_no _ _ (by omega)] | rw [u2_ne _ _ _ (by omega)])
  · repeat (first | rw [va_up_no _ _ (by omega)] | rw [u2_ne _ _ _ (by omega)])
  · repeat (first | rw [va_up_no _ _ (by omega)] | rw [u2_ne _ _ _ (by omega)])
  · repeat (first | rw [va_up_no _ _ (by omega)] | rw [u2_ne _ _ _ (by omega)])
  · repeat (first | rw [va_up_no _ _ (by omega)] | rw [u2_ne _ _ _ (by omega)])
  · simp [va_up_rd]
  · simp [va_up_rd, u2_rd]
  · simp [va_up_rd]
  · simp [va_up_rd, u2_rd, n2]
  · rcases i3 hi with rfl | rfl | rfl <;> rcases i3 hk with rfl | rfl | rfl <;> first | (exact absurd hz (by omega)) | simp [va_up_rd, u2_rd]
  · rcases i3 hi with rfl | rfl | rfl <;> first | (exact absurd hz (by omega)) | simp [va_up_rd, u2_rd]
  · rcases i9 hp with rfl | rfl | rfl | rfl | rfl | rfl | rfl | rfl | rfl <;> simp [va_up_rd, u2_rd, fit_0, fA, fB, fK, fD]
  · rcases i3 hp with rfl | rfl | rfl <;> simp [va_up_rd, u2_rd, fit_0, fA, fB, fK, fD]
  · rcases i3 hp with rfl | rfl | rfl <;> simp [va_up_rd, u2_rd, fit_0, fA, fB, fK, fD]
  · simp [va_up_rd, u2_rd, fit_0, fA, fB, fK, fD]
  · intro h0; exact absurd h0 (by decide)
  · have w74 := i3' 74 (by omega) (by omega)
    have w75 := i3' 75 (by omega) (by omega)
    have w76 := i3' 76 (by omega) (by omega)
    have w77 := i3' 77 (by omega) (by omega)
    have w78 := i3' 78 (by omega) (by omega)
    have w79 := i3' 79 (by omega) (by omega)
    have w80 := i3' 80 (by omega) (by omega)
    have w81 := i3' 81 (by omega) (by omega)
    have Af : ∀ i, i < 9 → I 79 (9 * j + i) = I (q + 1) i := fun i hi => (ma i hi).1
    have Af0 : I 79 (9 * j) = I (q + 1) 0 := Af 0 (by omega)
    have Bf : ∀ i, i < 3 → I 80 (3 * j + i) = I (q + 2) i := fun i hi => (mbb i hi).1
    have Bf0 : I 80 (3 * j) = I (q + 2) 0 := Bf 0 (by omega)
    have Kf : ∀ i, i < 3 → I 81 (3 * j + i) = I (q + 3) i := fun i hi => (mcc i hi).1
    have Kf0 : I 81 (3 * j) = I (q + 3) 0 := Kf 0 (by omega)
    refine m_part2_3 (I := I3) lm hM12 hj (by rw [w74]; exact e2) (by rw [w75]; exact f3) (by rw [w76]; exact a7) (fun I4 ls g1 g2 => ?_)
    have go2 := go I4 120 185 ls Q (fun v h => by simp [S120_0, S120_1, S120_2, S120_3, S120_4]) g1 (fun i k hi hk => ?_) (fun i hi => ?_)
    · simpa [va_up_rd, u2_rd, w77, w78, md, a8] using go2
    · first | (exact absurd hi (by omega)) | (rcases i3 (show i < 3 by omega) with rfl | rfl | rfl <;> rcases i3 (show k < 3 by omega) with rfl | rfl | rfl <;> first | (exact absurd hi (by omega)) | (exact absurd hk (by omega)) | simp [va_up_rd, u2_rd, g2, w79, Af, Af0])
    · first | (exact absurd hi (by omega)) | (rcases i3 (show i < 3 by omega) with rfl | rfl | rfl <;> first | (exact absurd hi (by omega)) | simp [va_up_rd, u2_rd, g2, w80, w81, Bf, Bf0, Kf, Kf0])

set_option maxRecDepth 100000 in
set_option maxHeartbeats 8000000 in
theorem two_part3_0 {n sl : Nat} {C Z : Nat → Nat} {I : Nat → Nat → Int32} {L : Nat → Nat → Int64} {R : Nat → Nat → Nat} {M rn t j q : Nat} (h7 : Inv7 n C Z I L R M rn t) (hMl : M < 12) (hj : j < M) (hq : MOK n C Z I R j q 3) (kf : inG 7 (C q) = true ∧ isa (C q) 1 = false ∧ ¬ I 75 j = 1) : Two 64 120 [some (.ref 1), some (.int (nI j)), some (.int 0), none, none, none, none] [some (.ref 74), some (.int (nI j)), some (.int 0), none, none, none, none] (n, sl, C, Z, I, L, R) := by
  obtain ⟨hM12, hn98, ⟨hB, hK, hO, hE, hM⟩, ⟨e1, e2⟩, hms, hss, hap, ⟨hrn, e3, e4, hrw⟩, ht, e5, e6, htr⟩ := id h7
  obtain ⟨a1, a2, a3, a4, ⟨a5, hs3, a6, a7⟩, ⟨a8, a9⟩, ⟨r3, r4, r5, r6⟩, ⟨c1, c2, c3, c4, z1, z2, z3, z4⟩, ma, mbb, mcc, ⟨md, mdb⟩, za, zb⟩ := id hq
  obtain ⟨f1, f2, f3⟩ := kf
  have hB' := hB
  unfold LayB at hB
  unfold Two
  have n0 : nI 3 = 3 := rfl
  have n2 : nI 0 = 0 := rfl
  obtain ⟨m, rfl⟩ : ∃ m, n = m + 98 := ⟨n - 98, by omega⟩
  have hq0 : ¬ q = 0 := by omega
  have p2 : ¬ (12 : Int32) ≤ nI M := nI_ge (b := 12) (by omega) (by omega)
  have p1 : nI M < 12 := nI_lt (b := 12) (by omega) (by omega)
  have p3 : inb (nI M) 12 = true := by rw [inb_nI (by omega)]; simp; omega
  have p4 := ix_nI (show M < 2 ^ 31 by omega)
  have p5 : nI M + 1 = nI (M + 1) := nI_1 M
  have qn : ∀ c, 95 ≤ c → ¬ q = m + c := fun c h => by omega
  have b12 : ∀ (k v : Int32), bnd (mb k) v → bnd 12 v := fun k v hv => by unfold bnd mb at *; split at hv <;> omega
  have fA : ∀ i, i < 9 → fit (I (q + 1) i) := fun i hi => bnd_fit (b12 _ _ (ma i hi).2)
  have fB : ∀ i, i < 3 → fit (I (q + 2) i) := fun i hi => bnd_fit (b12 _ _ (mbb i hi).2)
  have fK : ∀ i, i < 3 → fit (I (q + 3) i) := fun i hi => bnd_fit (b12 _ _ (mcc i hi).2)
  have fD : fit (I (q + 4) 0) := bnd_fit (b12 _ _ mdb)
  simp [S64_0, S64_1, S64_2, S64_3, S87_0, S91_0, S45_0, S37_0, S51_0, S51_1, S100_0, S100_1, S100_2, S95_0, Call_in (k2 := 87), Call_in (k2 := 91), Call_in (k2 := 45), Call_in (k2 := 37), Call_in (k2 := 51), Call_in (k2 := 100), Call_in (k2 := 95), c_bc0, c_bc1, c_bc2, c_bc3, c_bc4, c_bc5, c_bc6, c_bc7, BS, ixs, inbs, le_nlt, hB, at_yesG hB' hM12 hj, e1, a1, hq0, f1, f2, r3, r4, r5, r6, c1, c2, c3, c4, z1, z2, z3, z4, a6, n0, p1, p2, p3, p4, p5, nI_pred, shr8, shl4, va_up_rd, u2_rd, qn, Nat.add_assoc, inGs, okS]
  refine part_fin (n := m + 98) (sl := sl) (sl' := sl + 23) (s := 0) (u := I q 2) h7 hMl (by omega) (by rw [a8]; exact a9) (by omega) (fun i hi => ?_) (fun i hi => ?_) (fun i hi => ?_) (fun i hi => ?_) (fun i hi => ?_) ?_ ?_ ?_ ?_ (fun i k hi hk hz => ?_) (fun i hi hz => ?_) (fun p hp => ?_) (fun p hp => ?_) (fun p hp => ?_) ?_ ?_ (fun I3 L3 R3 Q lm i3' go => ?_)
  · repeat (first | rw [va_up_no _ _ (by omega)] | rw [u2_ne _ _ _ (by omega)])
  · repeat (first | rw [va_up_no _ _ (by omega)] | rw [u2_ne _ _ _ (by omega)])
  · repeat (first | rw [va_up_no _ _ (by omega)] | rw [u2_ne _ _ _ (by omega)])
  · repeat (first | rw [va_up_no _ _ (by omega)] | rw [u2_ne _ _ _ (by omega)])
  · repeat (first | rw [va_up_no _ _ (by omega)] | rw [u2_ne _ _ _ (by omega)])
  · simp [va_up_rd]
  · simp [va_up_rd, u2_rd]
  · simp [va_up_rd]
  · simp [va_up_rd, u2_rd, n2]
  · rcases i3 hi with rfl | rfl | rfl <;> rcases i3 hk with rfl | rfl | rfl <;> first | (exact absurd hz (by omega)) | simp [va_up_rd, u2_rd]
  · rcases i3 hi with rfl | rfl | rfl <;> first | (exact absurd hz (by omega)) | simp [va_up_rd, u2_rd]
  · rcases i9 hp with rfl | rfl | rfl | rfl | rfl | rfl | rfl | rfl | rfl <;> simp [va_up_rd, u2_rd, fit_0, fA, fB, fK, fD]
  · rcases i3 hp with rfl | rfl | rfl <;> simp [va_up_rd, u2_rd, fit_0, fA, fB, fK, fD]
  · rcases i3 hp with rfl | rfl | rfl <;> simp [va_up_rd, u2_rd, fit_0, fA, fB, fK, fD]
  · simp [va_up_rd, u2_rd, fit_0, fA, fB, fK, fD]
  · intro h0; exact absurd h0 (by decide)
  · have w74 := i3' 74 (by omega) (by omega)
    have w75 := i3' 75 (by omega) (by omega)
    have w76 := i3' 76 (by omega) (by omega)
    have w77 := i3' 77 (by omega) (by omega)
    have w78 := i3' 78 (by omega) (by omega)
    have w79 := i3' 79 (by omega) (by omega)
    have w80 := i3' 80 (by omega) (by omega)
    have w81 := i3' 81 (by omega) (by omega)
    have Af : ∀ i, i < 9 → I 79 (9 * j + i) = I (q + 1) i := fun i hi => (ma i hi).1
    have Af0 : I 79 (9 * j) = I (q + 1) 0 := Af 0 (by omega)
    have Bf : ∀ i, i < 3 → I 80 (3 * j + i) = I (q + 2) i := fun i hi => (mbb i hi).1
    have Bf0 : I 80 (3 * j) = I (q + 2) 0 := Bf 0 (by omega)
    have Kf : ∀ i, i < 3 → I 81 (3 * j + i) = I (q + 3) i := fun i hi => (mcc i hi).1
    have Kf0 : I 81 (3 * j) = I (q + 3) 0 := Kf 0 (by omega)
    refine m_part3_0 (I := I3) lm hM12 hj (by rw [w74]; exact e2) (by rw [w75]; exact f3) (by rw [w76]; exact a7) (fun I4 ls g1 g2 => ?_)
    have go2 := go I4 120 185 ls Q (fun v h => by simp [S120_0, S120_1, S120_2, S120_3, S120_4]) g1 (fun i k hi hk => ?_) (fun i hi => ?_)
    · simpa [va_up_rd, u2_rd, w77, w78, md, a8] using go2
    · first | (exact absurd hi (by omega)) | (rcases i3 (show i < 3 by omega) with rfl | rfl | rfl <;> rcases i3 (show k < 3 by omega) with rfl | rfl | rfl <;> first | (exact absurd hi (by omega)) | (exact absurd hk (by omega)) | simp [va_up_rd, u2_rd, g2, w79, Af, Af0])
    · first | (exact absurd hi (by omega)) | (rcases i3 (show i < 3 by omega) with rfl | rfl | rfl <;> first | (exact absurd hi (by omega)) | simp [va_up_rd, u2_rd, g2, w80, w81, Bf, Bf0, Kf, Kf0])

set_option maxRecDepth 100000 in
set_option maxHeartbeats 8000000 in
theorem two_part3_1 {n sl : Nat} {C Z : Nat → Nat} {I : Nat → Nat → Int32} {L : Nat → Nat → Int64} {R : Nat → Nat → Nat} {M rn t j q : Nat} (h7 : Inv7 n C Z I L R M rn t) (hMl : M < 12) (hj : j < M) (hq : MOK n C Z I R j q 3) (kf : inG 7 (C q) = true ∧ isa (C q) 1 = false ∧ ¬ I 75 j = 1) : Two 64 120 [some (.ref 1), some (.int (nI j)), some (.int 1), none, none, none, none] [some (.ref 74), some (.int (nI j)), some (.int 1), none, none, none, none] (n, sl, C, Z, I, L, R) := by
  obtain ⟨hM12, hn98, ⟨hB, hK, hO, hE, hM⟩, ⟨e1, e2⟩, hms, hss, hap, ⟨hrn, e3, e4, hrw⟩, ht, e5, e6, htr⟩ := id h7
  obtain ⟨a1, a2, a3, a4, ⟨a5, hs3, a6, a7⟩, ⟨a8, a9⟩, ⟨r3, r4, r5, r6⟩, ⟨c1, c2, c3, c4, z1, z2, z3, z4⟩, ma, mbb, mcc, ⟨md, mdb⟩, za, zb⟩ := id hq
  obtain ⟨f1, f2, f3⟩ := kf
  have hB' := hB
  unfold LayB at hB
  unfold Two
  have n0 : nI 3 = 3 := rfl
  have n2 : nI 1 = 1 := rfl
  obtain ⟨m, rfl⟩ : ∃ m, n = m + 98 := ⟨n - 98, by omega⟩
  have hq0 : ¬ q = 0 := by omega
  have p2 : ¬ (12 : Int32) ≤ nI M := nI_ge (b := 12) (by omega) (by omega)
  have p1 : nI M < 12 := nI_lt (b := 12) (by omega) (by omega)
  have p3 : inb (nI M) 12 = true := by rw [inb_nI (by omega)]; simp; omega
  have p4 := ix_nI (show M < 2 ^ 31 by omega)
  have p5 : nI M + 1 = nI (M + 1) := nI_1 M
  have qn : ∀ c, 95 ≤ c → ¬ q = m + c := fun c h => by omega
  have b12 : ∀ (k v : Int32), bnd (mb k) v → bnd 12 v := fun k v hv => by unfold bnd mb at *; split at hv <;> omega
  have fA : ∀ i, i < 9 → fit (I (q + 1) i) := fun i hi => bnd_fit (b12 _ _ (ma i hi).2)
  have fB : ∀ i, i < 3 → fit (I (q + 2) i) := fun i hi => bnd_fit (b12 _ _ (mbb i hi).2)
  have fK : ∀ i, i < 3 → fit (I (q + 3) i) := fun i hi => bnd_fit (b12 _ _ (mcc i hi).2)
  have fD : fit (I (q + 4) 0) := bnd_fit (b12 _ _ mdb)
  simp [S64_0, S64_1, S64_2, S64_3, S87_0, S91_0, S45_0, S37_0, S51_0, S51_1, S100_0, S100_1, S100_2, S95_0, Call_in (k2 := 87), Call_in (k2 := 91), Call_in (k2 := 45), Call_in (k2 := 37), Call_in (k2 := 51), Call_in (k2 := 100), Call_in (k2 := 95), c_bc0, c_bc1, c_bc2, c_bc3, c_bc4, c_bc5, c_bc6, c_bc7, BS, ixs, inbs, le_nlt, hB, at_yesG hB' hM12 hj, e1, a1, hq0, f1, f2, r3, r4, r5, r6, c1, c2, c3, c4, z1, z2, z3, z4, a6, n0, p1, p2, p3, p4, p5, nI_pred, shr8, shl4, va_up_rd, u2_rd, qn, Nat.add_assoc, inGs, okS]
  refine part_fin (n := m + 98) (sl := sl) (sl' := sl + 23) (s := 1) (u := I q 2) h7 hMl (by omega) (by rw [a8]; exact a9) (by omega) (fun i hi => ?_) (fun i hi => ?_) (fun i hi => ?_) (fun i hi => ?_) (fun i hi => ?_) ?_ ?_ ?_ ?_ (fun i k hi hk hz => ?_) (fun i hi hz => ?_) (fun p hp => ?_) (fun p hp => ?_) (fun p hp => ?_) ?_ ?_ (fun I3 L3 R3 Q lm i3' go => ?_)
  · repeat (first | rw [va_up_no _ _ (by omega)] | rw [u2_ne _ _ _ (by omega)])
  · repeat (first | rw [va_up_no _ _ (by omega)] | rw [u2_ne _ _ _ (by omega)])
  · repeat (first | rw [va_up_no _ _ (by omega)] | rw [u2_ne _ _ _ (by omega)])
  · repeat (first | rw [va_up_no _ _ (by omega)] | rw [u2_ne _ _ _ (by omega)])
  · repeat (first | rw [va_up_no _ _ (by omega)] | rw [u2_ne _ _ _ (by omega)])
  · simp [va_up_rd]
  · simp [va_up_rd, u2_rd]
  · simp [va_up_rd]
  · simp [va_up_rd, u2_rd, n2]
  · rcases i3 hi with rfl | rfl | rfl <;> rcases i3 hk with rfl | rfl | rfl <;> first | (exact absurd hz (by omega)) | simp [va_up_rd, u2_rd]
  · rcases i3 hi with rfl | rfl | rfl <;> first | (exact absurd hz (by omega)) | simp [va_up_rd, u2_rd]
  · rcases i9 hp with rfl | rfl | rfl | rfl | rfl | rfl | rfl | rfl | rfl <;> simp [va_up_rd, u2_rd, fit_0, fA, fB, fK, fD]
  · rcases i3 hp with rfl | rfl | rfl <;> simp [va_up_rd, u2_rd, fit_0, fA, fB, fK, fD]
  · rcases i3 hp with rfl | rfl | rfl <;> simp [va_up_rd, u2_rd, fit_0, fA, fB, fK, fD]
  · simp [va_up_rd, u2_rd, fit_0, fA, fB, fK, fD]
  · intro h0; exact absurd h0 (by decide)
  · have w74 := i3' 74 (by omega) (by omega)
    have w75 := i3' 75 (by omega) (by omega)
    have w76 := i3' 76 (by omega) (by omega)
    have w77 := i3' 77 (by omega) (by omega)
    have w78 := i3' 78 (by omega) (by omega)
    have w79 := i3' 79 (by omega) (by omega)
    have w80 := i3' 80 (by omega) (by omega)
    have w81 := i3' 81 (by omega) (by omega)
    have Af : ∀ i, i < 9 → I 79 (9 * j + i) = I (q + 1) i := fun i hi => (ma i hi).1
    have Af0 : I 79 (9 * j) = I (q + 1) 0 := Af 0 (by omega)
    have Bf : ∀ i, i < 3 → I 80 (3 * j + i) = I (q + 2) i := fun i hi => (mbb i hi).1
    have Bf0 : I 80 (3 * j) = I (q + 2) 0 := Bf 0 (by omega)
    have Kf : ∀ i, i < 3 → I 81 (3 * j + i) = I (q + 3) i := fun i hi => (mcc i hi).1
    have Kf0 : I 81 (3 * j) = I (q + 3) 0 := Kf 0 (by omega)
    refine m_part3_1 (I := I3) lm hM12 hj (by rw [w74]; exact e2) (by rw [w75]; exact f3) (by rw [w76]; exact a7) (fun I4 ls g1 g2 => ?_)
    have go2 := go I4 120 185 ls Q (fun v h => by simp [S120_0, S120_1, S120_2, S120_3, S120_4]) g1 (fun i k hi hk => ?_) (fun i hi => ?_)
    · simpa [va_up_rd, u2_rd, w77, w78, md, a8] using go2
    · first | (exact absurd hi (by omega)) | (rcases i3 (show i < 3 by omega) with rfl | rfl | rfl <;> rcases i3 (show k < 3 by omega) with rfl | rfl | rfl <;> first | (exact absurd hi (by omega)) | (exact absurd hk (by omega)) | simp [va_up_rd, u2_rd, g2, w79, Af, Af0])
    · first | (exact absurd hi (by omega)) | (rcases i3 (show i < 3 by omega) with rfl | rfl | rfl <;> first | (exact absurd hi (by omega)) | simp [va_up_rd, u2_rd, g2, w80, w81, Bf, Bf0, Kf, Kf0])

set_option maxRecDepth 100000 in
set_option maxHeartbeats 8000000 in
theorem two_part3_2 {n sl : Nat} {C Z : Nat → Nat} {I : Nat → Nat → Int32} {L : Nat → Nat → Int64} {R : Nat → Nat → Nat} {M rn t j q : Nat} (h7 : Inv7 n C Z I L R M rn t) (hMl : M < 12) (hj : j < M) (hq : MOK n C Z I R j q 3) (kf : inG 7 (C q) = true ∧ isa (C q) 1 = false ∧ ¬ I 75 j = 1) : Two 64 120 [some (.ref 1), some (.int (nI j)), some (.int 2), none, none, none, none] [some (.ref 74), some (.int (nI j)), some (.int 2), none, none, none, none] (n, sl, C, Z, I, L, R) := by
  obtain ⟨hM12, hn98, ⟨hB, hK, hO, hE, hM⟩, ⟨e1, e2⟩, hms, hss, hap, ⟨hrn, e3, e4, hrw⟩, ht, e5, e6, htr⟩ := id h7
  obtain ⟨a1, a2, a3, a4, ⟨a5, hs3, a6, a7⟩, ⟨a8, a9⟩, ⟨r3, r4, r5, r6⟩, ⟨c1, c2, c3, c4, z1, z2, z3, z4⟩, ma, mbb, mcc, ⟨md, mdb⟩, za, zb⟩ := id hq
  obtain ⟨f1, f2, f3⟩ := kf
  have hB' := hB
  unfold LayB at hB
  unfold Two
  have n0 : nI 3 = 3 := rfl
  have n2 : nI 1 = 1 := rfl
  obtain ⟨m, rfl⟩ : ∃ m, n = m + 98 := ⟨n - 98, by omega⟩
  have hq0 : ¬ q = 0 := by omega
  have p2 : ¬ (12 : Int32) ≤ nI M := nI_ge (b := 12) (by omega) (by omega)
  have p1 : nI M < 12 := nI_lt (b := 12) (by omega) (by omega)
  have p3 : inb (nI M) 12 = true := by rw [inb_nI (by omega)]; simp; omega
  have p4 := ix_nI (show M < 2 ^ 31 by omega)
  have p5 : nI M + 1 = nI (M + 1) := nI_1 M
  have qn : ∀ c, 95 ≤ c → ¬ q = m + c := fun c h => by omega
  have b12 : ∀ (k v : Int32), bnd (mb k) v → bnd 12 v := fun k v hv => by unfold bnd mb at *; split at hv <;> omega
  have fA : ∀ i, i < 9 → fit (I (q + 1) i) := fun i hi => bnd_fit (b12 _ _ (ma i hi).2)
  have fB : ∀ i, i < 3 → fit (I (q + 2) i) := fun i hi => bnd_fit (b12 _ _ (mbb i hi).2)
  have fK : ∀ i, i < 3 → fit (I (q + 3) i) := fun i hi => bnd_fit (b12 _ _ (mcc i hi).2)
  have fD : fit (I (q + 4) 0) := bnd_fit (b12 _ _ mdb)
  simp [S64_0, S64_1, S64_2, S64_3, S87_0, S91_0, S45_0, S37_0, S51_0, S51_1, S100_0, S100_1, S100_2, S95_0, Call_in (k2 := 87), Call_in (k2 := 91), Call_in (k2 := 45), Call_in (k2 := 37), Call_in (k2 := 51), Call_in (k2 := 100), Call_in (k2 := 95), c_bc0, c_bc1, c_bc2, c_bc3, c_bc4, c_bc5, c_bc6, c_bc7, BS, ixs, inbs, le_nlt, hB, at_yesG hB' hM12 hj, e1, a1, hq0, f1, f2, r3, r4, r5, r6, c1, c2, c3, c4, z1, z2, z3, z4, a6, n0, p1, p2, p3, p4, p5, nI_pred, shr8, shl4, va_up_rd, u2_rd, qn, Nat.add_assoc, inGs, okS]
  refine part_fin (n := m + 98) (sl := sl) (sl' := sl + 23) (s := 1) (u := I q 2) h7 hMl (by omega) (by rw [a8]; exact a9) (by omega) (fun i hi => ?_) (fun i hi => ?_) (fun i hi => ?_) (fun i hi => ?_) (fun i hi => ?_) ?_ ?_ ?_ ?_ (fun i k hi hk hz => ?_) (fun i hi hz => ?_) (fun p hp => ?_) (fun p hp => ?_) (fun p hp => ?_) ?_ ?_ (fun I3 L3 R3 Q lm i3' go => ?_)
  · repeat (first | rw [va_up_no _ _ (by omega)] | rw [u2_ne _ _ _ (by omega)])
  · repeat (first | rw [va_up_no _ _ (by omega)] | rw [u2_ne _ _ _ (by omega)])
  · repeat (first | rw [va_up_no _ _ (by omega)] | rw [u2_ne _ _ _ (by omega)])
  · repeat (first | rw [va_up_no _ _ (by omega)] | rw [u2_ne _ _ _ (by omega)])
  · repeat (first | rw [va_up_no _ _ (by omega)] | rw [u2_ne _ _ _ (by omega)])
  · simp [va_up_rd]
  · simp [va_up_rd, u2_rd]
  · simp [va_up_rd]
  · simp [va_up_rd, u2_rd, n2]
  · rcases i3 hi with rfl | rfl | rfl <;> rcases i3 hk with rfl | rfl | rfl <;> first | (exact absurd hz (by omega)) | simp [va_up_rd, u2_rd]
  · rcases i3 hi with rfl | rfl | rfl <;> first | (exact absurd hz (by omega)) | simp [va_up_rd, u2_rd]
  · rcases i9 hp with rfl | rfl | rfl | rfl | rfl | rfl | rfl | rfl | rfl <;> simp [va_up_rd, u2_rd, fit_0, fA, fB, fK, fD]
  · rcases i3 hp with rfl | rfl | rfl <;> simp [va_up_rd, u2_rd, fit_0, fA, fB, fK, fD]
  · rcases i3 hp with rfl | rfl | rfl <;> simp [va_up_rd, u2_rd, fit_0, fA, fB, fK, fD]
  · simp [va_up_rd, u2_rd, fit_0, fA, fB, fK, fD]
  · intro h0; exact absurd h0 (by decide)
  · have w74 := i3' 74 (by omega) (by omega)
    have w75 := i3' 75 (by omega) (by omega)
    have w76 := i3' 76 (by omega) (by omega)
    have w77 := i3' 77 (by omega) (by omega)
    have w78 := i3' 78 (by omega) (by omega)
    have w79 := i3' 79 (by omega) (by omega)
    have w80 := i3' 80 (by omega) (by omega)
    have w81 := i3' 81 (by omega) (by omega)
    have Af : ∀ i, i < 9 → I 79 (9 * j + i) = I (q + 1) i := fun i hi => (ma i hi).1
    have Af0 : I 79 (9 * j) = I (q + 1) 0 := Af 0 (by omega)
    have Bf : ∀ i, i < 3 → I 80 (3 * j + i) = I (q + 2) i := fun i hi => (mbb i hi).1
    have Bf0 : I 80 (3 * j) = I (q + 2) 0 := Bf 0 (by omega)
    have Kf : ∀ i, i < 3 → I 81 (3 * j + i) = I (q + 3) i := fun i hi => (mcc i hi).1
    have Kf0 : I 81 (3 * j) = I (q + 3) 0 := Kf 0 (by omega)
    refine m_part3_2 (I := I3) lm hM12 hj (by rw [w74]; exact e2) (by rw [w75]; exact f3) (by rw [w76]; exact a7) (fun I4 ls g1 g2 => ?_)
    have go2 := go I4 120 185 ls Q (fun v h => by simp [S120_0, S120_1, S120_2, S120_3, S120_4]) g1 (fun i k hi hk => ?_) (fun i hi => ?_)
    · simpa [va_up_rd, u2_rd, w77, w78, md, a8] using go2
    · first | (exact absurd hi (by omega)) | (rcases i3 (show i < 3 by omega) with rfl | rfl | rfl <;> rcases i3 (show k < 3 by omega) with rfl | rfl | rfl <;> first | (exact absurd hi (by omega)) | (exact absurd hk (by omega)) | simp [va_up_rd, u2_rd, g2, w79, Af, Af0])
    · first | (exact absurd hi (by omega)) | (rcases i3 (show i < 3 by omega) with rfl | rfl | rfl <;> first | (exact absurd hi (by omega)) | simp [va_up_rd, u2_rd, g2, w80, w81, Bf, Bf0, Kf, Kf0])

set_option maxRecDepth 100000 in
set_option maxHeartbeats 8000000 in
theorem two_part3_3 {n sl : Nat} {C Z : Nat → Nat} {I : Nat → Nat → Int32} {L : Nat → Nat → Int64} {R : Nat → Nat → Nat} {M rn t j q : Nat} (h7 : Inv7 n C Z I L R M rn t) (hMl : M < 12) (hj : j < M) (hq : MOK n C Z I R j q 3) (kf : inG 7 (C q) = true ∧ isa (C q) 1 = false ∧ ¬ I 75 j = 1) : Two 64 120 [some (.ref 1), some (.int (nI j)), some (.int 3), none, none, none, none] [some (.ref 74), some (.int (nI j)), some (.int 3), none, none, none, none] (n, sl, C, Z, I, L, R) := by
  obtain ⟨hM12, hn98, ⟨hB, hK, hO, hE, hM⟩, ⟨e1, e2⟩, hms, hss, hap, ⟨hrn, e3, e4, hrw⟩, ht, e5, e6, htr⟩ := id h7
  obtain ⟨a1, a2, a3, a4, ⟨a5, hs3, a6, a7⟩, ⟨a8, a9⟩, ⟨r3, r4, r5, r6⟩, ⟨c1, c2, c3, c4, z1, z2, z3, z4⟩, ma, mbb, mcc, ⟨md, mdb⟩, za, zb⟩ := id hq
  obtain ⟨f1, f2, f3⟩ := kf
  have hB' := hB
  unfold LayB at hB
  unfold Two
  have n0 : nI 3 = 3 := rfl
  have n2 : nI 2 = 2 := rfl
  obtain ⟨m, rfl⟩ : ∃ m, n = m + 98 := ⟨n - 98, by omega⟩
  have hq0 : ¬ q = 0 := by omega
  have p2 : ¬ (12 : Int32) ≤ nI M := nI_ge (b := 12) (by omega) (by omega)
  have p1 : nI M < 12 := nI_lt (b := 12) (by omega) (by omega)
  have p3 : inb (nI M) 12 = true := by rw [inb_nI (by omega)]; simp; omega
  have p4 := ix_nI (show M < 2 ^ 31 by omega)
  have p5 : nI M + 1 = nI (M + 1) := nI_1 M
  have qn : ∀ c, 95 ≤ c → ¬ q = m + c := fun c h => by omega
  have b12 : ∀ (k v : Int32), bnd (mb k) v → bnd 12 v := fun k v hv => by unfold bnd mb at *; split at hv <;> omega
  have fA : ∀ i, i < 9 → fit (I (q + 1) i) := fun i hi => bnd_fit (b12 _ _ (ma i hi).2)
  have fB : ∀ i, i < 3 → fit (I (q + 2) i) := fun i hi => bnd_fit (b12 _ _ (mbb i hi).2)
  have fK : ∀ i, i < 3 → fit (I (q + 3) i) := fun i hi => bnd_fit (b12 _ _ (mcc i hi).2)
  have fD : fit (I (q + 4) 0) := bnd_fit (b12 _ _ mdb)
  simp [S64_0, S64_1, S64_2, S64_3, S87_0, S91_0, S45_0, S37_0, S51_0, S51_1, S100_0, S100_1, S100_2, S95_0, Call_in (k2 := 87), Call_in (k2 := 91), Call_in (k2 := 45), Call_in (k2 := 37), Call_in (k2 := 51), Call_in (k2 := 100), Call_in (k2 := 95), c_bc0, c_bc1, c_bc2, c_bc3, c_bc4, c_bc5, c_bc6, c_bc7, BS, ixs, inbs, le_nlt, hB, at_yesG hB' hM12 hj, e1, a1, hq0, f1, f2, r3, r4, r5, r6, c1, c2, c3, c4, z1, z2, z3, z4, a6, n0, p1, p2, p3, p4, p5, nI_pred, shr8, shl4, va_up_rd, u2_rd, qn, Nat.add_assoc, inGs, okS]
  refine part_fin (n := m + 98) (sl := sl) (sl' := sl + 23) (s := 2) (u := I q 2) h7 hMl (by omega) (by rw [a8]; exact a9) (by omega) (fun i hi => ?_) (fun i hi => ?_) (fun i hi => ?_) (fun i hi => ?_) (fun i hi => ?_) ?_ ?_ ?_ ?_ (fun i k hi hk hz => ?_) (fun i hi hz => ?_) (fun p hp => ?_) (fun p hp => ?_) (fun p hp => ?_) ?_ ?_ (fun I3 L3 R3 Q lm i3' go => ?_)
  · repeat (first | rw [va_up_no _ _ (by omega)] | rw [u2_ne _ _ _ (by omega)])
  · repeat (first | rw [va_up_no _ _ (by omega)] | rw [u2_ne _ _ _ (by omega)])
  · repeat (first | rw [va_up_no _ _ (by omega)] | rw [u2_ne _ _ _ (by omega)])
  · repeat (first | rw [va_up_no _ _ (by omega)] | rw [u2_ne _ _ _ (by omega)])
  · repeat (first | rw [va_up_no _ _ (by omega)] | rw [u2_ne _ _ _ (by omega)])
  · simp [va_up_rd]
  · simp [va_up_rd, u2_rd]
  · simp [va_up_rd]
  · simp [va_up_rd, u2_rd, n2]
  · rcases i3 hi with rfl | rfl | rfl <;> rcases i3 hk with rfl | rfl | rfl <;> first | (exact absurd hz (by omega)) | simp [va_up_rd, u2_rd]
  · rcases i3 hi with rfl | rfl | rfl <;> first | (exact absurd hz (by omega)) | simp [va_up_rd, u2_rd]
  · rcases i9 hp with rfl | rfl | rfl | rfl | rfl | rfl | rfl | rfl | rfl <;> simp [va_up_rd, u2_rd, fit_0, fA, fB, fK, fD]
  · rcases i3 hp with rfl | rfl | rfl <;> simp [va_up_rd, u2_rd, fit_0, fA, fB, fK, fD]
  · rcases i3 hp with rfl | rfl | rfl <;> simp [va_up_rd, u2_rd, fit_0, fA, fB, fK, fD]
  · simp [va_up_rd, u2_rd, fit_0, fA, fB, fK, fD]
  · intro h0; exact absurd h0 (by decide)
  · have w74 := i3' 74 (by omega) (by omega)
    have w75 := i3' 75 (by omega) (by omega)
    have w76 := i3' 76 (by omega) (by omega)
    have w77 := i3' 77 (by omega) (by omega)
    have w78 := i3' 78 (by omega) (by omega)
    have w79 := i3' 79 (by omega) (by omega)
    have w80 := i3' 80 (by omega) (by omega)
    have w81 := i3' 81 (by omega) (by omega)
    have Af : ∀ i, i < 9 → I 79 (9 * j + i) = I (q + 1) i := fun i hi => (ma i hi).1
    have Af0 : I 79 (9 * j) = I (q + 1) 0 := Af 0 (by omega)
    have Bf : ∀ i, i < 3 → I 80 (3 * j + i) = I (q + 2) i := fun i hi => (mbb i hi).1
    have Bf0 : I 80 (3 * j) = I (q + 2) 0 := Bf 0 (by omega)
    have Kf : ∀ i, i < 3 → I 81 (3 * j + i) = I (q + 3) i := fun i hi => (mcc i hi).1
    have Kf0 : I 81 (3 * j) = I (q + 3) 0 := Kf 0 (by omega)
    refine m_part3_3 (I := I3) lm hM12 hj (by rw [w74]; exact e2) (by rw [w75]; exact f3) (by rw [w76]; exact a7) (fun I4 ls g1 g2 => ?_)
    have go2 := go I4 120 185 ls Q (fun v h => by simp [S120_0, S120_1, S120_2, S120_3, S120_4]) g1 (fun i k hi hk => ?_) (fun i hi => ?_)
    · simpa [va_up_rd, u2_rd, w77, w78, md, a8] using go2
    · first | (exact absurd hi (by omega)) | (rcases i3 (show i < 3 by omega) with rfl | rfl | rfl <;> rcases i3 (show k < 3 by omega) with rfl | rfl | rfl <;> first | (exact absurd hi (by omega)) | (exact absurd hk (by omega)) | simp [va_up_rd, u2_rd, g2, w79, Af, Af0])
    · first | (exact absurd hi (by omega)) | (rcases i3 (show i < 3 by omega) with rfl | rfl | rfl <;> first | (exact absurd hi (by omega)) | simp [va_up_rd, u2_rd, g2, w80, w81, Bf, Bf0, Kf, Kf0])

set_option maxRecDepth 100000 in
set_option maxHeartbeats 8000000 in
theorem two_part3_4 {n sl : Nat} {C Z : Nat → Nat} {I : Nat → Nat → Int32} {L : Nat → Nat → Int64} {R : Nat → Nat → Nat} {M rn t j q : Nat} (h7 : Inv7 n C Z I L R M rn t) (hMl : M < 12) (hj : j < M) (hq : MOK n C Z I R j q 3) (kf : inG 7 (C q) = true ∧ isa (C q) 1 = false ∧ ¬ I 75 j = 1) : Two 64 120 [some (.ref 1), some (.int (nI j)), some (.int 4), none, none, none, none] [some (.ref 74), some (.int (nI j)), some (.int 4), none, none, none, none] (n, sl, C, Z, I, L, R) := by
  obtain ⟨hM12, hn98, ⟨hB, hK, hO, hE, hM⟩, ⟨e1, e2⟩, hms, hss, hap, ⟨hrn, e3, e4, hrw⟩, ht, e5, e6, htr⟩ := id h7
  obtain ⟨a1, a2, a3, a4, ⟨a5, hs3, a6, a7⟩, ⟨a8, a9⟩, ⟨r3, r4, r5, r6⟩, ⟨c1, c2, c3, c4, z1, z2, z3, z4⟩, ma, mbb, mcc, ⟨md, mdb⟩, za, zb⟩ := id hq
  obtain ⟨f1, f2, f3⟩ := kf
  have hB' := hB
  unfold LayB at hB
  unfold Two
  have n0 : nI 3 = 3 := rfl
  have n2 : nI 1 = 1 := rfl
  obtain ⟨m, rfl⟩ : ∃ m, n = m + 98 := ⟨n - 98, by omega⟩
  have hq0 : ¬ q = 0 := by omega
  have p2 : ¬ (12 : Int32) ≤ nI M := nI_ge (b := 12) (by omega) (by omega)
  have p1 : nI M < 12 := nI_lt (b := 12) (by omega) (by omega)
  have p3 : inb (nI M) 12 = true := by rw [inb_nI (by omega)]; simp; omega
  have p4 := ix_nI (show M < 2 ^ 31 by omega)
  have p5 : nI M + 1 = nI (M + 1) := nI_1 M
  have qn : ∀ c, 95 ≤ c → ¬ q = m + c := fun c h => by omega
  have b12 : ∀ (k v : Int32), bnd (mb k) v → bnd 12 v := fun k v hv => by unfold bnd mb at *; split at hv <;> omega
  have fA : ∀ i, i < 9 → fit (I (q + 1) i) := fun i hi => bnd_fit (b12 _ _ (ma i hi).2)
  have fB : ∀ i, i < 3 → fit (I (q + 2) i) := fun i hi => bnd_fit (b12 _ _ (mbb i hi).2)
  have fK : ∀ i, i < 3 → fit (I (q + 3) i) := fun i hi => bnd_fit (b12 _ _ (mcc i hi).2)
  have fD : fit (I (q + 4) 0) := bnd_fit (b12 _ _ mdb)
  simp [S64_0, S64_1, S64_2, S64_3, S87_0, S91_0, S45_0, S37_0, S51_0, S51_1, S100_0, S100_1, S100_2, S95_0, Call_in (k2 := 87), Call_in (k2 := 91), Call_in (k2 := 45), Call_in (k2 := 37), Call_in (k2 := 51), Call_in (k2 := 100), Call_in (k2 := 95), c_bc0, c_bc1, c_bc2, c_bc3, c_bc4, c_bc5, c_bc6, c_bc7, BS, ixs, inbs, le_nlt, hB, at_yesG hB' hM12 hj, e1, a1, hq0, f1, f2, r3, r4, r5, r6, c1, c2, c3, c4, z1, z2, z3, z4, a6, n0, p1, p2, p3, p4, p5, nI_pred, shr8, shl4, va_up_rd, u2_rd, qn, Nat.add_assoc, inGs, okS]
  refine part_fin (n := m + 98) (sl := sl) (sl' := sl + 23) (s := 1) (u := I q 2) h7 hMl (by omega) (by rw [a8]; exact a9) (by omega) (fun i hi => ?_) (fun i hi => ?_) (fun i hi => ?_) (fun i hi => ?_) (fun i hi => ?_) ?_ ?_ ?_ ?_ (fun i k hi hk hz => ?_) (fun i hi hz => ?_) (fun p hp => ?_) (fun p hp => ?_) (fun p hp => ?_) ?_ ?_ (fun I3 L3 R3 Q lm i3' go => ?_)
  · repeat (first | rw [va_up_no _ _ (by omega)] | rw [u2_ne _ _ _ (by omega)])
  · repeat (first | rw [va_up_no _ _ (by omega)] | rw [u2_ne _ _ _ (by omega)])
  · repeat (first | rw [va_up_no _ _ (by omega)] | rw [u2_ne _ _ _ (by omega)])
  · repeat (first | rw [va_up_no _ _ (by omega)] | rw [u2_ne _ _ _ (by omega)])
  · repeat (first | rw [va_up_no _ _ (by omega)] | rw [u2_ne _ _ _ (by omega)])
  · simp [va_up_rd]
  · simp [va_up_rd, u2_rd]
  · simp [va_up_rd]
  · simp [va_up_rd, u2_rd, n2]
  · rcases i3 hi with rfl | rfl | rfl <;> rcases i3 hk with rfl | rfl | rfl <;> first | (exact absurd hz (by omega)) | simp [va_up_rd, u2_rd]
  · rcases i3 hi with rfl | rfl | rfl <;> first | (exact absurd hz (by omega)) | simp [va_up_rd, u2_rd]
  · rcases i9 hp with rfl | rfl | rfl | rfl | rfl | rfl | rfl | rfl | rfl <;> simp [va_up_rd, u2_rd, fit_0, fA, fB, fK, fD]
  · rcases i3 hp with rfl | rfl | rfl <;> simp [va_up_rd, u2_rd, fit_0, fA, fB, fK, fD]
  · rcases i3 hp with rfl | rfl | rfl <;> simp [va_up_rd, u2_rd, fit_0, fA, fB, fK, fD]
  · simp [va_up_rd, u2_rd, fit_0, fA, fB, fK, fD]
  · intro h0; exact absurd h0 (by decide)
  · have w74 := i3' 74 (by omega) (by omega)
    have w75 := i3' 75 (by omega) (by omega)
    have w76 := i3' 76 (by omega) (by omega)
    have w77 := i3' 77 (by omega) (by omega)
    have w78 := i3' 78 (by omega) (by omega)
    have w79 := i3' 79 (by omega) (by omega)
    have w80 := i3' 80 (by omega) (by omega)
    have w81 := i3' 81 (by omega) (by omega)
    have Af : ∀ i, i < 9 → I 79 (9 * j + i) = I (q + 1) i := fun i hi => (ma i hi).1
    have Af0 : I 79 (9 * j) = I (q + 1) 0 := Af 0 (by omega)
    have Bf : ∀ i, i < 3 → I 80 (3 * j + i) = I (q + 2) i := fun i hi => (mbb i hi).1
    have Bf0 : I 80 (3 * j) = I (q + 2) 0 := Bf 0 (by omega)
    have Kf : ∀ i, i < 3 → I 81 (3 * j + i) = I (q + 3) i := fun i hi => (mcc i hi).1
    have Kf0 : I 81 (3 * j) = I (q + 3) 0 := Kf 0 (by omega)
    refine m_part3_4 (I := I3) lm hM12 hj (by rw [w74]; exact e2) (by rw [w75]; exact f3) (by rw [w76]; exact a7) (fun I4 ls g1 g2 => ?_)
    have go2 := go I4 120 185 ls Q (fun v h => by simp [S120_0, S120_1, S120_2, S120_3, S120_4]) g1 (fun i k hi hk => ?_) (fun i hi => ?_)
    · simpa [va_up_rd, u2_rd, w77, w78, md, a8] using go2
    · first | (exact absurd hi (by omega)) | (rcases i3 (show i < 3 by omega) with rfl | rfl | rfl <;> rcases i3 (show k < 3 by omega) with rfl | rfl | rfl <;> first | (exact absurd hi (by omega)) | (exact absurd hk (by omega)) | simp [va_up_rd, u2_rd, g2, w79, Af, Af0])
    · first | (exact absurd hi (by omega)) | (rcases i3 (show i < 3 by omega) with rfl | rfl | rfl <;> first | (exact absurd hi (by omega)) | simp [va_up_rd, u2_rd, g2, w80, w81, Bf, Bf0, Kf, Kf0])

set_option maxRecDepth 100000 in
set_option maxHeartbeats 8000000 in
theorem two_part3_5 {n sl : Nat} {C Z : Nat → Nat} {I : Nat → Nat → Int32} {L : Nat → Nat → Int64} {R : Nat → Nat → Nat} {M rn t j q : Nat} (h7 : Inv7 n C Z I L R M rn t) (hMl : M < 12) (hj : j < M) (hq : MOK n C Z I R j q 3) (kf : inG 7 (C q) = true ∧ isa (C q) 1 = false ∧ ¬ I 75 j = 1) : Two 64 120 [some (.ref 1), some (.int (nI j)), some (.int 5), none, none, none, none] [some (.ref 74), some (.int (nI j)), some (.int 5), none, none, none, none] (n, sl, C, Z, I, L, R) := by
  obtain ⟨hM12, hn98, ⟨hB, hK, hO, hE, hM⟩, ⟨e1, e2⟩, hms, hss, hap, ⟨hrn, e3, e4, hrw⟩, ht, e5, e6, htr⟩ := id h7
  obtain ⟨a1, a2, a3, a4, ⟨a5, hs3, a6, a7⟩, ⟨a8, a9⟩, ⟨r3, r4, r5, r6⟩, ⟨c1, c2, c3, c4, z1, z2, z3, z4⟩, ma, mbb, mcc, ⟨md, mdb⟩, za, zb⟩ := id hq
  obtain ⟨f1, f2, f3⟩ := kf
  have hB' := hB
  unfold LayB at hB
  unfold Two
  have n0 : nI 3 = 3 := rfl
  have n2 : nI 2 = 2 := rfl
  obtain ⟨m, rfl⟩ : ∃ m, n = m + 98 := ⟨n - 98, by omega⟩
  have hq0 : ¬ q = 0 := by omega
  have p2 : ¬ (12 : Int32) ≤ nI M := nI_ge (b := 12) (by omega) (by omega)
  have p1 : nI M < 12 := nI_lt (b := 12) (by omega) (by omega)
  have p3 : inb (nI M) 12 = true := by rw [inb_nI (by omega)]; simp; omega
  have p4 := ix_nI (show M < 2 ^ 31 by omega)
  have p5 : nI M + 1 = nI (M + 1) := nI_1 M
  have qn : ∀ c, 95 ≤ c → ¬ q = m + c := fun c h => by omega
  have b12 : ∀ (k v : Int32), bnd (mb k) v → bnd 12 v := fun k v hv => by unfold bnd mb at *; split at hv <;> omega
  have fA : ∀ i, i < 9 → fit (I (q + 1) i) := fun i hi => bnd_fit (b12 _ _ (ma i hi).2)
  have fB : ∀ i, i < 3 → fit (I (q + 2) i) := fun i hi => bnd_fit (b12 _ _ (mbb i hi).2)
  have fK : ∀ i, i < 3 → fit (I (q + 3) i) := fun i hi => bnd_fit (b12 _ _ (mcc i hi).2)
  have fD : fit (I (q + 4) 0) := bnd_fit (b12 _ _ mdb)
  simp [S64_0, S64_1, S64_2, S64_3, S87_0, S91_0, S45_0, S37_0, S51_0, S51_1, S100_0, S100_1, S100_2, S95_0, Call_in (k2 := 87), Call_in (k2 := 91), Call_in (k2 := 45), Call_in (k2 := 37), Call_in (k2 := 51), Call_in (k2 := 100), Call_in (k2 := 95), c_bc0, c_bc1, c_bc2, c_bc3, c_bc4, c_bc5, c_bc6, c_bc7, BS, ixs, inbs, le_nlt, hB, at_yesG hB' hM12 hj, e1, a1, hq0, f1, f2, r3, r4, r5, r6, c1, c2, c3, c4, z1, z2, z3, z4, a6, n0, p1, p2, p3, p4, p5, nI_pred, shr8, shl4, va_up_rd, u2_rd, qn, Nat.add_assoc, inGs, okS]
  refine part_fin (n := m + 98) (sl := sl) (sl' := sl + 23) (s := 2) (u := I q 2) h7 hMl (by omega) (by rw [a8]; exact a9) (by omega) (fun i hi => ?_) (fun i hi => ?_) (fun i hi => ?_) (fun i hi => ?_) (fun i hi => ?_) ?_ ?_ ?_ ?_ (fun i k hi hk hz => ?_) (fun i hi hz => ?_) (fun p hp => ?_) (fun p hp => ?_) (fun p hp => ?_) ?_ ?_ (fun I3 L3 R3 Q lm i3' go => ?_)
  · repeat (first | rw [va_up_no _ _ (by omega)] | rw [u2_ne _ _ _ (by omega)])
  · repeat (first | rw [va_up_no _ _ (by omega)] | rw [u2_ne _ _ _ (by omega)])
  · repeat (first | rw [va_up_no _ _ (by omega)] | rw [u2_ne _ _ _ (by omega)])
  · repeat (first | rw [va_up_no _ _ (by omega)] | rw [u2_ne _ _ _ (by omega)])
  · repeat (first | rw [va_up_no _ _ (by omega)] | rw [u2_ne _ _ _ (by omega)])
  · simp [va_up_rd]
  · simp [va_up_rd, u2_rd]
  · simp [va_up_rd]
  · simp [va_up_rd, u2_rd, n2]
  · rcases i3 hi with rfl | rfl | rfl <;> rcases i3 hk with rfl | rfl | rfl <;> first | (exact absurd hz (by omega)) | simp [va_up_rd, u2_rd]
  · rcases i3 hi with rfl | rfl | rfl <;> first | (exact absurd hz (by omega)) | simp [va_up_rd, u2_rd]
  · rcases i9 hp with rfl | rfl | rfl | rfl | rfl | rfl | rfl | rfl | rfl <;> simp [va_up_rd, u2_rd, fit_0, fA, fB, fK, fD]
  · rcases i3 hp with rfl | rfl | rfl <;> simp [va_up_rd, u2_rd, fit_0, fA, fB, fK, fD]
  · rcases i3 hp with rfl | rfl | rfl <;> simp [va_up_rd, u2_rd, fit_0, fA, fB, fK, fD]
  · simp [va_up_rd, u2_rd, fit_0, fA, fB, fK, fD]
  · intro h0; exact absurd h0 (by decide)
  · have w74 := i3' 74 (by omega) (by omega)
    have w75 := i3' 75 (by omega) (by omega)
    have w76 := i3' 76 (by omega) (by omega)
    have w77 := i3' 77 (by omega) (by omega)
    have w78 := i3' 78 (by omega) (by omega)
    have w79 := i3' 79 (by omega) (by omega)
    have w80 := i3' 80 (by omega) (by omega)
    have w81 := i3' 81 (by omega) (by omega)
    have Af : ∀ i, i < 9 → I 79 (9 * j + i) = I (q + 1) i := fun i hi => (ma i hi).1
    have Af0 : I 79 (9 * j) = I (q + 1) 0 := Af 0 (by omega)
    have Bf : ∀ i, i < 3 → I 80 (3 * j + i) = I (q + 2) i := fun i hi => (mbb i hi).1
    have Bf0 : I 80 (3 * j) = I (q + 2) 0 := Bf 0 (by omega)
    have Kf : ∀ i, i < 3 → I 81 (3 * j + i) = I (q + 3) i := fun i hi => (mcc i hi).1
    have Kf0 : I 81 (3 * j) = I (q + 3) 0 := Kf 0 (by omega)
    refine m_part3_5 (I := I3) lm hM12 hj (by rw [w74]; exact e2) (by rw [w75]; exact f3) (by rw [w76]; exact a7) (fun I4 ls g1 g2 => ?_)
    have go2 := go I4 120 185 ls Q (fun v h => by simp [S120_0, S120_1, S120_2, S120_3, S120_4]) g1 (fun i k hi hk => ?_) (fun i hi => ?_)
    · simpa [va_up_rd, u2_rd, w77, w78, md, a8] using go2
    · first | (exact absurd hi (by omega)) | (rcases i3 (show i < 3 by omega) with rfl | rfl | rfl <;> rcases i3 (show k < 3 by omega) with rfl | rfl | rfl <;> first | (exact absurd hi (by omega)) | (exact absurd hk (by omega)) | simp [va_up_rd, u2_rd, g2, w79, Af, Af0])
    · first | (exact absurd hi (by omega)) | (rcases i3 (show i < 3 by omega) with rfl | rfl | rfl <;> first | (exact absurd hi (by omega)) | simp [va_up_rd, u2_rd, g2, w80, w81, Bf, Bf0, Kf, Kf0])

set_option maxRecDepth 100000 in
set_option maxHeartbeats 8000000 in
theorem two_part3_6 {n sl : Nat} {C Z : Nat → Nat} {I : Nat → Nat → Int32} {L : Nat → Nat → Int64} {R : Nat → Nat → Nat} {M rn t j q : Nat} (h7 : Inv7 n C Z I L R M rn t) (hMl : M < 12) (hj : j < M) (hq : MOK n C Z I R j q 3) (kf : inG 7 (C q) = true ∧ isa (C q) 1 = false ∧ ¬ I 75 j = 1) : Two 64 120 [some (.ref 1), some (.int (nI j)), some (.int 6), none, none, none, none] [some (.ref 74), some (.int (nI j)), some (.int 6), none, none, none, none] (n, sl, C, Z, I, L, R) := by
  obtain ⟨hM12, hn98, ⟨hB, hK, hO, hE, hM⟩, ⟨e1, e2⟩, hms, hss, hap, ⟨hrn, e3, e4, hrw⟩, ht, e5, e6, htr⟩ := id h7
  obtain ⟨a1, a2, a3, a4, ⟨a5, hs3, a6, a7⟩, ⟨a8, a9⟩, ⟨r3, r4, r5, r6⟩, ⟨c1, c2, c3, c4, z1, z2, z3, z4⟩, ma, mbb, mcc, ⟨md, mdb⟩, za, zb⟩ := id hq
  obtain ⟨f1, f2, f3⟩ := kf
  have hB' := hB
  unfold LayB at hB
  unfold Two
  have n0 : nI 3 = 3 := rfl
  have n2 : nI 2 = 2 := rfl
  obtain ⟨m, rfl⟩ : ∃ m, n = m + 98 := ⟨n - 98, by omega⟩
  have hq0 : ¬ q = 0 := by omega
  have p2 : ¬ (12 : Int32) ≤ nI M := nI_ge (b := 12) (by omega) (by omega)
  have p1 : nI M < 12 := nI_lt (b := 12) (by omega) (by omega)
  have p3 : inb (nI M) 12 = true := by rw [inb_nI (by omega)]; simp; omega
  have p4 := ix_nI (show M < 2 ^ 31 by omega)
  have p5 : nI M + 1 = nI (M + 1) := nI_1 M
  have qn : ∀ c, 95 ≤ c → ¬ q = m + c := fun c h => by omega
  have b12 : ∀ (k v : Int32), bnd (mb k) v → bnd 12 v := fun k v hv => by unfold bnd mb at *; split at hv <;> omega
  have fA : ∀ i, i < 9 → fit (I (q + 1) i) := fun i hi => bnd_fit (b12 _ _ (ma i hi).2)
  have fB : ∀ i, i < 3 → fit (I (q + 2) i) := fun i hi => bnd_fit (b12 _ _ (mbb i hi).2)
  have fK : ∀ i, i < 3 → fit (I (q + 3) i) := fun i hi => bnd_fit (b12 _ _ (mcc i hi).2)
  have fD : fit (I (q + 4) 0) := bnd_fit (b12 _ _ mdb)
  simp [S64_0, S64_1, S64_2, S64_3, S87_0, S91_0, S45_0, S37_0, S51_0, S51_1, S100_0, S100_1, S100_2, S95_0, Call_in (k2 := 87), Call_in (k2 := 91), Call_in (k2 := 45), Call_in (k2 := 37), Call_in (k2 := 51), Call_in (k2 := 100), Call_in (k2 := 95), c_bc0, c_bc1, c_bc2, c_bc3, c_bc4, c_bc5, c_bc6, c_bc7, BS, ixs, inbs, le_nlt, hB, at_yesG hB' hM12 hj, e1, a1, hq0, f1, f2, r3, r4, r5, r6, c1, c2, c3, c4, z1, z2, z3, z4, a6, n0, p1, p2, p3, p4, p5, nI_pred, shr8, shl4, va_up_rd, u2_rd, qn, Nat.add_assoc, inGs, okS]
  refine part_fin (n := m + 98) (sl := sl) (sl' := sl + 23) (s := 2) (u := I q 2) h7 hMl (by omega) (by rw [a8]; exact a9) (by omega) (fun i hi => ?_) (fun i hi => ?_) (fun i hi => ?_) (fun i hi => ?_) (fun i hi => ?_) ?_ ?_ ?_ ?_ (fun i k hi hk hz => ?_) (fun i hi hz => ?_) (fun p hp => ?_) (fun p hp => ?_) (fun p hp => ?_) ?_ ?_ (fun I3 L3 R3 Q lm i3' go => ?_)
  · repeat (first | rw [va_up_no _ _ (by omega)] | rw [u2_ne _ _ _ (by omega)])
  · repeat (first | rw [va_up_no _ _ (by omega)] | rw [u2_ne _ _ _ (by omega)])
  · repeat (first | rw [va_up_no _ _ (by omega)] | rw [u2_ne _ _ _ (by omega)])
  · repeat (first | rw [va_up_no _ _ (by omega)] | rw [u2_ne _ _ _ (by omega)])
  · repeat (first | rw [va_up_no _ _ (by omega)] | rw [u2_ne _ _ _ (by omega)])
  · simp [va_up_rd]
  · simp [va_up_rd, u2_rd]
  · simp [va_up_rd]
  · simp [va_up_rd, u2_rd, n2]
  · rcases i3 hi with rfl | rfl | rfl <;> rcases i3 hk with rfl | rfl | rfl <;> first | (exact absurd hz (by omega)) | simp [va_up_rd, u2_rd]
  · rcases i3 hi with rfl | rfl | rfl <;> first | (exact absurd hz (by omega)) | simp [va_up_rd, u2_rd]
  · rcases i9 hp with rfl | rfl | rfl | rfl | rfl | rfl | rfl | rfl | rfl <;> simp [va_up_rd, u2_rd, fit_0, fA, fB, fK, fD]
  · rcases i3 hp with rfl | rfl | rfl <;> simp [va_up_rd, u2_rd, fit_0, fA, fB, fK, fD]
  · rcases i3 hp with rfl | rfl | rfl <;> simp [va_up_rd, u2_rd, fit_0, fA, fB, fK, fD]
  · simp [va_up_rd, u2_rd, fit_0, fA, fB, fK, fD]
  · intro h0; exact absurd h0 (by decide)
  · have w74 := i3' 74 (by omega) (by omega)
    have w75 := i3' 75 (by omega) (by omega)
    have w76 := i3' 76 (by omega) (by omega)
    have w77 := i3' 77 (by omega) (by omega)
    have w78 := i3' 78 (by omega) (by omega)
    have w79 := i3' 79 (by omega) (by omega)
    have w80 := i3' 80 (by omega) (by omega)
    have w81 := i3' 81 (by omega) (by omega)
    have Af : ∀ i, i < 9 → I 79 (9 * j + i) = I (q + 1) i := fun i hi => (ma i hi).1
    have Af0 : I 79 (9 * j) = I (q + 1) 0 := Af 0 (by omega)
    have Bf : ∀ i, i < 3 → I 80 (3 * j + i) = I (q + 2) i := fun i hi => (mbb i hi).1
    have Bf0 : I 80 (3 * j) = I (q + 2) 0 := Bf 0 (by omega)
    have Kf : ∀ i, i < 3 → I 81 (3 * j + i) = I (q + 3) i := fun i hi => (mcc i hi).1
    have Kf0 : I 81 (3 * j) = I (q + 3) 0 := Kf 0 (by omega)
    refine m_part3_6 (I := I3) lm hM12 hj (by rw [w74]; exact e2) (by rw [w75]; exact f3) (by rw [w76]; exact a7) (fun I4 ls g1 g2 => ?_)
    have go2 := go I4 120 185 ls Q (fun v h => by simp [S120_0, S120_1, S120_2, S120_3, S120_4]) g1 (fun i k hi hk => ?_) (fun i hi => ?_)
    · simpa [va_up_rd, u2_rd, w77, w78, md, a8] using go2
    · first | (exact absurd hi (by omega)) | (rcases i3 (show i < 3 by omega) with rfl | rfl | rfl <;> rcases i3 (show k < 3 by omega) with rfl | rfl | rfl <;> first | (exact absurd hi (by omega)) | (exact absurd hk (by omega)) | simp [va_up_rd, u2_rd, g2, w79, Af, Af0])
    · first | (exact absurd hi (by omega)) | (rcases i3 (show i < 3 by omega) with rfl | rfl | rfl <;> first | (exact absurd hi (by omega)) | simp [va_up_rd, u2_rd, g2, w80, w81, Bf, Bf0, Kf, Kf0])

set_option maxRecDepth 100000 in
set_option maxHeartbeats 8000000 in
theorem two_part3_7 {n sl : Nat} {C Z : Nat → Nat} {I : Nat → Nat → Int32} {L : Nat → Nat → Int64} {R : Nat → Nat → Nat} {M rn t j q : Nat} (h7 : Inv7 n C Z I L R M rn t) (hMl : M < 12) (hj : j < M) (hq : MOK n C Z I R j q 3) (kf : inG 7 (C q) = true ∧ isa (C q) 1 = false ∧ ¬ I 75 j = 1) : Two 64 120 [some (.ref 1), some (.int (nI j)), some (.int 7), none, none, none, none] [some (.ref 74), some (.int (nI j)), some (.int 7), none, none, none, none] (n, sl, C, Z, I, L, R) := by
  obtain ⟨hM12, hn98, ⟨hB, hK, hO, hE, hM⟩, ⟨e1, e2⟩, hms, hss, hap, ⟨hrn, e3, e4, hrw⟩, ht, e5, e6, htr⟩ := id h7
  obtain ⟨a1, a2, a3, a4, ⟨a5, hs3, a6, a7⟩, ⟨a8, a9⟩, ⟨r3, r4, r5, r6⟩, ⟨c1, c2, c3, c4, z1, z2, z3, z4⟩, ma, mbb, mcc, ⟨md, mdb⟩, za, zb⟩ := id hq
  obtain ⟨f1, f2, f3⟩ := kf
  have hB' := hB
  unfold LayB at hB
  unfold Two
  have n0 : nI 3 = 3 := rfl
  have n2 : nI 3 = 3 := rfl
  obtain ⟨m, rfl⟩ : ∃ m, n = m + 98 := ⟨n - 98, by omega⟩
  have hq0 : ¬ q = 0 := by omega
  have p2 : ¬ (12 : Int32) ≤ nI M := nI_ge (b := 12) (by omega) (by omega)
  have p1 : nI M < 12 := nI_lt (b := 12) (by omega) (by omega)
  have p3 : inb (nI M) 12 = true := by rw [inb_nI (by omega)]; simp; omega
  have p4 := ix_nI (show M < 2 ^ 31 by omega)
  have p5 : nI M + 1 = nI (M + 1) := nI_1 M
  have qn : ∀ c, 95 ≤ c → ¬ q = m + c := fun c h => by omega
  have b12 : ∀ (k v : Int32), bnd (mb k) v → bnd 12 v := fun k v hv => by unfold bnd mb at *; split at hv <;> omega
  have fA : ∀ i, i < 9 → fit (I (q + 1) i) := fun i hi => bnd_fit (b12 _ _ (ma i hi).2)
  have fB : ∀ i, i < 3 → fit (I (q + 2) i) := fun i hi => bnd_fit (b12 _ _ (mbb i hi).2)
  have fK : ∀ i, i < 3 → fit (I (q + 3) i) := fun i hi => bnd_fit (b12 _ _ (mcc i hi).2)
  have fD : fit (I (q + 4) 0) := bnd_fit (b12 _ _ mdb)
  simp [S64_0, S64_1, S64_2, S64_3, S87_0, S91_0, S45_0, S37_0, S51_0, S51_1, S100_0, S100_1, S100_2, S95_0, Call_in (k2 := 87), Call_in (k2 := 91), Call_in (k2 := 45), Call_in (k2 := 37), Call_in (k2 := 51), Call_in (k2 := 100), Call_in (k2 := 95), c_bc0, c_bc1, c_bc2, c_bc3, c_bc4, c_bc5, c_bc6, c_bc7, BS, ixs, inbs, le_nlt, hB, at_yesG hB' hM12 hj, e1, a1, hq0, f1, f2, r3, r4, r5, r6, c1, c2, c3, c4, z1, z2, z3, z4, a6, n0, p1, p2, p3, p4, p5, nI_pred, shr8, shl4, va_up_rd, u2_rd, qn, Nat.add_assoc, inGs, okS]
  refine part_fin (n := m + 98) (sl := sl) (sl' := sl + 23) (s := 3) (u := I q 2) h7 hMl (by omega) (by rw [a8]; exact a9) (by omega) (fun i hi => ?_) (fun i hi => ?_) (fun i hi => ?_) (fun i hi => ?_) (fun i hi => ?_) ?_ ?_ ?_ ?_ (fun i k hi hk hz => ?_) (fun i hi hz => ?_) (fun p hp => ?_) (fun p hp => ?_) (fun p hp => ?_) ?_ ?_ (fun I3 L3 R3 Q lm i3' go => ?_)
  · repeat (first | rw [va_up_no _ _ (by omega)] | rw [u2_ne _ _ _ (by omega)])
  · repeat (first | rw [va_up_no _ _ (by omega)] | rw [u2_ne _ _ _ (by omega)])
  · repeat (first | rw [va_up_no _ _ (by omega)] | rw [u2_ne _ _ _ (by omega)])
  · repeat (first | rw [va_up_no _ _ (by omega)] | rw [u2_ne _ _ _ (by omega)])
  · repeat (first | rw [va_up_no _ _ (by omega)] | rw [u2_ne _ _ _ (by omega)])
  · simp [va_up_rd]
  · simp [va_up_rd, u2_rd]
  · simp [va_up_rd]
  · simp [va_up_rd, u2_rd, n2]
  · rcases i3 hi with rfl | rfl | rfl <;> rcases i3 hk with rfl | rfl | rfl <;> first | (exact absurd hz (by omega)) | simp [va_up_rd, u2_rd]
  · rcases i3 hi with rfl | rfl | rfl <;> first | (exact absurd hz (by omega)) | simp [va_up_rd, u2_rd]
  · rcases i9 hp with rfl | rfl | rfl | rfl | rfl | rfl | rfl | rfl | rfl <;> simp [va_up_rd, u2_rd, fit_0, fA, fB, fK, fD]
  · rcases i3 hp with rfl | rfl | rfl <;> simp [va_up_rd, u2_rd, fit_0, fA, fB, fK, fD]
  · rcases i3 hp with rfl | rfl | rfl <;> simp [va_up_rd, u2_rd, fit_0, fA, fB, fK, fD]
  · simp [va_up_rd, u2_rd, fit_0, fA, fB, fK, fD]
  · refine FB.scale (d := 1) (e := 1) hq.FBm (fun i hi => ?_) (fun i hi => ?_) (fun i hi => ?_)
    · rcases i9 hi with rfl | rfl | rfl | rfl | rfl | rfl | rfl | rfl | rfl <;> simp [va_up_rd, u2_rd]
    · rcases i3 hi with rfl | rfl | rfl <;> simp [va_up_rd, u2_rd]
    · rcases i3 hi with rfl | rfl | rfl <;> simp [va_up_rd, u2_rd]
  · have w74 := i3' 74 (by omega) (by omega)
    have w75 := i3' 75 (by omega) (by omega)
    have w76 := i3' 76 (by omega) (by omega)
    have w77 := i3' 77 (by omega) (by omega)
    have w78 := i3' 78 (by omega) (by omega)
    have w79 := i3' 79 (by omega) (by omega)
    have w80 := i3' 80 (by omega) (by omega)
    have w81 := i3' 81 (by omega) (by omega)
    have Af : ∀ i, i < 9 → I 79 (9 * j + i) = I (q + 1) i := fun i hi => (ma i hi).1
    have Af0 : I 79 (9 * j) = I (q + 1) 0 := Af 0 (by omega)
    have Bf : ∀ i, i < 3 → I 80 (3 * j + i) = I (q + 2) i := fun i hi => (mbb i hi).1
    have Bf0 : I 80 (3 * j) = I (q + 2) 0 := Bf 0 (by omega)
    have Kf : ∀ i, i < 3 → I 81 (3 * j + i) = I (q + 3) i := fun i hi => (mcc i hi).1
    have Kf0 : I 81 (3 * j) = I (q + 3) 0 := Kf 0 (by omega)
    refine m_part3_7 (I := I3) lm hM12 hj (by rw [w74]; exact e2) (by rw [w75]; exact f3) (by rw [w76]; exact a7) (fun I4 ls g1 g2 => ?_)
    have go2 := go I4 120 185 ls Q (fun v h => by simp [S120_0, S120_1, S120_2, S120_3, S120_4]) g1 (fun i k hi hk => ?_) (fun i hi => ?_)
    · simpa [va_up_rd, u2_rd, w77, w78, md, a8] using go2
    · first | (exact absurd hi (by omega)) | (rcases i3 (show i < 3 by omega) with rfl | rfl | rfl <;> rcases i3 (show k < 3 by omega) with rfl | rfl | rfl <;> first | (exact absurd hi (by omega)) | (exact absurd hk (by omega)) | simp [va_up_rd, u2_rd, g2, w79, Af, Af0])
    · first | (exact absurd hi (by omega)) | (rcases i3 (show i < 3 by omega) with rfl | rfl | rfl <;> first | (exact absurd hi (by omega)) | simp [va_up_rd, u2_rd, g2, w80, w81, Bf, Bf0, Kf, Kf0])

theorem nIlit : nI 0 = 0 ∧ nI 1 = 1 ∧ nI 2 = 2 ∧ nI 3 = 3 ∧ nI 4 = 4 ∧ nI 5 = 5 ∧ nI 6 = 6 ∧ nI 7 = 7 := by decide +kernel
set_option maxRecDepth 100000 in
set_option maxHeartbeats 16000000 in
/-- part(machine, states) -/
theorem two_part (h : Hp) (hI : Inv h) (x y : Int32) : Two 64 120 [some (.ref 1), some (.int x), some (.int y), none, none, none, none] [some (.ref 74), some (.int x), some (.int y), none, none, none, none] h := by
  obtain ⟨n, sl, C, Z, I, L, R⟩ := h
  obtain ⟨M, rn, t, h7⟩ := id hI
  obtain ⟨hM12, hn98, ⟨hB, hK, hO, hE, hM⟩, ⟨e1, e2⟩, hms, hss, hap, ⟨hrn, e3, e4, hrw⟩, ht, e5, e6, htr⟩ := id h7
  dsimp only at hM12 hn98 hB hK hO hE hM e1 e2 hms hss hap hrn e3 e4 hrw ht e5 e6 htr h7
  have hB' := hB
  have hM' := hM
  unfold LayB at hB
  unfold LayM at hM
  unfold Two
  rcases pk_ix x (n := M) (by omega) with hx | hx | ⟨j, hj, rfl⟩
  · have hm : x < 0 ∨ nI M ≤ x := Or.inl hx
    simp [S64_0, S64_1, S64_2, S64_3, S87_0, S91_0, S120_0, S120_1, S120_2, S120_3, S120_4, at_noG hB' hM12 hm, is_noG hM' hm, Call_in, BS, ixs, inbs, le_nlt, hB, hM, hI, e1, e2]
  · have hm : x < 0 ∨ nI M ≤ x := Or.inr hx
    simp [S64_0, S64_1, S64_2, S64_3, S87_0, S91_0, S120_0, S120_1, S120_2, S120_3, S120_4, at_noG hB' hM12 hm, is_noG hM' hm, Call_in, BS, ixs, inbs, le_nlt, hB, hM, hI, e1, e2]
  · obtain ⟨q, s, hq⟩ := hms j hj
    obtain ⟨a1, a2, a3, a4, ⟨a5, hs3, a6, a7⟩, ⟨a8, a9⟩, ⟨r3, r4, r5, r6⟩, ⟨c1, c2, c3, c4, z1, z2, z3, z4⟩, ma, mbb, mcc, ⟨md, mdb⟩, za, zb⟩ := id hq
    have hq0 : ¬ q = 0 := by omega
    have j0 : inb (nI j) 12 = true := by rw [inb_nI (by omega)]; simp; omega
    have jx := ix_nI (show j < 2 ^ 31 by omega)
    have fin : ∀ (p : Nat) (I4 : Nat → Nat → Int32) (ls : Lo), M = 12 → p ≤ 3 → (∀ i, i ≠ 82 → i ≠ 83 → i ≠ 84 → I4 i = I i) → Call 115 [some (.ref 74), some (.int 3), some (.int (nI p)), some (.int (I 77 j)), some (.int (I 78 j)), none, none, none, none] (n, sl, C, Z, I4, L, R) 120 185 ls [] (fun r2 h2 => r2 = some (.int (-4)) ∧ Inv h2 ∧ h2.1 ≤ n + 5 ∧ h2.2.1 ≤ sl + 42) := fun p I4 ls h12 hp f1 => by
      refine m_keeps hM' hp hM12 (by rw [f1 74 (by omega) (by omega) (by omega)]; exact e2) 3 (I 77 j) (I 78 j) (fun q1 => absurd q1 (by omega)) (fun _ => ?_)
      have fi : Inv (n, sl, C, Z, I4, L, R) := Inv_mk (h7.scr (fun _ _ => rfl) (fun i hi => f1 i (by omega) (by omega) (by omega)) (by rw [f1 74 (by omega) (by omega) (by omega)]; exact ⟨rfl, rfl, rfl⟩) (fun _ _ _ _ => rfl))
      simp [S120_0, S120_1, S120_2, S120_3, S120_4, fi]
    have kin : inG 7 (C q) = true := by rcases a4 with ⟨b, -⟩ | ⟨b, -⟩ | ⟨b, -⟩ | ⟨b, -⟩ <;> rw [b] <;> decide
    have lt0 : ∀ v : Int32, v < 0 → v < 1 ∧ v < 2 ∧ v < 4 ∧ v < 8 := fun v hv => by
      simp only [Int32.lt_iff_toInt_lt] at *
      have q0 : (0 : Int32).toInt = 0 := rfl
      have q1 : (1 : Int32).toInt = 1 := rfl
      have q2 : (2 : Int32).toInt = 2 := rfl
      have q4 : (4 : Int32).toInt = 4 := rfl
      have q8 : (8 : Int32).toInt = 8 := rfl
      omega
    rcases (by omega : s = 0 ∨ s = 1 ∨ s = 2 ∨ s = 3) with e | e | e | e <;> subst e
    · have n0 : nI 0 = 0 := rfl
      rcases pk_ix y (n := 1) (by omega) with hy | hy | ⟨b, hb, rfl⟩
      · have l0 := lt0 y hy
        simp [S64_0, S64_1, S64_2, S64_3, S87_0, S91_0, S120_0, S120_1, S120_2, S120_3, S120_4, at_yesG hB' hM12 hj, is_yesG hM' hM12 hj, e1, e2, Call_in, BS, ixs, inbs, le_nlt, hB, hM, hI, a1, hq0, a6, a7, inGs, n0, j0, jx, shl4, hy, l0, kin]
      · have y0 : ¬ y < 0 := fun h => absurd (Int32.lt_of_lt_of_le h (Int32.le_of_lt (nI_lt (a := 0) (b := 1) (by omega) (by omega)))) (Int32.not_lt.mpr hy)
        have y1 : (0 : Int32) < y := Int32.lt_of_lt_of_le (by decide) hy
        have y2 : ¬ y < (1 : Int32) := Int32.not_lt.mpr hy
        simp [S64_0, S64_1, S64_2, S64_3, S87_0, S91_0, S120_0, S120_1, S120_2, S120_3, S120_4, at_yesG hB' hM12 hj, is_yesG hM' hM12 hj, e1, e2, Call_in, BS, ixs, inbs, le_nlt, hB, hM, hI, a1, hq0, a6, a7, inGs, n0, j0, jx, shl4, y0, y1, y2, kin]
      rcases nflow a4 with ⟨b1, b2⟩ | ⟨k1, k2, k3⟩
      · rcases (by omega : b = 0) with rfl <;> simp [S64_0, S64_1, S64_2, S64_3, S87_0, S91_0, S120_0, S120_1, S120_2, S120_3, S120_4, at_yesG hB' hM12 hj, is_yesG hM' hM12 hj, e1, e2, Call_in, BS, ixs, inbs, le_nlt, hB, hM, hI, a1, hq0, a6, a7, inGs, isas, n0, j0, jx, shl4, b1, b2, nIlit]
      by_cases hf12 : M = 12
      · have e12 : nI M = 12 := by rw [hf12]; rfl
        rcases (by omega : b = 0) with rfl
        · have run := m_part0_0 (sl := sl) (n := n) (L := L) hM' hM12 hj e2 k3 a7 (fun I4 ls f1 _ => fin 0 I4 ls hf12 (by omega) f1)
          simp [S64_0, S64_1, S64_2, S64_3, S87_0, S91_0, at_yesG hB' hM12 hj, Call_in, BS, ixs, inbs, le_nlt, hB, e1, e12, a1, hq0, a6, inGs, n0, shl4, k1, k2, nIlit]
          exact run
      rcases (by omega : b = 0) with rfl
      · exact two_part0_0 h7 (by omega) hj hq ⟨k1, k2, k3⟩
    · have n0 : nI 1 = 1 := rfl
      rcases pk_ix y (n := 2) (by omega) with hy | hy | ⟨b, hb, rfl⟩
      · have l0 := lt0 y hy
        simp [S64_0, S64_1, S64_2, S64_3, S87_0, S91_0, S120_0, S120_1, S120_2, S120_3, S120_4, at_yesG hB' hM12 hj, is_yesG hM' hM12 hj, e1, e2, Call_in, BS, ixs, inbs, le_nlt, hB, hM, hI, a1, hq0, a6, a7, inGs, n0, j0, jx, shl4, hy, l0, kin]
      · have y0 : ¬ y < 0 := fun h => absurd (Int32.lt_of_lt_of_le h (Int32.le_of_lt (nI_lt (a := 0) (b := 2) (by omega) (by omega)))) (Int32.not_lt.mpr hy)
        have y1 : (1 : Int32) < y := Int32.lt_of_lt_of_le (by decide) hy
        have y2 : ¬ y < (2 : Int32) := Int32.not_lt.mpr hy
        simp [S64_0, S64_1, S64_2, S64_3, S87_0, S91_0, S120_0, S120_1, S120_2, S120_3, S120_4, at_yesG hB' hM12 hj, is_yesG hM' hM12 hj, e1, e2, Call_in, BS, ixs, inbs, le_nlt, hB, hM, hI, a1, hq0, a6, a7, inGs, n0, j0, jx, shl4, y0, y1, y2, kin]
      rcases nflow a4 with ⟨b1, b2⟩ | ⟨k1, k2, k3⟩
      · rcases (by omega : b = 0 ∨ b = 1) with rfl | rfl <;> simp [S64_0, S64_1, S64_2, S64_3, S87_0, S91_0, S120_0, S120_1, S120_2, S120_3, S120_4, at_yesG hB' hM12 hj, is_yesG hM' hM12 hj, e1, e2, Call_in, BS, ixs, inbs, le_nlt, hB, hM, hI, a1, hq0, a6, a7, inGs, isas, n0, j0, jx, shl4, b1, b2, nIlit]
      by_cases hf12 : M = 12
      · have e12 : nI M = 12 := by rw [hf12]; rfl
        rcases (by omega : b = 0 ∨ b = 1) with rfl | rfl
        · have run := m_part1_0 (sl := sl) (n := n) (L := L) hM' hM12 hj e2 k3 a7 (fun I4 ls f1 _ => fin 0 I4 ls hf12 (by omega) f1)
          simp [S64_0, S64_1, S64_2, S64_3, S87_0, S91_0, at_yesG hB' hM12 hj, Call_in, BS, ixs, inbs, le_nlt, hB, e1, e12, a1, hq0, a6, inGs, n0, shl4, k1, k2, nIlit]
          exact run
        · have run := m_part1_1 (sl := sl) (n := n) (L := L) hM' hM12 hj e2 k3 a7 (fun I4 ls f1 _ => fin 1 I4 ls hf12 (by omega) f1)
          simp [S64_0, S64_1, S64_2, S64_3, S87_0, S91_0, at_yesG hB' hM12 hj, Call_in, BS, ixs, inbs, le_nlt, hB, e1, e12, a1, hq0, a6, inGs, n0, shl4, k1, k2, nIlit]
          exact run
      rcases (by omega : b = 0 ∨ b = 1) with rfl | rfl
      · exact two_part1_0 h7 (by omega) hj hq ⟨k1, k2, k3⟩
      · exact two_part1_1 h7 (by omega) hj hq ⟨k1, k2, k3⟩
    · have n0 : nI 2 = 2 := rfl
      rcases pk_ix y (n := 4) (by omega) with hy | hy | ⟨b, hb, rfl⟩
      · have l0 := lt0 y hy
        simp [S64_0, S64_1, S64_2, S64_3, S87_0, S91_0, S120_0, S120_1, S120_2, S120_3, S120_4, at_yesG hB' hM12 hj, is_yesG hM' hM12 hj, e1, e2, Call_in, BS, ixs, inbs, le_nlt, hB, hM, hI, a1, hq0, a6, a7, inGs, n0, j0, jx, shl4, hy, l0, kin]
      · have y0 : ¬ y < 0 := fun h => absurd (Int32.lt_of_lt_of_le h (Int32.le_of_lt (nI_lt (a := 0) (b := 4) (by omega) (by omega)))) (Int32.not_lt.mpr hy)
        have y1 : (3 : Int32) < y := Int32.lt_of_lt_of_le (by decide) hy
        have y2 : ¬ y < (4 : Int32) := Int32.not_lt.mpr hy
        simp [S64_0, S64_1, S64_2, S64_3, S87_0, S91_0, S120_0, S120_1, S120_2, S120_3, S120_4, at_yesG hB' hM12 hj, is_yesG hM' hM12 hj, e1, e2, Call_in, BS, ixs, inbs, le_nlt, hB, hM, hI, a1, hq0, a6, a7, inGs, n0, j0, jx, shl4, y0, y1, y2, kin]
      rcases nflow a4 with ⟨b1, b2⟩ | ⟨k1, k2, k3⟩
      · rcases (by omega : b = 0 ∨ b = 1 ∨ b = 2 ∨ b = 3) with rfl | rfl | rfl | rfl <;> simp [S64_0, S64_1, S64_2, S64_3, S87_0, S91_0, S120_0, S120_1, S120_2, S120_3, S120_4, at_yesG hB' hM12 hj, is_yesG hM' hM12 hj, e1, e2, Call_in, BS, ixs, inbs, le_nlt, hB, hM, hI, a1, hq0, a6, a7, inGs, isas, n0, j0, jx, shl4, b1, b2, nIlit]
      by_cases hf12 : M = 12
      · have e12 : nI M = 12 := by rw [hf12]; rfl
        rcases (by omega : b = 0 ∨ b = 1 ∨ b = 2 ∨ b = 3) with rfl | rfl | rfl | rfl
        · have run := m_part2_0 (sl := sl) (n := n) (L := L) hM' hM12 hj e2 k3 a7 (fun I4 ls f1 _ => fin 0 I4 ls hf12 (by omega) f1)
          simp [S64_0, S64_1, S64_2, S64_3, S87_0, S91_0, at_yesG hB' hM12 hj, Call_in, BS, ixs, inbs, le_nlt, hB, e1, e12, a1, hq0, a6, inGs, n0, shl4, k1, k2, nIlit]
          exact run
        · have run := m_part2_1 (sl := sl) (n := n) (L := L) hM' hM12 hj e2 k3 a7 (fun I4 ls f1 _ => fin 1 I4 ls hf12 (by omega) f1)
          simp [S64_0, S64_1, S64_2, S64_3, S87_0, S91_0, at_yesG hB' hM12 hj, Call_in, BS, ixs, inbs, le_nlt, hB, e1, e12, a1, hq0, a6, inGs, n0, shl4, k1, k2, nIlit]
          exact run
        · have run := m_part2_2 (sl := sl) (n := n) (L := L) hM' hM12 hj e2 k3 a7 (fun I4 ls f1 _ => fin 1 I4 ls hf12 (by omega) f1)
          simp [S64_0, S64_1, S64_2, S64_3, S87_0, S91_0, at_yesG hB' hM12 hj, Call_in, BS, ixs, inbs, le_nlt, hB, e1, e12, a1, hq0, a6, inGs, n0, shl4, k1, k2, nIlit]
          exact run
        · have run := m_part2_3 (sl := sl) (n := n) (L := L) hM' hM12 hj e2 k3 a7 (fun I4 ls f1 _ => fin 2 I4 ls hf12 (by omega) f1)
          simp [S64_0, S64_1, S64_2, S64_3, S87_0, S91_0, at_yesG hB' hM12 hj, Call_in, BS, ixs, inbs, le_nlt, hB, e1, e12, a1, hq0, a6, inGs, n0, shl4, k1, k2, nIlit]
          exact run
      rcases (by omega : b = 0 ∨ b = 1 ∨ b = 2 ∨ b = 3) with rfl | rfl | rfl | rfl
      · exact two_part2_0 h7 (by omega) hj hq ⟨k1, k2, k3⟩
      · exact two_part2_1 h7 (by omega) hj hq ⟨k1, k2, k3⟩
      · exact two_part2_2 h7 (by omega) hj hq ⟨k1, k2, k3⟩
      · exact two_part2_3 h7 (by omega) hj hq ⟨k1, k2, k3⟩
    · have n0 : nI 3 = 3 := rfl
      rcases pk_ix y (n := 8) (by omega) with hy | hy | ⟨b, hb, rfl⟩
      · have l0 := lt0 y hy
        simp [S64_0, S64_1, S64_2, S64_3, S87_0, S91_0, S120_0, S120_1, S120_2, S120_3, S120_4, at_yesG hB' hM12 hj, is_yesG hM' hM12 hj, e1, e2, Call_in, BS, ixs, inbs, le_nlt, hB, hM, hI, a1, hq0, a6, a7, inGs, n0, j0, jx, shl4, hy, l0, kin]
      · have y0 : ¬ y < 0 := fun h => absurd (Int32.lt_of_lt_of_le h (Int32.le_of_lt (nI_lt (a := 0) (b := 8) (by omega) (by omega)))) (Int32.not_lt.mpr hy)
        have y1 : (7 : Int32) < y := Int32.lt_of_lt_of_le (by decide) hy
        have y2 : ¬ y < (8 : Int32) := Int32.not_lt.mpr hy
        simp [S64_0, S64_1, S64_2, S64_3, S87_0, S91_0, S120_0, S120_1, S120_2, S120_3, S120_4, at_yesG hB' hM12 hj, is_yesG hM' hM12 hj, e1, e2, Call_in, BS, ixs, inbs, le_nlt, hB, hM, hI, a1, hq0, a6, a7, inGs, n0, j0, jx, shl4, y0, y1, y2, kin]
      rcases nflow a4 with ⟨b1, b2⟩ | ⟨k1, k2, k3⟩
      · rcases (by omega : b = 0 ∨ b = 1 ∨ b = 2 ∨ b = 3 ∨ b = 4 ∨ b = 5 ∨ b = 6 ∨ b = 7) with rfl | rfl | rfl | rfl | rfl | rfl | rfl | rfl <;> simp [S64_0, S64_1, S64_2, S64_3, S87_0, S91_0, S120_0, S120_1, S120_2, S120_3, S120_4, at_yesG hB' hM12 hj, is_yesG hM' hM12 hj, e1, e2, Call_in, BS, ixs, inbs, le_nlt, hB, hM, hI, a1, hq0, a6, a7, inGs, isas, n0, j0, jx, shl4, b1, b2, nIlit]
      by_cases hf12 : M = 12
      · have e12 : nI M = 12 := by rw [hf12]; rfl
        rcases (by omega : b = 0 ∨ b = 1 ∨ b = 2 ∨ b = 3 ∨ b = 4 ∨ b = 5 ∨ b = 6 ∨ b = 7) with rfl | rfl | rfl | rfl | rfl | rfl | rfl | rfl
        · have run := m_part3_0 (sl := sl) (n := n) (L := L) hM' hM12 hj e2 k3 a7 (fun I4 ls f1 _ => fin 0 I4 ls hf12 (by omega) f1)
          simp [S64_0, S64_1, S64_2, S64_3, S87_0, S91_0, at_yesG hB' hM12 hj, Call_in, BS, ixs, inbs, le_nlt, hB, e1, e12, a1, hq0, a6, inGs, n0, shl4, k1, k2, nIlit]
          exact run
        · have run := m_part3_1 (sl := sl) (n := n) (L := L) hM' hM12 hj e2 k3 a7 (fun I4 ls f1 _ => fin 1 I4 ls hf12 (by omega) f1)
          simp [S64_0, S64_1, S64_2, S64_3, S87_0, S91_0, at_yesG hB' hM12 hj, Call_in, BS, ixs, inbs, le_nlt, hB, e1, e12, a1, hq0, a6, inGs, n0, shl4, k1, k2, nIlit]
          exact run
        · have run := m_part3_2 (sl := sl) (n := n) (L := L) hM' hM12 hj e2 k3 a7 (fun I4 ls f1 _ => fin 1 I4 ls hf12 (by omega) f1)
          simp [S64_0, S64_1, S64_2, S64_3, S87_0, S91_0, at_yesG hB' hM12 hj, Call_in, BS, ixs, inbs, le_nlt, hB, e1, e12, a1, hq0, a6, inGs, n0, shl4, k1, k2, nIlit]
          exact run
        · have run := m_part3_3 (sl := sl) (n := n) (L := L) hM' hM12 hj e2 k3 a7 (fun I4 ls f1 _ => fin 2 I4 ls hf12 (by omega) f1)
          simp [S64_0, S64_1, S64_2, S64_3, S87_0, S91_0, at_yesG hB' hM12 hj, Call_in, BS, ixs, inbs, le_nlt, hB, e1, e12, a1, hq0, a6, inGs, n0, shl4, k1, k2, nIlit]
          exact run
        · have run := m_part3_4 (sl := sl) (n := n) (L := L) hM' hM12 hj e2 k3 a7 (fun I4 ls f1 _ => fin 1 I4 ls hf12 (by omega) f1)
          simp [S64_0, S64_1, S64_2, S64_3, S87_0, S91_0, at_yesG hB' hM12 hj, Call_in, BS, ixs, inbs, le_nlt, hB, e1, e12, a1, hq0, a6, inGs, n0, shl4, k1, k2, nIlit]
          exact run
        · have run := m_part3_5 (sl := sl) (n := n) (L := L) hM' hM12 hj e2 k3 a7 (fun I4 ls f1 _ => fin 2 I4 ls hf12 (by omega) f1)
          simp [S64_0, S64_1, S64_2, S64_3, S87_0, S91_0, at_yesG hB' hM12 hj, Call_in, BS, ixs, inbs, le_nlt, hB, e1, e12, a1, hq0, a6, inGs, n0, shl4, k1, k2, nIlit]
          exact run
        · have run := m_part3_6 (sl := sl) (n := n) (L := L) hM' hM12 hj e2 k3 a7 (fun I4 ls f1 _ => fin 2 I4 ls hf12 (by omega) f1)
          simp [S64_0, S64_1, S64_2, S64_3, S87_0, S91_0, at_yesG hB' hM12 hj, Call_in, BS, ixs, inbs, le_nlt, hB, e1, e12, a1, hq0, a6, inGs, n0, shl4, k1, k2, nIlit]
          exact run
        · have run := m_part3_7 (sl := sl) (n := n) (L := L) hM' hM12 hj e2 k3 a7 (fun I4 ls f1 _ => fin 3 I4 ls hf12 (by omega) f1)
          simp [S64_0, S64_1, S64_2, S64_3, S87_0, S91_0, at_yesG hB' hM12 hj, Call_in, BS, ixs, inbs, le_nlt, hB, e1, e12, a1, hq0, a6, inGs, n0, shl4, k1, k2, nIlit]
          exact run
      rcases (by omega : b = 0 ∨ b = 1 ∨ b = 2 ∨ b = 3 ∨ b = 4 ∨ b = 5 ∨ b = 6 ∨ b = 7) with rfl | rfl | rfl | rfl | rfl | rfl | rfl | rfl
      · exact two_part3_0 h7 (by omega) hj hq ⟨k1, k2, k3⟩
      · exact two_part3_1 h7 (by omega) hj hq ⟨k1, k2, k3⟩
      · exact two_part3_2 h7 (by omega) hj hq ⟨k1, k2, k3⟩
      · exact two_part3_3 h7 (by omega) hj hq ⟨k1, k2, k3⟩
      · exact two_part3_4 h7 (by omega) hj hq ⟨k1, k2, k3⟩
      · exact two_part3_5 h7 (by omega) hj hq ⟨k1, k2, k3⟩
      · exact two_part3_6 h7 (by omega) hj hq ⟨k1, k2, k3⟩
      · exact two_part3_7 h7 (by omega) hj hq ⟨k1, k2, k3⟩

