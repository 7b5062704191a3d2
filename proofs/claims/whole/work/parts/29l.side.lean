set_option maxRecDepth 100000 in
set_option maxHeartbeats 8000000 in
theorem two_side_00 {n sl : Nat} {C Z : Nat → Nat} {I : Nat → Nat → Int32} {L : Nat → Nat → Int64} {R : Nat → Nat → Nat} {M rn t f g qf qg : Nat} (h7 : Inv7 n C Z I L R M rn t) (hMl : M < 12) (hf : f < M) (hg : g < M) (hqf : MOK n C Z I R f qf 0) (hqg : MOK n C Z I R g qg 0) (kff : inG 7 (C qf) = true ∧ isa (C qf) 1 = false ∧ ¬ I 75 f = 1) (kfg : inG 7 (C qg) = true ∧ isa (C qg) 1 = false ∧ ¬ I 75 g = 1) (hu : I 77 f = I 77 g) : Two 62 118 [some (.ref 1), some (.int (nI f)), some (.int (nI g))] [some (.ref 74), some (.int (nI f)), some (.int (nI g))] (n, sl, C, Z, I, L, R) := by
  obtain ⟨hM12, hn98, ⟨hB, hK, hO, hE, hM⟩, ⟨e1, e2⟩, hms, hss, hap, ⟨hrn, e3, e4, hrw⟩, ht, e5, e6, htr⟩ := id h7
  obtain ⟨a1f, a2f, a3f, a4f, ⟨a5f, hs3f, a6f, a7f⟩, ⟨a8f, a9f⟩, ⟨r3f, r4f, r5f, r6f⟩, ⟨c1f, c2f, c3f, c4f, z1f, z2f, z3f, z4f⟩, maf, mbbf, mccf, ⟨mdf, mdbf⟩, zaf, zbf⟩ := id hqf
  obtain ⟨a1g, a2g, a3g, a4g, ⟨a5g, hs3g, a6g, a7g⟩, ⟨a8g, a9g⟩, ⟨r3g, r4g, r5g, r6g⟩, ⟨c1g, c2g, c3g, c4g, z1g, z2g, z3g, z4g⟩, mag, mbbg, mccg, ⟨mdg, mdbg⟩, zag, zbg⟩ := id hqg
  obtain ⟨f1f, f2f, f3f⟩ := kff
  obtain ⟨f1g, f2g, f3g⟩ := kfg
  have hB' := hB
  unfold LayB at hB
  unfold Two
  have n0 : nI 0 = 0 := rfl
  have n1 : nI 0 = 0 := rfl
  have n2 : nI 0 = 0 := rfl
  have uu : I qf 2 = I qg 2 := by rw [a8f, a8g]; exact hu
  obtain ⟨m, rfl⟩ : ∃ m, n = m + 98 := ⟨n - 98, by omega⟩
  have hqf0 : ¬ qf = 0 := by omega
  have hqg0 : ¬ qg = 0 := by omega
  have p2 : ¬ (12 : Int32) ≤ nI M := nI_ge (b := 12) (by omega) (by omega)
  have p1 : nI M < 12 := nI_lt (b := 12) (by omega) (by omega)
  have qnf : ∀ c, 95 ≤ c → ¬ qf = m + c := fun c h => by omega
  have qng : ∀ c, 95 ≤ c → ¬ qg = m + c := fun c h => by omega
  have b12 : ∀ (k v : Int32), bnd (mb k) v → bnd 12 v := fun k v hv => by unfold bnd mb at *; split at hv <;> omega
  simp [S62_0, S97_0, S97_1, S97_2, S97_3, S97_4, S91_0, S37_0, S51_0, S51_1, S98_0, S98_1, S98_2, S99_0, S99_1, Call_in (k2 := 97), Call_in (k2 := 91), Call_in (k2 := 37), Call_in (k2 := 51), Call_in (k2 := 98), Call_in (k2 := 99), BS, ixs, inbs, le_nlt, hB, at_yesG hB' hM12 hf, at_yesG hB' hM12 hg, e1, a1f, a1g, hqf0, hqg0, f1f, f2f, f1g, f2g, uu, r3f, r4f, r5f, r6f, c1f, c2f, c3f, c4f, z1f, z2f, z3f, z4f, a6f, r3g, r4g, r5g, r6g, c1g, c2g, c3g, c4g, z1g, z2g, z3g, z4g, a6g, n0, n1, p1, p2, va_up_rd, u2_rd, qnf, qng, Nat.add_assoc, inGs]
  refine join_fin (km := 118) (lm := [some (.ref 74), some (.int (nI f)), some (.int (nI g))]) (n := m + 98) (sl := sl) (sl' := sl + 23) (s := 0) (u := I qg 2) h7 hMl (by omega) (by rw [a8g]; exact a9g) (by omega) (fun i hi => ?_) (fun i hi => ?_) (fun i hi => ?_) (fun i hi => ?_) (fun i hi => ?_) ?_ ?_ ?_ ?_ (fun i k hi hk hz => ?_) (fun i hi hz => ?_) (fun y1 y2 y3 => ?_) (fun v h => ?_) (fun I3 L3 R3 Q lm i3' go => ?_)
  · repeat (first | rw [va_up_no _ _ (by omega)] | rw [u2_ne _ _ _ (by omega)])
  · repeat (first | rw [va_up_no _ _ (by omega)] | rw [u2_ne _ _ _ (by omega)])
  · repeat (first | rw [va_up_no _ _ (by omega)] | rw [u2_ne _ _ _ (by omega)])
  · repeat (first | rw [va_up_no _ _ (by omega)] | rw [u2_ne _ _ _ (by omega)])
  · repeat (first | rw [va_up_no _ _ (by omega)] | rw [u2_ne _ _ _ (by omega)])
  · simp [va_up_rd]
  · simp [va_up_rd, u2_rd]
  · simp [va_up_rd]
  · simp [va_up_rd, u2_rd, n2]
  · rcases i3 hi with rfl | rfl | rfl <;> rcases i3 hk with rfl | rfl | rfl <;> first | (exact absurd hz (by omega)) | simp [va_up_rd, u2_rd]
  · rcases i3 hi with rfl | rfl | rfl <;> first | (exact absurd hz (by omega)) | simp [va_up_rd, u2_rd]
  · intro h0; exact absurd h0 (by decide)
  · simp [S62_0, S97_0, S97_1, S97_2, S97_3, S97_4]
  · have w74 := i3' 74 (by omega) (by omega)
    have w75 := i3' 75 (by omega) (by omega)
    have w76 := i3' 76 (by omega) (by omega)
    have w77 := i3' 77 (by omega) (by omega)
    have w78 := i3' 78 (by omega) (by omega)
    have w79 := i3' 79 (by omega) (by omega)
    have w80 := i3' 80 (by omega) (by omega)
    have w81 := i3' 81 (by omega) (by omega)
    have Af : ∀ i, i < 9 → I 79 (9 * f + i) = I (qf + 1) i := fun i hi => (maf i hi).1
    have Ag : ∀ i, i < 9 → I 79 (9 * g + i) = I (qg + 1) i := fun i hi => (mag i hi).1
    have Af0 : I 79 (9 * f) = I (qf + 1) 0 := Af 0 (by omega)
    have Ag0 : I 79 (9 * g) = I (qg + 1) 0 := Ag 0 (by omega)
    have Bf : ∀ i, i < 3 → I 80 (3 * f + i) = I (qf + 2) i := fun i hi => (mbbf i hi).1
    have Bg : ∀ i, i < 3 → I 80 (3 * g + i) = I (qg + 2) i := fun i hi => (mbbg i hi).1
    have Bf0 : I 80 (3 * f) = I (qf + 2) 0 := Bf 0 (by omega)
    have Bg0 : I 80 (3 * g) = I (qg + 2) 0 := Bg 0 (by omega)
    have Kf : ∀ i, i < 3 → I 81 (3 * f + i) = I (qf + 3) i := fun i hi => (mccf i hi).1
    have Kg : ∀ i, i < 3 → I 81 (3 * g + i) = I (qg + 3) i := fun i hi => (mccg i hi).1
    have Kf0 : I 81 (3 * f) = I (qf + 3) 0 := Kf 0 (by omega)
    have Kg0 : I 81 (3 * g) = I (qg + 3) 0 := Kg 0 (by omega)
    simp [S118_0, BS, Call_in (k2 := 116), lm.1]
    refine m_joins0_00 (I := I3) lm hM12 hf hg (by rw [w74]; exact e2) (by rw [w75]; exact f3f) (by rw [w75]; exact f3g) (by rw [w77]; exact hu) (by rw [w76]; exact a7f) (by rw [w76]; exact a7g) (fun I4 ls g1 g2 => ?_)
    have go2 := go I4 116 429 ls (fun r h1 => Wp 118 7 [some (.ref 74), some (.int (nI f)), some (.int (nI g))] (r.toList ++ []) h1 Q) (fun v h => by simp [S116_0, S116_1, S116_2, S116_3, S116_4, S116_5, S116_6, S116_7, S116_8, S116_9, S116_10, S118_0]) g1 (fun i k hi hk => ?_) (fun i hi => ?_)
    · simpa [va_up_rd, u2_rd, w79, w80, w81, w77, w78, Af, Ag, Af0, Ag0, Bf, Bg, Bf0, Bg0, Kf, Kg, Kf0, Kg0, mdf, mdg, a8g] using go2
    · first | (exact absurd hi (by omega)) | (rcases i3 (show i < 3 by omega) with rfl | rfl | rfl <;> rcases i3 (show k < 3 by omega) with rfl | rfl | rfl <;> first | (exact absurd hi (by omega)) | (exact absurd hk (by omega)) | simp [va_up_rd, u2_rd, g2, w79, w80, w81, w77, w78, Af, Ag, Af0, Ag0, Bf, Bg, Bf0, Bg0, Kf, Kg, Kf0, Kg0, mdf, mdg, a8g, hu])
    · first | (exact absurd hi (by omega)) | (rcases i3 (show i < 3 by omega) with rfl | rfl | rfl <;> first | (exact absurd hi (by omega)) | simp [va_up_rd, u2_rd, g2, w79, w80, w81, w77, w78, Af, Ag, Af0, Ag0, Bf, Bg, Bf0, Bg0, Kf, Kg, Kf0, Kg0, mdf, mdg, a8g, hu, Int32.mul_comm])

set_option maxRecDepth 100000 in
set_option maxHeartbeats 8000000 in
theorem two_side_01 {n sl : Nat} {C Z : Nat → Nat} {I : Nat → Nat → Int32} {L : Nat → Nat → Int64} {R : Nat → Nat → Nat} {M rn t f g qf qg : Nat} (h7 : Inv7 n C Z I L R M rn t) (hMl : M < 12) (hf : f < M) (hg : g < M) (hqf : MOK n C Z I R f qf 0) (hqg : MOK n C Z I R g qg 1) (kff : inG 7 (C qf) = true ∧ isa (C qf) 1 = false ∧ ¬ I 75 f = 1) (kfg : inG 7 (C qg) = true ∧ isa (C qg) 1 = false ∧ ¬ I 75 g = 1) (hu : I 77 f = I 77 g) : Two 62 118 [some (.ref 1), some (.int (nI f)), some (.int (nI g))] [some (.ref 74), some (.int (nI f)), some (.int (nI g))] (n, sl, C, Z, I, L, R) := by
  obtain ⟨hM12, hn98, ⟨hB, hK, hO, hE, hM⟩, ⟨e1, e2⟩, hms, hss, hap, ⟨hrn, e3, e4, hrw⟩, ht, e5, e6, htr⟩ := id h7
  obtain ⟨a1f, a2f, a3f, a4f, ⟨a5f, hs3f, a6f, a7f⟩, ⟨a8f, a9f⟩, ⟨r3f, r4f, r5f, r6f⟩, ⟨c1f, c2f, c3f, c4f, z1f, z2f, z3f, z4f⟩, maf, mbbf, mccf, ⟨mdf, mdbf⟩, zaf, zbf⟩ := id hqf
  obtain ⟨a1g, a2g, a3g, a4g, ⟨a5g, hs3g, a6g, a7g⟩, ⟨a8g, a9g⟩, ⟨r3g, r4g, r5g, r6g⟩, ⟨c1g, c2g, c3g, c4g, z1g, z2g, z3g, z4g⟩, mag, mbbg, mccg, ⟨mdg, mdbg⟩, zag, zbg⟩ := id hqg
  obtain ⟨f1f, f2f, f3f⟩ := kff
  obtain ⟨f1g, f2g, f3g⟩ := kfg
  have hB' := hB
  unfold LayB at hB
  unfold Two
  have n0 : nI 0 = 0 := rfl
  have n1 : nI 1 = 1 := rfl
  have n2 : nI 1 = 1 := rfl
  have uu : I qf 2 = I qg 2 := by rw [a8f, a8g]; exact hu
  obtain ⟨m, rfl⟩ : ∃ m, n = m + 98 := ⟨n - 98, by omega⟩
  have hqf0 : ¬ qf = 0 := by omega
  have hqg0 : ¬ qg = 0 := by omega
  have p2 : ¬ (12 : Int32) ≤ nI M := nI_ge (b := 12) (by omega) (by omega)
  have p1 : nI M < 12 := nI_lt (b := 12) (by omega) (by omega)
  have qnf : ∀ c, 95 ≤ c → ¬ qf = m + c := fun c h => by omega
  have qng : ∀ c, 95 ≤ c → ¬ qg = m + c := fun c h => by omega
  have b12 : ∀ (k v : Int32), bnd (mb k) v → bnd 12 v := fun k v hv => by unfold bnd mb at *; split at hv <;> omega
  simp [S62_0, S97_0, S97_1, S97_2, S97_3, S97_4, S91_0, S37_0, S51_0, S51_1, S98_0, S98_1, S98_2, S99_0, S99_1, Call_in (k2 := 97), Call_in (k2 := 91), Call_in (k2 := 37), Call_in (k2 := 51), Call_in (k2 := 98), Call_in (k2 := 99), BS, ixs, inbs, le_nlt, hB, at_yesG hB' hM12 hf, at_yesG hB' hM12 hg, e1, a1f, a1g, hqf0, hqg0, f1f, f2f, f1g, f2g, uu, r3f, r4f, r5f, r6f, c1f, c2f, c3f, c4f, z1f, z2f, z3f, z4f, a6f, r3g, r4g, r5g, r6g, c1g, c2g, c3g, c4g, z1g, z2g, z3g, z4g, a6g, n0, n1, p1, p2, va_up_rd, u2_rd, qnf, qng, Nat.add_assoc, inGs]
  refine join_fin (km := 118) (lm := [some (.ref 74), some (.int (nI f)), some (.int (nI g))]) (n := m + 98) (sl := sl) (sl' := sl + 23) (s := 1) (u := I qg 2) h7 hMl (by omega) (by rw [a8g]; exact a9g) (by omega) (fun i hi => ?_) (fun i hi => ?_) (fun i hi => ?_) (fun i hi => ?_) (fun i hi => ?_) ?_ ?_ ?_ ?_ (fun i k hi hk hz => ?_) (fun i hi hz => ?_) (fun y1 y2 y3 => ?_) (fun v h => ?_) (fun I3 L3 R3 Q lm i3' go => ?_)
  · repeat (first | rw [va_up_no _ _ (by omega)] | rw [u2_ne _ _ _ (by omega)])
  · repeat (first | rw [va_up_no _ _ (by omega)] | rw [u2_ne _ _ _ (by omega)])
  · repeat (first | rw [va_up_no _ _ (by omega)] | rw [u2_ne _ _ _ (by omega)])
  · repeat (first | rw [va_up_no _ _ (by omega)] | rw [u2_ne _ _ _ (by omega)])
  · repeat (first | rw [va_up_no _ _ (by omega)] | rw [u2_ne _ _ _ (by omega)])
  · simp [va_up_rd]
  · simp [va_up_rd, u2_rd]
  · simp [va_up_rd]
  · simp [va_up_rd, u2_rd, n2]
  · rcases i3 hi with rfl | rfl | rfl <;> rcases i3 hk with rfl | rfl | rfl <;> first | (exact absurd hz (by omega)) | simp [va_up_rd, u2_rd]
  · rcases i3 hi with rfl | rfl | rfl <;> first | (exact absurd hz (by omega)) | simp [va_up_rd, u2_rd]
  · intro h0; exact absurd h0 (by decide)
  · simp [S62_0, S97_0, S97_1, S97_2, S97_3, S97_4]
  · have w74 := i3' 74 (by omega) (by omega)
    have w75 := i3' 75 (by omega) (by omega)
    have w76 := i3' 76 (by omega) (by omega)
    have w77 := i3' 77 (by omega) (by omega)
    have w78 := i3' 78 (by omega) (by omega)
    have w79 := i3' 79 (by omega) (by omega)
    have w80 := i3' 80 (by omega) (by omega)
    have w81 := i3' 81 (by omega) (by omega)
    have Af : ∀ i, i < 9 → I 79 (9 * f + i) = I (qf + 1) i := fun i hi => (maf i hi).1
    have Ag : ∀ i, i < 9 → I 79 (9 * g + i) = I (qg + 1) i := fun i hi => (mag i hi).1
    have Af0 : I 79 (9 * f) = I (qf + 1) 0 := Af 0 (by omega)
    have Ag0 : I 79 (9 * g) = I (qg + 1) 0 := Ag 0 (by omega)
    have Bf : ∀ i, i < 3 → I 80 (3 * f + i) = I (qf + 2) i := fun i hi => (mbbf i hi).1
    have Bg : ∀ i, i < 3 → I 80 (3 * g + i) = I (qg + 2) i := fun i hi => (mbbg i hi).1
    have Bf0 : I 80 (3 * f) = I (qf + 2) 0 := Bf 0 (by omega)
    have Bg0 : I 80 (3 * g) = I (qg + 2) 0 := Bg 0 (by omega)
    have Kf : ∀ i, i < 3 → I 81 (3 * f + i) = I (qf + 3) i := fun i hi => (mccf i hi).1
    have Kg : ∀ i, i < 3 → I 81 (3 * g + i) = I (qg + 3) i := fun i hi => (mccg i hi).1
    have Kf0 : I 81 (3 * f) = I (qf + 3) 0 := Kf 0 (by omega)
    have Kg0 : I 81 (3 * g) = I (qg + 3) 0 := Kg 0 (by omega)
    simp [S118_0, BS, Call_in (k2 := 116), lm.1]
    refine m_joins0_01 (I := I3) lm hM12 hf hg (by rw [w74]; exact e2) (by rw [w75]; exact f3f) (by rw [w75]; exact f3g) (by rw [w77]; exact hu) (by rw [w76]; exact a7f) (by rw [w76]; exact a7g) (fun I4 ls g1 g2 => ?_)
    have go2 := go I4 116 429 ls (fun r h1 => Wp 118 7 [some (.ref 74), some (.int (nI f)), some (.int (nI g))] (r.toList ++ []) h1 Q) (fun v h => by simp [S116_0, S116_1, S116_2, S116_3, S116_4, S116_5, S116_6, S116_7, S116_8, S116_9, S116_10, S118_0]) g1 (fun i k hi hk => ?_) (fun i hi => ?_)
    · simpa [va_up_rd, u2_rd, w79, w80, w81, w77, w78, Af, Ag, Af0, Ag0, Bf, Bg, Bf0, Bg0, Kf, Kg, Kf0, Kg0, mdf, mdg, a8g] using go2
    · first | (exact absurd hi (by omega)) | (rcases i3 (show i < 3 by omega) with rfl | rfl | rfl <;> rcases i3 (show k < 3 by omega) with rfl | rfl | rfl <;> first | (exact absurd hi (by omega)) | (exact absurd hk (by omega)) | simp [va_up_rd, u2_rd, g2, w79, w80, w81, w77, w78, Af, Ag, Af0, Ag0, Bf, Bg, Bf0, Bg0, Kf, Kg, Kf0, Kg0, mdf, mdg, a8g, hu])
    · first | (exact absurd hi (by omega)) | (rcases i3 (show i < 3 by omega) with rfl | rfl | rfl <;> first | (exact absurd hi (by omega)) | simp [va_up_rd, u2_rd, g2, w79, w80, w81, w77, w78, Af, Ag, Af0, Ag0, Bf, Bg, Bf0, Bg0, Kf, Kg, Kf0, Kg0, mdf, mdg, a8g, hu, Int32.mul_comm])

set_option maxRecDepth 100000 in
set_option maxHeartbeats 8000000 in
theorem two_side_02 {n sl : Nat} {C Z : Nat → Nat} {I : Nat → Nat → Int32} {L : Nat → Nat → Int64} {R : Nat → Nat → Nat} {M rn t f g qf qg : Nat} (h7 : Inv7 n C Z I L R M rn t) (hMl : M < 12) (hf : f < M) (hg : g < M) (hqf : MOK n C Z I R f qf 0) (hqg : MOK n C Z I R g qg 2) (kff : inG 7 (C qf) = true ∧ isa (C qf) 1 = false ∧ ¬ I 75 f = 1) (kfg : inG 7 (C qg) = true ∧ isa (C qg) 1 = false ∧ ¬ I 75 g = 1) (hu : I 77 f = I 77 g) : Two 62 118 [some (.ref 1), some (.int (nI f)), some (.int (nI g))] [some (.ref 74), some (.int (nI f)), some (.int (nI g))] (n, sl, C, Z, I, L, R) := by
  obtain ⟨hM12, hn98, ⟨hB, hK, hO, hE, hM⟩, ⟨e1, e2⟩, hms, hss, hap, ⟨hrn, e3, e4, hrw⟩, ht, e5, e6, htr⟩ := id h7
  obtain ⟨a1f, a2f, a3f, a4f, ⟨a5f, hs3f, a6f, a7f⟩, ⟨a8f, a9f⟩, ⟨r3f, r4f, r5f, r6f⟩, ⟨c1f, c2f, c3f, c4f, z1f, z2f, z3f, z4f⟩, maf, mbbf, mccf, ⟨mdf, mdbf⟩, zaf, zbf⟩ := id hqf
  obtain ⟨a1g, a2g, a3g, a4g, ⟨a5g, hs3g, a6g, a7g⟩, ⟨a8g, a9g⟩, ⟨r3g, r4g, r5g, r6g⟩, ⟨c1g, c2g, c3g, c4g, z1g, z2g, z3g, z4g⟩, mag, mbbg, mccg, ⟨mdg, mdbg⟩, zag, zbg⟩ := id hqg
  obtain ⟨f1f, f2f, f3f⟩ := kff
  obtain ⟨f1g, f2g, f3g⟩ := kfg
  have hB' := hB
  unfold LayB at hB
  unfold Two
  have n0 : nI 0 = 0 := rfl
  have n1 : nI 2 = 2 := rfl
  have n2 : nI 2 = 2 := rfl
  have uu : I qf 2 = I qg 2 := by rw [a8f, a8g]; exact hu
  obtain ⟨m, rfl⟩ : ∃ m, n = m + 98 := ⟨n - 98, by omega⟩
  have hqf0 : ¬ qf = 0 := by omega
  have hqg0 : ¬ qg = 0 := by omega
  have p2 : ¬ (12 : Int32) ≤ nI M := nI_ge (b := 12) (by omega) (by omega)
  have p1 : nI M < 12 := nI_lt (b := 12) (by omega) (by omega)
  have qnf : ∀ c, 95 ≤ c → ¬ qf = m + c := fun c h => by omega
  have qng : ∀ c, 95 ≤ c → ¬ qg = m + c := fun c h => by omega
  have b12 : ∀ (k v : Int32), bnd (mb k) v → bnd 12 v := fun k v hv => by unfold bnd mb at *; split at hv <;> omega
  simp [S62_0, S97_0, S97_1, S97_2, S97_3, S97_4, S91_0, S37_0, S51_0, S51_1, S98_0, S98_1, S98_2, S99_0, S99_1, Call_in (k2 := 97), Call_in (k2 := 91), Call_in (k2 := 37), Call_in (k2 := 51), Call_in (k2 := 98), Call_in (k2 := 99), BS, ixs, inbs, le_nlt, hB, at_yesG hB' hM12 hf, at_yesG hB' hM12 hg, e1, a1f, a1g, hqf0, hqg0, f1f, f2f, f1g, f2g, uu, r3f, r4f, r5f, r6f, c1f, c2f, c3f, c4f, z1f, z2f, z3f, z4f, a6f, r3g, r4g, r5g, r6g, c1g, c2g, c3g, c4g, z1g, z2g, z3g, z4g, a6g, n0, n1, p1, p2, va_up_rd, u2_rd, qnf, qng, Nat.add_assoc, inGs]
  refine join_fin (km := 118) (lm := [some (.ref 74), some (.int (nI f)), some (.int (nI g))]) (n := m + 98) (sl := sl) (sl' := sl + 23) (s := 2) (u := I qg 2) h7 hMl (by omega) (by rw [a8g]; exact a9g) (by omega) (fun i hi => ?_) (fun i hi => ?_) (fun i hi => ?_) (fun i hi => ?_) (fun i hi => ?_) ?_ ?_ ?_ ?_ (fun i k hi hk hz => ?_) (fun i hi hz => ?_) (fun y1 y2 y3 => ?_) (fun v h => ?_) (fun I3 L3 R3 Q lm i3' go => ?_)
  · repeat (first | rw [va_up_no _ _ (by omega)] | rw [u2_ne _ _ _ (by omega)])
  · repeat (first | rw [va_up_no _ _ (by omega)] | rw [u2_ne _ _ _ (by omega)])
  · repeat (first | rw [va_up_no _ _ (by omega)] | rw [u2_ne _ _ _ (by omega)])
  · repeat (first | rw [va_up_no _ _ (by omega)] | rw [u2_ne _ _ _ (by omega)])
  · repeat (first | rw [va_up_no _ _ (by omega)] | rw [u2_ne _ _ _ (by omega)])
  · simp [va_up_rd]
  · simp [va_up_rd, u2_rd]
  · simp [va_up_rd]
  · simp [va_up_rd, u2_rd, n2]
  · rcases i3 hi with rfl | rfl | rfl <;> rcases i3 hk with rfl | rfl | rfl <;> first | (exact absurd hz (by omega)) | simp [va_up_rd, u2_rd]
  · rcases i3 hi with rfl | rfl | rfl <;> first | (exact absurd hz (by omega)) | simp [va_up_rd, u2_rd]
  · intro h0; exact absurd h0 (by decide)
  · simp [S62_0, S97_0, S97_1, S97_2, S97_3, S97_4]
  · have w74 := i3' 74 (by omega) (by omega)
    have w75 := i3' 75 (by omega) (by omega)
    have w76 := i3' 76 (by omega) (by omega)
    have w77 := i3' 77 (by omega) (by omega)
    have w78 := i3' 78 (by omega) (by omega)
    have w79 := i3' 79 (by omega) (by omega)
    have w80 := i3' 80 (by omega) (by omega)
    have w81 := i3' 81 (by omega) (by omega)
    have Af : ∀ i, i < 9 → I 79 (9 * f + i) = I (qf + 1) i := fun i hi => (maf i hi).1
    have Ag : ∀ i, i < 9 → I 79 (9 * g + i) = I (qg + 1) i := fun i hi => (mag i hi).1
    have Af0 : I 79 (9 * f) = I (qf + 1) 0 := Af 0 (by omega)
    have Ag0 : I 79 (9 * g) = I (qg + 1) 0 := Ag 0 (by omega)
    have Bf : ∀ i, i < 3 → I 80 (3 * f + i) = I (qf + 2) i := fun i hi => (mbbf i hi).1
    have Bg : ∀ i, i < 3 → I 80 (3 * g + i) = I (qg + 2) i := fun i hi => (mbbg i hi).1
    have Bf0 : I 80 (3 * f) = I (qf + 2) 0 := Bf 0 (by omega)
    have Bg0 : I 80 (3 * g) = I (qg + 2) 0 := Bg 0 (by omega)
    have Kf : ∀ i, i < 3 → I 81 (3 * f + i) = I (qf + 3) i := fun i hi => (mccf i hi).1
    have Kg : ∀ i, i < 3 → I 81 (3 * g + i) = I (qg + 3) i := fun i hi => (mccg i hi).1
    have Kf0 : I 81 (3 * f) = I (qf + 3) 0 := Kf 0 (by omega)
    have Kg0 : I 81 (3 * g) = I (qg + 3) 0 := Kg 0 (by omega)
    simp [S118_0, BS, Call_in (k2 := 116), lm.1]
    refine m_joins0_02 (I := I3) lm hM12 hf hg (by rw [w74]; exact e2) (by rw [w75]; exact f3f) (by rw [w75]; exact f3g) (by rw [w77]; exact hu) (by rw [w76]; exact a7f) (by rw [w76]; exact a7g) (fun I4 ls g1 g2 => ?_)
    have go2 := go I4 116 429 ls (fun r h1 => Wp 118 7 [some (.ref 74), some (.int (nI f)), some (.int (nI g))] (r.toList ++ []) h1 Q) (fun v h => by simp [S116_0, S116_1, S116_2, S116_3, S116_4, S116_5, S116_6, S116_7, S116_8, S116_9, S116_10, S118_0]) g1 (fun i k hi hk => ?_) (fun i hi => ?_)
    · simpa [va_up_rd, u2_rd, w79, w80, w81, w77, w78, Af, Ag, Af0, Ag0, Bf, Bg, Bf0, Bg0, Kf, Kg, Kf0, Kg0, mdf, mdg, a8g] using go2
    · first | (exact absurd hi (by omega)) | (rcases i3 (show i < 3 by omega) with rfl | rfl | rfl <;> rcases i3 (show k < 3 by omega) with rfl | rfl | rfl <;> first | (exact absurd hi (by omega)) | (exact absurd hk (by omega)) | simp [va_up_rd, u2_rd, g2, w79, w80, w81, w77, w78, Af, Ag, Af0, Ag0, Bf, Bg, Bf0, Bg0, Kf, Kg, Kf0, Kg0, mdf, mdg, a8g, hu])
    · first | (exact absurd hi (by omega)) | (rcases i3 (show i < 3 by omega) with rfl | rfl | rfl <;> first | (exact absurd hi (by omega)) | simp [va_up_rd, u2_rd, g2, w79, w80, w81, w77, w78, Af, Ag, Af0, Ag0, Bf, Bg, Bf0, Bg0, Kf, Kg, Kf0, Kg0, mdf, mdg, a8g, hu, Int32.mul_comm])

set_option maxRecDepth 100000 in
set_option maxHeartbeats 8000000 in
theorem two_side_03 {n sl : Nat} {C Z : Nat → Nat} {I : Nat → Nat → Int32} {L : Nat → Nat → Int64} {R : Nat → Nat → Nat} {M rn t f g qf qg : Nat} (h7 : Inv7 n C Z I L R M rn t) (hMl : M < 12) (hf : f < M) (hg : g < M) (hqf : MOK n C Z I R f qf 0) (hqg : MOK n C Z I R g qg 3) (kff : inG 7 (C qf) = true ∧ isa (C qf) 1 = false ∧ ¬ I 75 f = 1) (kfg : inG 7 (C qg) = true ∧ isa (C qg) 1 = false ∧ ¬ I 75 g = 1) (hu : I 77 f = I 77 g) : Two 62 118 [some (.ref 1), some (.int (nI f)), some (.int (nI g))] [some (.ref 74), some (.int (nI f)), some (.int (nI g))] (n, sl, C, Z, I, L, R) := by
  obtain ⟨hM12, hn98, ⟨hB, hK, hO, hE, hM⟩, ⟨e1, e2⟩, hms, hss, hap, ⟨hrn, e3, e4, hrw⟩, ht, e5, e6, htr⟩ := id h7
  obtain ⟨a1f, a2f, a3f, a4f, ⟨a5f, hs3f, a6f, a7f⟩, ⟨a8f, a9f⟩, ⟨r3f, r4f, r5f, r6f⟩, ⟨c1f, c2f, c3f, c4f, z1f, z2f, z3f, z4f⟩, maf, mbbf, mccf, ⟨mdf, mdbf⟩, zaf, zbf⟩ := id hqf
  obtain ⟨a1g, a2g, a3g, a4g, ⟨a5g, hs3g, a6g, a7g⟩, ⟨a8g, a9g⟩, ⟨r3g, r4g, r5g, r6g⟩, ⟨c1g, c2g, c3g, c4g, z1g, z2g, z3g, z4g⟩, mag, mbbg, mccg, ⟨mdg, mdbg⟩, zag, zbg⟩ := id hqg
  obtain ⟨f1f, f2f, f3f⟩ := kff
  obtain ⟨f1g, f2g, f3g⟩ := kfg
  have hB' := hB
  unfold LayB at hB
  unfold Two
  have n0 : nI 0 = 0 := rfl
  have n1 : nI 3 = 3 := rfl
  have n2 : nI 3 = 3 := rfl
  have uu : I qf 2 = I qg 2 := by rw [a8f, a8g]; exact hu
  obtain ⟨m, rfl⟩ : ∃ m, n = m + 98 := ⟨n - 98, by omega⟩
  have hqf0 : ¬ qf = 0 := by omega
  have hqg0 : ¬ qg = 0 := by omega
  have p2 : ¬ (12 : Int32) ≤ nI M := nI_ge (b := 12) (by omega) (by omega)
  have p1 : nI M < 12 := nI_lt (b := 12) (by omega) (by omega)
  have qnf : ∀ c, 95 ≤ c → ¬ qf = m + c := fun c h => by omega
  have qng : ∀ c, 95 ≤ c → ¬ qg = m + c := fun c h => by omega
  have b12 : ∀ (k v : Int32), bnd (mb k) v → bnd 12 v := fun k v hv => by unfold bnd mb at *; split at hv <;> omega
  simp [S62_0, S97_0, S97_1, S97_2, S97_3, S97_4, S91_0, S37_0, S51_0, S51_1, S98_0, S98_1, S98_2, S99_0, S99_1, Call_in (k2 := 97), Call_in (k2 := 91), Call_in (k2 := 37), Call_in (k2 := 51), Call_in (k2 := 98), Call_in (k2 := 99), BS, ixs, inbs, le_nlt, hB, at_yesG hB' hM12 hf, at_yesG hB' hM12 hg, e1, a1f, a1g, hqf0, hqg0, f1f, f2f, f1g, f2g, uu, r3f, r4f, r5f, r6f, c1f, c2f, c3f, c4f, z1f, z2f, z3f, z4f, a6f, r3g, r4g, r5g, r6g, c1g, c2g, c3g, c4g, z1g, z2g, z3g, z4g, a6g, n0, n1, p1, p2, va_up_rd, u2_rd, qnf, qng, Nat.add_assoc, inGs]
  refine join_fin (km := 118) (lm := [some (.ref 74), some (.int (nI f)), some (.int (nI g))]) (n := m + 98) (sl := sl) (sl' := sl + 23) (s := 3) (u := I qg 2) h7 hMl (by omega) (by rw [a8g]; exact a9g) (by omega) (fun i hi => ?_) (fun i hi => ?_) (fun i hi => ?_) (fun i hi => ?_) (fun i hi => ?_) ?_ ?_ ?_ ?_ (fun i k hi hk hz => ?_) (fun i hi hz => ?_) (fun y1 y2 y3 => ?_) (fun v h => ?_) (fun I3 L3 R3 Q lm i3' go => ?_)
  · repeat (first | rw [va_up_no _ _ (by omega)] | rw [u2_ne _ _ _ (by omega)])
  · repeat (first | rw [va_up_no _ _ (by omega)] | rw [u2_ne _ _ _ (by omega)])
  · repeat (first | rw [va_up_no _ _ (by omega)] | rw [u2_ne _ _ _ (by omega)])
  · repeat (first | rw [va_up_no _ _ (by omega)] | rw [u2_ne _ _ _ (by omega)])
  · repeat (first | rw [va_up_no _ _ (by omega)] | rw [u2_ne _ _ _ (by omega)])
  · simp [va_up_rd]
  · simp [va_up_rd, u2_rd]
  · simp [va_up_rd]
  · simp [va_up_rd, u2_rd, n2]
  · rcases i3 hi with rfl | rfl | rfl <;> rcases i3 hk with rfl | rfl | rfl <;> first | (exact absurd hz (by omega)) | simp [va_up_rd, u2_rd]
  · rcases i3 hi with rfl | rfl | rfl <;> first | (exact absurd hz (by omega)) | simp [va_up_rd, u2_rd]
  · refine FB.scale (d := 1) (e := 1) hqg.FBm (fun i hi => ?_) (fun i hi => ?_) (fun i hi => ?_)
    · rcases i9 hi with rfl | rfl | rfl | rfl | rfl | rfl | rfl | rfl | rfl <;> simp [va_up_rd, u2_rd]
    · rcases i3 hi with rfl | rfl | rfl <;> simp [va_up_rd, u2_rd]
    · rcases i3 hi with rfl | rfl | rfl <;> simp [va_up_rd, u2_rd]
  · simp [S62_0, S97_0, S97_1, S97_2, S97_3, S97_4]
  · have w74 := i3' 74 (by omega) (by omega)
    have w75 := i3' 75 (by omega) (by omega)
    have w76 := i3' 76 (by omega) (by omega)
    have w77 := i3' 77 (by omega) (by omega)
    have w78 := i3' 78 (by omega) (by omega)
    have w79 := i3' 79 (by omega) (by omega)
    have w80 := i3' 80 (by omega) (by omega)
    have w81 := i3' 81 (by omega) (by omega)
    have Af : ∀ i, i < 9 → I 79 (9 * f + i) = I (qf + 1) i := fun i hi => (maf i hi).1
    have Ag : ∀ i, i < 9 → I 79 (9 * g + i) = I (qg + 1) i := fun i hi => (mag i hi).1
    have Af0 : I 79 (9 * f) = I (qf + 1) 0 := Af 0 (by omega)
    have Ag0 : I 79 (9 * g) = I (qg + 1) 0 := Ag 0 (by omega)
    have Bf : ∀ i, i < 3 → I 80 (3 * f + i) = I (qf + 2) i := fun i hi => (mbbf i hi).1
    have Bg : ∀ i, i < 3 → I 80 (3 * g + i) = I (qg + 2) i := fun i hi => (mbbg i hi).1
    have Bf0 : I 80 (3 * f) = I (qf + 2) 0 := Bf 0 (by omega)
    have Bg0 : I 80 (3 * g) = I (qg + 2) 0 := Bg 0 (by omega)
    have Kf : ∀ i, i < 3 → I 81 (3 * f + i) = I (qf + 3) i := fun i hi => (mccf i hi).1
    have Kg : ∀ i, i < 3 → I 81 (3 * g + i) = I (qg + 3) i := fun i hi => (mccg i hi).1
    have Kf0 : I 81 (3 * f) = I (qf + 3) 0 := Kf 0 (by omega)
    have Kg0 : I 81 (3 * g) = I (qg + 3) 0 := Kg 0 (by omega)
    simp [S118_0, BS, Call_in (k2 := 116), lm.1]
    refine m_joins0_03 (I := I3) lm hM12 hf hg (by rw [w74]; exact e2) (by rw [w75]; exact f3f) (by rw [w75]; exact f3g) (by rw [w77]; exact hu) (by rw [w76]; exact a7f) (by rw [w76]; exact a7g) (fun I4 ls g1 g2 => ?_)
    have go2 := go I4 116 429 ls (fun r h1 => Wp 118 7 [some (.ref 74), some (.int (nI f)), some (.int (nI g))] (r.toList ++ []) h1 Q) (fun v h => by simp [S116_0, S116_1, S116_2, S116_3, S116_4, S116_5, S116_6, S116_7, S116_8, S116_9, S116_10, S118_0]) g1 (fun i k hi hk => ?_) (fun i hi => ?_)
    · simpa [va_up_rd, u2_rd, w79, w80, w81, w77, w78, Af, Ag, Af0, Ag0, Bf, Bg, Bf0, Bg0, Kf, Kg, Kf0, Kg0, mdf, mdg, a8g] using go2
    · first | (exact absurd hi (by omega)) | (rcases i3 (show i < 3 by omega) with rfl | rfl | rfl <;> rcases i3 (show k < 3 by omega) with rfl | rfl | rfl <;> first | (exact absurd hi (by omega)) | (exact absurd hk (by omega)) | simp [va_up_rd, u2_rd, g2, w79, w80, w81, w77, w78, Af, Ag, Af0, Ag0, Bf, Bg, Bf0, Bg0, Kf, Kg, Kf0, Kg0, mdf, mdg, a8g, hu])
    · first | (exact absurd hi (by omega)) | (rcases i3 (show i < 3 by omega) with rfl | rfl | rfl <;> first | (exact absurd hi (by omega)) | simp [va_up_rd, u2_rd, g2, w79, w80, w81, w77, w78, Af, Ag, Af0, Ag0, Bf, Bg, Bf0, Bg0, Kf, Kg, Kf0, Kg0, mdf, mdg, a8g, hu, Int32.mul_comm])

set_option maxRecDepth 100000 in
set_option maxHeartbeats 8000000 in
theorem two_side_10 {n sl : Nat} {C Z : Nat → Nat} {I : Nat → Nat → Int32} {L : Nat → Nat → Int64} {R : Nat → Nat → Nat} {M rn t f g qf qg : Nat} (h7 : Inv7 n C Z I L R M rn t) (hMl : M < 12) (hf : f < M) (hg : g < M) (hqf : MOK n C Z I R f qf 1) (hqg : MOK n C Z I R g qg 0) (kff : inG 7 (C qf) = true ∧ isa (C qf) 1 = false ∧ ¬ I 75 f = 1) (kfg : inG 7 (C qg) = true ∧ isa (C qg) 1 = false ∧ ¬ I 75 g = 1) (hu : I 77 f = I 77 g) : Two 62 118 [some (.ref 1), some (.int (nI f)), some (.int (nI g))] [some (.ref 74), some (.int (nI f)), some (.int (nI g))] (n, sl, C, Z, I, L, R) := by
  obtain ⟨hM12, hn98, ⟨hB, hK, hO, hE, hM⟩, ⟨e1, e2⟩, hms, hss, hap, ⟨hrn, e3, e4, hrw⟩, ht, e5, e6, htr⟩ := id h7
  obtain ⟨a1f, a2f, a3f, a4f, ⟨a5f, hs3f, a6f, a7f⟩, ⟨a8f, a9f⟩, ⟨r3f, r4f, r5f, r6f⟩, ⟨c1f, c2f, c3f, c4f, z1f, z2f, z3f, z4f⟩, maf, mbbf, mccf, ⟨mdf, mdbf⟩, zaf, zbf⟩ := id hqf
  obtain ⟨a1g, a2g, a3g, a4g, ⟨a5g, hs3g, a6g, a7g⟩, ⟨a8g, a9g⟩, ⟨r3g, r4g, r5g, r6g⟩, ⟨c1g, c2g, c3g, c4g, z1g, z2g, z3g, z4g⟩, mag, mbbg, mccg, ⟨mdg, mdbg⟩, zag, zbg⟩ := id hqg
  obtain ⟨f1f, f2f, f3f⟩ := kff
  obtain ⟨f1g, f2g, f3g⟩ := kfg
  have hB' := hB
  unfold LayB at hB
  unfold Two
  have n0 : nI 1 = 1 := rfl
  have n1 : nI 0 = 0 := rfl
  have n2 : nI 1 = 1 := rfl
  have uu : I qf 2 = I qg 2 := by rw [a8f, a8g]; exact hu
  obtain ⟨m, rfl⟩ : ∃ m, n = m + 98 := ⟨n - 98, by omega⟩
  have hqf0 : ¬ qf = 0 := by omega
  have hqg0 : ¬ qg = 0 := by omega
  have p2 : ¬ (12 : Int32) ≤ nI M := nI_ge (b := 12) (by omega) (by omega)
  have p1 : nI M < 12 := nI_lt (b := 12) (by omega) (by omega)
  have qnf : ∀ c, 95 ≤ c → ¬ qf = m + c := fun c h => by omega
  have qng : ∀ c, 95 ≤ c → ¬ qg = m + c := fun c h => by omega
  have b12 : ∀ (k v : Int32), bnd (mb k) v → bnd 12 v := fun k v hv => by unfold bnd mb at *; split at hv <;> omega
  simp [S62_0, S97_0, S97_1, S97_2, S97_3, S97_4, S91_0, S37_0, S51_0, S51_1, S98_0, S98_1, S98_2, S99_0, S99_1, Call_in (k2 := 97), Call_in (k2 := 91), Call_in (k2 := 37), Call_in (k2 := 51), Call_in (k2 := 98), Call_in (k2 := 99), BS, ixs, inbs, le_nlt, hB, at_yesG hB' hM12 hf, at_yesG hB' hM12 hg, e1, a1f, a1g, hqf0, hqg0, f1f, f2f, f1g, f2g, uu, r3f, r4f, r5f, r6f, c1f, c2f, c3f, c4f, z1f, z2f, z3f, z4f, a6f, r3g, r4g, r5g, r6g, c1g, c2g, c3g, c4g, z1g, z2g, z3g, z4g, a6g, n0, n1, p1, p2, va_up_rd, u2_rd, qnf, qng, Nat.add_assoc, inGs]
  refine join_fin (km := 118) (lm := [some (.ref 74), some (.int (nI f)), some (.int (nI g))]) (n := m + 98) (sl := sl) (sl' := sl + 23) (s := 1) (u := I qg 2) h7 hMl (by omega) (by rw [a8g]; exact a9g) (by omega) (fun i hi => ?_) (fun i hi => ?_) (fun i hi => ?_) (fun i hi => ?_) (fun i hi => ?_) ?_ ?_ ?_ ?_ (fun i k hi hk hz => ?_) (fun i hi hz => ?_) (fun y1 y2 y3 => ?_) (fun v h => ?_) (fun I3 L3 R3 Q lm i3' go => ?_)
  · repeat (first | rw [va_up_no _ _ (by omega)] | rw [u2_ne _ _ _ (by omega)])
  · repeat (first | rw [va_up_no _ _ (by omega)] | rw [u2_ne _ _ _ (by omega)])
  · repeat (first | rw [va_up_no _ _ (by omega)] | rw [u2_ne _ _ _ (by omega)])
  · repeat (first | rw [va_up_no _ _ (by omega)] | rw [u2_ne _ _ _ (by omega)])
  · repeat (first | rw [va_up_no _ _ (by omega)] | rw [u2_ne _ _ _ (by omega)])
  · simp [va_up_rd]
  · simp [va_up_rd, u2_rd]
  · simp [va_up_rd]
  · simp [va_up_rd, u2_rd, n2]
  · rcases i3 hi with rfl | rfl | rfl <;> rcases i3 hk with rfl | rfl | rfl <;> first | (exact absurd hz (by omega)) | simp [va_up_rd, u2_rd]
  · rcases i3 hi with rfl | rfl | rfl <;> first | (exact absurd hz (by omega)) | simp [va_up_rd, u2_rd]
  · intro h0; exact absurd h0 (by decide)
  · simp [S62_0, S97_0, S97_1, S97_2, S97_3, S97_4]
  · have w74 := i3' 74 (by omega) (by omega)
    have w75 := i3' 75 (by omega) (by omega)
    have w76 := i3' 76 (by omega) (by omega)
    have w77 := i3' 77 (by omega) (by omega)
    have w78 := i3' 78 (by omega) (by omega)
    have w79 := i3' 79 (by omega) (by omega)
    have w80 := i3' 80 (by omega) (by omega)
    have w81 := i3' 81 (by omega) (by omega)
    have Af : ∀ i, i < 9 → I 79 (9 * f + i) = I (qf + 1) i := fun i hi => (maf i hi).1
    have Ag : ∀ i, i < 9 → I 79 (9 * g + i) = I (qg + 1) i := fun i hi => (mag i hi).1
    have Af0 : I 79 (9 * f) = I (qf + 1) 0 := Af 0 (by omega)
    have Ag0 : I 79 (9 * g) = I (qg + 1) 0 := Ag 0 (by omega)
    have Bf : ∀ i, i < 3 → I 80 (3 * f + i) = I (qf + 2) i := fun i hi => (mbbf i hi).1
    have Bg : ∀ i, i < 3 → I 80 (3 * g + i) = I (qg + 2) i := fun i hi => (mbbg i hi).1
    have Bf0 : I 80 (3 * f) = I (qf + 2) 0 := Bf 0 (by omega)
    have Bg0 : I 80 (3 * g) = I (qg + 2) 0 := Bg 0 (by omega)
    have Kf : ∀ i, i < 3 → I 81 (3 * f + i) = I (qf + 3) i := fun i hi => (mccf i hi).1
    have Kg : ∀ i, i < 3 → I 81 (3 * g + i) = I (qg + 3) i := fun i hi => (mccg i hi).1
    have Kf0 : I 81 (3 * f) = I (qf + 3) 0 := Kf 0 (by omega)
    have Kg0 : I 81 (3 * g) = I (qg + 3) 0 := Kg 0 (by omega)
    simp [S118_0, BS, Call_in (k2 := 116), lm.1]
    refine m_joins0_10 (I := I3) lm hM12 hf hg (by rw [w74]; exact e2) (by rw [w75]; exact f3f) (by rw [w75]; exact f3g) (by rw [w77]; exact hu) (by rw [w76]; exact a7f) (by rw [w76]; exact a7g) (fun I4 ls g1 g2 => ?_)
    have go2 := go I4 116 429 ls (fun r h1 => Wp 118 7 [some (.ref 74), some (.int (nI f)), some (.int (nI g))] (r.toList ++ []) h1 Q) (fun v h => by simp [S116_0, S116_1, S116_2, S116_3, S116_4, S116_5, S116_6, S116_7, S116_8, S116_9, S116_10, S118_0]) g1 (fun i k hi hk => ?_) (fun i hi => ?_)
    · simpa [va_up_rd, u2_rd, w79, w80, w81, w77, w78, Af, Ag, Af0, Ag0, Bf, Bg, Bf0, Bg0, Kf, Kg, Kf0, Kg0, mdf, mdg, a8g] using go2
    · first | (exact absurd hi (by omega)) | (rcases i3 (show i < 3 by omega) with rfl | rfl | rfl <;> rcases i3 (show k < 3 by omega) with rfl | rfl | rfl <;> first | (exact absurd hi (by omega)) | (exact absurd hk (by omega)) | simp [va_up_rd, u2_rd, g2, w79, w80, w81, w77, w78, Af, Ag, Af0, Ag0, Bf, Bg, Bf0, Bg0, Kf, Kg, Kf0, Kg0, mdf, mdg, a8g, hu])
    · first | (exact absurd hi (by omega)) | (rcases i3 (show i < 3 by omega) with rfl | rfl | rfl <;> first | (exact absurd hi (by omega)) | simp [va_up_rd, u2_rd, g2, w79, w80, w81, w77, w78, Af, Ag, Af0, Ag0, Bf, Bg, Bf0, Bg0, Kf, Kg, Kf0, Kg0, mdf, mdg, a8g, hu, Int32.mul_comm])

set_option maxRecDepth 100000 in
set_option maxHeartbeats 8000000 in
theorem two_side_11 {n sl : Nat} {C Z : Nat → Nat} {I : Nat → Nat → Int32} {L : Nat → Nat → Int64} {R : Nat → Nat → Nat} {M rn t f g qf qg : Nat} (h7 : Inv7 n C Z I L R M rn t) (hMl : M < 12) (hf : f < M) (hg : g < M) (hqf : MOK n C Z I R f qf 1) (hqg : MOK n C Z I R g qg 1) (kff : inG 7 (C qf) = true ∧ isa (C qf) 1 = false ∧ ¬ I 75 f = 1) (kfg : inG 7 (C qg) = true ∧ isa (C qg) 1 = false ∧ ¬ I 75 g = 1) (hu : I 77 f = I 77 g) : Two 62 118 [some (.ref 1), some (.int (nI f)), some (.int (nI g))] [some (.ref 74), some (.int (nI f)), some (.int (nI g))] (n, sl, C, Z, I, L, R) := by
  obtain ⟨hM12, hn98, ⟨hB, hK, hO, hE, hM⟩, ⟨e1, e2⟩, hms, hss, hap, ⟨hrn, e3, e4, hrw⟩, ht, e5, e6, htr⟩ := id h7
  obtain ⟨a1f, a2f, a3f, a4f, ⟨a5f, hs3f, a6f, a7f⟩, ⟨a8f, a9f⟩, ⟨r3f, r4f, r5f, r6f⟩, ⟨c1f, c2f, c3f, c4f, z1f, z2f, z3f, z4f⟩, maf, mbbf, mccf, ⟨mdf, mdbf⟩, zaf, zbf⟩ := id hqf
  obtain ⟨a1g, a2g, a3g, a4g, ⟨a5g, hs3g, a6g, a7g⟩, ⟨a8g, a9g⟩, ⟨r3g, r4g, r5g, r6g⟩, ⟨c1g, c2g, c3g, c4g, z1g, z2g, z3g, z4g⟩, mag, mbbg, mccg, ⟨mdg, mdbg⟩, zag, zbg⟩ := id hqg
  obtain ⟨f1f, f2f, f3f⟩ := kff
  obtain ⟨f1g, f2g, f3g⟩ := kfg
  have hB' := hB
  unfold LayB at hB
  unfold Two
  have n0 : nI 1 = 1 := rfl
  have n1 : nI 1 = 1 := rfl
  have n2 : nI 2 = 2 := rfl
  have uu : I qf 2 = I qg 2 := by rw [a8f, a8g]; exact hu
  obtain ⟨m, rfl⟩ : ∃ m, n = m + 98 := ⟨n - 98, by omega⟩
  have hqf0 : ¬ qf = 0 := by omega
  have hqg0 : ¬ qg = 0 := by omega
  have p2 : ¬ (12 : Int32) ≤ nI M := nI_ge (b := 12) (by omega) (by omega)
  have p1 : nI M < 12 := nI_lt (b := 12) (by omega) (by omega)
  have qnf : ∀ c, 95 ≤ c → ¬ qf = m + c := fun c h => by omega
  have qng : ∀ c, 95 ≤ c → ¬ qg = m + c := fun c h => by omega
  have b12 : ∀ (k v : Int32), bnd (mb k) v → bnd 12 v := fun k v hv => by unfold bnd mb at *; split at hv <;> omega
  simp [S62_0, S97_0, S97_1, S97_2, S97_3, S97_4, S91_0, S37_0, S51_0, S51_1, S98_0, S98_1, S98_2, S99_0, S99_1, Call_in (k2 := 97), Call_in (k2 := 91), Call_in (k2 := 37), Call_in (k2 := 51), Call_in (k2 := 98), Call_in (k2 := 99), BS, ixs, inbs, le_nlt, hB, at_yesG hB' hM12 hf, at_yesG hB' hM12 hg, e1, a1f, a1g, hqf0, hqg0, f1f, f2f, f1g, f2g, uu, r3f, r4f, r5f, r6f, c1f, c2f, c3f, c4f, z1f, z2f, z3f, z4f, a6f, r3g, r4g, r5g, r6g, c1g, c2g, c3g, c4g, z1g, z2g, z3g, z4g, a6g, n0, n1, p1, p2, va_up_rd, u2_rd, qnf, qng, Nat.add_assoc, inGs]
  refine join_fin (km := 118) (lm := [some (.ref 74), some (.int (nI f)), some (.int (nI g))]) (n := m + 98) (sl := sl) (sl' := sl + 23) (s := 2) (u := I qg 2) h7 hMl (by omega) (by rw [a8g]; exact a9g) (by omega) (fun i hi => ?_) (fun i hi => ?_) (fun i hi => ?_) (fun i hi => ?_) (fun i hi => ?_) ?_ ?_ ?_ ?_ (fun i k hi hk hz => ?_) (fun i hi hz => ?_) (fun y1 y2 y3 => ?_) (fun v h => ?_) (fun I3 L3 R3 Q lm i3' go => ?_)
  · repeat (first | rw [va_up_no _ _ (by omega)] | rw [u2_ne _ _ _ (by omega)])
  · repeat (first | rw [va_up_no _ _ (by omega)] | rw [u2_ne _ _ _ (by omega)])
  · repeat (first | rw [va_up_no _ _ (by omega)] | rw [u2_ne _ _ _ (by omega)])
  · repeat (first | rw [va_up_no _ _ (by omega)] | rw [u2_ne _ _ _ (by omega)])
  · repeat (first | rw [va_up_no _ _ (by omega)] | rw [u2_ne _ _ _ (by omega)])
  · simp [va_up_rd]
  · simp [va_up_rd, u2_rd]
  · simp [va_up_rd]
  · simp [va_up_rd, u2_rd, n2]
  · rcases i3 hi with rfl | rfl | rfl <;> rcases i3 hk with rfl | rfl | rfl <;> first | (exact absurd hz (by omega)) | simp [va_up_rd, u2_rd]
  · rcases i3 hi with rfl | rfl | rfl <;> first | (exact absurd hz (by omega)) | simp [va_up_rd, u2_rd]
  · intro h0; exact absurd h0 (by decide)
  · simp [S62_0, S97_0, S97_1, S97_2, S97_3, S97_4]
  · have w74 := i3' 74 (by omega) (by omega)
    have w75 := i3' 75 (by omega) (by omega)
    have w76 := i3' 76 (by omega) (by omega)
    have w77 := i3' 77 (by omega) (by omega)
    have w78 := i3' 78 (by omega) (by omega)
    have w79 := i3' 79 (by omega) (by omega)
    have w80 := i3' 80 (by omega) (by omega)
    have w81 := i3' 81 (by omega) (by omega)
    have Af : ∀ i, i < 9 → I 79 (9 * f + i) = I (qf + 1) i := fun i hi => (maf i hi).1
    have Ag : ∀ i, i < 9 → I 79 (9 * g + i) = I (qg + 1) i := fun i hi => (mag i hi).1
    have Af0 : I 79 (9 * f) = I (qf + 1) 0 := Af 0 (by omega)
    have Ag0 : I 79 (9 * g) = I (qg + 1) 0 := Ag 0 (by omega)
    have Bf : ∀ i, i < 3 → I 80 (3 * f + i) = I (qf + 2) i := fun i hi => (mbbf i hi).1
    have Bg : ∀ i, i < 3 → I 80 (3 * g + i) = I (qg + 2) i := fun i hi => (mbbg i hi).1
    have Bf0 : I 80 (3 * f) = I (qf + 2) 0 := Bf 0 (by omega)
    have Bg0 : I 80 (3 * g) = I (qg + 2) 0 := Bg 0 (by omega)
    have Kf : ∀ i, i < 3 → I 81 (3 * f + i) = I (qf + 3) i := fun i hi => (mccf i hi).1
    have Kg : ∀ i, i < 3 → I 81 (3 * g + i) = I (qg + 3) i := fun i hi => (mccg i hi).1
    have Kf0 : I 81 (3 * f) = I (qf + 3) 0 := Kf 0 (by omega)
    have Kg0 : I 81 (3 * g) = I (qg + 3) 0 := Kg 0 (by omega)
    simp [S118_0, BS, Call_in (k2 := 116), lm.1]
    refine m_joins0_11 (I := I3) lm hM12 hf hg (by rw [w74]; exact e2) (by rw [w75]; exact f3f) (by rw [w75]; exact f3g) (by rw [w77]; exact hu) (by rw [w76]; exact a7f) (by rw [w76]; exact a7g) (fun I4 ls g1 g2 => ?_)
    have go2 := go I4 116 429 ls (fun r h1 => Wp 118 7 [some (.ref 74), some (.int (nI f)), some (.int (nI g))] (r.toList ++ []) h1 Q) (fun v h => by simp [S116_0, S116_1, S116_2, S116_3, S116_4, S116_5, S116_6, S116_7, S116_8, S116_9, S116_10, S118_0]) g1 (fun i k hi hk => ?_) (fun i hi => ?_)
    · simpa [va_up_rd, u2_rd, w79, w80, w81, w77, w78, Af, Ag, Af0, Ag0, Bf, Bg, Bf0, Bg0, Kf, Kg, Kf0, Kg0, mdf, mdg, a8g] using go2
    · first | (exact absurd hi (by omega)) | (rcases i3 (show i < 3 by omega) with rfl | rfl | rfl <;> rcases i3 (show k < 3 by omega) with rfl | rfl | rfl <;> first | (exact absurd hi (by omega)) | (exact absurd hk (by omega)) | simp [va_up_rd, u2_rd, g2, w79, w80, w81, w77, w78, Af, Ag, Af0, Ag0, Bf, Bg, Bf0, Bg0, Kf, Kg, Kf0, Kg0, mdf, mdg, a8g, hu])
    · first | (exact absurd hi (by omega)) | (rcases i3 (show i < 3 by omega) with rfl | rfl | rfl <;> first | (exact absurd hi (by omega)) | simp [va_up_rd, u2_rd, g2, w79, w80, w81, w77, w78, Af, Ag, Af0, Ag0, Bf, Bg, Bf0, Bg0, Kf, Kg, Kf0, Kg0, mdf, mdg, a8g, hu, Int32.mul_comm])

set_option maxRecDepth 100000 in
set_option maxHeartbeats 8000000 in
theorem two_side_12 {n sl : Nat} {C Z : Nat → Nat} {I : Nat → Nat → Int32} {L : Nat → Nat → Int64} {R : Nat → Nat → Nat} {M rn t f g qf qg : Nat} (h7 : Inv7 n C Z I L R M rn t) (hMl : M < 12) (hf : f < M) (hg : g < M) (hqf : MOK n C Z I R f qf 1) (hqg : MOK n C Z I R g qg 2) (kff : inG 7 (C qf) = true ∧ isa (C qf) 1 = false ∧ ¬ I 75 f = 1) (kfg : inG 7 (C qg) = true ∧ isa (C qg) 1 = false ∧ ¬ I 75 g = 1) (hu : I 77 f = I 77 g) : Two 62 118 [some (.ref 1), some (.int (nI f)), some (.int (nI g))] [some (.ref 74), some (.int (nI f)), some (.int (nI g))] (n, sl, C, Z, I, L, R) := by
  obtain ⟨hM12, hn98, ⟨hB, hK, hO, hE, hM⟩, ⟨e1, e2⟩, hms, hss, hap, ⟨hrn, e3, e4, hrw⟩, ht, e5, e6, htr⟩ := id h7
  obtain ⟨a1f, a2f, a3f, a4f, ⟨a5f, hs3f, a6f, a7f⟩, ⟨a8f, a9f⟩, ⟨r3f, r4f, r5f, r6f⟩, ⟨c1f, c2f, c3f, c4f, z1f, z2f, z3f, z4f⟩, maf, mbbf, mccf, ⟨mdf, mdbf⟩, zaf, zbf⟩ := id hqf
  obtain ⟨a1g, a2g, a3g, a4g, ⟨a5g, hs3g, a6g, a7g⟩, ⟨a8g, a9g⟩, ⟨r3g, r4g, r5g, r6g⟩, ⟨c1g, c2g, c3g, c4g, z1g, z2g, z3g, z4g⟩, mag, mbbg, mccg, ⟨mdg, mdbg⟩, zag, zbg⟩ := id hqg
  obtain ⟨f1f, f2f, f3f⟩ := kff
  obtain ⟨f1g, f2g, f3g⟩ := kfg
  have hB' := hB
  unfold LayB at hB
  unfold Two
  have n0 : nI 1 = 1 := rfl
  have n1 : nI 2 = 2 := rfl
  have n2 : nI 3 = 3 := rfl
  have uu : I qf 2 = I qg 2 := by rw [a8f, a8g]; exact hu
  obtain ⟨m, rfl⟩ : ∃ m, n = m + 98 := ⟨n - 98, by omega⟩
  have hqf0 : ¬ qf = 0 := by omega
  have hqg0 : ¬ qg = 0 := by omega
  have p2 : ¬ (12 : Int32) ≤ nI M := nI_ge (b := 12) (by omega) (by omega)
  have p1 : nI M < 12 := nI_lt (b := 12) (by omega) (by omega)
  have qnf : ∀ c, 95 ≤ c → ¬ qf = m + c := fun c h => by omega
  have qng : ∀ c, 95 ≤ c → ¬ qg = m + c := fun c h => by omega
  have b12 : ∀ (k v : Int32), bnd (mb k) v → bnd 12 v := fun k v hv => by unfold bnd mb at *; split at hv <;> omega
  simp [S62_0, S97_0, S97_1, S97_2, S97_3, S97_4, S91_0, S37_0, S51_0, S51_1, S98_0, S98_1, S98_2, S99_0, S99_1, Call_in (k2 := 97), Call_in (k2 := 91), Call_in (k2 := 37), Call_in (k2 := 51), Call_in (k2 := 98), Call_in (k2 := 99), BS, ixs, inbs, le_nlt, hB, at_yesG hB' hM12 hf, at_yesG hB' hM12 hg, e1, a1f, a1g, hqf0, hqg0, f1f, f2f, f1g, f2g, uu, r3f, r4f, r5f, r6f, c1f, c2f, c3f, c4f, z1f, z2f, z3f, z4f, a6f, r3g, r4g, r5g, r6g, c1g, c2g, c3g, c4g, z1g, z2g, z3g, z4g, a6g, n0, n1, p1, p2, va_up_rd, u2_rd, qnf, qng, Nat.add_assoc, inGs]
  refine join_fin (km := 118) (lm := [some (.ref 74), some (.int (nI f)), some (.int (nI g))]) (n := m + 98) (sl := sl) (sl' := sl + 23) (s := 3) (u := I qg 2) h7 hMl (by omega) (by rw [a8g]; exact a9g) (by omega) (fun i hi => ?_) (fun i hi => ?_) (fun i hi => ?_) (fun i hi => ?_) (fun i hi => ?_) ?_ ?_ ?_ ?_ (fun i k hi hk hz => ?_) (fun i hi hz => ?_) (fun y1 y2 y3 => ?_) (fun v h => ?_) (fun I3 L3 R3 Q lm i3' go => ?_)
  · repeat (first | rw [va_up_no _ _ (by omega)] | rw [u2_ne _ _ _ (by omega)])
  · repeat (first | rw [va_up_no _ _ (by omega)] | rw [u2_ne _ _ _ (by omega)])
  · repeat (first | rw [va_up_no _ _ (by omega)] | rw [u2_ne _ _ _ (by omega)])
  · repeat (first | rw [va_up_no _ _ (by omega)] | rw [u2_ne _ _ _ (by omega)])
  · repeat (first | rw [va_up_no _ _ (by omega)] | rw [u2_ne _ _ _ (by omega)])
  · simp [va_up_rd]
  · simp [va_up_rd, u2_rd]
  · simp [va_up_rd]
  · simp [va_up_rd, u2_rd, n2]
  · rcases i3 hi with rfl | rfl | rfl <;> rcases i3 hk with rfl | rfl | rfl <;> first | (exact absurd hz (by omega)) | simp [va_up_rd, u2_rd]
  · rcases i3 hi with rfl | rfl | rfl <;> first | (exact absurd hz (by omega)) | simp [va_up_rd, u2_rd]
  · intro _; exact Or.inr (Or.inl ⟨by simp [va_up_rd, u2_rd], by simp [va_up_rd, u2_rd]⟩)
  · simp [S62_0, S97_0, S97_1, S97_2, S97_3, S97_4]
  · have w74 := i3' 74 (by omega) (by omega)
    have w75 := i3' 75 (by omega) (by omega)
    have w76 := i3' 76 (by omega) (by omega)
    have w77 := i3' 77 (by omega) (by omega)
    have w78 := i3' 78 (by omega) (by omega)
    have w79 := i3' 79 (by omega) (by omega)
    have w80 := i3' 80 (by omega) (by omega)
    have w81 := i3' 81 (by omega) (by omega)
    have Af : ∀ i, i < 9 → I 79 (9 * f + i) = I (qf + 1) i := fun i hi => (maf i hi).1
    have Ag : ∀ i, i < 9 → I 79 (9 * g + i) = I (qg + 1) i := fun i hi => (mag i hi).1
    have Af0 : I 79 (9 * f) = I (qf + 1) 0 := Af 0 (by omega)
    have Ag0 : I 79 (9 * g) = I (qg + 1) 0 := Ag 0 (by omega)
    have Bf : ∀ i, i < 3 → I 80 (3 * f + i) = I (qf + 2) i := fun i hi => (mbbf i hi).1
    have Bg : ∀ i, i < 3 → I 80 (3 * g + i) = I (qg + 2) i := fun i hi => (mbbg i hi).1
    have Bf0 : I 80 (3 * f) = I (qf + 2) 0 := Bf 0 (by omega)
    have Bg0 : I 80 (3 * g) = I (qg + 2) 0 := Bg 0 (by omega)
    have Kf : ∀ i, i < 3 → I 81 (3 * f + i) = I (qf + 3) i := fun i hi => (mccf i hi).1
    have Kg : ∀ i, i < 3 → I 81 (3 * g + i) = I (qg + 3) i := fun i hi => (mccg i hi).1
    have Kf0 : I 81 (3 * f) = I (qf + 3) 0 := Kf 0 (by omega)
    have Kg0 : I 81 (3 * g) = I (qg + 3) 0 := Kg 0 (by omega)
    simp [S118_0, BS, Call_in (k2 := 116), lm.1]
    refine m_joins0_12 (I := I3) lm hM12 hf hg (by rw [w74]; exact e2) (by rw [w75]; exact f3f) (by rw [w75]; exact f3g) (by rw [w77]; exact hu) (by rw [w76]; exact a7f) (by rw [w76]; exact a7g) (fun I4 ls g1 g2 => ?_)
    have go2 := go I4 116 429 ls (fun r h1 => Wp 118 7 [some (.ref 74), some (.int (nI f)), some (.int (nI g))] (r.toList ++ []) h1 Q) (fun v h => by simp [S116_0, S116_1, S116_2, S116_3, S116_4, S116_5, S116_6, S116_7, S116_8, S116_9, S116_10, S118_0]) g1 (fun i k hi hk => ?_) (fun i hi => ?_)
    · simpa [va_up_rd, u2_rd, w79, w80, w81, w77, w78, Af, Ag, Af0, Ag0, Bf, Bg, Bf0, Bg0, Kf, Kg, Kf0, Kg0, mdf, mdg, a8g] using go2
    · first | (exact absurd hi (by omega)) | (rcases i3 (show i < 3 by omega) with rfl | rfl | rfl <;> rcases i3 (show k < 3 by omega) with rfl | rfl | rfl <;> first | (exact absurd hi (by omega)) | (exact absurd hk (by omega)) | simp [va_up_rd, u2_rd, g2, w79, w80, w81, w77, w78, Af, Ag, Af0, Ag0, Bf, Bg, Bf0, Bg0, Kf, Kg, Kf0, Kg0, mdf, mdg, a8g, hu])
    · first | (exact absurd hi (by omega)) | (rcases i3 (show i < 3 by omega) with rfl | rfl | rfl <;> first | (exact absurd hi (by omega)) | simp [va_up_rd, u2_rd, g2, w79, w80, w81, w77, w78, Af, Ag, Af0, Ag0, Bf, Bg, Bf0, Bg0, Kf, Kg, Kf0, Kg0, mdf, mdg, a8g, hu, Int32.mul_comm])

set_option maxRecDepth 100000 in
set_option maxHeartbeats 8000000 in
theorem two_side_20 {n sl : Nat} {C Z : Nat → Nat} {I : Nat → Nat → Int32} {L : Nat → Nat → Int64} {R : Nat → Nat → Nat} {M rn t f g qf qg : Nat} (h7 : Inv7 n C Z I L R M rn t) (hMl : M < 12) (hf : f < M) (hg : g < M) (hqf : MOK n C Z I R f qf 2) (hqg : MOK n C Z I R g qg 0) (kff : inG 7 (C qf) = true ∧ isa (C qf) 1 = false ∧ ¬ I 75 f = 1) (kfg : inG 7 (C qg) = true ∧ isa (C qg) 1 = false ∧ ¬ I 75 g = 1) (hu : I 77 f = I 77 g) : Two 62 118 [some (.ref 1), some (.int (nI f)), some (.int (nI g))] [some (.ref 74), some (.int (nI f)), some (.int (nI g))] (n, sl, C, Z, I, L, R) := by
  obtain ⟨hM12, hn98, ⟨hB, hK, hO, hE, hM⟩, ⟨e1, e2⟩, hms, hss, hap, ⟨hrn, e3, e4, hrw⟩, ht, e5, e6, htr⟩ := id h7
  obtain ⟨a1f, a2f, a3f, a4f, ⟨a5f, hs3f, a6f, a7f⟩, ⟨a8f, a9f⟩, ⟨r3f, r4f, r5f, r6f⟩, ⟨c1f, c2f, c3f, c4f, z1f, z2f, z3f, z4f⟩, maf, mbbf, mccf, ⟨mdf, mdbf⟩, zaf, zbf⟩ := id hqf
  obtain ⟨a1g, a2g, a3g, a4g, ⟨a5g, hs3g, a6g, a7g⟩, ⟨a8g, a9g⟩, ⟨r3g, r4g, r5g, r6g⟩, ⟨c1g, c2g, c3g, c4g, z1g, z2g, z3g, z4g⟩, mag, mbbg, mccg, ⟨mdg, mdbg⟩, zag, zbg⟩ := id hqg
  obtain ⟨f1f, f2f, f3f⟩ := kff
  obtain ⟨f1g, f2g, f3g⟩ := kfg
  have hB' := hB
  unfold LayB at hB
  unfold Two
  have n0 : nI 2 = 2 := rfl
  have n1 : nI 0 = 0 := rfl
  have n2 : nI 2 = 2 := rfl
  have uu : I qf 2 = I qg 2 := by rw [a8f, a8g]; exact hu
  obtain ⟨m, rfl⟩ : ∃ m, n = m + 98 := ⟨n - 98, by omega⟩
  have hqf0 : ¬ qf = 0 := by omega
  have hqg0 : ¬ qg = 0 := by omega
  have p2 : ¬ (12 : Int32) ≤ nI M := nI_ge (b := 12) (by omega) (by omega)
  have p1 : nI M < 12 := nI_lt (b := 12) (by omega) (by omega)
  have qnf : ∀ c, 95 ≤ c → ¬ qf = m + c := fun c h => by omega
  have qng : ∀ c, 95 ≤ c → ¬ qg = m + c := fun c h => by omega
  have b12 : ∀ (k v : Int32), bnd (mb k) v → bnd 12 v := fun k v hv => by unfold bnd mb at *; split at hv <;> omega
  simp [S62_0, S97_0, S97_1, S97_2, S97_3, S97_4, S91_0, S37_0, S51_0, S51_1, S98_0, S98_1, S98_2, S99_0, S99_1, Call_in (k2 := 97), Call_in (k2 := 91), Call_in (k2 := 37), Call_in (k2 := 51), Call_in (k2 := 98), Call_in (k2 := 99), BS, ixs, inbs, le_nlt, hB, at_yesG hB' hM12 hf, at_yesG hB' hM12 hg, e1, a1f, a1g, hqf0, hqg0, f1f, f2f, f1g, f2g, uu, r3f, r4f, r5f, r6f, c1f, c2f, c3f, c4f, z1f, z2f, z3f, z4f, a6f, r3g, r4g, r5g, r6g, c1g, c2g, c3g, c4g, z1g, z2g, z3g, z4g, a6g, n0, n1, p1, p2, va_up_rd, u2_rd, qnf, qng, Nat.add_assoc, inGs]
  refine join_fin (km := 118) (lm := [some (.ref 74), some (.int (nI f)), some (.int (nI g))]) (n := m + 98) (sl := sl) (sl' := sl + 23) (s := 2) (u := I qg 2) h7 hMl (by omega) (by rw [a8g]; exact a9g) (by omega) (fun i hi => ?_) (fun i hi => ?_) (fun i hi => ?_) (fun i hi => ?_) (fun i hi => ?_) ?_ ?_ ?_ ?_ (fun i k hi hk hz => ?_) (fun i hi hz => ?_) (fun y1 y2 y3 => ?_) (fun v h => ?_) (fun I3 L3 R3 Q lm i3' go => ?_)
  · repeat (first | rw [va_up_no _ _ (by omega)] | rw [u2_ne _ _ _ (by omega)])
  · repeat (first | rw [va_up_no _ _ (by omega)] | rw [u2_ne _ _ _ (by omega)])
  · repeat (first | rw [va_up_no _ _ (by omega)] | rw [u2_ne _ _ _ (by omega)])
  · repeat (first | rw [va_up_no _ _ (by omega)] | rw [u2_ne _ _ _ (by omega)])
  · repeat (first | rw [va_up_no _ _ (by omega)] | rw [u2_ne _ _ _ (by omega)])
  · simp [va_up_rd]
  · simp [va_up_rd, u2_rd]
  · simp [va_up_rd]
  · simp [va_up_rd, u2_rd, n2]
  · rcases i3 hi with rfl | rfl | rfl <;> rcases i3 hk with rfl | rfl | rfl <;> first | (exact absurd hz (by omega)) | simp [va_up_rd, u2_rd]
  · rcases i3 hi with rfl | rfl | rfl <;> first | (exact absurd hz (by omega)) | simp [va_up_rd, u2_rd]
  · intro h0; exact absurd h0 (by decide)
  · simp [S62_0, S97_0, S97_1, S97_2, S97_3, S97_4]
  · have w74 := i3' 74 (by omega) (by omega)
    have w75 := i3' 75 (by omega) (by omega)
    have w76 := i3' 76 (by omega) (by omega)
    have w77 := i3' 77 (by omega) (by omega)
    have w78 := i3' 78 (by omega) (by omega)
    have w79 := i3' 79 (by omega) (by omega)
    have w80 := i3' 80 (by omega) (by omega)
    have w81 := i3' 81 (by omega) (by omega)
    have Af : ∀ i, i < 9 → I 79 (9 * f + i) = I (qf + 1) i := fun i hi => (maf i hi).1
    have Ag : ∀ i, i < 9 → I 79 (9 * g + i) = I (qg + 1) i := fun i hi => (mag i hi).1
    have Af0 : I 79 (9 * f) = I (qf + 1) 0 := Af 0 (by omega)
    have Ag0 : I 79 (9 * g) = I (qg + 1) 0 := Ag 0 (by omega)
    have Bf : ∀ i, i < 3 → I 80 (3 * f + i) = I (qf + 2) i := fun i hi => (mbbf i hi).1
    have Bg : ∀ i, i < 3 → I 80 (3 * g + i) = I (qg + 2) i := fun i hi => (mbbg i hi).1
    have Bf0 : I 80 (3 * f) = I (qf + 2) 0 := Bf 0 (by omega)
    have Bg0 : I 80 (3 * g) = I (qg + 2) 0 := Bg 0 (by omega)
    have Kf : ∀ i, i < 3 → I 81 (3 * f + i) = I (qf + 3) i := fun i hi => (mccf i hi).1
    have Kg : ∀ i, i < 3 → I 81 (3 * g + i) = I (qg + 3) i := fun i hi => (mccg i hi).1
    have Kf0 : I 81 (3 * f) = I (qf + 3) 0 := Kf 0 (by omega)
    have Kg0 : I 81 (3 * g) = I (qg + 3) 0 := Kg 0 (by omega)
    simp [S118_0, BS, Call_in (k2 := 116), lm.1]
    refine m_joins0_20 (I := I3) lm hM12 hf hg (by rw [w74]; exact e2) (by rw [w75]; exact f3f) (by rw [w75]; exact f3g) (by rw [w77]; exact hu) (by rw [w76]; exact a7f) (by rw [w76]; exact a7g) (fun I4 ls g1 g2 => ?_)
    have go2 := go I4 116 429 ls (fun r h1 => Wp 118 7 [some (.ref 74), some (.int (nI f)), some (.int (nI g))] (r.toList ++ []) h1 Q) (fun v h => by simp [S116_0, S116_1, S116_2, S116_3, S116_4, S116_5, S116_6, S116_7, S116_8, S116_9, S116_10, S118_0]) g1 (fun i k hi hk => ?_) (fun i hi => ?_)
    · simpa [va_up_rd, u2_rd, w79, w80, w81, w77, w78, Af, Ag, Af0, Ag0, Bf, Bg, Bf0, Bg0, Kf, Kg, Kf0, Kg0, mdf, mdg, a8g] using go2
    · first | (exact absurd hi (by omega)) | (rcases i3 (show i < 3 by omega) with rfl | rfl | rfl <;> rcases i3 (show k < 3 by omega) with rfl | rfl | rfl <;> first | (exact absurd hi (by omega)) | (exact absurd hk (by omega)) | simp [va_up_rd, u2_rd, g2, w79, w80, w81, w77, w78, Af, Ag, Af0, Ag0, Bf, Bg, Bf0, Bg0, Kf, Kg, Kf0, Kg0, mdf, mdg, a8g, hu])
    · first | (exact absurd hi (by omega)) | (rcases i3 (show i < 3 by omega) with rfl | rfl | rfl <;> first | (exact absurd hi (by omega)) | simp [va_up_rd, u2_rd, g2, w79, w80, w81, w77, w78, Af, Ag, Af0, Ag0, Bf, Bg, Bf0, Bg0, Kf, Kg, Kf0, Kg0, mdf, mdg, a8g, hu, Int32.mul_comm])

set_option maxRecDepth 100000 in
set_option maxHeartbeats 8000000 in
theorem two_side_21 {n sl : Nat} {C Z : Nat → Nat} {I : Nat → Nat → Int32} {L : Nat → Nat → Int64} {R : Nat → Nat → Nat} {M rn t f g qf qg : Nat} (h7 : Inv7 n C Z I L R M rn t) (hMl : M < 12) (hf : f < M) (hg : g < M) (hqf : MOK n C Z I R f qf 2) (hqg : MOK n C Z I R g qg 1) (kff : inG 7 (C qf) = true ∧ isa (C qf) 1 = false ∧ ¬ I 75 f = 1) (kfg : inG 7 (C qg) = true ∧ isa (C qg) 1 = false ∧ ¬ I 75 g = 1) (hu : I 77 f = I 77 g) : Two 62 118 [some (.ref 1), some (.int (nI f)), some (.int (nI g))] [some (.ref 74), some (.int (nI f)), some (.int (nI g))] (n, sl, C, Z, I, L, R) := by
  obtain ⟨hM12, hn98, ⟨hB, hK, hO, hE, hM⟩, ⟨e1, e2⟩, hms, hss, hap, ⟨hrn, e3, e4, hrw⟩, ht, e5, e6, htr⟩ := id h7
  obtain ⟨a1f, a2f, a3f, a4f, ⟨a5f, hs3f, a6f, a7f⟩, ⟨a8f, a9f⟩, ⟨r3f, r4f, r5f, r6f⟩, ⟨c1f, c2f, c3f, c4f, z1f, z2f, z3f, z4f⟩, maf, mbbf, mccf, ⟨mdf, mdbf⟩, zaf, zbf⟩ := id hqf
  obtain ⟨a1g, a2g, a3g, a4g, ⟨a5g, hs3g, a6g, a7g⟩, ⟨a8g, a9g⟩, ⟨r3g, r4g, r5g, r6g⟩, ⟨c1g, c2g, c3g, c4g, z1g, z2g, z3g, z4g⟩, mag, mbbg, mccg, ⟨mdg, mdbg⟩, zag, zbg⟩ := id hqg
  obtain ⟨f1f, f2f, f3f⟩ := kff
  obtain ⟨f1g, f2g, f3g⟩ := kfg
  have hB' := hB
  unfold LayB at hB
  unfold Two
  have n0 : nI 2 = 2 := rfl
  have n1 : nI 1 = 1 := rfl
  have n2 : nI 3 = 3 := rfl
  have uu : I qf 2 = I qg 2 := by rw [a8f, a8g]; exact hu
  obtain ⟨m, rfl⟩ : ∃ m, n = m + 98 := ⟨n - 98, by omega⟩
  have hqf0 : ¬ qf = 0 := by omega
  have hqg0 : ¬ qg = 0 := by omega
  have p2 : ¬ (12 : Int32) ≤ nI M := nI_ge (b := 12) (by omega) (by omega)
  have p1 : nI M < 12 := nI_lt (b := 12) (by omega) (by omega)
  have qnf : ∀ c, 95 ≤ c → ¬ qf = m + c := fun c h => by omega
  have qng : ∀ c, 95 ≤ c → ¬ qg = m + c := fun c h => by omega
  have b12 : ∀ (k v : Int32), bnd (mb k) v → bnd 12 v := fun k v hv => by unfold bnd mb at *; split at hv <;> omega
  simp [S62_0, S97_0, S97_1, S97_2, S97_3, S97_4, S91_0, S37_0, S51_0, S51_1, S98_0, S98_1, S98_2, S99_0, S99_1, Call_in (k2 := 97), Call_in (k2 := 91), Call_in (k2 := 37), Call_in (k2 := 51), Call_in (k2 := 98), Call_in (k2 := 99), BS, ixs, inbs, le_nlt, hB, at_yesG hB' hM12 hf, at_yesG hB' hM12 hg, e1, a1f, a1g, hqf0, hqg0, f1f, f2f, f1g, f2g, uu, r3f, r4f, r5f, r6f, c1f, c2f, c3f, c4f, z1f, z2f, z3f, z4f, a6f, r3g, r4g, r5g, r6g, c1g, c2g, c3g, c4g, z1g, z2g, z3g, z4g, a6g, n0, n1, p1, p2, va_up_rd, u2_rd, qnf, qng, Nat.add_assoc, inGs]
  refine join_fin (km := 118) (lm := [some (.ref 74), some (.int (nI f)), some (.int (nI g))]) (n := m + 98) (sl := sl) (sl' := sl + 23) (s := 3) (u := I qg 2) h7 hMl (by omega) (by rw [a8g]; exact a9g) (by omega) (fun i hi => ?_) (fun i hi => ?_) (fun i hi => ?_) (fun i hi => ?_) (fun i hi => ?_) ?_ ?_ ?_ ?_ (fun i k hi hk hz => ?_) (fun i hi hz => ?_) (fun y1 y2 y3 => ?_) (fun v h => ?_) (fun I3 L3 R3 Q lm i3' go => ?_)
  · repeat (first | rw [va_up_no _ _ (by omega)] | rw [u2_ne _ _ _ (by omega)])
  · repeat (first | rw [va_up_no _ _ (by omega)] | rw [u2_ne _ _ _ (by omega)])
  · repeat (first | rw [va_up_no _ _ (by omega)] | rw [u2_ne _ _ _ (by omega)])
  · repeat (first | rw [va_up_no _ _ (by omega)] | rw [u2_ne _ _ _ (by omega)])
  · repeat (first | rw [va_up_no _ _ (by omega)] | rw [u2_ne _ _ _ (by omega)])
  · simp [va_up_rd]
  · simp [va_up_rd, u2_rd]
  · simp [va_up_rd]
  · simp [va_up_rd, u2_rd, n2]
  · rcases i3 hi with rfl | rfl | rfl <;> rcases i3 hk with rfl | rfl | rfl <;> first | (exact absurd hz (by omega)) | simp [va_up_rd, u2_rd]
  · rcases i3 hi with rfl | rfl | rfl <;> first | (exact absurd hz (by omega)) | simp [va_up_rd, u2_rd]
  · intro _; exact Or.inl ⟨by simp [va_up_rd, u2_rd], by simp [va_up_rd, u2_rd]⟩
  · simp [S62_0, S97_0, S97_1, S97_2, S97_3, S97_4]
  · have w74 := i3' 74 (by omega) (by omega)
    have w75 := i3' 75 (by omega) (by omega)
    have w76 := i3' 76 (by omega) (by omega)
    have w77 := i3' 77 (by omega) (by omega)
    have w78 := i3' 78 (by omega) (by omega)
    have w79 := i3' 79 (by omega) (by omega)
    have w80 := i3' 80 (by omega) (by omega)
    have w81 := i3' 81 (by omega) (by omega)
    have Af : ∀ i, i < 9 → I 79 (9 * f + i) = I (qf + 1) i := fun i hi => (maf i hi).1
    have Ag : ∀ i, i < 9 → I 79 (9 * g + i) = I (qg + 1) i := fun i hi => (mag i hi).1
    have Af0 : I 79 (9 * f) = I (qf + 1) 0 := Af 0 (by omega)
    have Ag0 : I 79 (9 * g) = I (qg + 1) 0 := Ag 0 (by omega)
    have Bf : ∀ i, i < 3 → I 80 (3 * f + i) = I (qf + 2) i := fun i hi => (mbbf i hi).1
    have Bg : ∀ i, i < 3 → I 80 (3 * g + i) = I (qg + 2) i := fun i hi => (mbbg i hi).1
    have Bf0 : I 80 (3 * f) = I (qf + 2) 0 := Bf 0 (by omega)
    have Bg0 : I 80 (3 * g) = I (qg + 2) 0 := Bg 0 (by omega)
    have Kf : ∀ i, i < 3 → I 81 (3 * f + i) = I (qf + 3) i := fun i hi => (mccf i hi).1
    have Kg : ∀ i, i < 3 → I 81 (3 * g + i) = I (qg + 3) i := fun i hi => (mccg i hi).1
    have Kf0 : I 81 (3 * f) = I (qf + 3) 0 := Kf 0 (by omega)
    have Kg0 : I 81 (3 * g) = I (qg + 3) 0 := Kg 0 (by omega)
    simp [S118_0, BS, Call_in (k2 := 116), lm.1]
    refine m_joins0_21 (I := I3) lm hM12 hf hg (by rw [w74]; exact e2) (by rw [w75]; exact f3f) (by rw [w75]; exact f3g) (by rw [w77]; exact hu) (by rw [w76]; exact a7f) (by rw [w76]; exact a7g) (fun I4 ls g1 g2 => ?_)
    have go2 := go I4 116 429 ls (fun r h1 => Wp 118 7 [some (.ref 74), some (.int (nI f)), some (.int (nI g))] (r.toList ++ []) h1 Q) (fun v h => by simp [S116_0, S116_1, S116_2, S116_3, S116_4, S116_5, S116_6, S116_7, S116_8, S116_9, S116_10, S118_0]) g1 (fun i k hi hk => ?_) (fun i hi => ?_)
    · simpa [va_up_rd, u2_rd, w79, w80, w81, w77, w78, Af, Ag, Af0, Ag0, Bf, Bg, Bf0, Bg0, Kf, Kg, Kf0, Kg0, mdf, mdg, a8g] using go2
    · first | (exact absurd hi (by omega)) | (rcases i3 (show i < 3 by omega) with rfl | rfl | rfl <;> rcases i3 (show k < 3 by omega) with rfl | rfl | rfl <;> first | (exact absurd hi (by omega)) | (exact absurd hk (by omega)) | simp [va_up_rd, u2_rd, g2, w79, w80, w81, w77, w78, Af, Ag, Af0, Ag0, Bf, Bg, Bf0, Bg0, Kf, Kg, Kf0, Kg0, mdf, mdg, a8g, hu])
    · first | (exact absurd hi (by omega)) | (rcases i3 (show i < 3 by omega) with rfl | rfl | rfl <;> first | (exact absurd hi (by omega)) | simp [va_up_rd, u2_rd, g2, w79, w80, w81, w77, w78, Af, Ag, Af0, Ag0, Bf, Bg, Bf0, Bg0, Kf, Kg, Kf0, Kg0, mdf, mdg, a8g, hu, Int32.mul_comm])

set_option maxRecDepth 100000 in
set_option maxHeartbeats 8000000 in
theorem two_side_30 {n sl : Nat} {C Z : Nat → Nat} {I : Nat → Nat → Int32} {L : Nat → Nat → Int64} {R : Nat → Nat → Nat} {M rn t f g qf qg : Nat} (h7 : Inv7 n C Z I L R M rn t) (hMl : M < 12) (hf : f < M) (hg : g < M) (hqf : MOK n C Z I R f qf 3) (hqg : MOK n C Z I R g qg 0) (kff : inG 7 (C qf) = true ∧ isa (C qf) 1 = false ∧ ¬ I 75 f = 1) (kfg : inG 7 (C qg) = true ∧ isa (C qg) 1 = false ∧ ¬ I 75 g = 1) (hu : I 77 f = I 77 g) : Two 62 118 [some (.ref 1), some (.int (nI f)), some (.int (nI g))] [some (.ref 74), some (.int (nI f)), some (.int (nI g))] (n, sl, C, Z, I, L, R) := by
  obtain ⟨hM12, hn98, ⟨hB, hK, hO, hE, hM⟩, ⟨e1, e2⟩, hms, hss, hap, ⟨hrn, e3, e4, hrw⟩, ht, e5, e6, htr⟩ := id h7
  obtain ⟨a1f, a2f, a3f, a4f, ⟨a5f, hs3f, a6f, a7f⟩, ⟨a8f, a9f⟩, ⟨r3f, r4f, r5f, r6f⟩, ⟨c1f, c2f, c3f, c4f, z1f, z2f, z3f, z4f⟩, maf, mbbf, mccf, ⟨mdf, mdbf⟩, zaf, zbf⟩ := id hqf
  obtain ⟨a1g, a2g, a3g, a4g, ⟨a5g, hs3g, a6g, a7g⟩, ⟨a8g, a9g⟩, ⟨r3g, r4g, r5g, r6g⟩, ⟨c1g, c2g, c3g, c4g, z1g, z2g, z3g, z4g⟩, mag, mbbg, mccg, ⟨mdg, mdbg⟩, zag, zbg⟩ := id hqg
  obtain ⟨f1f, f2f, f3f⟩ := kff
  obtain ⟨f1g, f2g, f3g⟩ := kfg
  have hB' := hB
  unfold LayB at hB
  unfold Two
  have n0 : nI 3 = 3 := rfl
  have n1 : nI 0 = 0 := rfl
  have n2 : nI 3 = 3 := rfl
  have uu : I qf 2 = I qg 2 := by rw [a8f, a8g]; exact hu
  obtain ⟨m, rfl⟩ : ∃ m, n = m + 98 := ⟨n - 98, by omega⟩
  have hqf0 : ¬ qf = 0 := by omega
  have hqg0 : ¬ qg = 0 := by omega
  have p2 : ¬ (12 : Int32) ≤ nI M := nI_ge (b := 12) (by omega) (by omega)
  have p1 : nI M < 12 := nI_lt (b := 12) (by omega) (by omega)
  have qnf : ∀ c, 95 ≤ c → ¬ qf = m + c := fun c h => by omega
  have qng : ∀ c, 95 ≤ c → ¬ qg = m + c := fun c h => by omega
  have b12 : ∀ (k v : Int32), bnd (mb k) v → bnd 12 v := fun k v hv => by unfold bnd mb at *; split at hv <;> omega
  simp [S62_0, S97_0, S97_1, S97_2, S97_3, S97_4, S91_0, S37_0, S51_0, S51_1, S98_0, S98_1, S98_2, S99_0, S99_1, Call_in (k2 := 97), Call_in (k2 := 91), Call_in (k2 := 37), Call_in (k2 := 51), Call_in (k2 := 98), Call_in (k2 := 99), BS, ixs, inbs, le_nlt, hB, at_yesG hB' hM12 hf, at_yesG hB' hM12 hg, e1, a1f, a1g, hqf0, hqg0, f1f, f2f, f1g, f2g, uu, r3f, r4f, r5f, r6f, c1f, c2f, c3f, c4f, z1f, z2f, z3f, z4f, a6f, r3g, r4g, r5g, r6g, c1g, c2g, c3g, c4g, z1g, z2g, z3g, z4g, a6g, n0, n1, p1, p2, va_up_rd, u2_rd, qnf, qng, Nat.add_assoc, inGs]
  refine join_fin (km := 118) (lm := [some (.ref 74), some (.int (nI f)), some (.int (nI g))]) (n := m + 98) (sl := sl) (sl' := sl + 23) (s := 3) (u := I qg 2) h7 hMl (by omega) (by rw [a8g]; exact a9g) (by omega) (fun i hi => ?_) (fun i hi => ?_) (fun i hi => ?_) (fun i hi => ?_) (fun i hi => ?_) ?_ ?_ ?_ ?_ (fun i k hi hk hz => ?_) (fun i hi hz => ?_) (fun y1 y2 y3 => ?_) (fun v h => ?_) (fun I3 L3 R3 Q lm i3' go => ?_)
  · repeat (first | rw [va_up_no _ _ (by omega)] | rw [u2_ne _ _ _ (by omega)])
  · repeat (first | rw [va_up_no _ _ (by omega)] | rw [u2_ne _ _ _ (by omega)])
  · repeat (first | rw [va_up_no _ _ (by omega)] | rw [u2_ne _ _ _ (by omega)])
  · repeat (first | rw [va_up_no _ _ (by omega)] | rw [u2_ne _ _ _ (by omega)])
  · repeat (first | rw [va_up_no _ _ (by omega)] | rw [u2_ne _ _ _ (by omega)])
  · simp [va_up_rd]
  · simp [va_up_rd, u2_rd]
  · simp [va_up_rd]
  · simp [va_up_rd, u2_rd, n2]
  · rcases i3 hi with rfl | rfl | rfl <;> rcases i3 hk with rfl | rfl | rfl <;> first | (exact absurd hz (by omega)) | simp [va_up_rd, u2_rd]
  · rcases i3 hi with rfl | rfl | rfl <;> first | (exact absurd hz (by omega)) | simp [va_up_rd, u2_rd]
  · refine FB.scale (d := 1) (e := 1) hqf.FBm (fun i hi => ?_) (fun i hi => ?_) (fun i hi => ?_)
    · rcases i9 hi with rfl | rfl | rfl | rfl | rfl | rfl | rfl | rfl | rfl <;> simp [va_up_rd, u2_rd]
    · rcases i3 hi with rfl | rfl | rfl <;> simp [va_up_rd, u2_rd]
    · rcases i3 hi with rfl | rfl | rfl <;> simp [va_up_rd, u2_rd]
  · simp [S62_0, S97_0, S97_1, S97_2, S97_3, S97_4]
  · have w74 := i3' 74 (by omega) (by omega)
    have w75 := i3' 75 (by omega) (by omega)
    have w76 := i3' 76 (by omega) (by omega)
    have w77 := i3' 77 (by omega) (by omega)
    have w78 := i3' 78 (by omega) (by omega)
    have w79 := i3' 79 (by omega) (by omega)
    have w80 := i3' 80 (by omega) (by omega)
    have w81 := i3' 81 (by omega) (by omega)
    have Af : ∀ i, i < 9 → I 79 (9 * f + i) = I (qf + 1) i := fun i hi => (maf i hi).1
    have Ag : ∀ i, i < 9 → I 79 (9 * g + i) = I (qg + 1) i := fun i hi => (mag i hi).1
    have Af0 : I 79 (9 * f) = I (qf + 1) 0 := Af 0 (by omega)
    have Ag0 : I 79 (9 * g) = I (qg + 1) 0 := Ag 0 (by omega)
    have Bf : ∀ i, i < 3 → I 80 (3 * f + i) = I (qf + 2) i := fun i hi => (mbbf i hi).1
    have Bg : ∀ i, i < 3 → I 80 (3 * g + i) = I (qg + 2) i := fun i hi => (mbbg i hi).1
    have Bf0 : I 80 (3 * f) = I (qf + 2) 0 := Bf 0 (by omega)
    have Bg0 : I 80 (3 * g) = I (qg + 2) 0 := Bg 0 (by omega)
    have Kf : ∀ i, i < 3 → I 81 (3 * f + i) = I (qf + 3) i := fun i hi => (mccf i hi).1
    have Kg : ∀ i, i < 3 → I 81 (3 * g + i) = I (qg + 3) i := fun i hi => (mccg i hi).1
    have Kf0 : I 81 (3 * f) = I (qf + 3) 0 := Kf 0 (by omega)
    have Kg0 : I 81 (3 * g) = I (qg + 3) 0 := Kg 0 (by omega)
    simp [S118_0, BS, Call_in (k2 := 116), lm.1]
    refine m_joins0_30 (I := I3) lm hM12 hf hg (by rw [w74]; exact e2) (by rw [w75]; exact f3f) (by rw [w75]; exact f3g) (by rw [w77]; exact hu) (by rw [w76]; exact a7f) (by rw [w76]; exact a7g) (fun I4 ls g1 g2 => ?_)
    have go2 := go I4 116 429 ls (fun r h1 => Wp 118 7 [some (.ref 74), some (.int (nI f)), some (.int (nI g))] (r.toList ++ []) h1 Q) (fun v h => by simp [S116_0, S116_1, S116_2, S116_3, S116_4, S116_5, S116_6, S116_7, S116_8, S116_9, S116_10, S118_0]) g1 (fun i k hi hk => ?_) (fun i hi => ?_)
    · simpa [va_up_rd, u2_rd, w79, w80, w81, w77, w78, Af, Ag, Af0, Ag0, Bf, Bg, Bf0, Bg0, Kf, Kg, Kf0, Kg0, mdf, mdg, a8g] using go2
    · first | (exact absurd hi (by omega)) | (rcases i3 (show i < 3 by omega) with rfl | rfl | rfl <;> rcases i3 (show k < 3 by omega) with rfl | rfl | rfl <;> first | (exact absurd hi (by omega)) | (exact absurd hk (by omega)) | simp [va_up_rd, u2_rd, g2, w79, w80, w81, w77, w78, Af, Ag, Af0, Ag0, Bf, Bg, Bf0, Bg0, Kf, Kg, Kf0, Kg0, mdf, mdg, a8g, hu])
    · first | (exact absurd hi (by omega)) | (rcases i3 (show i < 3 by omega) with rfl | rfl | rfl <;> first | (exact absurd hi (by omega)) | simp [va_up_rd, u2_rd, g2, w79, w80, w81, w77, w78, Af, Ag, Af0, Ag0, Bf, Bg, Bf0, Bg0, Kf, Kg, Kf0, Kg0, mdf, mdg, a8g, hu, Int32.mul_comm])

set_option maxRecDepth 100000 in
set_option maxHeartbeats 8000000 in
/-- side(first, second) -/
theorem two_side (h : Hp) (hI : Inv h) (x y : Int32) : Two 62 118 [some (.ref 1), some (.int x), some (.int y)] [some (.ref 74), some (.int x), some (.int y)] h := by
  obtain ⟨n, sl, C, Z, I, L, R⟩ := h
  obtain ⟨M, rn, t, h7⟩ := id hI
  obtain ⟨hM12, hn98, ⟨hB, hK, hO, hE, hM⟩, ⟨e1, e2⟩, hms, hss, hap, ⟨hrn, e3, e4, hrw⟩, ht, e5, e6, htr⟩ := id h7
  dsimp only at hM12 hn98 hB hK hO hE hM e1 e2 hms hss hap hrn e3 e4 hrw ht e5 e6 htr h7
  have hB' := hB
  have hM' := hM
  unfold LayB at hB
  unfold LayM at hM
  unfold Two
  rcases pk_ix x (n := M) (by omega) with hx | hx | ⟨f, hf, rfl⟩
  · have hm : x < 0 ∨ nI M ≤ x := Or.inl hx
    rcases pk_ix y (n := M) (by omega) with hy | hy | ⟨g, hg, rfl⟩
    · simp [S62_0, S97_0, S97_1, S97_2, S97_3, S97_4, S91_0, S118_0, S116_0, S116_1, S116_2, S116_3, S116_4, S116_5, S116_6, S116_7, S116_8, S116_9, S116_10, at_noG hB' hM12 hm, is_noG hM' hm, at_noG hB' hM12 (Or.inl hy), Call_in, BS, ixs, inbs, le_nlt, hB, hM, hI, e1, e2]
    · simp [S62_0, S97_0, S97_1, S97_2, S97_3, S97_4, S91_0, S118_0, S116_0, S116_1, S116_2, S116_3, S116_4, S116_5, S116_6, S116_7, S116_8, S116_9, S116_10, at_noG hB' hM12 hm, is_noG hM' hm, at_noG hB' hM12 (Or.inr hy), Call_in, BS, ixs, inbs, le_nlt, hB, hM, hI, e1, e2]
    · simp [S62_0, S97_0, S97_1, S97_2, S97_3, S97_4, S91_0, S118_0, S116_0, S116_1, S116_2, S116_3, S116_4, S116_5, S116_6, S116_7, S116_8, S116_9, S116_10, at_noG hB' hM12 hm, is_noG hM' hm, at_yesG hB' hM12 hg, Call_in, BS, ixs, inbs, le_nlt, hB, hM, hI, e1, e2]
  · have hm : x < 0 ∨ nI M ≤ x := Or.inr hx
    rcases pk_ix y (n := M) (by omega) with hy | hy | ⟨g, hg, rfl⟩
    · simp [S62_0, S97_0, S97_1, S97_2, S97_3, S97_4, S91_0, S118_0, S116_0, S116_1, S116_2, S116_3, S116_4, S116_5, S116_6, S116_7, S116_8, S116_9, S116_10, at_noG hB' hM12 hm, is_noG hM' hm, at_noG hB' hM12 (Or.inl hy), Call_in, BS, ixs, inbs, le_nlt, hB, hM, hI, e1, e2]
    · simp [S62_0, S97_0, S97_1, S97_2, S97_3, S97_4, S91_0, S118_0, S116_0, S116_1, S116_2, S116_3, S116_4, S116_5, S116_6, S116_7, S116_8, S116_9, S116_10, at_noG hB' hM12 hm, is_noG hM' hm, at_noG hB' hM12 (Or.inr hy), Call_in, BS, ixs, inbs, le_nlt, hB, hM, hI, e1, e2]
    · simp [S62_0, S97_0, S97_1, S97_2, S97_3, S97_4, S91_0, S118_0, S116_0, S116_1, S116_2, S116_3, S116_4, S116_5, S116_6, S116_7, S116_8, S116_9, S116_10, at_noG hB' hM12 hm, is_noG hM' hm, at_yesG hB' hM12 hg, Call_in, BS, ixs, inbs, le_nlt, hB, hM, hI, e1, e2]
  · obtain ⟨qf, sf, hqf⟩ := hms f hf
    obtain ⟨a1f, a2f, a3f, a4f, ⟨a5f, hs3f, a6f, a7f⟩, ⟨a8f, a9f⟩, ⟨r3f, r4f, r5f, r6f⟩, ⟨c1f, c2f, c3f, c4f, z1f, z2f, z3f, z4f⟩, maf, mbbf, mccf, ⟨mdf, mdbf⟩, zaf, zbf⟩ := id hqf
    have hqf0 : ¬ qf = 0 := by omega
    have jf0 : inb (nI f) 12 = true := by rw [inb_nI (by omega)]; simp; omega
    have jfx := ix_nI (show f < 2 ^ 31 by omega)
    rcases pk_ix y (n := M) (by omega) with hy | hy | ⟨g, hg, rfl⟩
    · simp [S62_0, S97_0, S97_1, S97_2, S97_3, S97_4, S91_0, S118_0, S116_0, S116_1, S116_2, S116_3, S116_4, S116_5, S116_6, S116_7, S116_8, S116_9, S116_10, at_yesG hB' hM12 hf, is_yesG hM' hM12 hf, at_noG hB' hM12 (Or.inl hy), is_noG (M := M) hM' (Or.inl hy), Call_in, BS, ixs, inbs, le_nlt, hB, hM, hI, e1, e2, a1f, hqf0]
    · simp [S62_0, S97_0, S97_1, S97_2, S97_3, S97_4, S91_0, S118_0, S116_0, S116_1, S116_2, S116_3, S116_4, S116_5, S116_6, S116_7, S116_8, S116_9, S116_10, at_yesG hB' hM12 hf, is_yesG hM' hM12 hf, at_noG hB' hM12 (Or.inr hy), is_noG hM' (Or.inr hy), Call_in, BS, ixs, inbs, le_nlt, hB, hM, hI, e1, e2, a1f, hqf0]
    obtain ⟨qg, sg, hqg⟩ := hms g hg
    obtain ⟨a1g, a2g, a3g, a4g, ⟨a5g, hs3g, a6g, a7g⟩, ⟨a8g, a9g⟩, ⟨r3g, r4g, r5g, r6g⟩, ⟨c1g, c2g, c3g, c4g, z1g, z2g, z3g, z4g⟩, mag, mbbg, mccg, ⟨mdg, mdbg⟩, zag, zbg⟩ := id hqg
    have hqg0 : ¬ qg = 0 := by omega
    have jg0 : inb (nI g) 12 = true := by rw [inb_nI (by omega)]; simp; omega
    have jgx := ix_nI (show g < 2 ^ 31 by omega)
    rcases nflow a4f with ⟨b1, b2⟩ | ⟨kf1, kf2, kf3⟩
    · simp [S62_0, S97_0, S97_1, S97_2, S97_3, S97_4, S91_0, S118_0, S116_0, S116_1, S116_2, S116_3, S116_4, S116_5, S116_6, S116_7, S116_8, S116_9, S116_10, at_yesG hB' hM12 hf, at_yesG hB' hM12 hg, is_yesG hM' hM12 hf, is_yesG hM' hM12 hg, e1, e2, Call_in, BS, ixs, inbs, le_nlt, hB, hM, hI, a1f, a1g, hqf0, hqg0, jf0, jg0, jfx, jgx, inGs, isas, a6f, a6g, a7f, a7g, a8f, a8g, b1, b2]
    rcases nflow a4g with ⟨b1, b2⟩ | ⟨kg1, kg2, kg3⟩
    · simp [S62_0, S97_0, S97_1, S97_2, S97_3, S97_4, S91_0, S118_0, S116_0, S116_1, S116_2, S116_3, S116_4, S116_5, S116_6, S116_7, S116_8, S116_9, S116_10, at_yesG hB' hM12 hf, at_yesG hB' hM12 hg, is_yesG hM' hM12 hf, is_yesG hM' hM12 hg, e1, e2, Call_in, BS, ixs, inbs, le_nlt, hB, hM, hI, a1f, a1g, hqf0, hqg0, jf0, jg0, jfx, jgx, inGs, isas, a6f, a6g, a7f, a7g, a8f, a8g, kf1, kf2, kf3, b1, b2]
    by_cases hu : ¬ I 77 f = I 77 g
    · simp [S62_0, S97_0, S97_1, S97_2, S97_3, S97_4, S91_0, S118_0, S116_0, S116_1, S116_2, S116_3, S116_4, S116_5, S116_6, S116_7, S116_8, S116_9, S116_10, at_yesG hB' hM12 hf, at_yesG hB' hM12 hg, is_yesG hM' hM12 hf, is_yesG hM' hM12 hg, e1, e2, Call_in, BS, ixs, inbs, le_nlt, hB, hM, hI, a1f, a1g, hqf0, hqg0, jf0, jg0, jfx, jgx, inGs, isas, a6f, a6g, a7f, a7g, a8f, a8g, kf1, kf2, kf3, kg1, kg2, kg3, hu]
    replace hu := Classical.not_not.mp hu
    by_cases h3 : 3 < sf + sg
    · have q3 : (3 : Int32) < nI (sf + sg) := nI_lt (a := 3) h3 (by omega)
      by_cases hf12 : M = 12
      · have e12 : nI M = 12 := by rw [hf12]; rfl
        simp [S62_0, S97_0, S97_1, S97_2, S97_3, S97_4, S91_0, S118_0, S116_0, S116_1, S116_2, S116_3, S116_4, S116_5, S116_6, S116_7, S116_8, S116_9, S116_10, at_yesG hB' hM12 hf, at_yesG hB' hM12 hg, is_yesG hM' hM12 hf, is_yesG hM' hM12 hg, e1, e2, Call_in, BS, ixs, inbs, le_nlt, hB, hM, hI, a1f, a1g, hqf0, hqg0, jf0, jg0, jfx, jgx, inGs, isas, a6f, a6g, a7f, a7g, a8f, a8g, kf1, kf2, kf3, kg1, kg2, kg3, hu, nI_add, q3, e12]
      · have p1 : nI M < 12 := nI_lt (b := 12) (by omega) (by omega)
        simp [S62_0, S97_0, S97_1, S97_2, S97_3, S97_4, S91_0, S118_0, S116_0, S116_1, S116_2, S116_3, S116_4, S116_5, S116_6, S116_7, S116_8, S116_9, S116_10, at_yesG hB' hM12 hf, at_yesG hB' hM12 hg, is_yesG hM' hM12 hf, is_yesG hM' hM12 hg, e1, e2, Call_in, BS, ixs, inbs, le_nlt, hB, hM, hI, a1f, a1g, hqf0, hqg0, jf0, jg0, jfx, jgx, inGs, isas, a6f, a6g, a7f, a7g, a8f, a8g, kf1, kf2, kf3, kg1, kg2, kg3, hu, nI_add, q3, p1]
    have hps : (sf = 0 ∧ sg = 0) ∨ (sf = 0 ∧ sg = 1) ∨ (sf = 0 ∧ sg = 2) ∨ (sf = 0 ∧ sg = 3) ∨ (sf = 1 ∧ sg = 0) ∨ (sf = 1 ∧ sg = 1) ∨ (sf = 1 ∧ sg = 2) ∨ (sf = 2 ∧ sg = 0) ∨ (sf = 2 ∧ sg = 1) ∨ (sf = 3 ∧ sg = 0) := by omega
    by_cases hf12 : M = 12
    · have e12 : nI M = 12 := by rw [hf12]; rfl
      have fin : ∀ I4 ls, (∀ i, i ≠ 82 → i ≠ 83 → i ≠ 84 → I4 i = I i) → Call 115 [some (.ref 74), some (.int 2), some (.int (nI (sf + sg))), some (.int (I 77 g)), some (.int (I 78 f + I 78 g)), none, none, none, none] (n, sl, C, Z, I4, L, R) 116 429 ls [] (fun r h1 => Wp 118 7 [some (.ref 74), some (.int (nI f)), some (.int (nI g))] (r.toList ++ []) h1 (fun r2 h2 => r2 = some (.int (-4)) ∧ Inv h2 ∧ h2.1 ≤ n + 5 ∧ h2.2.1 ≤ sl + 42)) := fun I4 ls f1 => by
        refine m_keeps hM' (by omega) hM12 (by rw [f1 74 (by omega) (by omega) (by omega)]; exact e2) 2 (I 77 g) (I 78 f + I 78 g) (fun q1 => absurd q1 (by omega)) (fun _ => ?_)
        have fi : Inv (n, sl, C, Z, I4, L, R) := Inv_mk (h7.scr (fun _ _ => rfl) (fun i hi => f1 i (by omega) (by omega) (by omega)) (by rw [f1 74 (by omega) (by omega) (by omega)]; exact ⟨rfl, rfl, rfl⟩) (fun _ _ _ _ => rfl))
        simp [S118_0, S116_0, S116_1, S116_2, S116_3, S116_4, S116_5, S116_6, S116_7, S116_8, S116_9, S116_10, fi]
      have run : Wp 116 0 [some (.ref 74), some (.int (nI f)), some (.int (nI g)), some (.int 0), none, none, none, none, none, none] [] (n, sl, C, Z, I, L, R) (fun r h1 => Wp 118 7 [some (.ref 74), some (.int (nI f)), some (.int (nI g))] (r.toList ++ []) h1 (fun r2 h2 => r2 = some (.int (-4)) ∧ Inv h2 ∧ h2.1 ≤ n + 5 ∧ h2.2.1 ≤ sl + 42)) := by
        rcases hps with ⟨ef, eg⟩ | ⟨ef, eg⟩ | ⟨ef, eg⟩ | ⟨ef, eg⟩ | ⟨ef, eg⟩ | ⟨ef, eg⟩ | ⟨ef, eg⟩ | ⟨ef, eg⟩ | ⟨ef, eg⟩ | ⟨ef, eg⟩ <;> subst ef <;> subst eg
        · exact m_joins0_00 hM' hM12 hf hg e2 kf3 kg3 hu a7f a7g (fun I4 ls f1 _ => fin I4 ls f1)
        · exact m_joins0_01 hM' hM12 hf hg e2 kf3 kg3 hu a7f a7g (fun I4 ls f1 _ => fin I4 ls f1)
        · exact m_joins0_02 hM' hM12 hf hg e2 kf3 kg3 hu a7f a7g (fun I4 ls f1 _ => fin I4 ls f1)
        · exact m_joins0_03 hM' hM12 hf hg e2 kf3 kg3 hu a7f a7g (fun I4 ls f1 _ => fin I4 ls f1)
        · exact m_joins0_10 hM' hM12 hf hg e2 kf3 kg3 hu a7f a7g (fun I4 ls f1 _ => fin I4 ls f1)
        · exact m_joins0_11 hM' hM12 hf hg e2 kf3 kg3 hu a7f a7g (fun I4 ls f1 _ => fin I4 ls f1)
        · exact m_joins0_12 hM' hM12 hf hg e2 kf3 kg3 hu a7f a7g (fun I4 ls f1 _ => fin I4 ls f1)
        · exact m_joins0_20 hM' hM12 hf hg e2 kf3 kg3 hu a7f a7g (fun I4 ls f1 _ => fin I4 ls f1)
        · exact m_joins0_21 hM' hM12 hf hg e2 kf3 kg3 hu a7f a7g (fun I4 ls f1 _ => fin I4 ls f1)
        · exact m_joins0_30 hM' hM12 hf hg e2 kf3 kg3 hu a7f a7g (fun I4 ls f1 _ => fin I4 ls f1)
      have c74 : C 74 = 11 := hM.1
      simp [S62_0, S97_0, S97_1, S97_2, S97_3, S97_4, S91_0, at_yesG hB' hM12 hf, at_yesG hB' hM12 hg, Call_in, BS, ixs, inbs, le_nlt, hB, e1, e12, a1f, a1g, hqf0, hqg0, jf0, jg0, jfx, jgx, inGs, isas, a6f, a6g, a7f, a7g, a8f, a8g, kf1, kf2, kg1, kg2, hu]
      simp [S118_0, Call_in (k2 := 116), BS, c74]
      simpa using run
    rcases hps with ⟨ef, eg⟩ | ⟨ef, eg⟩ | ⟨ef, eg⟩ | ⟨ef, eg⟩ | ⟨ef, eg⟩ | ⟨ef, eg⟩ | ⟨ef, eg⟩ | ⟨ef, eg⟩ | ⟨ef, eg⟩ | ⟨ef, eg⟩ <;> subst ef <;> subst eg
    · exact two_side_00 h7 (by omega) hf hg hqf hqg ⟨kf1, kf2, kf3⟩ ⟨kg1, kg2, kg3⟩ hu
    · exact two_side_01 h7 (by omega) hf hg hqf hqg ⟨kf1, kf2, kf3⟩ ⟨kg1, kg2, kg3⟩ hu
    · exact two_side_02 h7 (by omega) hf hg hqf hqg ⟨kf1, kf2, kf3⟩ ⟨kg1, kg2, kg3⟩ hu
    · exact two_side_03 h7 (by omega) hf hg hqf hqg ⟨kf1, kf2, kf3⟩ ⟨kg1, kg2, kg3⟩ hu
    · exact two_side_10 h7 (by omega) hf hg hqf hqg ⟨kf1, kf2, kf3⟩ ⟨kg1, kg2, kg3⟩ hu
    · exact two_side_11 h7 (by omega) hf hg hqf hqg ⟨kf1, kf2, kf3⟩ ⟨kg1, kg2, kg3⟩ hu
    · exact two_side_12 h7 (by omega) hf hg hqf hqg ⟨kf1, kf2, kf3⟩ ⟨kg1, kg2, kg3⟩ hu
    · exact two_side_20 h7 (by omega) hf hg hqf hqg ⟨kf1, kf2, kf3⟩ ⟨kg1, kg2, kg3⟩ hu
    · exact two_side_21 h7 (by omega) hf hg hqf hqg ⟨kf1, kf2, kf3⟩ ⟨kg1, kg2, kg3⟩ hu
    · exact two_side_30 h7 (by omega) hf hg hqf hqg ⟨kf1, kf2, kf3⟩ ⟨kg1, kg2, kg3⟩ hu

