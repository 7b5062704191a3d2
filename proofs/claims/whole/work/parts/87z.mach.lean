set_option maxRecDepth 100000 in
set_option maxHeartbeats 2000000 in
/-- machine: a new one -/
theorem two_mach_01 (h : Hp) (hI : Inv h) (st : Int32) (c3 : ¬ st < 0) (c4 : ¬ (3 : Int32) < st) (hf1 : ¬ h.2.2.2.2.1 1 1 = 12) : Two 59 109 [some (.ref 1), some (.int 0), some (.int st), some (.int 1), none] [some (.ref 74), some (.int 0), some (.int st), some (.int 1)] h := by
  obtain ⟨n, sl, C, Z, I, L, R⟩ := h
  obtain ⟨M, rn, t, h7⟩ := id hI
  obtain ⟨hM12, hn98, ⟨hB, hK, hO, hE, hM⟩, ⟨e1, e2⟩, hms, hss, hap, ⟨hrn, e3, e4, hrw⟩, ht, e5, e6, htr⟩ := id h7
  dsimp only at hM12 hn98 hB hK hO hE hM e1 e2 hms hss hap hrn e3 e4 hrw ht e5 e6 htr h7
  have hB' := hB
  have hM' := hM
  unfold LayB at hB
  unfold LayM at hM
  unfold Two
  dsimp only at hf1
  have hf : ¬ M = 12 := fun e => hf1 (by rw [e1, e]; rfl)
  obtain ⟨m, rfl⟩ : ∃ m, n = m + 98 := ⟨n - 98, by omega⟩
  have p2 : nI M < 12 := nI_lt (b := 12) (by omega) (by omega)
  have p3 : inb (nI M) 12 = true := by rw [inb_nI (by omega)]; simp; omega
  have p4 := ix_nI (show M < 2 ^ 31 by omega)
  have p5 : ¬ nI M = 12 := fun e => hf (by have := (nI_eq (a := M) (b := 12) (by omega) (by omega)).mp e; exact this)
  have ia : ∀ k, k < 9 → inb (nI (9 * M + k)) 108 = true ∧ ix (nI (9 * M + k)) = 9 * M + k := fun k hk => ⟨by rw [inb_nI (by omega)]; simp; omega, ix_nI (by omega)⟩
  have ia0 : inb (nI (9 * M)) 108 = true ∧ ix (nI (9 * M)) = 9 * M := ia 0 (by omega)
  have ib : ∀ k, k < 3 → inb (nI (3 * M + k)) 36 = true ∧ ix (nI (3 * M + k)) = 3 * M + k := fun k hk => ⟨by rw [inb_nI (by omega)]; simp; omega, ix_nI (by omega)⟩
  have ib0 : inb (nI (3 * M)) 36 = true ∧ ix (nI (3 * M)) = 3 * M := ib 0 (by omega)
  simp [S59_0, S59_1, S59_2, S87_0, S91_0, S95_0, S51_0, S51_1, S9_0, S109_0, S109_1, S108_0, S108_1, S108_2, Call_in, BS, ixs, inbs, hB, hM, hI, le_nlt, e1, e2, p2, p3, p4, p5, c3, c4, va_up, u2, inGs, okS, mul3, mul9, nIk, ia, ia0, ib, ib0]
  obtain ⟨s, hs3, rfl⟩ : ∃ s, s ≤ 3 ∧ st = nI s := nI_of2 (M := 3) rfl c3 (by rw [← Int32.not_lt]; exact c4)
  refine ⟨(nI_pred M).symm, Inv_mk (h7.add (s := s) (by omega) (fun i hi => ?_) (fun i hi => ?_) (fun i hi => ?_) (fun i hi => ?_) ⟨?_, ?_, ?_, ?_, ?_⟩ (fun j hj => ⟨⟨?_, ?_, ?_, ?_⟩, fun i hi => ?_, fun i hi => ⟨?_, ?_⟩⟩) (fun j hj => ?_) (fun i hi => ?_) (fun i k h1 h2 h3 _ _ => ?_) ⟨?_, by omega, by omega, ?_, ⟨?_, hs3, ?_, ?_⟩, ⟨?_, ?_⟩, ⟨?_, ?_, ?_, ?_⟩, ⟨?_, ?_, ?_, ?_, ?_, ?_, ?_, ?_⟩, fun i hi => ⟨?_, ?_⟩, fun i hi => ⟨?_, ?_⟩, fun i hi => ⟨?_, ?_⟩, ⟨?_, ?_⟩, fun i k hi hk _ => ?_, fun i hi _ => ⟨?_, ?_⟩⟩)⟩
  all_goals first | (simp (disch := omega) only [va_up_at, va_up_no]; done) | (simp (disch := omega) [va_up_at, va_up_no, bnd, mb]; done) | (rcases i9 (by assumption) with rfl | rfl | rfl | rfl | rfl | rfl | rfl | rfl | rfl <;> simp (disch := omega) [va_up_at, va_up_no, bnd, mb]; done) | (rcases i3 (by assumption) with rfl | rfl | rfl <;> simp (disch := omega) [va_up_at, va_up_no, bnd, mb]; done) | skip

set_option maxRecDepth 100000 in
set_option maxHeartbeats 2000000 in
/-- machine: a new one -/
theorem two_mach_02 (h : Hp) (hI : Inv h) (st : Int32) (c3 : ¬ st < 0) (c4 : ¬ (3 : Int32) < st) (hf1 : ¬ h.2.2.2.2.1 1 1 = 12) : Two 59 109 [some (.ref 1), some (.int 0), some (.int st), some (.int 2), none] [some (.ref 74), some (.int 0), some (.int st), some (.int 2)] h := by
  obtain ⟨n, sl, C, Z, I, L, R⟩ := h
  obtain ⟨M, rn, t, h7⟩ := id hI
  obtain ⟨hM12, hn98, ⟨hB, hK, hO, hE, hM⟩, ⟨e1, e2⟩, hms, hss, hap, ⟨hrn, e3, e4, hrw⟩, ht, e5, e6, htr⟩ := id h7
  dsimp only at hM12 hn98 hB hK hO hE hM e1 e2 hms hss hap hrn e3 e4 hrw ht e5 e6 htr h7
  have hB' := hB
  have hM' := hM
  unfold LayB at hB
  unfold LayM at hM
  unfold Two
  dsimp only at hf1
  have hf : ¬ M = 12 := fun e => hf1 (by rw [e1, e]; rfl)
  obtain ⟨m, rfl⟩ : ∃ m, n = m + 98 := ⟨n - 98, by omega⟩
  have p2 : nI M < 12 := nI_lt (b := 12) (by omega) (by omega)
  have p3 : inb (nI M) 12 = true := by rw [inb_nI (by omega)]; simp; omega
  have p4 := ix_nI (show M < 2 ^ 31 by omega)
  have p5 : ¬ nI M = 12 := fun e => hf (by have := (nI_eq (a := M) (b := 12) (by omega) (by omega)).mp e; exact this)
  have ia : ∀ k, k < 9 → inb (nI (9 * M + k)) 108 = true ∧ ix (nI (9 * M + k)) = 9 * M + k := fun k hk => ⟨by rw [inb_nI (by omega)]; simp; omega, ix_nI (by omega)⟩
  have ia0 : inb (nI (9 * M)) 108 = true ∧ ix (nI (9 * M)) = 9 * M := ia 0 (by omega)
  have ib : ∀ k, k < 3 → inb (nI (3 * M + k)) 36 = true ∧ ix (nI (3 * M + k)) = 3 * M + k := fun k hk => ⟨by rw [inb_nI (by omega)]; simp; omega, ix_nI (by omega)⟩
  have ib0 : inb (nI (3 * M)) 36 = true ∧ ix (nI (3 * M)) = 3 * M := ib 0 (by omega)
  simp [S59_0, S59_1, S59_2, S87_0, S91_0, S95_0, S51_0, S51_1, S9_0, S109_0, S109_1, S108_0, S108_1, S108_2, Call_in, BS, ixs, inbs, hB, hM, hI, le_nlt, e1, e2, p2, p3, p4, p5, c3, c4, va_up, u2, inGs, okS, mul3, mul9, nIk, ia, ia0, ib, ib0]
  obtain ⟨s, hs3, rfl⟩ : ∃ s, s ≤ 3 ∧ st = nI s := nI_of2 (M := 3) rfl c3 (by rw [← Int32.not_lt]; exact c4)
  refine ⟨(nI_pred M).symm, Inv_mk (h7.add (s := s) (by omega) (fun i hi => ?_) (fun i hi => ?_) (fun i hi => ?_) (fun i hi => ?_) ⟨?_, ?_, ?_, ?_, ?_⟩ (fun j hj => ⟨⟨?_, ?_, ?_, ?_⟩, fun i hi => ?_, fun i hi => ⟨?_, ?_⟩⟩) (fun j hj => ?_) (fun i hi => ?_) (fun i k h1 h2 h3 _ _ => ?_) ⟨?_, by omega, by omega, ?_, ⟨?_, hs3, ?_, ?_⟩, ⟨?_, ?_⟩, ⟨?_, ?_, ?_, ?_⟩, ⟨?_, ?_, ?_, ?_, ?_, ?_, ?_, ?_⟩, fun i hi => ⟨?_, ?_⟩, fun i hi => ⟨?_, ?_⟩, fun i hi => ⟨?_, ?_⟩, ⟨?_, ?_⟩, fun i k hi hk _ => ?_, fun i hi _ => ⟨?_, ?_⟩⟩)⟩
  all_goals first | (simp (disch := omega) only [va_up_at, va_up_no]; done) | (simp (disch := omega) [va_up_at, va_up_no, bnd, mb]; done) | (rcases i9 (by assumption) with rfl | rfl | rfl | rfl | rfl | rfl | rfl | rfl | rfl <;> simp (disch := omega) [va_up_at, va_up_no, bnd, mb]; done) | (rcases i3 (by assumption) with rfl | rfl | rfl <;> simp (disch := omega) [va_up_at, va_up_no, bnd, mb]; done) | skip

set_option maxRecDepth 100000 in
set_option maxHeartbeats 2000000 in
/-- machine: a new one -/
theorem two_mach_04 (h : Hp) (hI : Inv h) (st : Int32) (c3 : ¬ st < 0) (c4 : ¬ (3 : Int32) < st) (hf1 : ¬ h.2.2.2.2.1 1 1 = 12) : Two 59 109 [some (.ref 1), some (.int 0), some (.int st), some (.int 4), none] [some (.ref 74), some (.int 0), some (.int st), some (.int 4)] h := by
  obtain ⟨n, sl, C, Z, I, L, R⟩ := h
  obtain ⟨M, rn, t, h7⟩ := id hI
  obtain ⟨hM12, hn98, ⟨hB, hK, hO, hE, hM⟩, ⟨e1, e2⟩, hms, hss, hap, ⟨hrn, e3, e4, hrw⟩, ht, e5, e6, htr⟩ := id h7
  dsimp only at hM12 hn98 hB hK hO hE hM e1 e2 hms hss hap hrn e3 e4 hrw ht e5 e6 htr h7
  have hB' := hB
  have hM' := hM
  unfold LayB at hB
  unfold LayM at hM
  unfold Two
  dsimp only at hf1
  have hf : ¬ M = 12 := fun e => hf1 (by rw [e1, e]; rfl)
  obtain ⟨m, rfl⟩ : ∃ m, n = m + 98 := ⟨n - 98, by omega⟩
  have p2 : nI M < 12 := nI_lt (b := 12) (by omega) (by omega)
  have p3 : inb (nI M) 12 = true := by rw [inb_nI (by omega)]; simp; omega
  have p4 := ix_nI (show M < 2 ^ 31 by omega)
  have p5 : ¬ nI M = 12 := fun e => hf (by have := (nI_eq (a := M) (b := 12) (by omega) (by omega)).mp e; exact this)
  have ia : ∀ k, k < 9 → inb (nI (9 * M + k)) 108 = true ∧ ix (nI (9 * M + k)) = 9 * M + k := fun k hk => ⟨by rw [inb_nI (by omega)]; simp; omega, ix_nI (by omega)⟩
  have ia0 : inb (nI (9 * M)) 108 = true ∧ ix (nI (9 * M)) = 9 * M := ia 0 (by omega)
  have ib : ∀ k, k < 3 → inb (nI (3 * M + k)) 36 = true ∧ ix (nI (3 * M + k)) = 3 * M + k := fun k hk => ⟨by rw [inb_nI (by omega)]; simp; omega, ix_nI (by omega)⟩
  have ib0 : inb (nI (3 * M)) 36 = true ∧ ix (nI (3 * M)) = 3 * M := ib 0 (by omega)
  simp [S59_0, S59_1, S59_2, S87_0, S91_0, S95_0, S51_0, S51_1, S9_0, S109_0, S109_1, S108_0, S108_1, S108_2, Call_in, BS, ixs, inbs, hB, hM, hI, le_nlt, e1, e2, p2, p3, p4, p5, c3, c4, va_up, u2, inGs, okS, mul3, mul9, nIk, ia, ia0, ib, ib0]
  obtain ⟨s, hs3, rfl⟩ : ∃ s, s ≤ 3 ∧ st = nI s := nI_of2 (M := 3) rfl c3 (by rw [← Int32.not_lt]; exact c4)
  refine ⟨(nI_pred M).symm, Inv_mk (h7.add (s := s) (by omega) (fun i hi => ?_) (fun i hi => ?_) (fun i hi => ?_) (fun i hi => ?_) ⟨?_, ?_, ?_, ?_, ?_⟩ (fun j hj => ⟨⟨?_, ?_, ?_, ?_⟩, fun i hi => ?_, fun i hi => ⟨?_, ?_⟩⟩) (fun j hj => ?_) (fun i hi => ?_) (fun i k h1 h2 h3 _ _ => ?_) ⟨?_, by omega, by omega, ?_, ⟨?_, hs3, ?_, ?_⟩, ⟨?_, ?_⟩, ⟨?_, ?_, ?_, ?_⟩, ⟨?_, ?_, ?_, ?_, ?_, ?_, ?_, ?_⟩, fun i hi => ⟨?_, ?_⟩, fun i hi => ⟨?_, ?_⟩, fun i hi => ⟨?_, ?_⟩, ⟨?_, ?_⟩, fun i k hi hk _ => ?_, fun i hi _ => ⟨?_, ?_⟩⟩)⟩
  all_goals first | (simp (disch := omega) only [va_up_at, va_up_no]; done) | (simp (disch := omega) [va_up_at, va_up_no, bnd, mb]; done) | (rcases i9 (by assumption) with rfl | rfl | rfl | rfl | rfl | rfl | rfl | rfl | rfl <;> simp (disch := omega) [va_up_at, va_up_no, bnd, mb]; done) | (rcases i3 (by assumption) with rfl | rfl | rfl <;> simp (disch := omega) [va_up_at, va_up_no, bnd, mb]; done) | skip

set_option maxRecDepth 100000 in
set_option maxHeartbeats 2000000 in
/-- machine: a new one -/
theorem two_mach_11 (h : Hp) (hI : Inv h) (st : Int32) (c3 : ¬ st < 0) (c4 : ¬ (3 : Int32) < st) (hf1 : ¬ h.2.2.2.2.1 1 1 = 12) : Two 59 109 [some (.ref 1), some (.int 1), some (.int st), some (.int 1), none] [some (.ref 74), some (.int 1), some (.int st), some (.int 1)] h := by
  obtain ⟨n, sl, C, Z, I, L, R⟩ := h
  obtain ⟨M, rn, t, h7⟩ := id hI
  obtain ⟨hM12, hn98, ⟨hB, hK, hO, hE, hM⟩, ⟨e1, e2⟩, hms, hss, hap, ⟨hrn, e3, e4, hrw⟩, ht, e5, e6, htr⟩ := id h7
  dsimp only at hM12 hn98 hB hK hO hE hM e1 e2 hms hss hap hrn e3 e4 hrw ht e5 e6 htr h7
  have hB' := hB
  have hM' := hM
  unfold LayB at hB
  unfold LayM at hM
  unfold Two
  dsimp only at hf1
  have hf : ¬ M = 12 := fun e => hf1 (by rw [e1, e]; rfl)
  obtain ⟨m, rfl⟩ : ∃ m, n = m + 98 := ⟨n - 98, by omega⟩
  have p2 : nI M < 12 := nI_lt (b := 12) (by omega) (by omega)
  have p3 : inb (nI M) 12 = true := by rw [inb_nI (by omega)]; simp; omega
  have p4 := ix_nI (show M < 2 ^ 31 by omega)
  have p5 : ¬ nI M = 12 := fun e => hf (by have := (nI_eq (a := M) (b := 12) (by omega) (by omega)).mp e; exact this)
  have ia : ∀ k, k < 9 → inb (nI (9 * M + k)) 108 = true ∧ ix (nI (9 * M + k)) = 9 * M + k := fun k hk => ⟨by rw [inb_nI (by omega)]; simp; omega, ix_nI (by omega)⟩
  have ia0 : inb (nI (9 * M)) 108 = true ∧ ix (nI (9 * M)) = 9 * M := ia 0 (by omega)
  have ib : ∀ k, k < 3 → inb (nI (3 * M + k)) 36 = true ∧ ix (nI (3 * M + k)) = 3 * M + k := fun k hk => ⟨by rw [inb_nI (by omega)]; simp; omega, ix_nI (by omega)⟩
  have ib0 : inb (nI (3 * M)) 36 = true ∧ ix (nI (3 * M)) = 3 * M := ib 0 (by omega)
  simp [S59_0, S59_1, S59_2, S87_0, S91_0, S95_0, S51_0, S51_1, S9_0, S109_0, S109_1, S108_0, S108_1, S108_2, Call_in, BS, ixs, inbs, hB, hM, hI, le_nlt, e1, e2, p2, p3, p4, p5, c3, c4, va_up, u2, inGs, okS, mul3, mul9, nIk, ia, ia0, ib, ib0]
  obtain ⟨s, hs3, rfl⟩ : ∃ s, s ≤ 3 ∧ st = nI s := nI_of2 (M := 3) rfl c3 (by rw [← Int32.not_lt]; exact c4)
  refine ⟨(nI_pred M).symm, Inv_mk (h7.add (s := s) (by omega) (fun i hi => ?_) (fun i hi => ?_) (fun i hi => ?_) (fun i hi => ?_) ⟨?_, ?_, ?_, ?_, ?_⟩ (fun j hj => ⟨⟨?_, ?_, ?_, ?_⟩, fun i hi => ?_, fun i hi => ⟨?_, ?_⟩⟩) (fun j hj => ?_) (fun i hi => ?_) (fun i k h1 h2 h3 _ _ => ?_) ⟨?_, by omega, by omega, ?_, ⟨?_, hs3, ?_, ?_⟩, ⟨?_, ?_⟩, ⟨?_, ?_, ?_, ?_⟩, ⟨?_, ?_, ?_, ?_, ?_, ?_, ?_, ?_⟩, fun i hi => ⟨?_, ?_⟩, fun i hi => ⟨?_, ?_⟩, fun i hi => ⟨?_, ?_⟩, ⟨?_, ?_⟩, fun i k hi hk _ => ?_, fun i hi _ => ⟨?_, ?_⟩⟩)⟩
  all_goals first | (simp (disch := omega) only [va_up_at, va_up_no]; done) | (simp (disch := omega) [va_up_at, va_up_no, bnd, mb]; done) | (rcases i9 (by assumption) with rfl | rfl | rfl | rfl | rfl | rfl | rfl | rfl | rfl <;> simp (disch := omega) [va_up_at, va_up_no, bnd, mb]; done) | (rcases i3 (by assumption) with rfl | rfl | rfl <;> simp (disch := omega) [va_up_at, va_up_no, bnd, mb]; done) | skip

set_option maxRecDepth 100000 in
set_option maxHeartbeats 2000000 in
/-- machine: a new one -/
theorem two_mach_12 (h : Hp) (hI : Inv h) (st : Int32) (c3 : ¬ st < 0) (c4 : ¬ (3 : Int32) < st) (hf1 : ¬ h.2.2.2.2.1 1 1 = 12) : Two 59 109 [some (.ref 1), some (.int 1), some (.int st), some (.int 2), none] [some (.ref 74), some (.int 1), some (.int st), some (.int 2)] h := by
  obtain ⟨n, sl, C, Z, I, L, R⟩ := h
  obtain ⟨M, rn, t, h7⟩ := id hI
  obtain ⟨hM12, hn98, ⟨hB, hK, hO, hE, hM⟩, ⟨e1, e2⟩, hms, hss, hap, ⟨hrn, e3, e4, hrw⟩, ht, e5, e6, htr⟩ := id h7
  dsimp only at hM12 hn98 hB hK hO hE hM e1 e2 hms hss hap hrn e3 e4 hrw ht e5 e6 htr h7
  have hB' := hB
  have hM' := hM
  unfold LayB at hB
  unfold LayM at hM
  unfold Two
  dsimp only at hf1
  have hf : ¬ M = 12 := fun e => hf1 (by rw [e1, e]; rfl)
  obtain ⟨m, rfl⟩ : ∃ m, n = m + 98 := ⟨n - 98, by omega⟩
  have p2 : nI M < 12 := nI_lt (b := 12) (by omega) (by omega)
  have p3 : inb (nI M) 12 = true := by rw [inb_nI (by omega)]; simp; omega
  have p4 := ix_nI (show M < 2 ^ 31 by omega)
  have p5 : ¬ nI M = 12 := fun e => hf (by have := (nI_eq (a := M) (b := 12) (by omega) (by omega)).mp e; exact this)
  have ia : ∀ k, k < 9 → inb (nI (9 * M + k)) 108 = true ∧ ix (nI (9 * M + k)) = 9 * M + k := fun k hk => ⟨by rw [inb_nI (by omega)]; simp; omega, ix_nI (by omega)⟩
  have ia0 : inb (nI (9 * M)) 108 = true ∧ ix (nI (9 * M)) = 9 * M := ia 0 (by omega)
  have ib : ∀ k, k < 3 → inb (nI (3 * M + k)) 36 = true ∧ ix (nI (3 * M + k)) = 3 * M + k := fun k hk => ⟨by rw [inb_nI (by omega)]; simp; omega, ix_nI (by omega)⟩
  have ib0 : inb (nI (3 * M)) 36 = true ∧ ix (nI (3 * M)) = 3 * M := ib 0 (by omega)
  simp [S59_0, S59_1, S59_2, S87_0, S91_0, S95_0, S51_0, S51_1, S9_0, S109_0, S109_1, S108_0, S108_1, S108_2, Call_in, BS, ixs, inbs, hB, hM, hI, le_nlt, e1, e2, p2, p3, p4, p5, c3, c4, va_up, u2, inGs, okS, mul3, mul9, nIk, ia, ia0, ib, ib0]
  obtain ⟨s, hs3, rfl⟩ : ∃ s, s ≤ 3 ∧ st = nI s := nI_of2 (M := 3) rfl c3 (by rw [← Int32.not_lt]; exact c4)
  refine ⟨(nI_pred M).symm, Inv_mk (h7.add (s := s) (by omega) (fun i hi => ?_) (fun i hi => ?_) (fun i hi => ?_) (fun i hi => ?_) ⟨?_, ?_, ?_, ?_, ?_⟩ (fun j hj => ⟨⟨?_, ?_, ?_, ?_⟩, fun i hi => ?_, fun i hi => ⟨?_, ?_⟩⟩) (fun j hj => ?_) (fun i hi => ?_) (fun i k h1 h2 h3 _ _ => ?_) ⟨?_, by omega, by omega, ?_, ⟨?_, hs3, ?_, ?_⟩, ⟨?_, ?_⟩, ⟨?_, ?_, ?_, ?_⟩, ⟨?_, ?_, ?_, ?_, ?_, ?_, ?_, ?_⟩, fun i hi => ⟨?_, ?_⟩, fun i hi => ⟨?_, ?_⟩, fun i hi => ⟨?_, ?_⟩, ⟨?_, ?_⟩, fun i k hi hk _ => ?_, fun i hi _ => ⟨?_, ?_⟩⟩)⟩
  all_goals first | (simp (disch := omega) only [va_up_at, va_up_no]; done) | (simp (disch := omega) [va_up_at, va_up_no, bnd, mb]; done) | (rcases i9 (by assumption) with rfl | rfl | rfl | rfl | rfl | rfl | rfl | rfl | rfl <;> simp (disch := omega) [va_up_at, va_up_no, bnd, mb]; done) | (rcases i3 (by assumption) with rfl | rfl | rfl <;> simp (disch := omega) [va_up_at, va_up_no, bnd, mb]; done) | skip

set_option maxRecDepth 100000 in
set_option maxHeartbeats 2000000 in
/-- machine: a new one -/
theorem two_mach_14 (h : Hp) (hI : Inv h) (st : Int32) (c3 : ¬ st < 0) (c4 : ¬ (3 : Int32) < st) (hf1 : ¬ h.2.2.2.2.1 1 1 = 12) : Two 59 109 [some (.ref 1), some (.int 1), some (.int st), some (.int 4), none] [some (.ref 74), some (.int 1), some (.int st), some (.int 4)] h := by
  obtain ⟨n, sl, C, Z, I, L, R⟩ := h
  obtain ⟨M, rn, t, h7⟩ := id hI
  obtain ⟨hM12, hn98, ⟨hB, hK, hO, hE, hM⟩, ⟨e1, e2⟩, hms, hss, hap, ⟨hrn, e3, e4, hrw⟩, ht, e5, e6, htr⟩ := id h7
  dsimp only at hM12 hn98 hB hK hO hE hM e1 e2 hms hss hap hrn e3 e4 hrw ht e5 e6 htr h7
  have hB' := hB
  have hM' := hM
  unfold LayB at hB
  unfold LayM at hM
  unfold Two
  dsimp only at hf1
  have hf : ¬ M = 12 := fun e => hf1 (by rw [e1, e]; rfl)
  obtain ⟨m, rfl⟩ : ∃ m, n = m + 98 := ⟨n - 98, by omega⟩
  have p2 : nI M < 12 := nI_lt (b := 12) (by omega) (by omega)
  have p3 : inb (nI M) 12 = true := by rw [inb_nI (by omega)]; simp; omega
  have p4 := ix_nI (show M < 2 ^ 31 by omega)
  have p5 : ¬ nI M = 12 := fun e => hf (by have := (nI_eq (a := M) (b := 12) (by omega) (by omega)).mp e; exact this)
  have ia : ∀ k, k < 9 → inb (nI (9 * M + k)) 108 = true ∧ ix (nI (9 * M + k)) = 9 * M + k := fun k hk => ⟨by rw [inb_nI (by omega)]; simp; omega, ix_nI (by omega)⟩
  have ia0 : inb (nI (9 * M)) 108 = true ∧ ix (nI (9 * M)) = 9 * M := ia 0 (by omega)
  have ib : ∀ k, k < 3 → inb (nI (3 * M + k)) 36 = true ∧ ix (nI (3 * M + k)) = 3 * M + k := fun k hk => ⟨by rw [inb_nI (by omega)]; simp; omega, ix_nI (by omega)⟩
  have ib0 : inb (nI (3 * M)) 36 = true ∧ ix (nI (3 * M)) = 3 * M := ib 0 (by omega)
  simp [S59_0, S59_1, S59_2, S87_0, S91_0, S95_0, S51_0, S51_1, S9_0, S109_0, S109_1, S108_0, S108_1, S108_2, Call_in, BS, ixs, inbs, hB, hM, hI, le_nlt, e1, e2, p2, p3, p4, p5, c3, c4, va_up, u2, inGs, okS, mul3, mul9, nIk, ia, ia0, ib, ib0]
  obtain ⟨s, hs3, rfl⟩ : ∃ s, s ≤ 3 ∧ st = nI s := nI_of2 (M := 3) rfl c3 (by rw [← Int32.not_lt]; exact c4)
  refine ⟨(nI_pred M).symm, Inv_mk (h7.add (s := s) (by omega) (fun i hi => ?_) (fun i hi => ?_) (fun i hi => ?_) (fun i hi => ?_) ⟨?_, ?_, ?_, ?_, ?_⟩ (fun j hj => ⟨⟨?_, ?_, ?_, ?_⟩, fun i hi => ?_, fun i hi => ⟨?_, ?_⟩⟩) (fun j hj => ?_) (fun i hi => ?_) (fun i k h1 h2 h3 _ _ => ?_) ⟨?_, by omega, by omega, ?_, ⟨?_, hs3, ?_, ?_⟩, ⟨?_, ?_⟩, ⟨?_, ?_, ?_, ?_⟩, ⟨?_, ?_, ?_, ?_, ?_, ?_, ?_, ?_⟩, fun i hi => ⟨?_, ?_⟩, fun i hi => ⟨?_, ?_⟩, fun i hi => ⟨?_, ?_⟩, ⟨?_, ?_⟩, fun i k hi hk _ => ?_, fun i hi _ => ⟨?_, ?_⟩⟩)⟩
  all_goals first | (simp (disch := omega) only [va_up_at, va_up_no]; done) | (simp (disch := omega) [va_up_at, va_up_no, bnd, mb]; done) | (rcases i9 (by assumption) with rfl | rfl | rfl | rfl | rfl | rfl | rfl | rfl | rfl <;> simp (disch := omega) [va_up_at, va_up_no, bnd, mb]; done) | (rcases i3 (by assumption) with rfl | rfl | rfl <;> simp (disch := omega) [va_up_at, va_up_no, bnd, mb]; done) | skip

set_option maxRecDepth 100000 in
set_option maxHeartbeats 2000000 in
/-- machine(kind, n, unit) -/
theorem two_machine (h : Hp) (hI : Inv h) (kd st un : Int32) : Two 59 109 [some (.ref 1), some (.int kd), some (.int st), some (.int un), none] [some (.ref 74), some (.int kd), some (.int st), some (.int un)] h := by
  obtain ⟨n, sl, C, Z, I, L, R⟩ := h
  obtain ⟨M, rn, t, h7⟩ := id hI
  obtain ⟨hM12, hn98, ⟨hB, hK, hO, hE, hM⟩, ⟨e1, e2⟩, hms, hss, hap, ⟨hrn, e3, e4, hrw⟩, ht, e5, e6, htr⟩ := id h7
  dsimp only at hM12 hn98 hB hK hO hE hM e1 e2 hms hss hap hrn e3 e4 hrw ht e5 e6 htr h7
  have hB' := hB
  have hM' := hM
  unfold LayB at hB
  unfold LayM at hM
  unfold Two
  have hun : un = 1 ∨ un = 2 ∨ un = 4 ∨ (¬ un = 1 ∧ ¬ un = 2 ∧ ¬ un = 4) := by
    by_cases q1 : un = 1
    · exact Or.inl q1
    by_cases q2 : un = 2
    · exact Or.inr (Or.inl q2)
    by_cases q4 : un = 4
    · exact Or.inr (Or.inr (Or.inl q4))
    exact Or.inr (Or.inr (Or.inr ⟨q1, q2, q4⟩))
  by_cases c1 : kd < 0
  · rcases hun with rfl | rfl | rfl | ⟨u1, u2, u3⟩
    · simp [S59_0, S59_1, S59_2, S87_0, S91_0, S95_0, S51_0, S51_1, S9_0, S109_0, S109_1, S108_0, S108_1, S108_2, Call_in, BS, ixs, inbs, hB, hM, hI, le_nlt, c1]
    · simp [S59_0, S59_1, S59_2, S87_0, S91_0, S95_0, S51_0, S51_1, S9_0, S109_0, S109_1, S108_0, S108_1, S108_2, Call_in, BS, ixs, inbs, hB, hM, hI, le_nlt, c1]
    · simp [S59_0, S59_1, S59_2, S87_0, S91_0, S95_0, S51_0, S51_1, S9_0, S109_0, S109_1, S108_0, S108_1, S108_2, Call_in, BS, ixs, inbs, hB, hM, hI, le_nlt, c1]
    · simp [S59_0, S59_1, S59_2, S87_0, S91_0, S95_0, S51_0, S51_1, S9_0, S109_0, S109_1, S108_0, S108_1, S108_2, Call_in, BS, ixs, inbs, hB, hM, hI, le_nlt, c1, u1, u2, u3]
  by_cases c2 : (1 : Int32) < kd
  · rcases hun with rfl | rfl | rfl | ⟨u1, u2, u3⟩
    · simp [S59_0, S59_1, S59_2, S87_0, S91_0, S95_0, S51_0, S51_1, S9_0, S109_0, S109_1, S108_0, S108_1, S108_2, Call_in, BS, ixs, inbs, hB, hM, hI, le_nlt, c1, c2]
    · simp [S59_0, S59_1, S59_2, S87_0, S91_0, S95_0, S51_0, S51_1, S9_0, S109_0, S109_1, S108_0, S108_1, S108_2, Call_in, BS, ixs, inbs, hB, hM, hI, le_nlt, c1, c2]
    · simp [S59_0, S59_1, S59_2, S87_0, S91_0, S95_0, S51_0, S51_1, S9_0, S109_0, S109_1, S108_0, S108_1, S108_2, Call_in, BS, ixs, inbs, hB, hM, hI, le_nlt, c1, c2]
    · simp [S59_0, S59_1, S59_2, S87_0, S91_0, S95_0, S51_0, S51_1, S9_0, S109_0, S109_1, S108_0, S108_1, S108_2, Call_in, BS, ixs, inbs, hB, hM, hI, le_nlt, c1, c2, u1, u2, u3]
  by_cases c3 : st < 0
  · rcases hun with rfl | rfl | rfl | ⟨u1, u2, u3⟩
    · simp [S59_0, S59_1, S59_2, S87_0, S91_0, S95_0, S51_0, S51_1, S9_0, S109_0, S109_1, S108_0, S108_1, S108_2, Call_in, BS, ixs, inbs, hB, hM, hI, le_nlt, c1, c2, c3]
    · simp [S59_0, S59_1, S59_2, S87_0, S91_0, S95_0, S51_0, S51_1, S9_0, S109_0, S109_1, S108_0, S108_1, S108_2, Call_in, BS, ixs, inbs, hB, hM, hI, le_nlt, c1, c2, c3]
    · simp [S59_0, S59_1, S59_2, S87_0, S91_0, S95_0, S51_0, S51_1, S9_0, S109_0, S109_1, S108_0, S108_1, S108_2, Call_in, BS, ixs, inbs, hB, hM, hI, le_nlt, c1, c2, c3]
    · simp [S59_0, S59_1, S59_2, S87_0, S91_0, S95_0, S51_0, S51_1, S9_0, S109_0, S109_1, S108_0, S108_1, S108_2, Call_in, BS, ixs, inbs, hB, hM, hI, le_nlt, c1, c2, c3, u1, u2, u3]
  by_cases c4 : (3 : Int32) < st
  · rcases hun with rfl | rfl | rfl | ⟨u1, u2, u3⟩
    · simp [S59_0, S59_1, S59_2, S87_0, S91_0, S95_0, S51_0, S51_1, S9_0, S109_0, S109_1, S108_0, S108_1, S108_2, Call_in, BS, ixs, inbs, hB, hM, hI, le_nlt, c1, c2, c3, c4]
    · simp [S59_0, S59_1, S59_2, S87_0, S91_0, S95_0, S51_0, S51_1, S9_0, S109_0, S109_1, S108_0, S108_1, S108_2, Call_in, BS, ixs, inbs, hB, hM, hI, le_nlt, c1, c2, c3, c4]
    · simp [S59_0, S59_1, S59_2, S87_0, S91_0, S95_0, S51_0, S51_1, S9_0, S109_0, S109_1, S108_0, S108_1, S108_2, Call_in, BS, ixs, inbs, hB, hM, hI, le_nlt, c1, c2, c3, c4]
    · simp [S59_0, S59_1, S59_2, S87_0, S91_0, S95_0, S51_0, S51_1, S9_0, S109_0, S109_1, S108_0, S108_1, S108_2, Call_in, BS, ixs, inbs, hB, hM, hI, le_nlt, c1, c2, c3, c4, u1, u2, u3]
  by_cases u0 : ¬ (un = 1 ∨ un = 2 ∨ un = 4)
  · have u1 : ¬ un = 1 := fun e => u0 (Or.inl e)
    have u2 : ¬ un = 2 := fun e => u0 (Or.inr (Or.inl e))
    have u3 : ¬ un = 4 := fun e => u0 (Or.inr (Or.inr e))
    simp [S59_0, S59_1, S59_2, S87_0, S91_0, S95_0, S51_0, S51_1, S9_0, S109_0, S109_1, S108_0, S108_1, S108_2, Call_in, BS, ixs, inbs, hB, hM, hI, le_nlt, c1, c2, c3, c4, u1, u2, u3]
  replace u0 := Classical.not_not.mp u0
  by_cases hf : M = 12
  · subst hf
    have e12 : nI 12 = 12 := rfl
    rw [e12] at e1 e2
    rcases u0 with rfl | rfl | rfl <;> simp [S59_0, S59_1, S59_2, S87_0, S91_0, S95_0, S51_0, S51_1, S9_0, S109_0, S109_1, S108_0, S108_1, S108_2, Call_in, BS, ixs, inbs, hB, hM, hI, le_nlt, e1, e2, c1, c2, c3, c4]
  have k0 : kd = 0 ∨ kd = 1 := by
    rw [Int32.lt_iff_toInt_lt] at c1 c2
    have q0 : (0 : Int32).toInt = 0 := rfl
    have q1 : (1 : Int32).toInt = 1 := rfl
    rw [q0] at c1
    rw [q1] at c2
    rcases (show kd.toInt = 0 ∨ kd.toInt = 1 by omega) with e | e
    · exact Or.inl (Int32.toInt_inj.mp e)
    · exact Or.inr (Int32.toInt_inj.mp e)
  have hf1 : ¬ I 1 1 = 12 := by rw [e1]; exact fun e => hf (by have := (nI_eq (a := M) (b := 12) (by omega) (by omega)).mp e; exact this)
  rcases k0 with rfl | rfl <;> rcases u0 with rfl | rfl | rfl
  · exact two_mach_01 _ hI st c3 c4 hf1
  · exact two_mach_02 _ hI st c3 c4 hf1
  · exact two_mach_04 _ hI st c3 c4 hf1
  · exact two_mach_11 _ hI st c3 c4 hf1
  · exact two_mach_12 _ hI st c3 c4 hf1
  · exact two_mach_14 _ hI st c3 c4 hf1

