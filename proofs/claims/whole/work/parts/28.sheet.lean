/-- the reference's sheet: its cells become 0 -/
def z40 (L : Nat → Nat → Int64) (s i : Nat) : Nat → Nat → Int64 := fun a k => if a = 89 ∧ 40 * s ≤ k ∧ k < 40 * s + i then 0 else L a k
theorem z40_s (L : Nat → Nat → Int64) (s i : Nat) : u2 (z40 L s i) 89 (40 * s + i) 0 = z40 L s (i + 1) := by
  funext a k
  simp only [u2_rd, z40]
  by_cases h : a = 89
  · by_cases h2 : k = 40 * s + i
    · rw [if_pos ⟨h, h2⟩, if_pos ⟨h, by omega, by omega⟩]
    · rw [if_neg (by omega)]
      by_cases h3 : 40 * s ≤ k ∧ k < 40 * s + i
      · rw [if_pos ⟨h, h3⟩, if_pos ⟨h, by omega, by omega⟩]
      · rw [if_neg (by omega), if_neg (by omega)]
  · rw [if_neg (by omega), if_neg (by omega), if_neg (by omega)]
theorem z40_0 (L : Nat → Nat → Int64) (s : Nat) : z40 L s 0 = L := by
  funext a k
  simp only [z40]
  rw [if_neg (by omega)]
set_option maxRecDepth 100000 in
theorem m_shl {n sl : Nat} {C Z : Nat → Nat} {I : Nat → Nat → Int32} {L : Nat → Nat → Int64} {R : Nat → Nat → Nat} {Q : Option Value → Hp → Prop} {s : Nat} (hs : s < 4) (x y : Int32) (l4 : Option Value) (q1 : C 74 = 11) (q2 : C 89 = 22) (q3 : Z 89 = 160) (q4 : R 74 17 = 89) : Wp 162 64 [some (.ref 74), some (.int (nI s)), some (.int x), some (.int y), l4] [.int 0] (n, sl, C, Z, I, L, R) Q ↔ Wp 162 92 [some (.ref 74), some (.int (nI s)), some (.int x), some (.int y), some (.int (nI 40))] [] (n, sl, C, Z, I, z40 L s 40, R) Q := by
  have key : ∀ i, i ≤ 40 → (Br 162 92 73 [some (.ref 74), some (.int (nI s)), some (.int x), some (.int y), some (.int (nI i))] [] (n, sl, C, Z, I, z40 L s i, R) Q ((40 : Int32) ≤ nI i) ↔ Wp 162 92 [some (.ref 74), some (.int (nI s)), some (.int x), some (.int y), some (.int (nI 40))] [] (n, sl, C, Z, I, z40 L s 40, R) Q) := by
    refine loopBr (fun i => [some (.ref 74), some (.int (nI s)), some (.int x), some (.int y), some (.int (nI i))]) (fun i => (n, sl, C, Z, I, z40 L s i, R)) (fun i => (40 : Int32) ≤ nI i) 40 (fun i hi => ?_) (fun i hi => nI_ge (b := 40) hi (by omega)) (by decide)
    have h1 : inb (nI (40 * s + i)) 160 = true := by rw [inb_nI (by omega)]; simp; omega
    have h2 := ix_nI (show 40 * s + i < 2 ^ 31 by omega)
    simp [S162_0, S162_1, S162_2, Call_in, BS, ixs, inbs, q1, q2, q3, q4, mul40, nI_add, nIk, h1, h2, z40_s]
  have gen : ∀ x0 : Int32, Wp 162 64 [some (.ref 74), some (.int (nI s)), some (.int x), some (.int y), l4] [.int x0] (n, sl, C, Z, I, L, R) Q ↔ Br 162 92 73 [some (.ref 74), some (.int (nI s)), some (.int x), some (.int y), some (.int x0)] [] (n, sl, C, Z, I, L, R) Q ((40 : Int32) ≤ x0) := fun x0 => by simp [S162_0, S162_1, S162_2, Call_in, BS, ixs, inbs]
  have k0 := key 0 (by omega)
  rw [z40_0, nI_0] at k0
  exact (gen 0).trans k0

set_option maxRecDepth 100000 in
set_option maxHeartbeats 2000000 in
/-- sheet(sheet, sort, n) -/
theorem two_sheet (h : Hp) (hI : Inv h) (x so y : Int32) : Two 82 162 [some (.ref 1), some (.int x), some (.int so), some (.int y)] [some (.ref 74), some (.int x), some (.int so), some (.int y), none] h := by
  obtain ⟨n, sl, C, Z, I, L, R⟩ := h
  obtain ⟨M, rn, t, h7⟩ := id hI
  obtain ⟨hM12, hn98, ⟨hB, hK, hO, hE, hM⟩, ⟨e1, e2⟩, hms, hss, hap, ⟨hrn, e3, e4, hrw⟩, ht, e5, e6, htr⟩ := id h7
  dsimp only at hM12 hn98 hB hK hO hE hM e1 e2 hms hss hap hrn e3 e4 hrw ht e5 e6 htr h7
  have hB' := hB
  have hM' := hM
  unfold LayB at hB
  unfold LayM at hM
  unfold Two
  rcases pk_ix x (n := 4) (by omega) with hx | hx | ⟨sh, hsh, rfl⟩
  · simp [S82_0, S82_1, S90_0, S87_0, S49_0, S162_0, S162_1, S162_2, S161_0, Call_in, BS, ixs, inbs, le_nlt, hB, hM, hI, hx]
  · have x0 : ¬ x < 0 := by intro q; rw [Int32.le_iff_toInt_le] at hx; rw [Int32.lt_iff_toInt_lt] at q; have q0 : (0 : Int32).toInt = 0 := rfl; rw [nI_toInt (by omega)] at hx; omega
    have x3 : (3 : Int32) < x := by rw [Int32.le_iff_toInt_le] at hx; rw [Int32.lt_iff_toInt_lt]; have q0 : (3 : Int32).toInt = 3 := rfl; rw [nI_toInt (by omega)] at hx; omega
    have x4 : ¬ x < 4 := by rw [Int32.le_iff_toInt_le] at hx; rw [Int32.lt_iff_toInt_lt]; have q0 : (4 : Int32).toInt = 4 := rfl; rw [nI_toInt (by omega)] at hx; omega
    simp [S82_0, S82_1, S90_0, S87_0, S49_0, S162_0, S162_1, S162_2, S161_0, Call_in, BS, ixs, inbs, le_nlt, hB, hM, hI, x0, x3, x4]
  · have g0 : ¬ nI sh < 0 := nI_nneg (by omega)
    have g3 : ¬ (3 : Int32) < nI sh := nI_nlt (b := sh) (a := 3) (by omega) (by omega)
    have g4 : nI sh < 4 := nI_lt (b := 4) (by omega) (by omega)
    have gi : inb (nI sh) 4 = true := by rw [inb_nI (by omega)]; simp; omega
    have gx := ix_nI (show sh < 2 ^ 31 by omega)
    by_cases s1 : so < -1
    · simp [S82_0, S82_1, S90_0, S87_0, S49_0, S162_0, S162_1, S162_2, S161_0, Call_in, BS, ixs, inbs, le_nlt, hB, hM, hI, g0, g3, g4, gi, gx, s1]
    by_cases s2 : (2 : Int32) < so
    · simp [S82_0, S82_1, S90_0, S87_0, S49_0, S162_0, S162_1, S162_2, S161_0, Call_in, BS, ixs, inbs, le_nlt, hB, hM, hI, g0, g3, g4, gi, gx, s1, s2]
    have hso : so = -1 ∨ so = 0 ∨ so = 1 ∨ so = 2 := by
      rw [Int32.lt_iff_toInt_lt] at s1 s2
      have q0 : (-1 : Int32).toInt = -1 := rfl
      have q3 : (2 : Int32).toInt = 2 := rfl
      rw [q0] at s1
      rw [q3] at s2
      have : so.toInt = -1 ∨ so.toInt = 0 ∨ so.toInt = 1 ∨ so.toInt = 2 := by omega
      rcases this with e | e | e | e
      · exact Or.inl (Int32.toInt_inj.mp e)
      · exact Or.inr (Or.inl (Int32.toInt_inj.mp e))
      · exact Or.inr (Or.inr (Or.inl (Int32.toInt_inj.mp e)))
      · exact Or.inr (Or.inr (Or.inr (Int32.toInt_inj.mp e)))
    rcases hso with rfl | hso
    · simp [S82_0, S82_1, S90_0, S87_0, S49_0, S162_0, S162_1, S162_2, S161_0, Call_in, BS, ixs, inbs, le_nlt, hB, hM, hI, g0, g3, g4, gi, gx, ↓m_shl hsh, u2_rd]
      refine Inv_mk (h7.sht (s0 := sh) (Nat.le_refl _) hsh (fun _ _ => rfl) (fun _ _ => rfl) (fun i hi => ?_) (fun s i h1 h2 h3 => ?_) (fun i h1 h2 h3 => ?_) (fun s hs => ⟨?_, ?_⟩) (fun i h1 h2 => u2_ne _ _ _ h2) (fun s hs => ?_) (Or.inr (Or.inl ?_)) (Or.inl ⟨?_, ?_⟩))
      · funext k; simp only [z40]; rw [if_neg (by omega)]
      · simp only [z40]; rw [if_neg (by omega)]
      · rw [u2_ne _ _ _ h3, u2_ne _ _ _ h2]
      all_goals simp [u2_rd, *]
    by_cases n1 : (40 : Int32) < y
    · rcases hso with rfl | rfl | rfl <;> simp [S82_0, S82_1, S90_0, S87_0, S49_0, S162_0, S162_1, S162_2, S161_0, Call_in, BS, ixs, inbs, le_nlt, hB, hM, hI, g0, g3, g4, gi, gx, n1]
    by_cases n2 : y < 0
    · rcases hso with rfl | rfl | rfl <;> simp [S82_0, S82_1, S90_0, S87_0, S49_0, S162_0, S162_1, S162_2, S161_0, Call_in, BS, ixs, inbs, le_nlt, hB, hM, hI, g0, g3, g4, gi, gx, n1, n2]
    obtain ⟨z, hz, rfl⟩ : ∃ z, z ≤ 40 ∧ y = nI z := nI_of2 (M := 40) rfl n2 (by rw [← Int32.not_lt]; exact n1)
    have z0 : (if nI z < 0 then 0 else nI z) = nI z := by rw [if_neg n2]
    have z1 : ix (nI z) = z := ix_nI (by omega)
    have z2 : z ≤ 1000 := by omega
    obtain ⟨m, rfl⟩ : ∃ m, n = m + 98 := ⟨n - 98, by omega⟩
    rcases hso with rfl | rfl | rfl
    · simp [S82_0, S82_1, S90_0, S87_0, S49_0, S162_0, S162_1, S162_2, S161_0, Call_in, BS, ixs, inbs, le_nlt, hB, hM, hI, g0, g3, g4, gi, gx, n1, n2, z0, z1, z2, va_up_rd, u2_rd, ↓m_shl hsh, okS]
      refine ⟨Inv_mk (h7.sht (n' := m + 98 + 1 + 1) (s0 := sh) (by omega) hsh (fun i hi => ?_) (fun i hi => ?_) (fun i hi => ?_) (fun s i h1 h2 h3 => ?_) (fun i h1 h2 h3 => ?_) (fun s hs => ⟨?_, ?_⟩) (fun i h1 h2 => ?_) (fun s hs => ?_) (Or.inr (Or.inr ?_)) (Or.inr ⟨m + 99, z, ?_, by omega, by omega, ?_, ?_, ?_, ?_, hz, ?_, ?_, ?_, fun i hi => ?_⟩)), by omega⟩
      · rw [va_up_no _ _ (by omega), va_up_no _ _ (by omega)]
      · rw [va_up_no _ _ (by omega)]
      · funext k; simp only [z40]; rw [if_neg (by omega), va_up_no _ _ (by omega), va_up_no _ _ (by omega)]
      · simp only [z40]; rw [if_neg (by omega), va_up_no _ _ (by omega), va_up_no _ _ (by omega)]
      · rw [u2_ne _ _ _ h3, u2_ne _ _ _ h2, va_up_no _ _ (by omega), u2_ne _ _ _ (by omega), va_up_no _ _ (by omega)]
      · simp [u2_rd, va_up_rd, hs]
      · simp [u2_rd, va_up_rd, hs]
      · rw [u2_ne _ _ _ h2, u2_ne _ _ _ (by omega), va_up_no _ _ (by omega), va_up_no _ _ (by omega)]
      · simp [u2_rd, va_up_rd, hs]
      all_goals simp [u2_rd, va_up_rd, z40]
      try omega
    · simp [S82_0, S82_1, S90_0, S87_0, S49_0, S162_0, S162_1, S162_2, S161_0, Call_in, BS, ixs, inbs, le_nlt, hB, hM, hI, g0, g3, g4, gi, gx, n1, n2, z0, z1, z2, va_up_rd, u2_rd, ↓m_shl hsh, okS]
      refine ⟨Inv_mk (h7.sht (n' := m + 98 + 1 + 1) (s0 := sh) (by omega) hsh (fun i hi => ?_) (fun i hi => ?_) (fun i hi => ?_) (fun s i h1 h2 h3 => ?_) (fun i h1 h2 h3 => ?_) (fun s hs => ⟨?_, ?_⟩) (fun i h1 h2 => ?_) (fun s hs => ?_) (Or.inr (Or.inr ?_)) (Or.inr ⟨m + 99, z, ?_, by omega, by omega, ?_, ?_, ?_, ?_, hz, ?_, ?_, ?_, fun i hi => ?_⟩)), by omega⟩
      · rw [va_up_no _ _ (by omega), va_up_no _ _ (by omega)]
      · rw [va_up_no _ _ (by omega)]
      · funext k; simp only [z40]; rw [if_neg (by omega), va_up_no _ _ (by omega), va_up_no _ _ (by omega)]
      · simp only [z40]; rw [if_neg (by omega), va_up_no _ _ (by omega), va_up_no _ _ (by omega)]
      · rw [u2_ne _ _ _ h3, u2_ne _ _ _ h2, va_up_no _ _ (by omega), u2_ne _ _ _ (by omega), va_up_no _ _ (by omega)]
      · simp [u2_rd, va_up_rd, hs]
      · simp [u2_rd, va_up_rd, hs]
      · rw [u2_ne _ _ _ h2, u2_ne _ _ _ (by omega), va_up_no _ _ (by omega), va_up_no _ _ (by omega)]
      · simp [u2_rd, va_up_rd, hs]
      all_goals simp [u2_rd, va_up_rd, z40]
      try omega
    · simp [S82_0, S82_1, S90_0, S87_0, S49_0, S162_0, S162_1, S162_2, S161_0, Call_in, BS, ixs, inbs, le_nlt, hB, hM, hI, g0, g3, g4, gi, gx, n1, n2, z0, z1, z2, va_up_rd, u2_rd, ↓m_shl hsh, okS]
      refine ⟨Inv_mk (h7.sht (n' := m + 98 + 1 + 1) (s0 := sh) (by omega) hsh (fun i hi => ?_) (fun i hi => ?_) (fun i hi => ?_) (fun s i h1 h2 h3 => ?_) (fun i h1 h2 h3 => ?_) (fun s hs => ⟨?_, ?_⟩) (fun i h1 h2 => ?_) (fun s hs => ?_) (Or.inr (Or.inr ?_)) (Or.inr ⟨m + 99, z, ?_, by omega, by omega, ?_, ?_, ?_, ?_, hz, ?_, ?_, ?_, fun i hi => ?_⟩)), by omega⟩
      · rw [va_up_no _ _ (by omega), va_up_no _ _ (by omega)]
      · rw [va_up_no _ _ (by omega)]
      · funext k; simp only [z40]; rw [if_neg (by omega), va_up_no _ _ (by omega), va_up_no _ _ (by omega)]
      · simp only [z40]; rw [if_neg (by omega), va_up_no _ _ (by omega), va_up_no _ _ (by omega)]
      · rw [u2_ne _ _ _ h3, u2_ne _ _ _ h2, va_up_no _ _ (by omega), u2_ne _ _ _ (by omega), va_up_no _ _ (by omega)]
      · simp [u2_rd, va_up_rd, hs]
      · simp [u2_rd, va_up_rd, hs]
      · rw [u2_ne _ _ _ h2, u2_ne _ _ _ (by omega), va_up_no _ _ (by omega), va_up_no _ _ (by omega)]
      · simp [u2_rd, va_up_rd, hs]
      all_goals simp [u2_rd, va_up_rd, z40]
      try omega

