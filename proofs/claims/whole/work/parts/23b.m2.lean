theorem min40 {t : Nat} (h : t < 1000) : (if (40 : Int32) < nI t then 40 else nI t) = nI (min t 40) := by
  have e : (40 : Int32) < nI t ↔ 40 < t := nI_ltI (a := 40) (by omega) (by omega)
  by_cases q : 40 < t
  · rw [if_pos (e.mpr q), Nat.min_eq_right (by omega)]
    rfl
  · rw [if_neg (fun z => q (e.mp z)), Nat.min_eq_left (by omega)]
set_option maxHeartbeats 2000000 in
/-- trace(i) -/
theorem two_trace (h : Hp) (hI : Inv h) (x : Int32) : Two 80 159 [some (.ref 1), some (.int x)] [some (.ref 74), some (.int x)] h := by
  obtain ⟨n, sl, C, Z, I, L, R⟩ := h
  obtain ⟨M, rn, t, h7⟩ := id hI
  obtain ⟨hM12, hn98, ⟨hB, hK, hO, hE, hM⟩, ⟨e1, e2⟩, hms, hss, hap, ⟨hrn, e3, e4, hrw⟩, ht, e5, e6, htr⟩ := id h7
  dsimp only at hM12 hn98 hB hK hO hE hM e1 e2 hms hss hap hrn e3 e4 hrw ht e5 e6 htr h7
  have hB' := hB
  have hM' := hM
  unfold LayB at hB
  unfold LayM at hM
  unfold Two
  have hmn := min40 ht
  rcases pk_ix x (n := min t 40) (by omega) with hx | hx | ⟨a, ha, rfl⟩
  · simp [S80_0, S159_0, S87_0, Call_in, BS, ixs, inbs, hB, hM, hI, e5, e6, hx, hmn]
  · have h1 : nI (min t 40) - 1 < x := by rw [← Int32.not_le, le_predk (by omega), Int32.not_lt]; exact hx
    by_cases h2 : x < 0
    · simp [S80_0, S159_0, S87_0, Call_in, BS, ixs, inbs, hB, hM, hI, e5, e6, h2, hmn]
    · have h3 : nI t ≤ x ∨ (40 : Int32) ≤ x := by
        rcases Nat.le_total t 40 with q | q
        · rw [Nat.min_eq_left q] at hx; exact Or.inl hx
        · rw [Nat.min_eq_right q] at hx; exact Or.inr hx
      by_cases h4 : nI t ≤ x
      · simp [S80_0, S159_0, S87_0, Call_in, BS, ixs, inbs, hB, hM, hI, e5, e6, h2, h1, h4, hmn]
      · have h5 : (40 : Int32) ≤ x := h3.resolve_left h4
        simp [S80_0, S159_0, S87_0, Call_in, BS, ixs, inbs, hB, hM, hI, e5, e6, h2, h1, h4, h5, hmn]
  · have h0 : ¬ nI a < 0 := nI_nneg (by omega)
    have h1 : ¬ nI (min t 40) - 1 < nI a := by rw [Int32.not_lt, le_predk (by omega)]; exact nI_lt ha (by omega)
    have h2 : inb (nI a) 40 = true := by rw [inb_nI (by omega)]; simp; omega
    have h3 : ¬ nI t ≤ nI a := nI_ge (by omega) (by omega)
    have h4 : ¬ (40 : Int32) ≤ nI a := nI_ge (b := 40) (by omega) (by omega)
    simp [S80_0, S159_0, S87_0, Call_in, BS, ixs, inbs, hB, hM, hI, e5, e6, h0, h1, h2, h3, h4, hmn, ix_nI (show a < 2 ^ 31 by omega), htr a (by omega) (by omega)]

set_option maxHeartbeats 2000000 in
/-- row(i) -/
theorem two_row (h : Hp) (hI : Inv h) (x : Int32) : Two 76 147 [some (.ref 1), some (.int x)] [some (.ref 74), some (.int x)] h := by
  obtain ⟨n, sl, C, Z, I, L, R⟩ := h
  obtain ⟨M, rn, t, h7⟩ := id hI
  obtain ⟨hM12, hn98, ⟨hB, hK, hO, hE, hM⟩, ⟨e1, e2⟩, hms, hss, hap, ⟨hrn, e3, e4, hrw⟩, ht, e5, e6, htr⟩ := id h7
  dsimp only at hM12 hn98 hB hK hO hE hM e1 e2 hms hss hap hrn e3 e4 hrw ht e5 e6 htr h7
  have hB' := hB
  have hM' := hM
  unfold LayB at hB
  unfold LayM at hM
  unfold Two
  rcases pk_ix x (n := rn) (by omega) with hx | hx | ⟨a, ha, rfl⟩
  · simp [S76_0, S147_0, S87_0, Call_in, BS, ixs, inbs, hB, hM, hI, e3, e4, hx]
  · have h1 : nI rn - 1 < x := by rw [← Int32.not_le, le_predk (by omega), Int32.not_lt]; exact hx
    by_cases h2 : x < 0
    · simp [S76_0, S147_0, S87_0, Call_in, BS, ixs, inbs, hB, hM, hI, e3, e4, h2]
    · simp [S76_0, S147_0, S87_0, Call_in, BS, ixs, inbs, hB, hM, hI, e3, e4, h2, h1, hx]
  · have h0 : ¬ nI a < 0 := nI_nneg (by omega)
    have h1 : ¬ nI rn - 1 < nI a := by rw [Int32.not_lt, le_predk (by omega)]; exact nI_lt ha (by omega)
    have h2 : inb (nI a) 11 = true := by rw [inb_nI (by omega)]; simp; omega
    have h3 : ¬ nI rn ≤ nI a := nI_ge (by omega) (by omega)
    have h4 : inb (nI a) 12 = true := by rw [inb_nI (by omega)]; simp; omega
    simp [S76_0, S147_0, S87_0, Call_in, BS, ixs, inbs, hB, hM, hI, e3, e4, h0, h1, h2, h3, h4, ix_nI (show a < 2 ^ 31 by omega), hrw a ha]

set_option maxHeartbeats 2000000 in
/-- forge(i, v) -/
theorem two_forge (h : Hp) (hI : Inv h) (x : Int32) (v : Int64) : Two 77 148 [some (.ref 1), some (.int x), some (.long v), none] [some (.ref 74), some (.int x), some (.long v), none] h := by
  obtain ⟨n, sl, C, Z, I, L, R⟩ := h
  obtain ⟨M, rn, t, h7⟩ := id hI
  obtain ⟨hM12, hn98, ⟨hB, hK, hO, hE, hM⟩, ⟨e1, e2⟩, hms, hss, hap, ⟨hrn, e3, e4, hrw⟩, ht, e5, e6, htr⟩ := id h7
  dsimp only at hM12 hn98 hB hK hO hE hM e1 e2 hms hss hap hrn e3 e4 hrw ht e5 e6 htr h7
  have hB' := hB
  have hM' := hM
  unfold LayB at hB
  unfold LayM at hM
  unfold Two
  rcases pk_ix x (n := rn) (by omega) with hx | hx | ⟨a, ha, rfl⟩
  · simp [S77_0, S148_0, S87_0, Call_in, BS, ixs, inbs, hB, hM, hI, e3, e4, hx]
  · have h1 : nI rn - 1 < x := by rw [← Int32.not_le, le_predk (by omega), Int32.not_lt]; exact hx
    by_cases h2 : x < 0
    · simp [S77_0, S148_0, S87_0, Call_in, BS, ixs, inbs, hB, hM, hI, e3, e4, h2]
    · simp [S77_0, S148_0, S87_0, Call_in, BS, ixs, inbs, hB, hM, hI, e3, e4, h2, h1, hx]
  · have h0 : ¬ nI a < 0 := nI_nneg (by omega)
    have h1 : ¬ nI rn - 1 < nI a := by rw [Int32.not_lt, le_predk (by omega)]; exact nI_lt ha (by omega)
    have h2 : inb (nI a) 11 = true := by rw [inb_nI (by omega)]; simp; omega
    have h3 : ¬ nI rn ≤ nI a := nI_ge (by omega) (by omega)
    have h4 : inb (nI a) 12 = true := by rw [inb_nI (by omega)]; simp; omega
    by_cases v1 : v < -1000000000
    · simp [S77_0, S148_0, S87_0, Call_in, BS, ixs, inbs, hB, hM, hI, e3, e4, h0, h1, h3, lg_lt, lg_ge, lg_gt, lg_le, v1]
    by_cases v2 : 1000000000 < v
    · simp [S77_0, S148_0, S87_0, Call_in, BS, ixs, inbs, hB, hM, hI, e3, e4, h0, h1, h3, lg_lt, lg_ge, lg_gt, lg_le, v1, v2]
    simp [S77_0, S148_0, S87_0, Call_in, BS, ixs, inbs, hB, hM, hI, e3, e4, h0, h1, h2, h3, h4, lg_lt, lg_ge, lg_gt, lg_le, v1, v2, ix_nI (show a < 2 ^ 31 by omega)]
    refine ⟨M, rn, t, hM12, hn98, ⟨hB', hK, hO, hE, hM'⟩, ⟨e1, e2⟩, hms, fun s hs => (hss s hs).keep (Nat.le_refl _) (fun _ _ _ => rfl) (fun _ _ _ => rfl) (fun _ _ _ => rfl) (fun i hi _ => ?_) ⟨rfl, rfl, fun i _ => ?_⟩ rfl (fun _ _ _ => rfl), hap, ⟨hrn, e3, e4, fun i hi => ?_⟩, ht, e5, e6, htr⟩
    · dsimp only
      rw [u2_ne _ _ _ (by omega), u2_ne _ _ _ (by omega)]
    · dsimp only
      rw [u2_ne _ _ _ (by omega), u2_ne _ _ _ (by omega)]
    · dsimp only
      rw [u2_ne _ (i := 85) (j := 3) _ _ (by omega), u2_at, u2_at, u2_ne _ (i := 3) (j := 85) _ _ (by omega), hrw i hi]

