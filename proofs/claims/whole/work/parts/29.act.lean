/-- a new trace -/
theorem Inv7.tr {n : Nat} {C Z : Nat → Nat} {I I' : Nat → Nat → Int32} {L : Nat → Nat → Int64} {R : Nat → Nat → Nat} {M rn t t' : Nat} (h : Inv7 n C Z I L R M rn t) (ht' : t' < 1000)
    (hI : ∀ i, i ≠ 5 → i ≠ 6 → i ≠ 91 → i ≠ 74 → I' i = I i) (h74 : I' 74 0 = I 74 0 ∧ I' 74 13 = I 74 13) (h5 : I' 5 1 = nI t') (h7 : I' 74 20 = nI t') (hk : ∀ i, i < t' → i < 40 → I' 6 i = I' 91 i) : Inv7 n C Z I' L R M rn t' := by
  obtain ⟨a1, a2, a3, a4, a5, a6, a7, a8⟩ := h
  refine ⟨a1, a2, a3, ?_, fun j hj => ?_, fun s hs => ?_, a7, ?_⟩
  · rw [hI 1 (by omega) (by omega) (by omega) (by omega), h74.1]
    exact a4
  · obtain ⟨q, s, hm⟩ := a5 j hj
    have hh : ∀ i, 99 ≤ i ∨ (75 ≤ i ∧ i ≤ 81) → I' i = I i := fun i hi => hI i (by omega) (by omega) (by omega) (by omega)
    exact ⟨q, s, hm.keep (Nat.le_refl _) (fun _ _ _ => rfl) (fun _ _ _ => rfl) (fun i hi _ => hh i (by omega)) ⟨⟨by rw [hh 75 (by omega)], by rw [hh 76 (by omega)], by rw [hh 77 (by omega)], by rw [hh 78 (by omega)]⟩, fun i _ => by rw [hh 79 (by omega)], fun i _ => ⟨by rw [hh 80 (by omega)], by rw [hh 81 (by omega)]⟩⟩ rfl (fun _ _ _ => rfl)⟩
  · have hh : ∀ i, 99 ≤ i ∨ i = 87 ∨ i = 88 → I' i = I i := fun i hi => hI i (by omega) (by omega) (by omega) (by omega)
    exact (a6 s hs).keep (Nat.le_refl _) (fun _ _ _ => rfl) (fun _ _ _ => rfl) (fun i hi _ => hh i (by omega)) (fun _ _ _ => rfl) ⟨by rw [hh 87 (by omega)], by rw [hh 88 (by omega)], fun _ _ => rfl⟩ rfl (fun _ _ _ => rfl)
  · obtain ⟨⟨b1, b2, b3, b4⟩, -⟩ := a8
    refine ⟨⟨b1, ?_, ?_, b4⟩, ht', h5, h7, hk⟩
    · rw [hI 1 (by omega) (by omega) (by omega) (by omega)]
      exact b2
    · rw [h74.2]
      exact b3
theorem at_yesG {C Z : Nat → Nat} {R : Nat → Nat → Nat} {M j : Nat} (hB : LayB C Z R) (hM : M ≤ 12) (hj : j < M) : ∀ (n sl : Nat) (I : Nat → Nat → Int32) (L : Nat → Nat → Int64), I 1 1 = nI M → ∀ (k pc : Nat) (ls : Lo) (st : List Value) (Q : Option Value → Hp → Prop), Call 92 [some (.ref 1), some (.int (nI j))] (n, sl, C, Z, I, L, R) k pc ls st Q ↔ Wp k pc ls (.ref (R 2 j) :: st) (n, sl, C, Z, I, L, R) Q := fun n sl I L e1 => at_yes hB e1 hM hj
theorem at_noG {C Z : Nat → Nat} {R : Nat → Nat → Nat} {M : Nat} (hB : LayB C Z R) (hM : M ≤ 12) {x : Int32} (hx : x < 0 ∨ nI M ≤ x) : ∀ (n sl : Nat) (I : Nat → Nat → Int32) (L : Nat → Nat → Int64), I 1 1 = nI M → ∀ (k pc : Nat) (ls : Lo) (st : List Value) (Q : Option Value → Hp → Prop), Call 92 [some (.ref 1), some (.int x)] (n, sl, C, Z, I, L, R) k pc ls st Q ↔ Wp k pc ls (.ref 0 :: st) (n, sl, C, Z, I, L, R) Q := fun n sl I L e1 => at_no hB e1 hM hx
theorem is_noG {C Z : Nat → Nat} {R : Nat → Nat → Nat} {M : Nat} (hB : LayM C Z R) {x : Int32} (hx : x < 0 ∨ nI M ≤ x) : ∀ (n sl : Nat) (I : Nat → Nat → Int32) (L : Nat → Nat → Int64), I 74 0 = nI M → ∀ (k pc : Nat) (ls : Lo) (st : List Value) (Q : Option Value → Hp → Prop), Call 103 [some (.ref 74), some (.int x)] (n, sl, C, Z, I, L, R) k pc ls st Q ↔ Wp k pc ls (.int 0 :: st) (n, sl, C, Z, I, L, R) Q := fun n sl I L e1 => is_no hB e1 hx
set_option maxRecDepth 100000 in
set_option maxHeartbeats 8000000 in
/-- act(machine, act, x) -/
theorem two_act (h : Hp) (hI : Inv h) (x ac y : Int32) : Two 79 158 [some (.ref 1), some (.int x), some (.int ac), some (.int y), none] [some (.ref 74), some (.int x), some (.int ac), some (.int y)] h := by
  obtain ⟨n, sl, C, Z, I, L, R⟩ := h
  obtain ⟨M, rn, t, h7⟩ := id hI
  obtain ⟨hM12, hn98, ⟨hB, hK, hO, hE, hM⟩, ⟨e1, e2⟩, hms, hss, hap, ⟨hrn, e3, e4, hrw⟩, ht, e5, e6, htr⟩ := id h7
  dsimp only at hM12 hn98 hB hK hO hE hM e1 e2 hms hss hap hrn e3 e4 hrw ht e5 e6 htr h7
  have hB' := hB
  have hM' := hM
  unfold LayB at hB
  unfold LayM at hM
  unfold Two
  rcases pk_ix x (n := M) (by omega) with hx | hx | ⟨j, hj, rfl⟩
  · have hm : x < 0 ∨ nI M ≤ x := Or.inl hx
    simp [S79_0, S79_1, S54_0, S55_0, S55_1, S56_0, S56_1, S11_0, S39_0, S40_0, S47_0, S48_0, S48_1, S158_0, S158_1, S150_0, S151_0, S152_0, S152_1, S153_0, S154_0, S155_0, S156_0, S157_0, S157_1, at_noG hB' hM12 hm, is_noG hM' hm, Call_in, BS, ixs, inbs, le_nlt, hB, hM, e1, e2, u2_rd]
    exact Inv_mk (h7.tr (t' := 0) (by omega) (fun i h1 h2 h3 h4 => by funext k; simp [u2_rd, h1, h2, h3, h4]) ⟨by simp [u2_rd], by simp [u2_rd]⟩ (by simp [u2_rd, nI_0]) (by simp [u2_rd, nI_0]) (fun i hi => absurd hi (by omega)))
  · have hm : x < 0 ∨ nI M ≤ x := Or.inr hx
    simp [S79_0, S79_1, S54_0, S55_0, S55_1, S56_0, S56_1, S11_0, S39_0, S40_0, S47_0, S48_0, S48_1, S158_0, S158_1, S150_0, S151_0, S152_0, S152_1, S153_0, S154_0, S155_0, S156_0, S157_0, S157_1, at_noG hB' hM12 hm, is_noG hM' hm, Call_in, BS, ixs, inbs, le_nlt, hB, hM, e1, e2, u2_rd]
    exact Inv_mk (h7.tr (t' := 0) (by omega) (fun i h1 h2 h3 h4 => by funext k; simp [u2_rd, h1, h2, h3, h4]) ⟨by simp [u2_rd], by simp [u2_rd]⟩ (by simp [u2_rd, nI_0]) (by simp [u2_rd, nI_0]) (fun i hi => absurd hi (by omega)))
  · obtain ⟨q, s, hq⟩ := hms j hj
    obtain ⟨a1, a2, a3, a4, ⟨a5, hs3, a6, a7⟩, ⟨a8, a9⟩, ⟨r3, r4, r5, r6⟩, ⟨c1, c2, c3, c4, z1, z2, z3, z4⟩, ma, mbb, mcc, ⟨md, mdb⟩, za, zb⟩ := id hq
    have j0 : inb (nI j) 12 = true := by rw [inb_nI (by omega)]; simp; omega
    have jx := ix_nI (show j < 2 ^ 31 by omega)
    have hq0 : ¬ q = 0 := by omega
    have hq5 : ¬ q = 5 := by omega
    have hq6 : ¬ q = 6 := by omega
    by_cases w0 : ac = 0
    · subst w0
      rcases a4 with ⟨b1, b2⟩ | ⟨b1, b2⟩ | ⟨b1, b2⟩ | ⟨b1, b2⟩
      · simp [S79_0, S79_1, S54_0, S55_0, S55_1, S56_0, S56_1, S11_0, S39_0, S40_0, S47_0, S48_0, S48_1, S158_0, S158_1, S150_0, S151_0, S152_0, S152_1, S153_0, S154_0, S155_0, S156_0, S157_0, S157_1, at_yesG hB' hM12 hj, is_yesG hM' hM12 hj, Call_in, BS, ixs, inbs, le_nlt, hB, hM, e1, e2, a1, b1, b2, a5, a6, a7, a8, j0, jx, hq0, inGs, u2_rd, hq5, hq6]
        exact Inv_mk (h7.tr (t' := 1) (by omega) (fun i h1 h2 h3 h4 => by funext k; simp [u2_rd, h1, h2, h3, h4]) ⟨by simp [u2_rd], by simp [u2_rd]⟩ (by simp [u2_rd]; rfl) (by simp [u2_rd]; rfl) (fun i hi _ => by rcases (by omega : i = 0) with rfl <;> simp [u2_rd]))
      · simp [S79_0, S79_1, S54_0, S55_0, S55_1, S56_0, S56_1, S11_0, S39_0, S40_0, S47_0, S48_0, S48_1, S158_0, S158_1, S150_0, S151_0, S152_0, S152_1, S153_0, S154_0, S155_0, S156_0, S157_0, S157_1, at_yesG hB' hM12 hj, is_yesG hM' hM12 hj, Call_in, BS, ixs, inbs, le_nlt, hB, hM, e1, e2, a1, b1, b2, a5, a6, a7, a8, j0, jx, hq0, inGs, u2_rd, hq5, hq6]
        exact Inv_mk (h7.tr (t' := 2) (by omega) (fun i h1 h2 h3 h4 => by funext k; simp [u2_rd, h1, h2, h3, h4]) ⟨by simp [u2_rd], by simp [u2_rd]⟩ (by simp [u2_rd]; rfl) (by simp [u2_rd]; rfl) (fun i hi _ => by rcases (by omega : i = 0 ∨ i = 1) with rfl | rfl <;> simp [u2_rd]))
      · simp [S79_0, S79_1, S54_0, S55_0, S55_1, S56_0, S56_1, S11_0, S39_0, S40_0, S47_0, S48_0, S48_1, S158_0, S158_1, S150_0, S151_0, S152_0, S152_1, S153_0, S154_0, S155_0, S156_0, S157_0, S157_1, at_yesG hB' hM12 hj, is_yesG hM' hM12 hj, Call_in, BS, ixs, inbs, le_nlt, hB, hM, e1, e2, a1, b1, b2, a5, a6, a7, a8, j0, jx, hq0, inGs, u2_rd, hq5, hq6]
        exact Inv_mk (h7.tr (t' := 1) (by omega) (fun i h1 h2 h3 h4 => by funext k; simp [u2_rd, h1, h2, h3, h4]) ⟨by simp [u2_rd], by simp [u2_rd]⟩ (by simp [u2_rd]; rfl) (by simp [u2_rd]; rfl) (fun i hi _ => by rcases (by omega : i = 0) with rfl <;> simp [u2_rd]))
      · simp [S79_0, S79_1, S54_0, S55_0, S55_1, S56_0, S56_1, S11_0, S39_0, S40_0, S47_0, S48_0, S48_1, S158_0, S158_1, S150_0, S151_0, S152_0, S152_1, S153_0, S154_0, S155_0, S156_0, S157_0, S157_1, at_yesG hB' hM12 hj, is_yesG hM' hM12 hj, Call_in, BS, ixs, inbs, le_nlt, hB, hM, e1, e2, a1, b1, b2, a5, a6, a7, a8, j0, jx, hq0, inGs, u2_rd, hq5, hq6]
        exact Inv_mk (h7.tr (t' := 2) (by omega) (fun i h1 h2 h3 h4 => by funext k; simp [u2_rd, h1, h2, h3, h4]) ⟨by simp [u2_rd], by simp [u2_rd]⟩ (by simp [u2_rd]; rfl) (by simp [u2_rd]; rfl) (fun i hi _ => by rcases (by omega : i = 0 ∨ i = 1) with rfl | rfl <;> simp [u2_rd]))
    by_cases w1 : ac = 1
    · subst w1
      rcases a4 with ⟨b1, b2⟩ | ⟨b1, b2⟩ | ⟨b1, b2⟩ | ⟨b1, b2⟩
      · simp [S79_0, S79_1, S54_0, S55_0, S55_1, S56_0, S56_1, S11_0, S39_0, S40_0, S47_0, S48_0, S48_1, S158_0, S158_1, S150_0, S151_0, S152_0, S152_1, S153_0, S154_0, S155_0, S156_0, S157_0, S157_1, at_yesG hB' hM12 hj, is_yesG hM' hM12 hj, Call_in, BS, ixs, inbs, le_nlt, hB, hM, e1, e2, a1, b1, b2, a5, a6, a7, a8, j0, jx, hq0, inGs, u2_rd, hq5, hq6]
        exact Inv_mk (h7.tr (t' := 2) (by omega) (fun i h1 h2 h3 h4 => by funext k; simp [u2_rd, h1, h2, h3, h4]) ⟨by simp [u2_rd], by simp [u2_rd]⟩ (by simp [u2_rd]; rfl) (by simp [u2_rd]; rfl) (fun i hi _ => by rcases (by omega : i = 0 ∨ i = 1) with rfl | rfl <;> simp [u2_rd]))
      · simp [S79_0, S79_1, S54_0, S55_0, S55_1, S56_0, S56_1, S11_0, S39_0, S40_0, S47_0, S48_0, S48_1, S158_0, S158_1, S150_0, S151_0, S152_0, S152_1, S153_0, S154_0, S155_0, S156_0, S157_0, S157_1, at_yesG hB' hM12 hj, is_yesG hM' hM12 hj, Call_in, BS, ixs, inbs, le_nlt, hB, hM, e1, e2, a1, b1, b2, a5, a6, a7, a8, j0, jx, hq0, inGs, u2_rd, hq5, hq6]
        exact Inv_mk (h7.tr (t' := 3) (by omega) (fun i h1 h2 h3 h4 => by funext k; simp [u2_rd, h1, h2, h3, h4]) ⟨by simp [u2_rd], by simp [u2_rd]⟩ (by simp [u2_rd]; rfl) (by simp [u2_rd]; rfl) (fun i hi _ => by rcases (by omega : i = 0 ∨ i = 1 ∨ i = 2) with rfl | rfl | rfl <;> simp [u2_rd]))
      · simp [S79_0, S79_1, S54_0, S55_0, S55_1, S56_0, S56_1, S11_0, S39_0, S40_0, S47_0, S48_0, S48_1, S158_0, S158_1, S150_0, S151_0, S152_0, S152_1, S153_0, S154_0, S155_0, S156_0, S157_0, S157_1, at_yesG hB' hM12 hj, is_yesG hM' hM12 hj, Call_in, BS, ixs, inbs, le_nlt, hB, hM, e1, e2, a1, b1, b2, a5, a6, a7, a8, j0, jx, hq0, inGs, u2_rd, hq5, hq6]
        exact Inv_mk (h7.tr (t' := 3) (by omega) (fun i h1 h2 h3 h4 => by funext k; simp [u2_rd, h1, h2, h3, h4]) ⟨by simp [u2_rd], by simp [u2_rd]⟩ (by simp [u2_rd]; rfl) (by simp [u2_rd]; rfl) (fun i hi _ => by rcases (by omega : i = 0 ∨ i = 1 ∨ i = 2) with rfl | rfl | rfl <;> simp [u2_rd]))
      · simp [S79_0, S79_1, S54_0, S55_0, S55_1, S56_0, S56_1, S11_0, S39_0, S40_0, S47_0, S48_0, S48_1, S158_0, S158_1, S150_0, S151_0, S152_0, S152_1, S153_0, S154_0, S155_0, S156_0, S157_0, S157_1, at_yesG hB' hM12 hj, is_yesG hM' hM12 hj, Call_in, BS, ixs, inbs, le_nlt, hB, hM, e1, e2, a1, b1, b2, a5, a6, a7, a8, j0, jx, hq0, inGs, u2_rd, hq5, hq6]
        exact Inv_mk (h7.tr (t' := 4) (by omega) (fun i h1 h2 h3 h4 => by funext k; simp [u2_rd, h1, h2, h3, h4]) ⟨by simp [u2_rd], by simp [u2_rd]⟩ (by simp [u2_rd]; rfl) (by simp [u2_rd]; rfl) (fun i hi _ => by rcases (by omega : i = 0 ∨ i = 1 ∨ i = 2 ∨ i = 3) with rfl | rfl | rfl | rfl <;> simp [u2_rd]))
    by_cases w2 : ac = 2
    · subst w2
      rcases a4 with ⟨b1, b2⟩ | ⟨b1, b2⟩ | ⟨b1, b2⟩ | ⟨b1, b2⟩
      · simp [S79_0, S79_1, S54_0, S55_0, S55_1, S56_0, S56_1, S11_0, S39_0, S40_0, S47_0, S48_0, S48_1, S158_0, S158_1, S150_0, S151_0, S152_0, S152_1, S153_0, S154_0, S155_0, S156_0, S157_0, S157_1, at_yesG hB' hM12 hj, is_yesG hM' hM12 hj, Call_in, BS, ixs, inbs, le_nlt, hB, hM, e1, e2, a1, b1, b2, a5, a6, a7, a8, j0, jx, hq0, inGs, u2_rd, hq5, hq6]
        exact Inv_mk (h7.tr (t' := 4) (by omega) (fun i h1 h2 h3 h4 => by funext k; simp [u2_rd, h1, h2, h3, h4]) ⟨by simp [u2_rd], by simp [u2_rd]⟩ (by simp [u2_rd]; rfl) (by simp [u2_rd]; rfl) (fun i hi _ => by rcases (by omega : i = 0 ∨ i = 1 ∨ i = 2 ∨ i = 3) with rfl | rfl | rfl | rfl <;> simp [u2_rd]))
      · simp [S79_0, S79_1, S54_0, S55_0, S55_1, S56_0, S56_1, S11_0, S39_0, S40_0, S47_0, S48_0, S48_1, S158_0, S158_1, S150_0, S151_0, S152_0, S152_1, S153_0, S154_0, S155_0, S156_0, S157_0, S157_1, at_yesG hB' hM12 hj, is_yesG hM' hM12 hj, Call_in, BS, ixs, inbs, le_nlt, hB, hM, e1, e2, a1, b1, b2, a5, a6, a7, a8, j0, jx, hq0, inGs, u2_rd, hq5, hq6]
        exact Inv_mk (h7.tr (t' := 6) (by omega) (fun i h1 h2 h3 h4 => by funext k; simp [u2_rd, h1, h2, h3, h4]) ⟨by simp [u2_rd], by simp [u2_rd]⟩ (by simp [u2_rd]; rfl) (by simp [u2_rd]; rfl) (fun i hi _ => by rcases (by omega : i = 0 ∨ i = 1 ∨ i = 2 ∨ i = 3 ∨ i = 4 ∨ i = 5) with rfl | rfl | rfl | rfl | rfl | rfl <;> simp [u2_rd]))
      · simp [S79_0, S79_1, S54_0, S55_0, S55_1, S56_0, S56_1, S11_0, S39_0, S40_0, S47_0, S48_0, S48_1, S158_0, S158_1, S150_0, S151_0, S152_0, S152_1, S153_0, S154_0, S155_0, S156_0, S157_0, S157_1, at_yesG hB' hM12 hj, is_yesG hM' hM12 hj, Call_in, BS, ixs, inbs, le_nlt, hB, hM, e1, e2, a1, b1, b2, a5, a6, a7, a8, j0, jx, hq0, inGs, u2_rd, hq5, hq6]
        exact Inv_mk (h7.tr (t' := 6) (by omega) (fun i h1 h2 h3 h4 => by funext k; simp [u2_rd, h1, h2, h3, h4]) ⟨by simp [u2_rd], by simp [u2_rd]⟩ (by simp [u2_rd]; rfl) (by simp [u2_rd]; rfl) (fun i hi _ => by rcases (by omega : i = 0 ∨ i = 1 ∨ i = 2 ∨ i = 3 ∨ i = 4 ∨ i = 5) with rfl | rfl | rfl | rfl | rfl | rfl <;> simp [u2_rd]))
      · simp [S79_0, S79_1, S54_0, S55_0, S55_1, S56_0, S56_1, S11_0, S39_0, S40_0, S47_0, S48_0, S48_1, S158_0, S158_1, S150_0, S151_0, S152_0, S152_1, S153_0, S154_0, S155_0, S156_0, S157_0, S157_1, at_yesG hB' hM12 hj, is_yesG hM' hM12 hj, Call_in, BS, ixs, inbs, le_nlt, hB, hM, e1, e2, a1, b1, b2, a5, a6, a7, a8, j0, jx, hq0, inGs, u2_rd, hq5, hq6]
        exact Inv_mk (h7.tr (t' := 13) (by omega) (fun i h1 h2 h3 h4 => by funext k; simp [u2_rd, h1, h2, h3, h4]) ⟨by simp [u2_rd], by simp [u2_rd]⟩ (by simp [u2_rd]; rfl) (by simp [u2_rd]; rfl) (fun i hi _ => by rcases (by omega : i = 0 ∨ i = 1 ∨ i = 2 ∨ i = 3 ∨ i = 4 ∨ i = 5 ∨ i = 6 ∨ i = 7 ∨ i = 8 ∨ i = 9 ∨ i = 10 ∨ i = 11 ∨ i = 12) with rfl | rfl | rfl | rfl | rfl | rfl | rfl | rfl | rfl | rfl | rfl | rfl | rfl <;> simp [u2_rd]))
    have wo : ac < 0 ∨ (¬ ac < 0 ∧ (2 : Int32) < ac) := by
      by_cases q : ac < 0
      · exact Or.inl q
      refine Or.inr ⟨q, ?_⟩
      rcases in4 ac with h | h | h | h | h | h
      · exact absurd h q
      · rw [Int32.lt_iff_toInt_lt] at *; have q2 : (2 : Int32).toInt = 2 := rfl; have q3 : (3 : Int32).toInt = 3 := rfl; omega
      · exact absurd h w0
      · exact absurd h w1
      · exact absurd h w2
      · rw [h]; decide
    rcases wo with w3 | ⟨w3, w4⟩
    · simp [S79_0, S79_1, S54_0, S55_0, S55_1, S56_0, S56_1, S11_0, S39_0, S40_0, S47_0, S48_0, S48_1, S158_0, S158_1, S150_0, S151_0, S152_0, S152_1, S153_0, S154_0, S155_0, S156_0, S157_0, S157_1, at_yesG hB' hM12 hj, is_yesG hM' hM12 hj, Call_in, BS, ixs, inbs, le_nlt, hB, hM, e1, e2, a1, a5, a6, a7, a8, j0, jx, hq0, inGs, u2_rd, w0, w1, w2, w3]
      exact Inv_mk (h7.tr (t' := 0) (by omega) (fun i h1 h2 h3 h4 => by funext k; simp [u2_rd, h1, h2, h3, h4]) ⟨by simp [u2_rd], by simp [u2_rd]⟩ (by simp [u2_rd, nI_0]) (by simp [u2_rd, nI_0]) (fun i hi => absurd hi (by omega)))
    · simp [S79_0, S79_1, S54_0, S55_0, S55_1, S56_0, S56_1, S11_0, S39_0, S40_0, S47_0, S48_0, S48_1, S158_0, S158_1, S150_0, S151_0, S152_0, S152_1, S153_0, S154_0, S155_0, S156_0, S157_0, S157_1, at_yesG hB' hM12 hj, is_yesG hM' hM12 hj, Call_in, BS, ixs, inbs, le_nlt, hB, hM, e1, e2, a1, a5, a6, a7, a8, j0, jx, hq0, inGs, u2_rd, w0, w1, w2, w3, w4]
      exact Inv_mk (h7.tr (t' := 0) (by omega) (fun i h1 h2 h3 h4 => by funext k; simp [u2_rd, h1, h2, h3, h4]) ⟨by simp [u2_rd], by simp [u2_rd]⟩ (by simp [u2_rd, nI_0]) (by simp [u2_rd, nI_0]) (fun i hi => absurd hi (by omega)))

