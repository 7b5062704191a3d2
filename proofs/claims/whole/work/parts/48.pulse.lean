set_option maxRecDepth 100000 in
set_option maxHeartbeats 8000000 in
/-- pulse(machine, k, what) -/
theorem two_pulse (h : Hp) (hI : Inv h) (x y wh : Int32) : Two 69 136 [some (.ref 1), some (.int x), some (.int y), some (.int wh), none] [some (.ref 74), some (.int x), some (.int y), some (.int wh)] h := by
  obtain ⟨n, sl, C, Z, I, L, R⟩ := h
  obtain ⟨M, rn, t, h7⟩ := id hI
  obtain ⟨hM12, hn98, ⟨hB, hK, hO, hE, hM⟩, ⟨e1, e2⟩, hms, hss, hap, ⟨hrn, e3, e4, hrw⟩, ht, e5, e6, htr⟩ := id h7
  dsimp only at hM12 hn98 hB hK hO hE hM e1 e2 hms hss hap hrn e3 e4 hrw ht e5 e6 htr h7
  have hB' := hB
  have hM' := hM
  unfold LayB at hB
  unfold LayM at hM
  unfold Two
  rcases pk_ix x (n := M) (by omega) with hx | hx | ⟨j, hj, rfl⟩
  · have hm : x < 0 ∨ nI M ≤ x := Or.inl hx
    simp [S69_0, S69_1, S87_0, S136_0, S136_1, at_noG hB' hM12 hm, is_noG hM' hm, Call_in, BS, ixs, inbs, le_nlt, hB, hM, hI, e1, e2]
  · have hm : x < 0 ∨ nI M ≤ x := Or.inr hx
    simp [S69_0, S69_1, S87_0, S136_0, S136_1, at_noG hB' hM12 hm, is_noG hM' hm, Call_in, BS, ixs, inbs, le_nlt, hB, hM, hI, e1, e2]
  · obtain ⟨q, s, hq⟩ := hms j hj
    obtain ⟨a1, a2, -⟩ := id hq
    have hq0 : ¬ q = 0 := by omega
    by_cases y0 : y < 0
    · simp [S69_0, S69_1, S87_0, S136_0, S136_1, at_yesG hB' hM12 hj, is_yesG hM' hM12 hj, e1, e2, Call_in, BS, ixs, inbs, le_nlt, hB, hM, hI, a1, hq0, y0]
    by_cases y8 : (8 : Int32) < y
    · simp [S69_0, S69_1, S87_0, S136_0, S136_1, at_yesG hB' hM12 hj, is_yesG hM' hM12 hj, e1, e2, Call_in, BS, ixs, inbs, le_nlt, hB, hM, hI, a1, hq0, y0, y8]
    by_cases w0 : wh < 0
    · simp [S69_0, S69_1, S87_0, S136_0, S136_1, at_yesG hB' hM12 hj, is_yesG hM' hM12 hj, e1, e2, Call_in, BS, ixs, inbs, le_nlt, hB, hM, hI, a1, hq0, y0, y8, w0]
    by_cases w1 : (1 : Int32) < wh
    · simp [S69_0, S69_1, S87_0, S136_0, S136_1, at_yesG hB' hM12 hj, is_yesG hM' hM12 hj, e1, e2, Call_in, BS, ixs, inbs, le_nlt, hB, hM, hI, a1, hq0, y0, y8, w0, w1]
    obtain ⟨e, he8, rfl⟩ : ∃ e, e ≤ 8 ∧ y = nI e := nI_of2 (M := 8) rfl y0 (by rw [← Int32.not_lt]; exact y8)
    have hc := hq.cm
    have hc' : CM C Z I (u2 R 8 0 q) q s (I q 2) _ _ _ _ := hc.keep (fun _ _ => rfl) (fun i hi => u2_ne _ _ _ (by omega))
    have hr' := (hq.rm hM' (by omega)).keep (R' := u2 R 8 0 q) (I' := I) (hM'.look 8 q (by omega)) (fun _ _ _ => rfl)
    have hK' : LayK C Z (u2 R 8 0 q) := by unfold LayK at *; simp [hK, u2_rd]
    have rr : u2 R 8 0 q 8 0 = q := by simp [u2_rd]
    obtain ⟨bA, bB, bK, bD⟩ := hq.bns
    have c73 : C 73 = 3 := by simp [hB]
    have c8 : C 8 = 4 := by unfold LayK at hK; simp [hK]
    have r74 : ∀ k, u2 R 8 0 q 74 k = R 74 k := fun k => by rw [u2_ne _ _ _ (by omega)]
    have r1 : ∀ k, u2 R 8 0 q 1 k = R 1 k := fun k => by rw [u2_ne _ _ _ (by omega)]
    have hM2 := hM'.look 8 q (by omega)
    have hwh : wh = 0 ∨ wh = 1 := by
      rcases in4 wh with h | h | h | h | h | h
      · exact absurd h w0
      · exact absurd (Int32.lt_trans (by decide) h) w1
      · exact Or.inl h
      · exact Or.inr h
      · exact absurd (by rw [h]; decide) w1
      · exact absurd (by rw [h]; decide) w1
    have md : I 78 j = I (q + 4) 0 := hq.2.2.2.2.2.2.2.2.2.2.2.1.1
    have a8 : I 77 j = I q 2 := hq.2.2.2.2.2.1.1.symm
    have r6 : R q 6 = q + 4 := hq.2.2.2.2.2.2.1.2.2.2
    have c4 : C (q + 4) = 21 ∧ Z (q + 4) = 1 := ⟨hq.2.2.2.2.2.2.2.1.2.2.2.1, hq.2.2.2.2.2.2.2.1.2.2.2.2.2.2.2⟩
    have kin : inG 7 (C q) = true := hc.1.1
    have j0 : inb (nI j) 12 = true := by rw [inb_nI (by omega)]; simp; omega
    have jx := ix_nI (show j < 2 ^ 31 by omega)
    have rq : ∀ k, u2 R 8 0 q q k = R q k := fun k => by rw [u2_ne _ _ _ (by omega)]
    have isy := fun (n sl : Nat) (I' : Nat → Nat → Int32) (L' : Nat → Nat → Int64) => is_yesG hM2 hM12 hj n sl I' L'
    have c74 : C 74 = 11 := by simp [hM]
    have low2 : ∀ (a b : Int), bn 9223372036854775807 a → bn 9223372036854775807 b → ¬ b = 0 → ∀ (L' : Nat → Nat → Int64) (k pc : Nat) (ls : Lo) (st : List Value) (Q : Option Value → Hp → Prop), Call 106 [some (.ref 74), some (.long (wL a)), none, some (.long (wL b)), none, none, none] (n, sl, C, Z, I, L', u2 R 8 0 q) k pc ls st Q ↔ Wp k pc ls st (n, sl, C, Z, I, u2 (u2 L' 74 28 (wL (fn a b))) 74 29 (wL (fd a b)), u2 R 8 0 q) Q := fun a b h1 h2 h3 L' k pc ls st Q => m_low h1 h2 h3 c74 k pc ls st Q
    have put2 : ∀ (a b : Int), bn 9223372036854775807 a → bn 1125899906842623 b → ¬ b = 0 → ∀ (L' : Nat → Nat → Int64) (k pc : Nat) (ls : Lo) (st : List Value) (Q : Option Value → Hp → Prop), Call 13 [some (.ref 73), some (.long (wL a)), none, some (.long (wL b)), none, none, none, none, none] (n, sl, C, Z, I, L', u2 R 8 0 q) k pc ls st Q ↔ Wp k pc ls st (n, sl, C, Z, I, u2 (u2 L' 73 0 (wL (fn a b))) 73 1 (wL (fd a b)), u2 R 8 0 q) Q := fun a b h1 h2 h3 L' k pc ls st Q => c_put h1 h2 h3 c73 k pc ls st Q
    simp [S69_0, S69_1, S87_0, at_yesG hB' hM12 hj, Call_in (k2 := 87), BS, ixs, inbs, le_nlt, hB, e1, a1, hq0, y0, y8, w0, w1, c8]
    refine c_at8 hc hK (fun L1 f1 lk => ?_)
    cases e with
    | zero =>
      have n0 : nI 0 = 0 := rfl
      have bd : bn 9223372036854775807 (I (q + 4) 0).toInt := bn_le bD (by omega)
      have p0 := put2 (I (q + 4) 0).toInt 1 bd (by unfold bn; decide) (by decide)
      have l0 := low2 (I (q + 4) 0).toInt 1 bd (by unfold bn; decide) (by decide)
      rw [wL_1] at p0 l0
      rcases hwh with rfl | rfl
      all_goals
        simp [S69_0, S69_1, S31_0, S31_1, S14_0, S136_0, S136_1, S107_0, Call_in (k2 := 31), Call_in (k2 := 14), Call_in (k2 := 107), BS, ixs, inbs, le_nlt, hB, hM, isy, e2, r74, c8, c73, r1, rr, rq, r6, c4, kin, n0, wL_i2l, p0, l0, md, j0, jx, u2_rd]
        exact Inv_mk (h7.scr (fun i hi => by rw [u2_ne _ _ _ (by omega), u2_ne _ _ _ (by omega), u2_ne _ _ _ (by omega), u2_ne _ _ _ (by omega), f1 i (by omega)]) (fun _ _ => rfl) ⟨rfl, rfl, rfl⟩ (fun i k h1 _ => by rw [u2_rd, if_neg h1]))
    | succ e =>
      have n1 : ¬ nI (e + 1) = 0 := nI_ne0 (by omega) (by omega)
      have bp : bn 9223372036854775807 (pl (fun i => (I (q + 1) i).toInt) (fun i => (I (q + 2) i).toInt) (fun i => (I (q + 3) i).toInt) e) := bn_le (bn_pl bA bB bK e) (by rcases i8 (show e < 8 by omega) with h | h | h | h | h | h | h | h <;> rw [h] <;> decide)
      have bu : bn 1125899906842623 ((I q 2).toInt ^ e) ∧ ¬ (I q 2).toInt ^ e = 0 := by
        rcases hq.un with h | h | h <;> rw [h] <;> rcases i8 (show e < 8 by omega) with h | h | h | h | h | h | h | h <;> rw [h] <;> unfold bn <;> decide
      have p0 := put2 _ _ bp bu.1 bu.2
      have l0 := low2 _ _ bp (bn_le bu.1 (by omega)) bu.2
      have pl0 := fun k pc ls st Q => c_pl8 (n := n) (sl := sl) hc' hK' rr lk (show e < 8 by omega) k pc ls st Q
      have cp := fun h k pc ls st Q => c_pow (I q 2) (show e < 1000 by omega) h k pc ls st Q
      have mp := fun h k pc ls st Q => m_pow (I q 2) (show e < 1000 by omega) h k pc ls st Q
      have i2 : I q 2 = I q 2 := rfl
      rcases hwh with rfl | rfl
      all_goals
        simp [S69_0, S69_1, S31_0, S31_1, S14_0, Call_in (k2 := 31), Call_in (k2 := 14), BS, ixs, inbs, le_nlt, hB, c8, c73, r1, rr, rq, kin, n1, nI_pred, pl0, cp, p0, u2_rd]
        simp [S136_0, S136_1, S107_0, BS, ixs, inbs, le_nlt, hM, isy, e2, r74, n1, nI_pred, y0, y8]
        refine m_beat hr' (show e < 1000 by omega) (fun L2 f2 => ?_)
        simp [S136_0, S136_1, S107_0, Call_in (k2 := 107), BS, ixs, inbs, le_nlt, hM, r74, a8, nI_pred, wL_i2l, mp, l0, j0, jx, u2_rd]
        exact Inv_mk (h7.scr (fun i hi => by rw [u2_ne _ _ _ (by omega), u2_ne _ _ _ (by omega), f2 i (by omega) (by omega), u2_ne _ _ _ (by omega), u2_ne _ _ _ (by omega), f1 i (by omega)]) (fun _ _ => rfl) ⟨rfl, rfl, rfl⟩ (fun i k h1 _ => by rw [u2_rd, if_neg h1]))

