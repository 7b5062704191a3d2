set_option maxRecDepth 100000 in
set_option maxHeartbeats 8000000 in
/-- gain(machine, p0, p1, p2, i, what) -/
theorem two_gain (h : Hp) (hI : Inv h) (x p0 p1 p2 y wh : Int32) : Two 72 140 [some (.ref 1), some (.int x), some (.int p0), some (.int p1), some (.int p2), some (.int y), some (.int wh), none] [some (.ref 74), some (.int x), some (.int p0), some (.int p1), some (.int p2), some (.int y), some (.int wh), none, none, none, none] h := by
  obtain ⟨n, sl, C, Z, I, L, R⟩ := h
  obtain ⟨M, rn, t, h7⟩ := id hI
  obtain ⟨hM12, hn98, ⟨hB, hK, hO, hE, hM⟩, ⟨e1, e2⟩, hms, hss, hap, ⟨hrn, e3, e4, hrw⟩, ht, e5, e6, htr⟩ := id h7
  dsimp only at hM12 hn98 hB hK hO hE hM e1 e2 hms hss hap hrn e3 e4 hrw ht e5 e6 htr h7
  have hB' := hB
  have hM' := hM
  unfold LayB at hB
  unfold LayM at hM
  have no : ∀ x : Int32, (x < 0 ∨ nI M ≤ x) → Two 72 140 [some (.ref 1), some (.int x), some (.int p0), some (.int p1), some (.int p2), some (.int y), some (.int wh), none] [some (.ref 74), some (.int x), some (.int p0), some (.int p1), some (.int p2), some (.int y), some (.int wh), none, none, none, none] (n, sl, C, Z, I, L, R) := by
    intro x hm
    unfold Two
    simp [S72_0, S72_1, S72_2, S140_0, S140_1, S140_2, S140_3, S140_4, S140_5, S140_6, S140_7, S140_8, at_noG hB' hM12 hm, is_noG hM' hm, BS, ixs, inbs, le_nlt, hB, hM, hI, e1, e2]
  rcases pk_ix x (n := M) (by omega) with hx | hx | ⟨j, hj, rfl⟩
  · exact no x (Or.inl hx)
  · exact no x (Or.inr hx)
  · obtain ⟨q, s, hq⟩ := hms j hj
    have hs3 := hq.2.2.2.2.1.2.1
    have a1 := hq.1
    have a2 := hq.2.1
    have hq0 : ¬ q = 0 := by omega
    have kin : inG 7 (C q) = true := hq.cm.1.1
    have a6 : I q 1 = nI s := hq.cm.1.2.2.2.2.1
    have k76 : I 76 j = nI s := hq.2.2.2.2.1.2.2.2
    have j0 : inb (nI j) 12 = true := by rw [inb_nI (by omega)]; simp; omega
    have jx := ix_nI (show j < 2 ^ 31 by omega)
    by_cases y0 : y < 0
    · unfold Two
      simp [S72_0, S72_1, S72_2, S140_0, S140_1, S140_2, S140_3, S140_4, S140_5, S140_6, S140_7, S140_8, S87_0, at_yesG hB' hM12 hj, is_yesG hM' hM12 hj, Call_in (k2 := 87), BS, ixs, inbs, le_nlt, hB, hM, hI, e1, e2, a1, hq0, kin, a6, k76, j0, jx, y0]
    by_cases y1 : nI s ≤ y
    · have y2 : nI s - 1 < y := by rw [← Int32.not_le]; intro h; exact absurd y1 (by rw [Int32.not_le]; exact (le_predk (by omega)).mp h)
      have y3 : ¬ y < nI s := by rw [Int32.not_lt]; exact y1
      unfold Two
      simp [S72_0, S72_1, S72_2, S140_0, S140_1, S140_2, S140_3, S140_4, S140_5, S140_6, S140_7, S140_8, S87_0, at_yesG hB' hM12 hj, is_yesG hM' hM12 hj, Call_in (k2 := 87), BS, ixs, inbs, le_nlt, hB, hM, hI, e1, e2, a1, hq0, kin, a6, k76, j0, jx, y0, y2, y3]
    obtain ⟨i, hi, rfl⟩ : ∃ i, i < s ∧ y = nI i := by
      rcases pk_ix y (n := s) (by omega) with h | h | h
      · exact absurd h y0
      · exact absurd h y1
      · exact h
    have i2 : ¬ nI s - 1 < nI i := by rw [Int32.not_lt]; exact (le_predk (by omega)).mpr (nI_lt hi (by omega))
    have i3 : nI i < nI s := nI_lt hi (by omega)
    by_cases w0 : wh < 0
    · unfold Two
      simp [S72_0, S72_1, S72_2, S140_0, S140_1, S140_2, S140_3, S140_4, S140_5, S140_6, S140_7, S140_8, S87_0, at_yesG hB' hM12 hj, is_yesG hM' hM12 hj, Call_in (k2 := 87), BS, ixs, inbs, le_nlt, hB, hM, hI, e1, e2, a1, hq0, kin, a6, k76, j0, jx, y0, i2, i3, w0]
    by_cases w1 : (1 : Int32) < wh
    · unfold Two
      simp [S72_0, S72_1, S72_2, S140_0, S140_1, S140_2, S140_3, S140_4, S140_5, S140_6, S140_7, S140_8, S87_0, at_yesG hB' hM12 hj, is_yesG hM' hM12 hj, Call_in (k2 := 87), BS, ixs, inbs, le_nlt, hB, hM, hI, e1, e2, a1, hq0, kin, a6, k76, j0, jx, y0, i2, i3, w0, w1]
    have hwh : wh = 0 ∨ wh = 1 := by
      rcases in4 wh with h | h | h | h | h | h
      · exact absurd h w0
      · exact absurd (Int32.lt_trans (by decide) h) w1
      · exact Or.inl h
      · exact Or.inr h
      · exact absurd (by rw [h]; decide) w1
      · exact absurd (by rw [h]; decide) w1
    have pq : ∀ p : Int32, (p < -100 ∨ 100 < p) ∨ (¬ p < -100 ∧ ¬ 100 < p) := fun p => by
      by_cases a : p < -100
      · exact Or.inl (Or.inl a)
      · by_cases b : 100 < p
        · exact Or.inl (Or.inr b)
        · exact Or.inr ⟨a, b⟩
    rcases (by omega : s = 1 ∨ s = 2 ∨ s = 3) with rfl | rfl | rfl
    · rcases pq p0 with h0 | h0
      · exact gain_p_10 h7 hj hq p0 p1 p2  h0 hi wh hwh
      by_cases hrk : IsRk (pw (fun i => (I (q + 1) i).toInt) (fun i => (I (q + 2) i).toInt)) 3 1
      · rcases hwh with rfl | rfl <;> rcases (by omega : i = 0) with rfl
        · exact gain_yes_10_0 h7 hj hq p0 p1 p2 h0 hrk
        · exact gain_yes_10_1 h7 hj hq p0 p1 p2 h0 hrk
      · exact gain_rk_1 h7 hj hq p0 p1 p2 h0 hi wh hwh hrk
    · rcases pq p0 with h0 | h0
      · exact gain_p_20 h7 hj hq p0 p1 p2  h0 hi wh hwh
      rcases pq p1 with h1 | h1
      · exact gain_p_21 h7 hj hq p0 p1 p2 h0 h1 hi wh hwh
      by_cases hrk : IsRk (pw (fun i => (I (q + 1) i).toInt) (fun i => (I (q + 2) i).toInt)) 3 2
      · rcases hwh with rfl | rfl <;> rcases (by omega : i = 0 ∨ i = 1) with rfl | rfl
        · exact gain_yes_20_0 h7 hj hq p0 p1 p2 h0 h1 hrk
        · exact gain_yes_21_0 h7 hj hq p0 p1 p2 h0 h1 hrk
        · exact gain_yes_20_1 h7 hj hq p0 p1 p2 h0 h1 hrk
        · exact gain_yes_21_1 h7 hj hq p0 p1 p2 h0 h1 hrk
      · exact gain_rk_2 h7 hj hq p0 p1 p2 h0 h1 hi wh hwh hrk
    · rcases pq p0 with h0 | h0
      · exact gain_p_30 h7 hj hq p0 p1 p2  h0 hi wh hwh
      rcases pq p1 with h1 | h1
      · exact gain_p_31 h7 hj hq p0 p1 p2 h0 h1 hi wh hwh
      rcases pq p2 with h2 | h2
      · exact gain_p_32 h7 hj hq p0 p1 p2 h0 h1 h2 hi wh hwh
      by_cases hrk : IsRk (pw (fun i => (I (q + 1) i).toInt) (fun i => (I (q + 2) i).toInt)) 3 3
      · rcases hwh with rfl | rfl <;> rcases (by omega : i = 0 ∨ i = 1 ∨ i = 2) with rfl | rfl | rfl
        · exact gain_yes_30_0 h7 hj hq p0 p1 p2 h0 h1 h2 hrk
        · exact gain_yes_31_0 h7 hj hq p0 p1 p2 h0 h1 h2 hrk
        · exact gain_yes_32_0 h7 hj hq p0 p1 p2 h0 h1 h2 hrk
        · exact gain_yes_30_1 h7 hj hq p0 p1 p2 h0 h1 h2 hrk
        · exact gain_yes_31_1 h7 hj hq p0 p1 p2 h0 h1 h2 hrk
        · exact gain_yes_32_1 h7 hj hq p0 p1 p2 h0 h1 h2 hrk
      · exact gain_rk_3 h7 hj hq p0 p1 p2 h0 h1 h2 hi wh hwh hrk
