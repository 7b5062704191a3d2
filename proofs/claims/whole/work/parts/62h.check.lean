set_option maxRecDepth 100000 in
set_option maxHeartbeats 8000000 in
/-- check(machine) -/
theorem two_check (h : Hp) (hI : Inv h) (x : Int32) : Two 78 149 [some (.ref 1), some (.int x), none, none, none, none] [some (.ref 74), some (.int x), none, none, none, none, none, none, none, none] h := by
  obtain ⟨n, sl, C, Z, I, L, R⟩ := h
  obtain ⟨M, rn, t, h7⟩ := id hI
  obtain ⟨hM12, hn98, ⟨hB, hK, hO, hE, hM⟩, ⟨e1, e2⟩, hms, hss, hap, ⟨hrn, e3, e4, hrw⟩, ht, e5, e6, htr⟩ := id h7
  dsimp only at hM12 hn98 hB hK hO hE hM e1 e2 hms hss hap hrn e3 e4 hrw ht e5 e6 htr h7
  have hB' := hB
  have hM' := hM
  unfold LayB at hB
  unfold LayM at hM
  have no : ∀ x : Int32, (x < 0 ∨ nI M ≤ x) → Two 78 149 [some (.ref 1), some (.int x), none, none, none, none] [some (.ref 74), some (.int x), none, none, none, none, none, none, none, none] (n, sl, C, Z, I, L, R) := by
    intro x hm
    unfold Two
    simp [S78_0, S78_1, S78_2, S149_0, S149_1, S149_2, S149_3, S149_4, at_noG hB' hM12 hm, is_noG hM' hm, BS, ixs, inbs, le_nlt, hB, hM, hI, e1, e2]
  rcases pk_ix x (n := M) (by omega) with hx | hx | ⟨j, hj, rfl⟩
  · exact no x (Or.inl hx)
  · exact no x (Or.inr hx)
  · obtain ⟨q, s, hq⟩ := hms j hj
    have hs3 := hq.2.2.2.2.1.2.1
    have a4 := hq.2.2.2.1
    have kk : (isa (C q) 1 = true ∧ I 75 j = 1) ∨ (isa (C q) 1 = false ∧ ¬ I 75 j = 1) := by
      rcases nflow a4 with ⟨b1, b2⟩ | ⟨-, b2, b3⟩
      · exact Or.inl ⟨by rw [b1]; decide, b2⟩
      · exact Or.inr ⟨b2, b3⟩
    rcases (by omega : s = 0 ∨ s = 1 ∨ s = 2 ∨ s = 3) with rfl | rfl | rfl | rfl <;> rcases kk with ⟨b1, b2⟩ | ⟨b1, b2⟩
    · exact ck_yes_0f h7 hj hq b1 b2 (by rw [eD_0]; decide)
    · exact ck_yes_0t h7 hj hq b1 b2 (by rw [eD_0]; decide)
    · by_cases d0 : (eD true 1 (I q 2).toInt (fun i => (I (q + 1) i).toInt)) = 0
      · exact ck_no_1f h7 hj hq b1 b2 d0
      · exact ck_yes_1f h7 hj hq b1 b2 d0
    · by_cases d0 : (eD false 1 (I q 2).toInt (fun i => (I (q + 1) i).toInt)) = 0
      · exact ck_no_1t h7 hj hq b1 b2 d0
      · exact ck_yes_1t h7 hj hq b1 b2 d0
    · by_cases d0 : (eD true 2 (I q 2).toInt (fun i => (I (q + 1) i).toInt)) = 0
      · exact ck_no_2f h7 hj hq b1 b2 d0
      · exact ck_yes_2f h7 hj hq b1 b2 d0
    · by_cases d0 : (eD false 2 (I q 2).toInt (fun i => (I (q + 1) i).toInt)) = 0
      · exact ck_no_2t h7 hj hq b1 b2 d0
      · exact ck_yes_2t h7 hj hq b1 b2 d0
    · exact ck_no_3f h7 hj hq b1 b2
    · exact ck_no_3t h7 hj hq b1 b2
