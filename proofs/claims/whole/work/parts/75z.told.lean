set_option maxRecDepth 100000 in
set_option maxHeartbeats 8000000 in
/-- machineTold(machine, what) -/
theorem two_told (h : Hp) (hI : Inv h) (x wh : Int32) : Two 66 133 [some (.ref 1), some (.int x), some (.int wh), none] [some (.ref 74), some (.int x), some (.int wh)] h := by
  obtain ⟨n, sl, C, Z, I, L, R⟩ := h
  obtain ⟨M, rn, t, h7⟩ := id hI
  obtain ⟨hM12, hn98, ⟨hB, hK, hO, hE, hM⟩, ⟨e1, e2⟩, hms, hss, hap, ⟨hrn, e3, e4, hrw⟩, ht, e5, e6, htr⟩ := id h7
  dsimp only at hM12 hn98 hB hK hO hE hM e1 e2 hms hss hap hrn e3 e4 hrw ht e5 e6 htr h7
  have hB' := hB
  have hM' := hM
  unfold LayB at hB
  unfold LayM at hM
  have no : ∀ x : Int32, (x < 0 ∨ nI M ≤ x) → Two 66 133 [some (.ref 1), some (.int x), some (.int wh), none] [some (.ref 74), some (.int x), some (.int wh)] (n, sl, C, Z, I, L, R) := by
    intro x hm
    unfold Two
    simp [S66_0, S66_1, S66_2, S133_0, S133_1, S133_2, at_noG hB' hM12 hm, is_noG hM' hm, BS, ixs, inbs, hB, hM, hI, e1, e2]
  rcases pk_ix x (n := M) (by omega) with hx | hx | ⟨j, hj, rfl⟩
  · exact no x (Or.inl hx)
  · exact no x (Or.inr hx)
  · obtain ⟨q, s, hq⟩ := hms j hj
    have hs3 := hq.2.2.2.2.1.2.1
    have a4 := hq.2.2.2.1
    have kk : (isa (C q) 1 = true ∧ I 75 j = 1) ∨ (isa (C q) 1 = false ∧ ¬ I 75 j = 1) := by
      rcases nflow a4 with ⟨b1, b2⟩ | ⟨-, b2, b3⟩
      · exact Or.inl ⟨by rw [b1]; decide, b2⟩
      · exact Or.inr ⟨b2, b3⟩
    rcases (by omega : s = 0 ∨ s = 1 ∨ s = 2 ∨ s = 3) with rfl | rfl | rfl | rfl <;> rcases kk with ⟨b1, b2⟩ | ⟨b1, b2⟩
    · exact told_0f h7 hj hq b1 b2 wh
    · exact told_0t h7 hj hq b1 b2 wh
    · exact told_1f h7 hj hq b1 b2 wh
    · exact told_1t h7 hj hq b1 b2 wh
    · exact told_2f h7 hj hq b1 b2 wh
    · exact told_2t h7 hj hq b1 b2 wh
    · exact told_3f h7 hj hq b1 b2 wh
    · exact told_3t h7 hj hq b1 b2 wh
