/-- count(what) -/
theorem two_count (h : Hp) (hI : Inv h) (w : Int32) : Two 81 160 [some (.ref 1), some (.int w)] [some (.ref 74), some (.int w)] h := by
  obtain ⟨n, sl, C, Z, I, L, R⟩ := h
  obtain ⟨M, rn, t, h7⟩ := id hI
  obtain ⟨-, -, ⟨hB, -, -, -, hM⟩, ⟨e1, e2⟩, -, -, -, ⟨-, e3, e4, -⟩, -, e5, e6, -⟩ := h7
  dsimp only at hB hM e1 e2 e3 e4 e5 e6
  unfold LayB at hB
  unfold LayM at hM
  unfold Two
  by_cases w0 : w = 0
  · subst w0
    simp [S81_0, S160_0, Call_in, BS, ixs, inbs, hB, hM, e1, e2, hI]
  by_cases w1 : w = 1
  · subst w1
    simp [S81_0, S160_0, Call_in, BS, ixs, inbs, hB, hM, e3, e4, hI]
  by_cases w2 : w = 2
  · subst w2
    simp [S81_0, S160_0, Call_in, BS, ixs, inbs, hB, hM, e5, e6, hI]
  simp [S81_0, S160_0, Call_in, BS, ixs, inbs, hB, hM, hI, w0, w1, w2]
