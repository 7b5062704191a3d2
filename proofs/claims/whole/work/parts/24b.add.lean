/-- a new machine, in the five cells behind the last -/
theorem Inv7.add {n : Nat} {C C' Z Z' : Nat → Nat} {I I' : Nat → Nat → Int32} {L L' : Nat → Nat → Int64} {R R' : Nat → Nat → Nat} {M rn t s : Nat} (h : Inv7 n C Z I L R M rn t) (hM : M < 12)
    (hC : ∀ i, i ≤ n → C' i = C i) (hZ : ∀ i, i ≤ n → Z' i = Z i) (hL : ∀ i, (99 ≤ i ∧ i ≤ n) ∨ i = 3 ∨ i = 85 ∨ i = 89 → L' i = L i)
    (hI : ∀ i, (99 ≤ i ∧ i ≤ n) ∨ i = 5 ∨ i = 6 ∨ i = 87 ∨ i = 88 ∨ i = 91 → I' i = I i) (hI1 : I' 1 1 = nI (M + 1) ∧ I' 74 0 = nI (M + 1) ∧ I' 1 4 = I 1 4 ∧ I' 74 13 = I 74 13 ∧ I' 74 20 = I 74 20)
    (hIm : ∀ j, j < M → (I' 75 j = I 75 j ∧ I' 76 j = I 76 j ∧ I' 77 j = I 77 j ∧ I' 78 j = I 78 j) ∧ (∀ i, i < 9 → I' 79 (9 * j + i) = I 79 (9 * j + i)) ∧ ∀ i, i < 3 → I' 80 (3 * j + i) = I 80 (3 * j + i) ∧ I' 81 (3 * j + i) = I 81 (3 * j + i))
    (hR2 : ∀ j, j < M → R' 2 j = R 2 j) (hR : ∀ i, (99 ≤ i ∧ i ≤ n) ∨ i = 7 → R' i = R i) (hRl : ∀ i k, i ≤ 98 → i ≠ 2 → i ≠ 7 → ¬ (i = 8 ∧ k = 0) → ¬ (i = 37 ∧ k = 0) → R' i k = R i k)
    (hnew : MOK (n + 5) C' Z' I' R' M (n + 1) s) : Inv7 (n + 5) C' Z' I' L' R' (M + 1) rn t := by
  obtain ⟨a1, a2, a3, a4, a5, a6, a7, a8⟩ := h
  obtain ⟨p1, p2, p3, p4, p5⟩ := hI1
  have r7 := hR 7 (by omega)
  have lay1 : Lay C' Z' R := by
    unfold Lay LayB LayK LayO LayE LayM at *
    have hc : ∀ i, i ≤ 98 → C' i = C i := fun i hi => hC i (by omega)
    have hz : ∀ i, i ≤ 98 → Z' i = Z i := fun i hi => hZ i (by omega)
    simp [a3, hc, hz]
  refine ⟨by omega, by omega, lay1.keep hRl, ⟨p1, p2⟩, fun j hj => ?_, fun s' hs' => ?_, ?_, ?_⟩
  · by_cases e : j = M
    · subst e
      exact ⟨_, _, hnew⟩
    · obtain ⟨q, s1, hm⟩ := a5 j (by omega)
      exact ⟨q, s1, hm.keep (by omega) (fun i _ h2 => hC i h2) (fun i _ h2 => hZ i h2) (fun i h1 h2 => hI i (by omega)) (hIm j (by omega)) (hR2 j (by omega)) (fun i h1 h2 => hR i (by omega))⟩
  · exact (a6 s' hs').keep (by omega) (fun i _ h2 => hC i h2) (fun i _ h2 => hZ i h2) (fun i h1 h2 => hI i (by omega)) (fun i h1 h2 => hL i (by omega)) ⟨by rw [hI 87 (by omega)], by rw [hI 88 (by omega)], fun i _ => by rw [hL 89 (by omega)]⟩ (by rw [r7]) (fun i h1 h2 => hR i (by omega))
  · obtain ⟨g1, g2, g3⟩ := a7
    have lt : ∀ j, j < M → R 2 j + 4 ≤ n := fun j hj => by
      obtain ⟨q, s1, hm⟩ := a5 j hj
      have := hm.1
      have := hm.2.2.1
      omega
    have ls : ∀ s', s' < 4 → R 7 s' + 1 ≤ n := fun s' hs' => by
      rcases a6 s' hs' with ⟨b, -⟩ | ⟨q2, z, b1, b2, b3, -⟩
      · omega
      · omega
    have hMq := hnew.1
    refine ⟨fun i j hi hj hne => ?_, fun s' j hs' hj hz => ?_, ?_⟩
    · by_cases ei : i = M
      · subst ei
        have hj' : j < i := by omega
        rw [hMq, hR2 j hj']
        have := lt j hj'
        omega
      · by_cases ej : j = M
        · subst ej
          have hi' : i < j := by omega
          rw [hMq, hR2 i hi']
          have := lt i hi'
          omega
        · rw [hR2 i (by omega), hR2 j (by omega)]
          exact g1 i j (by omega) (by omega) hne
    · rw [r7] at hz ⊢
      by_cases ej : j = M
      · subst ej
        rw [hMq]
        have := ls s' hs'
        omega
      · rw [hR2 j (by omega)]
        exact g2 s' j hs' (by omega) hz
    · rw [r7]
      exact g3
  · unfold TOK at *
    rw [p3, p4, p5, hI 5 (by omega), hI 6 (by omega), hI 91 (by omega), hL 3 (by omega), hL 85 (by omega)]
    exact a8
