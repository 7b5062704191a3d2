theorem MOK.keep2 {n n' : Nat} {C C' Z Z' : Nat → Nat} {I I' : Nat → Nat → Int32} {R R' : Nat → Nat → Nat} {j q s : Nat} (h : MOK n C Z I R j q s) (hn : n ≤ n') (hC : ∀ i, q ≤ i → i ≤ q + 4 → C' i = C i) (hZ : ∀ i, q ≤ i → i ≤ q + 4 → Z' i = Z i) (hI : ∀ i, q ≤ i → i ≤ q + 4 → I' i = I i) (hm : (I' 75 j = I 75 j ∧ I' 76 j = I 76 j ∧ I' 77 j = I 77 j ∧ I' 78 j = I 78 j) ∧ (∀ i, i < 9 → I' 79 (9 * j + i) = I 79 (9 * j + i)) ∧ ∀ i, i < 3 → I' 80 (3 * j + i) = I 80 (3 * j + i) ∧ I' 81 (3 * j + i) = I 81 (3 * j + i)) (hR2 : R' 2 j = R 2 j) (hR : ∀ i, q ≤ i → i ≤ q + 4 → R' i = R i) : MOK n' C' Z' I' R' j q s := by
  obtain ⟨a1, a2, a3, a4, a5, a6, a7, a8, a9, a10, a11, a12, a13, a14⟩ := h
  obtain ⟨⟨m1, m2, m3, m4⟩, m5, m6⟩ := hm
  have c0 := hC q (by omega) (by omega)
  have i0 := hI q (by omega) (by omega)
  have r0 := hR q (by omega) (by omega)
  have i1 := hI (q + 1) (by omega) (by omega)
  have i2 := hI (q + 2) (by omega) (by omega)
  have i3 := hI (q + 3) (by omega) (by omega)
  have i4 := hI (q + 4) (by omega) (by omega)
  refine ⟨hR2.trans a1, a2, by omega, by rw [c0, m1, i1, i2, i3]; exact a4, by rw [i0, m2]; exact a5, by rw [i0, m3]; exact a6, by rw [r0]; exact a7, ?_, fun i hi => ?_, fun i hi => ?_, fun i hi => ?_, by rw [m4, i4, m1]; exact a12, by rw [i1]; exact a13, by rw [i2, i3]; exact a14⟩
  · rw [hC (q + 1) (by omega) (by omega), hC (q + 2) (by omega) (by omega), hC (q + 3) (by omega) (by omega), hC (q + 4) (by omega) (by omega), hZ (q + 1) (by omega) (by omega), hZ (q + 2) (by omega) (by omega), hZ (q + 3) (by omega) (by omega), hZ (q + 4) (by omega) (by omega)]
    exact a8
  · rw [m5 i hi, i1, m1]; exact a9 i hi
  · rw [(m6 i hi).1, i2, m1]; exact a10 i hi
  · rw [(m6 i hi).2, i3, m1]; exact a11 i hi
theorem SOK.keep2 {n n' : Nat} {C C' Z Z' : Nat → Nat} {I I' : Nat → Nat → Int32} {L L' : Nat → Nat → Int64} {R R' : Nat → Nat → Nat} {s : Nat} (h : SOK n C Z I L R s) (hn : n ≤ n') (hC : ∀ i, R 7 s ≤ i → i ≤ R 7 s + 1 → R 7 s ≠ 0 → C' i = C i) (hZ : ∀ i, R 7 s ≤ i → i ≤ R 7 s + 1 → R 7 s ≠ 0 → Z' i = Z i) (hI : ∀ i, R 7 s ≤ i → i ≤ R 7 s + 1 → R 7 s ≠ 0 → I' i = I i) (hL : ∀ i, R 7 s ≤ i → i ≤ R 7 s + 1 → R 7 s ≠ 0 → L' i = L i) (hm : I' 87 s = I 87 s ∧ I' 88 s = I 88 s ∧ ∀ i, i < 40 → L' 89 (40 * s + i) = L 89 (40 * s + i)) (hR7 : R' 7 s = R 7 s) (hR : ∀ i, R 7 s ≤ i → i ≤ R 7 s + 1 → R 7 s ≠ 0 → R' i = R i) : SOK n' C' Z' I' L' R' s := by
  obtain ⟨m1, m2, m3⟩ := hm
  rcases h with ⟨a, b⟩ | ⟨q, z, a1, a2, a3, a4, a5, a6, a7, a8, a9, a10, a11, a12⟩
  · exact Or.inl ⟨hR7.trans a, m1.trans b⟩
  · refine Or.inr ⟨q, z, hR7.trans a1, a2, by omega, (hC q (by omega) (by omega) (by omega)).trans a4, by rw [hR q (by omega) (by omega) (by omega)]; exact a5, (hC (q + 1) (by omega) (by omega) (by omega)).trans a6, (hZ (q + 1) (by omega) (by omega) (by omega)).trans a7, a8, by rw [hI q (by omega) (by omega) (by omega), m1]; exact a9, by rw [m1]; exact a10, by rw [m2]; exact a11, fun i hi => ?_⟩
    rw [hL (q + 1) (by omega) (by omega) (by omega), m3 i (by omega)]
    exact a12 i hi
/-- one machine's numbers change -/
theorem Inv7.upd {n : Nat} {C Z : Nat → Nat} {I I' : Nat → Nat → Int32} {L : Nat → Nat → Int64} {R : Nat → Nat → Nat} {M rn t j q s : Nat} (h : Inv7 n C Z I L R M rn t) (hj : j < M) (hq : MOK n C Z I R j q s)
    (hI : ∀ i, i ≠ q + 1 → i ≠ q + 2 → i ≠ q + 3 → i ≠ q + 4 → i ≠ 78 → i ≠ 79 → i ≠ 80 → i ≠ 81 → I' i = I i) (h78 : ∀ j', j' ≠ j → I' 78 j' = I 78 j') (h79 : ∀ j' i, j' ≠ j → i < 9 → I' 79 (9 * j' + i) = I 79 (9 * j' + i)) (h80 : ∀ j' i, j' ≠ j → i < 3 → I' 80 (3 * j' + i) = I 80 (3 * j' + i)) (h81 : ∀ j' i, j' ≠ j → i < 3 → I' 81 (3 * j' + i) = I 81 (3 * j' + i))
    (hnew : MOK n C Z I' R j q s) : Inv7 n C Z I' L R M rn t := by
  obtain ⟨a1, a2, a3, a4, a5, a6, a7, a8⟩ := h
  have hq1 := hq.1
  have hq2 := hq.2.1
  refine ⟨a1, a2, a3, ?_, fun j' hj' => ?_, fun s' hs' => ?_, a7, ?_⟩
  · rw [hI 1 (by omega) (by omega) (by omega) (by omega) (by omega) (by omega) (by omega) (by omega), hI 74 (by omega) (by omega) (by omega) (by omega) (by omega) (by omega) (by omega) (by omega)]
    exact a4
  · by_cases e : j' = j
    · subst e
      exact ⟨q, s, hnew⟩
    · obtain ⟨q', s1, hm⟩ := a5 j' hj'
      have hd := a7.1 j' j hj' hj e
      rw [hm.1, hq1] at hd
      have hq' := hm.2.1
      exact ⟨q', s1, hm.keep2 (Nat.le_refl _) (fun _ _ _ => rfl) (fun _ _ _ => rfl) (fun i hi1 hi2 => hI i (by omega) (by omega) (by omega) (by omega) (by omega) (by omega) (by omega) (by omega)) ⟨⟨by rw [hI 75 (by omega) (by omega) (by omega) (by omega) (by omega) (by omega) (by omega) (by omega)], by rw [hI 76 (by omega) (by omega) (by omega) (by omega) (by omega) (by omega) (by omega) (by omega)], by rw [hI 77 (by omega) (by omega) (by omega) (by omega) (by omega) (by omega) (by omega) (by omega)], h78 j' e⟩, fun i hi => h79 j' i e hi, fun i hi => ⟨h80 j' i e hi, h81 j' i e hi⟩⟩ rfl (fun _ _ _ => rfl)⟩
  · refine (a6 s' hs').keep2 (Nat.le_refl _) (fun _ _ _ _ => rfl) (fun _ _ _ _ => rfl) (fun i hi1 hi2 hi3 => ?_) (fun _ _ _ _ => rfl) ⟨by rw [hI 87 (by omega) (by omega) (by omega) (by omega) (by omega) (by omega) (by omega) (by omega)], by rw [hI 88 (by omega) (by omega) (by omega) (by omega) (by omega) (by omega) (by omega) (by omega)], fun _ _ => rfl⟩ rfl (fun _ _ _ _ => rfl)
    have hd := a7.2.1 s' j hs' hj hi3
    rw [hq1] at hd
    have h99 : 99 ≤ R 7 s' := by
      rcases a6 s' hs' with ⟨b, -⟩ | ⟨q2, z, b1, b2, -⟩
      · exact absurd b hi3
      · omega
    exact hI i (by omega) (by omega) (by omega) (by omega) (by omega) (by omega) (by omega) (by omega)
  · unfold TOK at *
    rw [hI 1 (by omega) (by omega) (by omega) (by omega) (by omega) (by omega) (by omega) (by omega), hI 5 (by omega) (by omega) (by omega) (by omega) (by omega) (by omega) (by omega) (by omega), hI 6 (by omega) (by omega) (by omega) (by omega) (by omega) (by omega) (by omega) (by omega), hI 74 (by omega) (by omega) (by omega) (by omega) (by omega) (by omega) (by omega) (by omega), hI 91 (by omega) (by omega) (by omega) (by omega) (by omega) (by omega) (by omega) (by omega)]
    exact a8
