theorem nI_subk {M : Nat} (h : M < 100000) : (nI M - 1).toInt = (M : Int) - 1 := by
  have := pk_sub_toInt (a := M) (b := 1) (by omega) (by omega)
  simpa [nI] using this
theorem le_predk {x : Int32} {M : Nat} (h : M < 100000) : x ≤ nI M - 1 ↔ x < nI M := by
  rw [Int32.le_iff_toInt_le, Int32.lt_iff_toInt_lt, nI_subk h, nI_toInt (by omega)]
  omega
theorem lg_lt (x y : Int64) : (lg_cmp x y < 0) = (x < y) := by
  unfold lg_cmp
  rcases Int64.lt_or_le y x with h | h
  · rw [if_pos h]
    simp only [eq_iff_iff]
    exact ⟨fun q => absurd q (by decide), fun q => absurd q (by rw [Int64.lt_iff_toInt_lt] at *; omega)⟩
  · have h1 : ¬ x > y := by rw [gt_iff_lt, Int64.not_lt]; exact h
    rw [if_neg h1]
    by_cases e : x = y
    · subst e
      simp
    · rw [if_neg e]
      simp only [eq_iff_iff]
      refine ⟨fun _ => ?_, fun _ => by decide⟩
      rw [Int64.le_iff_toInt_le] at h
      rw [Int64.lt_iff_toInt_lt]
      have : x.toInt ≠ y.toInt := fun q => e (Int64.toInt_inj.mp q)
      omega
theorem lg_gt (x y : Int64) : (0 < lg_cmp x y) = (y < x) := by
  unfold lg_cmp
  rcases Int64.lt_or_le y x with h | h
  · rw [if_pos h]
    simp [h]
  · have h1 : ¬ x > y := by rw [gt_iff_lt, Int64.not_lt]; exact h
    have h2 : ¬ y < x := h1
    rw [if_neg h1]
    by_cases e : x = y
    · rw [if_pos e]
      simp [h2]
    · rw [if_neg e]
      simp [h2]
theorem lg_ge (x y : Int64) : (0 ≤ lg_cmp x y) = (¬ x < y) := by
  rw [← lg_lt, Int32.not_lt]
theorem lg_le (x y : Int64) : (lg_cmp x y ≤ 0) = (¬ y < x) := by
  rw [← lg_gt, Int32.not_lt]
theorem lg_eq (x y : Int64) : (lg_cmp x y = 0) = (x = y) := by
  unfold lg_cmp
  by_cases h : x > y
  · rw [if_pos h]
    have : x ≠ y := fun e => by rw [e] at h; rw [gt_iff_lt, Int64.lt_iff_toInt_lt] at h; omega
    simp [this]
  · rw [if_neg h]
    by_cases e : x = y <;> simp [e]
/-- what may be written without touching the invariant -/
theorem Lay.keep {C Z : Nat → Nat} {R R' : Nat → Nat → Nat} (h : Lay C Z R) (hR : ∀ i k, i ≤ 98 → i ≠ 2 → i ≠ 7 → ¬ (i = 8 ∧ k = 0) → ¬ (i = 37 ∧ k = 0) → R' i k = R i k) : Lay C Z R' := by
  unfold Lay LayB LayK LayO LayE LayM at *
  simp [h, hR]
theorem MOK.keep {n n' : Nat} {C C' Z Z' : Nat → Nat} {I I' : Nat → Nat → Int32} {R R' : Nat → Nat → Nat} {j q s : Nat} (h : MOK n C Z I R j q s) (hn : n ≤ n') (hC : ∀ i, 99 ≤ i → i ≤ n → C' i = C i) (hZ : ∀ i, 99 ≤ i → i ≤ n → Z' i = Z i) (hI : ∀ i, 99 ≤ i → i ≤ n → I' i = I i) (hm : (I' 75 j = I 75 j ∧ I' 76 j = I 76 j ∧ I' 77 j = I 77 j ∧ I' 78 j = I 78 j) ∧ (∀ i, i < 9 → I' 79 (9 * j + i) = I 79 (9 * j + i)) ∧ ∀ i, i < 3 → I' 80 (3 * j + i) = I 80 (3 * j + i) ∧ I' 81 (3 * j + i) = I 81 (3 * j + i)) (hR2 : R' 2 j = R 2 j) (hR : ∀ i, 99 ≤ i → i ≤ n → R' i = R i) : MOK n' C' Z' I' R' j q s := by
  obtain ⟨a1, a2, a3, a4, a5, a6, a7, a8, a9, a10, a11, a12, a13, a14⟩ := h
  obtain ⟨⟨m1, m2, m3, m4⟩, m5, m6⟩ := hm
  have c0 := hC q (by omega) (by omega)
  have i0 := hI q (by omega) (by omega)
  have r0 := hR q (by omega) (by omega)
  have i1 := hI (q + 1) (by omega) (by omega)
  have i2 := hI (q + 2) (by omega) (by omega)
  have i3 := hI (q + 3) (by omega) (by omega)
  have i4 := hI (q + 4) (by omega) (by omega)
  refine ⟨hR2.trans a1, a2, by omega, by rw [c0, m1, i1, i2, i3]; exact a4, by rw [i0, m2]; exact a5, by rw [i0, m3]; exact a6, by rw [r0]; exact a7, ?_, fun i hi => ?_, fun i hi => ?_, fun i hi => ?_, by rw [m4, i4, m1]; exact a12, by rw [i1]; exact a13, by rw [i2, i3]; exact a14⟩
  · rw [hC (q + 1) (by omega) (by omega), hC (q + 2) (by omega) (by omega), hC (q + 3) (by omega) (by omega), hC (q + 4) (by omega) (by omega), hZ (q + 1) (by omega) (by omega), hZ (q + 2) (by omega) (by omega), hZ (q + 3) (by omega) (by omega), hZ (q + 4) (by omega) (by omega)]
    exact a8
  · rw [m5 i hi, i1, m1]; exact a9 i hi
  · rw [(m6 i hi).1, i2, m1]; exact a10 i hi
  · rw [(m6 i hi).2, i3, m1]; exact a11 i hi
theorem SOK.keep {n n' : Nat} {C C' Z Z' : Nat → Nat} {I I' : Nat → Nat → Int32} {L L' : Nat → Nat → Int64} {R R' : Nat → Nat → Nat} {s : Nat} (h : SOK n C Z I L R s) (hn : n ≤ n') (hC : ∀ i, 99 ≤ i → i ≤ n → C' i = C i) (hZ : ∀ i, 99 ≤ i → i ≤ n → Z' i = Z i) (hI : ∀ i, 99 ≤ i → i ≤ n → I' i = I i) (hL : ∀ i, 99 ≤ i → i ≤ n → L' i = L i) (hm : I' 87 s = I 87 s ∧ I' 88 s = I 88 s ∧ ∀ i, i < 40 → L' 89 (40 * s + i) = L 89 (40 * s + i)) (hR7 : R' 7 s = R 7 s) (hR : ∀ i, 99 ≤ i → i ≤ n → R' i = R i) : SOK n' C' Z' I' L' R' s := by
  obtain ⟨m1, m2, m3⟩ := hm
  rcases h with ⟨a, b⟩ | ⟨q, z, a1, a2, a3, a4, a5, a6, a7, a8, a9, a10, a11, a12⟩
  · exact Or.inl ⟨hR7.trans a, m1.trans b⟩
  · refine Or.inr ⟨q, z, hR7.trans a1, a2, by omega, (hC q (by omega) (by omega)).trans a4, by rw [hR q (by omega) (by omega)]; exact a5, (hC (q + 1) (by omega) (by omega)).trans a6, (hZ (q + 1) (by omega) (by omega)).trans a7, a8, by rw [hI q (by omega) (by omega), m1]; exact a9, by rw [m1]; exact a10, by rw [m2]; exact a11, fun i hi => ?_⟩
    rw [hL (q + 1) (by omega) (by omega), m3 i (by omega)]
    exact a12 i hi
/-- scratch: the invariant doesn't see it -/
theorem Inv7.scr {n : Nat} {C Z : Nat → Nat} {I I' : Nat → Nat → Int32} {L L' : Nat → Nat → Int64} {R R' : Nat → Nat → Nat} {M rn t : Nat} (h : Inv7 n C Z I L R M rn t)
    (hL : ∀ i, 99 ≤ i ∨ i = 3 ∨ i = 85 ∨ i = 89 → L' i = L i) (hI : ∀ i, 99 ≤ i ∨ i = 1 ∨ i = 5 ∨ i = 6 ∨ (75 ≤ i ∧ i ≤ 81) ∨ i = 87 ∨ i = 88 ∨ i = 91 → I' i = I i) (hI74 : I' 74 0 = I 74 0 ∧ I' 74 13 = I 74 13 ∧ I' 74 20 = I 74 20)
    (hR : ∀ i k, ¬ (i = 8 ∧ k = 0) → ¬ (i = 37 ∧ k = 0) → R' i k = R i k) : Inv7 n C Z I' L' R' M rn t := by
  obtain ⟨a1, a2, a3, a4, a5, a6, a7, a8⟩ := h
  obtain ⟨p1, p2, p3⟩ := hI74
  have r2 : R' 2 = R 2 := funext fun k => hR 2 k (by omega) (by omega)
  have r7 : R' 7 = R 7 := funext fun k => hR 7 k (by omega) (by omega)
  have rr : ∀ i, 99 ≤ i → R' i = R i := fun i hi => funext fun k => hR i k (by omega) (by omega)
  refine ⟨a1, a2, a3.keep (fun i k _ _ _ h1 h2 => hR i k h1 h2), ?_, fun j hj => ?_, fun s hs => ?_, ?_, ?_⟩
  · rw [hI 1 (by omega), p1]; exact a4
  · obtain ⟨q, s, hm⟩ := a5 j hj
    exact ⟨q, s, hm.keep (Nat.le_refl _) (fun _ _ _ => rfl) (fun _ _ _ => rfl) (fun i hi _ => hI i (by omega)) ⟨⟨by rw [hI 75 (by omega)], by rw [hI 76 (by omega)], by rw [hI 77 (by omega)], by rw [hI 78 (by omega)]⟩, fun i _ => by rw [hI 79 (by omega)], fun i _ => ⟨by rw [hI 80 (by omega)], by rw [hI 81 (by omega)]⟩⟩ (by rw [r2]) (fun i hi _ => rr i hi)⟩
  · exact (a6 s hs).keep (Nat.le_refl _) (fun _ _ _ => rfl) (fun _ _ _ => rfl) (fun i hi _ => hI i (by omega)) (fun i hi _ => hL i (by omega)) ⟨by rw [hI 87 (by omega)], by rw [hI 88 (by omega)], fun i _ => by rw [hL 89 (by omega)]⟩ (by rw [r7]) (fun i hi _ => rr i hi)
  · unfold AOK at *
    rw [r2, r7]
    exact a7
  · unfold TOK at *
    rw [hI 1 (by omega), hI 5 (by omega), hI 6 (by omega), hI 91 (by omega), p2, p3, hL 3 (by omega), hL 85 (by omega)]
    exact a8
