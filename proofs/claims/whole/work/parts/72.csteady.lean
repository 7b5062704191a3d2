set_option maxRecDepth 100000 in
set_option maxHeartbeats 8000000 in
theorem WC_0 {n sl : Nat} {C Z : Nat → Nat} {I : Nat → Nat → Int32} {L : Nat → Nat → Int64} {R : Nat → Nat → Nat} {l2 l3 l4 l5 l6 : Option Value} {Q : Option Value → Hp → Prop} (go : Q (some (.int 1)) (n, sl, C, Z, I, L, R)) : Br 27 153 55 [some (.ref 8), some (.int (nI 0)), l2, l3, l4, l5, l6] [] (n, sl, C, Z, I, L, R) Q (nI 0 ≤ 0) := by
  have c0 : nI 0 ≤ 0 := by decide +kernel
  simp [S27_0, S27_1, S27_2, S27_3, BS, c0, go]
set_option maxRecDepth 100000 in
set_option maxHeartbeats 8000000 in
theorem WC_1 {n sl : Nat} {C Z : Nat → Nat} {I : Nat → Nat → Int32} {L : Nat → Nat → Int64} {R : Nat → Nat → Nat} {p : Nat → Int} {l2 l3 l4 l5 l6 : Option Value} {Q : Option Value → Hp → Prop} (hK : LayK C Z R) (hp : ∀ i, i ≤ 1 → L 33 i = wL (p i)) (bM : ∀ i, i ≤ 1 → bn 478718595072 (p i)) (bT : bn 2608757776 (p 1)) (go1 : SC 1 p → ∀ L', (∀ c, c ≠ 33 → c ≠ 34 → L' c = L c) → Q (some (.int 1)) (n, sl, C, Z, I, L', R)) (go0 : ¬ SC 1 p → ∀ L', (∀ c, c ≠ 33 → c ≠ 34 → L' c = L c) → Q (some (.int 0)) (n, sl, C, Z, I, L', R)) : Br 27 153 55 [some (.ref 8), some (.int (nI 1)), l2, l3, l4, l5, l6] [] (n, sl, C, Z, I, L, R) Q (nI 1 ≤ 0) := by
  have hK' := hK
  unfold LayK at hK
  have c0 : ¬ nI 1 ≤ 0 := by decide +kernel
  have x0 : inb (nI 1) 5 = true ∧ inb (nI 1) 4 = true ∧ ix (nI 1) = 1 := by decide +kernel
  have dm : nI 1 - 1 = 0 := by decide +kernel
  have dc : nI 1 + -1 = nI 0 := by decide +kernel
  have k0 : ¬ nI 1 ≤ 0 := by decide +kernel
  have k1 :  nI 1 ≤ 1 := by decide +kernel
  have mv : ix (nI 1) = 1 ∧ ¬ nI 1 < 0 := by decide +kernel
  have p0 := hp 0 (by omega)
  have p1 := hp 1 (by omega)
  refine Br_of (fun h => absurd h c0) (fun _ => ?_)
  have b0 := bM 0 (by omega)
  have bg := bM 1 (by omega)
  have tst : lN (p 0).natAbs < lN (p 1).natAbs ↔ (p 0).natAbs < (p 1).natAbs := by unfold bn at b0 bg; exact lN_ltB (by omega) (by omega)
  have a0 := absL (bn_le b0 (by decide))
  have ag := absL (bn_le bg (by decide))
  by_cases hlt : (p 0).natAbs < (p 1).natAbs
  · have tt := tst.mpr hlt
    have sq := bn_sqd hlt bT
    have bT0 : bn 2608757776 (p 0) := by unfold bn at *; omega
    obtain ⟨y0, hy0⟩ : ∃ y, y = p 1 * p 1 - p 0 * p 0 := ⟨_, rfl⟩
    have by0 : bn 6805617133840466176 y0 := by rw [hy0]; exact sq.1
    have ey0 : wL (p 1 * p 1 - p 0 * p 0) = wL y0 := by rw [hy0]
    have step : ∀ L2 l2 l3 l4 l5 l6, (∀ c, c ≠ 33 → c ≠ 34 → L2 c = L c) → (L2 33 0 = wL y0) → Br 27 153 55 [some (.ref 8), some (.int (nI 0)), l2, l3, l4, l5, l6] [] (n, sl, C, Z, I, L2, R) Q (nI 0 ≤ 0) := by
      intro L2 l2 l3 l4 l5 l6 f2 w2
      exact WC_0 (go1 ⟨hlt, trivial⟩ L2 f2)
    simp [S27_0, S27_1, S27_2, S27_3, BS, ixs, inbs, hK, u2_rd, x0, mv, dm, dc, k0, k1, p0, p1, wL_mul, wL_sub, ey0, a0, ag, lg_lt, tt]
    refine step _ _ _ _ _ _ (fun c h1 h2 => ?_) ?_
    · repeat (first | rw [va_up_no _ _ h1] | rw [u2_ne _ _ _ h1] | rw [u2_ne _ _ _ h2])
    · simp [u2_rd, va_up_rd, va_cpy]
  · have tt : ¬ lN (p 0).natAbs < lN (p 1).natAbs := fun h => hlt (tst.mp h)
    have gg := go0 (fun q => hlt q.1) L (fun _ _ _ => rfl)
    simp [S27_0, S27_1, S27_2, S27_3, BS, ixs, inbs, hK, x0, p0, p1, a0, ag, lg_lt, tt, gg]
set_option maxRecDepth 100000 in
set_option maxHeartbeats 8000000 in
theorem WC_2 {n sl : Nat} {C Z : Nat → Nat} {I : Nat → Nat → Int32} {L : Nat → Nat → Int64} {R : Nat → Nat → Nat} {p : Nat → Int} {l2 l3 l4 l5 l6 : Option Value} {Q : Option Value → Hp → Prop} (hK : LayK C Z R) (hp : ∀ i, i ≤ 2 → L 33 i = wL (p i)) (bM : ∀ i, i ≤ 2 → bn 4686336 (p i)) (bT : bn 51076 (p 2)) (go1 : SC 2 p → ∀ L', (∀ c, c ≠ 33 → c ≠ 34 → L' c = L c) → Q (some (.int 1)) (n, sl, C, Z, I, L', R)) (go0 : ¬ SC 2 p → ∀ L', (∀ c, c ≠ 33 → c ≠ 34 → L' c = L c) → Q (some (.int 0)) (n, sl, C, Z, I, L', R)) : Br 27 153 55 [some (.ref 8), some (.int (nI 2)), l2, l3, l4, l5, l6] [] (n, sl, C, Z, I, L, R) Q (nI 2 ≤ 0) := by
  have hK' := hK
  unfold LayK at hK
  have c0 : ¬ nI 2 ≤ 0 := by decide +kernel
  have x0 : inb (nI 2) 5 = true ∧ inb (nI 2) 4 = true ∧ ix (nI 2) = 2 := by decide +kernel
  have dm : nI 2 - 1 = 1 := by decide +kernel
  have dc : nI 2 + -1 = nI 1 := by decide +kernel
  have k0 : ¬ nI 2 ≤ 0 := by decide +kernel
  have k1 : ¬ nI 2 ≤ 1 := by decide +kernel
  have k2 :  nI 2 ≤ 2 := by decide +kernel
  have mv : ix (nI 2) = 2 ∧ ¬ nI 2 < 0 := by decide +kernel
  have p0 := hp 0 (by omega)
  have p1 := hp 1 (by omega)
  have p2 := hp 2 (by omega)
  refine Br_of (fun h => absurd h c0) (fun _ => ?_)
  have b0 := bM 0 (by omega)
  have bg := bM 2 (by omega)
  have tst : lN (p 0).natAbs < lN (p 2).natAbs ↔ (p 0).natAbs < (p 2).natAbs := by unfold bn at b0 bg; exact lN_ltB (by omega) (by omega)
  have a0 := absL (bn_le b0 (by decide))
  have ag := absL (bn_le bg (by decide))
  by_cases hlt : (p 0).natAbs < (p 2).natAbs
  · have tt := tst.mpr hlt
    have sq := bn_sqd hlt bT
    have bT0 : bn 51076 (p 0) := by unfold bn at *; omega
    obtain ⟨y0, hy0⟩ : ∃ y, y = p 2 * p 1 - p 0 * p 1 := ⟨_, rfl⟩
    have by0 : bn 478718595072 y0 := by rw [hy0]; exact bn_le (bn_sub (bn_mul bT (bM 1 (by omega))) (bn_mul bT0 (bM 1 (by omega)))) (by decide)
    have ey0 : wL (p 2 * p 1 - p 0 * p 1) = wL y0 := by rw [hy0]
    obtain ⟨y1, hy1⟩ : ∃ y, y = p 2 * p 2 - p 0 * p 0 := ⟨_, rfl⟩
    have by1 : bn 2608757776 y1 := by rw [hy1]; exact sq.1
    have ey1 : wL (p 2 * p 2 - p 0 * p 0) = wL y1 := by rw [hy1]
    have step : ∀ L2 l2 l3 l4 l5 l6, (∀ c, c ≠ 33 → c ≠ 34 → L2 c = L c) → (L2 33 0 = wL y0 ∧ L2 33 1 = wL y1) → Br 27 153 55 [some (.ref 8), some (.int (nI 1)), l2, l3, l4, l5, l6] [] (n, sl, C, Z, I, L2, R) Q (nI 1 ≤ 0) := by
      intro L2 l2 l3 l4 l5 l6 f2 w2
      have sc : SC 1 (fun i => if i = 0 then y0 else if i = 1 then y1 else y1) ↔ SC 1 (fun i => p 2 * p (i + 1) - p 0 * p (1 - i)) := SC_congr 1 (fun i hi => by
          rcases (by omega : i = 0 ∨ i = 1) with rfl | rfl
          · exact hy0
          · exact hy1)
      refine WC_1 (p := fun i => if i = 0 then y0 else if i = 1 then y1 else y1) hK' (fun i hi => ?_) (fun i hi => ?_) by1 (fun h L3 f3 => go1 ⟨hlt, sc.mp h⟩ L3 (fun c h1 h2 => by rw [f3 c h1 h2, f2 c h1 h2])) (fun h L3 f3 => go0 (fun q => h (sc.mpr q.2)) L3 (fun c h1 h2 => by rw [f3 c h1 h2, f2 c h1 h2]))
      · rcases (by omega : i = 0 ∨ i = 1) with rfl | rfl
        · exact w2.1
        · exact w2.2
      · rcases (by omega : i = 0 ∨ i = 1) with rfl | rfl
        · exact bn_le by0 (by decide)
        · exact bn_le by1 (by decide)
    simp [S27_0, S27_1, S27_2, S27_3, BS, ixs, inbs, hK, u2_rd, x0, mv, dm, dc, k0, k1, k2, p0, p1, p2, wL_mul, wL_sub, ey0, ey1, a0, ag, lg_lt, tt]
    refine step _ _ _ _ _ _ (fun c h1 h2 => ?_) ?_
    · repeat (first | rw [va_up_no _ _ h1] | rw [u2_ne _ _ _ h1] | rw [u2_ne _ _ _ h2])
    · simp [u2_rd, va_up_rd, va_cpy]
  · have tt : ¬ lN (p 0).natAbs < lN (p 2).natAbs := fun h => hlt (tst.mp h)
    have gg := go0 (fun q => hlt q.1) L (fun _ _ _ => rfl)
    simp [S27_0, S27_1, S27_2, S27_3, BS, ixs, inbs, hK, x0, p0, p2, a0, ag, lg_lt, tt, gg]
set_option maxRecDepth 100000 in
set_option maxHeartbeats 8000000 in
theorem WC_3 {n sl : Nat} {C Z : Nat → Nat} {I : Nat → Nat → Int32} {L : Nat → Nat → Int64} {R : Nat → Nat → Nat} {p : Nat → Int} {l2 l3 l4 l5 l6 : Option Value} {Q : Option Value → Hp → Prop} (hK : LayK C Z R) (hp : ∀ i, i ≤ 3 → L 33 i = wL (p i)) (bM : ∀ i, i ≤ 3 → bn 10368 (p i)) (bT : bn 226 (p 3)) (go1 : SC 3 p → ∀ L', (∀ c, c ≠ 33 → c ≠ 34 → L' c = L c) → Q (some (.int 1)) (n, sl, C, Z, I, L', R)) (go0 : ¬ SC 3 p → ∀ L', (∀ c, c ≠ 33 → c ≠ 34 → L' c = L c) → Q (some (.int 0)) (n, sl, C, Z, I, L', R)) : Br 27 153 55 [some (.ref 8), some (.int (nI 3)), l2, l3, l4, l5, l6] [] (n, sl, C, Z, I, L, R) Q (nI 3 ≤ 0) := by
  have hK' := hK
  unfold LayK at hK
  have c0 : ¬ nI 3 ≤ 0 := by decide +kernel
  have x0 : inb (nI 3) 5 = true ∧ inb (nI 3) 4 = true ∧ ix (nI 3) = 3 := by decide +kernel
  have dm : nI 3 - 1 = 2 := by decide +kernel
  have dc : nI 3 + -1 = nI 2 := by decide +kernel
  have k0 : ¬ nI 3 ≤ 0 := by decide +kernel
  have k1 : ¬ nI 3 ≤ 1 := by decide +kernel
  have k2 : ¬ nI 3 ≤ 2 := by decide +kernel
  have k3 :  nI 3 ≤ 3 := by decide +kernel
  have mv : ix (nI 3) = 3 ∧ ¬ nI 3 < 0 := by decide +kernel
  have p0 := hp 0 (by omega)
  have p1 := hp 1 (by omega)
  have p2 := hp 2 (by omega)
  have p3 := hp 3 (by omega)
  refine Br_of (fun h => absurd h c0) (fun _ => ?_)
  have b0 := bM 0 (by omega)
  have bg := bM 3 (by omega)
  have tst : lN (p 0).natAbs < lN (p 3).natAbs ↔ (p 0).natAbs < (p 3).natAbs := by unfold bn at b0 bg; exact lN_ltB (by omega) (by omega)
  have a0 := absL (bn_le b0 (by decide))
  have ag := absL (bn_le bg (by decide))
  by_cases hlt : (p 0).natAbs < (p 3).natAbs
  · have tt := tst.mpr hlt
    have sq := bn_sqd hlt bT
    have bT0 : bn 226 (p 0) := by unfold bn at *; omega
    obtain ⟨y0, hy0⟩ : ∃ y, y = p 3 * p 1 - p 0 * p 2 := ⟨_, rfl⟩
    have by0 : bn 4686336 y0 := by rw [hy0]; exact bn_le (bn_sub (bn_mul bT (bM 1 (by omega))) (bn_mul bT0 (bM 2 (by omega)))) (by decide)
    have ey0 : wL (p 3 * p 1 - p 0 * p 2) = wL y0 := by rw [hy0]
    obtain ⟨y1, hy1⟩ : ∃ y, y = p 3 * p 2 - p 0 * p 1 := ⟨_, rfl⟩
    have by1 : bn 4686336 y1 := by rw [hy1]; exact bn_le (bn_sub (bn_mul bT (bM 2 (by omega))) (bn_mul bT0 (bM 1 (by omega)))) (by decide)
    have ey1 : wL (p 3 * p 2 - p 0 * p 1) = wL y1 := by rw [hy1]
    obtain ⟨y2, hy2⟩ : ∃ y, y = p 3 * p 3 - p 0 * p 0 := ⟨_, rfl⟩
    have by2 : bn 51076 y2 := by rw [hy2]; exact sq.1
    have ey2 : wL (p 3 * p 3 - p 0 * p 0) = wL y2 := by rw [hy2]
    have step : ∀ L2 l2 l3 l4 l5 l6, (∀ c, c ≠ 33 → c ≠ 34 → L2 c = L c) → (L2 33 0 = wL y0 ∧ L2 33 1 = wL y1 ∧ L2 33 2 = wL y2) → Br 27 153 55 [some (.ref 8), some (.int (nI 2)), l2, l3, l4, l5, l6] [] (n, sl, C, Z, I, L2, R) Q (nI 2 ≤ 0) := by
      intro L2 l2 l3 l4 l5 l6 f2 w2
      have sc : SC 2 (fun i => if i = 0 then y0 else if i = 1 then y1 else y2) ↔ SC 2 (fun i => p 3 * p (i + 1) - p 0 * p (2 - i)) := SC_congr 2 (fun i hi => by
          rcases (by omega : i = 0 ∨ i = 1 ∨ i = 2) with rfl | rfl | rfl
          · exact hy0
          · exact hy1
          · exact hy2)
      refine WC_2 (p := fun i => if i = 0 then y0 else if i = 1 then y1 else y2) hK' (fun i hi => ?_) (fun i hi => ?_) by2 (fun h L3 f3 => go1 ⟨hlt, sc.mp h⟩ L3 (fun c h1 h2 => by rw [f3 c h1 h2, f2 c h1 h2])) (fun h L3 f3 => go0 (fun q => h (sc.mpr q.2)) L3 (fun c h1 h2 => by rw [f3 c h1 h2, f2 c h1 h2]))
      · rcases (by omega : i = 0 ∨ i = 1 ∨ i = 2) with rfl | rfl | rfl
        · exact w2.1
        · exact w2.2.1
        · exact w2.2.2
      · rcases (by omega : i = 0 ∨ i = 1 ∨ i = 2) with rfl | rfl | rfl
        · exact bn_le by0 (by decide)
        · exact bn_le by1 (by decide)
        · exact bn_le by2 (by decide)
    simp [S27_0, S27_1, S27_2, S27_3, BS, ixs, inbs, hK, u2_rd, x0, mv, dm, dc, k0, k1, k2, k3, p0, p1, p2, p3, wL_mul, wL_sub, ey0, ey1, ey2, a0, ag, lg_lt, tt]
    refine step _ _ _ _ _ _ (fun c h1 h2 => ?_) ?_
    · repeat (first | rw [va_up_no _ _ h1] | rw [u2_ne _ _ _ h1] | rw [u2_ne _ _ _ h2])
    · simp [u2_rd, va_up_rd, va_cpy]
  · have tt : ¬ lN (p 0).natAbs < lN (p 3).natAbs := fun h => hlt (tst.mp h)
    have gg := go0 (fun q => hlt q.1) L (fun _ _ _ => rfl)
    simp [S27_0, S27_1, S27_2, S27_3, BS, ixs, inbs, hK, x0, p0, p3, a0, ag, lg_lt, tt, gg]
/-- OWN from the bottom -/
def op (A : Nat → Int) (s i : Nat) : Int := cf A (s - i)
theorem bn_cf {A : Nat → Int} (hA : ∀ i, i < 9 → bn 12 (A i)) : bn 1 (cf A 0) ∧ bn 36 (cf A 1) ∧ bn 864 (cf A 2) ∧ bn 10368 (cf A 3) := by
  have a := fun i (hi : i < 9) => hA i hi
  have m := fun i k (hi : i < 9) (hk : k < 9) => bn_mul (hA i hi) (hA k hk)
  refine ⟨by show bn 1 1; unfold bn; decide, ?_, ?_, ?_⟩
  · show bn 36 (-(A 0 + A 4 + A 8))
    exact bn_neg (bn_add (bn_add (a 0 (by omega)) (a 4 (by omega))) (a 8 (by omega)))
  · show bn 864 (A 0 * A 4 - A 1 * A 3 + (A 0 * A 8 - A 2 * A 6) + (A 4 * A 8 - A 5 * A 7))
    exact bn_add (bn_add (bn_sub (m 0 4 (by omega) (by omega)) (m 1 3 (by omega) (by omega))) (bn_sub (m 0 8 (by omega) (by omega)) (m 2 6 (by omega) (by omega)))) (bn_sub (m 4 8 (by omega) (by omega)) (m 5 7 (by omega) (by omega)))
  · show bn 10368 (-(A 0 * (A 4 * A 8 - A 5 * A 7) - A 1 * (A 3 * A 8 - A 5 * A 6) + A 2 * (A 3 * A 7 - A 4 * A 6)))
    exact bn_neg (bn_add (bn_sub (bn_mul (a 0 (by omega)) (bn_sub (m 4 8 (by omega) (by omega)) (m 5 7 (by omega) (by omega)))) (bn_mul (a 1 (by omega)) (bn_sub (m 3 8 (by omega) (by omega)) (m 5 6 (by omega) (by omega))))) (bn_mul (a 2 (by omega)) (bn_sub (m 3 7 (by omega) (by omega)) (m 4 6 (by omega) (by omega)))))
theorem bn_cf3 {A : Nat → Int} (hA : ∀ i, i < 9 → bn 3 (A i)) : bn 1 (cf A 0) ∧ bn 9 (cf A 1) ∧ bn 54 (cf A 2) ∧ bn 162 (cf A 3) := by
  have a := fun i (hi : i < 9) => hA i hi
  have m := fun i k (hi : i < 9) (hk : k < 9) => bn_mul (hA i hi) (hA k hk)
  refine ⟨by show bn 1 1; unfold bn; decide, ?_, ?_, ?_⟩
  · show bn 9 (-(A 0 + A 4 + A 8))
    exact bn_neg (bn_add (bn_add (a 0 (by omega)) (a 4 (by omega))) (a 8 (by omega)))
  · show bn 54 (A 0 * A 4 - A 1 * A 3 + (A 0 * A 8 - A 2 * A 6) + (A 4 * A 8 - A 5 * A 7))
    exact bn_add (bn_add (bn_sub (m 0 4 (by omega) (by omega)) (m 1 3 (by omega) (by omega))) (bn_sub (m 0 8 (by omega) (by omega)) (m 2 6 (by omega) (by omega)))) (bn_sub (m 4 8 (by omega) (by omega)) (m 5 7 (by omega) (by omega)))
  · show bn 162 (-(A 0 * (A 4 * A 8 - A 5 * A 7) - A 1 * (A 3 * A 8 - A 5 * A 6) + A 2 * (A 3 * A 7 - A 4 * A 6)))
    exact bn_neg (bn_add (bn_sub (bn_mul (a 0 (by omega)) (bn_sub (m 4 8 (by omega) (by omega)) (m 5 7 (by omega) (by omega)))) (bn_mul (a 1 (by omega)) (bn_sub (m 3 8 (by omega) (by omega)) (m 5 6 (by omega) (by omega))))) (bn_mul (a 2 (by omega)) (bn_sub (m 3 7 (by omega) (by omega)) (m 4 6 (by omega) (by omega)))))
def sp (A : Nat → Int) (s : Nat) (u : Int) (i : Nat) : Int := op A s i * u ^ i
theorem bn_sp {A : Nat → Int} {u : Int} (hA : ∀ i, i < 9 → bn 12 (A i)) (hu : u = 1 ∨ u = 2 ∨ u = 4) {s i : Nat} (hs : s ≤ 3) (hi : i ≤ s) : bn 10368 (sp A s u i) := by
  obtain ⟨c0, c1, c2, c3⟩ := bn_cf hA
  have u0 : bn 1 (u ^ 0) := by rw [Int.pow_zero]; unfold bn; decide
  have u1 : bn 4 (u ^ 1) := by rcases hu with h | h | h <;> rw [h] <;> unfold bn <;> decide
  have u2 : bn 16 (u ^ 2) := by rcases hu with h | h | h <;> rw [h] <;> unfold bn <;> decide
  have u3 : bn 64 (u ^ 3) := by rcases hu with h | h | h <;> rw [h] <;> unfold bn <;> decide
  unfold sp op
  rcases (by omega : s = 0 ∨ s = 1 ∨ s = 2 ∨ s = 3) with rfl | rfl | rfl | rfl <;> rcases (by omega : i = 0 ∨ i = 1 ∨ i = 2 ∨ i = 3) with rfl | rfl | rfl | rfl <;> first
    | (exfalso; omega)
    | exact bn_le (bn_mul c0 u0) (by decide)
    | exact bn_le (bn_mul c1 u0) (by decide)
    | exact bn_le (bn_mul c0 u1) (by decide)
    | exact bn_le (bn_mul c2 u0) (by decide)
    | exact bn_le (bn_mul c1 u1) (by decide)
    | exact bn_le (bn_mul c0 u2) (by decide)
    | exact bn_le (bn_mul c3 u0) (by decide)
    | exact bn_le (bn_mul c2 u1) (by decide)
    | exact bn_le (bn_mul c1 u2) (by decide)
    | exact bn_le (bn_mul c0 u3) (by decide)
theorem bn_spT {A : Nat → Int} {u : Int} (hu : u = 1 ∨ u = 2 ∨ u = 4) {s : Nat} (hs : s ≤ 3) : bn 226 (sp A s u s) := by
  have e : sp A s u s = u ^ s := by unfold sp op; rw [Nat.sub_self]; show 1 * u ^ s = u ^ s; rw [Int.one_mul]
  rw [e]
  rcases hu with h | h | h <;> rcases (by omega : s = 0 ∨ s = 1 ∨ s = 2 ∨ s = 3) with rfl | rfl | rfl | rfl <;> rw [h] <;> unfold bn <;> decide
theorem bn_bil {A : Nat → Int} (hA : ∀ i, i < 9 → bn 3 (A i)) {s i : Nat} (hs : s ≤ 3) (hi : i ≤ s) : bn 10368 (bil s (op A s) i) ∧ bn 226 (bil s (op A s) s) := by
  obtain ⟨c0, c1, c2, c3⟩ := bn_cf3 hA
  have e0 : cf A 0 = 1 := rfl
  unfold bn at *
  unfold bil op
  rcases (by omega : s = 0 ∨ s = 1 ∨ s = 2 ∨ s = 3) with rfl | rfl | rfl | rfl <;> rcases (by omega : i = 0 ∨ i = 1 ∨ i = 2 ∨ i = 3) with rfl | rfl | rfl | rfl <;> simp at hi ⊢ <;> omega
set_option maxRecDepth 100000 in
set_option maxHeartbeats 8000000 in
theorem c_stT_0 {n sl : Nat} {C Z : Nat → Nat} {I : Nat → Nat → Int32} {L : Nat → Nat → Int64} {R : Nat → Nat → Nat} {q : Nat} {u : Int32} {A B K : Nat → Int} {d : Int} (hc : CM C Z I R q 0 u A B K d) (hK : LayK C Z R) (hR : R 8 0 = q) (lk : LK L 8 0 A B K) (kf : isa (C q) 1 = false) (hu : u.toInt = 1 ∨ u.toInt = 2 ∨ u.toInt = 4) (hA : ∀ i, i < 9 → bn 12 (A i)) {k pc : Nat} {ls : Lo} {st : List Value} {Q : Option Value → Hp → Prop} (go1 : SC 0 (sp A 0 u.toInt) → ∀ L', (∀ c, c ≠ 33 → c ≠ 34 → L' c = L c) → Wp k pc ls (.int 1 :: st) (n, sl, C, Z, I, L', R) Q) (go0 : ¬ SC 0 (sp A 0 u.toInt) → ∀ L', (∀ c, c ≠ 33 → c ≠ 34 → L' c = L c) → Wp k pc ls (.int 0 :: st) (n, sl, C, Z, I, L', R) Q) : Call 25 [some (.ref 8)] (n, sl, C, Z, I, L, R) k pc ls st Q := by
  obtain ⟨⟨g0, g1, g2, g3, g4, g5⟩, -⟩ := id hc
  have hK' := hK
  unfold LayK at hK
  have o0 : L 27 0 = wL (op A 0 0) := lk.2.2 0 (by omega)
  have pw0 := fun h k pc ls st Q => c_pow u (show 0 < 1000 by omega) h k pc ls st Q
  rw [show nI 0 = 0 from rfl] at pw0
  have e0 : wL (op A 0 0 * u.toInt ^ 0) = wL (sp A 0 u.toInt 0) := rfl
  have k0 : ¬ nI 0 < 0 := by decide +kernel
  have k1 : nI 0 < 1 := by decide +kernel
  have k2 : nI 0 < 2 := by decide +kernel
  have k3 : nI 0 < 3 := by decide +kernel
  have z0 : wL (op A 0 0) = wL (sp A 0 u.toInt 0) := by unfold sp; rw [Int.pow_zero, Int.mul_one]
  have k4 : nI 0 < 4 := by decide +kernel
  have step : ∀ L2 l2 l3 l4 l5 l6, (∀ c, c ≠ 33 → L2 c = L c) → (∀ i, i ≤ 0 → L2 33 i = wL (sp A 0 u.toInt i)) → Br 27 153 55 [some (.ref 8), some (.int (nI 0)), l2, l3, l4, l5, l6] [] (n, sl, C, Z, I, L2, R) (fun r h1 => Wp 25 21 [some (.ref 8)] r.toList h1 (fun r h1 => Wp k pc ls (r.toList ++ st) h1 Q)) (nI 0 ≤ 0) := by
    intro L2 l2 l3 l4 l5 l6 f2 w2
    refine WC_0 ?_
    have := go1 trivial L2 (fun c h1 _ => f2 c h1)
    simp [S25_0, BS]
    exact this
  simp [S25_0, S27_0, S27_1, S27_2, S27_3, Call_in (k2 := 25), Call_in (k2 := 27), BS, ixs, inbs, hK, hR, kf, g0, g4, g5, k0, k1, k2, k3, k4, u2_rd, wL_mul, wL_i2l, o0, pw0, e0]
  refine step _ _ _ _ _ _ (fun c h1 => ?_) (fun i hi => ?_)
  · repeat (first | rw [u2_ne _ _ _ h1])
  · rcases (by omega : i = 0) with rfl <;> simp [u2_rd, z0, e0]
set_option maxRecDepth 100000 in
set_option maxHeartbeats 8000000 in
theorem c_stT_1 {n sl : Nat} {C Z : Nat → Nat} {I : Nat → Nat → Int32} {L : Nat → Nat → Int64} {R : Nat → Nat → Nat} {q : Nat} {u : Int32} {A B K : Nat → Int} {d : Int} (hc : CM C Z I R q 1 u A B K d) (hK : LayK C Z R) (hR : R 8 0 = q) (lk : LK L 8 1 A B K) (kf : isa (C q) 1 = false) (hu : u.toInt = 1 ∨ u.toInt = 2 ∨ u.toInt = 4) (hA : ∀ i, i < 9 → bn 12 (A i)) {k pc : Nat} {ls : Lo} {st : List Value} {Q : Option Value → Hp → Prop} (go1 : SC 1 (sp A 1 u.toInt) → ∀ L', (∀ c, c ≠ 33 → c ≠ 34 → L' c = L c) → Wp k pc ls (.int 1 :: st) (n, sl, C, Z, I, L', R) Q) (go0 : ¬ SC 1 (sp A 1 u.toInt) → ∀ L', (∀ c, c ≠ 33 → c ≠ 34 → L' c = L c) → Wp k pc ls (.int 0 :: st) (n, sl, C, Z, I, L', R) Q) : Call 25 [some (.ref 8)] (n, sl, C, Z, I, L, R) k pc ls st Q := by
  obtain ⟨⟨g0, g1, g2, g3, g4, g5⟩, -⟩ := id hc
  have hK' := hK
  unfold LayK at hK
  have o0 : L 27 0 = wL (op A 1 0) := lk.2.2 0 (by omega)
  have pw0 := fun h k pc ls st Q => c_pow u (show 0 < 1000 by omega) h k pc ls st Q
  rw [show nI 0 = 0 from rfl] at pw0
  have e0 : wL (op A 1 0 * u.toInt ^ 0) = wL (sp A 1 u.toInt 0) := rfl
  have o1 : L 27 1 = wL (op A 1 1) := lk.2.2 1 (by omega)
  have pw1 := fun h k pc ls st Q => c_pow u (show 1 < 1000 by omega) h k pc ls st Q
  rw [show nI 1 = 1 from rfl] at pw1
  have e1 : wL (op A 1 1 * u.toInt ^ 1) = wL (sp A 1 u.toInt 1) := rfl
  have k0 : ¬ nI 1 < 0 := by decide +kernel
  have k1 : ¬ nI 1 < 1 := by decide +kernel
  have k2 : nI 1 < 2 := by decide +kernel
  have k3 : nI 1 < 3 := by decide +kernel
  have z0 : wL (op A 1 0) = wL (sp A 1 u.toInt 0) := by unfold sp; rw [Int.pow_zero, Int.mul_one]
  have k4 : nI 1 < 4 := by decide +kernel
  have step : ∀ L2 l2 l3 l4 l5 l6, (∀ c, c ≠ 33 → L2 c = L c) → (∀ i, i ≤ 1 → L2 33 i = wL (sp A 1 u.toInt i)) → Br 27 153 55 [some (.ref 8), some (.int (nI 1)), l2, l3, l4, l5, l6] [] (n, sl, C, Z, I, L2, R) (fun r h1 => Wp 25 21 [some (.ref 8)] r.toList h1 (fun r h1 => Wp k pc ls (r.toList ++ st) h1 Q)) (nI 1 ≤ 0) := by
    intro L2 l2 l3 l4 l5 l6 f2 w2
    refine WC_1 hK' w2 (fun i hi => bn_le (bn_sp hA hu (by omega) hi) (by decide)) (bn_le (bn_spT hu (by omega)) (by decide)) (fun h L3 f3 => ?_) (fun h L3 f3 => ?_)
    · have := go1 h L3 (fun c h1 h2 => by rw [f3 c h1 h2, f2 c h1])
      simp [S25_0, BS]
      exact this
    · have := go0 h L3 (fun c h1 h2 => by rw [f3 c h1 h2, f2 c h1])
      simp [S25_0, BS]
      exact this
  simp [S25_0, S27_0, S27_1, S27_2, S27_3, Call_in (k2 := 25), Call_in (k2 := 27), BS, ixs, inbs, hK, hR, kf, g0, g4, g5, k0, k1, k2, k3, k4, u2_rd, wL_mul, wL_i2l, o0, pw0, e0, o1, pw1, e1]
  refine step _ _ _ _ _ _ (fun c h1 => ?_) (fun i hi => ?_)
  · repeat (first | rw [u2_ne _ _ _ h1])
  · rcases (by omega : i = 0 ∨ i = 1) with rfl | rfl <;> simp [u2_rd, z0, e0, e1]
set_option maxRecDepth 100000 in
set_option maxHeartbeats 8000000 in
theorem c_stT_2 {n sl : Nat} {C Z : Nat → Nat} {I : Nat → Nat → Int32} {L : Nat → Nat → Int64} {R : Nat → Nat → Nat} {q : Nat} {u : Int32} {A B K : Nat → Int} {d : Int} (hc : CM C Z I R q 2 u A B K d) (hK : LayK C Z R) (hR : R 8 0 = q) (lk : LK L 8 2 A B K) (kf : isa (C q) 1 = false) (hu : u.toInt = 1 ∨ u.toInt = 2 ∨ u.toInt = 4) (hA : ∀ i, i < 9 → bn 12 (A i)) {k pc : Nat} {ls : Lo} {st : List Value} {Q : Option Value → Hp → Prop} (go1 : SC 2 (sp A 2 u.toInt) → ∀ L', (∀ c, c ≠ 33 → c ≠ 34 → L' c = L c) → Wp k pc ls (.int 1 :: st) (n, sl, C, Z, I, L', R) Q) (go0 : ¬ SC 2 (sp A 2 u.toInt) → ∀ L', (∀ c, c ≠ 33 → c ≠ 34 → L' c = L c) → Wp k pc ls (.int 0 :: st) (n, sl, C, Z, I, L', R) Q) : Call 25 [some (.ref 8)] (n, sl, C, Z, I, L, R) k pc ls st Q := by
  obtain ⟨⟨g0, g1, g2, g3, g4, g5⟩, -⟩ := id hc
  have hK' := hK
  unfold LayK at hK
  have o0 : L 27 0 = wL (op A 2 0) := lk.2.2 0 (by omega)
  have pw0 := fun h k pc ls st Q => c_pow u (show 0 < 1000 by omega) h k pc ls st Q
  rw [show nI 0 = 0 from rfl] at pw0
  have e0 : wL (op A 2 0 * u.toInt ^ 0) = wL (sp A 2 u.toInt 0) := rfl
  have o1 : L 27 1 = wL (op A 2 1) := lk.2.2 1 (by omega)
  have pw1 := fun h k pc ls st Q => c_pow u (show 1 < 1000 by omega) h k pc ls st Q
  rw [show nI 1 = 1 from rfl] at pw1
  have e1 : wL (op A 2 1 * u.toInt ^ 1) = wL (sp A 2 u.toInt 1) := rfl
  have o2 : L 27 2 = wL (op A 2 2) := lk.2.2 2 (by omega)
  have pw2 := fun h k pc ls st Q => c_pow u (show 2 < 1000 by omega) h k pc ls st Q
  rw [show nI 2 = 2 from rfl] at pw2
  have e2 : wL (op A 2 2 * u.toInt ^ 2) = wL (sp A 2 u.toInt 2) := rfl
  have k0 : ¬ nI 2 < 0 := by decide +kernel
  have k1 : ¬ nI 2 < 1 := by decide +kernel
  have k2 : ¬ nI 2 < 2 := by decide +kernel
  have k3 : nI 2 < 3 := by decide +kernel
  have z0 : wL (op A 2 0) = wL (sp A 2 u.toInt 0) := by unfold sp; rw [Int.pow_zero, Int.mul_one]
  have k4 : nI 2 < 4 := by decide +kernel
  have step : ∀ L2 l2 l3 l4 l5 l6, (∀ c, c ≠ 33 → L2 c = L c) → (∀ i, i ≤ 2 → L2 33 i = wL (sp A 2 u.toInt i)) → Br 27 153 55 [some (.ref 8), some (.int (nI 2)), l2, l3, l4, l5, l6] [] (n, sl, C, Z, I, L2, R) (fun r h1 => Wp 25 21 [some (.ref 8)] r.toList h1 (fun r h1 => Wp k pc ls (r.toList ++ st) h1 Q)) (nI 2 ≤ 0) := by
    intro L2 l2 l3 l4 l5 l6 f2 w2
    refine WC_2 hK' w2 (fun i hi => bn_le (bn_sp hA hu (by omega) hi) (by decide)) (bn_le (bn_spT hu (by omega)) (by decide)) (fun h L3 f3 => ?_) (fun h L3 f3 => ?_)
    · have := go1 h L3 (fun c h1 h2 => by rw [f3 c h1 h2, f2 c h1])
      simp [S25_0, BS]
      exact this
    · have := go0 h L3 (fun c h1 h2 => by rw [f3 c h1 h2, f2 c h1])
      simp [S25_0, BS]
      exact this
  simp [S25_0, S27_0, S27_1, S27_2, S27_3, Call_in (k2 := 25), Call_in (k2 := 27), BS, ixs, inbs, hK, hR, kf, g0, g4, g5, k0, k1, k2, k3, k4, u2_rd, wL_mul, wL_i2l, o0, pw0, e0, o1, pw1, e1, o2, pw2, e2]
  refine step _ _ _ _ _ _ (fun c h1 => ?_) (fun i hi => ?_)
  · repeat (first | rw [u2_ne _ _ _ h1])
  · rcases (by omega : i = 0 ∨ i = 1 ∨ i = 2) with rfl | rfl | rfl <;> simp [u2_rd, z0, e0, e1, e2]
set_option maxRecDepth 100000 in
set_option maxHeartbeats 8000000 in
theorem c_stT_3 {n sl : Nat} {C Z : Nat → Nat} {I : Nat → Nat → Int32} {L : Nat → Nat → Int64} {R : Nat → Nat → Nat} {q : Nat} {u : Int32} {A B K : Nat → Int} {d : Int} (hc : CM C Z I R q 3 u A B K d) (hK : LayK C Z R) (hR : R 8 0 = q) (lk : LK L 8 3 A B K) (kf : isa (C q) 1 = false) (hu : u.toInt = 1 ∨ u.toInt = 2 ∨ u.toInt = 4) (hA : ∀ i, i < 9 → bn 12 (A i)) {k pc : Nat} {ls : Lo} {st : List Value} {Q : Option Value → Hp → Prop} (go1 : SC 3 (sp A 3 u.toInt) → ∀ L', (∀ c, c ≠ 33 → c ≠ 34 → L' c = L c) → Wp k pc ls (.int 1 :: st) (n, sl, C, Z, I, L', R) Q) (go0 : ¬ SC 3 (sp A 3 u.toInt) → ∀ L', (∀ c, c ≠ 33 → c ≠ 34 → L' c = L c) → Wp k pc ls (.int 0 :: st) (n, sl, C, Z, I, L', R) Q) : Call 25 [some (.ref 8)] (n, sl, C, Z, I, L, R) k pc ls st Q := by
  obtain ⟨⟨g0, g1, g2, g3, g4, g5⟩, -⟩ := id hc
  have hK' := hK
  unfold LayK at hK
  have o0 : L 27 0 = wL (op A 3 0) := lk.2.2 0 (by omega)
  have pw0 := fun h k pc ls st Q => c_pow u (show 0 < 1000 by omega) h k pc ls st Q
  rw [show nI 0 = 0 from rfl] at pw0
  have e0 : wL (op A 3 0 * u.toInt ^ 0) = wL (sp A 3 u.toInt 0) := rfl
  have o1 : L 27 1 = wL (op A 3 1) := lk.2.2 1 (by omega)
  have pw1 := fun h k pc ls st Q => c_pow u (show 1 < 1000 by omega) h k pc ls st Q
  rw [show nI 1 = 1 from rfl] at pw1
  have e1 : wL (op A 3 1 * u.toInt ^ 1) = wL (sp A 3 u.toInt 1) := rfl
  have o2 : L 27 2 = wL (op A 3 2) := lk.2.2 2 (by omega)
  have pw2 := fun h k pc ls st Q => c_pow u (show 2 < 1000 by omega) h k pc ls st Q
  rw [show nI 2 = 2 from rfl] at pw2
  have e2 : wL (op A 3 2 * u.toInt ^ 2) = wL (sp A 3 u.toInt 2) := rfl
  have o3 : L 27 3 = wL (op A 3 3) := lk.2.2 3 (by omega)
  have pw3 := fun h k pc ls st Q => c_pow u (show 3 < 1000 by omega) h k pc ls st Q
  rw [show nI 3 = 3 from rfl] at pw3
  have e3 : wL (op A 3 3 * u.toInt ^ 3) = wL (sp A 3 u.toInt 3) := rfl
  have k0 : ¬ nI 3 < 0 := by decide +kernel
  have k1 : ¬ nI 3 < 1 := by decide +kernel
  have k2 : ¬ nI 3 < 2 := by decide +kernel
  have k3 : ¬ nI 3 < 3 := by decide +kernel
  have z0 : wL (op A 3 0) = wL (sp A 3 u.toInt 0) := by unfold sp; rw [Int.pow_zero, Int.mul_one]
  have k4 : nI 3 < 4 := by decide +kernel
  have step : ∀ L2 l2 l3 l4 l5 l6, (∀ c, c ≠ 33 → L2 c = L c) → (∀ i, i ≤ 3 → L2 33 i = wL (sp A 3 u.toInt i)) → Br 27 153 55 [some (.ref 8), some (.int (nI 3)), l2, l3, l4, l5, l6] [] (n, sl, C, Z, I, L2, R) (fun r h1 => Wp 25 21 [some (.ref 8)] r.toList h1 (fun r h1 => Wp k pc ls (r.toList ++ st) h1 Q)) (nI 3 ≤ 0) := by
    intro L2 l2 l3 l4 l5 l6 f2 w2
    refine WC_3 hK' w2 (fun i hi => bn_le (bn_sp hA hu (by omega) hi) (by decide)) (bn_le (bn_spT hu (by omega)) (by decide)) (fun h L3 f3 => ?_) (fun h L3 f3 => ?_)
    · have := go1 h L3 (fun c h1 h2 => by rw [f3 c h1 h2, f2 c h1])
      simp [S25_0, BS]
      exact this
    · have := go0 h L3 (fun c h1 h2 => by rw [f3 c h1 h2, f2 c h1])
      simp [S25_0, BS]
      exact this
  simp [S25_0, S27_0, S27_1, S27_2, S27_3, Call_in (k2 := 25), Call_in (k2 := 27), BS, ixs, inbs, hK, hR, kf, g0, g4, g5, k0, k1, k2, k3, k4, u2_rd, wL_mul, wL_i2l, o0, pw0, e0, o1, pw1, e1, o2, pw2, e2, o3, pw3, e3]
  refine step _ _ _ _ _ _ (fun c h1 => ?_) (fun i hi => ?_)
  · repeat (first | rw [u2_ne _ _ _ h1])
  · rcases (by omega : i = 0 ∨ i = 1 ∨ i = 2 ∨ i = 3) with rfl | rfl | rfl | rfl <;> simp [u2_rd, z0, e0, e1, e2, e3]
set_option maxRecDepth 100000 in
set_option maxHeartbeats 8000000 in
theorem c_stF_0 {n sl : Nat} {C Z : Nat → Nat} {I : Nat → Nat → Int32} {L : Nat → Nat → Int64} {R : Nat → Nat → Nat} {q : Nat} {u : Int32} {A B K : Nat → Int} {d : Int} (hc : CM C Z I R q 0 u A B K d) (hK : LayK C Z R) (hR : R 8 0 = q) (lk : LK L 8 0 A B K) (kf : isa (C q) 1 = true) (hA : ∀ i, i < 9 → bn 12 (A i)) {k pc : Nat} {ls : Lo} {st : List Value} {Q : Option Value → Hp → Prop} (go1 : RH 0 (op A 0) → Wp k pc ls (.int 1 :: st) (n, sl, C, Z, I, L, R) Q) (go0 : ¬ RH 0 (op A 0) → Wp k pc ls (.int 0 :: st) (n, sl, C, Z, I, L, R) Q) : Call 25 [some (.ref 8)] (n, sl, C, Z, I, L, R) k pc ls st Q := by
  obtain ⟨⟨g0, g1, g2, g3, g4, g5⟩, -⟩ := id hc
  unfold LayK at hK
  have n0 : nI 0 = 0 := rfl
  simp [S25_0, S26_0, S26_1, Call_in (k2 := 25), Call_in (k2 := 26), BS, ixs, inbs, hK, hR, kf, g0, g4, g5, n0, lg_gt, lg_le]
  exact go1 ⟨fun i hi => absurd hi (by omega), Or.inl (by omega)⟩
set_option maxRecDepth 100000 in
set_option maxHeartbeats 8000000 in
theorem c_stF_1 {n sl : Nat} {C Z : Nat → Nat} {I : Nat → Nat → Int32} {L : Nat → Nat → Int64} {R : Nat → Nat → Nat} {q : Nat} {u : Int32} {A B K : Nat → Int} {d : Int} (hc : CM C Z I R q 1 u A B K d) (hK : LayK C Z R) (hR : R 8 0 = q) (lk : LK L 8 1 A B K) (kf : isa (C q) 1 = true) (hA : ∀ i, i < 9 → bn 12 (A i)) {k pc : Nat} {ls : Lo} {st : List Value} {Q : Option Value → Hp → Prop} (go1 : RH 1 (op A 1) → Wp k pc ls (.int 1 :: st) (n, sl, C, Z, I, L, R) Q) (go0 : ¬ RH 1 (op A 1) → Wp k pc ls (.int 0 :: st) (n, sl, C, Z, I, L, R) Q) : Call 25 [some (.ref 8)] (n, sl, C, Z, I, L, R) k pc ls st Q := by
  obtain ⟨⟨g0, g1, g2, g3, g4, g5⟩, -⟩ := id hc
  unfold LayK at hK
  have n0 : nI 1 = 1 := rfl
  have o0 : L 27 0 = wL (op A 1 0) := lk.2.2 0 (by omega)
  have b0 : bn 36 (op A 1 0) := (bn_cf hA).2.1
  have t0 : (0 : Int64) < wL (op A 1 0) ↔ 0 < op A 1 0 := by unfold bn at b0; rw [← wL_0]; exact wL_lt (by omega) (by omega) (by omega) (by omega)
  by_cases h0 : 0 < op A 1 0
  case neg =>
    have q0 : ¬ (0 : Int64) < wL (op A 1 0) := fun h => h0 (t0.mp h)
    simp [S25_0, S26_0, S26_1, Call_in (k2 := 25), Call_in (k2 := 26), BS, ixs, inbs, hK, hR, kf, g0, g4, g5, n0, lg_gt, lg_le, o0, q0]
    exact go0 (fun h => h0 (h.1 0 (by omega)))
  have q0 := t0.mpr h0
  simp [S25_0, S26_0, S26_1, Call_in (k2 := 25), Call_in (k2 := 26), BS, ixs, inbs, hK, hR, kf, g0, g4, g5, n0, lg_gt, lg_le, o0, q0]
  refine go1 ⟨fun i hi => ?_, Or.inl (by omega)⟩
  rcases (by omega : i = 0) with rfl
  · exact h0
set_option maxRecDepth 100000 in
set_option maxHeartbeats 8000000 in
theorem c_stF_2 {n sl : Nat} {C Z : Nat → Nat} {I : Nat → Nat → Int32} {L : Nat → Nat → Int64} {R : Nat → Nat → Nat} {q : Nat} {u : Int32} {A B K : Nat → Int} {d : Int} (hc : CM C Z I R q 2 u A B K d) (hK : LayK C Z R) (hR : R 8 0 = q) (lk : LK L 8 2 A B K) (kf : isa (C q) 1 = true) (hA : ∀ i, i < 9 → bn 12 (A i)) {k pc : Nat} {ls : Lo} {st : List Value} {Q : Option Value → Hp → Prop} (go1 : RH 2 (op A 2) → Wp k pc ls (.int 1 :: st) (n, sl, C, Z, I, L, R) Q) (go0 : ¬ RH 2 (op A 2) → Wp k pc ls (.int 0 :: st) (n, sl, C, Z, I, L, R) Q) : Call 25 [some (.ref 8)] (n, sl, C, Z, I, L, R) k pc ls st Q := by
  obtain ⟨⟨g0, g1, g2, g3, g4, g5⟩, -⟩ := id hc
  unfold LayK at hK
  have n0 : nI 2 = 2 := rfl
  have o0 : L 27 0 = wL (op A 2 0) := lk.2.2 0 (by omega)
  have b0 : bn 864 (op A 2 0) := (bn_cf hA).2.2.1
  have t0 : (0 : Int64) < wL (op A 2 0) ↔ 0 < op A 2 0 := by unfold bn at b0; rw [← wL_0]; exact wL_lt (by omega) (by omega) (by omega) (by omega)
  have o1 : L 27 1 = wL (op A 2 1) := lk.2.2 1 (by omega)
  have b1 : bn 36 (op A 2 1) := (bn_cf hA).2.1
  have t1 : (0 : Int64) < wL (op A 2 1) ↔ 0 < op A 2 1 := by unfold bn at b1; rw [← wL_0]; exact wL_lt (by omega) (by omega) (by omega) (by omega)
  by_cases h0 : 0 < op A 2 0
  case neg =>
    have q0 : ¬ (0 : Int64) < wL (op A 2 0) := fun h => h0 (t0.mp h)
    simp [S25_0, S26_0, S26_1, Call_in (k2 := 25), Call_in (k2 := 26), BS, ixs, inbs, hK, hR, kf, g0, g4, g5, n0, lg_gt, lg_le, o0, q0]
    exact go0 (fun h => h0 (h.1 0 (by omega)))
  have q0 := t0.mpr h0
  by_cases h1 : 0 < op A 2 1
  case neg =>
    have q1 : ¬ (0 : Int64) < wL (op A 2 1) := fun h => h1 (t1.mp h)
    simp [S25_0, S26_0, S26_1, Call_in (k2 := 25), Call_in (k2 := 26), BS, ixs, inbs, hK, hR, kf, g0, g4, g5, n0, lg_gt, lg_le, o0, q0, o1, q1]
    exact go0 (fun h => h1 (h.1 1 (by omega)))
  have q1 := t1.mpr h1
  simp [S25_0, S26_0, S26_1, Call_in (k2 := 25), Call_in (k2 := 26), BS, ixs, inbs, hK, hR, kf, g0, g4, g5, n0, lg_gt, lg_le, o0, q0, o1, q1]
  refine go1 ⟨fun i hi => ?_, Or.inl (by omega)⟩
  rcases (by omega : i = 0 ∨ i = 1) with rfl | rfl
  · exact h0
  · exact h1
set_option maxRecDepth 100000 in
set_option maxHeartbeats 8000000 in
theorem c_stF_3 {n sl : Nat} {C Z : Nat → Nat} {I : Nat → Nat → Int32} {L : Nat → Nat → Int64} {R : Nat → Nat → Nat} {q : Nat} {u : Int32} {A B K : Nat → Int} {d : Int} (hc : CM C Z I R q 3 u A B K d) (hK : LayK C Z R) (hR : R 8 0 = q) (lk : LK L 8 3 A B K) (kf : isa (C q) 1 = true) (hA : ∀ i, i < 9 → bn 12 (A i)) {k pc : Nat} {ls : Lo} {st : List Value} {Q : Option Value → Hp → Prop} (go1 : RH 3 (op A 3) → Wp k pc ls (.int 1 :: st) (n, sl, C, Z, I, L, R) Q) (go0 : ¬ RH 3 (op A 3) → Wp k pc ls (.int 0 :: st) (n, sl, C, Z, I, L, R) Q) : Call 25 [some (.ref 8)] (n, sl, C, Z, I, L, R) k pc ls st Q := by
  obtain ⟨⟨g0, g1, g2, g3, g4, g5⟩, -⟩ := id hc
  unfold LayK at hK
  have n0 : nI 3 = 3 := rfl
  have o0 : L 27 0 = wL (op A 3 0) := lk.2.2 0 (by omega)
  have b0 : bn 10368 (op A 3 0) := (bn_cf hA).2.2.2
  have t0 : (0 : Int64) < wL (op A 3 0) ↔ 0 < op A 3 0 := by unfold bn at b0; rw [← wL_0]; exact wL_lt (by omega) (by omega) (by omega) (by omega)
  have o1 : L 27 1 = wL (op A 3 1) := lk.2.2 1 (by omega)
  have b1 : bn 864 (op A 3 1) := (bn_cf hA).2.2.1
  have t1 : (0 : Int64) < wL (op A 3 1) ↔ 0 < op A 3 1 := by unfold bn at b1; rw [← wL_0]; exact wL_lt (by omega) (by omega) (by omega) (by omega)
  have o2 : L 27 2 = wL (op A 3 2) := lk.2.2 2 (by omega)
  have b2 : bn 36 (op A 3 2) := (bn_cf hA).2.1
  have t2 : (0 : Int64) < wL (op A 3 2) ↔ 0 < op A 3 2 := by unfold bn at b2; rw [← wL_0]; exact wL_lt (by omega) (by omega) (by omega) (by omega)
  have b21 := bn_mul b2 b1
  have tq : wL (op A 3 0) < wL (op A 3 2 * op A 3 1) ↔ op A 3 0 < op A 3 2 * op A 3 1 := by unfold bn at b0 b21; exact wL_lt (by omega) (by omega) (by omega) (by omega)
  by_cases h0 : 0 < op A 3 0
  case neg =>
    have q0 : ¬ (0 : Int64) < wL (op A 3 0) := fun h => h0 (t0.mp h)
    simp [S25_0, S26_0, S26_1, Call_in (k2 := 25), Call_in (k2 := 26), BS, ixs, inbs, hK, hR, kf, g0, g4, g5, n0, lg_gt, lg_le, o0, q0]
    exact go0 (fun h => h0 (h.1 0 (by omega)))
  have q0 := t0.mpr h0
  by_cases h1 : 0 < op A 3 1
  case neg =>
    have q1 : ¬ (0 : Int64) < wL (op A 3 1) := fun h => h1 (t1.mp h)
    simp [S25_0, S26_0, S26_1, Call_in (k2 := 25), Call_in (k2 := 26), BS, ixs, inbs, hK, hR, kf, g0, g4, g5, n0, lg_gt, lg_le, o0, q0, o1, q1]
    exact go0 (fun h => h1 (h.1 1 (by omega)))
  have q1 := t1.mpr h1
  by_cases h2 : 0 < op A 3 2
  case neg =>
    have q2 : ¬ (0 : Int64) < wL (op A 3 2) := fun h => h2 (t2.mp h)
    simp [S25_0, S26_0, S26_1, Call_in (k2 := 25), Call_in (k2 := 26), BS, ixs, inbs, hK, hR, kf, g0, g4, g5, n0, lg_gt, lg_le, o0, q0, o1, q1, o2, q2]
    exact go0 (fun h => h2 (h.1 2 (by omega)))
  have q2 := t2.mpr h2
  by_cases hh : op A 3 0 < op A 3 2 * op A 3 1
  · have qq := tq.mpr hh
    simp [S25_0, S26_0, S26_1, Call_in (k2 := 25), Call_in (k2 := 26), BS, ixs, inbs, hK, hR, kf, g0, g4, g5, n0, lg_gt, lg_le, o0, q0, o1, q1, o2, q2, wL_mul, qq]
    refine go1 ⟨fun i hi => ?_, Or.inr hh⟩
    rcases (by omega : i = 0 ∨ i = 1 ∨ i = 2) with rfl | rfl | rfl
    · exact h0
    · exact h1
    · exact h2
  · have qq : ¬ _ := fun h => hh (tq.mp h)
    simp [S25_0, S26_0, S26_1, Call_in (k2 := 25), Call_in (k2 := 26), BS, ixs, inbs, hK, hR, kf, g0, g4, g5, n0, lg_gt, lg_le, o0, q0, o1, q1, o2, q2, wL_mul, qq]
    exact go0 (fun h => hh (h.2.resolve_left (by omega)))
