set_option maxRecDepth 100000 in
set_option maxHeartbeats 8000000 in
theorem mr1_1 {n sl : Nat} {C Z : Nat → Nat} {I : Nat → Nat → Int32} {L : Nat → Nat → Int64} {R : Nat → Nat → Nat} {Q : Option Value → Hp → Prop} {m : Nat} {X : Nat → Nat → Int} {p4 : Int32} {l6 l7 l8 l9 l10 : Option Value} (hM : LayM C Z R) (h0 : L 95 0 = wL (X 0 0) ∧ L 95 1 = wL (X 0 1) ∧ L 95 2 = wL (X 0 2)) (hi : L 95 3 = wL (X 1 0) ∧ L 95 4 = wL (X 1 1) ∧ L 95 5 = wL (X 1 2)) (b0 : ∀ c, c < 3 → bn 1073741824 (X 0 c)) (bi : ∀ c, c < 3 → bn 1073741824 (X 1 c)) (go : ∀ L' l6' l8' l10', (∀ c, c ≠ 95 → L' c = L c) → (∀ x, x ≠ 3 → x ≠ 4 → x ≠ 5 → L' 95 x = L 95 x) → (L' 95 3 = wL (el X 1 0) ∧ L' 95 4 = wL (el X 1 1) ∧ L' 95 5 = wL (el X 1 2)) → Br 128 270 125 [some (.ref 74), some (.int (nI m)), some (.int (nI 0)), some (.int (nI 0)), some (.int p4), some (.int (nI 2)), l6', none, l8', none, l10'] [] (n, sl, C, Z, I, L', R) Q (nI m ≤ nI 2)) : Wp 128 125 [some (.ref 74), some (.int (nI m)), some (.int (nI 0)), some (.int (nI 0)), some (.int p4), some (.int (nI 1)), l6, l7, l8, l9, l10] [] (n, sl, C, Z, I, L, R) Q := by
  unfold LayM at hM
  obtain ⟨a0, a1, a2⟩ := h0
  obtain ⟨c0, c1, c2⟩ := hi
  have bx : ∀ c, c < 3 → bn 4611686018427387904 (x3 X 1 c) := fun c hc => bn_le (bn_sub (bn_mul (bi c hc) (b0 0 (by omega))) (bn_mul (b0 c hc) (bi 0 (by omega)))) (by decide)
  have e0 : wL (X 1 0 * X 0 0 - X 0 0 * X 1 0) = wL (x3 X 1 0) := rfl
  have e1 : wL (X 1 1 * X 0 0 - X 0 1 * X 1 0) = wL (x3 X 1 1) := rfl
  have e2 : wL (X 1 2 * X 0 0 - X 0 2 * X 1 0) = wL (x3 X 1 2) := rfl
  obtain ⟨y0, hy0⟩ : ∃ y, y = x3 X 1 0 := ⟨_, rfl⟩
  obtain ⟨y1, hy1⟩ : ∃ y, y = x3 X 1 1 := ⟨_, rfl⟩
  obtain ⟨y2, hy2⟩ : ∃ y, y = x3 X 1 2 := ⟨_, rfl⟩
  have b0' := bx 0 (by omega)
  have b1' := bx 1 (by omega)
  have b2' := bx 2 (by omega)
  rw [← hy0] at b0' e0
  rw [← hy1] at b1' e1
  rw [← hy2] at b2' e2
  obtain ⟨G0, hG0⟩ : ∃ g, g = (Int.gcd 0 y0 : Int) := ⟨_, rfl⟩
  have g0b : bn 9223372036854775807 G0 := by
    rw [hG0, Int.gcd_zero_left]; unfold bn at *; omega
  have m0 := fun h k pc ls st Q => m_common (a := 0) (b := y0) (by unfold bn; decide) (bn_le b0' (by decide)) h k pc ls st Q
  simp only [wL_0, lN_gcd, ← hG0] at m0
  obtain ⟨G1, hG1⟩ : ∃ g, g = (Int.gcd G0 y1 : Int) := ⟨_, rfl⟩
  have g1b : bn 9223372036854775807 G1 := by
    rw [hG1]
    by_cases z : y1 = 0
    · rw [z, Int.gcd_zero_right]; unfold bn at *; omega
    · exact gcd_bn (bn_le b1' (by decide)) z
  have m1 := fun h k pc ls st Q => m_common (a := G0) (b := y1) g0b (bn_le b1' (by decide)) h k pc ls st Q
  simp only [lN_gcd, ← hG1] at m1
  have m2 := fun h k pc ls st Q => m_common (a := G1) (b := y2) g1b (bn_le b2' (by decide)) h k pc ls st Q
  obtain ⟨g, hg⟩ : ∃ g, g = (Int.gcd G1 y2 : Int) := ⟨_, rfl⟩
  have g2b : bn 9223372036854775807 g := by
    rw [hg]
    by_cases z : y2 = 0
    · rw [z, Int.gcd_zero_right]; unfold bn at *; omega
    · exact gcd_bn (bn_le b2' (by decide)) z
  simp only [lN_gcd, ← hg] at m2
  have hg3 : g3 X 1 = g := by rw [hg, hG1, hG0, hy0, hy1, hy2]; rfl
  have gn : 0 ≤ g := by rw [hg]; omega
  unfold bn at g2b
  have p0 : (0 : Int64) < wL g ↔ 0 < g := by rw [← wL_0]; exact wL_lt (by omega) (by omega) (by omega) (by omega)
  have ev : ∀ c, c < 3 → el X 1 c = x3 X 1 c / g := fun c _ => by rw [← hg3]; rfl
  have v0 := ev 0 (by omega)
  have v1 := ev 1 (by omega)
  have v2 := ev 2 (by omega)
  rw [← hy0] at v0
  rw [← hy1] at v1
  rw [← hy2] at v2
  have n0 : nI 0 = 0 := rfl
  have n1 : nI 1 = 1 := rfl
  have n2 : nI 2 = 2 := rfl
  have n3 : nI 3 = 3 := rfl
  have n4 : nI 4 = 4 := rfl
  simp only [n0, n1, n2, n3, n4] at go ⊢
  by_cases gz : g = 0
  · have z : ¬ (0 : Int64) < wL g := by rw [p0]; omega
    have w0 : y0 = 0 := by rw [hy0]; exact g3_zero (hg3.trans gz) 0 (by omega)
    have w1 : y1 = 0 := by rw [hy1]; exact g3_zero (hg3.trans gz) 1 (by omega)
    have w2 : y2 = 0 := by rw [hy2]; exact g3_zero (hg3.trans gz) 2 (by omega)
    simp [S128_0, S128_1, S128_2, S128_3, S128_4, S128_5, S128_6, BS, ixs, inbs, hM, u2_rd, a0, a1, a2, c0, c1, c2, wL_mul, wL_sub, e0, e1, e2, m0, m1, m2, lg_le, z]
    refine go _ _ _ _ (fun c h => ?_) (fun x q1 q2 q3 => ?_) ⟨?_, ?_, ?_⟩
    · repeat (first | rw [u2_ne _ _ _ h])
    · simp [u2_rd, q1, q2, q3]
    · simp [u2_rd, v0, w0]
    · simp [u2_rd, v1, w1]
    · simp [u2_rd, v2, w2]
  · have z : (0 : Int64) < wL g := by rw [p0]; omega
    have zn : ¬ wL g = 0 := by rw [wL_eq0 (by omega) (by omega)]; exact gz
    have dv : ∀ c, c < 3 → wL (x3 X 1 c) / wL g = wL (x3 X 1 c / g) := fun c hc => by
      rw [wL_div (bn_le (bx c hc) (by decide)) (by unfold bn; omega), Int.tdiv_eq_ediv_of_dvd (by rw [← hg3]; exact g3_dvd X 1 c hc)]
    have d0 := dv 0 (by omega)
    have d1 := dv 1 (by omega)
    have d2 := dv 2 (by omega)
    rw [← hy0] at d0
    rw [← hy1] at d1
    rw [← hy2] at d2
    simp [S128_0, S128_1, S128_2, S128_3, S128_4, S128_5, S128_6, BS, ixs, inbs, hM, u2_rd, a0, a1, a2, c0, c1, c2, wL_mul, wL_sub, e0, e1, e2, m0, m1, m2, lg_le, z, zn, d0, d1, d2]
    refine go _ _ _ _ (fun c h => ?_) (fun x q1 q2 q3 => ?_) ⟨?_, ?_, ?_⟩
    · repeat (first | rw [u2_ne _ _ _ h])
    · simp [u2_rd, q1, q2, q3]
    · simp [u2_rd, v0]
    · simp [u2_rd, v1]
    · simp [u2_rd, v2]
set_option maxRecDepth 100000 in
set_option maxHeartbeats 8000000 in
theorem mr1_2 {n sl : Nat} {C Z : Nat → Nat} {I : Nat → Nat → Int32} {L : Nat → Nat → Int64} {R : Nat → Nat → Nat} {Q : Option Value → Hp → Prop} {m : Nat} {X : Nat → Nat → Int} {p4 : Int32} {l6 l7 l8 l9 l10 : Option Value} (hM : LayM C Z R) (h0 : L 95 0 = wL (X 0 0) ∧ L 95 1 = wL (X 0 1) ∧ L 95 2 = wL (X 0 2)) (hi : L 95 6 = wL (X 2 0) ∧ L 95 7 = wL (X 2 1) ∧ L 95 8 = wL (X 2 2)) (b0 : ∀ c, c < 3 → bn 1073741824 (X 0 c)) (bi : ∀ c, c < 3 → bn 1073741824 (X 2 c)) (go : ∀ L' l6' l8' l10', (∀ c, c ≠ 95 → L' c = L c) → (∀ x, x ≠ 6 → x ≠ 7 → x ≠ 8 → L' 95 x = L 95 x) → (L' 95 6 = wL (el X 2 0) ∧ L' 95 7 = wL (el X 2 1) ∧ L' 95 8 = wL (el X 2 2)) → Br 128 270 125 [some (.ref 74), some (.int (nI m)), some (.int (nI 0)), some (.int (nI 0)), some (.int p4), some (.int (nI 3)), l6', none, l8', none, l10'] [] (n, sl, C, Z, I, L', R) Q (nI m ≤ nI 3)) : Wp 128 125 [some (.ref 74), some (.int (nI m)), some (.int (nI 0)), some (.int (nI 0)), some (.int p4), some (.int (nI 2)), l6, l7, l8, l9, l10] [] (n, sl, C, Z, I, L, R) Q := by
  unfold LayM at hM
  obtain ⟨a0, a1, a2⟩ := h0
  obtain ⟨c0, c1, c2⟩ := hi
  have bx : ∀ c, c < 3 → bn 4611686018427387904 (x3 X 2 c) := fun c hc => bn_le (bn_sub (bn_mul (bi c hc) (b0 0 (by omega))) (bn_mul (b0 c hc) (bi 0 (by omega)))) (by decide)
  have e0 : wL (X 2 0 * X 0 0 - X 0 0 * X 2 0) = wL (x3 X 2 0) := rfl
  have e1 : wL (X 2 1 * X 0 0 - X 0 1 * X 2 0) = wL (x3 X 2 1) := rfl
  have e2 : wL (X 2 2 * X 0 0 - X 0 2 * X 2 0) = wL (x3 X 2 2) := rfl
  obtain ⟨y0, hy0⟩ : ∃ y, y = x3 X 2 0 := ⟨_, rfl⟩
  obtain ⟨y1, hy1⟩ : ∃ y, y = x3 X 2 1 := ⟨_, rfl⟩
  obtain ⟨y2, hy2⟩ : ∃ y, y = x3 X 2 2 := ⟨_, rfl⟩
  have b0' := bx 0 (by omega)
  have b1' := bx 1 (by omega)
  have b2' := bx 2 (by omega)
  rw [← hy0] at b0' e0
  rw [← hy1] at b1' e1
  rw [← hy2] at b2' e2
  obtain ⟨G0, hG0⟩ : ∃ g, g = (Int.gcd 0 y0 : Int) := ⟨_, rfl⟩
  have g0b : bn 9223372036854775807 G0 := by
    rw [hG0, Int.gcd_zero_left]; unfold bn at *; omega
  have m0 := fun h k pc ls st Q => m_common (a := 0) (b := y0) (by unfold bn; decide) (bn_le b0' (by decide)) h k pc ls st Q
  simp only [wL_0, lN_gcd, ← hG0] at m0
  obtain ⟨G1, hG1⟩ : ∃ g, g = (Int.gcd G0 y1 : Int) := ⟨_, rfl⟩
  have g1b : bn 9223372036854775807 G1 := by
    rw [hG1]
    by_cases z : y1 = 0
    · rw [z, Int.gcd_zero_right]; unfold bn at *; omega
    · exact gcd_bn (bn_le b1' (by decide)) z
  have m1 := fun h k pc ls st Q => m_common (a := G0) (b := y1) g0b (bn_le b1' (by decide)) h k pc ls st Q
  simp only [lN_gcd, ← hG1] at m1
  have m2 := fun h k pc ls st Q => m_common (a := G1) (b := y2) g1b (bn_le b2' (by decide)) h k pc ls st Q
  obtain ⟨g, hg⟩ : ∃ g, g = (Int.gcd G1 y2 : Int) := ⟨_, rfl⟩
  have g2b : bn 9223372036854775807 g := by
    rw [hg]
    by_cases z : y2 = 0
    · rw [z, Int.gcd_zero_right]; unfold bn at *; omega
    · exact gcd_bn (bn_le b2' (by decide)) z
  simp only [lN_gcd, ← hg] at m2
  have hg3 : g3 X 2 = g := by rw [hg, hG1, hG0, hy0, hy1, hy2]; rfl
  have gn : 0 ≤ g := by rw [hg]; omega
  unfold bn at g2b
  have p0 : (0 : Int64) < wL g ↔ 0 < g := by rw [← wL_0]; exact wL_lt (by omega) (by omega) (by omega) (by omega)
  have ev : ∀ c, c < 3 → el X 2 c = x3 X 2 c / g := fun c _ => by rw [← hg3]; rfl
  have v0 := ev 0 (by omega)
  have v1 := ev 1 (by omega)
  have v2 := ev 2 (by omega)
  rw [← hy0] at v0
  rw [← hy1] at v1
  rw [← hy2] at v2
  have n0 : nI 0 = 0 := rfl
  have n1 : nI 1 = 1 := rfl
  have n2 : nI 2 = 2 := rfl
  have n3 : nI 3 = 3 := rfl
  have n4 : nI 4 = 4 := rfl
  simp only [n0, n1, n2, n3, n4] at go ⊢
  by_cases gz : g = 0
  · have z : ¬ (0 : Int64) < wL g := by rw [p0]; omega
    have w0 : y0 = 0 := by rw [hy0]; exact g3_zero (hg3.trans gz) 0 (by omega)
    have w1 : y1 = 0 := by rw [hy1]; exact g3_zero (hg3.trans gz) 1 (by omega)
    have w2 : y2 = 0 := by rw [hy2]; exact g3_zero (hg3.trans gz) 2 (by omega)
    simp [S128_0, S128_1, S128_2, S128_3, S128_4, S128_5, S128_6, BS, ixs, inbs, hM, u2_rd, a0, a1, a2, c0, c1, c2, wL_mul, wL_sub, e0, e1, e2, m0, m1, m2, lg_le, z]
    refine go _ _ _ _ (fun c h => ?_) (fun x q1 q2 q3 => ?_) ⟨?_, ?_, ?_⟩
    · repeat (first | rw [u2_ne _ _ _ h])
    · simp [u2_rd, q1, q2, q3]
    · simp [u2_rd, v0, w0]
    · simp [u2_rd, v1, w1]
    · simp [u2_rd, v2, w2]
  · have z : (0 : Int64) < wL g := by rw [p0]; omega
    have zn : ¬ wL g = 0 := by rw [wL_eq0 (by omega) (by omega)]; exact gz
    have dv : ∀ c, c < 3 → wL (x3 X 2 c) / wL g = wL (x3 X 2 c / g) := fun c hc => by
      rw [wL_div (bn_le (bx c hc) (by decide)) (by unfold bn; omega), Int.tdiv_eq_ediv_of_dvd (by rw [← hg3]; exact g3_dvd X 2 c hc)]
    have d0 := dv 0 (by omega)
    have d1 := dv 1 (by omega)
    have d2 := dv 2 (by omega)
    rw [← hy0] at d0
    rw [← hy1] at d1
    rw [← hy2] at d2
    simp [S128_0, S128_1, S128_2, S128_3, S128_4, S128_5, S128_6, BS, ixs, inbs, hM, u2_rd, a0, a1, a2, c0, c1, c2, wL_mul, wL_sub, e0, e1, e2, m0, m1, m2, lg_le, z, zn, d0, d1, d2]
    refine go _ _ _ _ (fun c h => ?_) (fun x q1 q2 q3 => ?_) ⟨?_, ?_, ?_⟩
    · repeat (first | rw [u2_ne _ _ _ h])
    · simp [u2_rd, q1, q2, q3]
    · simp [u2_rd, v0]
    · simp [u2_rd, v1]
    · simp [u2_rd, v2]
set_option maxRecDepth 100000 in
set_option maxHeartbeats 8000000 in
theorem mr1_3 {n sl : Nat} {C Z : Nat → Nat} {I : Nat → Nat → Int32} {L : Nat → Nat → Int64} {R : Nat → Nat → Nat} {Q : Option Value → Hp → Prop} {m : Nat} {X : Nat → Nat → Int} {p4 : Int32} {l6 l7 l8 l9 l10 : Option Value} (hM : LayM C Z R) (h0 : L 95 0 = wL (X 0 0) ∧ L 95 1 = wL (X 0 1) ∧ L 95 2 = wL (X 0 2)) (hi : L 95 9 = wL (X 3 0) ∧ L 95 10 = wL (X 3 1) ∧ L 95 11 = wL (X 3 2)) (b0 : ∀ c, c < 3 → bn 1073741824 (X 0 c)) (bi : ∀ c, c < 3 → bn 1073741824 (X 3 c)) (go : ∀ L' l6' l8' l10', (∀ c, c ≠ 95 → L' c = L c) → (∀ x, x ≠ 9 → x ≠ 10 → x ≠ 11 → L' 95 x = L 95 x) → (L' 95 9 = wL (el X 3 0) ∧ L' 95 10 = wL (el X 3 1) ∧ L' 95 11 = wL (el X 3 2)) → Br 128 270 125 [some (.ref 74), some (.int (nI m)), some (.int (nI 0)), some (.int (nI 0)), some (.int p4), some (.int (nI 4)), l6', none, l8', none, l10'] [] (n, sl, C, Z, I, L', R) Q (nI m ≤ nI 4)) : Wp 128 125 [some (.ref 74), some (.int (nI m)), some (.int (nI 0)), some (.int (nI 0)), some (.int p4), some (.int (nI 3)), l6, l7, l8, l9, l10] [] (n, sl, C, Z, I, L, R) Q := by
  unfold LayM at hM
  obtain ⟨a0, a1, a2⟩ := h0
  obtain ⟨c0, c1, c2⟩ := hi
  have bx : ∀ c, c < 3 → bn 4611686018427387904 (x3 X 3 c) := fun c hc => bn_le (bn_sub (bn_mul (bi c hc) (b0 0 (by omega))) (bn_mul (b0 c hc) (bi 0 (by omega)))) (by decide)
  have e0 : wL (X 3 0 * X 0 0 - X 0 0 * X 3 0) = wL (x3 X 3 0) := rfl
  have e1 : wL (X 3 1 * X 0 0 - X 0 1 * X 3 0) = wL (x3 X 3 1) := rfl
  have e2 : wL (X 3 2 * X 0 0 - X 0 2 * X 3 0) = wL (x3 X 3 2) := rfl
  obtain ⟨y0, hy0⟩ : ∃ y, y = x3 X 3 0 := ⟨_, rfl⟩
  obtain ⟨y1, hy1⟩ : ∃ y, y = x3 X 3 1 := ⟨_, rfl⟩
  obtain ⟨y2, hy2⟩ : ∃ y, y = x3 X 3 2 := ⟨_, rfl⟩
  have b0' := bx 0 (by omega)
  have b1' := bx 1 (by omega)
  have b2' := bx 2 (by omega)
  rw [← hy0] at b0' e0
  rw [← hy1] at b1' e1
  rw [← hy2] at b2' e2
  obtain ⟨G0, hG0⟩ : ∃ g, g = (Int.gcd 0 y0 : Int) := ⟨_, rfl⟩
  have g0b : bn 9223372036854775807 G0 := by
    rw [hG0, Int.gcd_zero_left]; unfold bn at *; omega
  have m0 := fun h k pc ls st Q => m_common (a := 0) (b := y0) (by unfold bn; decide) (bn_le b0' (by decide)) h k pc ls st Q
  simp only [wL_0, lN_gcd, ← hG0] at m0
  obtain ⟨G1, hG1⟩ : ∃ g, g = (Int.gcd G0 y1 : Int) := ⟨_, rfl⟩
  have g1b : bn 9223372036854775807 G1 := by
    rw [hG1]
    by_cases z : y1 = 0
    · rw [z, Int.gcd_zero_right]; unfold bn at *; omega
    · exact gcd_bn (bn_le b1' (by decide)) z
  have m1 := fun h k pc ls st Q => m_common (a := G0) (b := y1) g0b (bn_le b1' (by decide)) h k pc ls st Q
  simp only [lN_gcd, ← hG1] at m1
  have m2 := fun h k pc ls st Q => m_common (a := G1) (b := y2) g1b (bn_le b2' (by decide)) h k pc ls st Q
  obtain ⟨g, hg⟩ : ∃ g, g = (Int.gcd G1 y2 : Int) := ⟨_, rfl⟩
  have g2b : bn 9223372036854775807 g := by
    rw [hg]
    by_cases z : y2 = 0
    · rw [z, Int.gcd_zero_right]; unfold bn at *; omega
    · exact gcd_bn (bn_le b2' (by decide)) z
  simp only [lN_gcd, ← hg] at m2
  have hg3 : g3 X 3 = g := by rw [hg, hG1, hG0, hy0, hy1, hy2]; rfl
  have gn : 0 ≤ g := by rw [hg]; omega
  unfold bn at g2b
  have p0 : (0 : Int64) < wL g ↔ 0 < g := by rw [← wL_0]; exact wL_lt (by omega) (by omega) (by omega) (by omega)
  have ev : ∀ c, c < 3 → el X 3 c = x3 X 3 c / g := fun c _ => by rw [← hg3]; rfl
  have v0 := ev 0 (by omega)
  have v1 := ev 1 (by omega)
  have v2 := ev 2 (by omega)
  rw [← hy0] at v0
  rw [← hy1] at v1
  rw [← hy2] at v2
  have n0 : nI 0 = 0 := rfl
  have n1 : nI 1 = 1 := rfl
  have n2 : nI 2 = 2 := rfl
  have n3 : nI 3 = 3 := rfl
  have n4 : nI 4 = 4 := rfl
  simp only [n0, n1, n2, n3, n4] at go ⊢
  by_cases gz : g = 0
  · have z : ¬ (0 : Int64) < wL g := by rw [p0]; omega
    have w0 : y0 = 0 := by rw [hy0]; exact g3_zero (hg3.trans gz) 0 (by omega)
    have w1 : y1 = 0 := by rw [hy1]; exact g3_zero (hg3.trans gz) 1 (by omega)
    have w2 : y2 = 0 := by rw [hy2]; exact g3_zero (hg3.trans gz) 2 (by omega)
    simp [S128_0, S128_1, S128_2, S128_3, S128_4, S128_5, S128_6, BS, ixs, inbs, hM, u2_rd, a0, a1, a2, c0, c1, c2, wL_mul, wL_sub, e0, e1, e2, m0, m1, m2, lg_le, z]
    refine go _ _ _ _ (fun c h => ?_) (fun x q1 q2 q3 => ?_) ⟨?_, ?_, ?_⟩
    · repeat (first | rw [u2_ne _ _ _ h])
    · simp [u2_rd, q1, q2, q3]
    · simp [u2_rd, v0, w0]
    · simp [u2_rd, v1, w1]
    · simp [u2_rd, v2, w2]
  · have z : (0 : Int64) < wL g := by rw [p0]; omega
    have zn : ¬ wL g = 0 := by rw [wL_eq0 (by omega) (by omega)]; exact gz
    have dv : ∀ c, c < 3 → wL (x3 X 3 c) / wL g = wL (x3 X 3 c / g) := fun c hc => by
      rw [wL_div (bn_le (bx c hc) (by decide)) (by unfold bn; omega), Int.tdiv_eq_ediv_of_dvd (by rw [← hg3]; exact g3_dvd X 3 c hc)]
    have d0 := dv 0 (by omega)
    have d1 := dv 1 (by omega)
    have d2 := dv 2 (by omega)
    rw [← hy0] at d0
    rw [← hy1] at d1
    rw [← hy2] at d2
    simp [S128_0, S128_1, S128_2, S128_3, S128_4, S128_5, S128_6, BS, ixs, inbs, hM, u2_rd, a0, a1, a2, c0, c1, c2, wL_mul, wL_sub, e0, e1, e2, m0, m1, m2, lg_le, z, zn, d0, d1, d2]
    refine go _ _ _ _ (fun c h => ?_) (fun x q1 q2 q3 => ?_) ⟨?_, ?_, ?_⟩
    · repeat (first | rw [u2_ne _ _ _ h])
    · simp [u2_rd, q1, q2, q3]
    · simp [u2_rd, v0]
    · simp [u2_rd, v1]
    · simp [u2_rd, v2]
set_option maxRecDepth 100000 in
set_option maxHeartbeats 8000000 in
theorem el1_lp {n sl : Nat} {C Z : Nat → Nat} {I : Nat → Nat → Int32} {R : Nat → Nat → Nat} {Q : Option Value → Hp → Prop} {m : Nat} {X : Nat → Nat → Int} {p4 : Int32} (hM : LayM C Z R) (hm : m ≤ 4) (hb : ∀ i c, i < m → c < 3 → bn 1073741824 (X i c)) : ∀ d i L l6 l7 l8 l9 l10, i + d = m → 1 ≤ i → (∀ x c, x < i → c < 3 → L 95 (3 * x + c) = wL (el X x c)) → (∀ x c, i ≤ x → x < m → c < 3 → L 95 (3 * x + c) = wL (X x c)) → (∀ L', (∀ c, c ≠ 95 → L' c = L c) → (∀ x c, x < m → c < 3 → L' 95 (3 * x + c) = wL (el X x c)) → ∀ l5 l6 l7 l8 l9 l10, Br 128 279 9 [some (.ref 74), some (.int (nI m)), some (.int (nI 1)), some (.int (nI 1)), some (.int p4), l5, l6, l7, l8, l9, l10] [] (n, sl, C, Z, I, L', R) Q ((3 : Int32) ≤ nI 1)) → Br 128 270 125 [some (.ref 74), some (.int (nI m)), some (.int (nI 0)), some (.int (nI 0)), some (.int p4), some (.int (nI i)), l6, l7, l8, l9, l10] [] (n, sl, C, Z, I, L, R) Q (nI m ≤ nI i) := by
  have n0 : nI 0 = 0 := rfl
  have n1 : nI 1 = 1 := rfl
  intro d
  induction d with
  | zero =>
    intro i L l6 l7 l8 l9 l10 hi h1 ha hb2 go
    have e : i = m := by omega
    have c1 : nI m ≤ nI i := nI_le (by omega) (by omega)
    have gg := go L (fun _ _ => rfl) (fun x c hx hc => ha x c (by omega) hc) (some (.int (nI i))) l6 l7 l8 l9 l10
    refine Br_of (fun _ => ?_) (fun h => absurd c1 h)
    simp only [S128_0, S128_1, S128_2, S128_3, S128_4, S128_5, S128_6, nI_1]
    exact gg
  | succ d ih =>
    intro i L l6 l7 l8 l9 l10 hi h1 ha hb2 go
    refine Br_of (fun h => absurd h (nI_ge (by omega) (by omega))) (fun _ => ?_)
    have r0 : L 95 0 = wL (X 0 0) ∧ L 95 1 = wL (X 0 1) ∧ L 95 2 = wL (X 0 2) := ⟨ha 0 0 (by omega) (by omega), ha 0 1 (by omega) (by omega), ha 0 2 (by omega) (by omega)⟩
    have ri := fun c hc => hb2 i c (Nat.le_refl _) (by omega) hc
    have nx : ∀ L1 l6 l8 l10, (∀ c, c ≠ 95 → L1 c = L c) → (∀ x, x ≠ 3 * i → x ≠ 3 * i + 1 → x ≠ 3 * i + 2 → L1 95 x = L 95 x) → (∀ c, c < 3 → L1 95 (3 * i + c) = wL (el X i c)) → Br 128 270 125 [some (.ref 74), some (.int (nI m)), some (.int (nI 0)), some (.int (nI 0)), some (.int p4), some (.int (nI (i + 1))), l6, none, l8, none, l10] [] (n, sl, C, Z, I, L1, R) Q (nI m ≤ nI (i + 1)) := by
      intro L1 l6 l8 l10 f1 f2 f3
      refine ih (i + 1) L1 l6 none l8 none l10 (by omega) (by omega) (fun x c hx hc => ?_) (fun x c hx hxm hc => ?_) (fun L' g1 g2 => go L' (fun c h => by rw [g1 c h, f1 c h]) g2)
      · by_cases e : x = i
        · rw [e]; exact f3 c hc
        · rw [f2 (3 * x + c) (by omega) (by omega) (by omega)]; exact ha x c (by omega) hc
      · rw [f2 (3 * x + c) (by omega) (by omega) (by omega)]; exact hb2 x c (by omega) hxm hc
    rcases (by omega : i = 1 ∨ i = 2 ∨ i = 3) with rfl | rfl | rfl
    · exact mr1_1 hM r0 ⟨ri 0 (by omega), ri 1 (by omega), ri 2 (by omega)⟩ (fun c hc => hb 0 c (by omega) hc) (fun c hc => hb 1 c (by omega) hc) (fun L1 l6 l8 l10 f1 f2 f3 => nx L1 l6 l8 l10 f1 f2 (fun c hc => by rcases i3 hc with rfl | rfl | rfl <;> first | exact f3.1 | exact f3.2.1 | exact f3.2.2))
    · exact mr1_2 hM r0 ⟨ri 0 (by omega), ri 1 (by omega), ri 2 (by omega)⟩ (fun c hc => hb 0 c (by omega) hc) (fun c hc => hb 2 c (by omega) hc) (fun L1 l6 l8 l10 f1 f2 f3 => nx L1 l6 l8 l10 f1 f2 (fun c hc => by rcases i3 hc with rfl | rfl | rfl <;> first | exact f3.1 | exact f3.2.1 | exact f3.2.2))
    · exact mr1_3 hM r0 ⟨ri 0 (by omega), ri 1 (by omega), ri 2 (by omega)⟩ (fun c hc => hb 0 c (by omega) hc) (fun c hc => hb 3 c (by omega) hc) (fun L1 l6 l8 l10 f1 f2 f3 => nx L1 l6 l8 l10 f1 f2 (fun c hc => by rcases i3 hc with rfl | rfl | rfl <;> first | exact f3.1 | exact f3.2.1 | exact f3.2.2))
set_option maxRecDepth 100000 in
set_option maxHeartbeats 8000000 in
theorem el2_1_0 {n sl : Nat} {C Z : Nat → Nat} {I : Nat → Nat → Int32} {R : Nat → Nat → Nat} {Q : Option Value → Hp → Prop} {m : Nat} {p4 : Int32} (hM : LayM C Z R) (hm : m ≤ 4) : ∀ d i L l6 l7 l8 l9 l10, i + d = m → 1 ≤ i → (∀ x c, x = 0 ∨ (i ≤ x ∧ x < m) → c < 1 → L 95 (3 * x + c) = 0) → (∀ L', (∀ c, c ≠ 95 → L' c = L c) → (∀ x c, x < i → c < 3 → L' 95 (3 * x + c) = L 95 (3 * x + c)) → (∀ x, i ≤ x → x < m → L' 95 (3 * x) = 0 ∧ L' 95 (3 * x + 1) = 0 ∧ (L' 95 (3 * x + 2) = 0 ↔ L 95 (3 * x + 2) * L 95 1 - L 95 2 * L 95 (3 * x + 1) = 0)) → ∀ l5 l6 l7 l8 l9 l10, Br 128 279 9 [some (.ref 74), some (.int (nI m)), some (.int (nI 1)), some (.int (nI 2)), some (.int p4), l5, l6, l7, l8, l9, l10] [] (n, sl, C, Z, I, L', R) Q ((3 : Int32) ≤ nI 2)) → Br 128 270 125 [some (.ref 74), some (.int (nI m)), some (.int (nI 0)), some (.int (nI 1)), some (.int p4), some (.int (nI i)), l6, l7, l8, l9, l10] [] (n, sl, C, Z, I, L, R) Q (nI m ≤ nI i) := by
  have n0 : nI 0 = 0 := rfl
  have n1 : nI 1 = 1 := rfl
  have n2 : nI 2 = 2 := rfl
  have n3 : nI 3 = 3 := rfl
  have n4 : nI 4 = 4 := rfl
  intro d
  induction d with
  | zero =>
    intro i L l6 l7 l8 l9 l10 hi h1 hz go
    have c1 : nI m ≤ nI i := nI_le (by omega) (by omega)
    have gg := go L (fun _ _ => rfl) (fun x c hx hc => rfl) (fun x h2 h3 => absurd h2 (by omega)) (some (.int (nI i))) l6 l7 l8 l9 l10
    refine Br_of (fun _ => ?_) (fun h => absurd c1 h)
    simp only [S128_0, S128_1, S128_2, S128_3, S128_4, S128_5, S128_6, nI_1]
    exact gg
  | succ d ih =>
    intro i L l6 l7 l8 l9 l10 hi h1 hz go
    refine Br_of (fun h => absurd h (nI_ge (by omega) (by omega))) (fun _ => ?_)
    have nx : ∀ L1 l6 l8 l10, (∀ c, c ≠ 95 → L1 c = L c) → (∀ x, x ≠ 3 * i → x ≠ 3 * i + 1 → x ≠ 3 * i + 2 → L1 95 x = L 95 x) → (L1 95 (3 * i) = 0 ∧ L1 95 (3 * i + 1) = 0 ∧ (L1 95 (3 * i + 2) = 0 ↔ L 95 (3 * i + 2) * L 95 1 - L 95 2 * L 95 (3 * i + 1) = 0)) → Br 128 270 125 [some (.ref 74), some (.int (nI m)), some (.int (nI 0)), some (.int (nI 1)), some (.int p4), some (.int (nI (i + 1))), l6, none, l8, none, l10] [] (n, sl, C, Z, I, L1, R) Q (nI m ≤ nI (i + 1)) := by
      intro L1 l6 l8 l10 f1 f2 f3
      refine ih (i + 1) L1 l6 none l8 none l10 (by omega) (by omega) (fun x c hx hc => ?_) (fun L' g1 g2 g3 => go L' (fun c h => by rw [g1 c h, f1 c h]) (fun x c hx hc => ?_) (fun x hx hxm => ?_))
      · rw [f2 (3 * x + c) (by omega) (by omega) (by omega)]; exact hz x c (by omega) hc
      · rw [g2 x c (by omega) hc, f2 (3 * x + c) (by omega) (by omega) (by omega)]
      · by_cases e : x = i
        · have q0 := g2 i 0 (by omega) (by omega)
          have q1 := g2 i 1 (by omega) (by omega)
          have q2 := g2 i 2 (by omega) (by omega)
          rw [Nat.add_zero] at q0
          rw [e, q0, q1, q2]; exact f3
        · have := g3 x (by omega) hxm
          rw [f2 (3 * x + 2) (by omega) (by omega) (by omega), f2 1 (by omega) (by omega) (by omega)] at this
          try rw [f2 2 (by omega) (by omega) (by omega), f2 (3 * x + 1) (by omega) (by omega) (by omega)] at this
          exact this
    rcases (by omega : i = 1 ∨ i = 2 ∨ i = 3) with rfl | rfl | rfl
    · exact mr2_1_01 hM (hz 0 0 (by omega) (by omega)) (hz 1 0 (by omega) (by omega)) (fun L1 l6 l8 l10 f1 f2 f3 => nx L1 l6 l8 l10 f1 f2 f3)
    · exact mr2_1_02 hM (hz 0 0 (by omega) (by omega)) (hz 2 0 (by omega) (by omega)) (fun L1 l6 l8 l10 f1 f2 f3 => nx L1 l6 l8 l10 f1 f2 f3)
    · exact mr2_1_03 hM (hz 0 0 (by omega) (by omega)) (hz 3 0 (by omega) (by omega)) (fun L1 l6 l8 l10 f1 f2 f3 => nx L1 l6 l8 l10 f1 f2 f3)
set_option maxRecDepth 100000 in
set_option maxHeartbeats 8000000 in
theorem el2_1_1 {n sl : Nat} {C Z : Nat → Nat} {I : Nat → Nat → Int32} {R : Nat → Nat → Nat} {Q : Option Value → Hp → Prop} {m : Nat} {p4 : Int32} (hM : LayM C Z R) (hm : m ≤ 4) : ∀ d i L l6 l7 l8 l9 l10, i + d = m → 2 ≤ i → (∀ x c, x = 1 ∨ (i ≤ x ∧ x < m) → c < 1 → L 95 (3 * x + c) = 0) → (∀ L', (∀ c, c ≠ 95 → L' c = L c) → (∀ x c, x < i → c < 3 → L' 95 (3 * x + c) = L 95 (3 * x + c)) → (∀ x, i ≤ x → x < m → L' 95 (3 * x) = 0 ∧ L' 95 (3 * x + 1) = 0 ∧ (L' 95 (3 * x + 2) = 0 ↔ L 95 (3 * x + 2) * L 95 4 - L 95 5 * L 95 (3 * x + 1) = 0)) → ∀ l5 l6 l7 l8 l9 l10, Br 128 279 9 [some (.ref 74), some (.int (nI m)), some (.int (nI 2)), some (.int (nI 2)), some (.int p4), l5, l6, l7, l8, l9, l10] [] (n, sl, C, Z, I, L', R) Q ((3 : Int32) ≤ nI 2)) → Br 128 270 125 [some (.ref 74), some (.int (nI m)), some (.int (nI 1)), some (.int (nI 1)), some (.int p4), some (.int (nI i)), l6, l7, l8, l9, l10] [] (n, sl, C, Z, I, L, R) Q (nI m ≤ nI i) := by
  have n0 : nI 0 = 0 := rfl
  have n1 : nI 1 = 1 := rfl
  have n2 : nI 2 = 2 := rfl
  have n3 : nI 3 = 3 := rfl
  have n4 : nI 4 = 4 := rfl
  intro d
  induction d with
  | zero =>
    intro i L l6 l7 l8 l9 l10 hi h1 hz go
    have c1 : nI m ≤ nI i := nI_le (by omega) (by omega)
    have gg := go L (fun _ _ => rfl) (fun x c hx hc => rfl) (fun x h2 h3 => absurd h2 (by omega)) (some (.int (nI i))) l6 l7 l8 l9 l10
    refine Br_of (fun _ => ?_) (fun h => absurd c1 h)
    simp only [S128_0, S128_1, S128_2, S128_3, S128_4, S128_5, S128_6, nI_1]
    exact gg
  | succ d ih =>
    intro i L l6 l7 l8 l9 l10 hi h1 hz go
    refine Br_of (fun h => absurd h (nI_ge (by omega) (by omega))) (fun _ => ?_)
    have nx : ∀ L1 l6 l8 l10, (∀ c, c ≠ 95 → L1 c = L c) → (∀ x, x ≠ 3 * i → x ≠ 3 * i + 1 → x ≠ 3 * i + 2 → L1 95 x = L 95 x) → (L1 95 (3 * i) = 0 ∧ L1 95 (3 * i + 1) = 0 ∧ (L1 95 (3 * i + 2) = 0 ↔ L 95 (3 * i + 2) * L 95 4 - L 95 5 * L 95 (3 * i + 1) = 0)) → Br 128 270 125 [some (.ref 74), some (.int (nI m)), some (.int (nI 1)), some (.int (nI 1)), some (.int p4), some (.int (nI (i + 1))), l6, none, l8, none, l10] [] (n, sl, C, Z, I, L1, R) Q (nI m ≤ nI (i + 1)) := by
      intro L1 l6 l8 l10 f1 f2 f3
      refine ih (i + 1) L1 l6 none l8 none l10 (by omega) (by omega) (fun x c hx hc => ?_) (fun L' g1 g2 g3 => go L' (fun c h => by rw [g1 c h, f1 c h]) (fun x c hx hc => ?_) (fun x hx hxm => ?_))
      · rw [f2 (3 * x + c) (by omega) (by omega) (by omega)]; exact hz x c (by omega) hc
      · rw [g2 x c (by omega) hc, f2 (3 * x + c) (by omega) (by omega) (by omega)]
      · by_cases e : x = i
        · have q0 := g2 i 0 (by omega) (by omega)
          have q1 := g2 i 1 (by omega) (by omega)
          have q2 := g2 i 2 (by omega) (by omega)
          rw [Nat.add_zero] at q0
          rw [e, q0, q1, q2]; exact f3
        · have := g3 x (by omega) hxm
          rw [f2 (3 * x + 2) (by omega) (by omega) (by omega), f2 4 (by omega) (by omega) (by omega)] at this
          try rw [f2 5 (by omega) (by omega) (by omega), f2 (3 * x + 1) (by omega) (by omega) (by omega)] at this
          exact this
    rcases (by omega : i = 2 ∨ i = 3) with rfl | rfl
    · exact mr2_1_12 hM (hz 1 0 (by omega) (by omega)) (hz 2 0 (by omega) (by omega)) (fun L1 l6 l8 l10 f1 f2 f3 => nx L1 l6 l8 l10 f1 f2 f3)
    · exact mr2_1_13 hM (hz 1 0 (by omega) (by omega)) (hz 3 0 (by omega) (by omega)) (fun L1 l6 l8 l10 f1 f2 f3 => nx L1 l6 l8 l10 f1 f2 f3)
set_option maxRecDepth 100000 in
set_option maxHeartbeats 8000000 in
theorem el2_2_0 {n sl : Nat} {C Z : Nat → Nat} {I : Nat → Nat → Int32} {R : Nat → Nat → Nat} {Q : Option Value → Hp → Prop} {m : Nat} {p4 : Int32} (hM : LayM C Z R) (hm : m ≤ 4) : ∀ d i L l6 l7 l8 l9 l10, i + d = m → 1 ≤ i → (∀ x c, x = 0 ∨ (i ≤ x ∧ x < m) → c < 2 → L 95 (3 * x + c) = 0) → (∀ L', (∀ c, c ≠ 95 → L' c = L c) → (∀ x c, x < i → c < 3 → L' 95 (3 * x + c) = L 95 (3 * x + c)) → (∀ x, i ≤ x → x < m → L' 95 (3 * x) = 0 ∧ L' 95 (3 * x + 1) = 0 ∧ (L' 95 (3 * x + 2) = 0 ↔ L 95 (3 * x + 2) * L 95 2 - L 95 2 * L 95 (3 * x + 2) = 0)) → ∀ l5 l6 l7 l8 l9 l10, Br 128 279 9 [some (.ref 74), some (.int (nI m)), some (.int (nI 1)), some (.int (nI 3)), some (.int p4), l5, l6, l7, l8, l9, l10] [] (n, sl, C, Z, I, L', R) Q ((3 : Int32) ≤ nI 3)) → Br 128 270 125 [some (.ref 74), some (.int (nI m)), some (.int (nI 0)), some (.int (nI 2)), some (.int p4), some (.int (nI i)), l6, l7, l8, l9, l10] [] (n, sl, C, Z, I, L, R) Q (nI m ≤ nI i) := by
  have n0 : nI 0 = 0 := rfl
  have n1 : nI 1 = 1 := rfl
  have n2 : nI 2 = 2 := rfl
  have n3 : nI 3 = 3 := rfl
  have n4 : nI 4 = 4 := rfl
  intro d
  induction d with
  | zero =>
    intro i L l6 l7 l8 l9 l10 hi h1 hz go
    have c1 : nI m ≤ nI i := nI_le (by omega) (by omega)
    have gg := go L (fun _ _ => rfl) (fun x c hx hc => rfl) (fun x h2 h3 => absurd h2 (by omega)) (some (.int (nI i))) l6 l7 l8 l9 l10
    refine Br_of (fun _ => ?_) (fun h => absurd c1 h)
    simp only [S128_0, S128_1, S128_2, S128_3, S128_4, S128_5, S128_6, nI_1]
    exact gg
  | succ d ih =>
    intro i L l6 l7 l8 l9 l10 hi h1 hz go
    refine Br_of (fun h => absurd h (nI_ge (by omega) (by omega))) (fun _ => ?_)
    have nx : ∀ L1 l6 l8 l10, (∀ c, c ≠ 95 → L1 c = L c) → (∀ x, x ≠ 3 * i → x ≠ 3 * i + 1 → x ≠ 3 * i + 2 → L1 95 x = L 95 x) → (L1 95 (3 * i) = 0 ∧ L1 95 (3 * i + 1) = 0 ∧ (L1 95 (3 * i + 2) = 0 ↔ L 95 (3 * i + 2) * L 95 2 - L 95 2 * L 95 (3 * i + 2) = 0)) → Br 128 270 125 [some (.ref 74), some (.int (nI m)), some (.int (nI 0)), some (.int (nI 2)), some (.int p4), some (.int (nI (i + 1))), l6, none, l8, none, l10] [] (n, sl, C, Z, I, L1, R) Q (nI m ≤ nI (i + 1)) := by
      intro L1 l6 l8 l10 f1 f2 f3
      refine ih (i + 1) L1 l6 none l8 none l10 (by omega) (by omega) (fun x c hx hc => ?_) (fun L' g1 g2 g3 => go L' (fun c h => by rw [g1 c h, f1 c h]) (fun x c hx hc => ?_) (fun x hx hxm => ?_))
      · rw [f2 (3 * x + c) (by omega) (by omega) (by omega)]; exact hz x c (by omega) hc
      · rw [g2 x c (by omega) hc, f2 (3 * x + c) (by omega) (by omega) (by omega)]
      · by_cases e : x = i
        · have q0 := g2 i 0 (by omega) (by omega)
          have q1 := g2 i 1 (by omega) (by omega)
          have q2 := g2 i 2 (by omega) (by omega)
          rw [Nat.add_zero] at q0
          rw [e, q0, q1, q2]; exact f3
        · have := g3 x (by omega) hxm
          rw [f2 (3 * x + 2) (by omega) (by omega) (by omega), f2 2 (by omega) (by omega) (by omega)] at this
          try rw [f2 2 (by omega) (by omega) (by omega), f2 (3 * x + 2) (by omega) (by omega) (by omega)] at this
          exact this
    rcases (by omega : i = 1 ∨ i = 2 ∨ i = 3) with rfl | rfl | rfl
    · exact mr2_2_01 hM (hz 0 0 (by omega) (by omega)) (hz 1 0 (by omega) (by omega)) (hz 0 1 (by omega) (by omega)) (hz 1 1 (by omega) (by omega)) (fun L1 l6 l8 l10 f1 f2 f3 => nx L1 l6 l8 l10 f1 f2 f3)
    · exact mr2_2_02 hM (hz 0 0 (by omega) (by omega)) (hz 2 0 (by omega) (by omega)) (hz 0 1 (by omega) (by omega)) (hz 2 1 (by omega) (by omega)) (fun L1 l6 l8 l10 f1 f2 f3 => nx L1 l6 l8 l10 f1 f2 f3)
    · exact mr2_2_03 hM (hz 0 0 (by omega) (by omega)) (hz 3 0 (by omega) (by omega)) (hz 0 1 (by omega) (by omega)) (hz 3 1 (by omega) (by omega)) (fun L1 l6 l8 l10 f1 f2 f3 => nx L1 l6 l8 l10 f1 f2 f3)
set_option maxRecDepth 100000 in
set_option maxHeartbeats 8000000 in
theorem el2_2_1 {n sl : Nat} {C Z : Nat → Nat} {I : Nat → Nat → Int32} {R : Nat → Nat → Nat} {Q : Option Value → Hp → Prop} {m : Nat} {p4 : Int32} (hM : LayM C Z R) (hm : m ≤ 4) : ∀ d i L l6 l7 l8 l9 l10, i + d = m → 2 ≤ i → (∀ x c, x = 1 ∨ (i ≤ x ∧ x < m) → c < 2 → L 95 (3 * x + c) = 0) → (∀ L', (∀ c, c ≠ 95 → L' c = L c) → (∀ x c, x < i → c < 3 → L' 95 (3 * x + c) = L 95 (3 * x + c)) → (∀ x, i ≤ x → x < m → L' 95 (3 * x) = 0 ∧ L' 95 (3 * x + 1) = 0 ∧ (L' 95 (3 * x + 2) = 0 ↔ L 95 (3 * x + 2) * L 95 5 - L 95 5 * L 95 (3 * x + 2) = 0)) → ∀ l5 l6 l7 l8 l9 l10, Br 128 279 9 [some (.ref 74), some (.int (nI m)), some (.int (nI 2)), some (.int (nI 3)), some (.int p4), l5, l6, l7, l8, l9, l10] [] (n, sl, C, Z, I, L', R) Q ((3 : Int32) ≤ nI 3)) → Br 128 270 125 [some (.ref 74), some (.int (nI m)), some (.int (nI 1)), some (.int (nI 2)), some (.int p4), some (.int (nI i)), l6, l7, l8, l9, l10] [] (n, sl, C, Z, I, L, R) Q (nI m ≤ nI i) := by
  have n0 : nI 0 = 0 := rfl
  have n1 : nI 1 = 1 := rfl
  have n2 : nI 2 = 2 := rfl
  have n3 : nI 3 = 3 := rfl
  have n4 : nI 4 = 4 := rfl
  intro d
  induction d with
  | zero =>
    intro i L l6 l7 l8 l9 l10 hi h1 hz go
    have c1 : nI m ≤ nI i := nI_le (by omega) (by omega)
    have gg := go L (fun _ _ => rfl) (fun x c hx hc => rfl) (fun x h2 h3 => absurd h2 (by omega)) (some (.int (nI i))) l6 l7 l8 l9 l10
    refine Br_of (fun _ => ?_) (fun h => absurd c1 h)
    simp only [S128_0, S128_1, S128_2, S128_3, S128_4, S128_5, S128_6, nI_1]
    exact gg
  | succ d ih =>
    intro i L l6 l7 l8 l9 l10 hi h1 hz go
    refine Br_of (fun h => absurd h (nI_ge (by omega) (by omega))) (fun _ => ?_)
    have nx : ∀ L1 l6 l8 l10, (∀ c, c ≠ 95 → L1 c = L c) → (∀ x, x ≠ 3 * i → x ≠ 3 * i + 1 → x ≠ 3 * i + 2 → L1 95 x = L 95 x) → (L1 95 (3 * i) = 0 ∧ L1 95 (3 * i + 1) = 0 ∧ (L1 95 (3 * i + 2) = 0 ↔ L 95 (3 * i + 2) * L 95 5 - L 95 5 * L 95 (3 * i + 2) = 0)) → Br 128 270 125 [some (.ref 74), some (.int (nI m)), some (.int (nI 1)), some (.int (nI 2)), some (.int p4), some (.int (nI (i + 1))), l6, none, l8, none, l10] [] (n, sl, C, Z, I, L1, R) Q (nI m ≤ nI (i + 1)) := by
      intro L1 l6 l8 l10 f1 f2 f3
      refine ih (i + 1) L1 l6 none l8 none l10 (by omega) (by omega) (fun x c hx hc => ?_) (fun L' g1 g2 g3 => go L' (fun c h => by rw [g1 c h, f1 c h]) (fun x c hx hc => ?_) (fun x hx hxm => ?_))
      · rw [f2 (3 * x + c) (by omega) (by omega) (by omega)]; exact hz x c (by omega) hc
      · rw [g2 x c (by omega) hc, f2 (3 * x + c) (by omega) (by omega) (by omega)]
      · by_cases e : x = i
        · have q0 := g2 i 0 (by omega) (by omega)
          have q1 := g2 i 1 (by omega) (by omega)
          have q2 := g2 i 2 (by omega) (by omega)
          rw [Nat.add_zero] at q0
          rw [e, q0, q1, q2]; exact f3
        · have := g3 x (by omega) hxm
          rw [f2 (3 * x + 2) (by omega) (by omega) (by omega), f2 5 (by omega) (by omega) (by omega)] at this
          try rw [f2 5 (by omega) (by omega) (by omega), f2 (3 * x + 2) (by omega) (by omega) (by omega)] at this
          exact this
    rcases (by omega : i = 2 ∨ i = 3) with rfl | rfl
    · exact mr2_2_12 hM (hz 1 0 (by omega) (by omega)) (hz 2 0 (by omega) (by omega)) (hz 1 1 (by omega) (by omega)) (hz 2 1 (by omega) (by omega)) (fun L1 l6 l8 l10 f1 f2 f3 => nx L1 l6 l8 l10 f1 f2 f3)
    · exact mr2_2_13 hM (hz 1 0 (by omega) (by omega)) (hz 3 0 (by omega) (by omega)) (hz 1 1 (by omega) (by omega)) (hz 3 1 (by omega) (by omega)) (fun L1 l6 l8 l10 f1 f2 f3 => nx L1 l6 l8 l10 f1 f2 f3)
set_option maxRecDepth 100000 in
set_option maxHeartbeats 8000000 in
theorem el2_2_2 {n sl : Nat} {C Z : Nat → Nat} {I : Nat → Nat → Int32} {R : Nat → Nat → Nat} {Q : Option Value → Hp → Prop} {m : Nat} {p4 : Int32} (hM : LayM C Z R) (hm : m ≤ 4) : ∀ d i L l6 l7 l8 l9 l10, i + d = m → 3 ≤ i → (∀ x c, x = 2 ∨ (i ≤ x ∧ x < m) → c < 2 → L 95 (3 * x + c) = 0) → (∀ L', (∀ c, c ≠ 95 → L' c = L c) → (∀ x c, x < i → c < 3 → L' 95 (3 * x + c) = L 95 (3 * x + c)) → (∀ x, i ≤ x → x < m → L' 95 (3 * x) = 0 ∧ L' 95 (3 * x + 1) = 0 ∧ (L' 95 (3 * x + 2) = 0 ↔ L 95 (3 * x + 2) * L 95 8 - L 95 8 * L 95 (3 * x + 2) = 0)) → ∀ l5 l6 l7 l8 l9 l10, Br 128 279 9 [some (.ref 74), some (.int (nI m)), some (.int (nI 3)), some (.int (nI 3)), some (.int p4), l5, l6, l7, l8, l9, l10] [] (n, sl, C, Z, I, L', R) Q ((3 : Int32) ≤ nI 3)) → Br 128 270 125 [some (.ref 74), some (.int (nI m)), some (.int (nI 2)), some (.int (nI 2)), some (.int p4), some (.int (nI i)), l6, l7, l8, l9, l10] [] (n, sl, C, Z, I, L, R) Q (nI m ≤ nI i) := by
  have n0 : nI 0 = 0 := rfl
  have n1 : nI 1 = 1 := rfl
  have n2 : nI 2 = 2 := rfl
  have n3 : nI 3 = 3 := rfl
  have n4 : nI 4 = 4 := rfl
  intro d
  induction d with
  | zero =>
    intro i L l6 l7 l8 l9 l10 hi h1 hz go
    have c1 : nI m ≤ nI i := nI_le (by omega) (by omega)
    have gg := go L (fun _ _ => rfl) (fun x c hx hc => rfl) (fun x h2 h3 => absurd h2 (by omega)) (some (.int (nI i))) l6 l7 l8 l9 l10
    refine Br_of (fun _ => ?_) (fun h => absurd c1 h)
    simp only [S128_0, S128_1, S128_2, S128_3, S128_4, S128_5, S128_6, nI_1]
    exact gg
  | succ d ih =>
    intro i L l6 l7 l8 l9 l10 hi h1 hz go
    refine Br_of (fun h => absurd h (nI_ge (by omega) (by omega))) (fun _ => ?_)
    have nx : ∀ L1 l6 l8 l10, (∀ c, c ≠ 95 → L1 c = L c) → (∀ x, x ≠ 3 * i → x ≠ 3 * i + 1 → x ≠ 3 * i + 2 → L1 95 x = L 95 x) → (L1 95 (3 * i) = 0 ∧ L1 95 (3 * i + 1) = 0 ∧ (L1 95 (3 * i + 2) = 0 ↔ L 95 (3 * i + 2) * L 95 8 - L 95 8 * L 95 (3 * i + 2) = 0)) → Br 128 270 125 [some (.ref 74), some (.int (nI m)), some (.int (nI 2)), some (.int (nI 2)), some (.int p4), some (.int (nI (i + 1))), l6, none, l8, none, l10] [] (n, sl, C, Z, I, L1, R) Q (nI m ≤ nI (i + 1)) := by
      intro L1 l6 l8 l10 f1 f2 f3
      refine ih (i + 1) L1 l6 none l8 none l10 (by omega) (by omega) (fun x c hx hc => ?_) (fun L' g1 g2 g3 => go L' (fun c h => by rw [g1 c h, f1 c h]) (fun x c hx hc => ?_) (fun x hx hxm => ?_))
      · rw [f2 (3 * x + c) (by omega) (by omega) (by omega)]; exact hz x c (by omega) hc
      · rw [g2 x c (by omega) hc, f2 (3 * x + c) (by omega) (by omega) (by omega)]
      · by_cases e : x = i
        · have q0 := g2 i 0 (by omega) (by omega)
          have q1 := g2 i 1 (by omega) (by omega)
          have q2 := g2 i 2 (by omega) (by omega)
          rw [Nat.add_zero] at q0
          rw [e, q0, q1, q2]; exact f3
        · have := g3 x (by omega) hxm
          rw [f2 (3 * x + 2) (by omega) (by omega) (by omega), f2 8 (by omega) (by omega) (by omega)] at this
          try rw [f2 8 (by omega) (by omega) (by omega), f2 (3 * x + 2) (by omega) (by omega) (by omega)] at this
          exact this
    rcases (by omega : i = 3) with rfl
    · exact mr2_2_23 hM (hz 2 0 (by omega) (by omega)) (hz 3 0 (by omega) (by omega)) (hz 2 1 (by omega) (by omega)) (hz 3 1 (by omega) (by omega)) (fun L1 l6 l8 l10 f1 f2 f3 => nx L1 l6 l8 l10 f1 f2 f3)
theorem ms_f0 {n sl : Nat} {C Z : Nat → Nat} {I : Nat → Nat → Int32} {L : Nat → Nat → Int64} {R : Nat → Nat → Nat} {Q : Option Value → Hp → Prop} {m kc pf : Nat} {l4 l5 l6 l7 l8 l9 l10 : Option Value} (hM : LayM C Z R) (hm : m ≤ 4) (hk : kc < 3) (hr : 0 ≤ pf) (hp : pf < m) (hz : ∀ x, 0 ≤ x → x < pf → L 95 (3 * x + kc) = 0) (hn : ¬ L 95 (3 * pf + kc) = 0) (go : ∀ L' l6, (∀ c, c ≠ 95 → L' c = L c) → (∀ c, c < 3 → L' 95 (3 * 0 + c) = L 95 (3 * pf + c) ∧ L' 95 (3 * pf + c) = L 95 (3 * 0 + c)) → (∀ x c, x < 4 → c < 3 → x ≠ 0 → x ≠ pf → L' 95 (3 * x + c) = L 95 (3 * x + c)) → Br 128 270 125 [some (.ref 74), some (.int (nI m)), some (.int (nI 0)), some (.int (nI kc)), some (.int (nI pf)), some (.int (nI (0 + 1))), l6, none, l8, l9, l10] [] (n, sl, C, Z, I, L', R) Q (nI m ≤ nI (0 + 1))) : Br 128 279 9 [some (.ref 74), some (.int (nI m)), some (.int (nI 0)), some (.int (nI kc)), l4, l5, l6, l7, l8, l9, l10] [] (n, sl, C, Z, I, L, R) Q ((3 : Int32) ≤ nI kc) := by
  rcases (by omega : pf = 0 ∨ pf = 1 ∨ pf = 2 ∨ pf = 3) with rfl | rfl | rfl | rfl
  · exact ms_fnd_00 hM hm hk hp hz hn go
  · exact ms_fnd_01 hM hm hk hp hz hn go
  · exact ms_fnd_02 hM hm hk hp hz hn go
  · exact ms_fnd_03 hM hm hk hp hz hn go
theorem ms_f1 {n sl : Nat} {C Z : Nat → Nat} {I : Nat → Nat → Int32} {L : Nat → Nat → Int64} {R : Nat → Nat → Nat} {Q : Option Value → Hp → Prop} {m kc pf : Nat} {l4 l5 l6 l7 l8 l9 l10 : Option Value} (hM : LayM C Z R) (hm : m ≤ 4) (hk : kc < 3) (hr : 1 ≤ pf) (hp : pf < m) (hz : ∀ x, 1 ≤ x → x < pf → L 95 (3 * x + kc) = 0) (hn : ¬ L 95 (3 * pf + kc) = 0) (go : ∀ L' l6, (∀ c, c ≠ 95 → L' c = L c) → (∀ c, c < 3 → L' 95 (3 * 1 + c) = L 95 (3 * pf + c) ∧ L' 95 (3 * pf + c) = L 95 (3 * 1 + c)) → (∀ x c, x < 4 → c < 3 → x ≠ 1 → x ≠ pf → L' 95 (3 * x + c) = L 95 (3 * x + c)) → Br 128 270 125 [some (.ref 74), some (.int (nI m)), some (.int (nI 1)), some (.int (nI kc)), some (.int (nI pf)), some (.int (nI (1 + 1))), l6, none, l8, l9, l10] [] (n, sl, C, Z, I, L', R) Q (nI m ≤ nI (1 + 1))) : Br 128 279 9 [some (.ref 74), some (.int (nI m)), some (.int (nI 1)), some (.int (nI kc)), l4, l5, l6, l7, l8, l9, l10] [] (n, sl, C, Z, I, L, R) Q ((3 : Int32) ≤ nI kc) := by
  rcases (by omega : pf = 1 ∨ pf = 2 ∨ pf = 3) with rfl | rfl | rfl
  · exact ms_fnd_11 hM hm hk hp hz hn go
  · exact ms_fnd_12 hM hm hk hp hz hn go
  · exact ms_fnd_13 hM hm hk hp hz hn go
theorem ms_f2 {n sl : Nat} {C Z : Nat → Nat} {I : Nat → Nat → Int32} {L : Nat → Nat → Int64} {R : Nat → Nat → Nat} {Q : Option Value → Hp → Prop} {m kc pf : Nat} {l4 l5 l6 l7 l8 l9 l10 : Option Value} (hM : LayM C Z R) (hm : m ≤ 4) (hk : kc < 3) (hr : 2 ≤ pf) (hp : pf < m) (hz : ∀ x, 2 ≤ x → x < pf → L 95 (3 * x + kc) = 0) (hn : ¬ L 95 (3 * pf + kc) = 0) (go : ∀ L' l6, (∀ c, c ≠ 95 → L' c = L c) → (∀ c, c < 3 → L' 95 (3 * 2 + c) = L 95 (3 * pf + c) ∧ L' 95 (3 * pf + c) = L 95 (3 * 2 + c)) → (∀ x c, x < 4 → c < 3 → x ≠ 2 → x ≠ pf → L' 95 (3 * x + c) = L 95 (3 * x + c)) → Br 128 270 125 [some (.ref 74), some (.int (nI m)), some (.int (nI 2)), some (.int (nI kc)), some (.int (nI pf)), some (.int (nI (2 + 1))), l6, none, l8, l9, l10] [] (n, sl, C, Z, I, L', R) Q (nI m ≤ nI (2 + 1))) : Br 128 279 9 [some (.ref 74), some (.int (nI m)), some (.int (nI 2)), some (.int (nI kc)), l4, l5, l6, l7, l8, l9, l10] [] (n, sl, C, Z, I, L, R) Q ((3 : Int32) ≤ nI kc) := by
  rcases (by omega : pf = 2 ∨ pf = 3) with rfl | rfl
  · exact ms_fnd_22 hM hm hk hp hz hn go
  · exact ms_fnd_23 hM hm hk hp hz hn go
set_option maxRecDepth 100000 in
set_option maxHeartbeats 8000000 in
theorem ms_end {n sl : Nat} {C Z : Nat → Nat} {I : Nat → Nat → Int32} {L : Nat → Nat → Int64} {R : Nat → Nat → Nat} {Q : Option Value → Hp → Prop} {m r : Nat} {l4 l5 l6 l7 l8 l9 l10 : Option Value} (go : Q (some (.int (nI r))) (n, sl, C, Z, I, L, R)) : Br 128 279 9 [some (.ref 74), some (.int (nI m)), some (.int (nI r)), some (.int (nI 3)), l4, l5, l6, l7, l8, l9, l10] [] (n, sl, C, Z, I, L, R) Q ((3 : Int32) ≤ nI 3) := by
  have c : (3 : Int32) ≤ nI 3 := by decide +kernel
  simp [S128_0, S128_1, S128_2, S128_3, S128_4, S128_5, S128_6, BS, c, go]
