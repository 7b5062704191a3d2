set_option maxRecDepth 100000 in
set_option maxHeartbeats 8000000 in
theorem m_turn_lp_0 {n sl : Nat} {C Z : Nat → Nat} {I : Nat → Nat → Int32} {R : Nat → Nat → Nat} {j : Nat} {u : Int32} {A B K : Nat → Int} {d : Int} {x0 x1 x2 : Int32} (hr : RM C Z I R j 0 u A B K d) {t : Nat} {r7 : Int32} (ht : t ≤ 3) {Q : Option Value → Hp → Prop} : ∀ m e L, e + m = t → (∀ i, i < 0 → L 97 i = wL (pw A (xv 0 x0 x1 x2) e i)) → (∀ L', (∀ c, c ≠ 97 → c ≠ 98 → L' c = L c) → (∀ i, i < 0 → L' 97 i = wL (pw A (xv 0 x0 x1 x2) t i)) → Wp 141 163 [some (.ref 74), some (.int (nI j)), some (.int x0), some (.int x1), some (.int x2), some (.int (nI 0)), some (.int (nI t)), some (.int r7), some (.int (nI t))] [] (n, sl, C, Z, I, L', R) Q) → Br 141 163 152 [some (.ref 74), some (.int (nI j)), some (.int x0), some (.int x1), some (.int x2), some (.int (nI 0)), some (.int (nI t)), some (.int r7), some (.int (nI e))] [] (n, sl, C, Z, I, L, R) Q (nI t ≤ nI e) := by
  have hM := hr.1
  unfold LayM at hM
  intro m
  induction m with
  | zero =>
    intro e L he hv go
    have e1 : e = t := by omega
    rw [e1] at hv ⊢
    exact Br_of (fun _ => go L (fun _ _ _ => rfl) hv) (fun h => absurd (nI_le (Nat.le_refl t) (by omega)) h)
  | succ m ih =>
    intro e L he hv go
    have c1 : ¬ nI t ≤ nI e := nI_ge (by omega) (by omega)
    simp [S141_0, S141_1, S141_2, S141_3, S141_4, BS, c1, hM]
    refine m_turns hr (v := pw A (xv 0 x0 x1 x2) e) hv (fun L1 f1 v1 => ?_)
    have nx := ih (e + 1) L1 (by omega) v1 (fun L' f2 v2 => go L' (fun c h1 h2 => by rw [f2 c h1 h2, f1 c h1 h2]) v2)
    simp [S141_0, S141_1, S141_2, S141_3, S141_4, BS, nIk]
    exact nx
set_option maxRecDepth 100000 in
set_option maxHeartbeats 8000000 in
theorem m_soon_lp_0 {n sl : Nat} {C Z : Nat → Nat} {I : Nat → Nat → Int32} {R : Nat → Nat → Nat} {j : Nat} {u : Int32} {A B K : Nat → Int} {d : Int} {x0 x1 x2 : Int32} (hr : RM C Z I R j 0 u A B K d) (hA : ∀ i, i < 9 → bn 12 (A i)) (hB : ∀ i, i < 3 → bn 12 (B i)) (hV : ∀ i, i < 3 → bn 9 (xv 0 x0 x1 x2 i)) {Q : Option Value → Hp → Prop} : ∀ e t L l7 l8, t + e = 0 + 1 → (∀ t', t' < t → ¬ EqT A B (xv 0 x0 x1 x2) t') → (∀ v L', Soon A B (xv 0 x0 x1 x2) 0 v → (∀ c, c ≠ 95 → c ≠ 97 → c ≠ 98 → L' c = L c) → Q (some (.int v)) (n, sl, C, Z, I, L', R)) → Br 141 230 95 [some (.ref 74), some (.int (nI j)), some (.int x0), some (.int x1), some (.int x2), some (.int (nI 0)), some (.int (nI t)), l7, l8] [] (n, sl, C, Z, I, L, R) Q (nI 0 < nI t) := by
  obtain ⟨hM, hj12, hs3, k76, k77, mA, mB, mK, mD, zA, zB⟩ := id hr
  have hM' := hM
  unfold LayM at hM
  have j0 : inb (nI j) 12 = true := by rw [inb_nI (by omega)]; simp; omega
  have jx := ix_nI (show j < 2 ^ 31 by omega)
  have c0 : nI 0 ≤ 0 := by decide +kernel
  have c1 : nI 0 ≤ 1 := by decide +kernel
  have c2 : nI 0 ≤ 2 := by decide +kernel
  have w0 : x0.toInt64 = wL x0.toInt := wL_i2l x0
  have w1 : x1.toInt64 = wL x1.toInt := wL_i2l x1
  have w2 : x2.toInt64 = wL x2.toInt := wL_i2l x2
  have zp := pw_zero (B := xv 0 x0 x1 x2) zA (fun i hi hs => by unfold xv; rw [if_neg (by omega)])
  have bX := bn_pw3 hA hB
  intro e
  induction e with
  | zero =>
    intro t L l7 l8 ht hn go
    have q1 : nI 0 < nI t := nI_lt (by omega) (by omega)
    have := go (-1) L (Or.inr ⟨rfl, fun t' h => hn t' (by omega)⟩) (fun _ _ _ _ => rfl)
    simp [S141_0, S141_1, S141_2, S141_3, S141_4, BS, q1, this]
  | succ e ih =>
    intro t L l7 l8 ht hn go
    have q1 : ¬ nI 0 < nI t := nI_nlt (by omega) (by omega)
    have t3 : t ≤ 3 := by omega
    have it : ∀ c, c < 3 → inb (nI (3 * t + c)) 12 = true ∧ ix (nI (3 * t + c)) = 3 * t + c := fun c hc => ⟨by rw [inb_nI (by omega)]; simp; omega, ix_nI (by omega)⟩
    have it0 : inb (nI (3 * t)) 12 = true ∧ ix (nI (3 * t)) = 3 * t := it 0 (by omega)
    simp [S141_0, S141_1, S141_2, S141_3, S141_4, BS, q1, hM]
    refine m_reach hr t3 (fun L1 f1 v1 => ?_)
    simp [S141_0, S141_1, S141_2, S141_3, S141_4, BS, hM]
    refine m_rank hM' (by omega) v1 (fun i c hi hc => bn_le (bX i c (by omega) hc) (by decide)) (G2_crude (fun i c hi hc => bX i c (by omega) hc)) (fun r2 hr2 k2 L2 f2 => ?_)
    simp [S141_0, S141_1, S141_2, S141_3, S141_4, BS, hM]
    refine m_reach hr t3 (fun L3 f3 v3 => ?_)
    have k2' : IsRk (Yt A B (xv 0 x0 x1 x2) t) t r2 := k2.rows (fun i hi => by unfold Yt; rw [if_pos hi])
    -- the beginning goes on t times
    obtain ⟨L4, hL4⟩ : ∃ L4, L4 = u2 (u2 (u2 L3 97 0 (wL x0.toInt)) 97 1 (wL x1.toInt)) 97 2 (wL x2.toInt) := ⟨_, rfl⟩
    have l4n : ∀ c, c ≠ 97 → L4 c = L3 c := fun c h => by rw [hL4, u2_ne _ _ _ h, u2_ne _ _ _ h, u2_ne _ _ _ h]
    have tl := m_turn_lp_0 (n := n) (sl := sl) (x0 := x0) (x1 := x1) (x2 := x2) (r7 := nI r2) hr t3 (Q := Q) t 0 L4 (by omega) (fun i hi => by
      rw [hL4]
      exact absurd hi (by omega)) (fun L5 f5 v5 => ?_)
    · rw [nI_0] at tl
      have gen : ∀ x : Int32, Wp 141 143 [some (.ref 74), some (.int (nI j)), some (.int x0), some (.int x1), some (.int x2), some (.int (nI 0)), some (.int (nI t)), some (.int (nI r2)), l8] [.int x] (n, sl, C, Z, I, L4, R) Q ↔ Br 141 163 152 [some (.ref 74), some (.int (nI j)), some (.int x0), some (.int x1), some (.int x2), some (.int (nI 0)), some (.int (nI t)), some (.int (nI r2)), some (.int x)] [] (n, sl, C, Z, I, L4, R) Q (nI t ≤ x) := fun x => by simp [S141_0, S141_1, S141_2, S141_3, S141_4, BS]
      have gg := (gen 0).mpr tl
      rw [hL4] at gg
      simp [S141_0, S141_1, S141_2, S141_3, S141_4, BS, ixs, inbs, hM, w0, w1, w2, ↓gg]
    · have l5n : ∀ c, c ≠ 95 → c ≠ 97 → c ≠ 98 → L5 c = L c := fun c h1 h2 h3 => by rw [f5 c h2 h3, l4n c h2, f3 c h1 h2 h3, f2 c h1, f1 c h1 h2 h3]
      have l95 : L5 95 = L3 95 := by rw [f5 95 (by omega) (by omega), l4n 95 (by omega)]
      simp [S141_0, S141_1, S141_2, S141_3, S141_4, BS, ixs, inbs, hM, mul3, nIk, it, it0, c0, c1, c2]
      refine m_rank (m := t + 1) (X := Yt A B (xv 0 x0 x1 x2) t) hM' (by omega) (fun i c hi hc => ?_) (fun i c hi hc => bn_le (bn_Yt hA hB hV t3 i c hi hc) (by decide)) (G2_Yt hA hB hV t3) (fun r1 hr1 k1 L6 f6 => ?_)
      · unfold Yt
        by_cases q : i < t
        · have a1 : ¬ 3 * i + c = 3 * t := by omega
          have a2 : ¬ 3 * i + c = 3 * t + 1 := by omega
          have a3 : ¬ 3 * i + c = 3 * t + 2 := by omega
          rw [if_pos q]
          simp [u2_rd, a1, a2, a3, l95]
          exact v3 i c q hc
        · have e1 : i = t := by omega
          rw [if_neg q, e1]
          have z1 := zp t
          rcases i3 hc with rfl | rfl | rfl <;> simp [u2_rd, v5, z1, wL_0]
      · have eq := EqT_iff k1 k2'
        by_cases q : r1 = r2
        · have := go (nI t) L6 (Or.inl ⟨t, by omega, rfl, eq.mpr q, hn⟩) (fun c h1 h2 h3 => by
            rw [f6 c h1]
            repeat (first | rw [u2_ne _ _ _ h1])
            exact l5n c h1 h2 h3)
          simp [S141_0, S141_1, S141_2, S141_3, S141_4, BS, q, this]
        · have q' : ¬ nI r1 = nI r2 := fun h => q ((nI_eq (by omega) (by omega)).mp h)
          have nx := ih (t + 1) L6 (some (.int (nI r2))) (some (.int 3)) (by omega) (fun t' h => by
            by_cases e1 : t' = t
            · rw [e1]; exact fun h => q (eq.mp h)
            · exact hn t' (by omega)) (fun v L' hv f => go v L' hv (fun c h1 h2 h3 => by
            rw [f c h1 h2 h3, f6 c h1]
            repeat (first | rw [u2_ne _ _ _ h1])
            exact l5n c h1 h2 h3))
          simp [S141_0, S141_1, S141_2, S141_3, S141_4, BS, q', nIk]
          exact nx
set_option maxRecDepth 100000 in
set_option maxHeartbeats 8000000 in
theorem m_turn_lp_1 {n sl : Nat} {C Z : Nat → Nat} {I : Nat → Nat → Int32} {R : Nat → Nat → Nat} {j : Nat} {u : Int32} {A B K : Nat → Int} {d : Int} {x0 x1 x2 : Int32} (hr : RM C Z I R j 1 u A B K d) {t : Nat} {r7 : Int32} (ht : t ≤ 3) {Q : Option Value → Hp → Prop} : ∀ m e L, e + m = t → (∀ i, i < 1 → L 97 i = wL (pw A (xv 1 x0 x1 x2) e i)) → (∀ L', (∀ c, c ≠ 97 → c ≠ 98 → L' c = L c) → (∀ i, i < 1 → L' 97 i = wL (pw A (xv 1 x0 x1 x2) t i)) → Wp 141 163 [some (.ref 74), some (.int (nI j)), some (.int x0), some (.int x1), some (.int x2), some (.int (nI 1)), some (.int (nI t)), some (.int r7), some (.int (nI t))] [] (n, sl, C, Z, I, L', R) Q) → Br 141 163 152 [some (.ref 74), some (.int (nI j)), some (.int x0), some (.int x1), some (.int x2), some (.int (nI 1)), some (.int (nI t)), some (.int r7), some (.int (nI e))] [] (n, sl, C, Z, I, L, R) Q (nI t ≤ nI e) := by
  have hM := hr.1
  unfold LayM at hM
  intro m
  induction m with
  | zero =>
    intro e L he hv go
    have e1 : e = t := by omega
    rw [e1] at hv ⊢
    exact Br_of (fun _ => go L (fun _ _ _ => rfl) hv) (fun h => absurd (nI_le (Nat.le_refl t) (by omega)) h)
  | succ m ih =>
    intro e L he hv go
    have c1 : ¬ nI t ≤ nI e := nI_ge (by omega) (by omega)
    simp [S141_0, S141_1, S141_2, S141_3, S141_4, BS, c1, hM]
    refine m_turns hr (v := pw A (xv 1 x0 x1 x2) e) hv (fun L1 f1 v1 => ?_)
    have nx := ih (e + 1) L1 (by omega) v1 (fun L' f2 v2 => go L' (fun c h1 h2 => by rw [f2 c h1 h2, f1 c h1 h2]) v2)
    simp [S141_0, S141_1, S141_2, S141_3, S141_4, BS, nIk]
    exact nx
set_option maxRecDepth 100000 in
set_option maxHeartbeats 8000000 in
theorem m_soon_lp_1 {n sl : Nat} {C Z : Nat → Nat} {I : Nat → Nat → Int32} {R : Nat → Nat → Nat} {j : Nat} {u : Int32} {A B K : Nat → Int} {d : Int} {x0 x1 x2 : Int32} (hr : RM C Z I R j 1 u A B K d) (hA : ∀ i, i < 9 → bn 12 (A i)) (hB : ∀ i, i < 3 → bn 12 (B i)) (hV : ∀ i, i < 3 → bn 9 (xv 1 x0 x1 x2 i)) {Q : Option Value → Hp → Prop} : ∀ e t L l7 l8, t + e = 1 + 1 → (∀ t', t' < t → ¬ EqT A B (xv 1 x0 x1 x2) t') → (∀ v L', Soon A B (xv 1 x0 x1 x2) 1 v → (∀ c, c ≠ 95 → c ≠ 97 → c ≠ 98 → L' c = L c) → Q (some (.int v)) (n, sl, C, Z, I, L', R)) → Br 141 230 95 [some (.ref 74), some (.int (nI j)), some (.int x0), some (.int x1), some (.int x2), some (.int (nI 1)), some (.int (nI t)), l7, l8] [] (n, sl, C, Z, I, L, R) Q (nI 1 < nI t) := by
  obtain ⟨hM, hj12, hs3, k76, k77, mA, mB, mK, mD, zA, zB⟩ := id hr
  have hM' := hM
  unfold LayM at hM
  have j0 : inb (nI j) 12 = true := by rw [inb_nI (by omega)]; simp; omega
  have jx := ix_nI (show j < 2 ^ 31 by omega)
  have c0 : ¬ nI 1 ≤ 0 := by decide +kernel
  have c1 : nI 1 ≤ 1 := by decide +kernel
  have c2 : nI 1 ≤ 2 := by decide +kernel
  have w0 : x0.toInt64 = wL x0.toInt := wL_i2l x0
  have w1 : x1.toInt64 = wL x1.toInt := wL_i2l x1
  have w2 : x2.toInt64 = wL x2.toInt := wL_i2l x2
  have zp := pw_zero (B := xv 1 x0 x1 x2) zA (fun i hi hs => by unfold xv; rw [if_neg (by omega)])
  have bX := bn_pw3 hA hB
  intro e
  induction e with
  | zero =>
    intro t L l7 l8 ht hn go
    have q1 : nI 1 < nI t := nI_lt (by omega) (by omega)
    have := go (-1) L (Or.inr ⟨rfl, fun t' h => hn t' (by omega)⟩) (fun _ _ _ _ => rfl)
    simp [S141_0, S141_1, S141_2, S141_3, S141_4, BS, q1, this]
  | succ e ih =>
    intro t L l7 l8 ht hn go
    have q1 : ¬ nI 1 < nI t := nI_nlt (by omega) (by omega)
    have t3 : t ≤ 3 := by omega
    have it : ∀ c, c < 3 → inb (nI (3 * t + c)) 12 = true ∧ ix (nI (3 * t + c)) = 3 * t + c := fun c hc => ⟨by rw [inb_nI (by omega)]; simp; omega, ix_nI (by omega)⟩
    have it0 : inb (nI (3 * t)) 12 = true ∧ ix (nI (3 * t)) = 3 * t := it 0 (by omega)
    simp [S141_0, S141_1, S141_2, S141_3, S141_4, BS, q1, hM]
    refine m_reach hr t3 (fun L1 f1 v1 => ?_)
    simp [S141_0, S141_1, S141_2, S141_3, S141_4, BS, hM]
    refine m_rank hM' (by omega) v1 (fun i c hi hc => bn_le (bX i c (by omega) hc) (by decide)) (G2_crude (fun i c hi hc => bX i c (by omega) hc)) (fun r2 hr2 k2 L2 f2 => ?_)
    simp [S141_0, S141_1, S141_2, S141_3, S141_4, BS, hM]
    refine m_reach hr t3 (fun L3 f3 v3 => ?_)
    have k2' : IsRk (Yt A B (xv 1 x0 x1 x2) t) t r2 := k2.rows (fun i hi => by unfold Yt; rw [if_pos hi])
    -- the beginning goes on t times
    obtain ⟨L4, hL4⟩ : ∃ L4, L4 = u2 (u2 (u2 L3 97 0 (wL x0.toInt)) 97 1 (wL x1.toInt)) 97 2 (wL x2.toInt) := ⟨_, rfl⟩
    have l4n : ∀ c, c ≠ 97 → L4 c = L3 c := fun c h => by rw [hL4, u2_ne _ _ _ h, u2_ne _ _ _ h, u2_ne _ _ _ h]
    have tl := m_turn_lp_1 (n := n) (sl := sl) (x0 := x0) (x1 := x1) (x2 := x2) (r7 := nI r2) hr t3 (Q := Q) t 0 L4 (by omega) (fun i hi => by
      rw [hL4]
      rcases (by omega : i = 0) with rfl <;> simp [u2_rd, pw_0, xv]) (fun L5 f5 v5 => ?_)
    · rw [nI_0] at tl
      have gen : ∀ x : Int32, Wp 141 143 [some (.ref 74), some (.int (nI j)), some (.int x0), some (.int x1), some (.int x2), some (.int (nI 1)), some (.int (nI t)), some (.int (nI r2)), l8] [.int x] (n, sl, C, Z, I, L4, R) Q ↔ Br 141 163 152 [some (.ref 74), some (.int (nI j)), some (.int x0), some (.int x1), some (.int x2), some (.int (nI 1)), some (.int (nI t)), some (.int (nI r2)), some (.int x)] [] (n, sl, C, Z, I, L4, R) Q (nI t ≤ x) := fun x => by simp [S141_0, S141_1, S141_2, S141_3, S141_4, BS]
      have gg := (gen 0).mpr tl
      rw [hL4] at gg
      simp [S141_0, S141_1, S141_2, S141_3, S141_4, BS, ixs, inbs, hM, w0, w1, w2, ↓gg]
    · have l5n : ∀ c, c ≠ 95 → c ≠ 97 → c ≠ 98 → L5 c = L c := fun c h1 h2 h3 => by rw [f5 c h2 h3, l4n c h2, f3 c h1 h2 h3, f2 c h1, f1 c h1 h2 h3]
      have l95 : L5 95 = L3 95 := by rw [f5 95 (by omega) (by omega), l4n 95 (by omega)]
      simp [S141_0, S141_1, S141_2, S141_3, S141_4, BS, ixs, inbs, hM, mul3, nIk, it, it0, c0, c1, c2]
      refine m_rank (m := t + 1) (X := Yt A B (xv 1 x0 x1 x2) t) hM' (by omega) (fun i c hi hc => ?_) (fun i c hi hc => bn_le (bn_Yt hA hB hV t3 i c hi hc) (by decide)) (G2_Yt hA hB hV t3) (fun r1 hr1 k1 L6 f6 => ?_)
      · unfold Yt
        by_cases q : i < t
        · have a1 : ¬ 3 * i + c = 3 * t := by omega
          have a2 : ¬ 3 * i + c = 3 * t + 1 := by omega
          have a3 : ¬ 3 * i + c = 3 * t + 2 := by omega
          rw [if_pos q]
          simp [u2_rd, a1, a2, a3, l95]
          exact v3 i c q hc
        · have e1 : i = t := by omega
          rw [if_neg q, e1]
          have z1 := zp t
          rcases i3 hc with rfl | rfl | rfl <;> simp [u2_rd, v5, z1, wL_0]
      · have eq := EqT_iff k1 k2'
        by_cases q : r1 = r2
        · have := go (nI t) L6 (Or.inl ⟨t, by omega, rfl, eq.mpr q, hn⟩) (fun c h1 h2 h3 => by
            rw [f6 c h1]
            repeat (first | rw [u2_ne _ _ _ h1])
            exact l5n c h1 h2 h3)
          simp [S141_0, S141_1, S141_2, S141_3, S141_4, BS, q, this]
        · have q' : ¬ nI r1 = nI r2 := fun h => q ((nI_eq (by omega) (by omega)).mp h)
          have nx := ih (t + 1) L6 (some (.int (nI r2))) (some (.int 3)) (by omega) (fun t' h => by
            by_cases e1 : t' = t
            · rw [e1]; exact fun h => q (eq.mp h)
            · exact hn t' (by omega)) (fun v L' hv f => go v L' hv (fun c h1 h2 h3 => by
            rw [f c h1 h2 h3, f6 c h1]
            repeat (first | rw [u2_ne _ _ _ h1])
            exact l5n c h1 h2 h3))
          simp [S141_0, S141_1, S141_2, S141_3, S141_4, BS, q', nIk]
          exact nx
set_option maxRecDepth 100000 in
set_option maxHeartbeats 8000000 in
theorem m_turn_lp_2 {n sl : Nat} {C Z : Nat → Nat} {I : Nat → Nat → Int32} {R : Nat → Nat → Nat} {j : Nat} {u : Int32} {A B K : Nat → Int} {d : Int} {x0 x1 x2 : Int32} (hr : RM C Z I R j 2 u A B K d) {t : Nat} {r7 : Int32} (ht : t ≤ 3) {Q : Option Value → Hp → Prop} : ∀ m e L, e + m = t → (∀ i, i < 2 → L 97 i = wL (pw A (xv 2 x0 x1 x2) e i)) → (∀ L', (∀ c, c ≠ 97 → c ≠ 98 → L' c = L c) → (∀ i, i < 2 → L' 97 i = wL (pw A (xv 2 x0 x1 x2) t i)) → Wp 141 163 [some (.ref 74), some (.int (nI j)), some (.int x0), some (.int x1), some (.int x2), some (.int (nI 2)), some (.int (nI t)), some (.int r7), some (.int (nI t))] [] (n, sl, C, Z, I, L', R) Q) → Br 141 163 152 [some (.ref 74), some (.int (nI j)), some (.int x0), some (.int x1), some (.int x2), some (.int (nI 2)), some (.int (nI t)), some (.int r7), some (.int (nI e))] [] (n, sl, C, Z, I, L, R) Q (nI t ≤ nI e) := by
  have hM := hr.1
  unfold LayM at hM
  intro m
  induction m with
  | zero =>
    intro e L he hv go
    have e1 : e = t := by omega
    rw [e1] at hv ⊢
    exact Br_of (fun _ => go L (fun _ _ _ => rfl) hv) (fun h => absurd (nI_le (Nat.le_refl t) (by omega)) h)
  | succ m ih =>
    intro e L he hv go
    have c1 : ¬ nI t ≤ nI e := nI_ge (by omega) (by omega)
    simp [S141_0, S141_1, S141_2, S141_3, S141_4, BS, c1, hM]
    refine m_turns hr (v := pw A (xv 2 x0 x1 x2) e) hv (fun L1 f1 v1 => ?_)
    have nx := ih (e + 1) L1 (by omega) v1 (fun L' f2 v2 => go L' (fun c h1 h2 => by rw [f2 c h1 h2, f1 c h1 h2]) v2)
    simp [S141_0, S141_1, S141_2, S141_3, S141_4, BS, nIk]
    exact nx
set_option maxRecDepth 100000 in
set_option maxHeartbeats 8000000 in
theorem m_soon_lp_2 {n sl : Nat} {C Z : Nat → Nat} {I : Nat → Nat → Int32} {R : Nat → Nat → Nat} {j : Nat} {u : Int32} {A B K : Nat → Int} {d : Int} {x0 x1 x2 : Int32} (hr : RM C Z I R j 2 u A B K d) (hA : ∀ i, i < 9 → bn 12 (A i)) (hB : ∀ i, i < 3 → bn 12 (B i)) (hV : ∀ i, i < 3 → bn 9 (xv 2 x0 x1 x2 i)) {Q : Option Value → Hp → Prop} : ∀ e t L l7 l8, t + e = 2 + 1 → (∀ t', t' < t → ¬ EqT A B (xv 2 x0 x1 x2) t') → (∀ v L', Soon A B (xv 2 x0 x1 x2) 2 v → (∀ c, c ≠ 95 → c ≠ 97 → c ≠ 98 → L' c = L c) → Q (some (.int v)) (n, sl, C, Z, I, L', R)) → Br 141 230 95 [some (.ref 74), some (.int (nI j)), some (.int x0), some (.int x1), some (.int x2), some (.int (nI 2)), some (.int (nI t)), l7, l8] [] (n, sl, C, Z, I, L, R) Q (nI 2 < nI t) := by
  obtain ⟨hM, hj12, hs3, k76, k77, mA, mB, mK, mD, zA, zB⟩ := id hr
  have hM' := hM
  unfold LayM at hM
  have j0 : inb (nI j) 12 = true := by rw [inb_nI (by omega)]; simp; omega
  have jx := ix_nI (show j < 2 ^ 31 by omega)
  have c0 : ¬ nI 2 ≤ 0 := by decide +kernel
  have c1 : ¬ nI 2 ≤ 1 := by decide +kernel
  have c2 : nI 2 ≤ 2 := by decide +kernel
  have w0 : x0.toInt64 = wL x0.toInt := wL_i2l x0
  have w1 : x1.toInt64 = wL x1.toInt := wL_i2l x1
  have w2 : x2.toInt64 = wL x2.toInt := wL_i2l x2
  have zp := pw_zero (B := xv 2 x0 x1 x2) zA (fun i hi hs => by unfold xv; rw [if_neg (by omega)])
  have bX := bn_pw3 hA hB
  intro e
  induction e with
  | zero =>
    intro t L l7 l8 ht hn go
    have q1 : nI 2 < nI t := nI_lt (by omega) (by omega)
    have := go (-1) L (Or.inr ⟨rfl, fun t' h => hn t' (by omega)⟩) (fun _ _ _ _ => rfl)
    simp [S141_0, S141_1, S141_2, S141_3, S141_4, BS, q1, this]
  | succ e ih =>
    intro t L l7 l8 ht hn go
    have q1 : ¬ nI 2 < nI t := nI_nlt (by omega) (by omega)
    have t3 : t ≤ 3 := by omega
    have it : ∀ c, c < 3 → inb (nI (3 * t + c)) 12 = true ∧ ix (nI (3 * t + c)) = 3 * t + c := fun c hc => ⟨by rw [inb_nI (by omega)]; simp; omega, ix_nI (by omega)⟩
    have it0 : inb (nI (3 * t)) 12 = true ∧ ix (nI (3 * t)) = 3 * t := it 0 (by omega)
    simp [S141_0, S141_1, S141_2, S141_3, S141_4, BS, q1, hM]
    refine m_reach hr t3 (fun L1 f1 v1 => ?_)
    simp [S141_0, S141_1, S141_2, S141_3, S141_4, BS, hM]
    refine m_rank hM' (by omega) v1 (fun i c hi hc => bn_le (bX i c (by omega) hc) (by decide)) (G2_crude (fun i c hi hc => bX i c (by omega) hc)) (fun r2 hr2 k2 L2 f2 => ?_)
    simp [S141_0, S141_1, S141_2, S141_3, S141_4, BS, hM]
    refine m_reach hr t3 (fun L3 f3 v3 => ?_)
    have k2' : IsRk (Yt A B (xv 2 x0 x1 x2) t) t r2 := k2.rows (fun i hi => by unfold Yt; rw [if_pos hi])
    -- the beginning goes on t times
    obtain ⟨L4, hL4⟩ : ∃ L4, L4 = u2 (u2 (u2 L3 97 0 (wL x0.toInt)) 97 1 (wL x1.toInt)) 97 2 (wL x2.toInt) := ⟨_, rfl⟩
    have l4n : ∀ c, c ≠ 97 → L4 c = L3 c := fun c h => by rw [hL4, u2_ne _ _ _ h, u2_ne _ _ _ h, u2_ne _ _ _ h]
    have tl := m_turn_lp_2 (n := n) (sl := sl) (x0 := x0) (x1 := x1) (x2 := x2) (r7 := nI r2) hr t3 (Q := Q) t 0 L4 (by omega) (fun i hi => by
      rw [hL4]
      rcases (by omega : i = 0 ∨ i = 1) with rfl | rfl <;> simp [u2_rd, pw_0, xv]) (fun L5 f5 v5 => ?_)
    · rw [nI_0] at tl
      have gen : ∀ x : Int32, Wp 141 143 [some (.ref 74), some (.int (nI j)), some (.int x0), some (.int x1), some (.int x2), some (.int (nI 2)), some (.int (nI t)), some (.int (nI r2)), l8] [.int x] (n, sl, C, Z, I, L4, R) Q ↔ Br 141 163 152 [some (.ref 74), some (.int (nI j)), some (.int x0), some (.int x1), some (.int x2), some (.int (nI 2)), some (.int (nI t)), some (.int (nI r2)), some (.int x)] [] (n, sl, C, Z, I, L4, R) Q (nI t ≤ x) := fun x => by simp [S141_0, S141_1, S141_2, S141_3, S141_4, BS]
      have gg := (gen 0).mpr tl
      rw [hL4] at gg
      simp [S141_0, S141_1, S141_2, S141_3, S141_4, BS, ixs, inbs, hM, w0, w1, w2, ↓gg]
    · have l5n : ∀ c, c ≠ 95 → c ≠ 97 → c ≠ 98 → L5 c = L c := fun c h1 h2 h3 => by rw [f5 c h2 h3, l4n c h2, f3 c h1 h2 h3, f2 c h1, f1 c h1 h2 h3]
      have l95 : L5 95 = L3 95 := by rw [f5 95 (by omega) (by omega), l4n 95 (by omega)]
      simp [S141_0, S141_1, S141_2, S141_3, S141_4, BS, ixs, inbs, hM, mul3, nIk, it, it0, c0, c1, c2]
      refine m_rank (m := t + 1) (X := Yt A B (xv 2 x0 x1 x2) t) hM' (by omega) (fun i c hi hc => ?_) (fun i c hi hc => bn_le (bn_Yt hA hB hV t3 i c hi hc) (by decide)) (G2_Yt hA hB hV t3) (fun r1 hr1 k1 L6 f6 => ?_)
      · unfold Yt
        by_cases q : i < t
        · have a1 : ¬ 3 * i + c = 3 * t := by omega
          have a2 : ¬ 3 * i + c = 3 * t + 1 := by omega
          have a3 : ¬ 3 * i + c = 3 * t + 2 := by omega
          rw [if_pos q]
          simp [u2_rd, a1, a2, a3, l95]
          exact v3 i c q hc
        · have e1 : i = t := by omega
          rw [if_neg q, e1]
          have z1 := zp t
          rcases i3 hc with rfl | rfl | rfl <;> simp [u2_rd, v5, z1, wL_0]
      · have eq := EqT_iff k1 k2'
        by_cases q : r1 = r2
        · have := go (nI t) L6 (Or.inl ⟨t, by omega, rfl, eq.mpr q, hn⟩) (fun c h1 h2 h3 => by
            rw [f6 c h1]
            repeat (first | rw [u2_ne _ _ _ h1])
            exact l5n c h1 h2 h3)
          simp [S141_0, S141_1, S141_2, S141_3, S141_4, BS, q, this]
        · have q' : ¬ nI r1 = nI r2 := fun h => q ((nI_eq (by omega) (by omega)).mp h)
          have nx := ih (t + 1) L6 (some (.int (nI r2))) (some (.int 3)) (by omega) (fun t' h => by
            by_cases e1 : t' = t
            · rw [e1]; exact fun h => q (eq.mp h)
            · exact hn t' (by omega)) (fun v L' hv f => go v L' hv (fun c h1 h2 h3 => by
            rw [f c h1 h2 h3, f6 c h1]
            repeat (first | rw [u2_ne _ _ _ h1])
            exact l5n c h1 h2 h3))
          simp [S141_0, S141_1, S141_2, S141_3, S141_4, BS, q', nIk]
          exact nx
set_option maxRecDepth 100000 in
set_option maxHeartbeats 8000000 in
theorem m_turn_lp_3 {n sl : Nat} {C Z : Nat → Nat} {I : Nat → Nat → Int32} {R : Nat → Nat → Nat} {j : Nat} {u : Int32} {A B K : Nat → Int} {d : Int} {x0 x1 x2 : Int32} (hr : RM C Z I R j 3 u A B K d) {t : Nat} {r7 : Int32} (ht : t ≤ 3) {Q : Option Value → Hp → Prop} : ∀ m e L, e + m = t → (∀ i, i < 3 → L 97 i = wL (pw A (xv 3 x0 x1 x2) e i)) → (∀ L', (∀ c, c ≠ 97 → c ≠ 98 → L' c = L c) → (∀ i, i < 3 → L' 97 i = wL (pw A (xv 3 x0 x1 x2) t i)) → Wp 141 163 [some (.ref 74), some (.int (nI j)), some (.int x0), some (.int x1), some (.int x2), some (.int (nI 3)), some (.int (nI t)), some (.int r7), some (.int (nI t))] [] (n, sl, C, Z, I, L', R) Q) → Br 141 163 152 [some (.ref 74), some (.int (nI j)), some (.int x0), some (.int x1), some (.int x2), some (.int (nI 3)), some (.int (nI t)), some (.int r7), some (.int (nI e))] [] (n, sl, C, Z, I, L, R) Q (nI t ≤ nI e) := by
  have hM := hr.1
  unfold LayM at hM
  intro m
  induction m with
  | zero =>
    intro e L he hv go
    have e1 : e = t := by omega
    rw [e1] at hv ⊢
    exact Br_of (fun _ => go L (fun _ _ _ => rfl) hv) (fun h => absurd (nI_le (Nat.le_refl t) (by omega)) h)
  | succ m ih =>
    intro e L he hv go
    have c1 : ¬ nI t ≤ nI e := nI_ge (by omega) (by omega)
    simp [S141_0, S141_1, S141_2, S141_3, S141_4, BS, c1, hM]
    refine m_turns hr (v := pw A (xv 3 x0 x1 x2) e) hv (fun L1 f1 v1 => ?_)
    have nx := ih (e + 1) L1 (by omega) v1 (fun L' f2 v2 => go L' (fun c h1 h2 => by rw [f2 c h1 h2, f1 c h1 h2]) v2)
    simp [S141_0, S141_1, S141_2, S141_3, S141_4, BS, nIk]
    exact nx
set_option maxRecDepth 100000 in
set_option maxHeartbeats 8000000 in
theorem m_soon_lp_3 {n sl : Nat} {C Z : Nat → Nat} {I : Nat → Nat → Int32} {R : Nat → Nat → Nat} {j : Nat} {u : Int32} {A B K : Nat → Int} {d : Int} {x0 x1 x2 : Int32} (hr : RM C Z I R j 3 u A B K d) (hA : ∀ i, i < 9 → bn 12 (A i)) (hB : ∀ i, i < 3 → bn 12 (B i)) (hV : ∀ i, i < 3 → bn 9 (xv 3 x0 x1 x2 i)) {Q : Option Value → Hp → Prop} : ∀ e t L l7 l8, t + e = 3 + 1 → (∀ t', t' < t → ¬ EqT A B (xv 3 x0 x1 x2) t') → (∀ v L', Soon A B (xv 3 x0 x1 x2) 3 v → (∀ c, c ≠ 95 → c ≠ 97 → c ≠ 98 → L' c = L c) → Q (some (.int v)) (n, sl, C, Z, I, L', R)) → Br 141 230 95 [some (.ref 74), some (.int (nI j)), some (.int x0), some (.int x1), some (.int x2), some (.int (nI 3)), some (.int (nI t)), l7, l8] [] (n, sl, C, Z, I, L, R) Q (nI 3 < nI t) := by
  obtain ⟨hM, hj12, hs3, k76, k77, mA, mB, mK, mD, zA, zB⟩ := id hr
  have hM' := hM
  unfold LayM at hM
  have j0 : inb (nI j) 12 = true := by rw [inb_nI (by omega)]; simp; omega
  have jx := ix_nI (show j < 2 ^ 31 by omega)
  have c0 : ¬ nI 3 ≤ 0 := by decide +kernel
  have c1 : ¬ nI 3 ≤ 1 := by decide +kernel
  have c2 : ¬ nI 3 ≤ 2 := by decide +kernel
  have w0 : x0.toInt64 = wL x0.toInt := wL_i2l x0
  have w1 : x1.toInt64 = wL x1.toInt := wL_i2l x1
  have w2 : x2.toInt64 = wL x2.toInt := wL_i2l x2
  have zp := pw_zero (B := xv 3 x0 x1 x2) zA (fun i hi hs => by unfold xv; rw [if_neg (by omega)])
  have bX := bn_pw3 hA hB
  intro e
  induction e with
  | zero =>
    intro t L l7 l8 ht hn go
    have q1 : nI 3 < nI t := nI_lt (by omega) (by omega)
    have := go (-1) L (Or.inr ⟨rfl, fun t' h => hn t' (by omega)⟩) (fun _ _ _ _ => rfl)
    simp [S141_0, S141_1, S141_2, S141_3, S141_4, BS, q1, this]
  | succ e ih =>
    intro t L l7 l8 ht hn go
    have q1 : ¬ nI 3 < nI t := nI_nlt (by omega) (by omega)
    have t3 : t ≤ 3 := by omega
    have it : ∀ c, c < 3 → inb (nI (3 * t + c)) 12 = true ∧ ix (nI (3 * t + c)) = 3 * t + c := fun c hc => ⟨by rw [inb_nI (by omega)]; simp; omega, ix_nI (by omega)⟩
    have it0 : inb (nI (3 * t)) 12 = true ∧ ix (nI (3 * t)) = 3 * t := it 0 (by omega)
    simp [S141_0, S141_1, S141_2, S141_3, S141_4, BS, q1, hM]
    refine m_reach hr t3 (fun L1 f1 v1 => ?_)
    simp [S141_0, S141_1, S141_2, S141_3, S141_4, BS, hM]
    refine m_rank hM' (by omega) v1 (fun i c hi hc => bn_le (bX i c (by omega) hc) (by decide)) (G2_crude (fun i c hi hc => bX i c (by omega) hc)) (fun r2 hr2 k2 L2 f2 => ?_)
    simp [S141_0, S141_1, S141_2, S141_3, S141_4, BS, hM]
    refine m_reach hr t3 (fun L3 f3 v3 => ?_)
    have k2' : IsRk (Yt A B (xv 3 x0 x1 x2) t) t r2 := k2.rows (fun i hi => by unfold Yt; rw [if_pos hi])
    -- the beginning goes on t times
    obtain ⟨L4, hL4⟩ : ∃ L4, L4 = u2 (u2 (u2 L3 97 0 (wL x0.toInt)) 97 1 (wL x1.toInt)) 97 2 (wL x2.toInt) := ⟨_, rfl⟩
    have l4n : ∀ c, c ≠ 97 → L4 c = L3 c := fun c h => by rw [hL4, u2_ne _ _ _ h, u2_ne _ _ _ h, u2_ne _ _ _ h]
    have tl := m_turn_lp_3 (n := n) (sl := sl) (x0 := x0) (x1 := x1) (x2 := x2) (r7 := nI r2) hr t3 (Q := Q) t 0 L4 (by omega) (fun i hi => by
      rw [hL4]
      rcases (by omega : i = 0 ∨ i = 1 ∨ i = 2) with rfl | rfl | rfl <;> simp [u2_rd, pw_0, xv]) (fun L5 f5 v5 => ?_)
    · rw [nI_0] at tl
      have gen : ∀ x : Int32, Wp 141 143 [some (.ref 74), some (.int (nI j)), some (.int x0), some (.int x1), some (.int x2), some (.int (nI 3)), some (.int (nI t)), some (.int (nI r2)), l8] [.int x] (n, sl, C, Z, I, L4, R) Q ↔ Br 141 163 152 [some (.ref 74), some (.int (nI j)), some (.int x0), some (.int x1), some (.int x2), some (.int (nI 3)), some (.int (nI t)), some (.int (nI r2)), some (.int x)] [] (n, sl, C, Z, I, L4, R) Q (nI t ≤ x) := fun x => by simp [S141_0, S141_1, S141_2, S141_3, S141_4, BS]
      have gg := (gen 0).mpr tl
      rw [hL4] at gg
      simp [S141_0, S141_1, S141_2, S141_3, S141_4, BS, ixs, inbs, hM, w0, w1, w2, ↓gg]
    · have l5n : ∀ c, c ≠ 95 → c ≠ 97 → c ≠ 98 → L5 c = L c := fun c h1 h2 h3 => by rw [f5 c h2 h3, l4n c h2, f3 c h1 h2 h3, f2 c h1, f1 c h1 h2 h3]
      have l95 : L5 95 = L3 95 := by rw [f5 95 (by omega) (by omega), l4n 95 (by omega)]
      simp [S141_0, S141_1, S141_2, S141_3, S141_4, BS, ixs, inbs, hM, mul3, nIk, it, it0, c0, c1, c2]
      refine m_rank (m := t + 1) (X := Yt A B (xv 3 x0 x1 x2) t) hM' (by omega) (fun i c hi hc => ?_) (fun i c hi hc => bn_le (bn_Yt hA hB hV t3 i c hi hc) (by decide)) (G2_Yt hA hB hV t3) (fun r1 hr1 k1 L6 f6 => ?_)
      · unfold Yt
        by_cases q : i < t
        · have a1 : ¬ 3 * i + c = 3 * t := by omega
          have a2 : ¬ 3 * i + c = 3 * t + 1 := by omega
          have a3 : ¬ 3 * i + c = 3 * t + 2 := by omega
          rw [if_pos q]
          simp [u2_rd, a1, a2, a3, l95]
          exact v3 i c q hc
        · have e1 : i = t := by omega
          rw [if_neg q, e1]
          have z1 := zp t
          rcases i3 hc with rfl | rfl | rfl <;> simp [u2_rd, v5, z1, wL_0]
      · have eq := EqT_iff k1 k2'
        by_cases q : r1 = r2
        · have := go (nI t) L6 (Or.inl ⟨t, by omega, rfl, eq.mpr q, hn⟩) (fun c h1 h2 h3 => by
            rw [f6 c h1]
            repeat (first | rw [u2_ne _ _ _ h1])
            exact l5n c h1 h2 h3)
          simp [S141_0, S141_1, S141_2, S141_3, S141_4, BS, q, this]
        · have q' : ¬ nI r1 = nI r2 := fun h => q ((nI_eq (by omega) (by omega)).mp h)
          have nx := ih (t + 1) L6 (some (.int (nI r2))) (some (.int 3)) (by omega) (fun t' h => by
            by_cases e1 : t' = t
            · rw [e1]; exact fun h => q (eq.mp h)
            · exact hn t' (by omega)) (fun v L' hv f => go v L' hv (fun c h1 h2 h3 => by
            rw [f c h1 h2 h3, f6 c h1]
            repeat (first | rw [u2_ne _ _ _ h1])
            exact l5n c h1 h2 h3))
          simp [S141_0, S141_1, S141_2, S141_3, S141_4, BS, q', nIk]
          exact nx
