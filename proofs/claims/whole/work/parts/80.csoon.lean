/-! soonest -/
def xv (s : Nat) (x0 x1 x2 : Int32) (i : Nat) : Int := if i < s then (if i = 0 then x0.toInt else if i = 1 then x1.toInt else x2.toInt) else 0
/-- the columns so far, and where the beginning has got to -/
def Yt (A B V : Nat → Int) (t i : Nat) : Nat → Int := if i < t then pw A B i else pw A V t
def EqT (A B V : Nat → Int) (t : Nat) : Prop := ∃ r, IsRk (Yt A B V t) (t + 1) r ∧ IsRk (Yt A B V t) t r
def Soon (A B V : Nat → Int) (s : Nat) (v : Int32) : Prop := (∃ t, t ≤ s ∧ v = nI t ∧ EqT A B V t ∧ ∀ t', t' < t → ¬ EqT A B V t') ∨ (v = -1 ∧ ∀ t, t ≤ s → ¬ EqT A B V t)
theorem Soon.uniq {A B V : Nat → Int} {s : Nat} {v w : Int32} (h : Soon A B V s v) (h' : Soon A B V s w) : v = w := by
  rcases h with ⟨t, h1, h2, h3, h4⟩ | ⟨h1, h2⟩ <;> rcases h' with ⟨t', g1, g2, g3, g4⟩ | ⟨g1, g2⟩
  · rcases Nat.lt_trichotomy t t' with q | q | q
    · exact absurd h3 (g4 t q)
    · rw [h2, g2, q]
    · exact absurd g3 (h4 t' q)
  · exact absurd h3 (g2 t h1)
  · exact absurd g3 (h2 t' g1)
  · rw [h1, g1]
theorem EqT_iff {A B V : Nat → Int} {t r1 r2 : Nat} (h1 : IsRk (Yt A B V t) (t + 1) r1) (h2 : IsRk (Yt A B V t) t r2) : EqT A B V t ↔ r1 = r2 := by
  constructor
  · rintro ⟨r, g1, g2⟩
    rw [h1.uniq g1, h2.uniq g2]
  · intro e
    subst e
    exact ⟨r1, h1, h2⟩
theorem bn_xv {s : Nat} {x0 x1 x2 : Int32} (h : ∀ k, k < s → bn 9 (if k = 0 then x0.toInt else if k = 1 then x1.toInt else x2.toInt)) (i : Nat) : bn 9 (xv s x0 x1 x2 i) := by
  unfold xv
  by_cases q : i < s
  · rw [if_pos q]; exact h i q
  · rw [if_neg q]; unfold bn; decide
theorem bn_Yt {A B V : Nat → Int} (hA : ∀ i, i < 9 → bn 12 (A i)) (hB : ∀ i, i < 3 → bn 12 (B i)) (hV : ∀ i, i < 3 → bn 9 (V i)) {t : Nat} (ht : t ≤ 3) : ∀ i c, i < t + 1 → c < 3 → bn 419904 (Yt A B V t i c) := by
  intro i c hi hc
  unfold Yt
  by_cases q : i < t
  · rw [if_pos q]
    exact bn_le (bn_pw3 hA hB i c (by omega) hc) (by decide)
  · rw [if_neg q]
    exact bn_le (bn_pw hA hV t c hc) (by rcases (by omega : t = 0 ∨ t = 1 ∨ t = 2 ∨ t = 3) with h | h | h | h <;> rw [h] <;> decide)
theorem G2_Yt {A B V : Nat → Int} (hA : ∀ i, i < 9 → bn 12 (A i)) (hB : ∀ i, i < 3 → bn 12 (B i)) (hV : ∀ i, i < 3 → bn 9 (V i)) {t : Nat} (ht : t ≤ 3) : G2 (Yt A B V t) (t + 1) := by
  by_cases e : t = 3
  · subst e
    have p := bn_pw hA hB
    exact G2_soon (fun c hc => p 0 c hc) (fun c hc => p 1 c hc) (fun c hc => p 2 c hc) (fun c hc => bn_Yt hA hB hV (by omega) 3 c (by omega) hc)
  · refine G2_crude (fun i c hi hc => ?_)
    unfold Yt
    by_cases q : i < t
    · rw [if_pos q]
      exact bn_pw3 hA hB i c (by omega) hc
    · rw [if_neg q]
      exact bn_le (bn_pw hA hV t c hc) (by rcases (by omega : t = 0 ∨ t = 1 ∨ t = 2) with h | h | h <;> rw [h] <;> decide)
theorem IsRk.rows {X Y : Nat → Nat → Int} {m r : Nat} (h : IsRk X m r) (e : ∀ i, i < m → X i = Y i) : IsRk Y m r := h.congr (fun v => ⟨fun g i hi => by rw [e i hi]; exact g i hi, fun g i hi => by rw [← e i hi]; exact g i hi⟩)
set_option maxRecDepth 100000 in
set_option maxHeartbeats 8000000 in
theorem c_soon_lp {n sl : Nat} {C Z : Nat → Nat} {I : Nat → Nat → Int32} {R : Nat → Nat → Nat} {q s : Nat} {u : Int32} {A B K V : Nat → Int} {d : Int} {x0 x1 x2 : Int32} (hc : CM C Z I R q s u A B K d) (hK : LayK C Z R) (hR : R 8 0 = q) (hA : ∀ i, i < 9 → bn 12 (A i)) (hB : ∀ i, i < 3 → bn 12 (B i)) (hV : ∀ i, i < 3 → bn 9 (V i)) {Q : Option Value → Hp → Prop} : ∀ e t L, t + e = s + 1 → LK L 8 s A B K → (∀ c, c < 3 → L 35 c = wL (pw A V t c)) → (∀ i c, i < t → c < 3 → L (29 + i) c = wL (pw A B i c)) → (∀ t', t' < t → ¬ EqT A B V t') → (∀ v L', Soon A B V s v → (∀ c, c < 29 ∨ 36 < c → L' c = L c) → Q (some (.int v)) (n, sl, C, Z, I, L', R)) → Br 36 178 83 [some (.ref 8), some (.int x0), some (.int x1), some (.int x2), some (.int (nI t))] [] (n, sl, C, Z, I, L, R) Q (nI s < nI t) := by
  obtain ⟨⟨g0, g1, g2, hs3, g4, g5⟩, -⟩ := id hc
  have hK' := hK
  unfold LayK at hK
  have c8 : C 8 = 4 := by simp [hK]
  intro e
  induction e with
  | zero =>
    intro t L ht lk hx hr hn go
    have c1 : nI s < nI t := nI_lt (by omega) (by omega)
    have := go (-1) L (Or.inr ⟨rfl, fun t' h => hn t' (by omega)⟩) (fun _ _ => rfl)
    simp [S36_0, S36_1, S36_2, S36_3, BS, c1, this]
  | succ e ih =>
    intro t L ht lk hx hr hn go
    have c1 : ¬ nI s < nI t := nI_nlt (by omega) (by omega)
    have t3 : t ≤ 3 := by omega
    have it : inb (nI t) 4 = true ∧ inb (nI t) 8 = true ∧ ix (nI t) = t := ⟨by rw [inb_nI (by omega)]; simp; omega, by rw [inb_nI (by omega)]; simp; omega, ix_nI (by omega)⟩
    have rt : R 28 t = 29 + t ∧ C (29 + t) = 22 ∧ Z (29 + t) = 3 ∧ R 14 t = 15 + t ∧ C (15 + t) = 22 ∧ Z (15 + t) = 3 := by
      rcases (by omega : t = 0 ∨ t = 1 ∨ t = 2 ∨ t = 3) with rfl | rfl | rfl | rfl <;> simp [hK]
    obtain ⟨L1, hL1⟩ : ∃ L1, L1 = va_up L (29 + t) (va_cpy (L 35) (L (29 + t)) 0 0 3) := ⟨_, rfl⟩
    have l1t : ∀ c, c < 3 → L1 (29 + t) c = wL (pw A V t c) := fun c hc => by
      rw [hL1, va_up_rd, if_pos rfl, pk_cpy_in (by omega) (by omega), Nat.zero_add, Nat.sub_zero]; exact hx c hc
    have l1n : ∀ c, c ≠ 29 + t → L1 c = L c := fun c h => by rw [hL1, va_up_no _ _ h]
    have row : ∀ i, i < t + 1 → R 28 i = 29 + i ∧ C (29 + i) = 22 ∧ Z (29 + i) = 3 ∧ L1 (29 + i) 0 = wL (Yt A B V t i 0) ∧ L1 (29 + i) 1 = wL (Yt A B V t i 1) ∧ L1 (29 + i) 2 = wL (Yt A B V t i 2) := fun i hi => by
      have a : R 28 i = 29 + i ∧ C (29 + i) = 22 ∧ Z (29 + i) = 3 := by
        rcases (by omega : i = 0 ∨ i = 1 ∨ i = 2 ∨ i = 3) with rfl | rfl | rfl | rfl <;> simp [hK]
      have b : ∀ c, c < 3 → L1 (29 + i) c = wL (Yt A B V t i c) := fun c hc => by
        unfold Yt
        by_cases q : i < t
        · rw [if_pos q, l1n _ (by omega)]; exact hr i c q hc
        · rw [if_neg q, show i = t by omega]; exact l1t c hc
      exact ⟨a.1, a.2.1, a.2.2, b 0 (by omega), b 1 (by omega), b 2 (by omega)⟩
    have bY := bn_Yt hA hB hV t3
    have w1 : RW C Z L1 R 28 4 (t + 1) (fun i => 29 + i) (Yt A B V t) := ⟨by simp [hK], by simp [hK], by omega, by omega, row, fun i c hi hc => bn_le (bY i c hi hc) (by decide), fun i j k hi hj hk => bn_le (bn_dt3 (fun c hc => bY i c hi hc) (fun c hc => bY j c hj hc) (fun c hc => bY k c hk hc)) (by decide)⟩
    have w2 : RW C Z L1 R 28 4 t (fun i => 29 + i) (Yt A B V t) := ⟨by simp [hK], by simp [hK], by omega, by omega, fun i hi => row i (by omega), fun i c hi hc => bn_le (bY i c (by omega) hc) (by decide), fun i j k hi hj hk => bn_le (bn_dt3 (fun c hc => bY i c (by omega) hc) (fun c hc => bY j c (by omega) hc) (fun c hc => bY k c (by omega) hc)) (by decide)⟩
    simp [S36_0, S36_1, S36_2, S36_3, BS, ixs, inbs, c1, hK, it, rt, nIk, ← hL1]
    refine c_rank w1 (fun r1 hr1 k1 => ?_)
    simp [S36_0, S36_1, S36_2, S36_3, BS, ixs, inbs, hK, it, rt]
    refine c_rank w2 (fun r2 hr2 k2 => ?_)
    have eq := EqT_iff k1 k2
    by_cases q : r1 = r2
    · have := go (nI t) L1 (Or.inl ⟨t, by omega, rfl, eq.mpr q, hn⟩) (fun c h => l1n c (by omega))
      simp [S36_0, S36_1, S36_2, S36_3, BS, q, this]
    · have q' : ¬ nI r1 = nI r2 := fun h => q ((nI_eq (by omega) (by omega)).mp h)
      simp [S36_0, S36_1, S36_2, S36_3, BS, ixs, inbs, hK, it, rt, q']
      obtain ⟨L2, hL2⟩ : ∃ L2, L2 = va_up L1 (29 + t) (va_cpy (L1 (15 + t)) (L1 (29 + t)) 0 0 3) := ⟨_, rfl⟩
      have l2n : ∀ c, c ≠ 29 + t → L2 c = L c := fun c h => by rw [hL2, va_up_no _ _ h, l1n c h]
      rw [← hL2]
      refine (c_col hc c8 hR (t := 36) (x := 35) (v := pw A V t) (by simp [hK]) (by simp [hK]) (by simp [hK]) (by simp [hK]) (by omega) (by rw [l2n 35 (by omega)]; exact hx 0 (by omega)) (by rw [l2n 35 (by omega)]; exact hx 1 (by omega)) (by rw [l2n 35 (by omega)]; exact hx 2 (by omega)) _ _ _ _ _).mpr ?_
      simp [S36_0, S36_1, S36_2, S36_3, BS, ixs, inbs, hK, nIk, g0, g4, hR]
      refine ih (t + 1) _ (by omega) ?_ (fun c hc => ?_) (fun i c hi hc => ?_) (fun t' h => ?_) (fun v L' hv f => go v L' hv (fun c hc => ?_))
      · refine lk.keep (fun c h1 h2 => ?_)
        rw [va_up_no _ _ (by omega), va_up_no _ _ (by omega), l2n c (by omega)]
      · rw [va_up_rd, if_pos rfl, pk_cpy_in (by omega) (by omega), Nat.zero_add, Nat.sub_zero, va_up_rd, if_pos rfl]
        rcases i3 hc with rfl | rfl | rfl <;> rfl
      · rw [va_up_no _ _ (by omega), va_up_no _ _ (by omega)]
        by_cases e1 : i = t
        · rw [e1, hL2, va_up_rd, if_pos rfl, pk_cpy_in (by omega) (by omega), Nat.zero_add, Nat.sub_zero, l1n _ (by omega)]
          exact lk.1 t c (by omega) hc
        · rw [l2n _ (by omega)]; exact hr i c (by omega) hc
      · by_cases e1 : t' = t
        · rw [e1]; exact fun h => q (eq.mp h)
        · exact hn t' (by omega)
      · rw [f c hc, va_up_no _ _ (by omega), va_up_no _ _ (by omega), l2n c (by omega)]
set_option maxRecDepth 100000 in
set_option maxHeartbeats 8000000 in
theorem c_soon_0 {n sl : Nat} {C Z : Nat → Nat} {I : Nat → Nat → Int32} {L : Nat → Nat → Int64} {R : Nat → Nat → Nat} {q : Nat} {u : Int32} {A B K : Nat → Int} {d : Int} (x0 x1 x2 : Int32) (hc : CM C Z I R q 0 u A B K d) (hK : LayK C Z R) (hR : R 8 0 = q) (lk : LK L 8 0 A B K) (hA : ∀ i, i < 9 → bn 12 (A i)) (hB : ∀ i, i < 3 → bn 12 (B i)) (hV : ∀ i, i < 3 → bn 9 (xv 0 x0 x1 x2 i)) {k pc : Nat} {ls : Lo} {st : List Value} {Q : Option Value → Hp → Prop} (go : ∀ v L', Soon A B (xv 0 x0 x1 x2) 0 v → (∀ c, c < 29 ∨ 36 < c → L' c = L c) → Wp k pc ls (.int v :: st) (n, sl, C, Z, I, L', R) Q) : Call 36 [some (.ref 8), some (.int x0), some (.int x1), some (.int x2), none] (n, sl, C, Z, I, L, R) k pc ls st Q := by
  obtain ⟨⟨g0, g1, g2, hs3, g4, g5⟩, -⟩ := id hc
  have hK' := hK
  unfold LayK at hK
  have c0 : nI 0 ≤ 0 := by decide +kernel
  have c1 : nI 0 ≤ 1 := by decide +kernel
  have c2 : nI 0 ≤ 2 := by decide +kernel
  have w0 : x0.toInt64 = wL x0.toInt := wL_i2l x0
  have w1 : x1.toInt64 = wL x1.toInt := wL_i2l x1
  have w2 : x2.toInt64 = wL x2.toInt := wL_i2l x2
  obtain ⟨L1, hL1⟩ : ∃ L1, L1 = u2 (u2 (u2 L 35 0 (wL (xv 0 x0 x1 x2 0))) 35 1 (wL (xv 0 x0 x1 x2 1))) 35 2 (wL (xv 0 x0 x1 x2 2)) := ⟨_, rfl⟩
  have l1n : ∀ c, c ≠ 35 → L1 c = L c := fun c h => by rw [hL1, u2_ne _ _ _ h, u2_ne _ _ _ h, u2_ne _ _ _ h]
  have lp := c_soon_lp (n := n) (sl := sl) (x0 := x0) (x1 := x1) (x2 := x2) (Q := fun r h1 => Wp k pc ls (r.toList ++ st) h1 Q) hc hK' hR hA hB hV (0 + 1) 0 L1 (by omega) (lk.keep (fun c h1 h2 => l1n c (by omega))) (fun c hc => by rw [hL1]; rcases i3 hc with rfl | rfl | rfl <;> simp [u2_rd, pw_0]) (fun i c hi _ => absurd hi (by omega)) (fun t' h => absurd h (by omega)) (fun v L' hv f => go v L' hv (fun c hc => by rw [f c hc, l1n c (by omega)]))
  rw [nI_0] at lp
  rw [hL1] at lp
  simp [xv] at lp
  simp [S36_0, S36_1, S36_2, S36_3, Call_in (k2 := 36), BS, ixs, inbs, hK, hR, g0, g4, c0, c1, c2, w0, w1, w2, ← wL_0]
  simpa [nI_0] using lp
set_option maxRecDepth 100000 in
set_option maxHeartbeats 8000000 in
theorem c_soon_1 {n sl : Nat} {C Z : Nat → Nat} {I : Nat → Nat → Int32} {L : Nat → Nat → Int64} {R : Nat → Nat → Nat} {q : Nat} {u : Int32} {A B K : Nat → Int} {d : Int} (x0 x1 x2 : Int32) (hc : CM C Z I R q 1 u A B K d) (hK : LayK C Z R) (hR : R 8 0 = q) (lk : LK L 8 1 A B K) (hA : ∀ i, i < 9 → bn 12 (A i)) (hB : ∀ i, i < 3 → bn 12 (B i)) (hV : ∀ i, i < 3 → bn 9 (xv 1 x0 x1 x2 i)) {k pc : Nat} {ls : Lo} {st : List Value} {Q : Option Value → Hp → Prop} (go : ∀ v L', Soon A B (xv 1 x0 x1 x2) 1 v → (∀ c, c < 29 ∨ 36 < c → L' c = L c) → Wp k pc ls (.int v :: st) (n, sl, C, Z, I, L', R) Q) : Call 36 [some (.ref 8), some (.int x0), some (.int x1), some (.int x2), none] (n, sl, C, Z, I, L, R) k pc ls st Q := by
  obtain ⟨⟨g0, g1, g2, hs3, g4, g5⟩, -⟩ := id hc
  have hK' := hK
  unfold LayK at hK
  have c0 : ¬ nI 1 ≤ 0 := by decide +kernel
  have c1 : nI 1 ≤ 1 := by decide +kernel
  have c2 : nI 1 ≤ 2 := by decide +kernel
  have w0 : x0.toInt64 = wL x0.toInt := wL_i2l x0
  have w1 : x1.toInt64 = wL x1.toInt := wL_i2l x1
  have w2 : x2.toInt64 = wL x2.toInt := wL_i2l x2
  obtain ⟨L1, hL1⟩ : ∃ L1, L1 = u2 (u2 (u2 L 35 0 (wL (xv 1 x0 x1 x2 0))) 35 1 (wL (xv 1 x0 x1 x2 1))) 35 2 (wL (xv 1 x0 x1 x2 2)) := ⟨_, rfl⟩
  have l1n : ∀ c, c ≠ 35 → L1 c = L c := fun c h => by rw [hL1, u2_ne _ _ _ h, u2_ne _ _ _ h, u2_ne _ _ _ h]
  have lp := c_soon_lp (n := n) (sl := sl) (x0 := x0) (x1 := x1) (x2 := x2) (Q := fun r h1 => Wp k pc ls (r.toList ++ st) h1 Q) hc hK' hR hA hB hV (1 + 1) 0 L1 (by omega) (lk.keep (fun c h1 h2 => l1n c (by omega))) (fun c hc => by rw [hL1]; rcases i3 hc with rfl | rfl | rfl <;> simp [u2_rd, pw_0]) (fun i c hi _ => absurd hi (by omega)) (fun t' h => absurd h (by omega)) (fun v L' hv f => go v L' hv (fun c hc => by rw [f c hc, l1n c (by omega)]))
  rw [nI_0] at lp
  rw [hL1] at lp
  simp [xv] at lp
  simp [S36_0, S36_1, S36_2, S36_3, Call_in (k2 := 36), BS, ixs, inbs, hK, hR, g0, g4, c0, c1, c2, w0, w1, w2, ← wL_0]
  exact lp
set_option maxRecDepth 100000 in
set_option maxHeartbeats 8000000 in
theorem c_soon_2 {n sl : Nat} {C Z : Nat → Nat} {I : Nat → Nat → Int32} {L : Nat → Nat → Int64} {R : Nat → Nat → Nat} {q : Nat} {u : Int32} {A B K : Nat → Int} {d : Int} (x0 x1 x2 : Int32) (hc : CM C Z I R q 2 u A B K d) (hK : LayK C Z R) (hR : R 8 0 = q) (lk : LK L 8 2 A B K) (hA : ∀ i, i < 9 → bn 12 (A i)) (hB : ∀ i, i < 3 → bn 12 (B i)) (hV : ∀ i, i < 3 → bn 9 (xv 2 x0 x1 x2 i)) {k pc : Nat} {ls : Lo} {st : List Value} {Q : Option Value → Hp → Prop} (go : ∀ v L', Soon A B (xv 2 x0 x1 x2) 2 v → (∀ c, c < 29 ∨ 36 < c → L' c = L c) → Wp k pc ls (.int v :: st) (n, sl, C, Z, I, L', R) Q) : Call 36 [some (.ref 8), some (.int x0), some (.int x1), some (.int x2), none] (n, sl, C, Z, I, L, R) k pc ls st Q := by
  obtain ⟨⟨g0, g1, g2, hs3, g4, g5⟩, -⟩ := id hc
  have hK' := hK
  unfold LayK at hK
  have c0 : ¬ nI 2 ≤ 0 := by decide +kernel
  have c1 : ¬ nI 2 ≤ 1 := by decide +kernel
  have c2 : nI 2 ≤ 2 := by decide +kernel
  have w0 : x0.toInt64 = wL x0.toInt := wL_i2l x0
  have w1 : x1.toInt64 = wL x1.toInt := wL_i2l x1
  have w2 : x2.toInt64 = wL x2.toInt := wL_i2l x2
  obtain ⟨L1, hL1⟩ : ∃ L1, L1 = u2 (u2 (u2 L 35 0 (wL (xv 2 x0 x1 x2 0))) 35 1 (wL (xv 2 x0 x1 x2 1))) 35 2 (wL (xv 2 x0 x1 x2 2)) := ⟨_, rfl⟩
  have l1n : ∀ c, c ≠ 35 → L1 c = L c := fun c h => by rw [hL1, u2_ne _ _ _ h, u2_ne _ _ _ h, u2_ne _ _ _ h]
  have lp := c_soon_lp (n := n) (sl := sl) (x0 := x0) (x1 := x1) (x2 := x2) (Q := fun r h1 => Wp k pc ls (r.toList ++ st) h1 Q) hc hK' hR hA hB hV (2 + 1) 0 L1 (by omega) (lk.keep (fun c h1 h2 => l1n c (by omega))) (fun c hc => by rw [hL1]; rcases i3 hc with rfl | rfl | rfl <;> simp [u2_rd, pw_0]) (fun i c hi _ => absurd hi (by omega)) (fun t' h => absurd h (by omega)) (fun v L' hv f => go v L' hv (fun c hc => by rw [f c hc, l1n c (by omega)]))
  rw [nI_0] at lp
  rw [hL1] at lp
  simp [xv] at lp
  simp [S36_0, S36_1, S36_2, S36_3, Call_in (k2 := 36), BS, ixs, inbs, hK, hR, g0, g4, c0, c1, c2, w0, w1, w2, ← wL_0]
  exact lp
set_option maxRecDepth 100000 in
set_option maxHeartbeats 8000000 in
theorem c_soon_3 {n sl : Nat} {C Z : Nat → Nat} {I : Nat → Nat → Int32} {L : Nat → Nat → Int64} {R : Nat → Nat → Nat} {q : Nat} {u : Int32} {A B K : Nat → Int} {d : Int} (x0 x1 x2 : Int32) (hc : CM C Z I R q 3 u A B K d) (hK : LayK C Z R) (hR : R 8 0 = q) (lk : LK L 8 3 A B K) (hA : ∀ i, i < 9 → bn 12 (A i)) (hB : ∀ i, i < 3 → bn 12 (B i)) (hV : ∀ i, i < 3 → bn 9 (xv 3 x0 x1 x2 i)) {k pc : Nat} {ls : Lo} {st : List Value} {Q : Option Value → Hp → Prop} (go : ∀ v L', Soon A B (xv 3 x0 x1 x2) 3 v → (∀ c, c < 29 ∨ 36 < c → L' c = L c) → Wp k pc ls (.int v :: st) (n, sl, C, Z, I, L', R) Q) : Call 36 [some (.ref 8), some (.int x0), some (.int x1), some (.int x2), none] (n, sl, C, Z, I, L, R) k pc ls st Q := by
  obtain ⟨⟨g0, g1, g2, hs3, g4, g5⟩, -⟩ := id hc
  have hK' := hK
  unfold LayK at hK
  have c0 : ¬ nI 3 ≤ 0 := by decide +kernel
  have c1 : ¬ nI 3 ≤ 1 := by decide +kernel
  have c2 : ¬ nI 3 ≤ 2 := by decide +kernel
  have w0 : x0.toInt64 = wL x0.toInt := wL_i2l x0
  have w1 : x1.toInt64 = wL x1.toInt := wL_i2l x1
  have w2 : x2.toInt64 = wL x2.toInt := wL_i2l x2
  obtain ⟨L1, hL1⟩ : ∃ L1, L1 = u2 (u2 (u2 L 35 0 (wL (xv 3 x0 x1 x2 0))) 35 1 (wL (xv 3 x0 x1 x2 1))) 35 2 (wL (xv 3 x0 x1 x2 2)) := ⟨_, rfl⟩
  have l1n : ∀ c, c ≠ 35 → L1 c = L c := fun c h => by rw [hL1, u2_ne _ _ _ h, u2_ne _ _ _ h, u2_ne _ _ _ h]
  have lp := c_soon_lp (n := n) (sl := sl) (x0 := x0) (x1 := x1) (x2 := x2) (Q := fun r h1 => Wp k pc ls (r.toList ++ st) h1 Q) hc hK' hR hA hB hV (3 + 1) 0 L1 (by omega) (lk.keep (fun c h1 h2 => l1n c (by omega))) (fun c hc => by rw [hL1]; rcases i3 hc with rfl | rfl | rfl <;> simp [u2_rd, pw_0]) (fun i c hi _ => absurd hi (by omega)) (fun t' h => absurd h (by omega)) (fun v L' hv f => go v L' hv (fun c hc => by rw [f c hc, l1n c (by omega)]))
  rw [nI_0] at lp
  rw [hL1] at lp
  simp [xv] at lp
  simp [S36_0, S36_1, S36_2, S36_3, Call_in (k2 := 36), BS, ixs, inbs, hK, hR, g0, g4, c0, c1, c2, w0, w1, w2, ← wL_0]
  exact lp
