set_option maxRecDepth 100000 in
set_option maxHeartbeats 8000000 in
theorem c_lead_1 {n sl : Nat} {C Z : Nat → Nat} {I : Nat → Nat → Int32} {L : Nat → Nat → Int64} {R : Nat → Nat → Nat} {q : Nat} {u : Int32} {A B K : Nat → Int} {d : Int} (hc : CM C Z I R q 1 u A B K d) (hK : LayK C Z R) (hR : R 8 0 = q) (lk : LK L 8 1 A B K) {k pc : Nat} {ls : Lo} {st : List Value} {Q : Option Value → Hp → Prop} (go : Wp k pc ls st (n, sl, C, Z, I, u2 (u2 (u2 L 29 0 (wL (ld 1 A B 0))) 29 1 (wL (ld 1 A B 1))) 29 2 (wL (ld 1 A B 2)), R) Q) : Call 35 [some (.ref 8), some (.ref 29), none, none, none, none] (n, sl, C, Z, I, L, R) k pc ls st Q := by
  obtain ⟨⟨g0, g1, g2, g3, g4, g5⟩, -⟩ := id hc
  unfold LayK at hK
  have n0 : nI 1 = 1 := rfl
  have x0 : L 15 0 = wL (pw A B 0 0) := lk.1 0 0 (by omega) (by omega)
  have x1 : L 15 1 = wL (pw A B 0 1) := lk.1 0 1 (by omega) (by omega)
  have x2 : L 15 2 = wL (pw A B 0 2) := lk.1 0 2 (by omega) (by omega)
  have y0 : L 16 0 = wL (pw A B 1 0) := lk.1 1 0 (by omega) (by omega)
  have y1 : L 16 1 = wL (pw A B 1 1) := lk.1 1 1 (by omega) (by omega)
  have y2 : L 16 2 = wL (pw A B 1 2) := lk.1 1 2 (by omega) (by omega)
  simp [ld] at go
  simp [S35_0, S35_1, S35_2, S35_3, S35_4, Call_in (k2 := 35), BS, ixs, inbs, hK, hR, g0, g4, n0, x0, x1, x2, y0, y1, y2, u2_rd, wL_mul, wL_sub, wL_neg, ← wL_0, ← wL_1]
  exact go
set_option maxRecDepth 100000 in
set_option maxHeartbeats 8000000 in
theorem c_lead_2 {n sl : Nat} {C Z : Nat → Nat} {I : Nat → Nat → Int32} {L : Nat → Nat → Int64} {R : Nat → Nat → Nat} {q : Nat} {u : Int32} {A B K : Nat → Int} {d : Int} (hc : CM C Z I R q 2 u A B K d) (hK : LayK C Z R) (hR : R 8 0 = q) (lk : LK L 8 2 A B K) {k pc : Nat} {ls : Lo} {st : List Value} {Q : Option Value → Hp → Prop} (go : Wp k pc ls st (n, sl, C, Z, I, u2 (u2 (u2 L 29 0 (wL (ld 2 A B 0))) 29 1 (wL (ld 2 A B 1))) 29 2 (wL (ld 2 A B 2)), R) Q) : Call 35 [some (.ref 8), some (.ref 29), none, none, none, none] (n, sl, C, Z, I, L, R) k pc ls st Q := by
  obtain ⟨⟨g0, g1, g2, g3, g4, g5⟩, -⟩ := id hc
  unfold LayK at hK
  have n0 : nI 2 = 2 := rfl
  have x0 : L 15 0 = wL (pw A B 0 0) := lk.1 0 0 (by omega) (by omega)
  have x1 : L 15 1 = wL (pw A B 0 1) := lk.1 0 1 (by omega) (by omega)
  have x2 : L 15 2 = wL (pw A B 0 2) := lk.1 0 2 (by omega) (by omega)
  have y0 : L 16 0 = wL (pw A B 1 0) := lk.1 1 0 (by omega) (by omega)
  have y1 : L 16 1 = wL (pw A B 1 1) := lk.1 1 1 (by omega) (by omega)
  have y2 : L 16 2 = wL (pw A B 1 2) := lk.1 1 2 (by omega) (by omega)
  simp [ld] at go
  simp [S35_0, S35_1, S35_2, S35_3, S35_4, Call_in (k2 := 35), BS, ixs, inbs, hK, hR, g0, g4, n0, x0, x1, x2, y0, y1, y2, u2_rd, wL_mul, wL_sub, wL_neg, ← wL_0, ← wL_1]
  exact go
set_option maxRecDepth 100000 in
set_option maxHeartbeats 8000000 in
theorem c_lead_3 {n sl : Nat} {C Z : Nat → Nat} {I : Nat → Nat → Int32} {L : Nat → Nat → Int64} {R : Nat → Nat → Nat} {q : Nat} {u : Int32} {A B K : Nat → Int} {d : Int} (hc : CM C Z I R q 3 u A B K d) (hK : LayK C Z R) (hR : R 8 0 = q) (lk : LK L 8 3 A B K) {k pc : Nat} {ls : Lo} {st : List Value} {Q : Option Value → Hp → Prop} (go : Wp k pc ls st (n, sl, C, Z, I, u2 (u2 (u2 L 29 0 (wL (ld 3 A B 0))) 29 1 (wL (ld 3 A B 1))) 29 2 (wL (ld 3 A B 2)), R) Q) : Call 35 [some (.ref 8), some (.ref 29), none, none, none, none] (n, sl, C, Z, I, L, R) k pc ls st Q := by
  obtain ⟨⟨g0, g1, g2, g3, g4, g5⟩, -⟩ := id hc
  unfold LayK at hK
  have n0 : nI 3 = 3 := rfl
  have x0 : L 15 0 = wL (pw A B 0 0) := lk.1 0 0 (by omega) (by omega)
  have x1 : L 15 1 = wL (pw A B 0 1) := lk.1 0 1 (by omega) (by omega)
  have x2 : L 15 2 = wL (pw A B 0 2) := lk.1 0 2 (by omega) (by omega)
  have y0 : L 16 0 = wL (pw A B 1 0) := lk.1 1 0 (by omega) (by omega)
  have y1 : L 16 1 = wL (pw A B 1 1) := lk.1 1 1 (by omega) (by omega)
  have y2 : L 16 2 = wL (pw A B 1 2) := lk.1 1 2 (by omega) (by omega)
  simp [ld] at go
  simp [S35_0, S35_1, S35_2, S35_3, S35_4, Call_in (k2 := 35), BS, ixs, inbs, hK, hR, g0, g4, n0, x0, x1, x2, y0, y1, y2, u2_rd, wL_mul, wL_sub, wL_neg, ← wL_0, ← wL_1]
  exact go
set_option maxRecDepth 100000 in
set_option maxHeartbeats 8000000 in
theorem c_gain_10 {n sl : Nat} {C Z : Nat → Nat} {I : Nat → Nat → Int32} {L : Nat → Nat → Int64} {R : Nat → Nat → Nat} {q : Nat} {u : Int32} {A B K : Nat → Int} {d : Int} (hc : CM C Z I R q 1 u A B K d) (hK : LayK C Z R) (hR : R 8 0 = q) (lk : LK L 8 1 A B K) (p0 p1 p2 : Int32) (hA : ∀ i, i < 9 → bn 12 (A i)) (hB : ∀ i, i < 3 → bn 12 (B i)) (hu : u.toInt = 1 ∨ u.toInt = 2 ∨ u.toInt = 4) (hP : ∀ k, k < 1 → bn 100 ((fun k => if k = 0 then p0.toInt else if k = 1 then p1.toInt else p2.toInt) k)) (c73 : C 73 = 3) (gz : ¬ u.toInt * gl 1 A B = 0) {k pc : Nat} {ls : Lo} {st : List Value} {Q : Option Value → Hp → Prop} (go : ∀ L', (∀ c, c ≠ 29 → c ≠ 35 → c ≠ 36 → c ≠ 73 → L' c = L c) → L' 73 0 = wL (fn (gn 1 A B (fun k => if k = 0 then p0.toInt else if k = 1 then p1.toInt else p2.toInt) 0) (u.toInt * gl 1 A B)) → L' 73 1 = wL (fd (gn 1 A B (fun k => if k = 0 then p0.toInt else if k = 1 then p1.toInt else p2.toInt) 0) (u.toInt * gl 1 A B)) → Wp k pc ls st (n, sl, C, Z, I, L', R) Q) : Call 34 [some (.ref 8), some (.ref 73), some (.int p0), some (.int p1), some (.int p2), some (.int 0), none, none, none, none, none, none] (n, sl, C, Z, I, L, R) k pc ls st Q := by
  obtain ⟨⟨g0, g1, g2, g3, g4, g5⟩, -⟩ := id hc
  have hK' := hK
  unfold LayK at hK
  have c8 : C 8 = 4 := by simp [hK]
  have n0 : nI 1 = 1 := rfl
  have wu : u.toInt64 = wL u.toInt := wL_i2l u
  have w0 : p0.toInt64 = wL p0.toInt := wL_i2l p0
  have w1 : p1.toInt64 = wL p1.toInt := wL_i2l p1
  have w2 : p2.toInt64 = wL p2.toInt := wL_i2l p2
  have x0 : L 15 0 = wL (pw A B 0 0) := lk.1 0 0 (by omega) (by omega)
  have x1 : L 15 1 = wL (pw A B 0 1) := lk.1 0 1 (by omega) (by omega)
  have x2 : L 15 2 = wL (pw A B 0 2) := lk.1 0 2 (by omega) (by omega)
  obtain ⟨l, hl⟩ : ∃ l, l = ld 1 A B := ⟨_, rfl⟩
  simp [S34_0, S34_1, S34_2, S34_3, S34_4, BS, ixs, inbs, hK, hR, c8, c73, g0, g4, g5, n0, u2_rd, va_up_rd, va_cpy, arr3_0, arr3_1, arr3_2, wu, w0, w1, w2, wL_mul, wL_add, ← wL_0, x0, x1, x2, Call_in (k2 := 34)]
  refine c_lead_1 hc hK' hR lk ?_
  rw [← hl]
  simp [S34_0, S34_1, S34_2, S34_3, S34_4, BS, ixs, inbs, hK, hR, c8, c73, g0, g4, g5, n0, u2_rd, va_up_rd, va_cpy, arr3_0, arr3_1, arr3_2, wu, w0, w1, w2, wL_mul, wL_add, ← wL_0, x0, x1, x2]
  refine (c_row hc c8 hR (t := 36) (x := 35) (v := l) (by simp [hK]) (by simp [hK]) (by simp [hK]) (by simp [hK]) (by omega) (by simp [u2_rd, va_up_rd, va_cpy, gA]) (by simp [u2_rd, va_up_rd, va_cpy, gA]) (by simp [u2_rd, va_up_rd, va_cpy, gA]) _ _ _ _ _).mpr ?_
  simp [S34_0, S34_1, S34_2, S34_3, S34_4, BS, ixs, inbs, hK, hR, c8, c73, g0, g4, g5, n0, u2_rd, va_up_rd, va_cpy, arr3_0, arr3_1, arr3_2, wu, w0, w1, w2, wL_mul, wL_add, ← wL_0, x0, x1, x2]
  have bg : bn 1125899906842623 (u.toInt * gl 1 A B) := bn_le (bn_mul (bn_u4 hu).1 (bn_gl hA hB)) (by decide)
  have bn1 : bn 9223372036854775807 (gn 1 A B (fun k => if k = 0 then p0.toInt else if k = 1 then p1.toInt else p2.toInt) 0) := bn_gn (by omega) hA hB hP (by omega) 0 (by omega)
  have en : gn 1 A B (fun k => if k = 0 then p0.toInt else if k = 1 then p1.toInt else p2.toInt) 0 = (gA A l l ((fun k => if k = 0 then p0.toInt else if k = 1 then p1.toInt else p2.toInt) 0)) 0 := by rw [hl]; rfl
  have eg : gl 1 A B = l 0 * pw A B 0 0 := by rw [hl]; rfl
  have pt := fun (L' : Nat → Nat → Int64) (k pc : Nat) (ls : Lo) (st : List Value) (Q : Option Value → Hp → Prop) => c_put (n := n) (sl := sl) (Z := Z) (I := I) (L := L') (R := R) bn1 bg gz c73 k pc ls st Q
  rw [en, eg] at pt
  simp [gA] at pt
  refine (pt _ _ _ _ _ _).mpr ?_
  simp [S34_0, S34_1, S34_2, S34_3, S34_4]
  refine go _ (fun c h1 h2 h3 h4 => ?_) ?_ ?_
  · repeat (first | rw [u2_ne _ _ _ h4] | rw [u2_ne _ _ _ h2] | rw [va_up_no _ _ h3] | rw [va_up_no _ _ h2] | rw [u2_ne _ _ _ h1])
  · rw [en, eg]; simp [u2_rd, gA]
  · rw [en, eg]; simp [u2_rd, gA]
set_option maxRecDepth 100000 in
set_option maxHeartbeats 8000000 in
theorem c_gain_20 {n sl : Nat} {C Z : Nat → Nat} {I : Nat → Nat → Int32} {L : Nat → Nat → Int64} {R : Nat → Nat → Nat} {q : Nat} {u : Int32} {A B K : Nat → Int} {d : Int} (hc : CM C Z I R q 2 u A B K d) (hK : LayK C Z R) (hR : R 8 0 = q) (lk : LK L 8 2 A B K) (p0 p1 p2 : Int32) (hA : ∀ i, i < 9 → bn 12 (A i)) (hB : ∀ i, i < 3 → bn 12 (B i)) (hu : u.toInt = 1 ∨ u.toInt = 2 ∨ u.toInt = 4) (hP : ∀ k, k < 2 → bn 100 ((fun k => if k = 0 then p0.toInt else if k = 1 then p1.toInt else p2.toInt) k)) (c73 : C 73 = 3) (gz : ¬ u.toInt * gl 2 A B = 0) {k pc : Nat} {ls : Lo} {st : List Value} {Q : Option Value → Hp → Prop} (go : ∀ L', (∀ c, c ≠ 29 → c ≠ 35 → c ≠ 36 → c ≠ 73 → L' c = L c) → L' 73 0 = wL (fn (gn 2 A B (fun k => if k = 0 then p0.toInt else if k = 1 then p1.toInt else p2.toInt) 0) (u.toInt * gl 2 A B)) → L' 73 1 = wL (fd (gn 2 A B (fun k => if k = 0 then p0.toInt else if k = 1 then p1.toInt else p2.toInt) 0) (u.toInt * gl 2 A B)) → Wp k pc ls st (n, sl, C, Z, I, L', R) Q) : Call 34 [some (.ref 8), some (.ref 73), some (.int p0), some (.int p1), some (.int p2), some (.int 0), none, none, none, none, none, none] (n, sl, C, Z, I, L, R) k pc ls st Q := by
  obtain ⟨⟨g0, g1, g2, g3, g4, g5⟩, -⟩ := id hc
  have hK' := hK
  unfold LayK at hK
  have c8 : C 8 = 4 := by simp [hK]
  have n0 : nI 2 = 2 := rfl
  have wu : u.toInt64 = wL u.toInt := wL_i2l u
  have w0 : p0.toInt64 = wL p0.toInt := wL_i2l p0
  have w1 : p1.toInt64 = wL p1.toInt := wL_i2l p1
  have w2 : p2.toInt64 = wL p2.toInt := wL_i2l p2
  have x0 : L 16 0 = wL (pw A B 1 0) := lk.1 1 0 (by omega) (by omega)
  have x1 : L 16 1 = wL (pw A B 1 1) := lk.1 1 1 (by omega) (by omega)
  have x2 : L 16 2 = wL (pw A B 1 2) := lk.1 1 2 (by omega) (by omega)
  obtain ⟨l, hl⟩ : ∃ l, l = ld 2 A B := ⟨_, rfl⟩
  simp [S34_0, S34_1, S34_2, S34_3, S34_4, BS, ixs, inbs, hK, hR, c8, c73, g0, g4, g5, n0, u2_rd, va_up_rd, va_cpy, arr3_0, arr3_1, arr3_2, wu, w0, w1, w2, wL_mul, wL_add, ← wL_0, x0, x1, x2, Call_in (k2 := 34)]
  refine c_lead_2 hc hK' hR lk ?_
  rw [← hl]
  simp [S34_0, S34_1, S34_2, S34_3, S34_4, BS, ixs, inbs, hK, hR, c8, c73, g0, g4, g5, n0, u2_rd, va_up_rd, va_cpy, arr3_0, arr3_1, arr3_2, wu, w0, w1, w2, wL_mul, wL_add, ← wL_0, x0, x1, x2]
  refine (c_row hc c8 hR (t := 36) (x := 35) (v := l) (by simp [hK]) (by simp [hK]) (by simp [hK]) (by simp [hK]) (by omega) (by simp [u2_rd, va_up_rd, va_cpy, gA]) (by simp [u2_rd, va_up_rd, va_cpy, gA]) (by simp [u2_rd, va_up_rd, va_cpy, gA]) _ _ _ _ _).mpr ?_
  simp [S34_0, S34_1, S34_2, S34_3, S34_4, BS, ixs, inbs, hK, hR, c8, c73, g0, g4, g5, n0, u2_rd, va_up_rd, va_cpy, arr3_0, arr3_1, arr3_2, wu, w0, w1, w2, wL_mul, wL_add, ← wL_0, x0, x1, x2]
  refine (c_row hc c8 hR (t := 36) (x := 35) (v := (gA A l l ((fun k => if k = 0 then p0.toInt else if k = 1 then p1.toInt else p2.toInt) 1))) (by simp [hK]) (by simp [hK]) (by simp [hK]) (by simp [hK]) (by omega) (by simp [u2_rd, va_up_rd, va_cpy, gA]) (by simp [u2_rd, va_up_rd, va_cpy, gA]) (by simp [u2_rd, va_up_rd, va_cpy, gA]) _ _ _ _ _).mpr ?_
  simp [S34_0, S34_1, S34_2, S34_3, S34_4, BS, ixs, inbs, hK, hR, c8, c73, g0, g4, g5, n0, u2_rd, va_up_rd, va_cpy, arr3_0, arr3_1, arr3_2, wu, w0, w1, w2, wL_mul, wL_add, ← wL_0, x0, x1, x2]
  have bg : bn 1125899906842623 (u.toInt * gl 2 A B) := bn_le (bn_mul (bn_u4 hu).1 (bn_gl hA hB)) (by decide)
  have bn1 : bn 9223372036854775807 (gn 2 A B (fun k => if k = 0 then p0.toInt else if k = 1 then p1.toInt else p2.toInt) 0) := bn_gn (by omega) hA hB hP (by omega) 0 (by omega)
  have en : gn 2 A B (fun k => if k = 0 then p0.toInt else if k = 1 then p1.toInt else p2.toInt) 0 = (gA A l (gA A l l ((fun k => if k = 0 then p0.toInt else if k = 1 then p1.toInt else p2.toInt) 1)) ((fun k => if k = 0 then p0.toInt else if k = 1 then p1.toInt else p2.toInt) 0)) 0 := by rw [hl]; rfl
  have eg : gl 2 A B = l 0 * pw A B 1 0 + l 1 * pw A B 1 1 := by rw [hl]; rfl
  have pt := fun (L' : Nat → Nat → Int64) (k pc : Nat) (ls : Lo) (st : List Value) (Q : Option Value → Hp → Prop) => c_put (n := n) (sl := sl) (Z := Z) (I := I) (L := L') (R := R) bn1 bg gz c73 k pc ls st Q
  rw [en, eg] at pt
  simp [gA] at pt
  refine (pt _ _ _ _ _ _).mpr ?_
  simp [S34_0, S34_1, S34_2, S34_3, S34_4]
  refine go _ (fun c h1 h2 h3 h4 => ?_) ?_ ?_
  · repeat (first | rw [u2_ne _ _ _ h4] | rw [u2_ne _ _ _ h2] | rw [va_up_no _ _ h3] | rw [va_up_no _ _ h2] | rw [u2_ne _ _ _ h1])
  · rw [en, eg]; simp [u2_rd, gA]
  · rw [en, eg]; simp [u2_rd, gA]
set_option maxRecDepth 100000 in
set_option maxHeartbeats 8000000 in
theorem c_gain_21 {n sl : Nat} {C Z : Nat → Nat} {I : Nat → Nat → Int32} {L : Nat → Nat → Int64} {R : Nat → Nat → Nat} {q : Nat} {u : Int32} {A B K : Nat → Int} {d : Int} (hc : CM C Z I R q 2 u A B K d) (hK : LayK C Z R) (hR : R 8 0 = q) (lk : LK L 8 2 A B K) (p0 p1 p2 : Int32) (hA : ∀ i, i < 9 → bn 12 (A i)) (hB : ∀ i, i < 3 → bn 12 (B i)) (hu : u.toInt = 1 ∨ u.toInt = 2 ∨ u.toInt = 4) (hP : ∀ k, k < 2 → bn 100 ((fun k => if k = 0 then p0.toInt else if k = 1 then p1.toInt else p2.toInt) k)) (c73 : C 73 = 3) (gz : ¬ u.toInt * gl 2 A B = 0) {k pc : Nat} {ls : Lo} {st : List Value} {Q : Option Value → Hp → Prop} (go : ∀ L', (∀ c, c ≠ 29 → c ≠ 35 → c ≠ 36 → c ≠ 73 → L' c = L c) → L' 73 0 = wL (fn (gn 2 A B (fun k => if k = 0 then p0.toInt else if k = 1 then p1.toInt else p2.toInt) 1) (u.toInt * gl 2 A B)) → L' 73 1 = wL (fd (gn 2 A B (fun k => if k = 0 then p0.toInt else if k = 1 then p1.toInt else p2.toInt) 1) (u.toInt * gl 2 A B)) → Wp k pc ls st (n, sl, C, Z, I, L', R) Q) : Call 34 [some (.ref 8), some (.ref 73), some (.int p0), some (.int p1), some (.int p2), some (.int 1), none, none, none, none, none, none] (n, sl, C, Z, I, L, R) k pc ls st Q := by
  obtain ⟨⟨g0, g1, g2, g3, g4, g5⟩, -⟩ := id hc
  have hK' := hK
  unfold LayK at hK
  have c8 : C 8 = 4 := by simp [hK]
  have n0 : nI 2 = 2 := rfl
  have wu : u.toInt64 = wL u.toInt := wL_i2l u
  have w0 : p0.toInt64 = wL p0.toInt := wL_i2l p0
  have w1 : p1.toInt64 = wL p1.toInt := wL_i2l p1
  have w2 : p2.toInt64 = wL p2.toInt := wL_i2l p2
  have x0 : L 16 0 = wL (pw A B 1 0) := lk.1 1 0 (by omega) (by omega)
  have x1 : L 16 1 = wL (pw A B 1 1) := lk.1 1 1 (by omega) (by omega)
  have x2 : L 16 2 = wL (pw A B 1 2) := lk.1 1 2 (by omega) (by omega)
  obtain ⟨l, hl⟩ : ∃ l, l = ld 2 A B := ⟨_, rfl⟩
  simp [S34_0, S34_1, S34_2, S34_3, S34_4, BS, ixs, inbs, hK, hR, c8, c73, g0, g4, g5, n0, u2_rd, va_up_rd, va_cpy, arr3_0, arr3_1, arr3_2, wu, w0, w1, w2, wL_mul, wL_add, ← wL_0, x0, x1, x2, Call_in (k2 := 34)]
  refine c_lead_2 hc hK' hR lk ?_
  rw [← hl]
  simp [S34_0, S34_1, S34_2, S34_3, S34_4, BS, ixs, inbs, hK, hR, c8, c73, g0, g4, g5, n0, u2_rd, va_up_rd, va_cpy, arr3_0, arr3_1, arr3_2, wu, w0, w1, w2, wL_mul, wL_add, ← wL_0, x0, x1, x2]
  refine (c_row hc c8 hR (t := 36) (x := 35) (v := l) (by simp [hK]) (by simp [hK]) (by simp [hK]) (by simp [hK]) (by omega) (by simp [u2_rd, va_up_rd, va_cpy, gA]) (by simp [u2_rd, va_up_rd, va_cpy, gA]) (by simp [u2_rd, va_up_rd, va_cpy, gA]) _ _ _ _ _).mpr ?_
  simp [S34_0, S34_1, S34_2, S34_3, S34_4, BS, ixs, inbs, hK, hR, c8, c73, g0, g4, g5, n0, u2_rd, va_up_rd, va_cpy, arr3_0, arr3_1, arr3_2, wu, w0, w1, w2, wL_mul, wL_add, ← wL_0, x0, x1, x2]
  refine (c_row hc c8 hR (t := 36) (x := 35) (v := (gA A l l ((fun k => if k = 0 then p0.toInt else if k = 1 then p1.toInt else p2.toInt) 1))) (by simp [hK]) (by simp [hK]) (by simp [hK]) (by simp [hK]) (by omega) (by simp [u2_rd, va_up_rd, va_cpy, gA]) (by simp [u2_rd, va_up_rd, va_cpy, gA]) (by simp [u2_rd, va_up_rd, va_cpy, gA]) _ _ _ _ _).mpr ?_
  simp [S34_0, S34_1, S34_2, S34_3, S34_4, BS, ixs, inbs, hK, hR, c8, c73, g0, g4, g5, n0, u2_rd, va_up_rd, va_cpy, arr3_0, arr3_1, arr3_2, wu, w0, w1, w2, wL_mul, wL_add, ← wL_0, x0, x1, x2]
  have bg : bn 1125899906842623 (u.toInt * gl 2 A B) := bn_le (bn_mul (bn_u4 hu).1 (bn_gl hA hB)) (by decide)
  have bn1 : bn 9223372036854775807 (gn 2 A B (fun k => if k = 0 then p0.toInt else if k = 1 then p1.toInt else p2.toInt) 1) := bn_gn (by omega) hA hB hP (by omega) 1 (by omega)
  have en : gn 2 A B (fun k => if k = 0 then p0.toInt else if k = 1 then p1.toInt else p2.toInt) 1 = (gA A l (gA A l l ((fun k => if k = 0 then p0.toInt else if k = 1 then p1.toInt else p2.toInt) 1)) ((fun k => if k = 0 then p0.toInt else if k = 1 then p1.toInt else p2.toInt) 0)) 1 := by rw [hl]; rfl
  have eg : gl 2 A B = l 0 * pw A B 1 0 + l 1 * pw A B 1 1 := by rw [hl]; rfl
  have pt := fun (L' : Nat → Nat → Int64) (k pc : Nat) (ls : Lo) (st : List Value) (Q : Option Value → Hp → Prop) => c_put (n := n) (sl := sl) (Z := Z) (I := I) (L := L') (R := R) bn1 bg gz c73 k pc ls st Q
  rw [en, eg] at pt
  simp [gA] at pt
  refine (pt _ _ _ _ _ _).mpr ?_
  simp [S34_0, S34_1, S34_2, S34_3, S34_4]
  refine go _ (fun c h1 h2 h3 h4 => ?_) ?_ ?_
  · repeat (first | rw [u2_ne _ _ _ h4] | rw [u2_ne _ _ _ h2] | rw [va_up_no _ _ h3] | rw [va_up_no _ _ h2] | rw [u2_ne _ _ _ h1])
  · rw [en, eg]; simp [u2_rd, gA]
  · rw [en, eg]; simp [u2_rd, gA]
set_option maxRecDepth 100000 in
set_option maxHeartbeats 8000000 in
theorem c_gain_30 {n sl : Nat} {C Z : Nat → Nat} {I : Nat → Nat → Int32} {L : Nat → Nat → Int64} {R : Nat → Nat → Nat} {q : Nat} {u : Int32} {A B K : Nat → Int} {d : Int} (hc : CM C Z I R q 3 u A B K d) (hK : LayK C Z R) (hR : R 8 0 = q) (lk : LK L 8 3 A B K) (p0 p1 p2 : Int32) (hA : ∀ i, i < 9 → bn 12 (A i)) (hB : ∀ i, i < 3 → bn 12 (B i)) (hu : u.toInt = 1 ∨ u.toInt = 2 ∨ u.toInt = 4) (hP : ∀ k, k < 3 → bn 100 ((fun k => if k = 0 then p0.toInt else if k = 1 then p1.toInt else p2.toInt) k)) (c73 : C 73 = 3) (gz : ¬ u.toInt * gl 3 A B = 0) {k pc : Nat} {ls : Lo} {st : List Value} {Q : Option Value → Hp → Prop} (go : ∀ L', (∀ c, c ≠ 29 → c ≠ 35 → c ≠ 36 → c ≠ 73 → L' c = L c) → L' 73 0 = wL (fn (gn 3 A B (fun k => if k = 0 then p0.toInt else if k = 1 then p1.toInt else p2.toInt) 0) (u.toInt * gl 3 A B)) → L' 73 1 = wL (fd (gn 3 A B (fun k => if k = 0 then p0.toInt else if k = 1 then p1.toInt else p2.toInt) 0) (u.toInt * gl 3 A B)) → Wp k pc ls st (n, sl, C, Z, I, L', R) Q) : Call 34 [some (.ref 8), some (.ref 73), some (.int p0), some (.int p1), some (.int p2), some (.int 0), none, none, none, none, none, none] (n, sl, C, Z, I, L, R) k pc ls st Q := by
  obtain ⟨⟨g0, g1, g2, g3, g4, g5⟩, -⟩ := id hc
  have hK' := hK
  unfold LayK at hK
  have c8 : C 8 = 4 := by simp [hK]
  have n0 : nI 3 = 3 := rfl
  have wu : u.toInt64 = wL u.toInt := wL_i2l u
  have w0 : p0.toInt64 = wL p0.toInt := wL_i2l p0
  have w1 : p1.toInt64 = wL p1.toInt := wL_i2l p1
  have w2 : p2.toInt64 = wL p2.toInt := wL_i2l p2
  have x0 : L 17 0 = wL (pw A B 2 0) := lk.1 2 0 (by omega) (by omega)
  have x1 : L 17 1 = wL (pw A B 2 1) := lk.1 2 1 (by omega) (by omega)
  have x2 : L 17 2 = wL (pw A B 2 2) := lk.1 2 2 (by omega) (by omega)
  obtain ⟨l, hl⟩ : ∃ l, l = ld 3 A B := ⟨_, rfl⟩
  simp [S34_0, S34_1, S34_2, S34_3, S34_4, BS, ixs, inbs, hK, hR, c8, c73, g0, g4, g5, n0, u2_rd, va_up_rd, va_cpy, arr3_0, arr3_1, arr3_2, wu, w0, w1, w2, wL_mul, wL_add, ← wL_0, x0, x1, x2, Call_in (k2 := 34)]
  refine c_lead_3 hc hK' hR lk ?_
  rw [← hl]
  simp [S34_0, S34_1, S34_2, S34_3, S34_4, BS, ixs, inbs, hK, hR, c8, c73, g0, g4, g5, n0, u2_rd, va_up_rd, va_cpy, arr3_0, arr3_1, arr3_2, wu, w0, w1, w2, wL_mul, wL_add, ← wL_0, x0, x1, x2]
  refine (c_row hc c8 hR (t := 36) (x := 35) (v := l) (by simp [hK]) (by simp [hK]) (by simp [hK]) (by simp [hK]) (by omega) (by simp [u2_rd, va_up_rd, va_cpy, gA]) (by simp [u2_rd, va_up_rd, va_cpy, gA]) (by simp [u2_rd, va_up_rd, va_cpy, gA]) _ _ _ _ _).mpr ?_
  simp [S34_0, S34_1, S34_2, S34_3, S34_4, BS, ixs, inbs, hK, hR, c8, c73, g0, g4, g5, n0, u2_rd, va_up_rd, va_cpy, arr3_0, arr3_1, arr3_2, wu, w0, w1, w2, wL_mul, wL_add, ← wL_0, x0, x1, x2]
  refine (c_row hc c8 hR (t := 36) (x := 35) (v := (gA A l l ((fun k => if k = 0 then p0.toInt else if k = 1 then p1.toInt else p2.toInt) 2))) (by simp [hK]) (by simp [hK]) (by simp [hK]) (by simp [hK]) (by omega) (by simp [u2_rd, va_up_rd, va_cpy, gA]) (by simp [u2_rd, va_up_rd, va_cpy, gA]) (by simp [u2_rd, va_up_rd, va_cpy, gA]) _ _ _ _ _).mpr ?_
  simp [S34_0, S34_1, S34_2, S34_3, S34_4, BS, ixs, inbs, hK, hR, c8, c73, g0, g4, g5, n0, u2_rd, va_up_rd, va_cpy, arr3_0, arr3_1, arr3_2, wu, w0, w1, w2, wL_mul, wL_add, ← wL_0, x0, x1, x2]
  refine (c_row hc c8 hR (t := 36) (x := 35) (v := (gA A l (gA A l l ((fun k => if k = 0 then p0.toInt else if k = 1 then p1.toInt else p2.toInt) 2)) ((fun k => if k = 0 then p0.toInt else if k = 1 then p1.toInt else p2.toInt) 1))) (by simp [hK]) (by simp [hK]) (by simp [hK]) (by simp [hK]) (by omega) (by simp [u2_rd, va_up_rd, va_cpy, gA]) (by simp [u2_rd, va_up_rd, va_cpy, gA]) (by simp [u2_rd, va_up_rd, va_cpy, gA]) _ _ _ _ _).mpr ?_
  simp [S34_0, S34_1, S34_2, S34_3, S34_4, BS, ixs, inbs, hK, hR, c8, c73, g0, g4, g5, n0, u2_rd, va_up_rd, va_cpy, arr3_0, arr3_1, arr3_2, wu, w0, w1, w2, wL_mul, wL_add, ← wL_0, x0, x1, x2]
  have bg : bn 1125899906842623 (u.toInt * gl 3 A B) := bn_le (bn_mul (bn_u4 hu).1 (bn_gl hA hB)) (by decide)
  have bn1 : bn 9223372036854775807 (gn 3 A B (fun k => if k = 0 then p0.toInt else if k = 1 then p1.toInt else p2.toInt) 0) := bn_gn (by omega) hA hB hP (by omega) 0 (by omega)
  have en : gn 3 A B (fun k => if k = 0 then p0.toInt else if k = 1 then p1.toInt else p2.toInt) 0 = (gA A l (gA A l (gA A l l ((fun k => if k = 0 then p0.toInt else if k = 1 then p1.toInt else p2.toInt) 2)) ((fun k => if k = 0 then p0.toInt else if k = 1 then p1.toInt else p2.toInt) 1)) ((fun k => if k = 0 then p0.toInt else if k = 1 then p1.toInt else p2.toInt) 0)) 0 := by rw [hl]; rfl
  have eg : gl 3 A B = l 0 * pw A B 2 0 + l 1 * pw A B 2 1 + l 2 * pw A B 2 2 := by rw [hl]; rfl
  have pt := fun (L' : Nat → Nat → Int64) (k pc : Nat) (ls : Lo) (st : List Value) (Q : Option Value → Hp → Prop) => c_put (n := n) (sl := sl) (Z := Z) (I := I) (L := L') (R := R) bn1 bg gz c73 k pc ls st Q
  rw [en, eg] at pt
  simp [gA] at pt
  refine (pt _ _ _ _ _ _).mpr ?_
  simp [S34_0, S34_1, S34_2, S34_3, S34_4]
  refine go _ (fun c h1 h2 h3 h4 => ?_) ?_ ?_
  · repeat (first | rw [u2_ne _ _ _ h4] | rw [u2_ne _ _ _ h2] | rw [va_up_no _ _ h3] | rw [va_up_no _ _ h2] | rw [u2_ne _ _ _ h1])
  · rw [en, eg]; simp [u2_rd, gA]
  · rw [en, eg]; simp [u2_rd, gA]
set_option maxRecDepth 100000 in
set_option maxHeartbeats 8000000 in
theorem c_gain_31 {n sl : Nat} {C Z : Nat → Nat} {I : Nat → Nat → Int32} {L : Nat → Nat → Int64} {R : Nat → Nat → Nat} {q : Nat} {u : Int32} {A B K : Nat → Int} {d : Int} (hc : CM C Z I R q 3 u A B K d) (hK : LayK C Z R) (hR : R 8 0 = q) (lk : LK L 8 3 A B K) (p0 p1 p2 : Int32) (hA : ∀ i, i < 9 → bn 12 (A i)) (hB : ∀ i, i < 3 → bn 12 (B i)) (hu : u.toInt = 1 ∨ u.toInt = 2 ∨ u.toInt = 4) (hP : ∀ k, k < 3 → bn 100 ((fun k => if k = 0 then p0.toInt else if k = 1 then p1.toInt else p2.toInt) k)) (c73 : C 73 = 3) (gz : ¬ u.toInt * gl 3 A B = 0) {k pc : Nat} {ls : Lo} {st : List Value} {Q : Option Value → Hp → Prop} (go : ∀ L', (∀ c, c ≠ 29 → c ≠ 35 → c ≠ 36 → c ≠ 73 → L' c = L c) → L' 73 0 = wL (fn (gn 3 A B (fun k => if k = 0 then p0.toInt else if k = 1 then p1.toInt else p2.toInt) 1) (u.toInt * gl 3 A B)) → L' 73 1 = wL (fd (gn 3 A B (fun k => if k = 0 then p0.toInt else if k = 1 then p1.toInt else p2.toInt) 1) (u.toInt * gl 3 A B)) → Wp k pc ls st (n, sl, C, Z, I, L', R) Q) : Call 34 [some (.ref 8), some (.ref 73), some (.int p0), some (.int p1), some (.int p2), some (.int 1), none, none, none, none, none, none] (n, sl, C, Z, I, L, R) k pc ls st Q := by
  obtain ⟨⟨g0, g1, g2, g3, g4, g5⟩, -⟩ := id hc
  have hK' := hK
  unfold LayK at hK
  have c8 : C 8 = 4 := by simp [hK]
  have n0 : nI 3 = 3 := rfl
  have wu : u.toInt64 = wL u.toInt := wL_i2l u
  have w0 : p0.toInt64 = wL p0.toInt := wL_i2l p0
  have w1 : p1.toInt64 = wL p1.toInt := wL_i2l p1
  have w2 : p2.toInt64 = wL p2.toInt := wL_i2l p2
  have x0 : L 17 0 = wL (pw A B 2 0) := lk.1 2 0 (by omega) (by omega)
  have x1 : L 17 1 = wL (pw A B 2 1) := lk.1 2 1 (by omega) (by omega)
  have x2 : L 17 2 = wL (pw A B 2 2) := lk.1 2 2 (by omega) (by omega)
  obtain ⟨l, hl⟩ : ∃ l, l = ld 3 A B := ⟨_, rfl⟩
  simp [S34_0, S34_1, S34_2, S34_3, S34_4, BS, ixs, inbs, hK, hR, c8, c73, g0, g4, g5, n0, u2_rd, va_up_rd, va_cpy, arr3_0, arr3_1, arr3_2, wu, w0, w1, w2, wL_mul, wL_add, ← wL_0, x0, x1, x2, Call_in (k2 := 34)]
  refine c_lead_3 hc hK' hR lk ?_
  rw [← hl]
  simp [S34_0, S34_1, S34_2, S34_3, S34_4, BS, ixs, inbs, hK, hR, c8, c73, g0, g4, g5, n0, u2_rd, va_up_rd, va_cpy, arr3_0, arr3_1, arr3_2, wu, w0, w1, w2, wL_mul, wL_add, ← wL_0, x0, x1, x2]
  refine (c_row hc c8 hR (t := 36) (x := 35) (v := l) (by simp [hK]) (by simp [hK]) (by simp [hK]) (by simp [hK]) (by omega) (by simp [u2_rd, va_up_rd, va_cpy, gA]) (by simp [u2_rd, va_up_rd, va_cpy, gA]) (by simp [u2_rd, va_up_rd, va_cpy, gA]) _ _ _ _ _).mpr ?_
  simp [S34_0, S34_1, S34_2, S34_3, S34_4, BS, ixs, inbs, hK, hR, c8, c73, g0, g4, g5, n0, u2_rd, va_up_rd, va_cpy, arr3_0, arr3_1, arr3_2, wu, w0, w1, w2, wL_mul, wL_add, ← wL_0, x0, x1, x2]
  refine (c_row hc c8 hR (t := 36) (x := 35) (v := (gA A l l ((fun k => if k = 0 then p0.toInt else if k = 1 then p1.toInt else p2.toInt) 2))) (by simp [hK]) (by simp [hK]) (by simp [hK]) (by simp [hK]) (by omega) (by simp [u2_rd, va_up_rd, va_cpy, gA]) (by simp [u2_rd, va_up_rd, va_cpy, gA]) (by simp [u2_rd, va_up_rd, va_cpy, gA]) _ _ _ _ _).mpr ?_
  simp [S34_0, S34_1, S34_2, S34_3, S34_4, BS, ixs, inbs, hK, hR, c8, c73, g0, g4, g5, n0, u2_rd, va_up_rd, va_cpy, arr3_0, arr3_1, arr3_2, wu, w0, w1, w2, wL_mul, wL_add, ← wL_0, x0, x1, x2]
  refine (c_row hc c8 hR (t := 36) (x := 35) (v := (gA A l (gA A l l ((fun k => if k = 0 then p0.toInt else if k = 1 then p1.toInt else p2.toInt) 2)) ((fun k => if k = 0 then p0.toInt else if k = 1 then p1.toInt else p2.toInt) 1))) (by simp [hK]) (by simp [hK]) (by simp [hK]) (by simp [hK]) (by omega) (by simp [u2_rd, va_up_rd, va_cpy, gA]) (by simp [u2_rd, va_up_rd, va_cpy, gA]) (by simp [u2_rd, va_up_rd, va_cpy, gA]) _ _ _ _ _).mpr ?_
  simp [S34_0, S34_1, S34_2, S34_3, S34_4, BS, ixs, inbs, hK, hR, c8, c73, g0, g4, g5, n0, u2_rd, va_up_rd, va_cpy, arr3_0, arr3_1, arr3_2, wu, w0, w1, w2, wL_mul, wL_add, ← wL_0, x0, x1, x2]
  have bg : bn 1125899906842623 (u.toInt * gl 3 A B) := bn_le (bn_mul (bn_u4 hu).1 (bn_gl hA hB)) (by decide)
  have bn1 : bn 9223372036854775807 (gn 3 A B (fun k => if k = 0 then p0.toInt else if k = 1 then p1.toInt else p2.toInt) 1) := bn_gn (by omega) hA hB hP (by omega) 1 (by omega)
  have en : gn 3 A B (fun k => if k = 0 then p0.toInt else if k = 1 then p1.toInt else p2.toInt) 1 = (gA A l (gA A l (gA A l l ((fun k => if k = 0 then p0.toInt else if k = 1 then p1.toInt else p2.toInt) 2)) ((fun k => if k = 0 then p0.toInt else if k = 1 then p1.toInt else p2.toInt) 1)) ((fun k => if k = 0 then p0.toInt else if k = 1 then p1.toInt else p2.toInt) 0)) 1 := by rw [hl]; rfl
  have eg : gl 3 A B = l 0 * pw A B 2 0 + l 1 * pw A B 2 1 + l 2 * pw A B 2 2 := by rw [hl]; rfl
  have pt := fun (L' : Nat → Nat → Int64) (k pc : Nat) (ls : Lo) (st : List Value) (Q : Option Value → Hp → Prop) => c_put (n := n) (sl := sl) (Z := Z) (I := I) (L := L') (R := R) bn1 bg gz c73 k pc ls st Q
  rw [en, eg] at pt
  simp [gA] at pt
  refine (pt _ _ _ _ _ _).mpr ?_
  simp [S34_0, S34_1, S34_2, S34_3, S34_4]
  refine go _ (fun c h1 h2 h3 h4 => ?_) ?_ ?_
  · repeat (first | rw [u2_ne _ _ _ h4] | rw [u2_ne _ _ _ h2] | rw [va_up_no _ _ h3] | rw [va_up_no _ _ h2] | rw [u2_ne _ _ _ h1])
  · rw [en, eg]; simp [u2_rd, gA]
  · rw [en, eg]; simp [u2_rd, gA]
set_option maxRecDepth 100000 in
set_option maxHeartbeats 8000000 in
theorem c_gain_32 {n sl : Nat} {C Z : Nat → Nat} {I : Nat → Nat → Int32} {L : Nat → Nat → Int64} {R : Nat → Nat → Nat} {q : Nat} {u : Int32} {A B K : Nat → Int} {d : Int} (hc : CM C Z I R q 3 u A B K d) (hK : LayK C Z R) (hR : R 8 0 = q) (lk : LK L 8 3 A B K) (p0 p1 p2 : Int32) (hA : ∀ i, i < 9 → bn 12 (A i)) (hB : ∀ i, i < 3 → bn 12 (B i)) (hu : u.toInt = 1 ∨ u.toInt = 2 ∨ u.toInt = 4) (hP : ∀ k, k < 3 → bn 100 ((fun k => if k = 0 then p0.toInt else if k = 1 then p1.toInt else p2.toInt) k)) (c73 : C 73 = 3) (gz : ¬ u.toInt * gl 3 A B = 0) {k pc : Nat} {ls : Lo} {st : List Value} {Q : Option Value → Hp → Prop} (go : ∀ L', (∀ c, c ≠ 29 → c ≠ 35 → c ≠ 36 → c ≠ 73 → L' c = L c) → L' 73 0 = wL (fn (gn 3 A B (fun k => if k = 0 then p0.toInt else if k = 1 then p1.toInt else p2.toInt) 2) (u.toInt * gl 3 A B)) → L' 73 1 = wL (fd (gn 3 A B (fun k => if k = 0 then p0.toInt else if k = 1 then p1.toInt else p2.toInt) 2) (u.toInt * gl 3 A B)) → Wp k pc ls st (n, sl, C, Z, I, L', R) Q) : Call 34 [some (.ref 8), some (.ref 73), some (.int p0), some (.int p1), some (.int p2), some (.int 2), none, none, none, none, none, none] (n, sl, C, Z, I, L, R) k pc ls st Q := by
  obtain ⟨⟨g0, g1, g2, g3, g4, g5⟩, -⟩ := id hc
  have hK' := hK
  unfold LayK at hK
  have c8 : C 8 = 4 := by simp [hK]
  have n0 : nI 3 = 3 := rfl
  have wu : u.toInt64 = wL u.toInt := wL_i2l u
  have w0 : p0.toInt64 = wL p0.toInt := wL_i2l p0
  have w1 : p1.toInt64 = wL p1.toInt := wL_i2l p1
  have w2 : p2.toInt64 = wL p2.toInt := wL_i2l p2
  have x0 : L 17 0 = wL (pw A B 2 0) := lk.1 2 0 (by omega) (by omega)
  have x1 : L 17 1 = wL (pw A B 2 1) := lk.1 2 1 (by omega) (by omega)
  have x2 : L 17 2 = wL (pw A B 2 2) := lk.1 2 2 (by omega) (by omega)
  obtain ⟨l, hl⟩ : ∃ l, l = ld 3 A B := ⟨_, rfl⟩
  simp [S34_0, S34_1, S34_2, S34_3, S34_4, BS, ixs, inbs, hK, hR, c8, c73, g0, g4, g5, n0, u2_rd, va_up_rd, va_cpy, arr3_0, arr3_1, arr3_2, wu, w0, w1, w2, wL_mul, wL_add, ← wL_0, x0, x1, x2, Call_in (k2 := 34)]
  refine c_lead_3 hc hK' hR lk ?_
  rw [← hl]
  simp [S34_0, S34_1, S34_2, S34_3, S34_4, BS, ixs, inbs, hK, hR, c8, c73, g0, g4, g5, n0, u2_rd, va_up_rd, va_cpy, arr3_0, arr3_1, arr3_2, wu, w0, w1, w2, wL_mul, wL_add, ← wL_0, x0, x1, x2]
  refine (c_row hc c8 hR (t := 36) (x := 35) (v := l) (by simp [hK]) (by simp [hK]) (by simp [hK]) (by simp [hK]) (by omega) (by simp [u2_rd, va_up_rd, va_cpy, gA]) (by simp [u2_rd, va_up_rd, va_cpy, gA]) (by simp [u2_rd, va_up_rd, va_cpy, gA]) _ _ _ _ _).mpr ?_
  simp [S34_0, S34_1, S34_2, S34_3, S34_4, BS, ixs, inbs, hK, hR, c8, c73, g0, g4, g5, n0, u2_rd, va_up_rd, va_cpy, arr3_0, arr3_1, arr3_2, wu, w0, w1, w2, wL_mul, wL_add, ← wL_0, x0, x1, x2]
  refine (c_row hc c8 hR (t := 36) (x := 35) (v := (gA A l l ((fun k => if k = 0 then p0.toInt else if k = 1 then p1.toInt else p2.toInt) 2))) (by simp [hK]) (by simp [hK]) (by simp [hK]) (by simp [hK]) (by omega) (by simp [u2_rd, va_up_rd, va_cpy, gA]) (by simp [u2_rd, va_up_rd, va_cpy, gA]) (by simp [u2_rd, va_up_rd, va_cpy, gA]) _ _ _ _ _).mpr ?_
  simp [S34_0, S34_1, S34_2, S34_3, S34_4, BS, ixs, inbs, hK, hR, c8, c73, g0, g4, g5, n0, u2_rd, va_up_rd, va_cpy, arr3_0, arr3_1, arr3_2, wu, w0, w1, w2, wL_mul, wL_add, ← wL_0, x0, x1, x2]
  refine (c_row hc c8 hR (t := 36) (x := 35) (v := (gA A l (gA A l l ((fun k => if k = 0 then p0.toInt else if k = 1 then p1.toInt else p2.toInt) 2)) ((fun k => if k = 0 then p0.toInt else if k = 1 then p1.toInt else p2.toInt) 1))) (by simp [hK]) (by simp [hK]) (by simp [hK]) (by simp [hK]) (by omega) (by simp [u2_rd, va_up_rd, va_cpy, gA]) (by simp [u2_rd, va_up_rd, va_cpy, gA]) (by simp [u2_rd, va_up_rd, va_cpy, gA]) _ _ _ _ _).mpr ?_
  simp [S34_0, S34_1, S34_2, S34_3, S34_4, BS, ixs, inbs, hK, hR, c8, c73, g0, g4, g5, n0, u2_rd, va_up_rd, va_cpy, arr3_0, arr3_1, arr3_2, wu, w0, w1, w2, wL_mul, wL_add, ← wL_0, x0, x1, x2]
  have bg : bn 1125899906842623 (u.toInt * gl 3 A B) := bn_le (bn_mul (bn_u4 hu).1 (bn_gl hA hB)) (by decide)
  have bn1 : bn 9223372036854775807 (gn 3 A B (fun k => if k = 0 then p0.toInt else if k = 1 then p1.toInt else p2.toInt) 2) := bn_gn (by omega) hA hB hP (by omega) 2 (by omega)
  have en : gn 3 A B (fun k => if k = 0 then p0.toInt else if k = 1 then p1.toInt else p2.toInt) 2 = (gA A l (gA A l (gA A l l ((fun k => if k = 0 then p0.toInt else if k = 1 then p1.toInt else p2.toInt) 2)) ((fun k => if k = 0 then p0.toInt else if k = 1 then p1.toInt else p2.toInt) 1)) ((fun k => if k = 0 then p0.toInt else if k = 1 then p1.toInt else p2.toInt) 0)) 2 := by rw [hl]; rfl
  have eg : gl 3 A B = l 0 * pw A B 2 0 + l 1 * pw A B 2 1 + l 2 * pw A B 2 2 := by rw [hl]; rfl
  have pt := fun (L' : Nat → Nat → Int64) (k pc : Nat) (ls : Lo) (st : List Value) (Q : Option Value → Hp → Prop) => c_put (n := n) (sl := sl) (Z := Z) (I := I) (L := L') (R := R) bn1 bg gz c73 k pc ls st Q
  rw [en, eg] at pt
  simp [gA] at pt
  refine (pt _ _ _ _ _ _).mpr ?_
  simp [S34_0, S34_1, S34_2, S34_3, S34_4]
  refine go _ (fun c h1 h2 h3 h4 => ?_) ?_ ?_
  · repeat (first | rw [u2_ne _ _ _ h4] | rw [u2_ne _ _ _ h2] | rw [va_up_no _ _ h3] | rw [va_up_no _ _ h2] | rw [u2_ne _ _ _ h1])
  · rw [en, eg]; simp [u2_rd, gA]
  · rw [en, eg]; simp [u2_rd, gA]
