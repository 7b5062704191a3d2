/-- what a look holds -/
def LK (L : Nat → Nat → Int64) (p s : Nat) (A B K : Nat → Int) : Prop := (∀ k i, k < 8 → i < 3 → L (p + 7 + k) i = wL (pw A B k i)) ∧ (∀ k i, k < 3 → i < 3 → L (p + 16 + k) i = wL (pr A K k i)) ∧ (∀ i, i ≤ s → L (p + 19) i = wL (cf A (s - i)))
theorem i8 {i : Nat} (h : i < 8) : i = 0 ∨ i = 1 ∨ i = 2 ∨ i = 3 ∨ i = 4 ∨ i = 5 ∨ i = 6 ∨ i = 7 := by omega
set_option maxRecDepth 100000 in
set_option maxHeartbeats 8000000 in
theorem c_at8_0 {n sl : Nat} {C Z : Nat → Nat} {I : Nat → Nat → Int32} {L : Nat → Nat → Int64} {R : Nat → Nat → Nat} {q : Nat} {u : Int32} {A B K : Nat → Int} {d : Int} (hc : CM C Z I R q 0 u A B K d) (hK : LayK C Z R) {k pc : Nat} {ls : Lo} {st : List Value} {Q : Option Value → Hp → Prop} (go : ∀ L', (∀ c, c < 14 ∨ 36 < c → L' c = L c) → LK L' 8 0 A B K → Wp k pc ls st (n, sl, C, Z, I, L', u2 R 8 0 q) Q) : Call 17 [some (.ref 8), some (.ref q), none] (n, sl, C, Z, I, L, R) k pc ls st Q := by
  have hc' : CM C Z I (u2 R 8 0 q) q 0 u A B K d := hc.keep (fun _ _ => rfl) (fun i hi => u2_ne _ _ _ (by omega))
  obtain ⟨⟨g0, g1, g2, g3, g4, g5⟩, ⟨r3, r4, r5, r6⟩, ⟨c1, c2, c3, c4, z1, z2, z3, z4⟩, ma, mb1, mc1, md⟩ := id hc
  have c8 : C 8 = 4 := by unfold LayK at hK; simp [hK]
  have rr : u2 R 8 0 q 8 0 = q := by simp [u2_rd]
  unfold LayK at hK
  have n0 : nI 0 = 0 := rfl
  have qn : ∀ c, c < 99 → ¬ q = c := fun c h => by omega
  simp [S17_0, S17_1, S17_2, S17_3, S20_0, S20_1, S20_2, S20_3, S21_0, S22_0, S22_1, S41_0, S41_1, S41_2, Call_in (k2 := 17), Call_in (k2 := 20), Call_in (k2 := 21), Call_in (k2 := 22), Call_in (k2 := 41), BS, ixs, inbs, le_nlt, wL_mul, wL_add, wL_sub, wL_neg, ofs, hK, g0, g1, g4, g5, r3, r4, r5, r6, c1, c2, c3, c4, z1, z2, z3, z4, ma, mb1, mc1, md, n0, u2_rd, va_up_rd, arr3_0, arr3_1, arr3_2, pw_0, pr_0, qn, c_colk 0 hc' c8 rr 16 15, c_colk 1 hc' c8 rr 17 16, c_colk 2 hc' c8 rr 18 17, c_colk 3 hc' c8 rr 19 18, c_colk 4 hc' c8 rr 20 19, c_colk 5 hc' c8 rr 21 20, c_colk 6 hc' c8 rr 22 21, c_rowk 0 hc' c8 rr 25 24, c_rowk 1 hc' c8 rr 26 25]
  refine go _ (fun c hc => ?_) ⟨fun k i hk hi => ?_, fun k i hk hi => ?_, fun i hi => ?_⟩
  · repeat (first | rw [va_up_no _ _ (by omega)] | rw [u2_ne _ _ _ (by omega)])
  · rcases i8 hk with rfl | rfl | rfl | rfl | rfl | rfl | rfl | rfl <;> rcases i3 hi with rfl | rfl | rfl <;> simp [u2_rd, va_up_rd, arr3_0, arr3_1, arr3_2, pw_0]
  · rcases i3 hk with rfl | rfl | rfl <;> rcases i3 hi with rfl | rfl | rfl <;> simp [u2_rd, va_up_rd, arr3_0, arr3_1, arr3_2, pr_0]
  · rcases (by omega : i = 0) with rfl <;> simp [u2_rd, va_up_rd, cf, wL_1]

set_option maxRecDepth 100000 in
set_option maxHeartbeats 8000000 in
theorem c_at8_1 {n sl : Nat} {C Z : Nat → Nat} {I : Nat → Nat → Int32} {L : Nat → Nat → Int64} {R : Nat → Nat → Nat} {q : Nat} {u : Int32} {A B K : Nat → Int} {d : Int} (hc : CM C Z I R q 1 u A B K d) (hK : LayK C Z R) {k pc : Nat} {ls : Lo} {st : List Value} {Q : Option Value → Hp → Prop} (go : ∀ L', (∀ c, c < 14 ∨ 36 < c → L' c = L c) → LK L' 8 1 A B K → Wp k pc ls st (n, sl, C, Z, I, L', u2 R 8 0 q) Q) : Call 17 [some (.ref 8), some (.ref q), none] (n, sl, C, Z, I, L, R) k pc ls st Q := by
  have hc' : CM C Z I (u2 R 8 0 q) q 1 u A B K d := hc.keep (fun _ _ => rfl) (fun i hi => u2_ne _ _ _ (by omega))
  obtain ⟨⟨g0, g1, g2, g3, g4, g5⟩, ⟨r3, r4, r5, r6⟩, ⟨c1, c2, c3, c4, z1, z2, z3, z4⟩, ma, mb1, mc1, md⟩ := id hc
  have c8 : C 8 = 4 := by unfold LayK at hK; simp [hK]
  have rr : u2 R 8 0 q 8 0 = q := by simp [u2_rd]
  unfold LayK at hK
  have n0 : nI 1 = 1 := rfl
  have qn : ∀ c, c < 99 → ¬ q = c := fun c h => by omega
  simp [S17_0, S17_1, S17_2, S17_3, S20_0, S20_1, S20_2, S20_3, S21_0, S22_0, S22_1, S41_0, S41_1, S41_2, Call_in (k2 := 17), Call_in (k2 := 20), Call_in (k2 := 21), Call_in (k2 := 22), Call_in (k2 := 41), BS, ixs, inbs, le_nlt, wL_mul, wL_add, wL_sub, wL_neg, ofs, hK, g0, g1, g4, g5, r3, r4, r5, r6, c1, c2, c3, c4, z1, z2, z3, z4, ma, mb1, mc1, md, n0, u2_rd, va_up_rd, arr3_0, arr3_1, arr3_2, pw_0, pr_0, qn, c_colk 0 hc' c8 rr 16 15, c_colk 1 hc' c8 rr 17 16, c_colk 2 hc' c8 rr 18 17, c_colk 3 hc' c8 rr 19 18, c_colk 4 hc' c8 rr 20 19, c_colk 5 hc' c8 rr 21 20, c_colk 6 hc' c8 rr 22 21, c_rowk 0 hc' c8 rr 25 24, c_rowk 1 hc' c8 rr 26 25]
  refine go _ (fun c hc => ?_) ⟨fun k i hk hi => ?_, fun k i hk hi => ?_, fun i hi => ?_⟩
  · repeat (first | rw [va_up_no _ _ (by omega)] | rw [u2_ne _ _ _ (by omega)])
  · rcases i8 hk with rfl | rfl | rfl | rfl | rfl | rfl | rfl | rfl <;> rcases i3 hi with rfl | rfl | rfl <;> simp [u2_rd, va_up_rd, arr3_0, arr3_1, arr3_2, pw_0]
  · rcases i3 hk with rfl | rfl | rfl <;> rcases i3 hi with rfl | rfl | rfl <;> simp [u2_rd, va_up_rd, arr3_0, arr3_1, arr3_2, pr_0]
  · rcases (by omega : i = 0 ∨ i = 1) with rfl | rfl <;> simp [u2_rd, va_up_rd, cf, wL_1]

set_option maxRecDepth 100000 in
set_option maxHeartbeats 8000000 in
theorem c_at8_2 {n sl : Nat} {C Z : Nat → Nat} {I : Nat → Nat → Int32} {L : Nat → Nat → Int64} {R : Nat → Nat → Nat} {q : Nat} {u : Int32} {A B K : Nat → Int} {d : Int} (hc : CM C Z I R q 2 u A B K d) (hK : LayK C Z R) {k pc : Nat} {ls : Lo} {st : List Value} {Q : Option Value → Hp → Prop} (go : ∀ L', (∀ c, c < 14 ∨ 36 < c → L' c = L c) → LK L' 8 2 A B K → Wp k pc ls st (n, sl, C, Z, I, L', u2 R 8 0 q) Q) : Call 17 [some (.ref 8), some (.ref q), none] (n, sl, C, Z, I, L, R) k pc ls st Q := by
  have hc' : CM C Z I (u2 R 8 0 q) q 2 u A B K d := hc.keep (fun _ _ => rfl) (fun i hi => u2_ne _ _ _ (by omega))
  obtain ⟨⟨g0, g1, g2, g3, g4, g5⟩, ⟨r3, r4, r5, r6⟩, ⟨c1, c2, c3, c4, z1, z2, z3, z4⟩, ma, mb1, mc1, md⟩ := id hc
  have c8 : C 8 = 4 := by unfold LayK at hK; simp [hK]
  have rr : u2 R 8 0 q 8 0 = q := by simp [u2_rd]
  unfold LayK at hK
  have n0 : nI 2 = 2 := rfl
  have qn : ∀ c, c < 99 → ¬ q = c := fun c h => by omega
  simp [S17_0, S17_1, S17_2, S17_3, S20_0, S20_1, S20_2, S20_3, S21_0, S22_0, S22_1, S41_0, S41_1, S41_2, Call_in (k2 := 17), Call_in (k2 := 20), Call_in (k2 := 21), Call_in (k2 := 22), Call_in (k2 := 41), BS, ixs, inbs, le_nlt, wL_mul, wL_add, wL_sub, wL_neg, ofs, hK, g0, g1, g4, g5, r3, r4, r5, r6, c1, c2, c3, c4, z1, z2, z3, z4, ma, mb1, mc1, md, n0, u2_rd, va_up_rd, arr3_0, arr3_1, arr3_2, pw_0, pr_0, qn, c_colk 0 hc' c8 rr 16 15, c_colk 1 hc' c8 rr 17 16, c_colk 2 hc' c8 rr 18 17, c_colk 3 hc' c8 rr 19 18, c_colk 4 hc' c8 rr 20 19, c_colk 5 hc' c8 rr 21 20, c_colk 6 hc' c8 rr 22 21, c_rowk 0 hc' c8 rr 25 24, c_rowk 1 hc' c8 rr 26 25]
  refine go _ (fun c hc => ?_) ⟨fun k i hk hi => ?_, fun k i hk hi => ?_, fun i hi => ?_⟩
  · repeat (first | rw [va_up_no _ _ (by omega)] | rw [u2_ne _ _ _ (by omega)])
  · rcases i8 hk with rfl | rfl | rfl | rfl | rfl | rfl | rfl | rfl <;> rcases i3 hi with rfl | rfl | rfl <;> simp [u2_rd, va_up_rd, arr3_0, arr3_1, arr3_2, pw_0]
  · rcases i3 hk with rfl | rfl | rfl <;> rcases i3 hi with rfl | rfl | rfl <;> simp [u2_rd, va_up_rd, arr3_0, arr3_1, arr3_2, pr_0]
  · rcases (by omega : i = 0 ∨ i = 1 ∨ i = 2) with rfl | rfl | rfl <;> simp [u2_rd, va_up_rd, cf, wL_1]

set_option maxRecDepth 100000 in
set_option maxHeartbeats 8000000 in
theorem c_at8_3 {n sl : Nat} {C Z : Nat → Nat} {I : Nat → Nat → Int32} {L : Nat → Nat → Int64} {R : Nat → Nat → Nat} {q : Nat} {u : Int32} {A B K : Nat → Int} {d : Int} (hc : CM C Z I R q 3 u A B K d) (hK : LayK C Z R) {k pc : Nat} {ls : Lo} {st : List Value} {Q : Option Value → Hp → Prop} (go : ∀ L', (∀ c, c < 14 ∨ 36 < c → L' c = L c) → LK L' 8 3 A B K → Wp k pc ls st (n, sl, C, Z, I, L', u2 R 8 0 q) Q) : Call 17 [some (.ref 8), some (.ref q), none] (n, sl, C, Z, I, L, R) k pc ls st Q := by
  have hc' : CM C Z I (u2 R 8 0 q) q 3 u A B K d := hc.keep (fun _ _ => rfl) (fun i hi => u2_ne _ _ _ (by omega))
  obtain ⟨⟨g0, g1, g2, g3, g4, g5⟩, ⟨r3, r4, r5, r6⟩, ⟨c1, c2, c3, c4, z1, z2, z3, z4⟩, ma, mb1, mc1, md⟩ := id hc
  have c8 : C 8 = 4 := by unfold LayK at hK; simp [hK]
  have rr : u2 R 8 0 q 8 0 = q := by simp [u2_rd]
  unfold LayK at hK
  have n0 : nI 3 = 3 := rfl
  have qn : ∀ c, c < 99 → ¬ q = c := fun c h => by omega
  simp [S17_0, S17_1, S17_2, S17_3, S20_0, S20_1, S20_2, S20_3, S21_0, S22_0, S22_1, S41_0, S41_1, S41_2, Call_in (k2 := 17), Call_in (k2 := 20), Call_in (k2 := 21), Call_in (k2 := 22), Call_in (k2 := 41), BS, ixs, inbs, le_nlt, wL_mul, wL_add, wL_sub, wL_neg, ofs, hK, g0, g1, g4, g5, r3, r4, r5, r6, c1, c2, c3, c4, z1, z2, z3, z4, ma, mb1, mc1, md, n0, u2_rd, va_up_rd, arr3_0, arr3_1, arr3_2, pw_0, pr_0, qn, c_colk 0 hc' c8 rr 16 15, c_colk 1 hc' c8 rr 17 16, c_colk 2 hc' c8 rr 18 17, c_colk 3 hc' c8 rr 19 18, c_colk 4 hc' c8 rr 20 19, c_colk 5 hc' c8 rr 21 20, c_colk 6 hc' c8 rr 22 21, c_rowk 0 hc' c8 rr 25 24, c_rowk 1 hc' c8 rr 26 25]
  refine go _ (fun c hc => ?_) ⟨fun k i hk hi => ?_, fun k i hk hi => ?_, fun i hi => ?_⟩
  · repeat (first | rw [va_up_no _ _ (by omega)] | rw [u2_ne _ _ _ (by omega)])
  · rcases i8 hk with rfl | rfl | rfl | rfl | rfl | rfl | rfl | rfl <;> rcases i3 hi with rfl | rfl | rfl <;> simp [u2_rd, va_up_rd, arr3_0, arr3_1, arr3_2, pw_0]
  · rcases i3 hk with rfl | rfl | rfl <;> rcases i3 hi with rfl | rfl | rfl <;> simp [u2_rd, va_up_rd, arr3_0, arr3_1, arr3_2, pr_0]
  · rcases (by omega : i = 0 ∨ i = 1 ∨ i = 2 ∨ i = 3) with rfl | rfl | rfl | rfl <;> simp [u2_rd, va_up_rd, cf, wL_1]

set_option maxRecDepth 100000 in
set_option maxHeartbeats 8000000 in
theorem c_at37_0 {n sl : Nat} {C Z : Nat → Nat} {I : Nat → Nat → Int32} {L : Nat → Nat → Int64} {R : Nat → Nat → Nat} {q : Nat} {u : Int32} {A B K : Nat → Int} {d : Int} (hc : CM C Z I R q 0 u A B K d) (hK : LayO C Z R) {k pc : Nat} {ls : Lo} {st : List Value} {Q : Option Value → Hp → Prop} (go : ∀ L', (∀ c, c < 43 ∨ 65 < c → L' c = L c) → LK L' 37 0 A B K → Wp k pc ls st (n, sl, C, Z, I, L', u2 R 37 0 q) Q) : Call 17 [some (.ref 37), some (.ref q), none] (n, sl, C, Z, I, L, R) k pc ls st Q := by
  have hc' : CM C Z I (u2 R 37 0 q) q 0 u A B K d := hc.keep (fun _ _ => rfl) (fun i hi => u2_ne _ _ _ (by omega))
  obtain ⟨⟨g0, g1, g2, g3, g4, g5⟩, ⟨r3, r4, r5, r6⟩, ⟨c1, c2, c3, c4, z1, z2, z3, z4⟩, ma, mb1, mc1, md⟩ := id hc
  have c8 : C 37 = 4 := by unfold LayO at hK; simp [hK]
  have rr : u2 R 37 0 q 37 0 = q := by simp [u2_rd]
  unfold LayO at hK
  have n0 : nI 0 = 0 := rfl
  have qn : ∀ c, c < 99 → ¬ q = c := fun c h => by omega
  simp [S17_0, S17_1, S17_2, S17_3, S20_0, S20_1, S20_2, S20_3, S21_0, S22_0, S22_1, S41_0, S41_1, S41_2, Call_in (k2 := 17), Call_in (k2 := 20), Call_in (k2 := 21), Call_in (k2 := 22), Call_in (k2 := 41), BS, ixs, inbs, le_nlt, wL_mul, wL_add, wL_sub, wL_neg, ofs, hK, g0, g1, g4, g5, r3, r4, r5, r6, c1, c2, c3, c4, z1, z2, z3, z4, ma, mb1, mc1, md, n0, u2_rd, va_up_rd, arr3_0, arr3_1, arr3_2, pw_0, pr_0, qn, c_colk 0 hc' c8 rr 45 44, c_colk 1 hc' c8 rr 46 45, c_colk 2 hc' c8 rr 47 46, c_colk 3 hc' c8 rr 48 47, c_colk 4 hc' c8 rr 49 48, c_colk 5 hc' c8 rr 50 49, c_colk 6 hc' c8 rr 51 50, c_rowk 0 hc' c8 rr 54 53, c_rowk 1 hc' c8 rr 55 54]
  refine go _ (fun c hc => ?_) ⟨fun k i hk hi => ?_, fun k i hk hi => ?_, fun i hi => ?_⟩
  · repeat (first | rw [va_up_no _ _ (by omega)] | rw [u2_ne _ _ _ (by omega)])
  · rcases i8 hk with rfl | rfl | rfl | rfl | rfl | rfl | rfl | rfl <;> rcases i3 hi with rfl | rfl | rfl <;> simp [u2_rd, va_up_rd, arr3_0, arr3_1, arr3_2, pw_0]
  · rcases i3 hk with rfl | rfl | rfl <;> rcases i3 hi with rfl | rfl | rfl <;> simp [u2_rd, va_up_rd, arr3_0, arr3_1, arr3_2, pr_0]
  · rcases (by omega : i = 0) with rfl <;> simp [u2_rd, va_up_rd, cf, wL_1]

set_option maxRecDepth 100000 in
set_option maxHeartbeats 8000000 in
theorem c_at37_1 {n sl : Nat} {C Z : Nat → Nat} {I : Nat → Nat → Int32} {L : Nat → Nat → Int64} {R : Nat → Nat → Nat} {q : Nat} {u : Int32} {A B K : Nat → Int} {d : Int} (hc : CM C Z I R q 1 u A B K d) (hK : LayO C Z R) {k pc : Nat} {ls : Lo} {st : List Value} {Q : Option Value → Hp → Prop} (go : ∀ L', (∀ c, c < 43 ∨ 65 < c → L' c = L c) → LK L' 37 1 A B K → Wp k pc ls st (n, sl, C, Z, I, L', u2 R 37 0 q) Q) : Call 17 [some (.ref 37), some (.ref q), none] (n, sl, C, Z, I, L, R) k pc ls st Q := by
  have hc' : CM C Z I (u2 R 37 0 q) q 1 u A B K d := hc.keep (fun _ _ => rfl) (fun i hi => u2_ne _ _ _ (by omega))
  obtain ⟨⟨g0, g1, g2, g3, g4, g5⟩, ⟨r3, r4, r5, r6⟩, ⟨c1, c2, c3, c4, z1, z2, z3, z4⟩, ma, mb1, mc1, md⟩ := id hc
  have c8 : C 37 = 4 := by unfold LayO at hK; simp [hK]
  have rr : u2 R 37 0 q 37 0 = q := by simp [u2_rd]
  unfold LayO at hK
  have n0 : nI 1 = 1 := rfl
  have qn : ∀ c, c < 99 → ¬ q = c := fun c h => by omega
  simp [S17_0, S17_1, S17_2, S17_3, S20_0, S20_1, S20_2, S20_3, S21_0, S22_0, S22_1, S41_0, S41_1, S41_2, Call_in (k2 := 17), Call_in (k2 := 20), Call_in (k2 := 21), Call_in (k2 := 22), Call_in (k2 := 41), BS, ixs, inbs, le_nlt, wL_mul, wL_add, wL_sub, wL_neg, ofs, hK, g0, g1, g4, g5, r3, r4, r5, r6, c1, c2, c3, c4, z1, z2, z3, z4, ma, mb1, mc1, md, n0, u2_rd, va_up_rd, arr3_0, arr3_1, arr3_2, pw_0, pr_0, qn, c_colk 0 hc' c8 rr 45 44, c_colk 1 hc' c8 rr 46 45, c_colk 2 hc' c8 rr 47 46, c_colk 3 hc' c8 rr 48 47, c_colk 4 hc' c8 rr 49 48, c_colk 5 hc' c8 rr 50 49, c_colk 6 hc' c8 rr 51 50, c_rowk 0 hc' c8 rr 54 53, c_rowk 1 hc' c8 rr 55 54]
  refine go _ (fun c hc => ?_) ⟨fun k i hk hi => ?_, fun k i hk hi => ?_, fun i hi => ?_⟩
  · repeat (first | rw [va_up_no _ _ (by omega)] | rw [u2_ne _ _ _ (by omega)])
  · rcases i8 hk with rfl | rfl | rfl | rfl | rfl | rfl | rfl | rfl <;> rcases i3 hi with rfl | rfl | rfl <;> simp [u2_rd, va_up_rd, arr3_0, arr3_1, arr3_2, pw_0]
  · rcases i3 hk with rfl | rfl | rfl <;> rcases i3 hi with rfl | rfl | rfl <;> simp [u2_rd, va_up_rd, arr3_0, arr3_1, arr3_2, pr_0]
  · rcases (by omega : i = 0 ∨ i = 1) with rfl | rfl <;> simp [u2_rd, va_up_rd, cf, wL_1]

set_option maxRecDepth 100000 in
set_option maxHeartbeats 8000000 in
theorem c_at37_2 {n sl : Nat} {C Z : Nat → Nat} {I : Nat → Nat → Int32} {L : Nat → Nat → Int64} {R : Nat → Nat → Nat} {q : Nat} {u : Int32} {A B K : Nat → Int} {d : Int} (hc : CM C Z I R q 2 u A B K d) (hK : LayO C Z R) {k pc : Nat} {ls : Lo} {st : List Value} {Q : Option Value → Hp → Prop} (go : ∀ L', (∀ c, c < 43 ∨ 65 < c → L' c = L c) → LK L' 37 2 A B K → Wp k pc ls st (n, sl, C, Z, I, L', u2 R 37 0 q) Q) : Call 17 [some (.ref 37), some (.ref q), none] (n, sl, C, Z, I, L, R) k pc ls st Q := by
  have hc' : CM C Z I (u2 R 37 0 q) q 2 u A B K d := hc.keep (fun _ _ => rfl) (fun i hi => u2_ne _ _ _ (by omega))
  obtain ⟨⟨g0, g1, g2, g3, g4, g5⟩, ⟨r3, r4, r5, r6⟩, ⟨c1, c2, c3, c4, z1, z2, z3, z4⟩, ma, mb1, mc1, md⟩ := id hc
  have c8 : C 37 = 4 := by unfold LayO at hK; simp [hK]
  have rr : u2 R 37 0 q 37 0 = q := by simp [u2_rd]
  unfold LayO at hK
  have n0 : nI 2 = 2 := rfl
  have qn : ∀ c, c < 99 → ¬ q = c := fun c h => by omega
  simp [S17_0, S17_1, S17_2, S17_3, S20_0, S20_1, S20_2, S20_3, S21_0, S22_0, S22_1, S41_0, S41_1, S41_2, Call_in (k2 := 17), Call_in (k2 := 20), Call_in (k2 := 21), Call_in (k2 := 22), Call_in (k2 := 41), BS, ixs, inbs, le_nlt, wL_mul, wL_add, wL_sub, wL_neg, ofs, hK, g0, g1, g4, g5, r3, r4, r5, r6, c1, c2, c3, c4, z1, z2, z3, z4, ma, mb1, mc1, md, n0, u2_rd, va_up_rd, arr3_0, arr3_1, arr3_2, pw_0, pr_0, qn, c_colk 0 hc' c8 rr 45 44, c_colk 1 hc' c8 rr 46 45, c_colk 2 hc' c8 rr 47 46, c_colk 3 hc' c8 rr 48 47, c_colk 4 hc' c8 rr 49 48, c_colk 5 hc' c8 rr 50 49, c_colk 6 hc' c8 rr 51 50, c_rowk 0 hc' c8 rr 54 53, c_rowk 1 hc' c8 rr 55 54]
  refine go _ (fun c hc => ?_) ⟨fun k i hk hi => ?_, fun k i hk hi => ?_, fun i hi => ?_⟩
  · repeat (first | rw [va_up_no _ _ (by omega)] | rw [u2_ne _ _ _ (by omega)])
  · rcases i8 hk with rfl | rfl | rfl | rfl | rfl | rfl | rfl | rfl <;> rcases i3 hi with rfl | rfl | rfl <;> simp [u2_rd, va_up_rd, arr3_0, arr3_1, arr3_2, pw_0]
  · rcases i3 hk with rfl | rfl | rfl <;> rcases i3 hi with rfl | rfl | rfl <;> simp [u2_rd, va_up_rd, arr3_0, arr3_1, arr3_2, pr_0]
  · rcases (by omega : i = 0 ∨ i = 1 ∨ i = 2) with rfl | rfl | rfl <;> simp [u2_rd, va_up_rd, cf, wL_1]

set_option maxRecDepth 100000 in
set_option maxHeartbeats 8000000 in
theorem c_at37_3 {n sl : Nat} {C Z : Nat → Nat} {I : Nat → Nat → Int32} {L : Nat → Nat → Int64} {R : Nat → Nat → Nat} {q : Nat} {u : Int32} {A B K : Nat → Int} {d : Int} (hc : CM C Z I R q 3 u A B K d) (hK : LayO C Z R) {k pc : Nat} {ls : Lo} {st : List Value} {Q : Option Value → Hp → Prop} (go : ∀ L', (∀ c, c < 43 ∨ 65 < c → L' c = L c) → LK L' 37 3 A B K → Wp k pc ls st (n, sl, C, Z, I, L', u2 R 37 0 q) Q) : Call 17 [some (.ref 37), some (.ref q), none] (n, sl, C, Z, I, L, R) k pc ls st Q := by
  have hc' : CM C Z I (u2 R 37 0 q) q 3 u A B K d := hc.keep (fun _ _ => rfl) (fun i hi => u2_ne _ _ _ (by omega))
  obtain ⟨⟨g0, g1, g2, g3, g4, g5⟩, ⟨r3, r4, r5, r6⟩, ⟨c1, c2, c3, c4, z1, z2, z3, z4⟩, ma, mb1, mc1, md⟩ := id hc
  have c8 : C 37 = 4 := by unfold LayO at hK; simp [hK]
  have rr : u2 R 37 0 q 37 0 = q := by simp [u2_rd]
  unfold LayO at hK
  have n0 : nI 3 = 3 := rfl
  have qn : ∀ c, c < 99 → ¬ q = c := fun c h => by omega
  simp [S17_0, S17_1, S17_2, S17_3, S20_0, S20_1, S20_2, S20_3, S21_0, S22_0, S22_1, S41_0, S41_1, S41_2, Call_in (k2 := 17), Call_in (k2 := 20), Call_in (k2 := 21), Call_in (k2 := 22), Call_in (k2 := 41), BS, ixs, inbs, le_nlt, wL_mul, wL_add, wL_sub, wL_neg, ofs, hK, g0, g1, g4, g5, r3, r4, r5, r6, c1, c2, c3, c4, z1, z2, z3, z4, ma, mb1, mc1, md, n0, u2_rd, va_up_rd, arr3_0, arr3_1, arr3_2, pw_0, pr_0, qn, c_colk 0 hc' c8 rr 45 44, c_colk 1 hc' c8 rr 46 45, c_colk 2 hc' c8 rr 47 46, c_colk 3 hc' c8 rr 48 47, c_colk 4 hc' c8 rr 49 48, c_colk 5 hc' c8 rr 50 49, c_colk 6 hc' c8 rr 51 50, c_rowk 0 hc' c8 rr 54 53, c_rowk 1 hc' c8 rr 55 54]
  refine go _ (fun c hc => ?_) ⟨fun k i hk hi => ?_, fun k i hk hi => ?_, fun i hi => ?_⟩
  · repeat (first | rw [va_up_no _ _ (by omega)] | rw [u2_ne _ _ _ (by omega)])
  · rcases i8 hk with rfl | rfl | rfl | rfl | rfl | rfl | rfl | rfl <;> rcases i3 hi with rfl | rfl | rfl <;> simp [u2_rd, va_up_rd, arr3_0, arr3_1, arr3_2, pw_0]
  · rcases i3 hk with rfl | rfl | rfl <;> rcases i3 hi with rfl | rfl | rfl <;> simp [u2_rd, va_up_rd, arr3_0, arr3_1, arr3_2, pr_0]
  · rcases (by omega : i = 0 ∨ i = 1 ∨ i = 2 ∨ i = 3) with rfl | rfl | rfl | rfl <;> simp [u2_rd, va_up_rd, cf, wL_1]

