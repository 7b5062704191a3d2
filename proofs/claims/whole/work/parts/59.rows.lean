/-! the rows of a proof -/
def pfr (fl : Bool) (s : Nat) (u : Int) (A : Nat → Int) (i : Nat) : Int :=
  if i = 0 then u else if s = 1 then (if i = 1 then A 0 else if i = 2 then fn (eN fl 1 u A 0) (eD fl 1 u A) else fd (eN fl 1 u A 0) (eD fl 1 u A))
  else if i = 1 then A 0 else if i = 2 then A 1 else if i = 3 then A 3 else if i = 4 then A 4
  else if i = 5 then fn (eN fl 2 u A 0) (eD fl 2 u A) else if i = 6 then fd (eN fl 2 u A 0) (eD fl 2 u A)
  else if i = 7 then fn (eN fl 2 u A 1) (eD fl 2 u A) else if i = 8 then fd (eN fl 2 u A 1) (eD fl 2 u A)
  else if i = 9 then fn (eN fl 2 u A 2) (eD fl 2 u A) else fd (eN fl 2 u A 2) (eD fl 2 u A)
theorem Inv7.rows {n : Nat} {C Z : Nat → Nat} {I I' : Nat → Nat → Int32} {L L' : Nat → Nat → Int64} {R : Nat → Nat → Nat} {M rn rn' t : Nat} (h : Inv7 n C Z I L R M rn t)
    (hL : ∀ i, 99 ≤ i ∨ i = 89 → L' i = L i) (hI : ∀ i, 99 ≤ i ∨ i = 5 ∨ i = 6 ∨ (75 ≤ i ∧ i ≤ 81) ∨ i = 87 ∨ i = 88 ∨ i = 91 → I' i = I i) (hI1 : I' 1 1 = I 1 1 ∧ I' 74 0 = I 74 0 ∧ I' 74 20 = I 74 20)
    (hr : rn' ≤ 11 ∧ I' 1 4 = nI rn' ∧ I' 74 13 = nI rn' ∧ ∀ i, i < rn' → L' 3 i = L' 85 i) : Inv7 n C Z I' L' R M rn' t := by
  obtain ⟨a1, a2, a3, a4, a5, a6, a7, a8⟩ := h
  obtain ⟨p1, p2, p3⟩ := hI1
  refine ⟨a1, a2, a3, ?_, fun j hj => ?_, fun s hs => ?_, a7, ?_⟩
  · rw [p1, p2]; exact a4
  · obtain ⟨q, s, hm⟩ := a5 j hj
    exact ⟨q, s, hm.keep (Nat.le_refl _) (fun _ _ _ => rfl) (fun _ _ _ => rfl) (fun i hi _ => hI i (by omega)) ⟨⟨by rw [hI 75 (by omega)], by rw [hI 76 (by omega)], by rw [hI 77 (by omega)], by rw [hI 78 (by omega)]⟩, fun i _ => by rw [hI 79 (by omega)], fun i _ => ⟨by rw [hI 80 (by omega)], by rw [hI 81 (by omega)]⟩⟩ rfl (fun i hi _ => rfl)⟩
  · exact (a6 s hs).keep (Nat.le_refl _) (fun _ _ _ => rfl) (fun _ _ _ => rfl) (fun i hi _ => hI i (by omega)) (fun i hi _ => hL i (by omega)) ⟨by rw [hI 87 (by omega)], by rw [hI 88 (by omega)], fun i _ => by rw [hL 89 (by omega)]⟩ rfl (fun i hi _ => rfl)
  · obtain ⟨-, b1, b2, b3, b4⟩ := a8
    refine ⟨hr, b1, ?_, ?_, fun i h1 h2 => ?_⟩
    · rw [hI 5 (by omega)]; exact b2
    · rw [p3]; exact b3
    · rw [hI 6 (by omega), hI 91 (by omega)]; exact b4 i h1 h2
set_option maxRecDepth 100000 in
set_option maxHeartbeats 8000000 in
theorem c_prf_0t {n sl : Nat} {C Z : Nat → Nat} {I : Nat → Nat → Int32} {L : Nat → Nat → Int64} {R : Nat → Nat → Nat} {q tt : Nat} {u : Int32} {A B K : Nat → Int} {d : Int} (hc : CM C Z I R q 0 u A B K d) (hB : LayB C Z R) (hE : LayE C Z R) (ct : C tt = 22) (zt : Z tt = 11) (tn : tt = 3 ∨ tt = 4) (hD : L 66 3 = wL (eD false 0 u.toInt A)) (hN : ∀ i, i < 3 → L 72 i = wL (eN false 0 u.toInt A i)) (d0 : ¬ eD false 0 u.toInt A = 0) (hu : u.toInt = 1 ∨ u.toInt = 2 ∨ u.toInt = 4) (hA : ∀ i, i < 9 → bn 12 (A i)) {k pc : Nat} {ls : Lo} {st : List Value} {Q : Option Value → Hp → Prop} (go : ∀ L', (∀ c, c ≠ tt → c ≠ 73 → L' c = L c) → (∀ i, i < 1 → L' tt i = wL (pfr false 0 u.toInt A i)) → Wp k pc ls (.int 1 :: st) (n, sl, C, Z, I, L', R) Q) : Call 101 [some (.ref 1), some (.ref tt), some (.ref q), none, none, none, none] (n, sl, C, Z, I, L, R) k pc ls st Q := by
  obtain ⟨⟨g0, g1, g2, g3, g4, g5⟩, ⟨r3, r4, r5, r6⟩, ⟨c1, c2, c3, c4, z1, z2, z3, z4⟩, ma, mb1, mc1, md⟩ := id hc
  unfold LayB at hB
  unfold LayE at hE
  have n0 : nI 0 = 0 := rfl
  have c73 : C 73 = 3 := by simp [hB]
  have t66 : ¬ 66 = tt := by omega
  have t72 : ¬ 72 = tt := by omega
  have t73 : ¬ 73 = tt := by omega
  have t73' : ¬ tt = 73 := by omega
  have bD : bn 1125899906842623 (eD false 0 u.toInt A) := bn_le (bn_eD hu hA) (by omega)
  have bN : ∀ i, bn 9223372036854775807 (eN false 0 u.toInt A i) := fun i => bn_le (bn_eN hu hA i) (by omega)
  have put : ∀ i (L' : Nat → Nat → Int64) (k pc : Nat) (ls : Lo) (st : List Value) (Q : Option Value → Hp → Prop), Call 13 [some (.ref 73), some (.long (wL (eN false 0 u.toInt A i))), none, some (.long (wL (eD false 0 u.toInt A))), none, none, none, none, none] (n, sl, C, Z, I, L', R) k pc ls st Q ↔ Wp k pc ls st (n, sl, C, Z, I, u2 (u2 L' 73 0 (wL (fn (eN false 0 u.toInt A i) (eD false 0 u.toInt A)))) 73 1 (wL (fd (eN false 0 u.toInt A i) (eD false 0 u.toInt A))), R) Q := fun i L' k pc ls st Q => c_put (bN i) bD d0 c73 k pc ls st Q
  have wu : u.toInt64 = wL u.toInt := wL_i2l u
  have hN0 := hN 0 (by omega)
  have hN1 := hN 1 (by omega)
  have hN2 := hN 2 (by omega)
  simp [S101_0, S101_1, S101_2, S101_3, S7_0, Call_in (k2 := 101), Call_in (k2 := 7), BS, ixs, inbs, hB, hE, ct, zt, g0, g1, g4, g5, r3, c1, z1, ma, n0, wu, hD, hN0, hN1, hN2, put, c73, t66, t72, t73, t73', u2_rd]
  refine go _ (fun c h1 h2 => ?_) (fun i hi => ?_)
  · repeat (first | rw [u2_ne _ _ _ h1] | rw [u2_ne _ _ _ h2])
  · rcases (by omega : i = 0) with rfl <;> simp [u2_rd, pfr, t73', wu, g5, ma]
set_option maxRecDepth 100000 in
set_option maxHeartbeats 8000000 in
theorem c_prf_1t {n sl : Nat} {C Z : Nat → Nat} {I : Nat → Nat → Int32} {L : Nat → Nat → Int64} {R : Nat → Nat → Nat} {q tt : Nat} {u : Int32} {A B K : Nat → Int} {d : Int} (hc : CM C Z I R q 1 u A B K d) (hB : LayB C Z R) (hE : LayE C Z R) (ct : C tt = 22) (zt : Z tt = 11) (tn : tt = 3 ∨ tt = 4) (hD : L 66 3 = wL (eD false 1 u.toInt A)) (hN : ∀ i, i < 3 → L 72 i = wL (eN false 1 u.toInt A i)) (d0 : ¬ eD false 1 u.toInt A = 0) (hu : u.toInt = 1 ∨ u.toInt = 2 ∨ u.toInt = 4) (hA : ∀ i, i < 9 → bn 12 (A i)) {k pc : Nat} {ls : Lo} {st : List Value} {Q : Option Value → Hp → Prop} (go : ∀ L', (∀ c, c ≠ tt → c ≠ 73 → L' c = L c) → (∀ i, i < 4 → L' tt i = wL (pfr false 1 u.toInt A i)) → Wp k pc ls (.int 4 :: st) (n, sl, C, Z, I, L', R) Q) : Call 101 [some (.ref 1), some (.ref tt), some (.ref q), none, none, none, none] (n, sl, C, Z, I, L, R) k pc ls st Q := by
  obtain ⟨⟨g0, g1, g2, g3, g4, g5⟩, ⟨r3, r4, r5, r6⟩, ⟨c1, c2, c3, c4, z1, z2, z3, z4⟩, ma, mb1, mc1, md⟩ := id hc
  unfold LayB at hB
  unfold LayE at hE
  have n0 : nI 1 = 1 := rfl
  have c73 : C 73 = 3 := by simp [hB]
  have t66 : ¬ 66 = tt := by omega
  have t72 : ¬ 72 = tt := by omega
  have t73 : ¬ 73 = tt := by omega
  have t73' : ¬ tt = 73 := by omega
  have bD : bn 1125899906842623 (eD false 1 u.toInt A) := bn_le (bn_eD hu hA) (by omega)
  have bN : ∀ i, bn 9223372036854775807 (eN false 1 u.toInt A i) := fun i => bn_le (bn_eN hu hA i) (by omega)
  have put : ∀ i (L' : Nat → Nat → Int64) (k pc : Nat) (ls : Lo) (st : List Value) (Q : Option Value → Hp → Prop), Call 13 [some (.ref 73), some (.long (wL (eN false 1 u.toInt A i))), none, some (.long (wL (eD false 1 u.toInt A))), none, none, none, none, none] (n, sl, C, Z, I, L', R) k pc ls st Q ↔ Wp k pc ls st (n, sl, C, Z, I, u2 (u2 L' 73 0 (wL (fn (eN false 1 u.toInt A i) (eD false 1 u.toInt A)))) 73 1 (wL (fd (eN false 1 u.toInt A i) (eD false 1 u.toInt A))), R) Q := fun i L' k pc ls st Q => c_put (bN i) bD d0 c73 k pc ls st Q
  have wu : u.toInt64 = wL u.toInt := wL_i2l u
  have hN0 := hN 0 (by omega)
  have hN1 := hN 1 (by omega)
  have hN2 := hN 2 (by omega)
  simp [S101_0, S101_1, S101_2, S101_3, S7_0, Call_in (k2 := 101), Call_in (k2 := 7), BS, ixs, inbs, hB, hE, ct, zt, g0, g1, g4, g5, r3, c1, z1, ma, n0, wu, hD, hN0, hN1, hN2, put, c73, t66, t72, t73, t73', u2_rd]
  refine go _ (fun c h1 h2 => ?_) (fun i hi => ?_)
  · repeat (first | rw [u2_ne _ _ _ h1] | rw [u2_ne _ _ _ h2])
  · rcases (by omega : i = 0 ∨ i = 1 ∨ i = 2 ∨ i = 3) with rfl | rfl | rfl | rfl <;> simp [u2_rd, pfr, t73', wu, g5, ma]
set_option maxRecDepth 100000 in
set_option maxHeartbeats 8000000 in
theorem c_prf_2t {n sl : Nat} {C Z : Nat → Nat} {I : Nat → Nat → Int32} {L : Nat → Nat → Int64} {R : Nat → Nat → Nat} {q tt : Nat} {u : Int32} {A B K : Nat → Int} {d : Int} (hc : CM C Z I R q 2 u A B K d) (hB : LayB C Z R) (hE : LayE C Z R) (ct : C tt = 22) (zt : Z tt = 11) (tn : tt = 3 ∨ tt = 4) (hD : L 66 3 = wL (eD false 2 u.toInt A)) (hN : ∀ i, i < 3 → L 72 i = wL (eN false 2 u.toInt A i)) (d0 : ¬ eD false 2 u.toInt A = 0) (hu : u.toInt = 1 ∨ u.toInt = 2 ∨ u.toInt = 4) (hA : ∀ i, i < 9 → bn 12 (A i)) {k pc : Nat} {ls : Lo} {st : List Value} {Q : Option Value → Hp → Prop} (go : ∀ L', (∀ c, c ≠ tt → c ≠ 73 → L' c = L c) → (∀ i, i < 11 → L' tt i = wL (pfr false 2 u.toInt A i)) → Wp k pc ls (.int 11 :: st) (n, sl, C, Z, I, L', R) Q) : Call 101 [some (.ref 1), some (.ref tt), some (.ref q), none, none, none, none] (n, sl, C, Z, I, L, R) k pc ls st Q := by
  obtain ⟨⟨g0, g1, g2, g3, g4, g5⟩, ⟨r3, r4, r5, r6⟩, ⟨c1, c2, c3, c4, z1, z2, z3, z4⟩, ma, mb1, mc1, md⟩ := id hc
  unfold LayB at hB
  unfold LayE at hE
  have n0 : nI 2 = 2 := rfl
  have c73 : C 73 = 3 := by simp [hB]
  have t66 : ¬ 66 = tt := by omega
  have t72 : ¬ 72 = tt := by omega
  have t73 : ¬ 73 = tt := by omega
  have t73' : ¬ tt = 73 := by omega
  have bD : bn 1125899906842623 (eD false 2 u.toInt A) := bn_le (bn_eD hu hA) (by omega)
  have bN : ∀ i, bn 9223372036854775807 (eN false 2 u.toInt A i) := fun i => bn_le (bn_eN hu hA i) (by omega)
  have put : ∀ i (L' : Nat → Nat → Int64) (k pc : Nat) (ls : Lo) (st : List Value) (Q : Option Value → Hp → Prop), Call 13 [some (.ref 73), some (.long (wL (eN false 2 u.toInt A i))), none, some (.long (wL (eD false 2 u.toInt A))), none, none, none, none, none] (n, sl, C, Z, I, L', R) k pc ls st Q ↔ Wp k pc ls st (n, sl, C, Z, I, u2 (u2 L' 73 0 (wL (fn (eN false 2 u.toInt A i) (eD false 2 u.toInt A)))) 73 1 (wL (fd (eN false 2 u.toInt A i) (eD false 2 u.toInt A))), R) Q := fun i L' k pc ls st Q => c_put (bN i) bD d0 c73 k pc ls st Q
  have wu : u.toInt64 = wL u.toInt := wL_i2l u
  have hN0 := hN 0 (by omega)
  have hN1 := hN 1 (by omega)
  have hN2 := hN 2 (by omega)
  simp [S101_0, S101_1, S101_2, S101_3, S7_0, Call_in (k2 := 101), Call_in (k2 := 7), BS, ixs, inbs, hB, hE, ct, zt, g0, g1, g4, g5, r3, c1, z1, ma, n0, wu, hD, hN0, hN1, hN2, put, c73, t66, t72, t73, t73', u2_rd]
  refine go _ (fun c h1 h2 => ?_) (fun i hi => ?_)
  · repeat (first | rw [u2_ne _ _ _ h1] | rw [u2_ne _ _ _ h2])
  · rcases (by omega : i = 0 ∨ i = 1 ∨ i = 2 ∨ i = 3 ∨ i = 4 ∨ i = 5 ∨ i = 6 ∨ i = 7 ∨ i = 8 ∨ i = 9 ∨ i = 10) with rfl | rfl | rfl | rfl | rfl | rfl | rfl | rfl | rfl | rfl | rfl <;> simp [u2_rd, pfr, t73', wu, g5, ma]
set_option maxRecDepth 100000 in
set_option maxHeartbeats 8000000 in
theorem c_prf_0f {n sl : Nat} {C Z : Nat → Nat} {I : Nat → Nat → Int32} {L : Nat → Nat → Int64} {R : Nat → Nat → Nat} {q tt : Nat} {u : Int32} {A B K : Nat → Int} {d : Int} (hc : CM C Z I R q 0 u A B K d) (hB : LayB C Z R) (hE : LayE C Z R) (ct : C tt = 22) (zt : Z tt = 11) (tn : tt = 3 ∨ tt = 4) (hD : L 66 3 = wL (eD true 0 u.toInt A)) (hN : ∀ i, i < 3 → L 72 i = wL (eN true 0 u.toInt A i)) (d0 : ¬ eD true 0 u.toInt A = 0) (hu : u.toInt = 1 ∨ u.toInt = 2 ∨ u.toInt = 4) (hA : ∀ i, i < 9 → bn 12 (A i)) {k pc : Nat} {ls : Lo} {st : List Value} {Q : Option Value → Hp → Prop} (go : ∀ L', (∀ c, c ≠ tt → c ≠ 73 → L' c = L c) → (∀ i, i < 1 → L' tt i = wL (pfr true 0 u.toInt A i)) → Wp k pc ls (.int 1 :: st) (n, sl, C, Z, I, L', R) Q) : Call 101 [some (.ref 1), some (.ref tt), some (.ref q), none, none, none, none] (n, sl, C, Z, I, L, R) k pc ls st Q := by
  obtain ⟨⟨g0, g1, g2, g3, g4, g5⟩, ⟨r3, r4, r5, r6⟩, ⟨c1, c2, c3, c4, z1, z2, z3, z4⟩, ma, mb1, mc1, md⟩ := id hc
  unfold LayB at hB
  unfold LayE at hE
  have n0 : nI 0 = 0 := rfl
  have c73 : C 73 = 3 := by simp [hB]
  have t66 : ¬ 66 = tt := by omega
  have t72 : ¬ 72 = tt := by omega
  have t73 : ¬ 73 = tt := by omega
  have t73' : ¬ tt = 73 := by omega
  have bD : bn 1125899906842623 (eD true 0 u.toInt A) := bn_le (bn_eD hu hA) (by omega)
  have bN : ∀ i, bn 9223372036854775807 (eN true 0 u.toInt A i) := fun i => bn_le (bn_eN hu hA i) (by omega)
  have put : ∀ i (L' : Nat → Nat → Int64) (k pc : Nat) (ls : Lo) (st : List Value) (Q : Option Value → Hp → Prop), Call 13 [some (.ref 73), some (.long (wL (eN true 0 u.toInt A i))), none, some (.long (wL (eD true 0 u.toInt A))), none, none, none, none, none] (n, sl, C, Z, I, L', R) k pc ls st Q ↔ Wp k pc ls st (n, sl, C, Z, I, u2 (u2 L' 73 0 (wL (fn (eN true 0 u.toInt A i) (eD true 0 u.toInt A)))) 73 1 (wL (fd (eN true 0 u.toInt A i) (eD true 0 u.toInt A))), R) Q := fun i L' k pc ls st Q => c_put (bN i) bD d0 c73 k pc ls st Q
  have wu : u.toInt64 = wL u.toInt := wL_i2l u
  have hN0 := hN 0 (by omega)
  have hN1 := hN 1 (by omega)
  have hN2 := hN 2 (by omega)
  simp [S101_0, S101_1, S101_2, S101_3, S7_0, Call_in (k2 := 101), Call_in (k2 := 7), BS, ixs, inbs, hB, hE, ct, zt, g0, g1, g4, g5, r3, c1, z1, ma, n0, wu, hD, hN0, hN1, hN2, put, c73, t66, t72, t73, t73', u2_rd]
  refine go _ (fun c h1 h2 => ?_) (fun i hi => ?_)
  · repeat (first | rw [u2_ne _ _ _ h1] | rw [u2_ne _ _ _ h2])
  · rcases (by omega : i = 0) with rfl <;> simp [u2_rd, pfr, t73', wu, g5, ma]
set_option maxRecDepth 100000 in
set_option maxHeartbeats 8000000 in
theorem c_prf_1f {n sl : Nat} {C Z : Nat → Nat} {I : Nat → Nat → Int32} {L : Nat → Nat → Int64} {R : Nat → Nat → Nat} {q tt : Nat} {u : Int32} {A B K : Nat → Int} {d : Int} (hc : CM C Z I R q 1 u A B K d) (hB : LayB C Z R) (hE : LayE C Z R) (ct : C tt = 22) (zt : Z tt = 11) (tn : tt = 3 ∨ tt = 4) (hD : L 66 3 = wL (eD true 1 u.toInt A)) (hN : ∀ i, i < 3 → L 72 i = wL (eN true 1 u.toInt A i)) (d0 : ¬ eD true 1 u.toInt A = 0) (hu : u.toInt = 1 ∨ u.toInt = 2 ∨ u.toInt = 4) (hA : ∀ i, i < 9 → bn 12 (A i)) {k pc : Nat} {ls : Lo} {st : List Value} {Q : Option Value → Hp → Prop} (go : ∀ L', (∀ c, c ≠ tt → c ≠ 73 → L' c = L c) → (∀ i, i < 4 → L' tt i = wL (pfr true 1 u.toInt A i)) → Wp k pc ls (.int 4 :: st) (n, sl, C, Z, I, L', R) Q) : Call 101 [some (.ref 1), some (.ref tt), some (.ref q), none, none, none, none] (n, sl, C, Z, I, L, R) k pc ls st Q := by
  obtain ⟨⟨g0, g1, g2, g3, g4, g5⟩, ⟨r3, r4, r5, r6⟩, ⟨c1, c2, c3, c4, z1, z2, z3, z4⟩, ma, mb1, mc1, md⟩ := id hc
  unfold LayB at hB
  unfold LayE at hE
  have n0 : nI 1 = 1 := rfl
  have c73 : C 73 = 3 := by simp [hB]
  have t66 : ¬ 66 = tt := by omega
  have t72 : ¬ 72 = tt := by omega
  have t73 : ¬ 73 = tt := by omega
  have t73' : ¬ tt = 73 := by omega
  have bD : bn 1125899906842623 (eD true 1 u.toInt A) := bn_le (bn_eD hu hA) (by omega)
  have bN : ∀ i, bn 9223372036854775807 (eN true 1 u.toInt A i) := fun i => bn_le (bn_eN hu hA i) (by omega)
  have put : ∀ i (L' : Nat → Nat → Int64) (k pc : Nat) (ls : Lo) (st : List Value) (Q : Option Value → Hp → Prop), Call 13 [some (.ref 73), some (.long (wL (eN true 1 u.toInt A i))), none, some (.long (wL (eD true 1 u.toInt A))), none, none, none, none, none] (n, sl, C, Z, I, L', R) k pc ls st Q ↔ Wp k pc ls st (n, sl, C, Z, I, u2 (u2 L' 73 0 (wL (fn (eN true 1 u.toInt A i) (eD true 1 u.toInt A)))) 73 1 (wL (fd (eN true 1 u.toInt A i) (eD true 1 u.toInt A))), R) Q := fun i L' k pc ls st Q => c_put (bN i) bD d0 c73 k pc ls st Q
  have wu : u.toInt64 = wL u.toInt := wL_i2l u
  have hN0 := hN 0 (by omega)
  have hN1 := hN 1 (by omega)
  have hN2 := hN 2 (by omega)
  simp [S101_0, S101_1, S101_2, S101_3, S7_0, Call_in (k2 := 101), Call_in (k2 := 7), BS, ixs, inbs, hB, hE, ct, zt, g0, g1, g4, g5, r3, c1, z1, ma, n0, wu, hD, hN0, hN1, hN2, put, c73, t66, t72, t73, t73', u2_rd]
  refine go _ (fun c h1 h2 => ?_) (fun i hi => ?_)
  · repeat (first | rw [u2_ne _ _ _ h1] | rw [u2_ne _ _ _ h2])
  · rcases (by omega : i = 0 ∨ i = 1 ∨ i = 2 ∨ i = 3) with rfl | rfl | rfl | rfl <;> simp [u2_rd, pfr, t73', wu, g5, ma]
set_option maxRecDepth 100000 in
set_option maxHeartbeats 8000000 in
theorem c_prf_2f {n sl : Nat} {C Z : Nat → Nat} {I : Nat → Nat → Int32} {L : Nat → Nat → Int64} {R : Nat → Nat → Nat} {q tt : Nat} {u : Int32} {A B K : Nat → Int} {d : Int} (hc : CM C Z I R q 2 u A B K d) (hB : LayB C Z R) (hE : LayE C Z R) (ct : C tt = 22) (zt : Z tt = 11) (tn : tt = 3 ∨ tt = 4) (hD : L 66 3 = wL (eD true 2 u.toInt A)) (hN : ∀ i, i < 3 → L 72 i = wL (eN true 2 u.toInt A i)) (d0 : ¬ eD true 2 u.toInt A = 0) (hu : u.toInt = 1 ∨ u.toInt = 2 ∨ u.toInt = 4) (hA : ∀ i, i < 9 → bn 12 (A i)) {k pc : Nat} {ls : Lo} {st : List Value} {Q : Option Value → Hp → Prop} (go : ∀ L', (∀ c, c ≠ tt → c ≠ 73 → L' c = L c) → (∀ i, i < 11 → L' tt i = wL (pfr true 2 u.toInt A i)) → Wp k pc ls (.int 11 :: st) (n, sl, C, Z, I, L', R) Q) : Call 101 [some (.ref 1), some (.ref tt), some (.ref q), none, none, none, none] (n, sl, C, Z, I, L, R) k pc ls st Q := by
  obtain ⟨⟨g0, g1, g2, g3, g4, g5⟩, ⟨r3, r4, r5, r6⟩, ⟨c1, c2, c3, c4, z1, z2, z3, z4⟩, ma, mb1, mc1, md⟩ := id hc
  unfold LayB at hB
  unfold LayE at hE
  have n0 : nI 2 = 2 := rfl
  have c73 : C 73 = 3 := by simp [hB]
  have t66 : ¬ 66 = tt := by omega
  have t72 : ¬ 72 = tt := by omega
  have t73 : ¬ 73 = tt := by omega
  have t73' : ¬ tt = 73 := by omega
  have bD : bn 1125899906842623 (eD true 2 u.toInt A) := bn_le (bn_eD hu hA) (by omega)
  have bN : ∀ i, bn 9223372036854775807 (eN true 2 u.toInt A i) := fun i => bn_le (bn_eN hu hA i) (by omega)
  have put : ∀ i (L' : Nat → Nat → Int64) (k pc : Nat) (ls : Lo) (st : List Value) (Q : Option Value → Hp → Prop), Call 13 [some (.ref 73), some (.long (wL (eN true 2 u.toInt A i))), none, some (.long (wL (eD true 2 u.toInt A))), none, none, none, none, none] (n, sl, C, Z, I, L', R) k pc ls st Q ↔ Wp k pc ls st (n, sl, C, Z, I, u2 (u2 L' 73 0 (wL (fn (eN true 2 u.toInt A i) (eD true 2 u.toInt A)))) 73 1 (wL (fd (eN true 2 u.toInt A i) (eD true 2 u.toInt A))), R) Q := fun i L' k pc ls st Q => c_put (bN i) bD d0 c73 k pc ls st Q
  have wu : u.toInt64 = wL u.toInt := wL_i2l u
  have hN0 := hN 0 (by omega)
  have hN1 := hN 1 (by omega)
  have hN2 := hN 2 (by omega)
  simp [S101_0, S101_1, S101_2, S101_3, S7_0, Call_in (k2 := 101), Call_in (k2 := 7), BS, ixs, inbs, hB, hE, ct, zt, g0, g1, g4, g5, r3, c1, z1, ma, n0, wu, hD, hN0, hN1, hN2, put, c73, t66, t72, t73, t73', u2_rd]
  refine go _ (fun c h1 h2 => ?_) (fun i hi => ?_)
  · repeat (first | rw [u2_ne _ _ _ h1] | rw [u2_ne _ _ _ h2])
  · rcases (by omega : i = 0 ∨ i = 1 ∨ i = 2 ∨ i = 3 ∨ i = 4 ∨ i = 5 ∨ i = 6 ∨ i = 7 ∨ i = 8 ∨ i = 9 ∨ i = 10) with rfl | rfl | rfl | rfl | rfl | rfl | rfl | rfl | rfl | rfl | rfl <;> simp [u2_rd, pfr, t73', wu, g5, ma]
set_option maxRecDepth 100000 in
set_option maxHeartbeats 8000000 in
theorem m_wr_0t {n sl : Nat} {C Z : Nat → Nat} {I : Nat → Nat → Int32} {L : Nat → Nat → Int64} {R : Nat → Nat → Nat} {j : Nat} {u : Int32} {A B K : Nat → Int} {d : Int} {M : Nat} (hr : RM C Z I R j 0 u A B K d) (kd : ¬ I 75 j = 1) (hM12 : M ≤ 12) (hj : j < M) (e2 : I 74 0 = nI M) (hu : u.toInt = 1 ∨ u.toInt = 2 ∨ u.toInt = 4) (hA : ∀ i, i < 9 → bn 12 (A i)) (d0 : ¬ eD false 0 u.toInt A = 0) {k pc : Nat} {ls : Lo} {st : List Value} {Q : Option Value → Hp → Prop} (go : ∀ L' I', (∀ c, c ≠ 74 → c ≠ 86 → c ≠ 95 → c ≠ 96 → c ≠ 97 → L' c = L c) → (∀ c, c ≠ 74 → I' c = I c) → (∀ p, p ≠ 14 → I' 74 p = I 74 p) → I' 74 14 = 1 → (∀ i, i < 1 → L' 86 i = wL (pfr false 0 u.toInt A i)) → Wp k pc ls st (n, sl, C, Z, I', L', R) Q) : Call 145 [some (.ref 74), some (.int (nI j)), none, none, none] (n, sl, C, Z, I, L, R) k pc ls st Q := by
  obtain ⟨hM, hj12, hs3, k76, k77, mA, mB, mK, mD, zA, zB⟩ := id hr
  unfold LayM at hM
  have j0 : inb (nI j) 12 = true := by rw [inb_nI (by omega)]; simp; omega
  have jx := ix_nI (show j < 2 ^ 31 by omega)
  have ia : ∀ k, k < 9 → inb (nI (9 * j + k)) 108 = true ∧ ix (nI (9 * j + k)) = 9 * j + k := fun k hk => ⟨by rw [inb_nI (by omega)]; simp; omega, ix_nI (by omega)⟩
  have ia0 : inb (nI (9 * j)) 108 = true ∧ ix (nI (9 * j)) = 9 * j := ia 0 (by omega)
  have mA0 : (I 79 (9 * j)).toInt64 = wL (A 0) := mA 0 (by omega)
  have n0 : nI 0 = 0 := rfl
  have hrk : ∀ I', (∀ c, c ≠ 74 → I' c = I c) → RM C Z I' R j 0 u A B K d := fun I' h => hr.keep hr.1 (fun i h1 h2 => h i (by omega))
  have wu : u.toInt64 = wL u.toInt := wL_i2l u
  have kdk : ∀ I' : Nat → Nat → Int32, (∀ c, c ≠ 74 → I' c = I c) → (¬ I' 75 j = 1) := fun I' h => by rw [h 75 (by omega)]; exact kd
  simp [S145_0, S145_1, S145_2, S145_3, S145_4, S104_0, Call_in (k2 := 145), Call_in (k2 := 104), BS, ixs, inbs, hM, j0, jx, k76, k77, mA, mA0, mul9, nIk, ia, ia0, Nat.add_assoc, n0, u2_rd, e2, wu]
  refine go _ _ (fun c h0 h1 h2 h3 h4 => ?_) (fun c h0 => ?_) (fun p hp => ?_) ?_ (fun i hi => ?_)
  · repeat (first | rw [u2_ne _ _ _ h0] | rw [u2_ne _ _ _ h1])
  · repeat (first | rw [u2_ne _ _ _ h0])
  · simp [u2_rd, hp]
  · simp [u2_rd]
  · rcases (by omega : i = 0) with rfl <;> simp [u2_rd, pfr, wu, k77, mA, mA0]
set_option maxRecDepth 100000 in
set_option maxHeartbeats 8000000 in
theorem m_wr_1t {n sl : Nat} {C Z : Nat → Nat} {I : Nat → Nat → Int32} {L : Nat → Nat → Int64} {R : Nat → Nat → Nat} {j : Nat} {u : Int32} {A B K : Nat → Int} {d : Int} {M : Nat} (hr : RM C Z I R j 1 u A B K d) (kd : ¬ I 75 j = 1) (hM12 : M ≤ 12) (hj : j < M) (e2 : I 74 0 = nI M) (hu : u.toInt = 1 ∨ u.toInt = 2 ∨ u.toInt = 4) (hA : ∀ i, i < 9 → bn 12 (A i)) (d0 : ¬ eD false 1 u.toInt A = 0) {k pc : Nat} {ls : Lo} {st : List Value} {Q : Option Value → Hp → Prop} (go : ∀ L' I', (∀ c, c ≠ 74 → c ≠ 86 → c ≠ 95 → c ≠ 96 → c ≠ 97 → L' c = L c) → (∀ c, c ≠ 74 → I' c = I c) → (∀ p, p ≠ 14 → I' 74 p = I 74 p) → I' 74 14 = 4 → (∀ i, i < 4 → L' 86 i = wL (pfr false 1 u.toInt A i)) → Wp k pc ls st (n, sl, C, Z, I', L', R) Q) : Call 145 [some (.ref 74), some (.int (nI j)), none, none, none] (n, sl, C, Z, I, L, R) k pc ls st Q := by
  obtain ⟨hM, hj12, hs3, k76, k77, mA, mB, mK, mD, zA, zB⟩ := id hr
  unfold LayM at hM
  have j0 : inb (nI j) 12 = true := by rw [inb_nI (by omega)]; simp; omega
  have jx := ix_nI (show j < 2 ^ 31 by omega)
  have ia : ∀ k, k < 9 → inb (nI (9 * j + k)) 108 = true ∧ ix (nI (9 * j + k)) = 9 * j + k := fun k hk => ⟨by rw [inb_nI (by omega)]; simp; omega, ix_nI (by omega)⟩
  have ia0 : inb (nI (9 * j)) 108 = true ∧ ix (nI (9 * j)) = 9 * j := ia 0 (by omega)
  have mA0 : (I 79 (9 * j)).toInt64 = wL (A 0) := mA 0 (by omega)
  have n0 : nI 1 = 1 := rfl
  have hrk : ∀ I', (∀ c, c ≠ 74 → I' c = I c) → RM C Z I' R j 1 u A B K d := fun I' h => hr.keep hr.1 (fun i h1 h2 => h i (by omega))
  have wu : u.toInt64 = wL u.toInt := wL_i2l u
  have kdk : ∀ I' : Nat → Nat → Int32, (∀ c, c ≠ 74 → I' c = I c) → (¬ I' 75 j = 1) := fun I' h => by rw [h 75 (by omega)]; exact kd
  simp [S145_0, S145_1, S145_2, S145_3, S145_4, S104_0, Call_in (k2 := 145), Call_in (k2 := 104), BS, ixs, inbs, hM, j0, jx, k76, k77, mA, mA0, mul9, nIk, ia, ia0, Nat.add_assoc, n0, u2_rd, e2, wu]
  refine Call_in.mpr (m_en_1t_00_0 (M := M) (hrk _ (fun c hc => by repeat (first | rw [u2_ne _ _ _ hc]))) (kdk _ (fun c hc => by repeat (first | rw [u2_ne _ _ _ hc]))) hM12 hj (by simp [u2_rd, e2]) hu hA d0 (fun M0 f0 _ => ?_))
  simp [S145_0, S145_1, S145_2, S145_3, S145_4, S104_0, Call_in (k2 := 145), Call_in (k2 := 104), BS, ixs, inbs, hM, j0, jx, k76, k77, mA, mA0, mul9, nIk, ia, ia0, Nat.add_assoc, n0, u2_rd, e2]
  refine Call_in.mpr (m_en_1t_00_1 (M := M) (hrk _ (fun c hc => by repeat (first | rw [u2_ne _ _ _ hc]))) (kdk _ (fun c hc => by repeat (first | rw [u2_ne _ _ _ hc]))) hM12 hj (by simp [u2_rd, e2]) hu hA d0 (fun M1 f1 _ => ?_))
  simp [S145_0, S145_1, S145_2, S145_3, S145_4, S104_0, Call_in (k2 := 145), Call_in (k2 := 104), BS, ixs, inbs, hM, j0, jx, k76, k77, mA, mA0, mul9, nIk, ia, ia0, Nat.add_assoc, n0, u2_rd, e2]
  refine go _ _ (fun c h0 h1 h2 h3 h4 => ?_) (fun c h0 => ?_) (fun p hp => ?_) ?_ (fun i hi => ?_)
  · repeat (first | rw [u2_ne _ _ _ h0] | rw [u2_ne _ _ _ h1] | rw [f0 c h0 h2 h3 h4] | rw [f1 c h0 h2 h3 h4])
  · repeat (first | rw [u2_ne _ _ _ h0])
  · simp [u2_rd, hp]
  · simp [u2_rd]
  · rcases (by omega : i = 0 ∨ i = 1 ∨ i = 2 ∨ i = 3) with rfl | rfl | rfl | rfl <;> simp [u2_rd, pfr, wu, k77, mA, mA0, f0 86, f1 86]
set_option maxRecDepth 100000 in
set_option maxHeartbeats 8000000 in
theorem m_wr_2t {n sl : Nat} {C Z : Nat → Nat} {I : Nat → Nat → Int32} {L : Nat → Nat → Int64} {R : Nat → Nat → Nat} {j : Nat} {u : Int32} {A B K : Nat → Int} {d : Int} {M : Nat} (hr : RM C Z I R j 2 u A B K d) (kd : ¬ I 75 j = 1) (hM12 : M ≤ 12) (hj : j < M) (e2 : I 74 0 = nI M) (hu : u.toInt = 1 ∨ u.toInt = 2 ∨ u.toInt = 4) (hA : ∀ i, i < 9 → bn 12 (A i)) (d0 : ¬ eD false 2 u.toInt A = 0) {k pc : Nat} {ls : Lo} {st : List Value} {Q : Option Value → Hp → Prop} (go : ∀ L' I', (∀ c, c ≠ 74 → c ≠ 86 → c ≠ 95 → c ≠ 96 → c ≠ 97 → L' c = L c) → (∀ c, c ≠ 74 → I' c = I c) → (∀ p, p ≠ 14 → I' 74 p = I 74 p) → I' 74 14 = 11 → (∀ i, i < 11 → L' 86 i = wL (pfr false 2 u.toInt A i)) → Wp k pc ls st (n, sl, C, Z, I', L', R) Q) : Call 145 [some (.ref 74), some (.int (nI j)), none, none, none] (n, sl, C, Z, I, L, R) k pc ls st Q := by
  obtain ⟨hM, hj12, hs3, k76, k77, mA, mB, mK, mD, zA, zB⟩ := id hr
  unfold LayM at hM
  have j0 : inb (nI j) 12 = true := by rw [inb_nI (by omega)]; simp; omega
  have jx := ix_nI (show j < 2 ^ 31 by omega)
  have ia : ∀ k, k < 9 → inb (nI (9 * j + k)) 108 = true ∧ ix (nI (9 * j + k)) = 9 * j + k := fun k hk => ⟨by rw [inb_nI (by omega)]; simp; omega, ix_nI (by omega)⟩
  have ia0 : inb (nI (9 * j)) 108 = true ∧ ix (nI (9 * j)) = 9 * j := ia 0 (by omega)
  have mA0 : (I 79 (9 * j)).toInt64 = wL (A 0) := mA 0 (by omega)
  have n0 : nI 2 = 2 := rfl
  have hrk : ∀ I', (∀ c, c ≠ 74 → I' c = I c) → RM C Z I' R j 2 u A B K d := fun I' h => hr.keep hr.1 (fun i h1 h2 => h i (by omega))
  have wu : u.toInt64 = wL u.toInt := wL_i2l u
  have kdk : ∀ I' : Nat → Nat → Int32, (∀ c, c ≠ 74 → I' c = I c) → (¬ I' 75 j = 1) := fun I' h => by rw [h 75 (by omega)]; exact kd
  simp [S145_0, S145_1, S145_2, S145_3, S145_4, S104_0, Call_in (k2 := 145), Call_in (k2 := 104), BS, ixs, inbs, hM, j0, jx, k76, k77, mA, mA0, mul9, nIk, ia, ia0, Nat.add_assoc, n0, u2_rd, e2, wu]
  refine Call_in.mpr (m_en_2t_00_0 (M := M) (hrk _ (fun c hc => by repeat (first | rw [u2_ne _ _ _ hc]))) (kdk _ (fun c hc => by repeat (first | rw [u2_ne _ _ _ hc]))) hM12 hj (by simp [u2_rd, e2]) hu hA d0 (fun M0 f0 _ => ?_))
  simp [S145_0, S145_1, S145_2, S145_3, S145_4, S104_0, Call_in (k2 := 145), Call_in (k2 := 104), BS, ixs, inbs, hM, j0, jx, k76, k77, mA, mA0, mul9, nIk, ia, ia0, Nat.add_assoc, n0, u2_rd, e2]
  refine Call_in.mpr (m_en_2t_00_1 (M := M) (hrk _ (fun c hc => by repeat (first | rw [u2_ne _ _ _ hc]))) (kdk _ (fun c hc => by repeat (first | rw [u2_ne _ _ _ hc]))) hM12 hj (by simp [u2_rd, e2]) hu hA d0 (fun M1 f1 _ => ?_))
  simp [S145_0, S145_1, S145_2, S145_3, S145_4, S104_0, Call_in (k2 := 145), Call_in (k2 := 104), BS, ixs, inbs, hM, j0, jx, k76, k77, mA, mA0, mul9, nIk, ia, ia0, Nat.add_assoc, n0, u2_rd, e2]
  refine Call_in.mpr (m_en_2t_01_0 (M := M) (hrk _ (fun c hc => by repeat (first | rw [u2_ne _ _ _ hc]))) (kdk _ (fun c hc => by repeat (first | rw [u2_ne _ _ _ hc]))) hM12 hj (by simp [u2_rd, e2]) hu hA d0 (fun M2 f2 _ => ?_))
  simp [S145_0, S145_1, S145_2, S145_3, S145_4, S104_0, Call_in (k2 := 145), Call_in (k2 := 104), BS, ixs, inbs, hM, j0, jx, k76, k77, mA, mA0, mul9, nIk, ia, ia0, Nat.add_assoc, n0, u2_rd, e2]
  refine Call_in.mpr (m_en_2t_01_1 (M := M) (hrk _ (fun c hc => by repeat (first | rw [u2_ne _ _ _ hc]))) (kdk _ (fun c hc => by repeat (first | rw [u2_ne _ _ _ hc]))) hM12 hj (by simp [u2_rd, e2]) hu hA d0 (fun M3 f3 _ => ?_))
  simp [S145_0, S145_1, S145_2, S145_3, S145_4, S104_0, Call_in (k2 := 145), Call_in (k2 := 104), BS, ixs, inbs, hM, j0, jx, k76, k77, mA, mA0, mul9, nIk, ia, ia0, Nat.add_assoc, n0, u2_rd, e2]
  refine Call_in.mpr (m_en_2t_11_0 (M := M) (hrk _ (fun c hc => by repeat (first | rw [u2_ne _ _ _ hc]))) (kdk _ (fun c hc => by repeat (first | rw [u2_ne _ _ _ hc]))) hM12 hj (by simp [u2_rd, e2]) hu hA d0 (fun M4 f4 _ => ?_))
  simp [S145_0, S145_1, S145_2, S145_3, S145_4, S104_0, Call_in (k2 := 145), Call_in (k2 := 104), BS, ixs, inbs, hM, j0, jx, k76, k77, mA, mA0, mul9, nIk, ia, ia0, Nat.add_assoc, n0, u2_rd, e2]
  refine Call_in.mpr (m_en_2t_11_1 (M := M) (hrk _ (fun c hc => by repeat (first | rw [u2_ne _ _ _ hc]))) (kdk _ (fun c hc => by repeat (first | rw [u2_ne _ _ _ hc]))) hM12 hj (by simp [u2_rd, e2]) hu hA d0 (fun M5 f5 _ => ?_))
  simp [S145_0, S145_1, S145_2, S145_3, S145_4, S104_0, Call_in (k2 := 145), Call_in (k2 := 104), BS, ixs, inbs, hM, j0, jx, k76, k77, mA, mA0, mul9, nIk, ia, ia0, Nat.add_assoc, n0, u2_rd, e2]
  refine go _ _ (fun c h0 h1 h2 h3 h4 => ?_) (fun c h0 => ?_) (fun p hp => ?_) ?_ (fun i hi => ?_)
  · repeat (first | rw [u2_ne _ _ _ h0] | rw [u2_ne _ _ _ h1] | rw [f0 c h0 h2 h3 h4] | rw [f1 c h0 h2 h3 h4] | rw [f2 c h0 h2 h3 h4] | rw [f3 c h0 h2 h3 h4] | rw [f4 c h0 h2 h3 h4] | rw [f5 c h0 h2 h3 h4])
  · repeat (first | rw [u2_ne _ _ _ h0])
  · simp [u2_rd, hp]
  · simp [u2_rd]
  · rcases (by omega : i = 0 ∨ i = 1 ∨ i = 2 ∨ i = 3 ∨ i = 4 ∨ i = 5 ∨ i = 6 ∨ i = 7 ∨ i = 8 ∨ i = 9 ∨ i = 10) with rfl | rfl | rfl | rfl | rfl | rfl | rfl | rfl | rfl | rfl | rfl <;> simp [u2_rd, pfr, wu, k77, mA, mA0, f0 86, f1 86, f2 86, f3 86, f4 86, f5 86]
set_option maxRecDepth 100000 in
set_option maxHeartbeats 8000000 in
theorem m_wr_0f {n sl : Nat} {C Z : Nat → Nat} {I : Nat → Nat → Int32} {L : Nat → Nat → Int64} {R : Nat → Nat → Nat} {j : Nat} {u : Int32} {A B K : Nat → Int} {d : Int} {M : Nat} (hr : RM C Z I R j 0 u A B K d) (kd : I 75 j = 1) (hM12 : M ≤ 12) (hj : j < M) (e2 : I 74 0 = nI M) (hu : u.toInt = 1 ∨ u.toInt = 2 ∨ u.toInt = 4) (hA : ∀ i, i < 9 → bn 12 (A i)) (d0 : ¬ eD true 0 u.toInt A = 0) {k pc : Nat} {ls : Lo} {st : List Value} {Q : Option Value → Hp → Prop} (go : ∀ L' I', (∀ c, c ≠ 74 → c ≠ 86 → c ≠ 95 → c ≠ 96 → c ≠ 97 → L' c = L c) → (∀ c, c ≠ 74 → I' c = I c) → (∀ p, p ≠ 14 → I' 74 p = I 74 p) → I' 74 14 = 1 → (∀ i, i < 1 → L' 86 i = wL (pfr true 0 u.toInt A i)) → Wp k pc ls st (n, sl, C, Z, I', L', R) Q) : Call 145 [some (.ref 74), some (.int (nI j)), none, none, none] (n, sl, C, Z, I, L, R) k pc ls st Q := by
  obtain ⟨hM, hj12, hs3, k76, k77, mA, mB, mK, mD, zA, zB⟩ := id hr
  unfold LayM at hM
  have j0 : inb (nI j) 12 = true := by rw [inb_nI (by omega)]; simp; omega
  have jx := ix_nI (show j < 2 ^ 31 by omega)
  have ia : ∀ k, k < 9 → inb (nI (9 * j + k)) 108 = true ∧ ix (nI (9 * j + k)) = 9 * j + k := fun k hk => ⟨by rw [inb_nI (by omega)]; simp; omega, ix_nI (by omega)⟩
  have ia0 : inb (nI (9 * j)) 108 = true ∧ ix (nI (9 * j)) = 9 * j := ia 0 (by omega)
  have mA0 : (I 79 (9 * j)).toInt64 = wL (A 0) := mA 0 (by omega)
  have n0 : nI 0 = 0 := rfl
  have hrk : ∀ I', (∀ c, c ≠ 74 → I' c = I c) → RM C Z I' R j 0 u A B K d := fun I' h => hr.keep hr.1 (fun i h1 h2 => h i (by omega))
  have wu : u.toInt64 = wL u.toInt := wL_i2l u
  have kdk : ∀ I' : Nat → Nat → Int32, (∀ c, c ≠ 74 → I' c = I c) → (I' 75 j = 1) := fun I' h => by rw [h 75 (by omega)]; exact kd
  simp [S145_0, S145_1, S145_2, S145_3, S145_4, S104_0, Call_in (k2 := 145), Call_in (k2 := 104), BS, ixs, inbs, hM, j0, jx, k76, k77, mA, mA0, mul9, nIk, ia, ia0, Nat.add_assoc, n0, u2_rd, e2, wu]
  refine go _ _ (fun c h0 h1 h2 h3 h4 => ?_) (fun c h0 => ?_) (fun p hp => ?_) ?_ (fun i hi => ?_)
  · repeat (first | rw [u2_ne _ _ _ h0] | rw [u2_ne _ _ _ h1])
  · repeat (first | rw [u2_ne _ _ _ h0])
  · simp [u2_rd, hp]
  · simp [u2_rd]
  · rcases (by omega : i = 0) with rfl <;> simp [u2_rd, pfr, wu, k77, mA, mA0]
set_option maxRecDepth 100000 in
set_option maxHeartbeats 8000000 in
theorem m_wr_1f {n sl : Nat} {C Z : Nat → Nat} {I : Nat → Nat → Int32} {L : Nat → Nat → Int64} {R : Nat → Nat → Nat} {j : Nat} {u : Int32} {A B K : Nat → Int} {d : Int} {M : Nat} (hr : RM C Z I R j 1 u A B K d) (kd : I 75 j = 1) (hM12 : M ≤ 12) (hj : j < M) (e2 : I 74 0 = nI M) (hu : u.toInt = 1 ∨ u.toInt = 2 ∨ u.toInt = 4) (hA : ∀ i, i < 9 → bn 12 (A i)) (d0 : ¬ eD true 1 u.toInt A = 0) {k pc : Nat} {ls : Lo} {st : List Value} {Q : Option Value → Hp → Prop} (go : ∀ L' I', (∀ c, c ≠ 74 → c ≠ 86 → c ≠ 95 → c ≠ 96 → c ≠ 97 → L' c = L c) → (∀ c, c ≠ 74 → I' c = I c) → (∀ p, p ≠ 14 → I' 74 p = I 74 p) → I' 74 14 = 4 → (∀ i, i < 4 → L' 86 i = wL (pfr true 1 u.toInt A i)) → Wp k pc ls st (n, sl, C, Z, I', L', R) Q) : Call 145 [some (.ref 74), some (.int (nI j)), none, none, none] (n, sl, C, Z, I, L, R) k pc ls st Q := by
  obtain ⟨hM, hj12, hs3, k76, k77, mA, mB, mK, mD, zA, zB⟩ := id hr
  unfold LayM at hM
  have j0 : inb (nI j) 12 = true := by rw [inb_nI (by omega)]; simp; omega
  have jx := ix_nI (show j < 2 ^ 31 by omega)
  have ia : ∀ k, k < 9 → inb (nI (9 * j + k)) 108 = true ∧ ix (nI (9 * j + k)) = 9 * j + k := fun k hk => ⟨by rw [inb_nI (by omega)]; simp; omega, ix_nI (by omega)⟩
  have ia0 : inb (nI (9 * j)) 108 = true ∧ ix (nI (9 * j)) = 9 * j := ia 0 (by omega)
  have mA0 : (I 79 (9 * j)).toInt64 = wL (A 0) := mA 0 (by omega)
  have n0 : nI 1 = 1 := rfl
  have hrk : ∀ I', (∀ c, c ≠ 74 → I' c = I c) → RM C Z I' R j 1 u A B K d := fun I' h => hr.keep hr.1 (fun i h1 h2 => h i (by omega))
  have wu : u.toInt64 = wL u.toInt := wL_i2l u
  have kdk : ∀ I' : Nat → Nat → Int32, (∀ c, c ≠ 74 → I' c = I c) → (I' 75 j = 1) := fun I' h => by rw [h 75 (by omega)]; exact kd
  simp [S145_0, S145_1, S145_2, S145_3, S145_4, S104_0, Call_in (k2 := 145), Call_in (k2 := 104), BS, ixs, inbs, hM, j0, jx, k76, k77, mA, mA0, mul9, nIk, ia, ia0, Nat.add_assoc, n0, u2_rd, e2, wu]
  refine Call_in.mpr (m_en_1f_00_0 (M := M) (hrk _ (fun c hc => by repeat (first | rw [u2_ne _ _ _ hc]))) (kdk _ (fun c hc => by repeat (first | rw [u2_ne _ _ _ hc]))) hM12 hj (by simp [u2_rd, e2]) hu hA d0 (fun M0 f0 _ => ?_))
  simp [S145_0, S145_1, S145_2, S145_3, S145_4, S104_0, Call_in (k2 := 145), Call_in (k2 := 104), BS, ixs, inbs, hM, j0, jx, k76, k77, mA, mA0, mul9, nIk, ia, ia0, Nat.add_assoc, n0, u2_rd, e2]
  refine Call_in.mpr (m_en_1f_00_1 (M := M) (hrk _ (fun c hc => by repeat (first | rw [u2_ne _ _ _ hc]))) (kdk _ (fun c hc => by repeat (first | rw [u2_ne _ _ _ hc]))) hM12 hj (by simp [u2_rd, e2]) hu hA d0 (fun M1 f1 _ => ?_))
  simp [S145_0, S145_1, S145_2, S145_3, S145_4, S104_0, Call_in (k2 := 145), Call_in (k2 := 104), BS, ixs, inbs, hM, j0, jx, k76, k77, mA, mA0, mul9, nIk, ia, ia0, Nat.add_assoc, n0, u2_rd, e2]
  refine go _ _ (fun c h0 h1 h2 h3 h4 => ?_) (fun c h0 => ?_) (fun p hp => ?_) ?_ (fun i hi => ?_)
  · repeat (first | rw [u2_ne _ _ _ h0] | rw [u2_ne _ _ _ h1] | rw [f0 c h0 h2 h3 h4] | rw [f1 c h0 h2 h3 h4])
  · repeat (first | rw [u2_ne _ _ _ h0])
  · simp [u2_rd, hp]
  · simp [u2_rd]
  · rcases (by omega : i = 0 ∨ i = 1 ∨ i = 2 ∨ i = 3) with rfl | rfl | rfl | rfl <;> simp [u2_rd, pfr, wu, k77, mA, mA0, f0 86, f1 86]
set_option maxRecDepth 100000 in
set_option maxHeartbeats 8000000 in
theorem m_wr_2f {n sl : Nat} {C Z : Nat → Nat} {I : Nat → Nat → Int32} {L : Nat → Nat → Int64} {R : Nat → Nat → Nat} {j : Nat} {u : Int32} {A B K : Nat → Int} {d : Int} {M : Nat} (hr : RM C Z I R j 2 u A B K d) (kd : I 75 j = 1) (hM12 : M ≤ 12) (hj : j < M) (e2 : I 74 0 = nI M) (hu : u.toInt = 1 ∨ u.toInt = 2 ∨ u.toInt = 4) (hA : ∀ i, i < 9 → bn 12 (A i)) (d0 : ¬ eD true 2 u.toInt A = 0) {k pc : Nat} {ls : Lo} {st : List Value} {Q : Option Value → Hp → Prop} (go : ∀ L' I', (∀ c, c ≠ 74 → c ≠ 86 → c ≠ 95 → c ≠ 96 → c ≠ 97 → L' c = L c) → (∀ c, c ≠ 74 → I' c = I c) → (∀ p, p ≠ 14 → I' 74 p = I 74 p) → I' 74 14 = 11 → (∀ i, i < 11 → L' 86 i = wL (pfr true 2 u.toInt A i)) → Wp k pc ls st (n, sl, C, Z, I', L', R) Q) : Call 145 [some (.ref 74), some (.int (nI j)), none, none, none] (n, sl, C, Z, I, L, R) k pc ls st Q := by
  obtain ⟨hM, hj12, hs3, k76, k77, mA, mB, mK, mD, zA, zB⟩ := id hr
  unfold LayM at hM
  have j0 : inb (nI j) 12 = true := by rw [inb_nI (by omega)]; simp; omega
  have jx := ix_nI (show j < 2 ^ 31 by omega)
  have ia : ∀ k, k < 9 → inb (nI (9 * j + k)) 108 = true ∧ ix (nI (9 * j + k)) = 9 * j + k := fun k hk => ⟨by rw [inb_nI (by omega)]; simp; omega, ix_nI (by omega)⟩
  have ia0 : inb (nI (9 * j)) 108 = true ∧ ix (nI (9 * j)) = 9 * j := ia 0 (by omega)
  have mA0 : (I 79 (9 * j)).toInt64 = wL (A 0) := mA 0 (by omega)
  have n0 : nI 2 = 2 := rfl
  have hrk : ∀ I', (∀ c, c ≠ 74 → I' c = I c) → RM C Z I' R j 2 u A B K d := fun I' h => hr.keep hr.1 (fun i h1 h2 => h i (by omega))
  have wu : u.toInt64 = wL u.toInt := wL_i2l u
  have kdk : ∀ I' : Nat → Nat → Int32, (∀ c, c ≠ 74 → I' c = I c) → (I' 75 j = 1) := fun I' h => by rw [h 75 (by omega)]; exact kd
  simp [S145_0, S145_1, S145_2, S145_3, S145_4, S104_0, Call_in (k2 := 145), Call_in (k2 := 104), BS, ixs, inbs, hM, j0, jx, k76, k77, mA, mA0, mul9, nIk, ia, ia0, Nat.add_assoc, n0, u2_rd, e2, wu]
  refine Call_in.mpr (m_en_2f_00_0 (M := M) (hrk _ (fun c hc => by repeat (first | rw [u2_ne _ _ _ hc]))) (kdk _ (fun c hc => by repeat (first | rw [u2_ne _ _ _ hc]))) hM12 hj (by simp [u2_rd, e2]) hu hA d0 (fun M0 f0 _ => ?_))
  simp [S145_0, S145_1, S145_2, S145_3, S145_4, S104_0, Call_in (k2 := 145), Call_in (k2 := 104), BS, ixs, inbs, hM, j0, jx, k76, k77, mA, mA0, mul9, nIk, ia, ia0, Nat.add_assoc, n0, u2_rd, e2]
  refine Call_in.mpr (m_en_2f_00_1 (M := M) (hrk _ (fun c hc => by repeat (first | rw [u2_ne _ _ _ hc]))) (kdk _ (fun c hc => by repeat (first | rw [u2_ne _ _ _ hc]))) hM12 hj (by simp [u2_rd, e2]) hu hA d0 (fun M1 f1 _ => ?_))
  simp [S145_0, S145_1, S145_2, S145_3, S145_4, S104_0, Call_in (k2 := 145), Call_in (k2 := 104), BS, ixs, inbs, hM, j0, jx, k76, k77, mA, mA0, mul9, nIk, ia, ia0, Nat.add_assoc, n0, u2_rd, e2]
  refine Call_in.mpr (m_en_2f_01_0 (M := M) (hrk _ (fun c hc => by repeat (first | rw [u2_ne _ _ _ hc]))) (kdk _ (fun c hc => by repeat (first | rw [u2_ne _ _ _ hc]))) hM12 hj (by simp [u2_rd, e2]) hu hA d0 (fun M2 f2 _ => ?_))
  simp [S145_0, S145_1, S145_2, S145_3, S145_4, S104_0, Call_in (k2 := 145), Call_in (k2 := 104), BS, ixs, inbs, hM, j0, jx, k76, k77, mA, mA0, mul9, nIk, ia, ia0, Nat.add_assoc, n0, u2_rd, e2]
  refine Call_in.mpr (m_en_2f_01_1 (M := M) (hrk _ (fun c hc => by repeat (first | rw [u2_ne _ _ _ hc]))) (kdk _ (fun c hc => by repeat (first | rw [u2_ne _ _ _ hc]))) hM12 hj (by simp [u2_rd, e2]) hu hA d0 (fun M3 f3 _ => ?_))
  simp [S145_0, S145_1, S145_2, S145_3, S145_4, S104_0, Call_in (k2 := 145), Call_in (k2 := 104), BS, ixs, inbs, hM, j0, jx, k76, k77, mA, mA0, mul9, nIk, ia, ia0, Nat.add_assoc, n0, u2_rd, e2]
  refine Call_in.mpr (m_en_2f_11_0 (M := M) (hrk _ (fun c hc => by repeat (first | rw [u2_ne _ _ _ hc]))) (kdk _ (fun c hc => by repeat (first | rw [u2_ne _ _ _ hc]))) hM12 hj (by simp [u2_rd, e2]) hu hA d0 (fun M4 f4 _ => ?_))
  simp [S145_0, S145_1, S145_2, S145_3, S145_4, S104_0, Call_in (k2 := 145), Call_in (k2 := 104), BS, ixs, inbs, hM, j0, jx, k76, k77, mA, mA0, mul9, nIk, ia, ia0, Nat.add_assoc, n0, u2_rd, e2]
  refine Call_in.mpr (m_en_2f_11_1 (M := M) (hrk _ (fun c hc => by repeat (first | rw [u2_ne _ _ _ hc]))) (kdk _ (fun c hc => by repeat (first | rw [u2_ne _ _ _ hc]))) hM12 hj (by simp [u2_rd, e2]) hu hA d0 (fun M5 f5 _ => ?_))
  simp [S145_0, S145_1, S145_2, S145_3, S145_4, S104_0, Call_in (k2 := 145), Call_in (k2 := 104), BS, ixs, inbs, hM, j0, jx, k76, k77, mA, mA0, mul9, nIk, ia, ia0, Nat.add_assoc, n0, u2_rd, e2]
  refine go _ _ (fun c h0 h1 h2 h3 h4 => ?_) (fun c h0 => ?_) (fun p hp => ?_) ?_ (fun i hi => ?_)
  · repeat (first | rw [u2_ne _ _ _ h0] | rw [u2_ne _ _ _ h1] | rw [f0 c h0 h2 h3 h4] | rw [f1 c h0 h2 h3 h4] | rw [f2 c h0 h2 h3 h4] | rw [f3 c h0 h2 h3 h4] | rw [f4 c h0 h2 h3 h4] | rw [f5 c h0 h2 h3 h4])
  · repeat (first | rw [u2_ne _ _ _ h0])
  · simp [u2_rd, hp]
  · simp [u2_rd]
  · rcases (by omega : i = 0 ∨ i = 1 ∨ i = 2 ∨ i = 3 ∨ i = 4 ∨ i = 5 ∨ i = 6 ∨ i = 7 ∨ i = 8 ∨ i = 9 ∨ i = 10) with rfl | rfl | rfl | rfl | rfl | rfl | rfl | rfl | rfl | rfl | rfl <;> simp [u2_rd, pfr, wu, k77, mA, mA0, f0 86, f1 86, f2 86, f3 86, f4 86, f5 86]
