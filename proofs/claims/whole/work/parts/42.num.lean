/-! numbers: what the class works out of one machine -/
def arr3 (x y z : Int64) (f : Nat → Int64) : Nat → Int64 := fun i => if i = 0 then x else if i = 1 then y else if i = 2 then z else f i
theorem arr3_0 (x y z : Int64) (f : Nat → Int64) : arr3 x y z f 0 = x := rfl
theorem arr3_1 (x y z : Int64) (f : Nat → Int64) : arr3 x y z f 1 = y := rfl
theorem arr3_2 (x y z : Int64) (f : Nat → Int64) : arr3 x y z f 2 = z := rfl
theorem u2_arr3 (L : Nat → Nat → Int64) (t : Nat) (a b c : Int64) : u2 (u2 (u2 L t 0 a) t 1 b) t 2 c = va_up L t (arr3 a b c (L t)) := by
  funext i l
  simp only [u2_rd, va_up_rd]
  by_cases h : i = t
  · subst h
    match l with
    | 0 => simp [arr3]
    | 1 => simp [arr3]
    | 2 => simp [arr3]
    | l + 3 => simp [arr3]
  · simp [h]
theorem pw_0 (A B : Nat → Int) (i : Nat) : pw A B 0 i = B i := rfl
theorem pr_0 (A B : Nat → Int) (i : Nat) : pr A B 0 i = B i := rfl
theorem wL_1 : wL 1 = 1 := rfl
theorem wL_0 : wL 0 = 0 := rfl
/-- the class's machine at cell q -/
def CM (C Z : Nat → Nat) (I : Nat → Nat → Int32) (R : Nat → Nat → Nat) (q s : Nat) (u : Int32) (A B K : Nat → Int) (d : Int) : Prop :=
  (inG 7 (C q) = true ∧ ¬ q = 0 ∧ 99 ≤ q ∧ s ≤ 3 ∧ I q 1 = nI s ∧ I q 2 = u) ∧ (R q 3 = q + 1 ∧ R q 4 = q + 2 ∧ R q 5 = q + 3 ∧ R q 6 = q + 4) ∧
  (C (q + 1) = 21 ∧ C (q + 2) = 21 ∧ C (q + 3) = 21 ∧ C (q + 4) = 21 ∧ Z (q + 1) = 9 ∧ Z (q + 2) = 3 ∧ Z (q + 3) = 3 ∧ Z (q + 4) = 1) ∧
  (∀ i, i < 9 → (I (q + 1) i).toInt64 = wL (A i)) ∧ (∀ i, i < 3 → (I (q + 2) i).toInt64 = wL (B i)) ∧ (∀ i, i < 3 → (I (q + 3) i).toInt64 = wL (K i)) ∧ (I (q + 4) 0).toInt64 = wL d
theorem CM.keep {C Z : Nat → Nat} {I I' : Nat → Nat → Int32} {R R' : Nat → Nat → Nat} {q s : Nat} {u : Int32} {A B K : Nat → Int} {d : Int} (h : CM C Z I R q s u A B K d) (hI : ∀ i, 99 ≤ i → I' i = I i) (hR : ∀ i, 99 ≤ i → R' i = R i) : CM C Z I' R' q s u A B K d := by
  unfold CM at *
  have h99 := h.1.2.2.1
  rw [hI q h99, hI (q + 1) (by omega), hI (q + 2) (by omega), hI (q + 3) (by omega), hI (q + 4) (by omega), hR q h99]
  exact h
set_option maxRecDepth 100000 in
set_option maxHeartbeats 2000000 in
/-- X3_columnInto -/
theorem c_col {n sl : Nat} {C Z : Nat → Nat} {I : Nat → Nat → Int32} {L : Nat → Nat → Int64} {R : Nat → Nat → Nat} {q s : Nat} {u : Int32} {A B K : Nat → Int} {d : Int} {p : Nat} (hc : CM C Z I R q s u A B K d) (hp : C p = 4) (hR : R p 0 = q) {t x : Nat} {v : Nat → Int} (ct : C t = 22) (zt : Z t = 3) (cx : C x = 22) (zx : Z x = 3) (hne : ¬ x = t) (hx0 : L x 0 = wL (v 0)) (hx1 : L x 1 = wL (v 1)) (hx2 : L x 2 = wL (v 2)) (k pc : Nat) (ls : Lo) (st : List Value) (Q : Option Value → Hp → Prop) : Call 18 [some (.ref p), some (.ref t), some (.ref x), none, none, none, none] (n, sl, C, Z, I, L, R) k pc ls st Q ↔ Wp k pc ls st (n, sl, C, Z, I, va_up L t (arr3 (wL (mv A v 0)) (wL (mv A v 1)) (wL (mv A v 2)) (L t)), R) Q := by
  obtain ⟨⟨g0, g1, g2, g3, g4, g5⟩, ⟨r3, r4, r5, r6⟩, ⟨c1, c2, c3, c4, z1, z2, z3, z4⟩, ma, mb1, mc1, md⟩ := id hc
  simp [S18_0, S18_1, Call_in (k2 := 18), BS, ixs, inbs, le_nlt, wL_mul, wL_add, wL_sub, wL_neg, hp, hR, g0, g1, g4, g5, r3, r4, r5, r6, c1, c2, c3, c4, z1, z2, z3, z4, ma, mb1, mc1, md, ct, zt, cx, zx, hne, hx0, hx1, hx2, u2_rd, mv, vm, u2_arr3]

theorem c_colk (e : Nat) {C Z : Nat → Nat} {I : Nat → Nat → Int32} {R : Nat → Nat → Nat} {q s : Nat} {u : Int32} {A B K : Nat → Int} {d : Int} {p : Nat} (hc : CM C Z I R q s u A B K d) (hp : C p = 4) (hR : R p 0 = q) (t x : Nat) : ∀ (n sl : Nat) (L : Nat → Nat → Int64), (C t = 22 ∧ Z t = 3 ∧ C x = 22 ∧ Z x = 3 ∧ ¬ x = t ∧ L x 0 = wL (pw A B e 0) ∧ L x 1 = wL (pw A B e 1) ∧ L x 2 = wL (pw A B e 2)) → ∀ (k pc : Nat) (ls : Lo) (st : List Value) (Q : Option Value → Hp → Prop), Call 18 [some (.ref p), some (.ref t), some (.ref x), none, none, none, none] (n, sl, C, Z, I, L, R) k pc ls st Q ↔ Wp k pc ls st (n, sl, C, Z, I, va_up L t (arr3 (wL (pw A B (e + 1) 0)) (wL (pw A B (e + 1) 1)) (wL (pw A B (e + 1) 2)) (L t)), R) Q := fun n sl L ⟨ct, zt, cx, zx, hne, hx0, hx1, hx2⟩ k pc ls st Q => c_col hc hp hR ct zt cx zx hne hx0 hx1 hx2 k pc ls st Q
set_option maxRecDepth 100000 in
set_option maxHeartbeats 2000000 in
/-- X3_rowInto -/
theorem c_row {n sl : Nat} {C Z : Nat → Nat} {I : Nat → Nat → Int32} {L : Nat → Nat → Int64} {R : Nat → Nat → Nat} {q s : Nat} {u : Int32} {A B K : Nat → Int} {d : Int} {p : Nat} (hc : CM C Z I R q s u A B K d) (hp : C p = 4) (hR : R p 0 = q) {t x : Nat} {v : Nat → Int} (ct : C t = 22) (zt : Z t = 3) (cx : C x = 22) (zx : Z x = 3) (hne : ¬ x = t) (hx0 : L x 0 = wL (v 0)) (hx1 : L x 1 = wL (v 1)) (hx2 : L x 2 = wL (v 2)) (k pc : Nat) (ls : Lo) (st : List Value) (Q : Option Value → Hp → Prop) : Call 19 [some (.ref p), some (.ref t), some (.ref x), none, none, none, none] (n, sl, C, Z, I, L, R) k pc ls st Q ↔ Wp k pc ls st (n, sl, C, Z, I, va_up L t (arr3 (wL (vm v A 0)) (wL (vm v A 1)) (wL (vm v A 2)) (L t)), R) Q := by
  obtain ⟨⟨g0, g1, g2, g3, g4, g5⟩, ⟨r3, r4, r5, r6⟩, ⟨c1, c2, c3, c4, z1, z2, z3, z4⟩, ma, mb1, mc1, md⟩ := id hc
  simp [S19_0, S19_1, Call_in (k2 := 19), BS, ixs, inbs, le_nlt, wL_mul, wL_add, wL_sub, wL_neg, hp, hR, g0, g1, g4, g5, r3, r4, r5, r6, c1, c2, c3, c4, z1, z2, z3, z4, ma, mb1, mc1, md, ct, zt, cx, zx, hne, hx0, hx1, hx2, u2_rd, mv, vm, u2_arr3]

theorem c_rowk (e : Nat) {C Z : Nat → Nat} {I : Nat → Nat → Int32} {R : Nat → Nat → Nat} {q s : Nat} {u : Int32} {A B K : Nat → Int} {d : Int} {p : Nat} (hc : CM C Z I R q s u A B K d) (hp : C p = 4) (hR : R p 0 = q) (t x : Nat) : ∀ (n sl : Nat) (L : Nat → Nat → Int64), (C t = 22 ∧ Z t = 3 ∧ C x = 22 ∧ Z x = 3 ∧ ¬ x = t ∧ L x 0 = wL (pr A K e 0) ∧ L x 1 = wL (pr A K e 1) ∧ L x 2 = wL (pr A K e 2)) → ∀ (k pc : Nat) (ls : Lo) (st : List Value) (Q : Option Value → Hp → Prop), Call 19 [some (.ref p), some (.ref t), some (.ref x), none, none, none, none] (n, sl, C, Z, I, L, R) k pc ls st Q ↔ Wp k pc ls st (n, sl, C, Z, I, va_up L t (arr3 (wL (pr A K (e + 1) 0)) (wL (pr A K (e + 1) 1)) (wL (pr A K (e + 1) 2)) (L t)), R) Q := fun n sl L ⟨ct, zt, cx, zx, hne, hx0, hx1, hx2⟩ k pc ls st Q => c_row hc hp hR ct zt cx zx hne hx0 hx1 hx2 k pc ls st Q
set_option maxRecDepth 100000 in
set_option maxHeartbeats 2000000 in
/-- plainPulse -/
theorem c_pl {n sl : Nat} {C Z : Nat → Nat} {I : Nat → Nat → Int32} {L : Nat → Nat → Int64} {R : Nat → Nat → Nat} {q s : Nat} {u : Int32} {A B K : Nat → Int} {d : Int} {p : Nat} (hc : CM C Z I R q s u A B K d) (hp : C p = 4) (hR : R p 0 = q) (hR1 : R p 1 = p + 6) (c6 : C (p + 6) = 23) (z6 : Z (p + 6) = 8) {e : Nat} (he : e < 8) (r6e : R (p + 6) e = p + 7 + e) (ce : C (p + 7 + e) = 22) (ze : Z (p + 7 + e) = 3) (hL : ∀ i, i < 3 → L (p + 7 + e) i = wL (pw A B e i)) (k pc : Nat) (ls : Lo) (st : List Value) (Q : Option Value → Hp → Prop) : Call 23 [some (.ref p), some (.int (nI e)), none, none, none] (n, sl, C, Z, I, L, R) k pc ls st Q ↔ Wp k pc ls (.long (wL (pl A B K e)) :: st) (n, sl, C, Z, I, L, R) Q := by
  obtain ⟨⟨g0, g1, g2, g3, g4, g5⟩, ⟨r3, r4, r5, r6⟩, ⟨c1, c2, c3, c4, z1, z2, z3, z4⟩, ma, mb1, mc1, md⟩ := id hc
  have h1 : inb (nI e) 8 = true := by rw [inb_nI (by omega)]; simp; omega
  have h2 := ix_nI (show e < 2 ^ 31 by omega)
  simp [S23_0, S23_1, Call_in (k2 := 23), BS, ixs, inbs, le_nlt, wL_mul, wL_add, wL_sub, wL_neg, hp, hR, hR1, c6, z6, r6e, ce, ze, hL, h1, h2, g0, g1, g4, g5, r3, r4, r5, r6, c1, c2, c3, c4, z1, z2, z3, z4, ma, mb1, mc1, md, pl]

