/-! numbers: what the class and the reference work out of one machine -/
theorem u2_rd {α : Type} (f : Nat → Nat → α) (i k : Nat) (v : α) (j l : Nat) : u2 f i k v j l = if j = i ∧ l = k then v else f j l := by
  unfold u2 va_up
  by_cases h : j = i
  · subst h
    by_cases h2 : l = k
    · simp [h2]
    · simp [h2]
  · simp [h]
theorem va_up_rd {α : Type} (f : Nat → α) (i : Nat) (v : α) (j : Nat) : va_up f i v j = if j = i then v else f j := rfl
def arr3 (x y z : Int64) (f : Nat → Int64) : Nat → Int64 := fun i => if i = 0 then x else if i = 1 then y else if i = 2 then z else f i
theorem arr3_0 (x y z : Int64) (f : Nat → Int64) : arr3 x y z f 0 = x := rfl
theorem arr3_1 (x y z : Int64) (f : Nat → Int64) : arr3 x y z f 1 = y := rfl
theorem arr3_2 (x y z : Int64) (f : Nat → Int64) : arr3 x y z f 2 = z := rfl
/-- a table of three by three times a column -/
def mv (A v : Nat → Int64) (i : Nat) : Int64 := A (3 * i) * v 0 + A (3 * i + 1) * v 1 + A (3 * i + 2) * v 2
/-- a row times the table -/
def vm (v A : Nat → Int64) (i : Nat) : Int64 := v 0 * A i + v 1 * A (3 + i) + v 2 * A (6 + i)
def pw (A B : Nat → Int64) : Nat → Nat → Int64
  | 0, i => B i
  | k + 1, i => mv A (pw A B k) i
def pr (A K : Nat → Int64) : Nat → Nat → Int64
  | 0, i => K i
  | k + 1, i => vm (pr A K k) A i
/-- the plain pulse -/
def pl (A B K : Nat → Int64) (k : Nat) : Int64 := K 0 * pw A B k 0 + K 1 * pw A B k 1 + K 2 * pw A B k 2
def dt (A : Nat → Int64) : Int64 := A 0 * (A 4 * A 8 - A 5 * A 7) - A 1 * (A 3 * A 8 - A 5 * A 6) + A 2 * (A 3 * A 7 - A 4 * A 6)
/-- the numbers of OWN from the top -/
def cf (A : Nat → Int64) (j : Nat) : Int64 := if j = 0 then 1 else if j = 1 then -(A 0 + A 4 + A 8) else if j = 2 then A 0 * A 4 - A 1 * A 3 + (A 0 * A 8 - A 2 * A 6) + (A 4 * A 8 - A 5 * A 7) else -dt A
/-- the class's machine at cell q -/
def CM (C Z : Nat → Nat) (I : Nat → Nat → Int32) (R : Nat → Nat → Nat) (q s : Nat) (u : Int32) (A B K : Nat → Int64) (d : Int64) : Prop :=
  (inG 7 (C q) = true ∧ ¬ q = 0 ∧ 99 ≤ q ∧ s ≤ 3 ∧ I q 1 = nI s ∧ I q 2 = u) ∧ (R q 3 = q + 1 ∧ R q 4 = q + 2 ∧ R q 5 = q + 3 ∧ R q 6 = q + 4) ∧
  (C (q + 1) = 21 ∧ C (q + 2) = 21 ∧ C (q + 3) = 21 ∧ C (q + 4) = 21 ∧ Z (q + 1) = 9 ∧ Z (q + 2) = 3 ∧ Z (q + 3) = 3 ∧ Z (q + 4) = 1) ∧
  (∀ i, i < 9 → (I (q + 1) i).toInt64 = A i) ∧ (∀ i, i < 3 → (I (q + 2) i).toInt64 = B i) ∧ (∀ i, i < 3 → (I (q + 3) i).toInt64 = K i) ∧ (I (q + 4) 0).toInt64 = d
set_option maxRecDepth 100000 in
set_option maxHeartbeats 2000000 in
/-- X3_columnInto -/
theorem c_col {n sl : Nat} {C Z : Nat → Nat} {I : Nat → Nat → Int32} {L : Nat → Nat → Int64} {R : Nat → Nat → Nat} {q s : Nat} {u : Int32} {A B K : Nat → Int64} {d : Int64} {p : Nat} (hc : CM C Z I R q s u A B K d) (hp : C p = 4) (hR : R p 0 = q) {t x : Nat} (ct : C t = 22) (zt : Z t = 3) (cx : C x = 22) (zx : Z x = 3) (hne : ¬ x = t) (k pc : Nat) (ls : Lo) (st : List Value) (Q : Option Value → Hp → Prop) : Call 18 [some (.ref p), some (.ref t), some (.ref x), none, none, none, none] (n, sl, C, Z, I, L, R) k pc ls st Q ↔ Wp k pc ls st (n, sl, C, Z, I, va_up L t (arr3 (mv A (L x) 0) (mv A (L x) 1) (mv A (L x) 2) (L t)), R) Q := by
  obtain ⟨⟨g0, g1, g2, g3, g4, g5⟩, ⟨r3, r4, r5, r6⟩, ⟨c1, c2, c3, c4, z1, z2, z3, z4⟩, ma, mb1, mc1, md⟩ := id hc
  have e : ∀ a b c : Int64, u2 (u2 (u2 L t 0 a) t 1 b) t 2 c = va_up L t (arr3 a b c (L t)) := fun a b c => by
    funext i l
    simp only [u2_rd, va_up_rd]
    by_cases h : i = t
    · subst h
      match l with
      | 0 => simp [arr3]
      | 1 => simp [arr3]
      | 2 => simp [arr3]
      | l + 3 => simp [arr3]
    · simp [h]
  simp [S18_0, S18_1, Call_in (k2 := 18), BS, ixs, inbs, le_nlt, hp, hR, g0, g1, g4, g5, r3, r4, r5, r6, c1, c2, c3, c4, z1, z2, z3, z4, ma, mb1, mc1, md, ct, zt, cx, zx, hne, u2_rd, mv, vm, e]

set_option maxRecDepth 100000 in
set_option maxHeartbeats 2000000 in
/-- X3_rowInto -/
theorem c_row {n sl : Nat} {C Z : Nat → Nat} {I : Nat → Nat → Int32} {L : Nat → Nat → Int64} {R : Nat → Nat → Nat} {q s : Nat} {u : Int32} {A B K : Nat → Int64} {d : Int64} {p : Nat} (hc : CM C Z I R q s u A B K d) (hp : C p = 4) (hR : R p 0 = q) {t x : Nat} (ct : C t = 22) (zt : Z t = 3) (cx : C x = 22) (zx : Z x = 3) (hne : ¬ x = t) (k pc : Nat) (ls : Lo) (st : List Value) (Q : Option Value → Hp → Prop) : Call 19 [some (.ref p), some (.ref t), some (.ref x), none, none, none, none] (n, sl, C, Z, I, L, R) k pc ls st Q ↔ Wp k pc ls st (n, sl, C, Z, I, va_up L t (arr3 (vm (L x) A 0) (vm (L x) A 1) (vm (L x) A 2) (L t)), R) Q := by
  obtain ⟨⟨g0, g1, g2, g3, g4, g5⟩, ⟨r3, r4, r5, r6⟩, ⟨c1, c2, c3, c4, z1, z2, z3, z4⟩, ma, mb1, mc1, md⟩ := id hc
  have e : ∀ a b c : Int64, u2 (u2 (u2 L t 0 a) t 1 b) t 2 c = va_up L t (arr3 a b c (L t)) := fun a b c => by
    funext i l
    simp only [u2_rd, va_up_rd]
    by_cases h : i = t
    · subst h
      match l with
      | 0 => simp [arr3]
      | 1 => simp [arr3]
      | 2 => simp [arr3]
      | l + 3 => simp [arr3]
    · simp [h]
  simp [S19_0, S19_1, Call_in (k2 := 19), BS, ixs, inbs, le_nlt, hp, hR, g0, g1, g4, g5, r3, r4, r5, r6, c1, c2, c3, c4, z1, z2, z3, z4, ma, mb1, mc1, md, ct, zt, cx, zx, hne, u2_rd, mv, vm, e]

set_option maxRecDepth 100000 in
set_option maxHeartbeats 2000000 in
/-- plainPulse -/
theorem c_pl {n sl : Nat} {C Z : Nat → Nat} {I : Nat → Nat → Int32} {L : Nat → Nat → Int64} {R : Nat → Nat → Nat} {q s : Nat} {u : Int32} {A B K : Nat → Int64} {d : Int64} {p : Nat} (hc : CM C Z I R q s u A B K d) (hp : C p = 4) (hR : R p 0 = q) (hR1 : R p 1 = p + 6) (c6 : C (p + 6) = 23) (z6 : Z (p + 6) = 8) {e : Nat} (he : e < 8) (r6e : R (p + 6) e = p + 7 + e) (ce : C (p + 7 + e) = 22) (ze : Z (p + 7 + e) = 3) (hL : ∀ i, i < 3 → L (p + 7 + e) i = pw A B e i) (k pc : Nat) (ls : Lo) (st : List Value) (Q : Option Value → Hp → Prop) : Call 23 [some (.ref p), some (.int (nI e)), none, none, none] (n, sl, C, Z, I, L, R) k pc ls st Q ↔ Wp k pc ls (.long (pl A B K e) :: st) (n, sl, C, Z, I, L, R) Q := by
  obtain ⟨⟨g0, g1, g2, g3, g4, g5⟩, ⟨r3, r4, r5, r6⟩, ⟨c1, c2, c3, c4, z1, z2, z3, z4⟩, ma, mb1, mc1, md⟩ := id hc
  have h1 : inb (nI e) 8 = true := by rw [inb_nI (by omega)]; simp; omega
  have h2 := ix_nI (show e < 2 ^ 31 by omega)
  simp [S23_0, S23_1, Call_in (k2 := 23), BS, ixs, inbs, le_nlt, hp, hR, hR1, c6, z6, r6e, ce, ze, hL, h1, h2, g0, g1, g4, g5, r3, r4, r5, r6, c1, c2, c3, c4, z1, z2, z3, z4, ma, mb1, mc1, md, pl]

