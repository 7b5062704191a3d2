theorem is_yesG {C Z : Nat → Nat} {R : Nat → Nat → Nat} {M j : Nat} (hB : LayM C Z R) (hM : M ≤ 12) (hj : j < M) : ∀ (n sl : Nat) (I : Nat → Nat → Int32) (L : Nat → Nat → Int64), I 74 0 = nI M → ∀ (k pc : Nat) (ls : Lo) (st : List Value) (Q : Option Value → Hp → Prop), Call 103 [some (.ref 74), some (.int (nI j))] (n, sl, C, Z, I, L, R) k pc ls st Q ↔ Wp k pc ls (.int 1 :: st) (n, sl, C, Z, I, L, R) Q := fun n sl I L e1 => is_yes hB e1 hM hj
theorem v3_bnd {v : Int32} (h1 : ¬ v < -3) (h2 : ¬ (3 : Int32) < v) : bnd 3 v := by
  rw [Int32.lt_iff_toInt_lt] at h1 h2
  have q1 : (-3 : Int32).toInt = -3 := rfl
  have q2 : (3 : Int32).toInt = 3 := rfl
  rw [q1] at h1
  rw [q2] at h2
  unfold bnd
  omega
theorem kd01 {c : Nat} {k : Int32} {P P' P2 P2' : Prop} (h : (c = 8 ∧ k = 0) ∨ (c = 2 ∧ k = 1) ∨ (c = 5 ∧ k = 2 ∧ P) ∨ (c = 6 ∧ k = 3 ∧ P2)) (hk : k = 0 ∨ k = 1) : (c = 8 ∧ k = 0) ∨ (c = 2 ∧ k = 1) ∨ (c = 5 ∧ k = 2 ∧ P') ∨ (c = 6 ∧ k = 3 ∧ P2') := by
  rcases h with h | h | ⟨-, h, -⟩ | ⟨-, h, -⟩
  · exact Or.inl h
  · exact Or.inr (Or.inl h)
  · rcases hk with hk | hk <;> exact absurd (h.symm.trans hk) (by decide)
  · rcases hk with hk | hk <;> exact absurd (h.symm.trans hk) (by decide)
theorem mb01 {k : Int32} (h : k = 0 ∨ k = 1) : mb k = 3 := by simp [mb, h]
section SETS
variable {n : Nat} {C Z : Nat → Nat} {I : Nat → Nat → Int32} {R : Nat → Nat → Nat} {j q s : Nat} {v : Int32}
theorem MOK.setA (h : MOK n C Z I R j q s) (hk : I 75 j = 0 ∨ I 75 j = 1) (hv : bnd 3 v) {a b : Nat} (ha : a < s) (hb : b < s) : MOK n C Z (u2 (u2 I (q + 1) (3 * a + b) v) 79 (9 * j + 3 * a + b) v) R j q s := by
  obtain ⟨a1, a2, a3, a4, a5, a6, a7, a8, a9, a10, a11, a12, a13, a14⟩ := h
  have hs3 := a5.2.1
  have ii : ∀ i, i ≠ q + 1 → i ≠ 79 → u2 (u2 I (q + 1) (3 * a + b) v) 79 (9 * j + 3 * a + b) v i = I i := fun i h1 h2 => by rw [u2_ne _ _ _ h2, u2_ne _ _ _ h1]
  have i1 : ∀ p, u2 (u2 I (q + 1) (3 * a + b) v) 79 (9 * j + 3 * a + b) v (q + 1) p = if p = 3 * a + b then v else I (q + 1) p := fun p => by rw [u2_ne _ _ _ (by omega), u2_at]
  have i2 : ∀ p, u2 (u2 I (q + 1) (3 * a + b) v) 79 (9 * j + 3 * a + b) v 79 p = if p = 9 * j + 3 * a + b then v else I 79 p := fun p => by rw [u2_at, u2_ne _ (i := q + 1) (j := 79) _ _ (by omega)]
  refine ⟨a1, a2, a3, by rw [ii 75 (by omega) (by omega)]; exact kd01 a4 hk, by rw [ii q (by omega) (by omega), ii 76 (by omega) (by omega)]; exact a5, by rw [ii q (by omega) (by omega), ii 77 (by omega) (by omega)]; exact a6, a7, a8, fun i hi => ?_, fun i hi => ?_, fun i hi => ?_, ?_, fun i k hi hk hz => ?_, fun i hi hz => ?_⟩
  · rw [i1, i2, ii 75 (by omega) (by omega)]
    by_cases e : i = 3 * a + b
    · rw [if_pos e, if_pos (by omega), mb01 hk]
      exact ⟨rfl, hv⟩
    · rw [if_neg e, if_neg (by omega)]
      exact a9 i hi
  · rw [ii 80 (by omega) (by omega), ii (q + 2) (by omega) (by omega), ii 75 (by omega) (by omega)]
    exact a10 i hi
  · rw [ii 81 (by omega) (by omega), ii (q + 3) (by omega) (by omega), ii 75 (by omega) (by omega)]
    exact a11 i hi
  · rw [ii 78 (by omega) (by omega), ii (q + 4) (by omega) (by omega), ii 75 (by omega) (by omega)]
    exact a12
  · rw [i1, if_neg (by omega)]
    exact a13 i k hi hk hz
  · rw [ii (q + 2) (by omega) (by omega), ii (q + 3) (by omega) (by omega)]
    exact a14 i hi hz
theorem MOK.setB (h : MOK n C Z I R j q s) (hk : I 75 j = 0 ∨ I 75 j = 1) (hv : bnd 3 v) {a : Nat} (ha : a < s) : MOK n C Z (u2 (u2 I (q + 2) a v) 80 (3 * j + a) v) R j q s := by
  obtain ⟨a1, a2, a3, a4, a5, a6, a7, a8, a9, a10, a11, a12, a13, a14⟩ := h
  have hs3 := a5.2.1
  have ii : ∀ i, i ≠ q + 2 → i ≠ 80 → u2 (u2 I (q + 2) a v) 80 (3 * j + a) v i = I i := fun i h1 h2 => by rw [u2_ne _ _ _ h2, u2_ne _ _ _ h1]
  have i1 : ∀ p, u2 (u2 I (q + 2) a v) 80 (3 * j + a) v (q + 2) p = if p = a then v else I (q + 2) p := fun p => by rw [u2_ne _ _ _ (by omega), u2_at]
  have i2 : ∀ p, u2 (u2 I (q + 2) a v) 80 (3 * j + a) v 80 p = if p = 3 * j + a then v else I 80 p := fun p => by rw [u2_at, u2_ne _ (i := q + 2) (j := 80) _ _ (by omega)]
  refine ⟨a1, a2, a3, by rw [ii 75 (by omega) (by omega)]; exact kd01 a4 hk, by rw [ii q (by omega) (by omega), ii 76 (by omega) (by omega)]; exact a5, by rw [ii q (by omega) (by omega), ii 77 (by omega) (by omega)]; exact a6, a7, a8, fun i hi => ?_, fun i hi => ?_, fun i hi => ?_, ?_, ?_, fun i hi hz => ?_⟩
  · rw [ii 79 (by omega) (by omega), ii (q + 1) (by omega) (by omega), ii 75 (by omega) (by omega)]
    exact a9 i hi
  · rw [i1, i2, ii 75 (by omega) (by omega)]
    by_cases e : i = a
    · rw [if_pos e, if_pos (by omega), mb01 hk]
      exact ⟨rfl, hv⟩
    · rw [if_neg e, if_neg (by omega)]
      exact a10 i hi
  · rw [ii 81 (by omega) (by omega), ii (q + 3) (by omega) (by omega), ii 75 (by omega) (by omega)]
    exact a11 i hi
  · rw [ii 78 (by omega) (by omega), ii (q + 4) (by omega) (by omega), ii 75 (by omega) (by omega)]
    exact a12
  · rw [ii (q + 1) (by omega) (by omega)]
    exact a13
  · rw [i1, if_neg (by omega), ii (q + 3) (by omega) (by omega)]
    exact a14 i hi hz
theorem MOK.setC (h : MOK n C Z I R j q s) (hk : I 75 j = 0 ∨ I 75 j = 1) (hv : bnd 3 v) {a : Nat} (ha : a < s) : MOK n C Z (u2 (u2 I (q + 3) a v) 81 (3 * j + a) v) R j q s := by
  obtain ⟨a1, a2, a3, a4, a5, a6, a7, a8, a9, a10, a11, a12, a13, a14⟩ := h
  have hs3 := a5.2.1
  have ii : ∀ i, i ≠ q + 3 → i ≠ 81 → u2 (u2 I (q + 3) a v) 81 (3 * j + a) v i = I i := fun i h1 h2 => by rw [u2_ne _ _ _ h2, u2_ne _ _ _ h1]
  have i1 : ∀ p, u2 (u2 I (q + 3) a v) 81 (3 * j + a) v (q + 3) p = if p = a then v else I (q + 3) p := fun p => by rw [u2_ne _ _ _ (by omega), u2_at]
  have i2 : ∀ p, u2 (u2 I (q + 3) a v) 81 (3 * j + a) v 81 p = if p = 3 * j + a then v else I 81 p := fun p => by rw [u2_at, u2_ne _ (i := q + 3) (j := 81) _ _ (by omega)]
  refine ⟨a1, a2, a3, by rw [ii 75 (by omega) (by omega)]; exact kd01 a4 hk, by rw [ii q (by omega) (by omega), ii 76 (by omega) (by omega)]; exact a5, by rw [ii q (by omega) (by omega), ii 77 (by omega) (by omega)]; exact a6, a7, a8, fun i hi => ?_, fun i hi => ?_, fun i hi => ?_, ?_, ?_, fun i hi hz => ?_⟩
  · rw [ii 79 (by omega) (by omega), ii (q + 1) (by omega) (by omega), ii 75 (by omega) (by omega)]
    exact a9 i hi
  · rw [ii 80 (by omega) (by omega), ii (q + 2) (by omega) (by omega), ii 75 (by omega) (by omega)]
    exact a10 i hi
  · rw [i1, i2, ii 75 (by omega) (by omega)]
    by_cases e : i = a
    · rw [if_pos e, if_pos (by omega), mb01 hk]
      exact ⟨rfl, hv⟩
    · rw [if_neg e, if_neg (by omega)]
      exact a11 i hi
  · rw [ii 78 (by omega) (by omega), ii (q + 4) (by omega) (by omega), ii 75 (by omega) (by omega)]
    exact a12
  · rw [ii (q + 1) (by omega) (by omega)]
    exact a13
  · rw [i1, if_neg (by omega), ii (q + 2) (by omega) (by omega)]
    exact a14 i hi hz
theorem MOK.setD (h : MOK n C Z I R j q s) (hk : I 75 j = 0 ∨ I 75 j = 1) (hv : bnd 3 v) : MOK n C Z (u2 (u2 I (q + 4) 0 v) 78 j v) R j q s := by
  obtain ⟨a1, a2, a3, a4, a5, a6, a7, a8, a9, a10, a11, a12, a13, a14⟩ := h
  have ii : ∀ i, i ≠ q + 4 → i ≠ 78 → u2 (u2 I (q + 4) 0 v) 78 j v i = I i := fun i h1 h2 => by rw [u2_ne _ _ _ h2, u2_ne _ _ _ h1]
  refine ⟨a1, a2, a3, by rw [ii 75 (by omega) (by omega)]; exact kd01 a4 hk, by rw [ii q (by omega) (by omega), ii 76 (by omega) (by omega)]; exact a5, by rw [ii q (by omega) (by omega), ii 77 (by omega) (by omega)]; exact a6, a7, a8, ?_, ?_, ?_, ?_, ?_, ?_⟩
  · rw [ii 79 (by omega) (by omega), ii (q + 1) (by omega) (by omega), ii 75 (by omega) (by omega)]
    exact a9
  · rw [ii 80 (by omega) (by omega), ii (q + 2) (by omega) (by omega), ii 75 (by omega) (by omega)]
    exact a10
  · rw [ii 81 (by omega) (by omega), ii (q + 3) (by omega) (by omega), ii 75 (by omega) (by omega)]
    exact a11
  · rw [u2_at, if_pos rfl, u2_ne _ (i := 78) (j := q + 4) _ _ (by omega), u2_at, if_pos rfl, ii 75 (by omega) (by omega), mb01 hk]
    exact ⟨rfl, hv⟩
  · rw [ii (q + 1) (by omega) (by omega)]
    exact a13
  · rw [ii (q + 2) (by omega) (by omega), ii (q + 3) (by omega) (by omega)]
    exact a14
end SETS
set_option maxHeartbeats 2000000 in
/-- set(machine, table, i, k, v) -/
theorem two_set (h : Hp) (hI : Inv h) (x tb i k v : Int32) : Two 60 112 [some (.ref 1), some (.int x), some (.int tb), some (.int i), some (.int k), some (.int v), none, none, none, none] [some (.ref 74), some (.int x), some (.int tb), some (.int i), some (.int k), some (.int v), none] h := by
  obtain ⟨n, sl, C, Z, I, L, R⟩ := h
  obtain ⟨M, rn, t, h7⟩ := id hI
  obtain ⟨hM12, hn98, ⟨hB, hK, hO, hE, hM⟩, ⟨e1, e2⟩, hms, hss, hap, ⟨hrn, e3, e4, hrw⟩, ht, e5, e6, htr⟩ := id h7
  dsimp only at hM12 hn98 hB hK hO hE hM e1 e2 hms hss hap hrn e3 e4 hrw ht e5 e6 htr h7
  have hB' := hB
  have hM' := hM
  unfold LayB at hB
  unfold LayM at hM
  unfold Two
  rcases pk_ix x (n := M) (by omega) with hx | hx | ⟨j, hj, rfl⟩
  · have hm : x < 0 ∨ nI M ≤ x := Or.inl hx
    simp [S60_0, S60_1, S94_0, S94_1, S87_0, S53_0, S112_0, S112_1, S112_2, S112_3, S110_0, S110_1, S111_0, S111_1, S104_0, at_no (n := n) (sl := sl) (L := L) hB' e1 hM12 hm, is_no (n := n) (sl := sl) (L := L) hM' e2 hm, Call_in, BS, ixs, inbs, hB, hM, hI, le_nlt]
  · have hm : x < 0 ∨ nI M ≤ x := Or.inr hx
    simp [S60_0, S60_1, S94_0, S94_1, S87_0, S53_0, S112_0, S112_1, S112_2, S112_3, S110_0, S110_1, S111_0, S111_1, S104_0, at_no (n := n) (sl := sl) (L := L) hB' e1 hM12 hm, is_no (n := n) (sl := sl) (L := L) hM' e2 hm, Call_in, BS, ixs, inbs, hB, hM, hI, le_nlt]
  · obtain ⟨q, s, hq⟩ := hms j hj
    obtain ⟨a1, a2, a3, a4, ⟨a5, hs3, a6, a7⟩, ⟨a8, a9⟩, ⟨r3, r4, r5, r6⟩, ⟨c1, c2, c3, c4, z1, z2, z3, z4⟩, ma, mbb, mcc, ⟨md, mdb⟩, za, zb⟩ := id hq
    have j0 : inb (nI j) 12 = true := by rw [inb_nI (by omega)]; simp; omega
    have jx := ix_nI (show j < 2 ^ 31 by omega)
    have isY := is_yesG (M := M) hM' hM12 hj
    have y1 : ¬ 74 = q + 1 := by omega
    have y2 : ¬ 74 = q + 2 := by omega
    have y3 : ¬ 74 = q + 3 := by omega
    have y4 : ¬ 74 = q + 4 := by omega
    have x1 : ¬ 75 = q + 1 ∧ ¬ 75 = q + 2 ∧ ¬ 75 = q + 3 ∧ ¬ 75 = q + 4 := by omega
    have x2 : ¬ 76 = q + 1 ∧ ¬ 76 = q + 2 ∧ ¬ 76 = q + 3 ∧ ¬ 76 = q + 4 := by omega
    have hq0 : ¬ q = 0 := by omega
    rcases in4 tb with t0 | t0 | t0 | t0 | t0 | t0
    · simp [S60_0, S60_1, S94_0, S94_1, S87_0, S53_0, S112_0, S112_1, S112_2, S112_3, S110_0, S110_1, S111_0, S111_1, S104_0, at_yes (n := n) (sl := sl) (L := L) hB' e1 hM12 hj, isY, e2, y1, y2, y3, y4, x1, x2, Call_in, BS, ixs, inbs, hB, hM, hI, le_nlt, a1, hq0, t0]
    · have t1 : ¬ tb < 0 := by rw [Int32.lt_iff_toInt_lt] at *; have q0 : (0 : Int32).toInt = 0 := rfl; have q3 : (3 : Int32).toInt = 3 := rfl; omega
      simp [S60_0, S60_1, S94_0, S94_1, S87_0, S53_0, S112_0, S112_1, S112_2, S112_3, S110_0, S110_1, S111_0, S111_1, S104_0, at_yes (n := n) (sl := sl) (L := L) hB' e1 hM12 hj, isY, e2, y1, y2, y3, y4, x1, x2, Call_in, BS, ixs, inbs, hB, hM, hI, le_nlt, a1, hq0, t0, t1]
    · subst t0
      rcases pk_ix i (n := s) (by omega) with hi | hi | ⟨a, ha, rfl⟩
      · rcases a4 with ⟨b1, b2⟩ | ⟨b1, b2⟩ | ⟨b1, b2⟩ | ⟨b1, b2⟩ <;> simp [S60_0, S60_1, S94_0, S94_1, S87_0, S53_0, S112_0, S112_1, S112_2, S112_3, S110_0, S110_1, S111_0, S111_1, S104_0, at_yes (n := n) (sl := sl) (L := L) hB' e1 hM12 hj, isY, e2, y1, y2, y3, y4, x1, x2, Call_in, BS, ixs, inbs, hB, hM, hI, le_nlt, a1, b1, b2, a6, a7, j0, jx, hq0, inGs, isas, r3, r4, r5, r6, c1, c2, c3, c4, z1, z2, z3, z4, mul3, mul9, nI_add, hi]
      · rcases out_s (s := s) (by omega) (Or.inr hi) with h1 | ⟨h1, h2, h3⟩
        · rcases a4 with ⟨b1, b2⟩ | ⟨b1, b2⟩ | ⟨b1, b2⟩ | ⟨b1, b2⟩ <;> simp [S60_0, S60_1, S94_0, S94_1, S87_0, S53_0, S112_0, S112_1, S112_2, S112_3, S110_0, S110_1, S111_0, S111_1, S104_0, at_yes (n := n) (sl := sl) (L := L) hB' e1 hM12 hj, isY, e2, y1, y2, y3, y4, x1, x2, Call_in, BS, ixs, inbs, hB, hM, hI, le_nlt, a1, b1, b2, a6, a7, j0, jx, hq0, inGs, isas, r3, r4, r5, r6, c1, c2, c3, c4, z1, z2, z3, z4, mul3, mul9, nI_add, h1]
        · rcases a4 with ⟨b1, b2⟩ | ⟨b1, b2⟩ | ⟨b1, b2⟩ | ⟨b1, b2⟩ <;> simp [S60_0, S60_1, S94_0, S94_1, S87_0, S53_0, S112_0, S112_1, S112_2, S112_3, S110_0, S110_1, S111_0, S111_1, S104_0, at_yes (n := n) (sl := sl) (L := L) hB' e1 hM12 hj, isY, e2, y1, y2, y3, y4, x1, x2, Call_in, BS, ixs, inbs, hB, hM, hI, le_nlt, a1, b1, b2, a6, a7, j0, jx, hq0, inGs, isas, r3, r4, r5, r6, c1, c2, c3, c4, z1, z2, z3, z4, mul3, mul9, nI_add, h1, h2, h3]
      · obtain ⟨g1, g2, g3, g4, g5⟩ := in_s (s := s) (by omega) ha
        rcases pk_ix k (n := s) (by omega) with hk | hk | ⟨b, hb, rfl⟩
        · rcases a4 with ⟨b1, b2⟩ | ⟨b1, b2⟩ | ⟨b1, b2⟩ | ⟨b1, b2⟩ <;> simp [S60_0, S60_1, S94_0, S94_1, S87_0, S53_0, S112_0, S112_1, S112_2, S112_3, S110_0, S110_1, S111_0, S111_1, S104_0, at_yes (n := n) (sl := sl) (L := L) hB' e1 hM12 hj, isY, e2, y1, y2, y3, y4, x1, x2, Call_in, BS, ixs, inbs, hB, hM, hI, le_nlt, a1, b1, b2, a6, a7, j0, jx, hq0, inGs, isas, r3, r4, r5, r6, c1, c2, c3, c4, z1, z2, z3, z4, mul3, mul9, nI_add, g1, g2, g3, g4, hk]
        · rcases out_s (s := s) (by omega) (Or.inr hk) with h1 | ⟨h1, h2, h3⟩
          · rcases a4 with ⟨b1, b2⟩ | ⟨b1, b2⟩ | ⟨b1, b2⟩ | ⟨b1, b2⟩ <;> simp [S60_0, S60_1, S94_0, S94_1, S87_0, S53_0, S112_0, S112_1, S112_2, S112_3, S110_0, S110_1, S111_0, S111_1, S104_0, at_yes (n := n) (sl := sl) (L := L) hB' e1 hM12 hj, isY, e2, y1, y2, y3, y4, x1, x2, Call_in, BS, ixs, inbs, hB, hM, hI, le_nlt, a1, b1, b2, a6, a7, j0, jx, hq0, inGs, isas, r3, r4, r5, r6, c1, c2, c3, c4, z1, z2, z3, z4, mul3, mul9, nI_add, g1, g2, g3, g4, h1]
          · rcases a4 with ⟨b1, b2⟩ | ⟨b1, b2⟩ | ⟨b1, b2⟩ | ⟨b1, b2⟩ <;> simp [S60_0, S60_1, S94_0, S94_1, S87_0, S53_0, S112_0, S112_1, S112_2, S112_3, S110_0, S110_1, S111_0, S111_1, S104_0, at_yes (n := n) (sl := sl) (L := L) hB' e1 hM12 hj, isY, e2, y1, y2, y3, y4, x1, x2, Call_in, BS, ixs, inbs, hB, hM, hI, le_nlt, a1, b1, b2, a6, a7, j0, jx, hq0, inGs, isas, r3, r4, r5, r6, c1, c2, c3, c4, z1, z2, z3, z4, mul3, mul9, nI_add, g1, g2, g3, g4, h1, h2, h3]
        · obtain ⟨f1, f2, f3, f4, f5⟩ := in_s (s := s) (by omega) hb
          have v1 : inb (nI (3 * a + b)) 9 = true := by rw [inb_nI (by omega)]; simp; omega
          have v2 := ix_nI (show 3 * a + b < 2 ^ 31 by omega)
          have v3 : inb (nI (9 * j + 3 * a + b)) 108 = true := by rw [inb_nI (by omega)]; simp; omega
          have v4 := ix_nI (show 9 * j + 3 * a + b < 2 ^ 31 by omega)
          have v5 : I 79 (9 * j + 3 * a + b) = I (q + 1) (3 * a + b) := by rw [Nat.add_assoc]; exact (ma (3 * a + b) (by omega)).1
          have v6 : ¬ nI (3 * a + b) < 0 := nI_nneg (by omega)
          have v7 : ¬ 79 = q + 1 := by omega
          by_cases w1 : v < -3
          · rcases a4 with ⟨b1, b2⟩ | ⟨b1, b2⟩ | ⟨b1, b2⟩ | ⟨b1, b2⟩ <;> simp [S60_0, S60_1, S94_0, S94_1, S87_0, S53_0, S112_0, S112_1, S112_2, S112_3, S110_0, S110_1, S111_0, S111_1, S104_0, at_yes (n := n) (sl := sl) (L := L) hB' e1 hM12 hj, isY, e2, y1, y2, y3, y4, x1, x2, Call_in, BS, ixs, inbs, hB, hM, hI, le_nlt, a1, b1, b2, a6, a7, j0, jx, hq0, inGs, isas, r3, r4, r5, r6, c1, c2, c3, c4, z1, z2, z3, z4, mul3, mul9, nI_add, g1, g2, g3, g4, f1, f2, f3, f4, v1, v2, v3, v4, v5, v6, v7, u2_ne, w1]
          by_cases w2 : (3 : Int32) < v
          · rcases a4 with ⟨b1, b2⟩ | ⟨b1, b2⟩ | ⟨b1, b2⟩ | ⟨b1, b2⟩ <;> simp [S60_0, S60_1, S94_0, S94_1, S87_0, S53_0, S112_0, S112_1, S112_2, S112_3, S110_0, S110_1, S111_0, S111_1, S104_0, at_yes (n := n) (sl := sl) (L := L) hB' e1 hM12 hj, isY, e2, y1, y2, y3, y4, x1, x2, Call_in, BS, ixs, inbs, hB, hM, hI, le_nlt, a1, b1, b2, a6, a7, j0, jx, hq0, inGs, isas, r3, r4, r5, r6, c1, c2, c3, c4, z1, z2, z3, z4, mul3, mul9, nI_add, g1, g2, g3, g4, f1, f2, f3, f4, v1, v2, v3, v4, v5, v6, v7, u2_ne, w1, w2]
          have hv := v3_bnd w1 w2
          rcases a4 with ⟨b1, b2⟩ | ⟨b1, b2⟩ | ⟨b1, b2⟩ | ⟨b1, b2⟩
          · simp [S60_0, S60_1, S94_0, S94_1, S87_0, S53_0, S112_0, S112_1, S112_2, S112_3, S110_0, S110_1, S111_0, S111_1, S104_0, at_yes (n := n) (sl := sl) (L := L) hB' e1 hM12 hj, isY, e2, y1, y2, y3, y4, x1, x2, Call_in, BS, ixs, inbs, hB, hM, hI, le_nlt, a1, b1, b2, a6, a7, j0, jx, hq0, inGs, isas, r3, r4, r5, r6, c1, c2, c3, c4, z1, z2, z3, z4, mul3, mul9, nI_add, g1, g2, g3, g4, f1, f2, f3, f4, v1, v2, v3, v4, v5, v6, v7, u2_ne, w1, w2]
            exact Inv_mk (h7.upd hj hq (fun i y1 y2 y3 y4 y5 y6 y7 y8 => by rw [u2_ne _ _ _ (by omega), u2_ne _ _ _ (by omega)]) (fun j' hne => by first | rw [u2_ne _ (j := 78) _ _ (by omega), u2_ne _ (j := 78) _ _ (by omega)] | rw [u2_at, if_neg hne, u2_ne _ (j := 78) _ _ (by omega)]) (fun j' i hne hi => by first | rw [u2_ne _ (j := 79) _ _ (by omega), u2_ne _ (j := 79) _ _ (by omega)] | rw [u2_at, if_neg (by omega), u2_ne _ (j := 79) _ _ (by omega)]) (fun j' i hne hi => by first | rw [u2_ne _ (j := 80) _ _ (by omega), u2_ne _ (j := 80) _ _ (by omega)] | rw [u2_at, if_neg (by omega), u2_ne _ (j := 80) _ _ (by omega)]) (fun j' i hne hi => by first | rw [u2_ne _ (j := 81) _ _ (by omega), u2_ne _ (j := 81) _ _ (by omega)] | rw [u2_at, if_neg (by omega), u2_ne _ (j := 81) _ _ (by omega)]) (hq.setA (Or.inl b2) hv ha hb))
          · simp [S60_0, S60_1, S94_0, S94_1, S87_0, S53_0, S112_0, S112_1, S112_2, S112_3, S110_0, S110_1, S111_0, S111_1, S104_0, at_yes (n := n) (sl := sl) (L := L) hB' e1 hM12 hj, isY, e2, y1, y2, y3, y4, x1, x2, Call_in, BS, ixs, inbs, hB, hM, hI, le_nlt, a1, b1, b2, a6, a7, j0, jx, hq0, inGs, isas, r3, r4, r5, r6, c1, c2, c3, c4, z1, z2, z3, z4, mul3, mul9, nI_add, g1, g2, g3, g4, f1, f2, f3, f4, v1, v2, v3, v4, v5, v6, v7, u2_ne, w1, w2]
            exact Inv_mk (h7.upd hj hq (fun i y1 y2 y3 y4 y5 y6 y7 y8 => by rw [u2_ne _ _ _ (by omega), u2_ne _ _ _ (by omega)]) (fun j' hne => by first | rw [u2_ne _ (j := 78) _ _ (by omega), u2_ne _ (j := 78) _ _ (by omega)] | rw [u2_at, if_neg hne, u2_ne _ (j := 78) _ _ (by omega)]) (fun j' i hne hi => by first | rw [u2_ne _ (j := 79) _ _ (by omega), u2_ne _ (j := 79) _ _ (by omega)] | rw [u2_at, if_neg (by omega), u2_ne _ (j := 79) _ _ (by omega)]) (fun j' i hne hi => by first | rw [u2_ne _ (j := 80) _ _ (by omega), u2_ne _ (j := 80) _ _ (by omega)] | rw [u2_at, if_neg (by omega), u2_ne _ (j := 80) _ _ (by omega)]) (fun j' i hne hi => by first | rw [u2_ne _ (j := 81) _ _ (by omega), u2_ne _ (j := 81) _ _ (by omega)] | rw [u2_at, if_neg (by omega), u2_ne _ (j := 81) _ _ (by omega)]) (hq.setA (Or.inr b2) hv ha hb))
          · simp [S60_0, S60_1, S94_0, S94_1, S87_0, S53_0, S112_0, S112_1, S112_2, S112_3, S110_0, S110_1, S111_0, S111_1, S104_0, at_yes (n := n) (sl := sl) (L := L) hB' e1 hM12 hj, isY, e2, y1, y2, y3, y4, x1, x2, Call_in, BS, ixs, inbs, hB, hM, hI, le_nlt, a1, b1, b2, a6, a7, j0, jx, hq0, inGs, isas, r3, r4, r5, r6, c1, c2, c3, c4, z1, z2, z3, z4, mul3, mul9, nI_add, g1, g2, g3, g4, f1, f2, f3, f4, v1, v2, v3, v4, v5, v6, v7, u2_ne, w1, w2]
          · simp [S60_0, S60_1, S94_0, S94_1, S87_0, S53_0, S112_0, S112_1, S112_2, S112_3, S110_0, S110_1, S111_0, S111_1, S104_0, at_yes (n := n) (sl := sl) (L := L) hB' e1 hM12 hj, isY, e2, y1, y2, y3, y4, x1, x2, Call_in, BS, ixs, inbs, hB, hM, hI, le_nlt, a1, b1, b2, a6, a7, j0, jx, hq0, inGs, isas, r3, r4, r5, r6, c1, c2, c3, c4, z1, z2, z3, z4, mul3, mul9, nI_add, g1, g2, g3, g4, f1, f2, f3, f4, v1, v2, v3, v4, v5, v6, v7, u2_ne, w1, w2]
    · subst t0
      rcases pk_ix i (n := s) (by omega) with hi | hi | ⟨a, ha, rfl⟩
      · rcases a4 with ⟨b1, b2⟩ | ⟨b1, b2⟩ | ⟨b1, b2⟩ | ⟨b1, b2⟩ <;> simp [S60_0, S60_1, S94_0, S94_1, S87_0, S53_0, S112_0, S112_1, S112_2, S112_3, S110_0, S110_1, S111_0, S111_1, S104_0, at_yes (n := n) (sl := sl) (L := L) hB' e1 hM12 hj, isY, e2, y1, y2, y3, y4, x1, x2, Call_in, BS, ixs, inbs, hB, hM, hI, le_nlt, a1, b1, b2, a6, a7, j0, jx, hq0, inGs, isas, r3, r4, r5, r6, c1, c2, c3, c4, z1, z2, z3, z4, mul3, mul9, nI_add, hi]
      · rcases out_s (s := s) (by omega) (Or.inr hi) with h1 | ⟨h1, h2, h3⟩
        · rcases a4 with ⟨b1, b2⟩ | ⟨b1, b2⟩ | ⟨b1, b2⟩ | ⟨b1, b2⟩ <;> simp [S60_0, S60_1, S94_0, S94_1, S87_0, S53_0, S112_0, S112_1, S112_2, S112_3, S110_0, S110_1, S111_0, S111_1, S104_0, at_yes (n := n) (sl := sl) (L := L) hB' e1 hM12 hj, isY, e2, y1, y2, y3, y4, x1, x2, Call_in, BS, ixs, inbs, hB, hM, hI, le_nlt, a1, b1, b2, a6, a7, j0, jx, hq0, inGs, isas, r3, r4, r5, r6, c1, c2, c3, c4, z1, z2, z3, z4, mul3, mul9, nI_add, h1]
        · rcases a4 with ⟨b1, b2⟩ | ⟨b1, b2⟩ | ⟨b1, b2⟩ | ⟨b1, b2⟩ <;> simp [S60_0, S60_1, S94_0, S94_1, S87_0, S53_0, S112_0, S112_1, S112_2, S112_3, S110_0, S110_1, S111_0, S111_1, S104_0, at_yes (n := n) (sl := sl) (L := L) hB' e1 hM12 hj, isY, e2, y1, y2, y3, y4, x1, x2, Call_in, BS, ixs, inbs, hB, hM, hI, le_nlt, a1, b1, b2, a6, a7, j0, jx, hq0, inGs, isas, r3, r4, r5, r6, c1, c2, c3, c4, z1, z2, z3, z4, mul3, mul9, nI_add, h1, h2, h3]
      · obtain ⟨g1, g2, g3, g4, g5⟩ := in_s (s := s) (by omega) ha
        have v1 : inb (nI a) 3 = true := by rw [inb_nI (by omega)]; simp; omega
        have v2 := ix_nI (show a < 2 ^ 31 by omega)
        have v3 : inb (nI (3 * j + a)) 36 = true := by rw [inb_nI (by omega)]; simp; omega
        have v4 := ix_nI (show 3 * j + a < 2 ^ 31 by omega)
        have v5 := (mbb a (by omega)).1
        have v7 : ¬ 80 = q + 2 := by omega
        by_cases w1 : v < -3
        · rcases a4 with ⟨b1, b2⟩ | ⟨b1, b2⟩ | ⟨b1, b2⟩ | ⟨b1, b2⟩ <;> simp [S60_0, S60_1, S94_0, S94_1, S87_0, S53_0, S112_0, S112_1, S112_2, S112_3, S110_0, S110_1, S111_0, S111_1, S104_0, at_yes (n := n) (sl := sl) (L := L) hB' e1 hM12 hj, isY, e2, y1, y2, y3, y4, x1, x2, Call_in, BS, ixs, inbs, hB, hM, hI, le_nlt, a1, b1, b2, a6, a7, j0, jx, hq0, inGs, isas, r3, r4, r5, r6, c1, c2, c3, c4, z1, z2, z3, z4, mul3, mul9, nI_add, g1, g2, g3, g4, v1, v2, v3, v4, v5, v7, u2_ne, w1]
        by_cases w2 : (3 : Int32) < v
        · rcases a4 with ⟨b1, b2⟩ | ⟨b1, b2⟩ | ⟨b1, b2⟩ | ⟨b1, b2⟩ <;> simp [S60_0, S60_1, S94_0, S94_1, S87_0, S53_0, S112_0, S112_1, S112_2, S112_3, S110_0, S110_1, S111_0, S111_1, S104_0, at_yes (n := n) (sl := sl) (L := L) hB' e1 hM12 hj, isY, e2, y1, y2, y3, y4, x1, x2, Call_in, BS, ixs, inbs, hB, hM, hI, le_nlt, a1, b1, b2, a6, a7, j0, jx, hq0, inGs, isas, r3, r4, r5, r6, c1, c2, c3, c4, z1, z2, z3, z4, mul3, mul9, nI_add, g1, g2, g3, g4, v1, v2, v3, v4, v5, v7, u2_ne, w1, w2]
        have hv := v3_bnd w1 w2
        rcases a4 with ⟨b1, b2⟩ | ⟨b1, b2⟩ | ⟨b1, b2⟩ | ⟨b1, b2⟩
        · simp [S60_0, S60_1, S94_0, S94_1, S87_0, S53_0, S112_0, S112_1, S112_2, S112_3, S110_0, S110_1, S111_0, S111_1, S104_0, at_yes (n := n) (sl := sl) (L := L) hB' e1 hM12 hj, isY, e2, y1, y2, y3, y4, x1, x2, Call_in, BS, ixs, inbs, hB, hM, hI, le_nlt, a1, b1, b2, a6, a7, j0, jx, hq0, inGs, isas, r3, r4, r5, r6, c1, c2, c3, c4, z1, z2, z3, z4, mul3, mul9, nI_add, g1, g2, g3, g4, v1, v2, v3, v4, v5, v7, u2_ne, w1, w2]
          exact Inv_mk (h7.upd hj hq (fun i y1 y2 y3 y4 y5 y6 y7 y8 => by rw [u2_ne _ _ _ (by omega), u2_ne _ _ _ (by omega)]) (fun j' hne => by first | rw [u2_ne _ (j := 78) _ _ (by omega), u2_ne _ (j := 78) _ _ (by omega)] | rw [u2_at, if_neg hne, u2_ne _ (j := 78) _ _ (by omega)]) (fun j' i hne hi => by first | rw [u2_ne _ (j := 79) _ _ (by omega), u2_ne _ (j := 79) _ _ (by omega)] | rw [u2_at, if_neg (by omega), u2_ne _ (j := 79) _ _ (by omega)]) (fun j' i hne hi => by first | rw [u2_ne _ (j := 80) _ _ (by omega), u2_ne _ (j := 80) _ _ (by omega)] | rw [u2_at, if_neg (by omega), u2_ne _ (j := 80) _ _ (by omega)]) (fun j' i hne hi => by first | rw [u2_ne _ (j := 81) _ _ (by omega), u2_ne _ (j := 81) _ _ (by omega)] | rw [u2_at, if_neg (by omega), u2_ne _ (j := 81) _ _ (by omega)]) (hq.setB (Or.inl b2) hv ha))
        · simp [S60_0, S60_1, S94_0, S94_1, S87_0, S53_0, S112_0, S112_1, S112_2, S112_3, S110_0, S110_1, S111_0, S111_1, S104_0, at_yes (n := n) (sl := sl) (L := L) hB' e1 hM12 hj, isY, e2, y1, y2, y3, y4, x1, x2, Call_in, BS, ixs, inbs, hB, hM, hI, le_nlt, a1, b1, b2, a6, a7, j0, jx, hq0, inGs, isas, r3, r4, r5, r6, c1, c2, c3, c4, z1, z2, z3, z4, mul3, mul9, nI_add, g1, g2, g3, g4, v1, v2, v3, v4, v5, v7, u2_ne, w1, w2]
          exact Inv_mk (h7.upd hj hq (fun i y1 y2 y3 y4 y5 y6 y7 y8 => by rw [u2_ne _ _ _ (by omega), u2_ne _ _ _ (by omega)]) (fun j' hne => by first | rw [u2_ne _ (j := 78) _ _ (by omega), u2_ne _ (j := 78) _ _ (by omega)] | rw [u2_at, if_neg hne, u2_ne _ (j := 78) _ _ (by omega)]) (fun j' i hne hi => by first | rw [u2_ne _ (j := 79) _ _ (by omega), u2_ne _ (j := 79) _ _ (by omega)] | rw [u2_at, if_neg (by omega), u2_ne _ (j := 79) _ _ (by omega)]) (fun j' i hne hi => by first | rw [u2_ne _ (j := 80) _ _ (by omega), u2_ne _ (j := 80) _ _ (by omega)] | rw [u2_at, if_neg (by omega), u2_ne _ (j := 80) _ _ (by omega)]) (fun j' i hne hi => by first | rw [u2_ne _ (j := 81) _ _ (by omega), u2_ne _ (j := 81) _ _ (by omega)] | rw [u2_at, if_neg (by omega), u2_ne _ (j := 81) _ _ (by omega)]) (hq.setB (Or.inr b2) hv ha))
        · simp [S60_0, S60_1, S94_0, S94_1, S87_0, S53_0, S112_0, S112_1, S112_2, S112_3, S110_0, S110_1, S111_0, S111_1, S104_0, at_yes (n := n) (sl := sl) (L := L) hB' e1 hM12 hj, isY, e2, y1, y2, y3, y4, x1, x2, Call_in, BS, ixs, inbs, hB, hM, hI, le_nlt, a1, b1, b2, a6, a7, j0, jx, hq0, inGs, isas, r3, r4, r5, r6, c1, c2, c3, c4, z1, z2, z3, z4, mul3, mul9, nI_add, g1, g2, g3, g4, v1, v2, v3, v4, v5, v7, u2_ne, w1, w2]
        · simp [S60_0, S60_1, S94_0, S94_1, S87_0, S53_0, S112_0, S112_1, S112_2, S112_3, S110_0, S110_1, S111_0, S111_1, S104_0, at_yes (n := n) (sl := sl) (L := L) hB' e1 hM12 hj, isY, e2, y1, y2, y3, y4, x1, x2, Call_in, BS, ixs, inbs, hB, hM, hI, le_nlt, a1, b1, b2, a6, a7, j0, jx, hq0, inGs, isas, r3, r4, r5, r6, c1, c2, c3, c4, z1, z2, z3, z4, mul3, mul9, nI_add, g1, g2, g3, g4, v1, v2, v3, v4, v5, v7, u2_ne, w1, w2]
    · subst t0
      rcases pk_ix i (n := s) (by omega) with hi | hi | ⟨a, ha, rfl⟩
      · rcases a4 with ⟨b1, b2⟩ | ⟨b1, b2⟩ | ⟨b1, b2⟩ | ⟨b1, b2⟩ <;> simp [S60_0, S60_1, S94_0, S94_1, S87_0, S53_0, S112_0, S112_1, S112_2, S112_3, S110_0, S110_1, S111_0, S111_1, S104_0, at_yes (n := n) (sl := sl) (L := L) hB' e1 hM12 hj, isY, e2, y1, y2, y3, y4, x1, x2, Call_in, BS, ixs, inbs, hB, hM, hI, le_nlt, a1, b1, b2, a6, a7, j0, jx, hq0, inGs, isas, r3, r4, r5, r6, c1, c2, c3, c4, z1, z2, z3, z4, mul3, mul9, nI_add, hi]
      · rcases out_s (s := s) (by omega) (Or.inr hi) with h1 | ⟨h1, h2, h3⟩
        · rcases a4 with ⟨b1, b2⟩ | ⟨b1, b2⟩ | ⟨b1, b2⟩ | ⟨b1, b2⟩ <;> simp [S60_0, S60_1, S94_0, S94_1, S87_0, S53_0, S112_0, S112_1, S112_2, S112_3, S110_0, S110_1, S111_0, S111_1, S104_0, at_yes (n := n) (sl := sl) (L := L) hB' e1 hM12 hj, isY, e2, y1, y2, y3, y4, x1, x2, Call_in, BS, ixs, inbs, hB, hM, hI, le_nlt, a1, b1, b2, a6, a7, j0, jx, hq0, inGs, isas, r3, r4, r5, r6, c1, c2, c3, c4, z1, z2, z3, z4, mul3, mul9, nI_add, h1]
        · rcases a4 with ⟨b1, b2⟩ | ⟨b1, b2⟩ | ⟨b1, b2⟩ | ⟨b1, b2⟩ <;> simp [S60_0, S60_1, S94_0, S94_1, S87_0, S53_0, S112_0, S112_1, S112_2, S112_3, S110_0, S110_1, S111_0, S111_1, S104_0, at_yes (n := n) (sl := sl) (L := L) hB' e1 hM12 hj, isY, e2, y1, y2, y3, y4, x1, x2, Call_in, BS, ixs, inbs, hB, hM, hI, le_nlt, a1, b1, b2, a6, a7, j0, jx, hq0, inGs, isas, r3, r4, r5, r6, c1, c2, c3, c4, z1, z2, z3, z4, mul3, mul9, nI_add, h1, h2, h3]
      · obtain ⟨g1, g2, g3, g4, g5⟩ := in_s (s := s) (by omega) ha
        have v1 : inb (nI a) 3 = true := by rw [inb_nI (by omega)]; simp; omega
        have v2 := ix_nI (show a < 2 ^ 31 by omega)
        have v3 : inb (nI (3 * j + a)) 36 = true := by rw [inb_nI (by omega)]; simp; omega
        have v4 := ix_nI (show 3 * j + a < 2 ^ 31 by omega)
        have v5 := (mcc a (by omega)).1
        have v7 : ¬ 81 = q + 3 := by omega
        by_cases w1 : v < -3
        · rcases a4 with ⟨b1, b2⟩ | ⟨b1, b2⟩ | ⟨b1, b2⟩ | ⟨b1, b2⟩ <;> simp [S60_0, S60_1, S94_0, S94_1, S87_0, S53_0, S112_0, S112_1, S112_2, S112_3, S110_0, S110_1, S111_0, S111_1, S104_0, at_yes (n := n) (sl := sl) (L := L) hB' e1 hM12 hj, isY, e2, y1, y2, y3, y4, x1, x2, Call_in, BS, ixs, inbs, hB, hM, hI, le_nlt, a1, b1, b2, a6, a7, j0, jx, hq0, inGs, isas, r3, r4, r5, r6, c1, c2, c3, c4, z1, z2, z3, z4, mul3, mul9, nI_add, g1, g2, g3, g4, v1, v2, v3, v4, v5, v7, u2_ne, w1]
        by_cases w2 : (3 : Int32) < v
        · rcases a4 with ⟨b1, b2⟩ | ⟨b1, b2⟩ | ⟨b1, b2⟩ | ⟨b1, b2⟩ <;> simp [S60_0, S60_1, S94_0, S94_1, S87_0, S53_0, S112_0, S112_1, S112_2, S112_3, S110_0, S110_1, S111_0, S111_1, S104_0, at_yes (n := n) (sl := sl) (L := L) hB' e1 hM12 hj, isY, e2, y1, y2, y3, y4, x1, x2, Call_in, BS, ixs, inbs, hB, hM, hI, le_nlt, a1, b1, b2, a6, a7, j0, jx, hq0, inGs, isas, r3, r4, r5, r6, c1, c2, c3, c4, z1, z2, z3, z4, mul3, mul9, nI_add, g1, g2, g3, g4, v1, v2, v3, v4, v5, v7, u2_ne, w1, w2]
        have hv := v3_bnd w1 w2
        rcases a4 with ⟨b1, b2⟩ | ⟨b1, b2⟩ | ⟨b1, b2⟩ | ⟨b1, b2⟩
        · simp [S60_0, S60_1, S94_0, S94_1, S87_0, S53_0, S112_0, S112_1, S112_2, S112_3, S110_0, S110_1, S111_0, S111_1, S104_0, at_yes (n := n) (sl := sl) (L := L) hB' e1 hM12 hj, isY, e2, y1, y2, y3, y4, x1, x2, Call_in, BS, ixs, inbs, hB, hM, hI, le_nlt, a1, b1, b2, a6, a7, j0, jx, hq0, inGs, isas, r3, r4, r5, r6, c1, c2, c3, c4, z1, z2, z3, z4, mul3, mul9, nI_add, g1, g2, g3, g4, v1, v2, v3, v4, v5, v7, u2_ne, w1, w2]
          exact Inv_mk (h7.upd hj hq (fun i y1 y2 y3 y4 y5 y6 y7 y8 => by rw [u2_ne _ _ _ (by omega), u2_ne _ _ _ (by omega)]) (fun j' hne => by first | rw [u2_ne _ (j := 78) _ _ (by omega), u2_ne _ (j := 78) _ _ (by omega)] | rw [u2_at, if_neg hne, u2_ne _ (j := 78) _ _ (by omega)]) (fun j' i hne hi => by first | rw [u2_ne _ (j := 79) _ _ (by omega), u2_ne _ (j := 79) _ _ (by omega)] | rw [u2_at, if_neg (by omega), u2_ne _ (j := 79) _ _ (by omega)]) (fun j' i hne hi => by first | rw [u2_ne _ (j := 80) _ _ (by omega), u2_ne _ (j := 80) _ _ (by omega)] | rw [u2_at, if_neg (by omega), u2_ne _ (j := 80) _ _ (by omega)]) (fun j' i hne hi => by first | rw [u2_ne _ (j := 81) _ _ (by omega), u2_ne _ (j := 81) _ _ (by omega)] | rw [u2_at, if_neg (by omega), u2_ne _ (j := 81) _ _ (by omega)]) (hq.setC (Or.inl b2) hv ha))
        · simp [S60_0, S60_1, S94_0, S94_1, S87_0, S53_0, S112_0, S112_1, S112_2, S112_3, S110_0, S110_1, S111_0, S111_1, S104_0, at_yes (n := n) (sl := sl) (L := L) hB' e1 hM12 hj, isY, e2, y1, y2, y3, y4, x1, x2, Call_in, BS, ixs, inbs, hB, hM, hI, le_nlt, a1, b1, b2, a6, a7, j0, jx, hq0, inGs, isas, r3, r4, r5, r6, c1, c2, c3, c4, z1, z2, z3, z4, mul3, mul9, nI_add, g1, g2, g3, g4, v1, v2, v3, v4, v5, v7, u2_ne, w1, w2]
          exact Inv_mk (h7.upd hj hq (fun i y1 y2 y3 y4 y5 y6 y7 y8 => by rw [u2_ne _ _ _ (by omega), u2_ne _ _ _ (by omega)]) (fun j' hne => by first | rw [u2_ne _ (j := 78) _ _ (by omega), u2_ne _ (j := 78) _ _ (by omega)] | rw [u2_at, if_neg hne, u2_ne _ (j := 78) _ _ (by omega)]) (fun j' i hne hi => by first | rw [u2_ne _ (j := 79) _ _ (by omega), u2_ne _ (j := 79) _ _ (by omega)] | rw [u2_at, if_neg (by omega), u2_ne _ (j := 79) _ _ (by omega)]) (fun j' i hne hi => by first | rw [u2_ne _ (j := 80) _ _ (by omega), u2_ne _ (j := 80) _ _ (by omega)] | rw [u2_at, if_neg (by omega), u2_ne _ (j := 80) _ _ (by omega)]) (fun j' i hne hi => by first | rw [u2_ne _ (j := 81) _ _ (by omega), u2_ne _ (j := 81) _ _ (by omega)] | rw [u2_at, if_neg (by omega), u2_ne _ (j := 81) _ _ (by omega)]) (hq.setC (Or.inr b2) hv ha))
        · simp [S60_0, S60_1, S94_0, S94_1, S87_0, S53_0, S112_0, S112_1, S112_2, S112_3, S110_0, S110_1, S111_0, S111_1, S104_0, at_yes (n := n) (sl := sl) (L := L) hB' e1 hM12 hj, isY, e2, y1, y2, y3, y4, x1, x2, Call_in, BS, ixs, inbs, hB, hM, hI, le_nlt, a1, b1, b2, a6, a7, j0, jx, hq0, inGs, isas, r3, r4, r5, r6, c1, c2, c3, c4, z1, z2, z3, z4, mul3, mul9, nI_add, g1, g2, g3, g4, v1, v2, v3, v4, v5, v7, u2_ne, w1, w2]
        · simp [S60_0, S60_1, S94_0, S94_1, S87_0, S53_0, S112_0, S112_1, S112_2, S112_3, S110_0, S110_1, S111_0, S111_1, S104_0, at_yes (n := n) (sl := sl) (L := L) hB' e1 hM12 hj, isY, e2, y1, y2, y3, y4, x1, x2, Call_in, BS, ixs, inbs, hB, hM, hI, le_nlt, a1, b1, b2, a6, a7, j0, jx, hq0, inGs, isas, r3, r4, r5, r6, c1, c2, c3, c4, z1, z2, z3, z4, mul3, mul9, nI_add, g1, g2, g3, g4, v1, v2, v3, v4, v5, v7, u2_ne, w1, w2]
    · subst t0
      have v7 : ¬ 78 = q + 4 := by omega
      by_cases w1 : v < -3
      · rcases a4 with ⟨b1, b2⟩ | ⟨b1, b2⟩ | ⟨b1, b2⟩ | ⟨b1, b2⟩ <;> simp [S60_0, S60_1, S94_0, S94_1, S87_0, S53_0, S112_0, S112_1, S112_2, S112_3, S110_0, S110_1, S111_0, S111_1, S104_0, at_yes (n := n) (sl := sl) (L := L) hB' e1 hM12 hj, isY, e2, y1, y2, y3, y4, x1, x2, Call_in, BS, ixs, inbs, hB, hM, hI, le_nlt, a1, b1, b2, a6, a7, j0, jx, hq0, inGs, isas, r3, r4, r5, r6, c1, c2, c3, c4, z1, z2, z3, z4, mul3, mul9, nI_add, md, v7, u2_ne, w1]
      by_cases w2 : (3 : Int32) < v
      · rcases a4 with ⟨b1, b2⟩ | ⟨b1, b2⟩ | ⟨b1, b2⟩ | ⟨b1, b2⟩ <;> simp [S60_0, S60_1, S94_0, S94_1, S87_0, S53_0, S112_0, S112_1, S112_2, S112_3, S110_0, S110_1, S111_0, S111_1, S104_0, at_yes (n := n) (sl := sl) (L := L) hB' e1 hM12 hj, isY, e2, y1, y2, y3, y4, x1, x2, Call_in, BS, ixs, inbs, hB, hM, hI, le_nlt, a1, b1, b2, a6, a7, j0, jx, hq0, inGs, isas, r3, r4, r5, r6, c1, c2, c3, c4, z1, z2, z3, z4, mul3, mul9, nI_add, md, v7, u2_ne, w1, w2]
      have hv := v3_bnd w1 w2
      rcases a4 with ⟨b1, b2⟩ | ⟨b1, b2⟩ | ⟨b1, b2⟩ | ⟨b1, b2⟩
      · simp [S60_0, S60_1, S94_0, S94_1, S87_0, S53_0, S112_0, S112_1, S112_2, S112_3, S110_0, S110_1, S111_0, S111_1, S104_0, at_yes (n := n) (sl := sl) (L := L) hB' e1 hM12 hj, isY, e2, y1, y2, y3, y4, x1, x2, Call_in, BS, ixs, inbs, hB, hM, hI, le_nlt, a1, b1, b2, a6, a7, j0, jx, hq0, inGs, isas, r3, r4, r5, r6, c1, c2, c3, c4, z1, z2, z3, z4, mul3, mul9, nI_add, md, v7, u2_ne, w1, w2]
        exact Inv_mk (h7.upd hj hq (fun i y1 y2 y3 y4 y5 y6 y7 y8 => by rw [u2_ne _ _ _ (by omega), u2_ne _ _ _ (by omega)]) (fun j' hne => by first | rw [u2_ne _ (j := 78) _ _ (by omega), u2_ne _ (j := 78) _ _ (by omega)] | rw [u2_at, if_neg hne, u2_ne _ (j := 78) _ _ (by omega)]) (fun j' i hne hi => by first | rw [u2_ne _ (j := 79) _ _ (by omega), u2_ne _ (j := 79) _ _ (by omega)] | rw [u2_at, if_neg (by omega), u2_ne _ (j := 79) _ _ (by omega)]) (fun j' i hne hi => by first | rw [u2_ne _ (j := 80) _ _ (by omega), u2_ne _ (j := 80) _ _ (by omega)] | rw [u2_at, if_neg (by omega), u2_ne _ (j := 80) _ _ (by omega)]) (fun j' i hne hi => by first | rw [u2_ne _ (j := 81) _ _ (by omega), u2_ne _ (j := 81) _ _ (by omega)] | rw [u2_at, if_neg (by omega), u2_ne _ (j := 81) _ _ (by omega)]) (hq.setD (Or.inl b2) hv))
      · simp [S60_0, S60_1, S94_0, S94_1, S87_0, S53_0, S112_0, S112_1, S112_2, S112_3, S110_0, S110_1, S111_0, S111_1, S104_0, at_yes (n := n) (sl := sl) (L := L) hB' e1 hM12 hj, isY, e2, y1, y2, y3, y4, x1, x2, Call_in, BS, ixs, inbs, hB, hM, hI, le_nlt, a1, b1, b2, a6, a7, j0, jx, hq0, inGs, isas, r3, r4, r5, r6, c1, c2, c3, c4, z1, z2, z3, z4, mul3, mul9, nI_add, md, v7, u2_ne, w1, w2]
        exact Inv_mk (h7.upd hj hq (fun i y1 y2 y3 y4 y5 y6 y7 y8 => by rw [u2_ne _ _ _ (by omega), u2_ne _ _ _ (by omega)]) (fun j' hne => by first | rw [u2_ne _ (j := 78) _ _ (by omega), u2_ne _ (j := 78) _ _ (by omega)] | rw [u2_at, if_neg hne, u2_ne _ (j := 78) _ _ (by omega)]) (fun j' i hne hi => by first | rw [u2_ne _ (j := 79) _ _ (by omega), u2_ne _ (j := 79) _ _ (by omega)] | rw [u2_at, if_neg (by omega), u2_ne _ (j := 79) _ _ (by omega)]) (fun j' i hne hi => by first | rw [u2_ne _ (j := 80) _ _ (by omega), u2_ne _ (j := 80) _ _ (by omega)] | rw [u2_at, if_neg (by omega), u2_ne _ (j := 80) _ _ (by omega)]) (fun j' i hne hi => by first | rw [u2_ne _ (j := 81) _ _ (by omega), u2_ne _ (j := 81) _ _ (by omega)] | rw [u2_at, if_neg (by omega), u2_ne _ (j := 81) _ _ (by omega)]) (hq.setD (Or.inr b2) hv))
      · simp [S60_0, S60_1, S94_0, S94_1, S87_0, S53_0, S112_0, S112_1, S112_2, S112_3, S110_0, S110_1, S111_0, S111_1, S104_0, at_yes (n := n) (sl := sl) (L := L) hB' e1 hM12 hj, isY, e2, y1, y2, y3, y4, x1, x2, Call_in, BS, ixs, inbs, hB, hM, hI, le_nlt, a1, b1, b2, a6, a7, j0, jx, hq0, inGs, isas, r3, r4, r5, r6, c1, c2, c3, c4, z1, z2, z3, z4, mul3, mul9, nI_add, md, v7, u2_ne, w1, w2]
      · simp [S60_0, S60_1, S94_0, S94_1, S87_0, S53_0, S112_0, S112_1, S112_2, S112_3, S110_0, S110_1, S111_0, S111_1, S104_0, at_yes (n := n) (sl := sl) (L := L) hB' e1 hM12 hj, isY, e2, y1, y2, y3, y4, x1, x2, Call_in, BS, ixs, inbs, hB, hM, hI, le_nlt, a1, b1, b2, a6, a7, j0, jx, hq0, inGs, isas, r3, r4, r5, r6, c1, c2, c3, c4, z1, z2, z3, z4, mul3, mul9, nI_add, md, v7, u2_ne, w1, w2]

