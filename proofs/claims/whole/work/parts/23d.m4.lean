theorem le_nlt (a b : Int32) : (a ≤ b) = (¬ b < a) := by rw [Int32.not_lt]
theorem in4 (k : Int32) : k < 0 ∨ (3 : Int32) < k ∨ k = 0 ∨ k = 1 ∨ k = 2 ∨ k = 3 := by
  by_cases k0 : k < 0
  · exact Or.inl k0
  by_cases k4 : (3 : Int32) < k
  · exact Or.inr (Or.inl k4)
  rw [Int32.lt_iff_toInt_lt] at k0 k4
  have q0 : (0 : Int32).toInt = 0 := rfl
  have q3 : (3 : Int32).toInt = 3 := rfl
  rw [q0] at k0
  rw [q3] at k4
  have : k.toInt = 0 ∨ k.toInt = 1 ∨ k.toInt = 2 ∨ k.toInt = 3 := by omega
  refine Or.inr (Or.inr ?_)
  rcases this with e | e | e | e
  · exact Or.inl (Int32.toInt_inj.mp e)
  · exact Or.inr (Or.inl (Int32.toInt_inj.mp e))
  · exact Or.inr (Or.inr (Or.inl (Int32.toInt_inj.mp e)))
  · exact Or.inr (Or.inr (Or.inr (Int32.toInt_inj.mp e)))
/-- an index beyond s: as the bench and as the reference test it -/
theorem out_s {x : Int32} {s : Nat} (hs : s < 100000) (h : x < 0 ∨ nI s ≤ x) : x < 0 ∨ (¬ x < 0 ∧ nI s - 1 < x ∧ ¬ x < nI s) := by
  by_cases h0 : x < 0
  · exact Or.inl h0
  · have h1 := h.resolve_left h0
    exact Or.inr ⟨h0, by rw [← Int32.not_le, le_predk hs, Int32.not_lt]; exact h1, Int32.not_lt.mpr h1⟩
theorem in_s {a s : Nat} (hs : s < 100000) (h : a < s) : ¬ nI a < 0 ∧ ¬ nI s - 1 < nI a ∧ ¬ nI s ≤ nI a ∧ nI a < nI s ∧ 0 ≤ nI a := ⟨nI_nneg (by omega), by rw [Int32.not_lt, le_predk hs]; exact nI_lt h (by omega), nI_ge h (by omega), nI_lt h (by omega), nI_pos' (by omega)⟩
set_option maxHeartbeats 2000000 in
/-- table(machine, table, i, k) -/
theorem two_table (h : Hp) (hI : Inv h) (x tb i k : Int32) : Two 67 113 [some (.ref 1), some (.int x), some (.int tb), some (.int i), some (.int k), none, none] [some (.ref 74), some (.int x), some (.int tb), some (.int i), some (.int k)] h := by
  obtain ⟨n, sl, C, Z, I, L, R⟩ := h
  obtain ⟨M, rn, t, h7⟩ := id hI
  obtain ⟨hM12, hn98, ⟨hB, hK, hO, hE, hM⟩, ⟨e1, e2⟩, hms, hss, hap, ⟨hrn, e3, e4, hrw⟩, ht, e5, e6, htr⟩ := id h7
  dsimp only at hM12 hn98 hB hK hO hE hM e1 e2 hms hss hap hrn e3 e4 hrw ht e5 e6 htr h7
  have hB' := hB
  have hM' := hM
  unfold LayB at hB
  unfold LayM at hM
  unfold Two
  rcases pk_ix x (n := M) (by omega) with hx | hx | ⟨j, hj, rfl⟩
  · have hm : x < 0 ∨ nI M ≤ x := Or.inl hx
    simp [S67_0, S94_0, S94_1, S87_0, S53_0, S113_0, S110_0, S110_1, S111_0, S111_1, S104_0, at_no (n := n) (sl := sl) (L := L) hB' e1 hM12 hm, is_no (n := n) (sl := sl) (L := L) hM' e2 hm, Call_in, BS, ixs, inbs, hB, hM, hI, le_nlt]
  · have hm : x < 0 ∨ nI M ≤ x := Or.inr hx
    simp [S67_0, S94_0, S94_1, S87_0, S53_0, S113_0, S110_0, S110_1, S111_0, S111_1, S104_0, at_no (n := n) (sl := sl) (L := L) hB' e1 hM12 hm, is_no (n := n) (sl := sl) (L := L) hM' e2 hm, Call_in, BS, ixs, inbs, hB, hM, hI, le_nlt]
  · obtain ⟨q, s, hq⟩ := hms j hj
    obtain ⟨a1, a2, a3, a4, ⟨a5, hs3, a6, a7⟩, ⟨a8, a9⟩, ⟨r3, r4, r5, r6⟩, ⟨c1, c2, c3, c4, z1, z2, z3, z4⟩, ma, mbb, mcc, ⟨md, mdb⟩, za, zb⟩ := id hq
    have j0 : inb (nI j) 12 = true := by rw [inb_nI (by omega)]; simp; omega
    have jx := ix_nI (show j < 2 ^ 31 by omega)
    have hq0 : ¬ q = 0 := by omega
    rcases in4 tb with t0 | t0 | t0 | t0 | t0 | t0
    · simp [S67_0, S94_0, S94_1, S87_0, S53_0, S113_0, S110_0, S110_1, S111_0, S111_1, S104_0, at_yes (n := n) (sl := sl) (L := L) hB' e1 hM12 hj, is_yes (n := n) (sl := sl) (L := L) hM' e2 hM12 hj, Call_in, BS, ixs, inbs, hB, hM, hI, le_nlt, a1, hq0, t0]
    · have t1 : ¬ tb < 0 := by rw [Int32.lt_iff_toInt_lt] at *; have q0 : (0 : Int32).toInt = 0 := rfl; have q3 : (3 : Int32).toInt = 3 := rfl; omega
      simp [S67_0, S94_0, S94_1, S87_0, S53_0, S113_0, S110_0, S110_1, S111_0, S111_1, S104_0, at_yes (n := n) (sl := sl) (L := L) hB' e1 hM12 hj, is_yes (n := n) (sl := sl) (L := L) hM' e2 hM12 hj, Call_in, BS, ixs, inbs, hB, hM, hI, le_nlt, a1, hq0, t0, t1]
    · subst t0
      rcases pk_ix i (n := s) (by omega) with hi | hi | ⟨a, ha, rfl⟩
      · rcases a4 with ⟨b1, b2⟩ | ⟨b1, b2⟩ | ⟨b1, b2⟩ | ⟨b1, b2⟩ <;> simp [S67_0, S94_0, S94_1, S87_0, S53_0, S113_0, S110_0, S110_1, S111_0, S111_1, S104_0, at_yes (n := n) (sl := sl) (L := L) hB' e1 hM12 hj, is_yes (n := n) (sl := sl) (L := L) hM' e2 hM12 hj, Call_in, BS, ixs, inbs, hB, hM, hI, le_nlt, a1, b1, b2, a6, a7, j0, jx, hq0, inGs, r3, r4, r5, r6, c1, c2, c3, c4, z1, z2, z3, z4, mul3, mul9, nI_add, hi]
      · rcases out_s (s := s) (by omega) (Or.inr hi) with h1 | ⟨h1, h2, h3⟩
        · rcases a4 with ⟨b1, b2⟩ | ⟨b1, b2⟩ | ⟨b1, b2⟩ | ⟨b1, b2⟩ <;> simp [S67_0, S94_0, S94_1, S87_0, S53_0, S113_0, S110_0, S110_1, S111_0, S111_1, S104_0, at_yes (n := n) (sl := sl) (L := L) hB' e1 hM12 hj, is_yes (n := n) (sl := sl) (L := L) hM' e2 hM12 hj, Call_in, BS, ixs, inbs, hB, hM, hI, le_nlt, a1, b1, b2, a6, a7, j0, jx, hq0, inGs, r3, r4, r5, r6, c1, c2, c3, c4, z1, z2, z3, z4, mul3, mul9, nI_add, h1]
        · rcases a4 with ⟨b1, b2⟩ | ⟨b1, b2⟩ | ⟨b1, b2⟩ | ⟨b1, b2⟩ <;> simp [S67_0, S94_0, S94_1, S87_0, S53_0, S113_0, S110_0, S110_1, S111_0, S111_1, S104_0, at_yes (n := n) (sl := sl) (L := L) hB' e1 hM12 hj, is_yes (n := n) (sl := sl) (L := L) hM' e2 hM12 hj, Call_in, BS, ixs, inbs, hB, hM, hI, le_nlt, a1, b1, b2, a6, a7, j0, jx, hq0, inGs, r3, r4, r5, r6, c1, c2, c3, c4, z1, z2, z3, z4, mul3, mul9, nI_add, h1, h2, h3]
      · obtain ⟨g1, g2, g3, g4, g5⟩ := in_s (s := s) (by omega) ha
        rcases pk_ix k (n := s) (by omega) with hk | hk | ⟨b, hb, rfl⟩
        · rcases a4 with ⟨b1, b2⟩ | ⟨b1, b2⟩ | ⟨b1, b2⟩ | ⟨b1, b2⟩ <;> simp [S67_0, S94_0, S94_1, S87_0, S53_0, S113_0, S110_0, S110_1, S111_0, S111_1, S104_0, at_yes (n := n) (sl := sl) (L := L) hB' e1 hM12 hj, is_yes (n := n) (sl := sl) (L := L) hM' e2 hM12 hj, Call_in, BS, ixs, inbs, hB, hM, hI, le_nlt, a1, b1, b2, a6, a7, j0, jx, hq0, inGs, r3, r4, r5, r6, c1, c2, c3, c4, z1, z2, z3, z4, mul3, mul9, nI_add, g1, g2, g3, g4, hk]
        · rcases out_s (s := s) (by omega) (Or.inr hk) with h1 | ⟨h1, h2, h3⟩
          · rcases a4 with ⟨b1, b2⟩ | ⟨b1, b2⟩ | ⟨b1, b2⟩ | ⟨b1, b2⟩ <;> simp [S67_0, S94_0, S94_1, S87_0, S53_0, S113_0, S110_0, S110_1, S111_0, S111_1, S104_0, at_yes (n := n) (sl := sl) (L := L) hB' e1 hM12 hj, is_yes (n := n) (sl := sl) (L := L) hM' e2 hM12 hj, Call_in, BS, ixs, inbs, hB, hM, hI, le_nlt, a1, b1, b2, a6, a7, j0, jx, hq0, inGs, r3, r4, r5, r6, c1, c2, c3, c4, z1, z2, z3, z4, mul3, mul9, nI_add, g1, g2, g3, g4, h1]
          · rcases a4 with ⟨b1, b2⟩ | ⟨b1, b2⟩ | ⟨b1, b2⟩ | ⟨b1, b2⟩ <;> simp [S67_0, S94_0, S94_1, S87_0, S53_0, S113_0, S110_0, S110_1, S111_0, S111_1, S104_0, at_yes (n := n) (sl := sl) (L := L) hB' e1 hM12 hj, is_yes (n := n) (sl := sl) (L := L) hM' e2 hM12 hj, Call_in, BS, ixs, inbs, hB, hM, hI, le_nlt, a1, b1, b2, a6, a7, j0, jx, hq0, inGs, r3, r4, r5, r6, c1, c2, c3, c4, z1, z2, z3, z4, mul3, mul9, nI_add, g1, g2, g3, g4, h1, h2, h3]
        · obtain ⟨f1, f2, f3, f4, f5⟩ := in_s (s := s) (by omega) hb
          have v1 : inb (nI (3 * a + b)) 9 = true := by rw [inb_nI (by omega)]; simp; omega
          have v2 := ix_nI (show 3 * a + b < 2 ^ 31 by omega)
          have v3 : inb (nI (9 * j + 3 * a + b)) 108 = true := by rw [inb_nI (by omega)]; simp; omega
          have v4 := ix_nI (show 9 * j + 3 * a + b < 2 ^ 31 by omega)
          have v5 : I 79 (9 * j + 3 * a + b) = I (q + 1) (3 * a + b) := by rw [Nat.add_assoc]; exact (ma (3 * a + b) (by omega)).1
          have v6 : ¬ nI (3 * a + b) < 0 := nI_nneg (by omega)
          rcases a4 with ⟨b1, b2⟩ | ⟨b1, b2⟩ | ⟨b1, b2⟩ | ⟨b1, b2⟩ <;> simp [S67_0, S94_0, S94_1, S87_0, S53_0, S113_0, S110_0, S110_1, S111_0, S111_1, S104_0, at_yes (n := n) (sl := sl) (L := L) hB' e1 hM12 hj, is_yes (n := n) (sl := sl) (L := L) hM' e2 hM12 hj, Call_in, BS, ixs, inbs, hB, hM, hI, le_nlt, a1, b1, b2, a6, a7, j0, jx, hq0, inGs, r3, r4, r5, r6, c1, c2, c3, c4, z1, z2, z3, z4, mul3, mul9, nI_add, g1, g2, g3, g4, f1, f2, f3, f4, v1, v2, v3, v4, v5, v6]
    · subst t0
      rcases pk_ix i (n := s) (by omega) with hi | hi | ⟨a, ha, rfl⟩
      · rcases a4 with ⟨b1, b2⟩ | ⟨b1, b2⟩ | ⟨b1, b2⟩ | ⟨b1, b2⟩ <;> simp [S67_0, S94_0, S94_1, S87_0, S53_0, S113_0, S110_0, S110_1, S111_0, S111_1, S104_0, at_yes (n := n) (sl := sl) (L := L) hB' e1 hM12 hj, is_yes (n := n) (sl := sl) (L := L) hM' e2 hM12 hj, Call_in, BS, ixs, inbs, hB, hM, hI, le_nlt, a1, b1, b2, a6, a7, j0, jx, hq0, inGs, r3, r4, r5, r6, c1, c2, c3, c4, z1, z2, z3, z4, mul3, mul9, nI_add, hi]
      · rcases out_s (s := s) (by omega) (Or.inr hi) with h1 | ⟨h1, h2, h3⟩
        · rcases a4 with ⟨b1, b2⟩ | ⟨b1, b2⟩ | ⟨b1, b2⟩ | ⟨b1, b2⟩ <;> simp [S67_0, S94_0, S94_1, S87_0, S53_0, S113_0, S110_0, S110_1, S111_0, S111_1, S104_0, at_yes (n := n) (sl := sl) (L := L) hB' e1 hM12 hj, is_yes (n := n) (sl := sl) (L := L) hM' e2 hM12 hj, Call_in, BS, ixs, inbs, hB, hM, hI, le_nlt, a1, b1, b2, a6, a7, j0, jx, hq0, inGs, r3, r4, r5, r6, c1, c2, c3, c4, z1, z2, z3, z4, mul3, mul9, nI_add, h1]
        · rcases a4 with ⟨b1, b2⟩ | ⟨b1, b2⟩ | ⟨b1, b2⟩ | ⟨b1, b2⟩ <;> simp [S67_0, S94_0, S94_1, S87_0, S53_0, S113_0, S110_0, S110_1, S111_0, S111_1, S104_0, at_yes (n := n) (sl := sl) (L := L) hB' e1 hM12 hj, is_yes (n := n) (sl := sl) (L := L) hM' e2 hM12 hj, Call_in, BS, ixs, inbs, hB, hM, hI, le_nlt, a1, b1, b2, a6, a7, j0, jx, hq0, inGs, r3, r4, r5, r6, c1, c2, c3, c4, z1, z2, z3, z4, mul3, mul9, nI_add, h1, h2, h3]
      · obtain ⟨g1, g2, g3, g4, g5⟩ := in_s (s := s) (by omega) ha
        have v1 : inb (nI a) 3 = true := by rw [inb_nI (by omega)]; simp; omega
        have v2 := ix_nI (show a < 2 ^ 31 by omega)
        have v3 : inb (nI (3 * j + a)) 36 = true := by rw [inb_nI (by omega)]; simp; omega
        have v4 := ix_nI (show 3 * j + a < 2 ^ 31 by omega)
        have v5 := (mbb a (by omega)).1
        rcases a4 with ⟨b1, b2⟩ | ⟨b1, b2⟩ | ⟨b1, b2⟩ | ⟨b1, b2⟩ <;> simp [S67_0, S94_0, S94_1, S87_0, S53_0, S113_0, S110_0, S110_1, S111_0, S111_1, S104_0, at_yes (n := n) (sl := sl) (L := L) hB' e1 hM12 hj, is_yes (n := n) (sl := sl) (L := L) hM' e2 hM12 hj, Call_in, BS, ixs, inbs, hB, hM, hI, le_nlt, a1, b1, b2, a6, a7, j0, jx, hq0, inGs, r3, r4, r5, r6, c1, c2, c3, c4, z1, z2, z3, z4, mul3, mul9, nI_add, g1, g2, g3, g4, v1, v2, v3, v4, v5]
    · subst t0
      rcases pk_ix i (n := s) (by omega) with hi | hi | ⟨a, ha, rfl⟩
      · rcases a4 with ⟨b1, b2⟩ | ⟨b1, b2⟩ | ⟨b1, b2⟩ | ⟨b1, b2⟩ <;> simp [S67_0, S94_0, S94_1, S87_0, S53_0, S113_0, S110_0, S110_1, S111_0, S111_1, S104_0, at_yes (n := n) (sl := sl) (L := L) hB' e1 hM12 hj, is_yes (n := n) (sl := sl) (L := L) hM' e2 hM12 hj, Call_in, BS, ixs, inbs, hB, hM, hI, le_nlt, a1, b1, b2, a6, a7, j0, jx, hq0, inGs, r3, r4, r5, r6, c1, c2, c3, c4, z1, z2, z3, z4, mul3, mul9, nI_add, hi]
      · rcases out_s (s := s) (by omega) (Or.inr hi) with h1 | ⟨h1, h2, h3⟩
        · rcases a4 with ⟨b1, b2⟩ | ⟨b1, b2⟩ | ⟨b1, b2⟩ | ⟨b1, b2⟩ <;> simp [S67_0, S94_0, S94_1, S87_0, S53_0, S113_0, S110_0, S110_1, S111_0, S111_1, S104_0, at_yes (n := n) (sl := sl) (L := L) hB' e1 hM12 hj, is_yes (n := n) (sl := sl) (L := L) hM' e2 hM12 hj, Call_in, BS, ixs, inbs, hB, hM, hI, le_nlt, a1, b1, b2, a6, a7, j0, jx, hq0, inGs, r3, r4, r5, r6, c1, c2, c3, c4, z1, z2, z3, z4, mul3, mul9, nI_add, h1]
        · rcases a4 with ⟨b1, b2⟩ | ⟨b1, b2⟩ | ⟨b1, b2⟩ | ⟨b1, b2⟩ <;> simp [S67_0, S94_0, S94_1, S87_0, S53_0, S113_0, S110_0, S110_1, S111_0, S111_1, S104_0, at_yes (n := n) (sl := sl) (L := L) hB' e1 hM12 hj, is_yes (n := n) (sl := sl) (L := L) hM' e2 hM12 hj, Call_in, BS, ixs, inbs, hB, hM, hI, le_nlt, a1, b1, b2, a6, a7, j0, jx, hq0, inGs, r3, r4, r5, r6, c1, c2, c3, c4, z1, z2, z3, z4, mul3, mul9, nI_add, h1, h2, h3]
      · obtain ⟨g1, g2, g3, g4, g5⟩ := in_s (s := s) (by omega) ha
        have v1 : inb (nI a) 3 = true := by rw [inb_nI (by omega)]; simp; omega
        have v2 := ix_nI (show a < 2 ^ 31 by omega)
        have v3 : inb (nI (3 * j + a)) 36 = true := by rw [inb_nI (by omega)]; simp; omega
        have v4 := ix_nI (show 3 * j + a < 2 ^ 31 by omega)
        have v5 := (mcc a (by omega)).1
        rcases a4 with ⟨b1, b2⟩ | ⟨b1, b2⟩ | ⟨b1, b2⟩ | ⟨b1, b2⟩ <;> simp [S67_0, S94_0, S94_1, S87_0, S53_0, S113_0, S110_0, S110_1, S111_0, S111_1, S104_0, at_yes (n := n) (sl := sl) (L := L) hB' e1 hM12 hj, is_yes (n := n) (sl := sl) (L := L) hM' e2 hM12 hj, Call_in, BS, ixs, inbs, hB, hM, hI, le_nlt, a1, b1, b2, a6, a7, j0, jx, hq0, inGs, r3, r4, r5, r6, c1, c2, c3, c4, z1, z2, z3, z4, mul3, mul9, nI_add, g1, g2, g3, g4, v1, v2, v3, v4, v5]
    · subst t0
      rcases a4 with ⟨b1, b2⟩ | ⟨b1, b2⟩ | ⟨b1, b2⟩ | ⟨b1, b2⟩ <;> simp [S67_0, S94_0, S94_1, S87_0, S53_0, S113_0, S110_0, S110_1, S111_0, S111_1, S104_0, at_yes (n := n) (sl := sl) (L := L) hB' e1 hM12 hj, is_yes (n := n) (sl := sl) (L := L) hM' e2 hM12 hj, Call_in, BS, ixs, inbs, hB, hM, hI, le_nlt, a1, b1, b2, a6, a7, j0, jx, hq0, inGs, r3, r4, r5, r6, c1, c2, c3, c4, z1, z2, z3, z4, mul3, mul9, nI_add, md]

