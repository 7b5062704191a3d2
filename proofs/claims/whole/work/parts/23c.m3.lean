theorem mul3 (a : Nat) : (3 : Int32) * nI a = nI (3 * a) := pk_mul 3 a
theorem Inv_mk {n sl : Nat} {C Z : Nat → Nat} {I : Nat → Nat → Int32} {L : Nat → Nat → Int64} {R : Nat → Nat → Nat} {M rn t : Nat} (h : Inv7 n C Z I L R M rn t) : Inv (n, sl, C, Z, I, L, R) := ⟨M, rn, t, h⟩
theorem mul9 (a : Nat) : (9 : Int32) * nI a = nI (9 * a) := pk_mul 9 a
theorem isas : isa 8 1 = false ∧ isa 2 1 = true ∧ isa 5 1 = false ∧ isa 6 1 = false ∧ isa 8 4 = false ∧ isa 2 4 = false ∧ isa 5 4 = true ∧ isa 6 4 = true ∧ isa 8 5 = false ∧ isa 2 5 = false ∧ isa 5 5 = false ∧ isa 6 5 = true := by decide
set_option maxHeartbeats 2000000 in
/-- taken(machine, k) -/
theorem two_taken (h : Hp) (hI : Inv h) (x k : Int32) : Two 86 166 [some (.ref 1), some (.int x), some (.int k), none] [some (.ref 74), some (.int x), some (.int k), none] h := by
  obtain ⟨n, sl, C, Z, I, L, R⟩ := h
  obtain ⟨M, rn, t, h7⟩ := id hI
  obtain ⟨hM12, hn98, ⟨hB, hK, hO, hE, hM⟩, ⟨e1, e2⟩, hms, hss, hap, ⟨hrn, e3, e4, hrw⟩, ht, e5, e6, htr⟩ := id h7
  dsimp only at hM12 hn98 hB hK hO hE hM e1 e2 hms hss hap hrn e3 e4 hrw ht e5 e6 htr h7
  have hB' := hB
  have hM' := hM
  unfold LayB at hB
  unfold LayM at hM
  unfold Two
  by_cases k0 : k < 0
  · simp [S86_0, S166_0, S166_1, S87_0, S93_0, Call_in, BS, ixs, inbs, hB, hM, hI, k0]
  by_cases k4 : (3 : Int32) < k
  · have k4' : ¬ k ≤ 3 := Int32.not_le.mpr k4
    simp [S86_0, S166_0, S166_1, S87_0, S93_0, Call_in, BS, ixs, inbs, hB, hM, hI, k0, k4, k4']
  have kk : k = 0 ∨ k = 1 ∨ k = 2 ∨ k = 3 := by
    rw [Int32.lt_iff_toInt_lt] at k0 k4
    have q0 : (0 : Int32).toInt = 0 := rfl
    have q3 : (3 : Int32).toInt = 3 := rfl
    rw [q0] at k0
    rw [q3] at k4
    have : k.toInt = 0 ∨ k.toInt = 1 ∨ k.toInt = 2 ∨ k.toInt = 3 := by omega
    rcases this with e | e | e | e
    · exact Or.inl (Int32.toInt_inj.mp e)
    · exact Or.inr (Or.inl (Int32.toInt_inj.mp e))
    · exact Or.inr (Or.inr (Or.inl (Int32.toInt_inj.mp e)))
    · exact Or.inr (Or.inr (Or.inr (Int32.toInt_inj.mp e)))
  rcases pk_ix x (n := M) (by omega) with hx | hx | ⟨j, hj, rfl⟩
  · have hm : x < 0 ∨ nI M ≤ x := Or.inl hx
    rcases kk with rfl | rfl | rfl | rfl <;> simp [S86_0, S166_0, S166_1, S87_0, S93_0, at_no (n := n) (sl := sl) (L := L) hB' e1 hM12 hm, is_no (n := n) (sl := sl) (L := L) hM' e2 hm, Call_in, BS, ixs, inbs, hB, hM, hI]
  · have hm : x < 0 ∨ nI M ≤ x := Or.inr hx
    rcases kk with rfl | rfl | rfl | rfl <;> simp [S86_0, S166_0, S166_1, S87_0, S93_0, at_no (n := n) (sl := sl) (L := L) hB' e1 hM12 hm, is_no (n := n) (sl := sl) (L := L) hM' e2 hm, Call_in, BS, ixs, inbs, hB, hM, hI]
  · obtain ⟨q, s, hq⟩ := hms j hj
    obtain ⟨a1, a2, a3, a4, ⟨a5, hs3, a6, a7⟩, ⟨a8, a9⟩, ⟨r3, r4, r5, r6⟩, ⟨c1, c2, c3, c4, z1, z2, z3, z4⟩, ma, mbb, mcc, ⟨md, mdb⟩, za, zb⟩ := id hq
    have j0 : inb (nI j) 12 = true := by rw [inb_nI (by omega)]; simp; omega
    have jx := ix_nI (show j < 2 ^ 31 by omega)
    have hq0 : ¬ q = 0 := by omega
    rcases kk with rfl | rfl | rfl | rfl <;> rcases a4 with ⟨b1, b2⟩ | ⟨b1, b2⟩ | ⟨b1, b2⟩ | ⟨b1, b2⟩ <;> simp [S86_0, S166_0, S166_1, S87_0, S93_0, at_yes (n := n) (sl := sl) (L := L) hB' e1 hM12 hj, is_yes (n := n) (sl := sl) (L := L) hM' e2 hM12 hj, Call_in, BS, ixs, inbs, hB, hM, hI, a1, b1, b2, a6, a7, j0, jx, hq0, inGs, isas]

set_option maxHeartbeats 2000000 in
/-- drop() -/
theorem two_drop (h : Hp) (hI : Inv h)  : Two 65 121 [some (.ref 1)] [some (.ref 74)] h := by
  obtain ⟨n, sl, C, Z, I, L, R⟩ := h
  obtain ⟨M, rn, t, h7⟩ := id hI
  obtain ⟨hM12, hn98, ⟨hB, hK, hO, hE, hM⟩, ⟨e1, e2⟩, hms, hss, hap, ⟨hrn, e3, e4, hrw⟩, ht, e5, e6, htr⟩ := id h7
  dsimp only at hM12 hn98 hB hK hO hE hM e1 e2 hms hss hap hrn e3 e4 hrw ht e5 e6 htr h7
  have hB' := hB
  have hM' := hM
  unfold LayB at hB
  unfold LayM at hM
  unfold Two
  cases M with
  | zero =>
    have z0 : nI 0 = 0 := nI_0
    rw [z0] at e1 e2
    simp [S65_0, S121_0, Call_in, BS, ixs, inbs, hB, hM, hI, e1, e2]
  | succ m =>
    have p1 : ¬ nI (m + 1) ≤ 0 := nI_nle (by omega) (by omega)
    have p0 : 0 < nI (m + 1) := nI_lt (a := 0) (by omega) (by omega)
    have p2 : ¬ nI (m + 1) = 0 := nI_ne0 (by omega) (by omega)
    have p3 : inb (nI m) 12 = true := by rw [inb_nI (by omega)]; simp; omega
    have p4 := ix_nI (show m < 2 ^ 31 by omega)
    simp [S65_0, S121_0, Call_in, BS, ixs, inbs, hB, hM, hI, e1, e2, p0, p1, p2, p3, p4, nI_pred, u2, va_up]
    have r2 : ∀ j, j < m → va_up R 2 (va_up (R 2) m 0) 2 j = R 2 j := fun j hj => by rw [va_up_at, va_up_no _ _ (by omega)]
    have ii : ∀ i, i ≠ 1 → i ≠ 74 → va_up (va_up I 1 (va_up (I 1) 1 (nI m))) 74 (va_up (I 74) 0 (nI m)) i = I i := fun i h1 h2 => by rw [va_up_no _ _ h2, va_up_no _ _ h1]
    have rr : ∀ i, i ≠ 2 → va_up R 2 (va_up (R 2) m 0) i = R i := fun i h1 => va_up_no _ _ h1
    refine Inv_mk (M := m) (rn := rn) (t := t) ⟨by omega, hn98, Lay.keep ⟨hB', hK, hO, hE, hM'⟩ (fun i k _ h2 _ _ _ => by rw [rr i h2]), ⟨by simp [va_up], by simp [va_up]⟩, fun j hj => ?_, fun s hs => ?_, ?_, ?_⟩
    · obtain ⟨q, s, hq⟩ := hms j (by omega)
      exact ⟨q, s, hq.keep (Nat.le_refl _) (fun _ _ _ => rfl) (fun _ _ _ => rfl) (fun i hi _ => ii i (by omega) (by omega)) ⟨⟨by rw [ii 75 (by omega) (by omega)], by rw [ii 76 (by omega) (by omega)], by rw [ii 77 (by omega) (by omega)], by rw [ii 78 (by omega) (by omega)]⟩, fun i _ => by rw [ii 79 (by omega) (by omega)], fun i _ => ⟨by rw [ii 80 (by omega) (by omega)], by rw [ii 81 (by omega) (by omega)]⟩⟩ (r2 j hj) (fun i hi _ => rr i (by omega))⟩
    · exact (hss s hs).keep (Nat.le_refl _) (fun _ _ _ => rfl) (fun _ _ _ => rfl) (fun i hi _ => ii i (by omega) (by omega)) (fun _ _ _ => rfl) ⟨by rw [ii 87 (by omega) (by omega)], by rw [ii 88 (by omega) (by omega)], fun _ _ => rfl⟩ (by rw [rr 7 (by omega)]) (fun i hi _ => rr i (by omega))
    · obtain ⟨g1, g2, g3⟩ := hap
      refine ⟨fun i j hi hj hne => ?_, fun s j hs hj => ?_, ?_⟩
      · rw [r2 i hi, r2 j hj]
        exact g1 i j (by omega) (by omega) hne
      · rw [r2 j hj, rr 7 (by omega)]
        exact g2 s j hs (by omega)
      · rw [rr 7 (by omega)]
        exact g3
    · unfold TOK
      rw [ii 5 (by omega) (by omega), ii 6 (by omega) (by omega), ii 91 (by omega) (by omega)]
      exact ⟨⟨hrn, by simp [va_up]; exact e3, by simp [va_up]; exact e4, hrw⟩, ht, e5, by simp [va_up]; exact e6, htr⟩

