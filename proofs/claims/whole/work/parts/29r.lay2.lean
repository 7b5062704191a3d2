set_option maxRecDepth 100000 in
set_option maxHeartbeats 8000000 in
/-- lay(machine, sheet, sort, i) -/
theorem two_lay (h : Hp) (hI : Inv h) (x y so i : Int32) : Two 84 164 [some (.ref 1), some (.int x), some (.int y), some (.int so), some (.int i), none, none, none, none] [some (.ref 74), some (.int x), some (.int y), some (.int so), some (.int i), none, none, none, none] h := by
  obtain ⟨n, sl, C, Z, I, L, R⟩ := h
  obtain ⟨M, rn, t, h7⟩ := id hI
  obtain ⟨hM12, hn98, ⟨hB, hK, hO, hE, hM⟩, ⟨e1, e2⟩, hms, hss, hap, ⟨hrn, e3, e4, hrw⟩, ht, e5, e6, htr⟩ := id h7
  dsimp only at hM12 hn98 hB hK hO hE hM e1 e2 hms hss hap hrn e3 e4 hrw ht e5 e6 htr h7
  have hB' := hB
  have hM' := hM
  unfold LayB at hB
  unfold LayM at hM
  unfold Two
  rcases pk_ix x (n := M) (by omega) with hx | hx | ⟨j, hj, rfl⟩
  · have hm : x < 0 ∨ nI M ≤ x := Or.inl hx
    simp [S84_0, S84_1, S84_2, S84_3, S84_4, S90_0, S87_0, S50_0, S164_0, S164_1, S164_2, S164_3, S164_4, S164_5, S161_0, at_noG hB' hM12 hm, is_noG hM' hm, Call_in, BS, ixs, inbs, le_nlt, hB, hM, hI, e1, e2]
  · have hm : x < 0 ∨ nI M ≤ x := Or.inr hx
    simp [S84_0, S84_1, S84_2, S84_3, S84_4, S90_0, S87_0, S50_0, S164_0, S164_1, S164_2, S164_3, S164_4, S164_5, S161_0, at_noG hB' hM12 hm, is_noG hM' hm, Call_in, BS, ixs, inbs, le_nlt, hB, hM, hI, e1, e2]
  · obtain ⟨q, s, hq⟩ := hms j hj
    obtain ⟨a1, a2, a3, a4, ⟨a5, hs3, a6, a7⟩, ⟨a8, a9⟩, ⟨r3, r4, r5, r6⟩, ⟨c1, c2, c3, c4, z1, z2, z3, z4⟩, ma, mbb, mcc, ⟨md, mdb⟩, za, zb⟩ := id hq
    have hq0 : ¬ q = 0 := by omega
    have j0 : inb (nI j) 12 = true := by rw [inb_nI (by omega)]; simp; omega
    have jx := ix_nI (show j < 2 ^ 31 by omega)
    have kin : inG 7 (C q) = true := by rcases a4 with ⟨b, -⟩ | ⟨b, -⟩ | ⟨b, -⟩ | ⟨b, -⟩ <;> rw [b] <;> decide
    rcases pk_ix y (n := 4) (by omega) with hy | hy | ⟨sh, hsh, rfl⟩
    · simp [S84_0, S84_1, S84_2, S84_3, S84_4, S90_0, S87_0, S50_0, S164_0, S164_1, S164_2, S164_3, S164_4, S164_5, S161_0, at_yesG hB' hM12 hj, is_yesG hM' hM12 hj, e1, e2, Call_in, BS, ixs, inbs, le_nlt, hB, hM, hI, a1, hq0, hy]
    · have x0 : ¬ y < 0 := by intro q; rw [Int32.le_iff_toInt_le] at hy; rw [Int32.lt_iff_toInt_lt] at q; have q0 : (0 : Int32).toInt = 0 := rfl; rw [nI_toInt (by omega)] at hy; omega
      have x3 : (3 : Int32) < y := by rw [Int32.le_iff_toInt_le] at hy; rw [Int32.lt_iff_toInt_lt]; have q0 : (3 : Int32).toInt = 3 := rfl; rw [nI_toInt (by omega)] at hy; omega
      have x4 : ¬ y < 4 := by rw [Int32.le_iff_toInt_le] at hy; rw [Int32.lt_iff_toInt_lt]; have q0 : (4 : Int32).toInt = 4 := rfl; rw [nI_toInt (by omega)] at hy; omega
      simp [S84_0, S84_1, S84_2, S84_3, S84_4, S90_0, S87_0, S50_0, S164_0, S164_1, S164_2, S164_3, S164_4, S164_5, S161_0, at_yesG hB' hM12 hj, is_yesG hM' hM12 hj, e1, e2, Call_in, BS, ixs, inbs, le_nlt, hB, hM, hI, a1, hq0, x0, x3, x4]
    have g0 : ¬ nI sh < 0 := nI_nneg (by omega)
    have g3 : ¬ (3 : Int32) < nI sh := nI_nlt (b := sh) (a := 3) (by omega) (by omega)
    have g4 : nI sh < 4 := nI_lt (b := 4) (by omega) (by omega)
    have gi : inb (nI sh) 4 = true := by rw [inb_nI (by omega)]; simp; omega
    have gx := ix_nI (show sh < 2 ^ 31 by omega)
    by_cases t1 : so < 0
    · simp [S84_0, S84_1, S84_2, S84_3, S84_4, S90_0, S87_0, S50_0, S164_0, S164_1, S164_2, S164_3, S164_4, S164_5, S161_0, at_yesG hB' hM12 hj, is_yesG hM' hM12 hj, e1, e2, Call_in, BS, ixs, inbs, le_nlt, hB, hM, hI, a1, hq0, g0, g3, g4, gi, gx, t1]
    by_cases t2 : (2 : Int32) < so
    · simp [S84_0, S84_1, S84_2, S84_3, S84_4, S90_0, S87_0, S50_0, S164_0, S164_1, S164_2, S164_3, S164_4, S164_5, S161_0, at_yesG hB' hM12 hj, is_yesG hM' hM12 hj, e1, e2, Call_in, BS, ixs, inbs, le_nlt, hB, hM, hI, a1, hq0, g0, g3, g4, gi, gx, t1, t2]
    have kk : (isa (C q) 4 = true ∧ (1 : Int32) < I 75 j) ∨ (isa (C q) 4 = false ∧ ¬ (1 : Int32) < I 75 j ∧ (I 75 j = 0 ∨ I 75 j = 1)) := by
      rcases a4 with ⟨b, c⟩ | ⟨b, c⟩ | ⟨b, c, -⟩ | ⟨b, c, -⟩ <;> rw [b, c] <;> decide
    rcases kk with ⟨u1, u2⟩ | ⟨u1, u2, u3⟩
    · simp [S84_0, S84_1, S84_2, S84_3, S84_4, S90_0, S87_0, S50_0, S164_0, S164_1, S164_2, S164_3, S164_4, S164_5, S161_0, at_yesG hB' hM12 hj, is_yesG hM' hM12 hj, e1, e2, Call_in, BS, ixs, inbs, le_nlt, hB, hM, hI, a1, hq0, j0, jx, inGs, isas, a6, a7, kin, g0, g3, g4, gi, gx, t1, t2, u1, u2]
    rcases hss sh hsh with ⟨d1, d2⟩ | ⟨qs, z, d1, d2, d3, d4, d5, d6, d7, d8, d9, d10, d11, d12⟩
    · simp [S84_0, S84_1, S84_2, S84_3, S84_4, S90_0, S87_0, S50_0, S164_0, S164_1, S164_2, S164_3, S164_4, S164_5, S161_0, at_yesG hB' hM12 hj, is_yesG hM' hM12 hj, e1, e2, Call_in, BS, ixs, inbs, le_nlt, hB, hM, hI, a1, hq0, j0, jx, inGs, isas, a6, a7, kin, g0, g3, g4, gi, gx, t1, t2, u1, u2, d1, d2]
    have qd0 : ¬ qs = 0 := by omega
    have on : Int32.ofNat z = nI z := rfl
    have nn : ¬ I 87 sh < 0 := by rcases d10 with e | e | e <;> rw [e] <;> decide
    by_cases es : ¬ I 87 sh = so
    · simp [S84_0, S84_1, S84_2, S84_3, S84_4, S90_0, S87_0, S50_0, S164_0, S164_1, S164_2, S164_3, S164_4, S164_5, S161_0, at_yesG hB' hM12 hj, is_yesG hM' hM12 hj, e1, e2, Call_in, BS, ixs, inbs, le_nlt, hB, hM, hI, a1, hq0, j0, jx, inGs, isas, a6, a7, kin, g0, g3, g4, gi, gx, t1, t2, u1, u2, d1, d4, d5, d6, d7, d9, d11, qd0, on, nn, lg_gt, lg_lt, lg_le, lg_ge, es]
    replace es := Classical.not_not.mp es
    have nnso : ¬ so < 0 := t1
    by_cases s0 : s = 0
    · subst s0
      have n0 : nI 0 = 0 := rfl
      simp [S84_0, S84_1, S84_2, S84_3, S84_4, S90_0, S87_0, S50_0, S164_0, S164_1, S164_2, S164_3, S164_4, S164_5, S161_0, at_yesG hB' hM12 hj, is_yesG hM' hM12 hj, e1, e2, Call_in, BS, ixs, inbs, le_nlt, hB, hM, hI, a1, hq0, j0, jx, inGs, isas, a6, a7, kin, g0, g3, g4, gi, gx, t1, t2, u1, u2, d1, d4, d5, d6, d7, d9, d11, qd0, on, nn, lg_gt, lg_lt, lg_le, lg_ge, es, n0]
    have ss : nI s * nI s = nI (s * s) := pk_mul s s
    have s9 : 1 ≤ s * s ∧ s * s ≤ 9 := by rcases (by omega : s = 1 ∨ s = 2 ∨ s = 3) with rfl | rfl | rfl <;> decide
    obtain ⟨N, hN⟩ : ∃ N, N = s * s := ⟨_, rfl⟩
    rw [← hN] at ss s9
    have sn : ¬ nI s = 0 := nI_ne0 (by omega) (by omega)
    have Nn : ¬ nI N = 0 := nI_ne0 (by omega) (by omega)
    have Np : ¬ nI N < 0 := nI_nneg (by omega)
    by_cases i0 : i < 0
    · simp [S84_0, S84_1, S84_2, S84_3, S84_4, S90_0, S87_0, S50_0, S164_0, S164_1, S164_2, S164_3, S164_4, S164_5, S161_0, at_yesG hB' hM12 hj, is_yesG hM' hM12 hj, e1, e2, Call_in, BS, ixs, inbs, le_nlt, hB, hM, hI, a1, hq0, j0, jx, inGs, isas, a6, a7, kin, g0, g3, g4, gi, gx, t1, t2, u1, u2, d1, d4, d5, d6, d7, d9, d11, qd0, on, nn, lg_gt, lg_lt, lg_le, lg_ge, es, ss, sn, Nn, Np, i0]
    obtain ⟨a, ha, rfl⟩ := nI_of i0
    have v1 := has_iff (z := z) (m := N) ha (by omega) d8
    have v2 := size_iff (z := z) (m := N) ha (by omega) d8
    by_cases h1 : z < a + N
    · simp [S84_0, S84_1, S84_2, S84_3, S84_4, S90_0, S87_0, S50_0, S164_0, S164_1, S164_2, S164_3, S164_4, S164_5, S161_0, at_yesG hB' hM12 hj, is_yesG hM' hM12 hj, e1, e2, Call_in, BS, ixs, inbs, le_nlt, hB, hM, hI, a1, hq0, j0, jx, inGs, isas, a6, a7, kin, g0, g3, g4, gi, gx, t1, t2, u1, u2, d1, d4, d5, d6, d7, d9, d11, qd0, on, nn, lg_gt, lg_lt, lg_le, lg_ge, es, ss, sn, Nn, Np, i0, v1, v2, h1]
    simp [S84_0, S84_1, S84_2, S84_3, S84_4, S90_0, S87_0, S50_0, at_yesG hB' hM12 hj, e1, Call_in, BS, ixs, inbs, hB, a1, hq0, j0, jx, inGs, isas, a6, a7, kin, g0, g3, g4, gi, gx, t1, t2, u1, u2, d1, d4, d5, d6, d7, d9, d11, qd0, on, nn, lg_gt, lg_lt, lg_le, lg_ge, es, ss, sn, Nn, Np, i0, v1, h1, nI_add]
    have c161 : ∀ (ls : Lo) (h : Hp) (Q : Option Value → Hp → Prop), Wp 84 161 ls [] h Q ↔ Wp 84 162 ls [.int 0] h Q := fun ls h Q => by simp [S84_0, S84_1, S84_2, S84_3, S84_4]
    have m172 : ∀ (ls : Lo) (h : Hp) (Q : Option Value → Hp → Prop), Wp 164 172 ls [] h Q ↔ Wp 164 173 ls [.int 0] h Q := fun ls h Q => by simp [S164_0, S164_1, S164_2, S164_3, S164_4, S164_5]
    have hM74 : C 74 = 11 ∧ C 89 = 22 ∧ Z 89 = 160 ∧ R 74 17 = 89 := by simp [hM]
    have dd : ∀ p, p < N → L 89 (40 * sh + a + p) = L (qs + 1) (a + p) := fun p hp => by rw [d12 (a + p) (by omega), Nat.add_assoc]
    have run : ∀ (I1 : Nat → Nat → Int32) (Q : Option Value → Hp → Prop), (∀ x, x ≠ q + 1 → I1 x = I x) → (∀ l6 l7, (∀ p, p < N → ok3 (L 89 (40 * sh + a + p))) → Wp 164 173 [some (.ref 74), some (.int (nI j)), some (.int (nI sh)), some (.int so), some (.int (nI a)), some (.int (nI N)), l6, l7, none] [.int 0] (n, sl, C, Z, I1, L, R) Q) → ((∃ p, p < N ∧ ¬ ok3 (L 89 (40 * sh + a + p))) → Q (some (.int (-2))) (n, sl, C, Z, I1, L, R)) → Wp 164 0 [some (.ref 74), some (.int (nI j)), some (.int (nI sh)), some (.int so), some (.int (nI a)), none, none, none, none] [] (n, sl, C, Z, I1, L, R) Q := by
      intro I1 Q w good bad
      have k0 := lay_m (q := 0) (qs := 0) (z := 0) (n := n) (sl := sl) (I := I1) (L := L) (R := R) (Z := Z) (C := C) (Q := Q) (j := j) (so := so) (a := a) (N := N) hsh hM74.1 hM74.2.1 hM74.2.2.1 hM74.2.2.2 (by omega) N 0 none (by omega) (fun l7 ok => by rw [m172]; exact good _ _ (fun p hp => ok p (by omega) hp)) bad
      rw [nI_0] at k0
      have w74 := w 74 (by omega)
      have w75 := w 75 (by omega)
      have w76 := w 76 (by omega)
      have w87 := w 87 (by omega)
      have w88 := w 88 (by omega)
      have h1' : ¬ nI z - nI N < nI a := by rw [v2]; exact h1
      have t2' : so ≤ 2 := Int32.not_lt.mp t2
      have t1' : 0 ≤ so := Int32.not_lt.mp t1
      have u2' : I 75 j ≤ 1 := Int32.not_lt.mp u2
      have g4' : ¬ (4 : Int32) ≤ nI sh := Int32.not_le.mpr g4
      have h1'' : nI a ≤ nI z - nI N := Int32.not_lt.mp h1'
      simp [S164_0, S164_1, S164_2, S164_3, S164_4, S164_5, S161_0, is_yesG hM' hM12 hj, Call_in, BS, ixs, inbs, hM, w74, w75, w76, w87, w88, e2, a1, hq0, j0, jx, inGs, isas, a6, a7, kin, g0, g3, g4, gi, gx, t1, t2, t1', t2', u2, u2', d11, nn, es, ss, Nn, i0, h1', h1'', g4']
      exact k0
    refine lay_c d4 d5 d6 d7 d8 (by omega) N 0 (by omega) (fun ok => ?_) (fun bad => ?_)
    · rw [c161, lay_cw (s := s) (by omega) hs3 hN d4 d5 d6 d7 d8 (by omega) kin r3 c1 z1 a6]
      have w1 : ∀ x, x ≠ q + 1 → lw I (q + 1) 0 s (fun i => (L (qs + 1) (a + i)).toInt32) N x = I x := fun x hx => by
        funext p
        simp only [lw]
        rw [if_neg (fun h => hx h.1)]
      refine run _ _ w1 (fun l6 l7 ok2 => ?_) (fun hb => ?_)
      · rw [lay_mw (q := 0) (qs := 0) (z := 0) (s := s) (by omega) hs3 hN (by omega) hsh hM' (by omega) (by rw [w1 76 (by omega)]; exact a7)]
        refine ⟨rfl, Inv_mk (h7.upd hj hq (fun i y1 y2 y3 y4 y5 y6 y7 y8 => ?_) (fun j' hne => ?_) (fun j' i hne hi => ?_) (fun j' i hne hi => ?_) (fun j' i hne hi => ?_) (hq.lay u3 (fun i y1 y2 => ?_) (fun p hp => ?_) (fun i k hi hk hz => ?_))), Nat.le_add_right _ _, Nat.le_add_right _ _⟩
        · funext p
          simp only [lw]
          rw [if_neg (by omega), if_neg (by omega)]
        · simp only [lw]
          rw [if_neg (by omega), if_neg (by omega)]
        · simp only [lw]
          rw [if_neg (by omega), if_neg (by omega)]
        · simp only [lw]
          rw [if_neg (by omega), if_neg (by omega)]
        · simp only [lw]
          rw [if_neg (by omega), if_neg (by omega)]
        · funext p
          simp only [lw]
          rw [if_neg (by omega), if_neg (by omega)]
        · have mp := ma p hp
          rw [mb01 u3] at mp
          have g1 : ∀ x, x < N → (L 89 (40 * sh + a + x)).toInt32 = (L (qs + 1) (a + x)).toInt32 ∧ bnd 3 (L (qs + 1) (a + x)).toInt32 := fun x hx => ⟨by rw [dd x hx], ok3_bnd (ok x (by omega) hx)⟩
          simp only [lw]
          by_cases c : p / 3 < s ∧ p % 3 < s
          · have cl : s * (p / 3) + p % 3 < N := by rcases (by omega : s = 1 ∨ s = 2 ∨ s = 3) with e | e | e <;> subst e <;> omega
            rw [if_pos ⟨trivial, by omega, by omega, by rw [Nat.add_sub_cancel_left]; exact c.1, by rw [Nat.add_sub_cancel_left]; exact c.2, by rw [Nat.add_sub_cancel_left]; exact cl⟩, if_neg (by omega), if_pos ⟨trivial, by omega, by omega, by rw [Nat.sub_zero]; exact c.1, by rw [Nat.sub_zero]; exact c.2, by rw [Nat.sub_zero]; exact cl⟩, Nat.add_sub_cancel_left, Nat.sub_zero]
            exact g1 _ cl
          · rw [if_neg (fun h => c ⟨by have := h.2.2.2.1; rwa [Nat.add_sub_cancel_left] at this, by have := h.2.2.2.2.1; rwa [Nat.add_sub_cancel_left] at this⟩), if_neg (by omega), if_neg (by omega), if_neg (fun h => c ⟨by have := h.2.2.2.1; rwa [Nat.sub_zero] at this, by have := h.2.2.2.2.1; rwa [Nat.sub_zero] at this⟩)]
            exact mp
        · simp only [lw]
          rw [if_neg (by omega), if_neg (by omega)]
          exact za i k hi hk hz
      · obtain ⟨p, hp, hf⟩ := hb
        rw [dd p hp] at hf
        exact absurd (ok p (by omega) hp) hf
    · refine run I _ (fun _ _ => rfl) (fun l6 l7 ok2 => ?_) (fun hb => ⟨rfl, hI, Nat.le_add_right _ _, Nat.le_add_right _ _⟩)
      obtain ⟨p, hp, hf⟩ := bad
      have := ok2 p hp
      rw [dd p hp] at this
      exact absurd this hf

