theorem has_iff {a m z : Nat} (ha : a < 2 ^ 31) (hm : m < 2 ^ 31) (hz : z ≤ 40) : ((nI z).toInt64 < (nI a).toInt64 + (nI m).toInt64) ↔ z < a + m := by
  rw [Int64.lt_iff_toInt_lt, Int64.toInt_add, Int32.toInt_toInt64, Int32.toInt_toInt64, Int32.toInt_toInt64, nI_toInt (by omega), nI_toInt ha, nI_toInt hm, Int.bmod_eq_of_le (by omega) (by omega)]
  omega
theorem size_iff {a m z : Nat} (ha : a < 2 ^ 31) (hm : m < 2 ^ 31) (hz : z ≤ 40) : (nI z - nI m < nI a) ↔ z < a + m := by
  rw [Int32.lt_iff_toInt_lt, Int32.toInt_sub, nI_toInt (by omega), nI_toInt ha, nI_toInt hm, Int.bmod_eq_of_le (by omega) (by omega)]
  omega
/-- what copy leaves -/
theorem Inv7.cpy {n : Nat} {C Z : Nat → Nat} {I : Nat → Nat → Int32} {L : Nat → Nat → Int64} {R : Nat → Nat → Nat} {M rn t sh so q z q' z' a b m : Nat} (h7 : Inv7 n C Z I L R M rn t) (hsh : sh < 4) (hso : so < 4) (hq99 : 99 ≤ q) (hz : z ≤ 40) (hsv : ∀ i, i < z → L (q + 1) i = L 89 (40 * sh + i))
    (b1 : R 7 so = q') (b2 : 99 ≤ q') (b3 : q' + 1 ≤ n) (b4 : C q' = 7) (b5 : R q' 1 = q' + 1) (b6 : C (q' + 1) = 22) (b7 : Z (q' + 1) = z') (b8 : z' ≤ 40) (b9 : I q' 0 = I 87 so) (b10 : I 87 so = 0 ∨ I 87 so = 1 ∨ I 87 so = 2) (b11 : I 88 so = nI z') (b12 : ∀ i, i < z' → L (q' + 1) i = L 89 (40 * so + i)) (h1 : a + m ≤ z) (h2 : b + m ≤ z') :
    Inv7 n C Z I (cp2 (cp1 (va_up L (q' + 1) (va_cpy (L (q + 1)) (L (q' + 1)) a b m)) (40 * sh + a) m) (40 * so + b) m) R M rn t := by
  refine h7.sht (s0 := so) (Nat.le_refl _) hso (fun _ _ => rfl) (fun _ _ => rfl) (fun i hi => ?_) (fun s i e1 e2 e3 => ?_) (fun _ _ _ _ => rfl) (fun _ _ => ⟨rfl, rfl⟩) (fun _ _ _ => rfl) (fun _ _ => rfl) (Or.inl rfl) (Or.inr ⟨q', z', b1, b2, b3, b4, b5, b6, b7, b8, b9, b10, b11, fun i hi => ?_⟩)
  · funext k
    simp only [cp1, cp2]
    rw [if_neg (by omega), if_neg (by omega), va_up_no _ _ (by omega)]
  · simp only [cp1, cp2]
    rw [if_neg (by omega), if_neg (by omega), va_up_no _ _ (by omega)]
  · simp only [cp1, cp2]
    rw [if_neg (by omega), if_neg (by omega), va_up_at]
    by_cases c : b ≤ i ∧ i < b + m
    · rw [pk_cpy_in c.1 c.2, if_pos ⟨trivial, by omega, by omega⟩, if_pos ⟨trivial, by omega⟩, va_up_no _ _ (by omega), hsv _ (by omega)]
      congr 1
      omega
    · rw [pk_cpy_out (by omega), if_neg (by omega), if_neg (by omega), va_up_no _ _ (by omega), b12 i hi]
set_option maxRecDepth 100000 in
set_option maxHeartbeats 8000000 in
/-- copy(sheet, i, other, j, n) -/
theorem two_copy (h : Hp) (hI : Inv h) (x i w j c : Int32) : Two 85 165 [some (.ref 1), some (.int x), some (.int i), some (.int w), some (.int j), some (.int c), none, none] [some (.ref 74), some (.int x), some (.int i), some (.int w), some (.int j), some (.int c), none] h := by
  obtain ⟨n, sl, C, Z, I, L, R⟩ := h
  obtain ⟨M, rn, t, h7⟩ := id hI
  obtain ⟨hM12, hn98, ⟨hB, hK, hO, hE, hM⟩, ⟨e1, e2⟩, hms, hss, hap, ⟨hrn, e3, e4, hrw⟩, ht, e5, e6, htr⟩ := id h7
  dsimp only at hM12 hn98 hB hK hO hE hM e1 e2 hms hss hap hrn e3 e4 hrw ht e5 e6 htr h7
  have hB' := hB
  have hM' := hM
  unfold LayB at hB
  unfold LayM at hM
  unfold Two
  rcases pk_ix x (n := 4) (by omega) with hx | hx | ⟨sh, hsh, rfl⟩
  · simp [S85_0, S85_1, S85_2, S90_0, S87_0, S50_0, S165_0, S165_1, S165_2, S165_3, S161_0, Call_in, BS, ixs, inbs, le_nlt, hB, hM, hI, hx]
  · have x0 : ¬ x < 0 := by intro q; rw [Int32.le_iff_toInt_le] at hx; rw [Int32.lt_iff_toInt_lt] at q; have q0 : (0 : Int32).toInt = 0 := rfl; rw [nI_toInt (by omega)] at hx; omega
    have x3 : (3 : Int32) < x := by rw [Int32.le_iff_toInt_le] at hx; rw [Int32.lt_iff_toInt_lt]; have q0 : (3 : Int32).toInt = 3 := rfl; rw [nI_toInt (by omega)] at hx; omega
    have x4 : ¬ x < 4 := by rw [Int32.le_iff_toInt_le] at hx; rw [Int32.lt_iff_toInt_lt]; have q0 : (4 : Int32).toInt = 4 := rfl; rw [nI_toInt (by omega)] at hx; omega
    simp [S85_0, S85_1, S85_2, S90_0, S87_0, S50_0, S165_0, S165_1, S165_2, S165_3, S161_0, Call_in, BS, ixs, inbs, le_nlt, hB, hM, hI, x0, x3, x4]
  · have g0 : ¬ nI sh < 0 := nI_nneg (by omega)
    have g3 : ¬ (3 : Int32) < nI sh := nI_nlt (b := sh) (a := 3) (by omega) (by omega)
    have g4 : nI sh < 4 := nI_lt (b := 4) (by omega) (by omega)
    have gi : inb (nI sh) 4 = true := by rw [inb_nI (by omega)]; simp; omega
    have gx := ix_nI (show sh < 2 ^ 31 by omega)
    rcases pk_ix w (n := 4) (by omega) with hw | hw | ⟨so, hso, rfl⟩
    · simp [S85_0, S85_1, S85_2, S90_0, S87_0, S50_0, S165_0, S165_1, S165_2, S165_3, S161_0, Call_in, BS, ixs, inbs, le_nlt, hB, hM, hI, g0, g3, g4, hw]
    · have x0 : ¬ w < 0 := by intro q; rw [Int32.le_iff_toInt_le] at hw; rw [Int32.lt_iff_toInt_lt] at q; have q0 : (0 : Int32).toInt = 0 := rfl; rw [nI_toInt (by omega)] at hw; omega
      have x3 : (3 : Int32) < w := by rw [Int32.le_iff_toInt_le] at hw; rw [Int32.lt_iff_toInt_lt]; have q0 : (3 : Int32).toInt = 3 := rfl; rw [nI_toInt (by omega)] at hw; omega
      have x4 : ¬ w < 4 := by rw [Int32.le_iff_toInt_le] at hw; rw [Int32.lt_iff_toInt_lt]; have q0 : (4 : Int32).toInt = 4 := rfl; rw [nI_toInt (by omega)] at hw; omega
      simp [S85_0, S85_1, S85_2, S90_0, S87_0, S50_0, S165_0, S165_1, S165_2, S165_3, S161_0, Call_in, BS, ixs, inbs, le_nlt, hB, hM, hI, g0, g3, g4, x0, x3, x4]
    have k0 : ¬ nI so < 0 := nI_nneg (by omega)
    have k3 : ¬ (3 : Int32) < nI so := nI_nlt (b := so) (a := 3) (by omega) (by omega)
    have k4 : nI so < 4 := nI_lt (b := 4) (by omega) (by omega)
    have ki : inb (nI so) 4 = true := by rw [inb_nI (by omega)]; simp; omega
    have kx := ix_nI (show so < 2 ^ 31 by omega)
    rcases hss sh hsh with ⟨b1, b2⟩ | ⟨q, z, b1, b2, b3, b4, b5, b6, b7, b8, b9, b10, b11, b12⟩
    · rcases hss so hso with ⟨d1, d2⟩ | ⟨q', z', d1, d2, d3, d4, d5, d6, d7, d8, d9, d10, d11, d12⟩
      · simp [S85_0, S85_1, S85_2, S90_0, S87_0, S50_0, S165_0, S165_1, S165_2, S165_3, S161_0, Call_in, BS, ixs, inbs, le_nlt, hB, hM, hI, g0, g3, g4, gi, gx, k0, k3, k4, ki, kx, b1, b2, d1]
      · simp [S85_0, S85_1, S85_2, S90_0, S87_0, S50_0, S165_0, S165_1, S165_2, S165_3, S161_0, Call_in, BS, ixs, inbs, le_nlt, hB, hM, hI, g0, g3, g4, gi, gx, k0, k3, k4, ki, kx, b1, b2, d1]
    have qq0 : ¬ q = 0 := by omega
    have on : Int32.ofNat z = nI z := rfl
    have nn : ¬ I 87 sh < 0 := by rcases b10 with e | e | e <;> rw [e] <;> decide
    rcases hss so hso with ⟨d1, d2⟩ | ⟨q', z', d1, d2, d3, d4, d5, d6, d7, d8, d9, d10, d11, d12⟩
    · simp [S85_0, S85_1, S85_2, S90_0, S87_0, S50_0, S165_0, S165_1, S165_2, S165_3, S161_0, Call_in, BS, ixs, inbs, le_nlt, hB, hM, hI, g0, g3, g4, gi, gx, k0, k3, k4, ki, kx, b1, nn, qq0, d1, d2]
    have qd0 : ¬ q' = 0 := by omega
    have on2 : Int32.ofNat z' = nI z' := rfl
    have nn2 : ¬ I 87 so < 0 := by rcases d10 with e | e | e <;> rw [e] <;> decide
    by_cases es : ¬ I 87 sh = I 87 so
    · simp [S85_0, S85_1, S85_2, S90_0, S87_0, S50_0, S165_0, S165_1, S165_2, S165_3, S161_0, Call_in, BS, ixs, inbs, le_nlt, hB, hM, hI, g0, g3, g4, gi, gx, k0, k3, k4, ki, kx, b1, b4, b5, b6, b7, b9, b11, qq0, on, d1, d4, d5, d6, d7, d9, d11, qd0, on2, nn, nn2, lg_gt, lg_lt, lg_le, lg_ge, es]
    replace es := Classical.not_not.mp es
    by_cases c0 : c < 0
    · by_cases i0 : i < 0
      · simp [S85_0, S85_1, S85_2, S90_0, S87_0, S50_0, S165_0, S165_1, S165_2, S165_3, S161_0, Call_in, BS, ixs, inbs, le_nlt, hB, hM, hI, g0, g3, g4, gi, gx, k0, k3, k4, ki, kx, b1, b4, b5, b6, b7, b9, b11, qq0, on, d1, d4, d5, d6, d7, d9, d11, qd0, on2, nn, nn2, lg_gt, lg_lt, lg_le, lg_ge, es, c0, i0]
      · simp [S85_0, S85_1, S85_2, S90_0, S87_0, S50_0, S165_0, S165_1, S165_2, S165_3, S161_0, Call_in, BS, ixs, inbs, le_nlt, hB, hM, hI, g0, g3, g4, gi, gx, k0, k3, k4, ki, kx, b1, b4, b5, b6, b7, b9, b11, qq0, on, d1, d4, d5, d6, d7, d9, d11, qd0, on2, nn, nn2, lg_gt, lg_lt, lg_le, lg_ge, es, c0, i0]
    by_cases i0 : i < 0
    · simp [S85_0, S85_1, S85_2, S90_0, S87_0, S50_0, S165_0, S165_1, S165_2, S165_3, S161_0, Call_in, BS, ixs, inbs, le_nlt, hB, hM, hI, g0, g3, g4, gi, gx, k0, k3, k4, ki, kx, b1, b4, b5, b6, b7, b9, b11, qq0, on, d1, d4, d5, d6, d7, d9, d11, qd0, on2, nn, nn2, lg_gt, lg_lt, lg_le, lg_ge, es, c0, i0]
    obtain ⟨m, hm, rfl⟩ := nI_of c0
    obtain ⟨a, ha, rfl⟩ := nI_of i0
    have s1 := has_iff (z := z) ha hm b8
    have s2 := size_iff (z := z) ha hm b8
    by_cases h1 : z < a + m
    · by_cases j0 : j < 0
      · simp [S85_0, S85_1, S85_2, S90_0, S87_0, S50_0, S165_0, S165_1, S165_2, S165_3, S161_0, Call_in, BS, ixs, inbs, le_nlt, hB, hM, hI, g0, g3, g4, gi, gx, k0, k3, k4, ki, kx, b1, b4, b5, b6, b7, b9, b11, qq0, on, d1, d4, d5, d6, d7, d9, d11, qd0, on2, nn, nn2, lg_gt, lg_lt, lg_le, lg_ge, es, c0, i0, s1, s2, h1, j0]
      · simp [S85_0, S85_1, S85_2, S90_0, S87_0, S50_0, S165_0, S165_1, S165_2, S165_3, S161_0, Call_in, BS, ixs, inbs, le_nlt, hB, hM, hI, g0, g3, g4, gi, gx, k0, k3, k4, ki, kx, b1, b4, b5, b6, b7, b9, b11, qq0, on, d1, d4, d5, d6, d7, d9, d11, qd0, on2, nn, nn2, lg_gt, lg_lt, lg_le, lg_ge, es, c0, i0, s1, s2, h1, j0]
    by_cases j0 : j < 0
    · simp [S85_0, S85_1, S85_2, S90_0, S87_0, S50_0, S165_0, S165_1, S165_2, S165_3, S161_0, Call_in, BS, ixs, inbs, le_nlt, hB, hM, hI, g0, g3, g4, gi, gx, k0, k3, k4, ki, kx, b1, b4, b5, b6, b7, b9, b11, qq0, on, d1, d4, d5, d6, d7, d9, d11, qd0, on2, nn, nn2, lg_gt, lg_lt, lg_le, lg_ge, es, c0, i0, s1, s2, h1, j0]
    obtain ⟨b, hb, rfl⟩ := nI_of j0
    have t1 := has_iff (z := z') hb hm d8
    have t2 := size_iff (z := z') hb hm d8
    by_cases h2 : z' < b + m
    · simp [S85_0, S85_1, S85_2, S90_0, S87_0, S50_0, S165_0, S165_1, S165_2, S165_3, S161_0, Call_in, BS, ixs, inbs, le_nlt, hB, hM, hI, g0, g3, g4, gi, gx, k0, k3, k4, ki, kx, b1, b4, b5, b6, b7, b9, b11, qq0, on, d1, d4, d5, d6, d7, d9, d11, qd0, on2, nn, nn2, lg_gt, lg_lt, lg_le, lg_ge, es, c0, i0, s1, s2, h1, j0, t1, t2, h2]
    have v1 := ix_nI (show a < 2 ^ 31 by omega)
    have v2 := ix_nI (show b < 2 ^ 31 by omega)
    have v3 := ix_nI (show m < 2 ^ 31 by omega)
    have l1 : a + m ≤ z := by omega
    have l2 : b + m ≤ z' := by omega
    simp [S85_0, S85_1, S85_2, S90_0, S87_0, S50_0, S165_0, S165_1, S165_2, S165_3, S161_0, Call_in, BS, ixs, inbs, le_nlt, hB, hM, hI, g0, g3, g4, gi, gx, k0, k3, k4, ki, kx, b1, b4, b5, b6, b7, b9, b11, qq0, on, d1, d4, d5, d6, d7, d9, d11, qd0, on2, nn, nn2, lg_gt, lg_lt, lg_le, lg_ge, es, c0, i0, s1, s2, h1, j0, t1, t2, h2, v1, v2, v3, l1, l2, ↓m_cp1 (s := sh) (i := a) (o := so) (j := b) (m := m) (by omega) (by omega), ↓m_cp2 (s := sh) (i := a) (o := so) (j := b) (m := m) (by omega) (by omega)]
    exact Inv_mk (h7.cpy hsh hso b2 b8 b12 d1 d2 d3 d4 d5 d6 d7 d8 d9 d10 d11 d12 l1 l2)

