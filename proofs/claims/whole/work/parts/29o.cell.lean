set_option maxRecDepth 100000 in
set_option maxHeartbeats 2000000 in
/-- cell(sheet, i, v) -/
theorem two_cell (h : Hp) (hI : Inv h) (x y v : Int32) : Two 83 163 [some (.ref 1), some (.int x), some (.int y), some (.int v), none] [some (.ref 74), some (.int x), some (.int y), some (.int v)] h := by
  obtain ⟨n, sl, C, Z, I, L, R⟩ := h
  obtain ⟨M, rn, t, h7⟩ := id hI
  obtain ⟨hM12, hn98, ⟨hB, hK, hO, hE, hM⟩, ⟨e1, e2⟩, hms, hss, hap, ⟨hrn, e3, e4, hrw⟩, ht, e5, e6, htr⟩ := id h7
  dsimp only at hM12 hn98 hB hK hO hE hM e1 e2 hms hss hap hrn e3 e4 hrw ht e5 e6 htr h7
  have hB' := hB
  have hM' := hM
  unfold LayB at hB
  unfold LayM at hM
  unfold Two
  rcases pk_ix x (n := 4) (by omega) with hx | hx | ⟨sh, hsh, rfl⟩
  · simp [S83_0, S83_1, S90_0, S87_0, S163_0, S163_1, S161_0, Call_in, BS, ixs, inbs, le_nlt, hB, hM, hI, hx]
  · have x0 : ¬ x < 0 := by intro q; rw [Int32.le_iff_toInt_le] at hx; rw [Int32.lt_iff_toInt_lt] at q; have q0 : (0 : Int32).toInt = 0 := rfl; rw [nI_toInt (by omega)] at hx; omega
    have x3 : (3 : Int32) < x := by rw [Int32.le_iff_toInt_le] at hx; rw [Int32.lt_iff_toInt_lt]; have q0 : (3 : Int32).toInt = 3 := rfl; rw [nI_toInt (by omega)] at hx; omega
    have x4 : ¬ x < 4 := by rw [Int32.le_iff_toInt_le] at hx; rw [Int32.lt_iff_toInt_lt]; have q0 : (4 : Int32).toInt = 4 := rfl; rw [nI_toInt (by omega)] at hx; omega
    simp [S83_0, S83_1, S90_0, S87_0, S163_0, S163_1, S161_0, Call_in, BS, ixs, inbs, le_nlt, hB, hM, hI, x0, x3, x4]
  · have g0 : ¬ nI sh < 0 := nI_nneg (by omega)
    have g3 : ¬ (3 : Int32) < nI sh := nI_nlt (b := sh) (a := 3) (by omega) (by omega)
    have g4 : nI sh < 4 := nI_lt (b := 4) (by omega) (by omega)
    have gi : inb (nI sh) 4 = true := by rw [inb_nI (by omega)]; simp; omega
    have gx := ix_nI (show sh < 2 ^ 31 by omega)
    rcases hss sh hsh with ⟨b1, b2⟩ | ⟨q, z, b1, b2, b3, b4, b5, b6, b7, b8, b9, b10, b11, b12⟩
    · simp [S83_0, S83_1, S90_0, S87_0, S163_0, S163_1, S161_0, Call_in, BS, ixs, inbs, le_nlt, hB, hM, hI, g0, g3, g4, gi, gx, b1, b2]
    have qq0 : ¬ q = 0 := by omega
    have on : Int32.ofNat z = nI z := rfl
    have nn : ¬ I 87 sh < 0 := by rcases b10 with e | e | e <;> rw [e] <;> decide
    rcases pk_ix y (n := z) (by omega) with hy | hy | ⟨a, ha, rfl⟩
    · simp [S83_0, S83_1, S90_0, S87_0, S163_0, S163_1, S161_0, Call_in, BS, ixs, inbs, le_nlt, hB, hM, hI, g0, g3, g4, gi, gx, b1, b4, b5, b6, b7, b9, b11, qq0, on, nn, hy]
    · rcases out_s (s := z) (by omega) (Or.inr hy) with h1 | ⟨h1, h2, h3⟩
      · simp [S83_0, S83_1, S90_0, S87_0, S163_0, S163_1, S161_0, Call_in, BS, ixs, inbs, le_nlt, hB, hM, hI, g0, g3, g4, gi, gx, b1, b4, b5, b6, b7, b9, b11, qq0, on, nn, h1]
      · simp [S83_0, S83_1, S90_0, S87_0, S163_0, S163_1, S161_0, Call_in, BS, ixs, inbs, le_nlt, hB, hM, hI, g0, g3, g4, gi, gx, b1, b4, b5, b6, b7, b9, b11, qq0, on, nn, h1, h2, h3]
    obtain ⟨f1, f2, f3, f4, f5⟩ := in_s (s := z) (by omega) ha
    have v1 : inb (nI a) z = true := by rw [inb_nI (by omega)]; simp; omega
    have v2 := ix_nI (show a < 2 ^ 31 by omega)
    have v3 : inb (nI (40 * sh + a)) 160 = true := by rw [inb_nI (by omega)]; simp; omega
    have v4 := ix_nI (show 40 * sh + a < 2 ^ 31 by omega)
    have fin : ∀ val : Int64, Inv (n, sl, C, Z, I, u2 (u2 L (q + 1) a val) 89 (40 * sh + a) val, R) := fun val => by
      refine Inv_mk (h7.sht (s0 := sh) (Nat.le_refl _) hsh (fun _ _ => rfl) (fun _ _ => rfl) (fun i hi => ?_) (fun s i h1 h2 h3 => ?_) (fun _ _ _ _ => rfl) (fun _ _ => ⟨rfl, rfl⟩) (fun _ _ _ => rfl) (fun _ _ => rfl) (Or.inl rfl) (Or.inr ⟨q, z, b1, b2, b3, b4, b5, b6, b7, b8, b9, b10, b11, fun i hi => ?_⟩))
      · rw [u2_ne _ _ _ (by omega), u2_ne _ _ _ (by omega)]
      · rw [u2_at, if_neg (by omega), u2_ne _ (j := 89) _ _ (by omega)]
      · rw [u2_at, u2_ne _ (j := q + 1) _ _ (by omega), u2_at]
        by_cases e : i = a
        · rw [if_pos e, if_pos (by omega)]
        · rw [if_neg e, if_neg (by omega), u2_ne _ (j := 89) _ _ (by omega)]
          exact b12 i hi
    rcases b10 with e | e | e
    · simp [S83_0, S83_1, S90_0, S87_0, S163_0, S163_1, S161_0, Call_in, BS, ixs, inbs, le_nlt, hB, hM, hI, g0, g3, g4, gi, gx, b1, b4, b5, b6, b7, b9, b11, qq0, on, e, f1, f2, f3, f4, v1, v2, v3, v4, mul40, nI_add]
      exact fin _
    · simp [S83_0, S83_1, S90_0, S87_0, S163_0, S163_1, S161_0, Call_in, BS, ixs, inbs, le_nlt, hB, hM, hI, g0, g3, g4, gi, gx, b1, b4, b5, b6, b7, b9, b11, qq0, on, e, f1, f2, f3, f4, v1, v2, v3, v4, mul40, nI_add]
      exact fin _
    · simp [S83_0, S83_1, S90_0, S87_0, S163_0, S163_1, S161_0, Call_in, BS, ixs, inbs, le_nlt, hB, hM, hI, g0, g3, g4, gi, gx, b1, b4, b5, b6, b7, b9, b11, qq0, on, e, f1, f2, f3, f4, v1, v2, v3, v4, mul40, nI_add]
      exact fin _

/-- the reference's copy: first into moved, then into cells -/
def cp1 (L : Nat → Nat → Int64) (b k : Nat) : Nat → Nat → Int64 := fun a p => if a = 90 ∧ p < k then L 89 (b + p) else L a p
def cp2 (L : Nat → Nat → Int64) (d k : Nat) : Nat → Nat → Int64 := fun a p => if a = 89 ∧ d ≤ p ∧ p < d + k then L 90 (p - d) else L a p
theorem cp1_0 (L : Nat → Nat → Int64) (b : Nat) : cp1 L b 0 = L := by
  funext a p
  simp only [cp1]
  rw [if_neg (by omega)]
theorem cp2_0 (L : Nat → Nat → Int64) (b : Nat) : cp2 L b 0 = L := by
  funext a p
  simp only [cp2]
  rw [if_neg (by omega)]
theorem cp1_s (L : Nat → Nat → Int64) (b k : Nat) : u2 (cp1 L b k) 90 k (cp1 L b k 89 (b + k)) = cp1 L b (k + 1) := by
  funext a p
  simp only [u2_rd, cp1]
  by_cases h : a = 90
  · subst h
    by_cases h2 : p = k
    · subst h2
      rw [if_pos ⟨rfl, rfl⟩, if_neg (by omega), if_pos ⟨rfl, by omega⟩]
    · rw [if_neg (by omega)]
      by_cases h3 : p < k
      · rw [if_pos ⟨rfl, h3⟩, if_pos ⟨rfl, by omega⟩]
      · rw [if_neg (by omega), if_neg (by omega)]
  · rw [if_neg (by omega), if_neg (by omega), if_neg (by omega)]
theorem cp2_s (L : Nat → Nat → Int64) (d k : Nat) : u2 (cp2 L d k) 89 (d + k) (cp2 L d k 90 k) = cp2 L d (k + 1) := by
  funext a p
  simp only [u2_rd, cp2]
  by_cases h : a = 89
  · subst h
    by_cases h2 : p = d + k
    · subst h2
      rw [if_pos ⟨rfl, rfl⟩, if_neg (by omega), if_pos ⟨rfl, by omega, by omega⟩]
      congr 1
      omega
    · rw [if_neg (by omega)]
      by_cases h3 : d ≤ p ∧ p < d + k
      · rw [if_pos ⟨rfl, h3⟩, if_pos ⟨rfl, by omega, by omega⟩]
      · rw [if_neg (by omega), if_neg (by omega)]
  · rw [if_neg (by omega), if_neg (by omega), if_neg (by omega)]
set_option maxRecDepth 100000 in
theorem m_cp1 {n sl : Nat} {C Z : Nat → Nat} {I : Nat → Nat → Int32} {L : Nat → Nat → Int64} {R : Nat → Nat → Nat} {Q : Option Value → Hp → Prop} {s i o j m : Nat} (hm : m ≤ 40) (hb : 40 * s + i + m ≤ 160) (q1 : C 74 = 11) (q2 : C 89 = 22) (q3 : Z 89 = 160) (q4 : R 74 17 = 89) (q5 : C 90 = 22) (q6 : Z 90 = 40) (q7 : R 74 18 = 90) (l6 : Option Value) : Wp 165 101 [some (.ref 74), some (.int (nI s)), some (.int (nI i)), some (.int (nI o)), some (.int (nI j)), some (.int (nI m)), l6] [.int 0] (n, sl, C, Z, I, L, R) Q ↔ Wp 165 137 [some (.ref 74), some (.int (nI s)), some (.int (nI i)), some (.int (nI o)), some (.int (nI j)), some (.int (nI m)), some (.int (nI m))] [] (n, sl, C, Z, I, cp1 L (40 * s + i) m, R) Q := by
  have key := loopBr (k := 165) (t := 137) (f := 110) (st := []) (Q := Q) (fun k => [some (.ref 74), some (.int (nI s)), some (.int (nI i)), some (.int (nI o)), some (.int (nI j)), some (.int (nI m)), some (.int (nI k))]) (fun k => (n, sl, C, Z, I, cp1 L (40 * s + i) k, R)) (fun k => nI m ≤ nI k) m (fun k hk => ?_) (fun k hk => nI_ge hk (by omega)) (nI_le (Nat.le_refl _) (by omega)) 0 (by omega)
  · have gen : ∀ x0 : Int32, Wp 165 101 [some (.ref 74), some (.int (nI s)), some (.int (nI i)), some (.int (nI o)), some (.int (nI j)), some (.int (nI m)), l6] [.int x0] (n, sl, C, Z, I, L, R) Q ↔ Br 165 137 110 [some (.ref 74), some (.int (nI s)), some (.int (nI i)), some (.int (nI o)), some (.int (nI j)), some (.int (nI m)), some (.int x0)] [] (n, sl, C, Z, I, L, R) Q (nI m ≤ x0) := fun x0 => by simp [S165_0, S165_1, S165_2, S165_3, Call_in, BS, ixs, inbs]
    rw [cp1_0, nI_0] at key
    exact (gen 0).trans key
  · have h1 : inb (nI (40 * s + i + k)) 160 = true := by rw [inb_nI (by omega)]; simp; omega
    have h2 := ix_nI (show 40 * s + i + k < 2 ^ 31 by omega)
    have h3 : inb (nI k) 40 = true := by rw [inb_nI (by omega)]; simp; omega
    have h4 := ix_nI (show k < 2 ^ 31 by omega)
    simp [S165_0, S165_1, S165_2, S165_3, Call_in, BS, ixs, inbs, q1, q2, q3, q4, q5, q6, q7, mul40, nI_add, nIk, h1, h2, h3, h4, cp1_s]

set_option maxRecDepth 100000 in
theorem m_cp2 {n sl : Nat} {C Z : Nat → Nat} {I : Nat → Nat → Int32} {L : Nat → Nat → Int64} {R : Nat → Nat → Nat} {Q : Option Value → Hp → Prop} {s i o j m : Nat} (hm : m ≤ 40) (hb : 40 * o + j + m ≤ 160) (q1 : C 74 = 11) (q2 : C 89 = 22) (q3 : Z 89 = 160) (q4 : R 74 17 = 89) (q5 : C 90 = 22) (q6 : Z 90 = 40) (q7 : R 74 18 = 90) (l6 : Option Value) : Wp 165 138 [some (.ref 74), some (.int (nI s)), some (.int (nI i)), some (.int (nI o)), some (.int (nI j)), some (.int (nI m)), l6] [.int 0] (n, sl, C, Z, I, L, R) Q ↔ Wp 165 175 [some (.ref 74), some (.int (nI s)), some (.int (nI i)), some (.int (nI o)), some (.int (nI j)), some (.int (nI m)), some (.int (nI m))] [] (n, sl, C, Z, I, cp2 L (40 * o + j) m, R) Q := by
  have key := loopBr (k := 165) (t := 175) (f := 147) (st := []) (Q := Q) (fun k => [some (.ref 74), some (.int (nI s)), some (.int (nI i)), some (.int (nI o)), some (.int (nI j)), some (.int (nI m)), some (.int (nI k))]) (fun k => (n, sl, C, Z, I, cp2 L (40 * o + j) k, R)) (fun k => nI m ≤ nI k) m (fun k hk => ?_) (fun k hk => nI_ge hk (by omega)) (nI_le (Nat.le_refl _) (by omega)) 0 (by omega)
  · have gen : ∀ x0 : Int32, Wp 165 138 [some (.ref 74), some (.int (nI s)), some (.int (nI i)), some (.int (nI o)), some (.int (nI j)), some (.int (nI m)), l6] [.int x0] (n, sl, C, Z, I, L, R) Q ↔ Br 165 175 147 [some (.ref 74), some (.int (nI s)), some (.int (nI i)), some (.int (nI o)), some (.int (nI j)), some (.int (nI m)), some (.int x0)] [] (n, sl, C, Z, I, L, R) Q (nI m ≤ x0) := fun x0 => by simp [S165_0, S165_1, S165_2, S165_3, Call_in, BS, ixs, inbs]
    rw [cp2_0, nI_0] at key
    exact (gen 0).trans key
  · have h1 : inb (nI (40 * o + j + k)) 160 = true := by rw [inb_nI (by omega)]; simp; omega
    have h2 := ix_nI (show 40 * o + j + k < 2 ^ 31 by omega)
    have h3 : inb (nI k) 40 = true := by rw [inb_nI (by omega)]; simp; omega
    have h4 := ix_nI (show k < 2 ^ 31 by omega)
    simp [S165_0, S165_1, S165_2, S165_3, Call_in, BS, ixs, inbs, q1, q2, q3, q4, q5, q6, q7, mul40, nI_add, nIk, h1, h2, h3, h4, cp2_s]

