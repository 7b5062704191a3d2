def ok3 (v : Int64) : Prop := ¬ v < -3 ∧ ¬ (3 : Int64) < v
theorem ok3_bnd {v : Int64} (h : ok3 v) : bnd 3 v.toInt32 := by
  obtain ⟨h1, h2⟩ := h
  rw [Int64.lt_iff_toInt_lt] at h1 h2
  have q1 : (-3 : Int64).toInt = -3 := rfl
  have q2 : (3 : Int64).toInt = 3 := rfl
  rw [q1] at h1
  rw [q2] at h2
  unfold bnd
  rw [Int64.toInt_toInt32, Int.bmod_eq_of_le (by omega) (by omega)]
  omega
theorem MOK.lay {n : Nat} {C Z : Nat → Nat} {I I' : Nat → Nat → Int32} {R : Nat → Nat → Nat} {j q s : Nat} (h : MOK n C Z I R j q s) (hk : I 75 j = 0 ∨ I 75 j = 1) (ii : ∀ i, i ≠ q + 1 → i ≠ 79 → I' i = I i) (hA : ∀ p, p < 9 → I' 79 (9 * j + p) = I' (q + 1) p ∧ bnd 3 (I' (q + 1) p)) (hz : ∀ i k, i < 3 → k < 3 → (s ≤ i ∨ s ≤ k) → I' (q + 1) (3 * i + k) = 0) : MOK n C Z I' R j q s := by
  obtain ⟨a1, a2, a3, a4, a5, a6, a7, a8, a9, a10, a11, a12, a13, a14⟩ := h
  refine ⟨a1, a2, a3, by rw [ii 75 (by omega) (by omega)]; exact kd01 a4 hk, by rw [ii q (by omega) (by omega), ii 76 (by omega) (by omega)]; exact a5, by rw [ii q (by omega) (by omega), ii 77 (by omega) (by omega)]; exact a6, a7, a8, fun i hi => ?_, fun i hi => ?_, fun i hi => ?_, ?_, hz, fun i hi hz => ?_⟩
  · rw [ii 75 (by omega) (by omega), mb01 hk]
    exact hA i hi
  · rw [ii 80 (by omega) (by omega), ii (q + 2) (by omega) (by omega), ii 75 (by omega) (by omega)]
    exact a10 i hi
  · rw [ii 81 (by omega) (by omega), ii (q + 3) (by omega) (by omega), ii 75 (by omega) (by omega)]
    exact a11 i hi
  · rw [ii 78 (by omega) (by omega), ii (q + 4) (by omega) (by omega), ii 75 (by omega) (by omega)]
    exact a12
  · rw [ii (q + 2) (by omega) (by omega), ii (q + 3) (by omega) (by omega)]
    exact a14 i hi hz
/-- numbers laid: the first k of them, in cell c from place b on -/
def lw (I : Nat → Nat → Int32) (c b s : Nat) (f : Nat → Int32) (k : Nat) : Nat → Nat → Int32 := fun x p => if x = c ∧ b ≤ p ∧ p < b + 9 ∧ (p - b) / 3 < s ∧ (p - b) % 3 < s ∧ s * ((p - b) / 3) + (p - b) % 3 < k then f (s * ((p - b) / 3) + (p - b) % 3) else I x p
theorem lw_0 (I : Nat → Nat → Int32) (c b s : Nat) (f : Nat → Int32) : lw I c b s f 0 = I := by
  funext x p
  simp only [lw]
  rw [if_neg (by omega)]
theorem lw_s (I : Nat → Nat → Int32) (c b : Nat) {s : Nat} (h1 : 1 ≤ s) (h3 : s ≤ 3) (f : Nat → Int32) {k : Nat} (hk : k < s * s) : u2 (lw I c b s f k) c (b + (3 * (k / s) + k % s)) (f k) = lw I c b s f (k + 1) := by
  funext x p
  simp only [u2_rd, lw]
  by_cases hc : x = c
  · by_cases hp : p = b + (3 * (k / s) + k % s)
    · rcases (by omega : s = 1 ∨ s = 2 ∨ s = 3) with rfl | rfl | rfl
      · rw [if_pos ⟨hc, hp⟩, if_pos (by omega)]; congr 1; omega
      · rw [if_pos ⟨hc, hp⟩, if_pos (by omega)]; congr 1; omega
      · rw [if_pos ⟨hc, hp⟩, if_pos (by omega)]; congr 1; omega
    · rcases (by omega : s = 1 ∨ s = 2 ∨ s = 3) with rfl | rfl | rfl
      · rw [if_neg (by omega)]
        split
        · rw [if_pos (by omega)]
        · rw [if_neg (by omega)]
      · rw [if_neg (by omega)]
        split
        · rw [if_pos (by omega)]
        · rw [if_neg (by omega)]
      · rw [if_neg (by omega)]
        split
        · rw [if_pos (by omega)]
        · rw [if_neg (by omega)]
  · rw [if_neg (by omega), if_neg (by omega), if_neg (by omega)]
set_option maxRecDepth 100000 in
theorem lay_c {n sl : Nat} {C Z : Nat → Nat} {I : Nat → Nat → Int32} {L : Nat → Nat → Int64} {R : Nat → Nat → Nat} {Q : Option Value → Hp → Prop} {j sh a q qs N z : Nat} {so : Int32} (hC : C qs = 7) (hR : R qs 1 = qs + 1) (hC1 : C (qs + 1) = 22) (hZ : Z (qs + 1) = z) (hz : z ≤ 40) (hN : a + N ≤ z) : ∀ d k, k + d = N → ((∀ p, k ≤ p → p < N → ok3 (L (qs + 1) (a + p))) → Wp 84 161 [some (.ref 1), some (.int (nI j)), some (.int (nI sh)), some (.int so), some (.int (nI a)), some (.ref q), some (.ref qs), some (.int (nI N)), some (.int (nI (a + N)))] [] (n, sl, C, Z, I, L, R) Q) → ((∃ p, p < N ∧ ¬ ok3 (L (qs + 1) (a + p))) → Q (some (.int (-2))) (n, sl, C, Z, I, L, R)) → Br 84 161 122 [some (.ref 1), some (.int (nI j)), some (.int (nI sh)), some (.int so), some (.int (nI a)), some (.ref q), some (.ref qs), some (.int (nI N)), some (.int (nI (a + k)))] [] (n, sl, C, Z, I, L, R) Q (nI (a + N) ≤ nI (a + k)) := by
  intro d
  induction d with
  | zero =>
    intro k hk good bad
    have : k = N := by omega
    subst this
    exact Br_of (fun _ => good (fun p h1 h2 => absurd h1 (by omega))) (fun h => absurd (nI_le (Nat.le_refl _) (by omega)) h)
  | succ d ih =>
    intro k hk good bad
    refine Br_of (fun h => absurd h (nI_ge (by omega) (by omega))) (fun _ => ?_)
    have h1 : inb (nI (a + k)) z = true := by rw [inb_nI (by omega)]; simp; omega
    have h2 := ix_nI (show a + k < 2 ^ 31 by omega)
    by_cases hf : ok3 (L (qs + 1) (a + k))
    · obtain ⟨f1, f2⟩ := id hf
      have := ih (k + 1) (by omega) (fun ha => good (fun p h3 h4 => by
        by_cases e : p = k
        · subst e; exact hf
        · exact ha p (by omega) h4)) bad
      simp [S84_0, S84_1, S84_2, S84_3, S84_4, Call_in, BS, ixs, inbs, hC, hR, hC1, hZ, h1, h2, lg_lt, lg_le, f1, f2, nIk, nI_add, Nat.add_assoc]
      exact this
    · have b1 := bad ⟨k, by omega, hf⟩
      by_cases f1 : L (qs + 1) (a + k) < -3
      · simp [S84_0, S84_1, S84_2, S84_3, S84_4, Call_in, BS, ixs, inbs, hC, hR, hC1, hZ, h1, h2, lg_lt, lg_le, f1, b1]
      · have f2 : (3 : Int64) < L (qs + 1) (a + k) := Classical.byContradiction (fun f2 => hf ⟨f1, f2⟩)
        simp [S84_0, S84_1, S84_2, S84_3, S84_4, Call_in, BS, ixs, inbs, hC, hR, hC1, hZ, h1, h2, lg_lt, lg_le, f1, f2, b1]

set_option maxRecDepth 100000 in
theorem lay_m {n sl : Nat} {C Z : Nat → Nat} {I : Nat → Nat → Int32} {L : Nat → Nat → Int64} {R : Nat → Nat → Nat} {Q : Option Value → Hp → Prop} {j sh a q qs N z : Nat} {so : Int32} (hsh : sh < 4) (q1 : C 74 = 11) (q2 : C 89 = 22) (q3 : Z 89 = 160) (q4 : R 74 17 = 89) (hN : a + N ≤ 40) : ∀ d k l7, k + d = N → (∀ l7', (∀ p, k ≤ p → p < N → ok3 (L 89 (40 * sh + a + p))) → Wp 164 172 [some (.ref 74), some (.int (nI j)), some (.int (nI sh)), some (.int so), some (.int (nI a)), some (.int (nI N)), some (.int (nI N)), l7', none] [] (n, sl, C, Z, I, L, R) Q) → ((∃ p, p < N ∧ ¬ ok3 (L 89 (40 * sh + a + p))) → Q (some (.int (-2))) (n, sl, C, Z, I, L, R)) → Br 164 172 128 [some (.ref 74), some (.int (nI j)), some (.int (nI sh)), some (.int so), some (.int (nI a)), some (.int (nI N)), some (.int (nI k)), l7, none] [] (n, sl, C, Z, I, L, R) Q (nI N ≤ nI k) := by
  intro d
  induction d with
  | zero =>
    intro k l7 hk good bad
    have : k = N := by omega
    subst this
    exact Br_of (fun _ => good _ (fun p h1 h2 => absurd h1 (by omega))) (fun h => absurd (nI_le (Nat.le_refl _) (by omega)) h)
  | succ d ih =>
    intro k l7 hk good bad
    refine Br_of (fun h => absurd h (nI_ge (by omega) (by omega))) (fun _ => ?_)
    have h1 : inb (nI (40 * sh + a + k)) 160 = true := by rw [inb_nI (by omega)]; simp; omega
    have h2 := ix_nI (show 40 * sh + a + k < 2 ^ 31 by omega)
    by_cases hf : ok3 (L 89 (40 * sh + a + k))
    · obtain ⟨f1, f2⟩ := id hf
      have := ih (k + 1) (some (.long (L 89 (40 * sh + a + k)))) (by omega) (fun l7' ha => good l7' (fun p h3 h4 => by
        by_cases e : p = k
        · subst e; exact hf
        · exact ha p (by omega) h4)) bad
      simp [S164_0, S164_1, S164_2, S164_3, S164_4, S164_5, Call_in, BS, ixs, inbs, q1, q2, q3, q4, h1, h2, lg_lt, lg_le, f1, f2, nIk, nI_add, mul40]
      exact this
    · have b1 := bad ⟨k, by omega, hf⟩
      by_cases f1 : L 89 (40 * sh + a + k) < -3
      · simp [S164_0, S164_1, S164_2, S164_3, S164_4, S164_5, Call_in, BS, ixs, inbs, q1, q2, q3, q4, h1, h2, lg_lt, lg_le, f1, b1, nIk, nI_add, mul40]
      · have f2 : (3 : Int64) < L 89 (40 * sh + a + k) := Classical.byContradiction (fun f2 => hf ⟨f1, f2⟩)
        simp [S164_0, S164_1, S164_2, S164_3, S164_4, S164_5, Call_in, BS, ixs, inbs, q1, q2, q3, q4, h1, h2, lg_lt, lg_le, f1, f2, b1, nIk, nI_add, mul40]

set_option maxRecDepth 100000 in
theorem lay_cw {n sl : Nat} {C Z : Nat → Nat} {I : Nat → Nat → Int32} {L : Nat → Nat → Int64} {R : Nat → Nat → Nat} {Q : Option Value → Hp → Prop} {j sh a q qs N z : Nat} {so : Int32} {s : Nat} (h1s : 1 ≤ s) (h3s : s ≤ 3) (hNs : N = s * s) (hC : C qs = 7) (hR : R qs 1 = qs + 1) (hC1 : C (qs + 1) = 22) (hZ : Z (qs + 1) = z) (hz : z ≤ 40) (hN : a + N ≤ z) (k1 : inG 7 (C q) = true) (k2 : R q 3 = q + 1) (k3 : C (q + 1) = 21) (k4 : Z (q + 1) = 9) (k5 : I q 1 = nI s) (l8 : Option Value) : Wp 84 162 [some (.ref 1), some (.int (nI j)), some (.int (nI sh)), some (.int so), some (.int (nI a)), some (.ref q), some (.ref qs), some (.int (nI N)), l8] [.int 0] (n, sl, C, Z, I, L, R) Q ↔ Q (some (.int 1)) (n, sl, C, Z, lw I (q + 1) 0 s (fun i => (L (qs + 1) (a + i)).toInt32) N, L, R) := by
  have n9 : N ≤ 9 := by rcases (by omega : s = 1 ∨ s = 2 ∨ s = 3) with rfl | rfl | rfl <;> omega
  have key := loopBr (k := 84) (t := 214) (f := 171) (st := []) (Q := Q) (fun k => [some (.ref 1), some (.int (nI j)), some (.int (nI sh)), some (.int so), some (.int (nI a)), some (.ref q), some (.ref qs), some (.int (nI N)), some (.int (nI k))]) (fun k => (n, sl, C, Z, lw I (q + 1) 0 s (fun i => (L (qs + 1) (a + i)).toInt32) k, L, R)) (fun k => nI N ≤ nI k) N (fun k hk => ?_) (fun k hk => nI_ge hk (by omega)) (nI_le (Nat.le_refl _) (by omega)) 0 (by omega)
  · have gen : ∀ x0 : Int32, Wp 84 162 [some (.ref 1), some (.int (nI j)), some (.int (nI sh)), some (.int so), some (.int (nI a)), some (.ref q), some (.ref qs), some (.int (nI N)), l8] [.int x0] (n, sl, C, Z, I, L, R) Q ↔ Br 84 214 171 [some (.ref 1), some (.int (nI j)), some (.int (nI sh)), some (.int so), some (.int (nI a)), some (.ref q), some (.ref qs), some (.int (nI N)), some (.int x0)] [] (n, sl, C, Z, I, L, R) Q (nI N ≤ x0) := fun x0 => by simp [S84_0, S84_1, S84_2, S84_3, S84_4, Call_in, BS, ixs, inbs]
    rw [lw_0, nI_0] at key
    refine (gen 0).trans (key.trans ?_)
    simp [S84_0, S84_1, S84_2, S84_3, S84_4]
  · have h1 : inb (nI (a + k)) z = true := by rw [inb_nI (by omega)]; simp; omega
    have h2 := ix_nI (show a + k < 2 ^ 31 by omega)
    have e1 : nI k / nI s = nI (k / s) := pk_div (by omega) (by omega) (by omega)
    have e2 : nI k - nI (k / s * s) = nI (k % s) := by rw [← pk_mul, ← e1]; exact pk_rem (by omega) (by omega) (by omega)
    have e3 : 3 * (k / s) + k % s < 9 := by rcases (by omega : s = 1 ∨ s = 2 ∨ s = 3) with rfl | rfl | rfl <;> omega
    have e4 : inb (nI (3 * (k / s) + k % s)) 9 = true := by rw [inb_nI (by omega)]; simp; omega
    have e5 := ix_nI (show 3 * (k / s) + k % s < 2 ^ 31 by omega)
    have e6 : ¬ nI s = 0 := nI_ne0 (by omega) (by omega)
    have e7 : lw I (q + 1) 0 s (fun i => (L (qs + 1) (a + i)).toInt32) k q 1 = nI s := by simp only [lw]; rw [if_neg (by omega)]; exact k5
    have e8 := lw_s I (q + 1) 0 h1s h3s (fun i => (L (qs + 1) (a + i)).toInt32) (k := k) (by omega)
    rw [Nat.zero_add] at e8
    simp [S84_0, S84_1, S84_2, S84_3, S84_4, Call_in, BS, ixs, inbs, hC, hR, hC1, hZ, k1, k2, k3, k4, e1, e2, e4, e5, e6, e7, h1, h2, nIk, nI_add, mul3, pk_mul, e8]

set_option maxRecDepth 100000 in
theorem lay_mw {n sl : Nat} {C Z : Nat → Nat} {I : Nat → Nat → Int32} {L : Nat → Nat → Int64} {R : Nat → Nat → Nat} {Q : Option Value → Hp → Prop} {j sh a q qs N z : Nat} {so : Int32} {s : Nat} (h1s : 1 ≤ s) (h3s : s ≤ 3) (hNs : N = s * s) (hj : j < 12) (hsh : sh < 4) (hM : LayM C Z R) (hN : a + N ≤ 40) (k5 : I 76 j = nI s) (l6 l7 : Option Value) : Wp 164 173 [some (.ref 74), some (.int (nI j)), some (.int (nI sh)), some (.int so), some (.int (nI a)), some (.int (nI N)), l6, l7, none] [.int 0] (n, sl, C, Z, I, L, R) Q ↔ Q (some (.int 1)) (n, sl, C, Z, lw I 79 (9 * j) s (fun i => (L 89 (40 * sh + a + i)).toInt32) N, L, R) := by
  unfold LayM at hM
  have n9 : N ≤ 9 := by rcases (by omega : s = 1 ∨ s = 2 ∨ s = 3) with rfl | rfl | rfl <;> omega
  have key := loopBr (k := 164) (t := 235) (f := 182) (st := []) (Q := Q) (fun k => [some (.ref 74), some (.int (nI j)), some (.int (nI sh)), some (.int so), some (.int (nI a)), some (.int (nI N)), some (.int (nI k)), l7, none]) (fun k => (n, sl, C, Z, lw I 79 (9 * j) s (fun i => (L 89 (40 * sh + a + i)).toInt32) k, L, R)) (fun k => nI N ≤ nI k) N (fun k hk => ?_) (fun k hk => nI_ge hk (by omega)) (nI_le (Nat.le_refl _) (by omega)) 0 (by omega)
  · have gen : ∀ x0 : Int32, Wp 164 173 [some (.ref 74), some (.int (nI j)), some (.int (nI sh)), some (.int so), some (.int (nI a)), some (.int (nI N)), l6, l7, none] [.int x0] (n, sl, C, Z, I, L, R) Q ↔ Br 164 235 182 [some (.ref 74), some (.int (nI j)), some (.int (nI sh)), some (.int so), some (.int (nI a)), some (.int (nI N)), some (.int x0), l7, none] [] (n, sl, C, Z, I, L, R) Q (nI N ≤ x0) := fun x0 => by simp [S164_0, S164_1, S164_2, S164_3, S164_4, S164_5, Call_in, BS, ixs, inbs]
    rw [lw_0, nI_0] at key
    refine (gen 0).trans (key.trans ?_)
    simp [S164_0, S164_1, S164_2, S164_3, S164_4, S164_5]
  · have h1 : inb (nI (40 * sh + a + k)) 160 = true := by rw [inb_nI (by omega)]; simp; omega
    have h2 := ix_nI (show 40 * sh + a + k < 2 ^ 31 by omega)
    have j0 : inb (nI j) 12 = true := by rw [inb_nI (by omega)]; simp; omega
    have jx := ix_nI (show j < 2 ^ 31 by omega)
    have e1 : nI k / nI s = nI (k / s) := pk_div (by omega) (by omega) (by omega)
    have e2 : nI k - nI (k / s * s) = nI (k % s) := by rw [← pk_mul, ← e1]; exact pk_rem (by omega) (by omega) (by omega)
    have e3 : 3 * (k / s) + k % s < 9 := by rcases (by omega : s = 1 ∨ s = 2 ∨ s = 3) with rfl | rfl | rfl <;> omega
    have e4 : inb (nI (9 * j + 3 * (k / s) + k % s)) 108 = true := by rw [inb_nI (by omega)]; simp; omega
    have e5 := ix_nI (show 9 * j + 3 * (k / s) + k % s < 2 ^ 31 by omega)
    have e6 : ¬ nI s = 0 := nI_ne0 (by omega) (by omega)
    have e7 : lw I 79 (9 * j) s (fun i => (L 89 (40 * sh + a + i)).toInt32) k 76 j = nI s := by simp only [lw]; rw [if_neg (by omega)]; exact k5
    have e8 := lw_s I 79 (9 * j) h1s h3s (fun i => (L 89 (40 * sh + a + i)).toInt32) (k := k) (by omega)
    rw [← Nat.add_assoc] at e8
    simp [S164_0, S164_1, S164_2, S164_3, S164_4, S164_5, Call_in, BS, ixs, inbs, hM, e1, e2, e4, e5, e6, e7, h1, h2, j0, jx, nIk, nI_add, mul3, mul9, mul40, pk_mul, e8]

