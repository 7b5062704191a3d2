/-- plainPulse of the look at cell 37 -/
theorem c_pl37 {n sl : Nat} {C Z : Nat → Nat} {I : Nat → Nat → Int32} {L : Nat → Nat → Int64} {R : Nat → Nat → Nat} {q s : Nat} {u : Int32} {A B K : Nat → Int} {d : Int} (hc : CM C Z I R q s u A B K d) (hK : LayO C Z R) (hR : R 37 0 = q) (lk : LK L 37 s A B K) {e : Nat} (he : e < 8) (k pc : Nat) (ls : Lo) (st : List Value) (Q : Option Value → Hp → Prop) : Call 23 [some (.ref 37), some (.int (nI e)), none, none, none] (n, sl, C, Z, I, L, R) k pc ls st Q ↔ Wp k pc ls (.long (wL (pl A B K e)) :: st) (n, sl, C, Z, I, L, R) Q := by
  unfold LayO at hK
  refine c_pl (p := 37) hc (by simp [hK]) hR (by simp [hK]) (by simp [hK]) (by simp [hK]) he ?_ ?_ ?_ (fun i hi => lk.1 e i he hi) k pc ls st Q
  · rcases i8 he with rfl | rfl | rfl | rfl | rfl | rfl | rfl | rfl <;> simp [hK]
  · rcases i8 he with rfl | rfl | rfl | rfl | rfl | rfl | rfl | rfl <;> simp [hK]
  · rcases i8 he with rfl | rfl | rfl | rfl | rfl | rfl | rfl | rfl <;> simp [hK]
theorem LK.keep {L L' : Nat → Nat → Int64} {p s : Nat} {A B K : Nat → Int} (h : LK L p s A B K) (hL : ∀ c, p ≤ c → c ≤ p + 19 → L' c = L c) : LK L' p s A B K := by
  obtain ⟨a, b, c⟩ := h
  exact ⟨fun k i hk hi => by rw [hL _ (by omega) (by omega)]; exact a k i hk hi, fun k i hk hi => by rw [hL _ (by omega) (by omega)]; exact b k i hk hi, fun i hi => by rw [hL _ (by omega) (by omega)]; exact c i hi⟩
/-- the reference's loop in like -/
def PLk (A1 B1 K1 : Nat → Int) (u1 : Int32) (A2 B2 K2 : Nat → Int) (u2 : Int32) (k : Nat) : Prop := wL (pl A1 B1 K1 k * u2.toInt ^ k) = wL (pl A2 B2 K2 k * u1.toInt ^ k)
set_option maxRecDepth 100000 in
set_option maxHeartbeats 4000000 in
theorem like_lp {n sl : Nat} {C Z : Nat → Nat} {I : Nat → Nat → Int32} {R : Nat → Nat → Nat} {j1 s1 : Nat} {u1 : Int32} {A1 B1 K1 : Nat → Int} {d1 : Int} {j2 s2 : Nat} {u2 : Int32} {A2 B2 K2 : Nat → Int} {d2 : Int} (h1 : RM C Z I R j1 s1 u1 A1 B1 K1 d1) (h2 : RM C Z I R j2 s2 u2 A2 B2 K2 d2) {Q : Option Value → Hp → Prop} : ∀ d k L, k + d = s1 + s2 → (∀ L', (∀ c, c ≠ 97 → c ≠ 98 → L' c = L c) → (∀ i, k ≤ i → i < s1 + s2 → PLk A1 B1 K1 u1 A2 B2 K2 u2 i) → Q (some (.int 1)) (n, sl, C, Z, I, L', R)) → (∀ L', (∀ c, c ≠ 97 → c ≠ 98 → L' c = L c) → (∃ i, i < s1 + s2 ∧ ¬ PLk A1 B1 K1 u1 A2 B2 K2 u2 i) → Q (some (.int 0)) (n, sl, C, Z, I, L', R)) → Br 138 136 88 [some (.ref 74), some (.int (nI j1)), some (.int (nI j2)), some (.int (nI k))] [] (n, sl, C, Z, I, L, R) Q (nI (s1 + s2) ≤ nI k) := by
  obtain ⟨hM, hj1, hs1, k1, k77, -⟩ := id h1
  obtain ⟨-, hj2, hs2, k2, k772, -⟩ := id h2
  unfold LayM at hM
  have j0 : inb (nI j1) 12 = true := by rw [inb_nI (by omega)]; simp; omega
  have jx := ix_nI (show j1 < 2 ^ 31 by omega)
  have j02 : inb (nI j2) 12 = true := by rw [inb_nI (by omega)]; simp; omega
  have jx2 := ix_nI (show j2 < 2 ^ 31 by omega)
  intro d
  induction d with
  | zero =>
    intro k L hk good bad
    have : nI (s1 + s2) ≤ nI k := nI_le (by omega) (by omega)
    simp [S138_0, S138_1, S138_2, S138_3, BS, ixs, inbs, hM, j0, jx, j02, jx2, k1, k2, nI_add, this]
    exact good L (fun _ _ _ => rfl) (fun i a b => absurd a (by omega))
  | succ d ih =>
    intro k L hk good bad
    have : ¬ nI (s1 + s2) ≤ nI k := nI_ge (by omega) (by omega)
    simp [S138_0, S138_1, S138_2, S138_3, BS, ixs, inbs, hM, j0, jx, j02, jx2, k1, k2, nI_add, this]
    refine m_beat h1 (show k < 1000 by omega) (fun L1 f1 => ?_)
    have mp2 := fun h k' pc ls st Q => m_pow u2 (show k < 1000 by omega) h k' pc ls st Q
    have mp1 := fun h k' pc ls st Q => m_pow u1 (show k < 1000 by omega) h k' pc ls st Q
    simp [S138_0, S138_1, S138_2, S138_3, BS, ixs, inbs, hM, j0, jx, j02, jx2, k77, k772, wL_i2l, mp2]
    refine m_beat h2 (show k < 1000 by omega) (fun L2 f2 => ?_)
    by_cases hp : PLk A1 B1 K1 u1 A2 B2 K2 u2 k
    · have hp' := hp
      unfold PLk at hp'
      simp [S138_0, S138_1, S138_2, S138_3, BS, ixs, inbs, hM, j0, jx, j02, jx2, k1, k2, nI_add, k77, k772, wL_i2l, mp1, wL_mul, lg_eq, hp', nIk]
      refine ih (k + 1) L2 (by omega) (fun L' f' g => good L' (fun c a b => by rw [f' c a b, f2 c a b, f1 c a b]) (fun i a b => ?_)) (fun L' f' g => bad L' (fun c a b => by rw [f' c a b, f2 c a b, f1 c a b]) g)
      by_cases e : i = k
      · rw [e]; exact hp
      · exact g i (by omega) b
    · have hp' := hp
      unfold PLk at hp'
      simp [S138_0, S138_1, S138_2, S138_3, BS, ixs, inbs, hM, j0, jx, j02, jx2, k77, k772, wL_i2l, mp1, wL_mul, lg_eq, hp']
      exact bad L2 (fun c a b => by rw [f2 c a b, f1 c a b]) ⟨k, by omega, hp⟩
/-- the numbers of both: six are as good as s1 + s2 -/
theorem like_six {s1 s2 : Nat} {A1 B1 K1 A2 B2 K2 : Nat → Int} {u1 u2 : Int32} (hs1 : s1 ≤ 3) (hs2 : s2 ≤ 3)
    (zA1 : ∀ i k, i < 3 → k < 3 → s1 ≤ i ∨ s1 ≤ k → A1 (3 * i + k) = 0) (zB1 : ∀ i, i < 3 → s1 ≤ i → B1 i = 0 ∧ K1 i = 0)
    (zA2 : ∀ i k, i < 3 → k < 3 → s2 ≤ i ∨ s2 ≤ k → A2 (3 * i + k) = 0) (zB2 : ∀ i, i < 3 → s2 ≤ i → B2 i = 0 ∧ K2 i = 0)
    (bA1 : ∀ i, i < 9 → bn 12 (A1 i)) (bB1 : ∀ i, i < 3 → bn 12 (B1 i)) (bK1 : ∀ i, i < 3 → bn 12 (K1 i))
    (bA2 : ∀ i, i < 9 → bn 12 (A2 i)) (bB2 : ∀ i, i < 3 → bn 12 (B2 i)) (bK2 : ∀ i, i < 3 → bn 12 (K2 i))
    (hu1 : u1.toInt = 1 ∨ u1.toInt = 2 ∨ u1.toInt = 4) (hu2 : u2.toInt = 1 ∨ u2.toInt = 2 ∨ u2.toInt = 4) :
    (∀ k, k < 6 → PLk A1 B1 K1 u1 A2 B2 K2 u2 k) ↔ (∀ k, k < s1 + s2 → PLk A1 B1 K1 u1 A2 B2 K2 u2 k) := by
  constructor
  · intro h k hk
    exact h k (by omega)
  · intro h k hk
    have e : ∀ k, k < 6 → (PLk A1 B1 K1 u1 A2 B2 K2 u2 k ↔ pl A1 B1 K1 k * u2.toInt ^ k = pl A2 B2 K2 k * u1.toInt ^ k) := by
      intro k hk
      have b1 := bn_mul (bn_pl bA1 bB1 bK1 k) (upow hu2 (show k < 8 by omega)).1
      have b2 := bn_mul (bn_pl bA2 bB2 bK2 k) (upow hu1 (show k < 8 by omega)).1
      have p : 432 * 36 ^ k * 16384 ≤ 428000000000000 := by
        rcases (by omega : k = 0 ∨ k = 1 ∨ k = 2 ∨ k = 3 ∨ k = 4 ∨ k = 5) with h | h | h | h | h | h <;> rw [h] <;> decide
      unfold bn at b1 b2
      exact wL_eq (by omega) (by omega)
    obtain ⟨α, ha⟩ := pl_rec hs1 zA1 zB1 u2.toInt
    obtain ⟨β, hb⟩ := pl_rec hs2 zA2 zB2 u1.toInt
    rw [e k hk]
    exact rec_alike (x := fun k => pl A1 B1 K1 k * u2.toInt ^ k) (y := fun k => pl A2 B2 K2 k * u1.toInt ^ k) ha hb (fun k hk => (e k (by omega)).mp (h k hk)) k
set_option maxRecDepth 100000 in
set_option maxHeartbeats 8000000 in
/-- pulsesAreAlike -/
theorem c_alike {n sl : Nat} {C Z : Nat → Nat} {I : Nat → Nat → Int32} {L : Nat → Nat → Int64} {R : Nat → Nat → Nat} {q1 s1 : Nat} {u1 : Int32} {A1 B1 K1 : Nat → Int} {d1 : Int} {q2 s2 : Nat} {u2 : Int32} {A2 B2 K2 : Nat → Int} {d2 : Int} (h1 : CM C Z I R q1 s1 u1 A1 B1 K1 d1) (h2 : CM C Z I R q2 s2 u2 A2 B2 K2 d2) (hK : LayK C Z R) (hO : LayO C Z R) (hR1 : R 8 0 = q1) (hR2 : R 37 0 = q2) (lk1 : LK L 8 s1 A1 B1 K1) (lk2 : LK L 37 s2 A2 B2 K2) {k pc : Nat} {ls : Lo} {st : List Value} {Q : Option Value → Hp → Prop} (good : I (q1 + 4) 0 = I (q2 + 4) 0 → (∀ k, k < 6 → PLk A1 B1 K1 u1 A2 B2 K2 u2 k) → Wp k pc ls (.int 1 :: st) (n, sl, C, Z, I, L, R) Q) (bad : ¬ I (q1 + 4) 0 = I (q2 + 4) 0 ∨ ¬ (∀ k, k < 6 → PLk A1 B1 K1 u1 A2 B2 K2 u2 k) → Wp k pc ls (.int 0 :: st) (n, sl, C, Z, I, L, R) Q) : Call 33 [some (.ref 8), some (.ref 37), none, none, none, none, none] (n, sl, C, Z, I, L, R) k pc ls st Q := by
  obtain ⟨⟨g0, g1, g2, g3, g4, g5⟩, ⟨r3, r4, r5, r6⟩, ⟨c1, c2, c3, c4, z1, z2, z3, z4⟩, ma, mb1, mc1, md⟩ := id h1
  obtain ⟨⟨G0, G1, G2, G3, G4, G5⟩, ⟨R3, R4, R5, R6⟩, ⟨C1, C2, C3, C4, Z1, Z2, Z3, Z4⟩, -⟩ := id h2
  have c8 : C 8 = 4 := by unfold LayK at hK; simp [hK]
  have c37 : C 37 = 4 := by unfold LayO at hO; simp [hO]
  by_cases hd : I (q1 + 4) 0 = I (q2 + 4) 0
  · have pl1 := fun e (he : e < 8) k pc ls st Q => c_pl8 (n := n) (sl := sl) h1 hK hR1 lk1 he k pc ls st Q
    have pl2 := fun e (he : e < 8) k pc ls st Q => c_pl37 (n := n) (sl := sl) h2 hO hR2 lk2 he k pc ls st Q
    have lp : ∀ d k' a b c e, k' + d = 6 → (∀ i, i < k' → PLk A1 B1 K1 u1 A2 B2 K2 u2 i) → Br 33 83 31 [some (.ref 8), some (.ref 37), some (.int (nI k')), a, b, c, e] [] (n, sl, C, Z, I, L, R) (fun r h1 => Wp k pc ls (r.toList ++ st) h1 Q) ((6 : Int32) ≤ nI k') := by
      intro d
      induction d with
      | zero =>
        intro k' a b c e hk g
        have : k' = 6 := by omega
        subst this
        have h6 : (6 : Int32) ≤ nI 6 := by decide +kernel
        simp [S33_0, S33_1, BS, h6]
        exact good hd g
      | succ d ih =>
        intro k' a b c e hk g
        have h6 : ¬ (6 : Int32) ≤ nI k' := nI_ge (b := 6) (by omega) (by omega)
        have p1 := pl1 k' (by omega)
        have p2 := pl2 k' (by omega)
        have w1 := fun h k pc ls st Q => c_pow u1 (show k' < 1000 by omega) h k pc ls st Q
        have w2 := fun h k pc ls st Q => c_pow u2 (show k' < 1000 by omega) h k pc ls st Q
        by_cases hp : PLk A1 B1 K1 u1 A2 B2 K2 u2 k'
        · have hp' := hp
          unfold PLk at hp'
          simp [S33_0, S33_1, BS, h6, p1, p2, w1, w2, c8, c37, hR1, hR2, g0, G0, g5, G5, wL_mul, lg_eq, hp', nIk]
          exact ih (k' + 1) _ _ _ _ (by omega) (fun i hi => by
            by_cases e : i = k'
            · rw [e]; exact hp
            · exact g i (by omega))
        · have hp' := hp
          unfold PLk at hp'
          simp [S33_0, S33_1, BS, h6, p1, p2, w1, w2, c8, c37, hR1, hR2, g0, G0, g5, G5, wL_mul, lg_eq, hp', nIk]
          exact bad (Or.inr (fun h => hp (h k' (by omega))))
    have := lp 6 0 none none none none (by omega) (fun i hi => absurd hi (by omega))
    rw [nI_0] at this
    have gen : ∀ x0 : Int32, Wp 33 24 [some (.ref 8), some (.ref 37), none, none, none, none, none] [.int x0] (n, sl, C, Z, I, L, R) (fun r h1 => Wp k pc ls (r.toList ++ st) h1 Q) ↔ Br 33 83 31 [some (.ref 8), some (.ref 37), some (.int x0), none, none, none, none] [] (n, sl, C, Z, I, L, R) (fun r h1 => Wp k pc ls (r.toList ++ st) h1 Q) ((6 : Int32) ≤ x0) := fun x0 => by simp [S33_0, S33_1, BS]
    have this2 := (gen 0).mpr this
    simp [S33_0, S33_1, Call_in (k2 := 33), BS, ixs, inbs, c8, c37, hR1, hR2, g0, G0, r6, R6, c4, C4, z4, Z4, hd, ↓this2]
  · have b := bad (Or.inl hd)
    simp [S33_0, S33_1, Call_in (k2 := 33), BS, ixs, inbs, c8, c37, hR1, hR2, g0, G0, r6, R6, c4, C4, z4, Z4, hd, b]
