/-! what keeps a LOOP or a PART -/
theorem ofs : Int32.ofNat 9 = 9 ∧ Int32.ofNat 3 = 3 ∧ Int32.ofNat 1 = 1 ∧ Int32.ofNat 8 = 8 ∧ Int32.ofNat 4 = 4 := by decide
def fit (v : Int32) : Prop := ¬ v < -12 ∧ ¬ (12 : Int32) < v
def fit4 (s : Nat) (A B K : Nat → Int32) (d : Int32) : Prop := (∀ i, i < s → fit (B i) ∧ fit (K i)) ∧ (∀ i k, i < s → k < s → fit (A (3 * i + k))) ∧ fit d
theorem fit_0 : fit 0 := by unfold fit; decide
theorem fit_bnd {v : Int32} (h : fit v) : bnd 12 v := by
  obtain ⟨h1, h2⟩ := h
  rw [Int32.lt_iff_toInt_lt] at h1 h2
  have q1 : (-12 : Int32).toInt = -12 := rfl
  have q2 : (12 : Int32).toInt = 12 := rfl
  rw [q1] at h1
  rw [q2] at h2
  unfold bnd
  omega
theorem bnd_fit {v : Int32} (h : bnd 12 v) : fit v := by
  unfold bnd at h
  unfold fit
  rw [Int32.lt_iff_toInt_lt, Int32.lt_iff_toInt_lt]
  have q1 : (-12 : Int32).toInt = -12 := rfl
  have q2 : (12 : Int32).toInt = 12 := rfl
  rw [q1, q2]
  omega
set_option maxRecDepth 100000 in
set_option maxHeartbeats 4000000 in
theorem kis_in {n sl : Nat} {C Z : Nat → Nat} {I : Nat → Nat → Int32} {L : Nat → Nat → Int64} {R : Nat → Nat → Nat} {Q : Option Value → Hp → Prop} {q arr len : Nat} {tb : Int32} (hC : C arr = 21) (hZ : Z arr = len) (hlen : len < 100) : ∀ d i l6, i + d = len → (∀ l6', (∀ p, i ≤ p → p < len → fit (I arr p)) → Wp 96 54 [some (.ref 1), some (.ref q), some (.int tb), some (.ref arr), some (.int (Int32.ofNat len)), some (.int (Int32.ofNat len)), l6'] [] (n, sl, C, Z, I, L, R) Q) → ((∃ p, p < len ∧ ¬ fit (I arr p)) → Q (some (.int (-4))) (n, sl, C, Z, I, L, R)) → Br 96 54 27 [some (.ref 1), some (.ref q), some (.int tb), some (.ref arr), some (.int (Int32.ofNat len)), some (.int (nI i)), l6] [] (n, sl, C, Z, I, L, R) Q (Int32.ofNat len ≤ nI i) := by
  intro d
  induction d with
  | zero =>
    intro i l6 hi good bad
    have : i = len := by omega
    subst this
    exact Br_of (fun _ => good l6 (fun p h1 h2 => absurd h1 (by omega))) (fun h => absurd (nI_le (a := i) (b := i) (by omega) (by omega)) h)
  | succ d ih =>
    intro i l6 hi good bad
    refine Br_of (fun h => absurd h (nI_ge (a := i) (b := len) (by omega) (by omega))) (fun _ => ?_)
    have h1 : inb (nI i) len = true := by rw [inb_nI (by omega)]; simp; omega
    have h2 := ix_nI (show i < 2 ^ 31 by omega)
    by_cases hf : fit (I arr i)
    · obtain ⟨f1, f2⟩ := id hf
      have := ih (i + 1) (some (.int (I arr i))) (by omega) (fun l6' ha => good l6' (fun p h3 h4 => by
        by_cases e : p = i
        · subst e; exact hf
        · exact ha p (by omega) h4)) bad
      simp [S96_0, S96_1, S95_0, S91_0, S87_0, S53_0, Call_in, BS, ixs, inbs, hC, hZ, h1, h2, f1, f2, nIk]
      exact this
    · have b1 := bad ⟨i, by omega, hf⟩
      by_cases f1 : I arr i < -12
      · simp [S96_0, S96_1, S95_0, S91_0, S87_0, S53_0, Call_in, BS, ixs, inbs, hC, hZ, h1, h2, f1, b1]
      · have f2 : (12 : Int32) < I arr i := Classical.byContradiction (fun f2 => hf ⟨f1, f2⟩)
        simp [S96_0, S96_1, S95_0, S91_0, S87_0, S53_0, Call_in, BS, ixs, inbs, hC, hZ, h1, h2, f1, f2, b1]

set_option maxRecDepth 100000 in
set_option maxHeartbeats 4000000 in
/-- keptIfSmall -/
theorem c_kis {n sl : Nat} {C Z : Nat → Nat} {I : Nat → Nat → Int32} {L : Nat → Nat → Int64} {R : Nat → Nat → Nat} {q M : Nat} (hB : LayB C Z R) (hq : C q = 5) (hq0 : ¬ q = 0) (hr : R q 3 = q + 1 ∧ R q 4 = q + 2 ∧ R q 5 = q + 3 ∧ R q 6 = q + 4) (hc : C (q + 1) = 21 ∧ C (q + 2) = 21 ∧ C (q + 3) = 21 ∧ C (q + 4) = 21 ∧ Z (q + 1) = 9 ∧ Z (q + 2) = 3 ∧ Z (q + 3) = 3 ∧ Z (q + 4) = 1) (hM : M < 12) (e1 : I 1 1 = nI M) {k pc : Nat} {ls : Lo} {st : List Value} {Q : Option Value → Hp → Prop}
    (good : (∀ p, p < 9 → fit (I (q + 1) p)) → (∀ p, p < 3 → fit (I (q + 2) p)) → (∀ p, p < 3 → fit (I (q + 3) p)) → fit (I (q + 4) 0) → Wp k pc ls (.int (nI M) :: st) (n, sl, C, Z, u2 I 1 1 (nI (M + 1)), L, u2 R 2 M q) Q) (bad : ((∃ p, p < 9 ∧ ¬ fit (I (q + 1) p)) ∨ (∃ p, p < 3 ∧ ¬ fit (I (q + 2) p)) ∨ (∃ p, p < 3 ∧ ¬ fit (I (q + 3) p)) ∨ (∃ p, p < 1 ∧ ¬ fit (I (q + 4) p))) → Wp k pc ls (.int (-4) :: st) (n, sl, C, Z, I, L, R) Q) : Call 96 [some (.ref 1), some (.ref q), none, none, none, none, none] (n, sl, C, Z, I, L, R) k pc ls st Q := by
  unfold LayB at hB
  obtain ⟨c1, c2, c3, c4, z1, z2, z3, z4⟩ := hc
  have p2 : ¬ (12 : Int32) ≤ nI M := nI_ge (b := 12) (by omega) (by omega)
  have p1 : nI M < 12 := nI_lt (b := 12) (by omega) (by omega)
  have p3 : inb (nI M) 12 = true := by rw [inb_nI (by omega)]; simp; omega
  have p4 := ix_nI (show M < 2 ^ 31 by omega)
  have p5 : nI M + 1 = nI (M + 1) := nI_1 M
  obtain ⟨l1, hl1⟩ : ∃ l, l = 9 := ⟨9, rfl⟩
  obtain ⟨l2, hl2⟩ : ∃ l, l = 3 := ⟨3, rfl⟩
  obtain ⟨l4, hl4⟩ : ∃ l, l = 1 := ⟨1, rfl⟩
  replace z1 := z1.trans hl1.symm
  replace z2 := z2.trans hl2.symm
  replace z3 := z3.trans hl2.symm
  replace z4 := z4.trans hl4.symm
  simp [S96_0, S96_1, S95_0, S91_0, S87_0, S53_0, Call_in, BS, ixs, inbs, inGs, hB, hq, hq0, hr, c1, c2, c3, c4, z1, z2, z3, z4]
  have k1 := kis_in (n := n) (sl := sl) (L := L) (R := R) (I := I) (Q := fun r h1 => Wp k pc ls (r.toList ++ st) h1 Q) (q := q) (tb := 0) c1 z1 (by omega) l1 0 none (by omega)
  rw [nI_0] at k1
  refine k1 (fun l6 ok1 => ?_) (fun hb => bad (Or.inl (by obtain ⟨p, h1, h2⟩ := hb; exact ⟨p, by omega, h2⟩)))
  simp [S96_0, S96_1, S95_0, S91_0, S87_0, S53_0, Call_in, BS, ixs, inbs, inGs, hB, hq, hq0, hr, c1, c2, c3, c4, z1, z2, z3, z4]
  have k2 := fun l6 => kis_in (n := n) (sl := sl) (L := L) (R := R) (I := I) (Q := fun r h1 => Wp k pc ls (r.toList ++ st) h1 Q) (q := q) (tb := 1) c2 z2 (by omega) l2 0 l6 (by omega)
  simp only [nI_0] at k2
  refine k2 _ (fun l6 ok2 => ?_) (fun hb => bad (Or.inr (Or.inl (by obtain ⟨p, h1, h2⟩ := hb; exact ⟨p, by omega, h2⟩))))
  simp [S96_0, S96_1, S95_0, S91_0, S87_0, S53_0, Call_in, BS, ixs, inbs, inGs, hB, hq, hq0, hr, c1, c2, c3, c4, z1, z2, z3, z4]
  have k3 := fun l6 => kis_in (n := n) (sl := sl) (L := L) (R := R) (I := I) (Q := fun r h1 => Wp k pc ls (r.toList ++ st) h1 Q) (q := q) (tb := 2) c3 z3 (by omega) l2 0 l6 (by omega)
  simp only [nI_0] at k3
  refine k3 _ (fun l6 ok3 => ?_) (fun hb => bad (Or.inr (Or.inr (Or.inl (by obtain ⟨p, h1, h2⟩ := hb; exact ⟨p, by omega, h2⟩)))))
  simp [S96_0, S96_1, S95_0, S91_0, S87_0, S53_0, Call_in, BS, ixs, inbs, inGs, hB, hq, hq0, hr, c1, c2, c3, c4, z1, z2, z3, z4]
  have k4 := fun l6 => kis_in (n := n) (sl := sl) (L := L) (R := R) (I := I) (Q := fun r h1 => Wp k pc ls (r.toList ++ st) h1 Q) (q := q) (tb := 3) c4 z4 (by omega) l4 0 l6 (by omega)
  simp only [nI_0] at k4
  refine k4 _ (fun l6 ok4 => ?_) (fun hb => bad (Or.inr (Or.inr (Or.inr (by obtain ⟨p, h1, h2⟩ := hb; exact ⟨p, by omega, h2⟩)))))
  have g := good (fun p hp => ok1 p (by omega) (by omega)) (fun p hp => ok2 p (by omega) (by omega)) (fun p hp => ok3 p (by omega) (by omega)) (ok4 0 (by omega) (by omega))
  simp [S96_0, S96_1, S95_0, S91_0, S87_0, S53_0, Call_in, BS, ixs, inbs, hB, hq, hq0, hr, c1, c2, c3, c4, z1, z2, z3, z4, e1, p1, p2, p3, p4, p5, nI_pred, inGs, okS, u2_rd, g]

