set_option maxRecDepth 100000 in
set_option maxHeartbeats 8000000 in
theorem ms_srch {n sl : Nat} {C Z : Nat → Nat} {I : Nat → Nat → Int32} {L : Nat → Nat → Int64} {R : Nat → Nat → Nat} {Q : Option Value → Hp → Prop} {m r kc pf : Nat} {l5 l6 l7 l8 l9 l10 : Option Value} (hM : LayM C Z R) (hm : m ≤ 4) (hk : kc < 3) (hp : pf ≤ m) (go : Br 128 40 18 [some (.ref 74), some (.int (nI m)), some (.int (nI r)), some (.int (nI kc)), some (.int (nI pf)), l5, l6, l7, l8, l9, l10] [] (n, sl, C, Z, I, L, R) Q (nI m ≤ nI pf)) : ∀ d p, p + d = pf → (∀ x, p ≤ x → x < pf → L 95 (3 * x + kc) = 0) → Br 128 40 18 [some (.ref 74), some (.int (nI m)), some (.int (nI r)), some (.int (nI kc)), some (.int (nI p)), l5, l6, l7, l8, l9, l10] [] (n, sl, C, Z, I, L, R) Q (nI m ≤ nI p) := by
  unfold LayM at hM
  intro d
  induction d with
  | zero =>
    intro p hpd hz
    have e : p = pf := by omega
    rw [e]; exact go
  | succ d ih =>
    intro p hpd hz
    have c1 : ¬ nI m ≤ nI p := nI_ge (by omega) (by omega)
    have h1 : inb (nI (3 * p + kc)) 12 = true := by rw [inb_nI (by omega)]; simp; omega
    have h2 := ix_nI (show 3 * p + kc < 2 ^ 31 by omega)
    have h3 := hz p (by omega) (by omega)
    have := ih (p + 1) (by omega) (fun x h4 h5 => hz x (by omega) h5)
    simp [S128_0, S128_1, S128_2, S128_3, S128_4, S128_5, S128_6, BS, c1, hM, mul3, nI_add, h1, h2, h3, lg_eq, nIk]
    exact this
set_option maxRecDepth 100000 in
set_option maxHeartbeats 8000000 in
theorem ms_none {n sl : Nat} {C Z : Nat → Nat} {I : Nat → Nat → Int32} {L : Nat → Nat → Int64} {R : Nat → Nat → Nat} {Q : Option Value → Hp → Prop} {m r kc : Nat} {l4 l5 l6 l7 l8 l9 l10 : Option Value} (hM : LayM C Z R) (hm : m ≤ 4) (hk : kc < 3) (hr : r ≤ m) (hz : ∀ x, r ≤ x → x < m → L 95 (3 * x + kc) = 0) (go : Br 128 279 9 [some (.ref 74), some (.int (nI m)), some (.int (nI r)), some (.int (nI (kc + 1))), some (.int (nI m)), l5, l6, l7, l8, l9, l10] [] (n, sl, C, Z, I, L, R) Q ((3 : Int32) ≤ nI (kc + 1))) : Br 128 279 9 [some (.ref 74), some (.int (nI m)), some (.int (nI r)), some (.int (nI kc)), l4, l5, l6, l7, l8, l9, l10] [] (n, sl, C, Z, I, L, R) Q ((3 : Int32) ≤ nI kc) := by
  have c3 : ¬ (3 : Int32) ≤ nI kc := nI_ge (b := 3) (by omega) (by omega)
  have c1 : nI m ≤ nI m := nI_le (Nat.le_refl _) (by omega)
  have s := ms_srch (n := n) (sl := sl) (I := I) (Q := Q) (r := r) (l5 := l5) (l6 := l6) (l7 := l7) (l8 := l8) (l9 := l9) (l10 := l10) hM hm hk (Nat.le_refl m) ?_ (m - r) r (by omega) hz
  · simp [S128_0, S128_1, S128_2, S128_3, S128_4, S128_5, S128_6, BS, c3]
    exact s
  · simp [S128_0, S128_1, S128_2, S128_3, S128_4, S128_5, S128_6, BS, c1, nIk]
    exact go
set_option maxRecDepth 100000 in
set_option maxHeartbeats 8000000 in
theorem ms_fnd_00 {n sl : Nat} {C Z : Nat → Nat} {I : Nat → Nat → Int32} {L : Nat → Nat → Int64} {R : Nat → Nat → Nat} {Q : Option Value → Hp → Prop} {m kc : Nat} {l4 l5 l6 l7 l8 l9 l10 : Option Value} (hM : LayM C Z R) (hm : m ≤ 4) (hk : kc < 3) (hp : 0 < m) (hz : ∀ x, 0 ≤ x → x < 0 → L 95 (3 * x + kc) = 0) (hn : ¬ L 95 (3 * 0 + kc) = 0) (go : ∀ L' l6, (∀ c, c ≠ 95 → L' c = L c) → (∀ c, c < 3 → L' 95 (3 * 0 + c) = L 95 (3 * 0 + c) ∧ L' 95 (3 * 0 + c) = L 95 (3 * 0 + c)) → (∀ x c, x < 4 → c < 3 → x ≠ 0 → x ≠ 0 → L' 95 (3 * x + c) = L 95 (3 * x + c)) → Br 128 270 125 [some (.ref 74), some (.int (nI m)), some (.int (nI 0)), some (.int (nI kc)), some (.int (nI 0)), some (.int (nI (0 + 1))), l6, none, l8, l9, l10] [] (n, sl, C, Z, I, L', R) Q (nI m ≤ nI (0 + 1))) : Br 128 279 9 [some (.ref 74), some (.int (nI m)), some (.int (nI 0)), some (.int (nI kc)), l4, l5, l6, l7, l8, l9, l10] [] (n, sl, C, Z, I, L, R) Q ((3 : Int32) ≤ nI kc) := by
  have hM' := hM
  unfold LayM at hM
  have c3 : ¬ (3 : Int32) ≤ nI kc := nI_ge (b := 3) (by omega) (by omega)
  have c1 : ¬ nI m ≤ nI 0 := nI_ge (by omega) (by omega)
  have c2 : nI 0 < nI m := nI_lt (by omega) (by omega)
  have h1 : inb (nI (3 * 0 + kc)) 12 = true := by rw [inb_nI (by omega)]; simp; omega
  have h2 := ix_nI (show 3 * 0 + kc < 2 ^ 31 by omega)
  have s := ms_srch (n := n) (sl := sl) (I := I) (Q := Q) (r := 0) (l5 := l5) (l6 := l6) (l7 := l7) (l8 := l8) (l9 := l9) (l10 := l10) hM' hm hk (pf := 0) (by omega) ?_ 0 0 (by omega) hz
  · simp [S128_0, S128_1, S128_2, S128_3, S128_4, S128_5, S128_6, BS, c3]
    exact s
  · rw [show (nI m ≤ nI 0) = False from eq_false c1]
    have e1 : Wp 128 49 [some (.ref 74), some (.int (nI m)), some (.int (nI 0)), some (.int (nI kc)), some (.int (nI 0)), l5, l6, l7, l8, l9, l10] [] (n, sl, C, Z, I, L, R) Q := by
      have n0 : nI 0 = 0 := rfl
      have n1 : nI 1 = 1 := rfl
      have n2 : nI 2 = 2 := rfl
      have n3 : nI 3 = 3 := rfl
      simp only [n0, n1, n2, n3, Nat.reduceAdd] at go ⊢
      simp [S128_0, S128_1, S128_2, S128_3, S128_4, S128_5, S128_6, BS, ixs, inbs, hM, u2_rd]
      refine go _ _ (fun c h => ?_) (fun c hc => ?_) (fun x c hx hc h4 h5 => ?_)
      · repeat (first | rw [u2_ne _ _ _ h])
      · rcases i3 hc with rfl | rfl | rfl <;> simp [u2_rd]
      · rcases i4 hx with rfl | rfl | rfl | rfl <;> rcases i3 hc with rfl | rfl | rfl <;> simp [u2_rd] at h4 h5 ⊢
    have e2 : Wp 128 40 [some (.ref 74), some (.int (nI m)), some (.int (nI 0)), some (.int (nI kc)), some (.int (nI 0)), l5, l6, l7, l8, l9, l10] [] (n, sl, C, Z, I, L, R) Q := by
      simp [S128_0, S128_1, S128_2, S128_3, S128_4, S128_5, S128_6, BS, c2, ↓e1]
    simp only [BS.2.1]
    simp only [Nat.mul_zero, Nat.zero_add] at h1 h2 hn
    simp [S128_0, S128_1, S128_2, S128_3, S128_4, S128_5, S128_6, BS, hM, mul3, nI_add, h1, h2, hn, lg_eq, ↓e2]
set_option maxRecDepth 100000 in
set_option maxHeartbeats 8000000 in
theorem ms_fnd_01 {n sl : Nat} {C Z : Nat → Nat} {I : Nat → Nat → Int32} {L : Nat → Nat → Int64} {R : Nat → Nat → Nat} {Q : Option Value → Hp → Prop} {m kc : Nat} {l4 l5 l6 l7 l8 l9 l10 : Option Value} (hM : LayM C Z R) (hm : m ≤ 4) (hk : kc < 3) (hp : 1 < m) (hz : ∀ x, 0 ≤ x → x < 1 → L 95 (3 * x + kc) = 0) (hn : ¬ L 95 (3 * 1 + kc) = 0) (go : ∀ L' l6, (∀ c, c ≠ 95 → L' c = L c) → (∀ c, c < 3 → L' 95 (3 * 0 + c) = L 95 (3 * 1 + c) ∧ L' 95 (3 * 1 + c) = L 95 (3 * 0 + c)) → (∀ x c, x < 4 → c < 3 → x ≠ 0 → x ≠ 1 → L' 95 (3 * x + c) = L 95 (3 * x + c)) → Br 128 270 125 [some (.ref 74), some (.int (nI m)), some (.int (nI 0)), some (.int (nI kc)), some (.int (nI 1)), some (.int (nI (0 + 1))), l6, none, l8, l9, l10] [] (n, sl, C, Z, I, L', R) Q (nI m ≤ nI (0 + 1))) : Br 128 279 9 [some (.ref 74), some (.int (nI m)), some (.int (nI 0)), some (.int (nI kc)), l4, l5, l6, l7, l8, l9, l10] [] (n, sl, C, Z, I, L, R) Q ((3 : Int32) ≤ nI kc) := by
  have hM' := hM
  unfold LayM at hM
  have c3 : ¬ (3 : Int32) ≤ nI kc := nI_ge (b := 3) (by omega) (by omega)
  have c1 : ¬ nI m ≤ nI 1 := nI_ge (by omega) (by omega)
  have c2 : nI 1 < nI m := nI_lt (by omega) (by omega)
  have h1 : inb (nI (3 * 1 + kc)) 12 = true := by rw [inb_nI (by omega)]; simp; omega
  have h2 := ix_nI (show 3 * 1 + kc < 2 ^ 31 by omega)
  have s := ms_srch (n := n) (sl := sl) (I := I) (Q := Q) (r := 0) (l5 := l5) (l6 := l6) (l7 := l7) (l8 := l8) (l9 := l9) (l10 := l10) hM' hm hk (pf := 1) (by omega) ?_ 1 0 (by omega) hz
  · simp [S128_0, S128_1, S128_2, S128_3, S128_4, S128_5, S128_6, BS, c3]
    exact s
  · rw [show (nI m ≤ nI 1) = False from eq_false c1]
    have e1 : Wp 128 49 [some (.ref 74), some (.int (nI m)), some (.int (nI 0)), some (.int (nI kc)), some (.int (nI 1)), l5, l6, l7, l8, l9, l10] [] (n, sl, C, Z, I, L, R) Q := by
      have n0 : nI 0 = 0 := rfl
      have n1 : nI 1 = 1 := rfl
      have n2 : nI 2 = 2 := rfl
      have n3 : nI 3 = 3 := rfl
      simp only [n0, n1, n2, n3, Nat.reduceAdd] at go ⊢
      simp [S128_0, S128_1, S128_2, S128_3, S128_4, S128_5, S128_6, BS, ixs, inbs, hM, u2_rd]
      refine go _ _ (fun c h => ?_) (fun c hc => ?_) (fun x c hx hc h4 h5 => ?_)
      · repeat (first | rw [u2_ne _ _ _ h])
      · rcases i3 hc with rfl | rfl | rfl <;> simp [u2_rd]
      · rcases i4 hx with rfl | rfl | rfl | rfl <;> rcases i3 hc with rfl | rfl | rfl <;> simp [u2_rd] at h4 h5 ⊢
    have e2 : Wp 128 40 [some (.ref 74), some (.int (nI m)), some (.int (nI 0)), some (.int (nI kc)), some (.int (nI 1)), l5, l6, l7, l8, l9, l10] [] (n, sl, C, Z, I, L, R) Q := by
      simp [S128_0, S128_1, S128_2, S128_3, S128_4, S128_5, S128_6, BS, c2, ↓e1]
    simp only [BS.2.1]
    simp [S128_0, S128_1, S128_2, S128_3, S128_4, S128_5, S128_6, BS, hM, mul3, nI_add, h1, h2, hn, lg_eq, ↓e2]
set_option maxRecDepth 100000 in
set_option maxHeartbeats 8000000 in
theorem ms_fnd_02 {n sl : Nat} {C Z : Nat → Nat} {I : Nat → Nat → Int32} {L : Nat → Nat → Int64} {R : Nat → Nat → Nat} {Q : Option Value → Hp → Prop} {m kc : Nat} {l4 l5 l6 l7 l8 l9 l10 : Option Value} (hM : LayM C Z R) (hm : m ≤ 4) (hk : kc < 3) (hp : 2 < m) (hz : ∀ x, 0 ≤ x → x < 2 → L 95 (3 * x + kc) = 0) (hn : ¬ L 95 (3 * 2 + kc) = 0) (go : ∀ L' l6, (∀ c, c ≠ 95 → L' c = L c) → (∀ c, c < 3 → L' 95 (3 * 0 + c) = L 95 (3 * 2 + c) ∧ L' 95 (3 * 2 + c) = L 95 (3 * 0 + c)) → (∀ x c, x < 4 → c < 3 → x ≠ 0 → x ≠ 2 → L' 95 (3 * x + c) = L 95 (3 * x + c)) → Br 128 270 125 [some (.ref 74), some (.int (nI m)), some (.int (nI 0)), some (.int (nI kc)), some (.int (nI 2)), some (.int (nI (0 + 1))), l6, none, l8, l9, l10] [] (n, sl, C, Z, I, L', R) Q (nI m ≤ nI (0 + 1))) : Br 128 279 9 [some (.ref 74), some (.int (nI m)), some (.int (nI 0)), some (.int (nI kc)), l4, l5, l6, l7, l8, l9, l10] [] (n, sl, C, Z, I, L, R) Q ((3 : Int32) ≤ nI kc) := by
  have hM' := hM
  unfold LayM at hM
  have c3 : ¬ (3 : Int32) ≤ nI kc := nI_ge (b := 3) (by omega) (by omega)
  have c1 : ¬ nI m ≤ nI 2 := nI_ge (by omega) (by omega)
  have c2 : nI 2 < nI m := nI_lt (by omega) (by omega)
  have h1 : inb (nI (3 * 2 + kc)) 12 = true := by rw [inb_nI (by omega)]; simp; omega
  have h2 := ix_nI (show 3 * 2 + kc < 2 ^ 31 by omega)
  have s := ms_srch (n := n) (sl := sl) (I := I) (Q := Q) (r := 0) (l5 := l5) (l6 := l6) (l7 := l7) (l8 := l8) (l9 := l9) (l10 := l10) hM' hm hk (pf := 2) (by omega) ?_ 2 0 (by omega) hz
  · simp [S128_0, S128_1, S128_2, S128_3, S128_4, S128_5, S128_6, BS, c3]
    exact s
  · rw [show (nI m ≤ nI 2) = False from eq_false c1]
    have e1 : Wp 128 49 [some (.ref 74), some (.int (nI m)), some (.int (nI 0)), some (.int (nI kc)), some (.int (nI 2)), l5, l6, l7, l8, l9, l10] [] (n, sl, C, Z, I, L, R) Q := by
      have n0 : nI 0 = 0 := rfl
      have n1 : nI 1 = 1 := rfl
      have n2 : nI 2 = 2 := rfl
      have n3 : nI 3 = 3 := rfl
      simp only [n0, n1, n2, n3, Nat.reduceAdd] at go ⊢
      simp [S128_0, S128_1, S128_2, S128_3, S128_4, S128_5, S128_6, BS, ixs, inbs, hM, u2_rd]
      refine go _ _ (fun c h => ?_) (fun c hc => ?_) (fun x c hx hc h4 h5 => ?_)
      · repeat (first | rw [u2_ne _ _ _ h])
      · rcases i3 hc with rfl | rfl | rfl <;> simp [u2_rd]
      · rcases i4 hx with rfl | rfl | rfl | rfl <;> rcases i3 hc with rfl | rfl | rfl <;> simp [u2_rd] at h4 h5 ⊢
    have e2 : Wp 128 40 [some (.ref 74), some (.int (nI m)), some (.int (nI 0)), some (.int (nI kc)), some (.int (nI 2)), l5, l6, l7, l8, l9, l10] [] (n, sl, C, Z, I, L, R) Q := by
      simp [S128_0, S128_1, S128_2, S128_3, S128_4, S128_5, S128_6, BS, c2, ↓e1]
    simp only [BS.2.1]
    simp [S128_0, S128_1, S128_2, S128_3, S128_4, S128_5, S128_6, BS, hM, mul3, nI_add, h1, h2, hn, lg_eq, ↓e2]
set_option maxRecDepth 100000 in
set_option maxHeartbeats 8000000 in
theorem ms_fnd_03 {n sl : Nat} {C Z : Nat → Nat} {I : Nat → Nat → Int32} {L : Nat → Nat → Int64} {R : Nat → Nat → Nat} {Q : Option Value → Hp → Prop} {m kc : Nat} {l4 l5 l6 l7 l8 l9 l10 : Option Value} (hM : LayM C Z R) (hm : m ≤ 4) (hk : kc < 3) (hp : 3 < m) (hz : ∀ x, 0 ≤ x → x < 3 → L 95 (3 * x + kc) = 0) (hn : ¬ L 95 (3 * 3 + kc) = 0) (go : ∀ L' l6, (∀ c, c ≠ 95 → L' c = L c) → (∀ c, c < 3 → L' 95 (3 * 0 + c) = L 95 (3 * 3 + c) ∧ L' 95 (3 * 3 + c) = L 95 (3 * 0 + c)) → (∀ x c, x < 4 → c < 3 → x ≠ 0 → x ≠ 3 → L' 95 (3 * x + c) = L 95 (3 * x + c)) → Br 128 270 125 [some (.ref 74), some (.int (nI m)), some (.int (nI 0)), some (.int (nI kc)), some (.int (nI 3)), some (.int (nI (0 + 1))), l6, none, l8, l9, l10] [] (n, sl, C, Z, I, L', R) Q (nI m ≤ nI (0 + 1))) : Br 128 279 9 [some (.ref 74), some (.int (nI m)), some (.int (nI 0)), some (.int (nI kc)), l4, l5, l6, l7, l8, l9, l10] [] (n, sl, C, Z, I, L, R) Q ((3 : Int32) ≤ nI kc) := by
  have hM' := hM
  unfold LayM at hM
  have c3 : ¬ (3 : Int32) ≤ nI kc := nI_ge (b := 3) (by omega) (by omega)
  have c1 : ¬ nI m ≤ nI 3 := nI_ge (by omega) (by omega)
  have c2 : nI 3 < nI m := nI_lt (by omega) (by omega)
  have h1 : inb (nI (3 * 3 + kc)) 12 = true := by rw [inb_nI (by omega)]; simp; omega
  have h2 := ix_nI (show 3 * 3 + kc < 2 ^ 31 by omega)
  have s := ms_srch (n := n) (sl := sl) (I := I) (Q := Q) (r := 0) (l5 := l5) (l6 := l6) (l7 := l7) (l8 := l8) (l9 := l9) (l10 := l10) hM' hm hk (pf := 3) (by omega) ?_ 3 0 (by omega) hz
  · simp [S128_0, S128_1, S128_2, S128_3, S128_4, S128_5, S128_6, BS, c3]
    exact s
  · rw [show (nI m ≤ nI 3) = False from eq_false c1]
    have e1 : Wp 128 49 [some (.ref 74), some (.int (nI m)), some (.int (nI 0)), some (.int (nI kc)), some (.int (nI 3)), l5, l6, l7, l8, l9, l10] [] (n, sl, C, Z, I, L, R) Q := by
      have n0 : nI 0 = 0 := rfl
      have n1 : nI 1 = 1 := rfl
      have n2 : nI 2 = 2 := rfl
      have n3 : nI 3 = 3 := rfl
      simp only [n0, n1, n2, n3, Nat.reduceAdd] at go ⊢
      simp [S128_0, S128_1, S128_2, S128_3, S128_4, S128_5, S128_6, BS, ixs, inbs, hM, u2_rd]
      refine go _ _ (fun c h => ?_) (fun c hc => ?_) (fun x c hx hc h4 h5 => ?_)
      · repeat (first | rw [u2_ne _ _ _ h])
      · rcases i3 hc with rfl | rfl | rfl <;> simp [u2_rd]
      · rcases i4 hx with rfl | rfl | rfl | rfl <;> rcases i3 hc with rfl | rfl | rfl <;> simp [u2_rd] at h4 h5 ⊢
    have e2 : Wp 128 40 [some (.ref 74), some (.int (nI m)), some (.int (nI 0)), some (.int (nI kc)), some (.int (nI 3)), l5, l6, l7, l8, l9, l10] [] (n, sl, C, Z, I, L, R) Q := by
      simp [S128_0, S128_1, S128_2, S128_3, S128_4, S128_5, S128_6, BS, c2, ↓e1]
    simp only [BS.2.1]
    simp [S128_0, S128_1, S128_2, S128_3, S128_4, S128_5, S128_6, BS, hM, mul3, nI_add, h1, h2, hn, lg_eq, ↓e2]
set_option maxRecDepth 100000 in
set_option maxHeartbeats 8000000 in
theorem ms_fnd_11 {n sl : Nat} {C Z : Nat → Nat} {I : Nat → Nat → Int32} {L : Nat → Nat → Int64} {R : Nat → Nat → Nat} {Q : Option Value → Hp → Prop} {m kc : Nat} {l4 l5 l6 l7 l8 l9 l10 : Option Value} (hM : LayM C Z R) (hm : m ≤ 4) (hk : kc < 3) (hp : 1 < m) (hz : ∀ x, 1 ≤ x → x < 1 → L 95 (3 * x + kc) = 0) (hn : ¬ L 95 (3 * 1 + kc) = 0) (go : ∀ L' l6, (∀ c, c ≠ 95 → L' c = L c) → (∀ c, c < 3 → L' 95 (3 * 1 + c) = L 95 (3 * 1 + c) ∧ L' 95 (3 * 1 + c) = L 95 (3 * 1 + c)) → (∀ x c, x < 4 → c < 3 → x ≠ 1 → x ≠ 1 → L' 95 (3 * x + c) = L 95 (3 * x + c)) → Br 128 270 125 [some (.ref 74), some (.int (nI m)), some (.int (nI 1)), some (.int (nI kc)), some (.int (nI 1)), some (.int (nI (1 + 1))), l6, none, l8, l9, l10] [] (n, sl, C, Z, I, L', R) Q (nI m ≤ nI (1 + 1))) : Br 128 279 9 [some (.ref 74), some (.int (nI m)), some (.int (nI 1)), some (.int (nI kc)), l4, l5, l6, l7, l8, l9, l10] [] (n, sl, C, Z, I, L, R) Q ((3 : Int32) ≤ nI kc) := by
  have hM' := hM
  unfold LayM at hM
  have c3 : ¬ (3 : Int32) ≤ nI kc := nI_ge (b := 3) (by omega) (by omega)
  have c1 : ¬ nI m ≤ nI 1 := nI_ge (by omega) (by omega)
  have c2 : nI 1 < nI m := nI_lt (by omega) (by omega)
  have h1 : inb (nI (3 * 1 + kc)) 12 = true := by rw [inb_nI (by omega)]; simp; omega
  have h2 := ix_nI (show 3 * 1 + kc < 2 ^ 31 by omega)
  have s := ms_srch (n := n) (sl := sl) (I := I) (Q := Q) (r := 1) (l5 := l5) (l6 := l6) (l7 := l7) (l8 := l8) (l9 := l9) (l10 := l10) hM' hm hk (pf := 1) (by omega) ?_ 0 1 (by omega) hz
  · simp [S128_0, S128_1, S128_2, S128_3, S128_4, S128_5, S128_6, BS, c3]
    exact s
  · rw [show (nI m ≤ nI 1) = False from eq_false c1]
    have e1 : Wp 128 49 [some (.ref 74), some (.int (nI m)), some (.int (nI 1)), some (.int (nI kc)), some (.int (nI 1)), l5, l6, l7, l8, l9, l10] [] (n, sl, C, Z, I, L, R) Q := by
      have n0 : nI 0 = 0 := rfl
      have n1 : nI 1 = 1 := rfl
      have n2 : nI 2 = 2 := rfl
      have n3 : nI 3 = 3 := rfl
      simp only [n0, n1, n2, n3, Nat.reduceAdd] at go ⊢
      simp [S128_0, S128_1, S128_2, S128_3, S128_4, S128_5, S128_6, BS, ixs, inbs, hM, u2_rd]
      refine go _ _ (fun c h => ?_) (fun c hc => ?_) (fun x c hx hc h4 h5 => ?_)
      · repeat (first | rw [u2_ne _ _ _ h])
      · rcases i3 hc with rfl | rfl | rfl <;> simp [u2_rd]
      · rcases i4 hx with rfl | rfl | rfl | rfl <;> rcases i3 hc with rfl | rfl | rfl <;> simp [u2_rd] at h4 h5 ⊢
    have e2 : Wp 128 40 [some (.ref 74), some (.int (nI m)), some (.int (nI 1)), some (.int (nI kc)), some (.int (nI 1)), l5, l6, l7, l8, l9, l10] [] (n, sl, C, Z, I, L, R) Q := by
      simp [S128_0, S128_1, S128_2, S128_3, S128_4, S128_5, S128_6, BS, c2, ↓e1]
    simp only [BS.2.1]
    simp [S128_0, S128_1, S128_2, S128_3, S128_4, S128_5, S128_6, BS, hM, mul3, nI_add, h1, h2, hn, lg_eq, ↓e2]
set_option maxRecDepth 100000 in
set_option maxHeartbeats 8000000 in
theorem ms_fnd_12 {n sl : Nat} {C Z : Nat → Nat} {I : Nat → Nat → Int32} {L : Nat → Nat → Int64} {R : Nat → Nat → Nat} {Q : Option Value → Hp → Prop} {m kc : Nat} {l4 l5 l6 l7 l8 l9 l10 : Option Value} (hM : LayM C Z R) (hm : m ≤ 4) (hk : kc < 3) (hp : 2 < m) (hz : ∀ x, 1 ≤ x → x < 2 → L 95 (3 * x + kc) = 0) (hn : ¬ L 95 (3 * 2 + kc) = 0) (go : ∀ L' l6, (∀ c, c ≠ 95 → L' c = L c) → (∀ c, c < 3 → L' 95 (3 * 1 + c) = L 95 (3 * 2 + c) ∧ L' 95 (3 * 2 + c) = L 95 (3 * 1 + c)) → (∀ x c, x < 4 → c < 3 → x ≠ 1 → x ≠ 2 → L' 95 (3 * x + c) = L 95 (3 * x + c)) → Br 128 270 125 [some (.ref 74), some (.int (nI m)), some (.int (nI 1)), some (.int (nI kc)), some (.int (nI 2)), some (.int (nI (1 + 1))), l6, none, l8, l9, l10] [] (n, sl, C, Z, I, L', R) Q (nI m ≤ nI (1 + 1))) : Br 128 279 9 [some (.ref 74), some (.int (nI m)), some (.int (nI 1)), some (.int (nI kc)), l4, l5, l6, l7, l8, l9, l10] [] (n, sl, C, Z, I, L, R) Q ((3 : Int32) ≤ nI kc) := by
  have hM' := hM
  unfold LayM at hM
  have c3 : ¬ (3 : Int32) ≤ nI kc := nI_ge (b := 3) (by omega) (by omega)
  have c1 : ¬ nI m ≤ nI 2 := nI_ge (by omega) (by omega)
  have c2 : nI 2 < nI m := nI_lt (by omega) (by omega)
  have h1 : inb (nI (3 * 2 + kc)) 12 = true := by rw [inb_nI (by omega)]; simp; omega
  have h2 := ix_nI (show 3 * 2 + kc < 2 ^ 31 by omega)
  have s := ms_srch (n := n) (sl := sl) (I := I) (Q := Q) (r := 1) (l5 := l5) (l6 := l6) (l7 := l7) (l8 := l8) (l9 := l9) (l10 := l10) hM' hm hk (pf := 2) (by omega) ?_ 1 1 (by omega) hz
  · simp [S128_0, S128_1, S128_2, S128_3, S128_4, S128_5, S128_6, BS, c3]
    exact s
  · rw [show (nI m ≤ nI 2) = False from eq_false c1]
    have e1 : Wp 128 49 [some (.ref 74), some (.int (nI m)), some (.int (nI 1)), some (.int (nI kc)), some (.int (nI 2)), l5, l6, l7, l8, l9, l10] [] (n, sl, C, Z, I, L, R) Q := by
      have n0 : nI 0 = 0 := rfl
      have n1 : nI 1 = 1 := rfl
      have n2 : nI 2 = 2 := rfl
      have n3 : nI 3 = 3 := rfl
      simp only [n0, n1, n2, n3, Nat.reduceAdd] at go ⊢
      simp [S128_0, S128_1, S128_2, S128_3, S128_4, S128_5, S128_6, BS, ixs, inbs, hM, u2_rd]
      refine go _ _ (fun c h => ?_) (fun c hc => ?_) (fun x c hx hc h4 h5 => ?_)
      · repeat (first | rw [u2_ne _ _ _ h])
      · rcases i3 hc with rfl | rfl | rfl <;> simp [u2_rd]
      · rcases i4 hx with rfl | rfl | rfl | rfl <;> rcases i3 hc with rfl | rfl | rfl <;> simp [u2_rd] at h4 h5 ⊢
    have e2 : Wp 128 40 [some (.ref 74), some (.int (nI m)), some (.int (nI 1)), some (.int (nI kc)), some (.int (nI 2)), l5, l6, l7, l8, l9, l10] [] (n, sl, C, Z, I, L, R) Q := by
      simp [S128_0, S128_1, S128_2, S128_3, S128_4, S128_5, S128_6, BS, c2, ↓e1]
    simp only [BS.2.1]
    simp [S128_0, S128_1, S128_2, S128_3, S128_4, S128_5, S128_6, BS, hM, mul3, nI_add, h1, h2, hn, lg_eq, ↓e2]
set_option maxRecDepth 100000 in
set_option maxHeartbeats 8000000 in
theorem ms_fnd_13 {n sl : Nat} {C Z : Nat → Nat} {I : Nat → Nat → Int32} {L : Nat → Nat → Int64} {R : Nat → Nat → Nat} {Q : Option Value → Hp → Prop} {m kc : Nat} {l4 l5 l6 l7 l8 l9 l10 : Option Value} (hM : LayM C Z R) (hm : m ≤ 4) (hk : kc < 3) (hp : 3 < m) (hz : ∀ x, 1 ≤ x → x < 3 → L 95 (3 * x + kc) = 0) (hn : ¬ L 95 (3 * 3 + kc) = 0) (go : ∀ L' l6, (∀ c, c ≠ 95 → L' c = L c) → (∀ c, c < 3 → L' 95 (3 * 1 + c) = L 95 (3 * 3 + c) ∧ L' 95 (3 * 3 + c) = L 95 (3 * 1 + c)) → (∀ x c, x < 4 → c < 3 → x ≠ 1 → x ≠ 3 → L' 95 (3 * x + c) = L 95 (3 * x + c)) → Br 128 270 125 [some (.ref 74), some (.int (nI m)), some (.int (nI 1)), some (.int (nI kc)), some (.int (nI 3)), some (.int (nI (1 + 1))), l6, none, l8, l9, l10] [] (n, sl, C, Z, I, L', R) Q (nI m ≤ nI (1 + 1))) : Br 128 279 9 [some (.ref 74), some (.int (nI m)), some (.int (nI 1)), some (.int (nI kc)), l4, l5, l6, l7, l8, l9, l10] [] (n, sl, C, Z, I, L, R) Q ((3 : Int32) ≤ nI kc) := by
  have hM' := hM
  unfold LayM at hM
  have c3 : ¬ (3 : Int32) ≤ nI kc := nI_ge (b := 3) (by omega) (by omega)
  have c1 : ¬ nI m ≤ nI 3 := nI_ge (by omega) (by omega)
  have c2 : nI 3 < nI m := nI_lt (by omega) (by omega)
  have h1 : inb (nI (3 * 3 + kc)) 12 = true := by rw [inb_nI (by omega)]; simp; omega
  have h2 := ix_nI (show 3 * 3 + kc < 2 ^ 31 by omega)
  have s := ms_srch (n := n) (sl := sl) (I := I) (Q := Q) (r := 1) (l5 := l5) (l6 := l6) (l7 := l7) (l8 := l8) (l9 := l9) (l10 := l10) hM' hm hk (pf := 3) (by omega) ?_ 2 1 (by omega) hz
  · simp [S128_0, S128_1, S128_2, S128_3, S128_4, S128_5, S128_6, BS, c3]
    exact s
  · rw [show (nI m ≤ nI 3) = False from eq_false c1]
    have e1 : Wp 128 49 [some (.ref 74), some (.int (nI m)), some (.int (nI 1)), some (.int (nI kc)), some (.int (nI 3)), l5, l6, l7, l8, l9, l10] [] (n, sl, C, Z, I, L, R) Q := by
      have n0 : nI 0 = 0 := rfl
      have n1 : nI 1 = 1 := rfl
      have n2 : nI 2 = 2 := rfl
      have n3 : nI 3 = 3 := rfl
      simp only [n0, n1, n2, n3, Nat.reduceAdd] at go ⊢
      simp [S128_0, S128_1, S128_2, S128_3, S128_4, S128_5, S128_6, BS, ixs, inbs, hM, u2_rd]
      refine go _ _ (fun c h => ?_) (fun c hc => ?_) (fun x c hx hc h4 h5 => ?_)
      · repeat (first | rw [u2_ne _ _ _ h])
      · rcases i3 hc with rfl | rfl | rfl <;> simp [u2_rd]
      · rcases i4 hx with rfl | rfl | rfl | rfl <;> rcases i3 hc with rfl | rfl | rfl <;> simp [u2_rd] at h4 h5 ⊢
    have e2 : Wp 128 40 [some (.ref 74), some (.int (nI m)), some (.int (nI 1)), some (.int (nI kc)), some (.int (nI 3)), l5, l6, l7, l8, l9, l10] [] (n, sl, C, Z, I, L, R) Q := by
      simp [S128_0, S128_1, S128_2, S128_3, S128_4, S128_5, S128_6, BS, c2, ↓e1]
    simp only [BS.2.1]
    simp [S128_0, S128_1, S128_2, S128_3, S128_4, S128_5, S128_6, BS, hM, mul3, nI_add, h1, h2, hn, lg_eq, ↓e2]
set_option maxRecDepth 100000 in
set_option maxHeartbeats 8000000 in
theorem ms_fnd_22 {n sl : Nat} {C Z : Nat → Nat} {I : Nat → Nat → Int32} {L : Nat → Nat → Int64} {R : Nat → Nat → Nat} {Q : Option Value → Hp → Prop} {m kc : Nat} {l4 l5 l6 l7 l8 l9 l10 : Option Value} (hM : LayM C Z R) (hm : m ≤ 4) (hk : kc < 3) (hp : 2 < m) (hz : ∀ x, 2 ≤ x → x < 2 → L 95 (3 * x + kc) = 0) (hn : ¬ L 95 (3 * 2 + kc) = 0) (go : ∀ L' l6, (∀ c, c ≠ 95 → L' c = L c) → (∀ c, c < 3 → L' 95 (3 * 2 + c) = L 95 (3 * 2 + c) ∧ L' 95 (3 * 2 + c) = L 95 (3 * 2 + c)) → (∀ x c, x < 4 → c < 3 → x ≠ 2 → x ≠ 2 → L' 95 (3 * x + c) = L 95 (3 * x + c)) → Br 128 270 125 [some (.ref 74), some (.int (nI m)), some (.int (nI 2)), some (.int (nI kc)), some (.int (nI 2)), some (.int (nI (2 + 1))), l6, none, l8, l9, l10] [] (n, sl, C, Z, I, L', R) Q (nI m ≤ nI (2 + 1))) : Br 128 279 9 [some (.ref 74), some (.int (nI m)), some (.int (nI 2)), some (.int (nI kc)), l4, l5, l6, l7, l8, l9, l10] [] (n, sl, C, Z, I, L, R) Q ((3 : Int32) ≤ nI kc) := by
  have hM' := hM
  unfold LayM at hM
  have c3 : ¬ (3 : Int32) ≤ nI kc := nI_ge (b := 3) (by omega) (by omega)
  have c1 : ¬ nI m ≤ nI 2 := nI_ge (by omega) (by omega)
  have c2 : nI 2 < nI m := nI_lt (by omega) (by omega)
  have h1 : inb (nI (3 * 2 + kc)) 12 = true := by rw [inb_nI (by omega)]; simp; omega
  have h2 := ix_nI (show 3 * 2 + kc < 2 ^ 31 by omega)
  have s := ms_srch (n := n) (sl := sl) (I := I) (Q := Q) (r := 2) (l5 := l5) (l6 := l6) (l7 := l7) (l8 := l8) (l9 := l9) (l10 := l10) hM' hm hk (pf := 2) (by omega) ?_ 0 2 (by omega) hz
  · simp [S128_0, S128_1, S128_2, S128_3, S128_4, S128_5, S128_6, BS, c3]
    exact s
  · rw [show (nI m ≤ nI 2) = False from eq_false c1]
    have e1 : Wp 128 49 [some (.ref 74), some (.int (nI m)), some (.int (nI 2)), some (.int (nI kc)), some (.int (nI 2)), l5, l6, l7, l8, l9, l10] [] (n, sl, C, Z, I, L, R) Q := by
      have n0 : nI 0 = 0 := rfl
      have n1 : nI 1 = 1 := rfl
      have n2 : nI 2 = 2 := rfl
      have n3 : nI 3 = 3 := rfl
      simp only [n0, n1, n2, n3, Nat.reduceAdd] at go ⊢
      simp [S128_0, S128_1, S128_2, S128_3, S128_4, S128_5, S128_6, BS, ixs, inbs, hM, u2_rd]
      refine go _ _ (fun c h => ?_) (fun c hc => ?_) (fun x c hx hc h4 h5 => ?_)
      · repeat (first | rw [u2_ne _ _ _ h])
      · rcases i3 hc with rfl | rfl | rfl <;> simp [u2_rd]
      · rcases i4 hx with rfl | rfl | rfl | rfl <;> rcases i3 hc with rfl | rfl | rfl <;> simp [u2_rd] at h4 h5 ⊢
    have e2 : Wp 128 40 [some (.ref 74), some (.int (nI m)), some (.int (nI 2)), some (.int (nI kc)), some (.int (nI 2)), l5, l6, l7, l8, l9, l10] [] (n, sl, C, Z, I, L, R) Q := by
      simp [S128_0, S128_1, S128_2, S128_3, S128_4, S128_5, S128_6, BS, c2, ↓e1]
    simp only [BS.2.1]
    simp [S128_0, S128_1, S128_2, S128_3, S128_4, S128_5, S128_6, BS, hM, mul3, nI_add, h1, h2, hn, lg_eq, ↓e2]
set_option maxRecDepth 100000 in
set_option maxHeartbeats 8000000 in
theorem ms_fnd_23 {n sl : Nat} {C Z : Nat → Nat} {I : Nat → Nat → Int32} {L : Nat → Nat → Int64} {R : Nat → Nat → Nat} {Q : Option Value → Hp → Prop} {m kc : Nat} {l4 l5 l6 l7 l8 l9 l10 : Option Value} (hM : LayM C Z R) (hm : m ≤ 4) (hk : kc < 3) (hp : 3 < m) (hz : ∀ x, 2 ≤ x → x < 3 → L 95 (3 * x + kc) = 0) (hn : ¬ L 95 (3 * 3 + kc) = 0) (go : ∀ L' l6, (∀ c, c ≠ 95 → L' c = L c) → (∀ c, c < 3 → L' 95 (3 * 2 + c) = L 95 (3 * 3 + c) ∧ L' 95 (3 * 3 + c) = L 95 (3 * 2 + c)) → (∀ x c, x < 4 → c < 3 → x ≠ 2 → x ≠ 3 → L' 95 (3 * x + c) = L 95 (3 * x + c)) → Br 128 270 125 [some (.ref 74), some (.int (nI m)), some (.int (nI 2)), some (.int (nI kc)), some (.int (nI 3)), some (.int (nI (2 + 1))), l6, none, l8, l9, l10] [] (n, sl, C, Z, I, L', R) Q (nI m ≤ nI (2 + 1))) : Br 128 279 9 [some (.ref 74), some (.int (nI m)), some (.int (nI 2)), some (.int (nI kc)), l4, l5, l6, l7, l8, l9, l10] [] (n, sl, C, Z, I, L, R) Q ((3 : Int32) ≤ nI kc) := by
  have hM' := hM
  unfold LayM at hM
  have c3 : ¬ (3 : Int32) ≤ nI kc := nI_ge (b := 3) (by omega) (by omega)
  have c1 : ¬ nI m ≤ nI 3 := nI_ge (by omega) (by omega)
  have c2 : nI 3 < nI m := nI_lt (by omega) (by omega)
  have h1 : inb (nI (3 * 3 + kc)) 12 = true := by rw [inb_nI (by omega)]; simp; omega
  have h2 := ix_nI (show 3 * 3 + kc < 2 ^ 31 by omega)
  have s := ms_srch (n := n) (sl := sl) (I := I) (Q := Q) (r := 2) (l5 := l5) (l6 := l6) (l7 := l7) (l8 := l8) (l9 := l9) (l10 := l10) hM' hm hk (pf := 3) (by omega) ?_ 1 2 (by omega) hz
  · simp [S128_0, S128_1, S128_2, S128_3, S128_4, S128_5, S128_6, BS, c3]
    exact s
  · rw [show (nI m ≤ nI 3) = False from eq_false c1]
    have e1 : Wp 128 49 [some (.ref 74), some (.int (nI m)), some (.int (nI 2)), some (.int (nI kc)), some (.int (nI 3)), l5, l6, l7, l8, l9, l10] [] (n, sl, C, Z, I, L, R) Q := by
      have n0 : nI 0 = 0 := rfl
      have n1 : nI 1 = 1 := rfl
      have n2 : nI 2 = 2 := rfl
      have n3 : nI 3 = 3 := rfl
      simp only [n0, n1, n2, n3, Nat.reduceAdd] at go ⊢
      simp [S128_0, S128_1, S128_2, S128_3, S128_4, S128_5, S128_6, BS, ixs, inbs, hM, u2_rd]
      refine go _ _ (fun c h => ?_) (fun c hc => ?_) (fun x c hx hc h4 h5 => ?_)
      · repeat (first | rw [u2_ne _ _ _ h])
      · rcases i3 hc with rfl | rfl | rfl <;> simp [u2_rd]
      · rcases i4 hx with rfl | rfl | rfl | rfl <;> rcases i3 hc with rfl | rfl | rfl <;> simp [u2_rd] at h4 h5 ⊢
    have e2 : Wp 128 40 [some (.ref 74), some (.int (nI m)), some (.int (nI 2)), some (.int (nI kc)), some (.int (nI 3)), l5, l6, l7, l8, l9, l10] [] (n, sl, C, Z, I, L, R) Q := by
      simp [S128_0, S128_1, S128_2, S128_3, S128_4, S128_5, S128_6, BS, c2, ↓e1]
    simp only [BS.2.1]
    simp [S128_0, S128_1, S128_2, S128_3, S128_4, S128_5, S128_6, BS, hM, mul3, nI_add, h1, h2, hn, lg_eq, ↓e2]
set_option maxRecDepth 100000 in
set_option maxHeartbeats 8000000 in
theorem mc_00 (h : Hp) (k pc : Nat) (ls : Lo) (st : List Value) (Q : Option Value → Hp → Prop) : Call 105 [some (.long 0), none, some (.long 0), none, none, none, none, none, none, none] h k pc ls st Q ↔ Wp k pc ls (.long 0 :: st) h Q := by
  have := m_common (a := 0) (b := 0) (by unfold bn; decide) (by unfold bn; decide) h k pc ls st Q
  rw [wL_0] at this
  exact this
set_option maxRecDepth 100000 in
set_option maxHeartbeats 8000000 in
theorem mc_0W (W : Int64) : ∃ e : Int64, (∀ (h : Hp) (k pc : Nat) (ls : Lo) (st : List Value) (Q : Option Value → Hp → Prop), Call 105 [some (.long 0), none, some (.long W), none, none, none, none, none, none, none] h k pc ls st Q ↔ Wp k pc ls (.long e :: st) h Q) ∧ ((¬ 0 < e ∧ (W = 0 ∨ ¬ W = 0)) ∨ (0 < e ∧ ¬ e = 0 ∧ 0 / e = 0 ∧ (W / e = 0 ↔ W = 0))) := by
  by_cases h0 : W = -9223372036854775808
  · refine ⟨-9223372036854775808, fun h k pc ls st Q => ?_, Or.inl ⟨by decide, Classical.em _⟩⟩
    subst h0
    have f1 : (-9223372036854775808 : Int64) < 0 := by decide
    have f2 : -(-9223372036854775808 : Int64) = -9223372036854775808 := by decide
    have f3 : ¬ (-9223372036854775808 : Int64) = 0 := by decide
    have f4 : (0 : Int64) % (-9223372036854775808) = 0 := by decide
    simp [S105_0, S105_1, BS, ixs, inbs, Call_in (k2 := 105), lg_ge, lg_eq, f1, f2, f3, f4]
  · have b1 := Int64.le_toInt W
    have b2 := Int64.toInt_lt W
    have b3 : ¬ W.toInt = -9223372036854775808 := fun h => h0 (Int64.toInt_inj.mp (by rw [h]; decide))
    have mc := fun h k pc ls st Q => m_common (a := 0) (b := W.toInt) (by unfold bn; decide) (by unfold bn; omega) h k pc ls st Q
    simp only [wL_0, wL_of] at mc
    have g : Int.gcd 0 W.toInt = W.toInt.natAbs := Int.gcd_zero_left _
    rw [g] at mc
    refine ⟨lN W.toInt.natAbs, mc, ?_⟩
    by_cases z : W = 0
    · left
      subst z
      exact ⟨by decide, Classical.em _⟩
    · right
      have zi : ¬ W.toInt = 0 := fun h => z (Int64.toInt_inj.mp (by rw [h]; rfl))
      have e1 : lN W.toInt.natAbs = wL (W.toInt.natAbs : Int) := (Int64.ofInt_eq_ofNat).symm
      have t1 : (wL (W.toInt.natAbs : Int)).toInt = (W.toInt.natAbs : Int) := wL_toInt (by omega) (by omega)
      rw [e1]
      refine ⟨?_, ?_, ?_, ?_⟩
      · rw [← wL_0, wL_lt (by omega) (by omega) (by omega) (by omega)]; omega
      · intro h
        have := congrArg Int64.toInt h
        rw [t1] at this
        have : (W.toInt.natAbs : Int) = 0 := this
        omega
      · rw [← wL_0, wL_div (by unfold bn; decide) (by unfold bn; omega)]
        simp
      · have d : W / wL (W.toInt.natAbs : Int) = wL (W.toInt.tdiv (W.toInt.natAbs : Int)) := by
          have := wL_div (x := W.toInt) (y := (W.toInt.natAbs : Int)) (by unfold bn; omega) (by unfold bn; omega)
          rw [wL_of] at this
          exact this
        have q : W.toInt.tdiv (W.toInt.natAbs : Int) = 1 ∨ W.toInt.tdiv (W.toInt.natAbs : Int) = -1 := by
          rcases Int.natAbs_eq W.toInt with h | h
          · left
            rw [← h]
            exact Int.tdiv_self zi
          · right
            have : (W.toInt.natAbs : Int) = -W.toInt := by omega
            rw [this, Int.tdiv_neg, Int.tdiv_self zi]
        rw [d]
        constructor
        · intro h
          rcases q with q | q <;> rw [q] at h <;> exact absurd h (by decide)
        · intro h; exact absurd h z
set_option maxRecDepth 100000 in
set_option maxHeartbeats 8000000 in
theorem mr2_1_01 {n sl : Nat} {C Z : Nat → Nat} {I : Nat → Nat → Int32} {L : Nat → Nat → Int64} {R : Nat → Nat → Nat} {Q : Option Value → Hp → Prop} {m : Nat} {p4 : Int32} {l6 l7 l8 l9 l10 : Option Value} (hM : LayM C Z R) (zr0 : L 95 0 = 0) (zi0 : L 95 3 = 0) (go : ∀ L' l6' l8' l10', (∀ c, c ≠ 95 → L' c = L c) → (∀ x, x ≠ 3 → x ≠ 4 → x ≠ 5 → L' 95 x = L 95 x) → (L' 95 3 = 0 ∧ L' 95 4 = 0 ∧ (L' 95 5 = 0 ↔ L 95 5 * L 95 1 - L 95 2 * L 95 4 = 0)) → Br 128 270 125 [some (.ref 74), some (.int (nI m)), some (.int (nI 0)), some (.int (nI 1)), some (.int p4), some (.int (nI 2)), l6', none, l8', none, l10'] [] (n, sl, C, Z, I, L', R) Q (nI m ≤ nI 2)) : Wp 128 125 [some (.ref 74), some (.int (nI m)), some (.int (nI 0)), some (.int (nI 1)), some (.int p4), some (.int (nI 1)), l6, l7, l8, l9, l10] [] (n, sl, C, Z, I, L, R) Q := by
  unfold LayM at hM
  have cm : ∀ a b : Int64, a * b - b * a = 0 := fun a b => by rw [Int64.mul_comm a b, Int64.sub_self]
  obtain ⟨W, hW⟩ : ∃ W, L 95 5 * L 95 1 - L 95 2 * L 95 4 = W := ⟨_, rfl⟩
  obtain ⟨e, he, hc⟩ := mc_0W W
  rw [hW] at go
  have n0 : nI 0 = 0 := rfl
  have n1 : nI 1 = 1 := rfl
  have n2 : nI 2 = 2 := rfl
  have n3 : nI 3 = 3 := rfl
  have n4 : nI 4 = 4 := rfl
  simp only [n0, n1, n2, n3, n4] at go ⊢
  rcases hc with ⟨h1, -⟩ | ⟨h1, h2, h3, h4⟩
  · simp [S128_0, S128_1, S128_2, S128_3, S128_4, S128_5, S128_6, BS, ixs, inbs, hM, u2_rd, zr0, zi0, cm, hW, mc_00, he, lg_le, h1]
    refine go _ _ _ _ (fun c h => ?_) (fun x q1 q2 q3 => ?_) ⟨?_, ?_, ?_⟩
    · repeat (first | rw [u2_ne _ _ _ h])
    · simp [u2_rd, q1, q2, q3]
    · simp [u2_rd]
    · simp [u2_rd]
    · simp [u2_rd]
  · simp [S128_0, S128_1, S128_2, S128_3, S128_4, S128_5, S128_6, BS, ixs, inbs, hM, u2_rd, zr0, zi0, cm, hW, mc_00, he, lg_le, h1, h2, h3]
    refine go _ _ _ _ (fun c h => ?_) (fun x q1 q2 q3 => ?_) ⟨?_, ?_, ?_⟩
    · repeat (first | rw [u2_ne _ _ _ h])
    · simp [u2_rd, q1, q2, q3]
    · simp [u2_rd]
    · simp [u2_rd]
    · simp [u2_rd, h4]
set_option maxRecDepth 100000 in
set_option maxHeartbeats 8000000 in
theorem mr2_1_02 {n sl : Nat} {C Z : Nat → Nat} {I : Nat → Nat → Int32} {L : Nat → Nat → Int64} {R : Nat → Nat → Nat} {Q : Option Value → Hp → Prop} {m : Nat} {p4 : Int32} {l6 l7 l8 l9 l10 : Option Value} (hM : LayM C Z R) (zr0 : L 95 0 = 0) (zi0 : L 95 6 = 0) (go : ∀ L' l6' l8' l10', (∀ c, c ≠ 95 → L' c = L c) → (∀ x, x ≠ 6 → x ≠ 7 → x ≠ 8 → L' 95 x = L 95 x) → (L' 95 6 = 0 ∧ L' 95 7 = 0 ∧ (L' 95 8 = 0 ↔ L 95 8 * L 95 1 - L 95 2 * L 95 7 = 0)) → Br 128 270 125 [some (.ref 74), some (.int (nI m)), some (.int (nI 0)), some (.int (nI 1)), some (.int p4), some (.int (nI 3)), l6', none, l8', none, l10'] [] (n, sl, C, Z, I, L', R) Q (nI m ≤ nI 3)) : Wp 128 125 [some (.ref 74), some (.int (nI m)), some (.int (nI 0)), some (.int (nI 1)), some (.int p4), some (.int (nI 2)), l6, l7, l8, l9, l10] [] (n, sl, C, Z, I, L, R) Q := by
  unfold LayM at hM
  have cm : ∀ a b : Int64, a * b - b * a = 0 := fun a b => by rw [Int64.mul_comm a b, Int64.sub_self]
  obtain ⟨W, hW⟩ : ∃ W, L 95 8 * L 95 1 - L 95 2 * L 95 7 = W := ⟨_, rfl⟩
  obtain ⟨e, he, hc⟩ := mc_0W W
  rw [hW] at go
  have n0 : nI 0 = 0 := rfl
  have n1 : nI 1 = 1 := rfl
  have n2 : nI 2 = 2 := rfl
  have n3 : nI 3 = 3 := rfl
  have n4 : nI 4 = 4 := rfl
  simp only [n0, n1, n2, n3, n4] at go ⊢
  rcases hc with ⟨h1, -⟩ | ⟨h1, h2, h3, h4⟩
  · simp [S128_0, S128_1, S128_2, S128_3, S128_4, S128_5, S128_6, BS, ixs, inbs, hM, u2_rd, zr0, zi0, cm, hW, mc_00, he, lg_le, h1]
    refine go _ _ _ _ (fun c h => ?_) (fun x q1 q2 q3 => ?_) ⟨?_, ?_, ?_⟩
    · repeat (first | rw [u2_ne _ _ _ h])
    · simp [u2_rd, q1, q2, q3]
    · simp [u2_rd]
    · simp [u2_rd]
    · simp [u2_rd]
  · simp [S128_0, S128_1, S128_2, S128_3, S128_4, S128_5, S128_6, BS, ixs, inbs, hM, u2_rd, zr0, zi0, cm, hW, mc_00, he, lg_le, h1, h2, h3]
    refine go _ _ _ _ (fun c h => ?_) (fun x q1 q2 q3 => ?_) ⟨?_, ?_, ?_⟩
    · repeat (first | rw [u2_ne _ _ _ h])
    · simp [u2_rd, q1, q2, q3]
    · simp [u2_rd]
    · simp [u2_rd]
    · simp [u2_rd, h4]
set_option maxRecDepth 100000 in
set_option maxHeartbeats 8000000 in
theorem mr2_1_03 {n sl : Nat} {C Z : Nat → Nat} {I : Nat → Nat → Int32} {L : Nat → Nat → Int64} {R : Nat → Nat → Nat} {Q : Option Value → Hp → Prop} {m : Nat} {p4 : Int32} {l6 l7 l8 l9 l10 : Option Value} (hM : LayM C Z R) (zr0 : L 95 0 = 0) (zi0 : L 95 9 = 0) (go : ∀ L' l6' l8' l10', (∀ c, c ≠ 95 → L' c = L c) → (∀ x, x ≠ 9 → x ≠ 10 → x ≠ 11 → L' 95 x = L 95 x) → (L' 95 9 = 0 ∧ L' 95 10 = 0 ∧ (L' 95 11 = 0 ↔ L 95 11 * L 95 1 - L 95 2 * L 95 10 = 0)) → Br 128 270 125 [some (.ref 74), some (.int (nI m)), some (.int (nI 0)), some (.int (nI 1)), some (.int p4), some (.int (nI 4)), l6', none, l8', none, l10'] [] (n, sl, C, Z, I, L', R) Q (nI m ≤ nI 4)) : Wp 128 125 [some (.ref 74), some (.int (nI m)), some (.int (nI 0)), some (.int (nI 1)), some (.int p4), some (.int (nI 3)), l6, l7, l8, l9, l10] [] (n, sl, C, Z, I, L, R) Q := by
  unfold LayM at hM
  have cm : ∀ a b : Int64, a * b - b * a = 0 := fun a b => by rw [Int64.mul_comm a b, Int64.sub_self]
  obtain ⟨W, hW⟩ : ∃ W, L 95 11 * L 95 1 - L 95 2 * L 95 10 = W := ⟨_, rfl⟩
  obtain ⟨e, he, hc⟩ := mc_0W W
  rw [hW] at go
  have n0 : nI 0 = 0 := rfl
  have n1 : nI 1 = 1 := rfl
  have n2 : nI 2 = 2 := rfl
  have n3 : nI 3 = 3 := rfl
  have n4 : nI 4 = 4 := rfl
  simp only [n0, n1, n2, n3, n4] at go ⊢
  rcases hc with ⟨h1, -⟩ | ⟨h1, h2, h3, h4⟩
  · simp [S128_0, S128_1, S128_2, S128_3, S128_4, S128_5, S128_6, BS, ixs, inbs, hM, u2_rd, zr0, zi0, cm, hW, mc_00, he, lg_le, h1]
    refine go _ _ _ _ (fun c h => ?_) (fun x q1 q2 q3 => ?_) ⟨?_, ?_, ?_⟩
    · repeat (first | rw [u2_ne _ _ _ h])
    · simp [u2_rd, q1, q2, q3]
    · simp [u2_rd]
    · simp [u2_rd]
    · simp [u2_rd]
  · simp [S128_0, S128_1, S128_2, S128_3, S128_4, S128_5, S128_6, BS, ixs, inbs, hM, u2_rd, zr0, zi0, cm, hW, mc_00, he, lg_le, h1, h2, h3]
    refine go _ _ _ _ (fun c h => ?_) (fun x q1 q2 q3 => ?_) ⟨?_, ?_, ?_⟩
    · repeat (first | rw [u2_ne _ _ _ h])
    · simp [u2_rd, q1, q2, q3]
    · simp [u2_rd]
    · simp [u2_rd]
    · simp [u2_rd, h4]
set_option maxRecDepth 100000 in
set_option maxHeartbeats 8000000 in
theorem mr2_1_12 {n sl : Nat} {C Z : Nat → Nat} {I : Nat → Nat → Int32} {L : Nat → Nat → Int64} {R : Nat → Nat → Nat} {Q : Option Value → Hp → Prop} {m : Nat} {p4 : Int32} {l6 l7 l8 l9 l10 : Option Value} (hM : LayM C Z R) (zr0 : L 95 3 = 0) (zi0 : L 95 6 = 0) (go : ∀ L' l6' l8' l10', (∀ c, c ≠ 95 → L' c = L c) → (∀ x, x ≠ 6 → x ≠ 7 → x ≠ 8 → L' 95 x = L 95 x) → (L' 95 6 = 0 ∧ L' 95 7 = 0 ∧ (L' 95 8 = 0 ↔ L 95 8 * L 95 4 - L 95 5 * L 95 7 = 0)) → Br 128 270 125 [some (.ref 74), some (.int (nI m)), some (.int (nI 1)), some (.int (nI 1)), some (.int p4), some (.int (nI 3)), l6', none, l8', none, l10'] [] (n, sl, C, Z, I, L', R) Q (nI m ≤ nI 3)) : Wp 128 125 [some (.ref 74), some (.int (nI m)), some (.int (nI 1)), some (.int (nI 1)), some (.int p4), some (.int (nI 2)), l6, l7, l8, l9, l10] [] (n, sl, C, Z, I, L, R) Q := by
  unfold LayM at hM
  have cm : ∀ a b : Int64, a * b - b * a = 0 := fun a b => by rw [Int64.mul_comm a b, Int64.sub_self]
  obtain ⟨W, hW⟩ : ∃ W, L 95 8 * L 95 4 - L 95 5 * L 95 7 = W := ⟨_, rfl⟩
  obtain ⟨e, he, hc⟩ := mc_0W W
  rw [hW] at go
  have n0 : nI 0 = 0 := rfl
  have n1 : nI 1 = 1 := rfl
  have n2 : nI 2 = 2 := rfl
  have n3 : nI 3 = 3 := rfl
  have n4 : nI 4 = 4 := rfl
  simp only [n0, n1, n2, n3, n4] at go ⊢
  rcases hc with ⟨h1, -⟩ | ⟨h1, h2, h3, h4⟩
  · simp [S128_0, S128_1, S128_2, S128_3, S128_4, S128_5, S128_6, BS, ixs, inbs, hM, u2_rd, zr0, zi0, cm, hW, mc_00, he, lg_le, h1]
    refine go _ _ _ _ (fun c h => ?_) (fun x q1 q2 q3 => ?_) ⟨?_, ?_, ?_⟩
    · repeat (first | rw [u2_ne _ _ _ h])
    · simp [u2_rd, q1, q2, q3]
    · simp [u2_rd]
    · simp [u2_rd]
    · simp [u2_rd]
  · simp [S128_0, S128_1, S128_2, S128_3, S128_4, S128_5, S128_6, BS, ixs, inbs, hM, u2_rd, zr0, zi0, cm, hW, mc_00, he, lg_le, h1, h2, h3]
    refine go _ _ _ _ (fun c h => ?_) (fun x q1 q2 q3 => ?_) ⟨?_, ?_, ?_⟩
    · repeat (first | rw [u2_ne _ _ _ h])
    · simp [u2_rd, q1, q2, q3]
    · simp [u2_rd]
    · simp [u2_rd]
    · simp [u2_rd, h4]
set_option maxRecDepth 100000 in
set_option maxHeartbeats 8000000 in
theorem mr2_1_13 {n sl : Nat} {C Z : Nat → Nat} {I : Nat → Nat → Int32} {L : Nat → Nat → Int64} {R : Nat → Nat → Nat} {Q : Option Value → Hp → Prop} {m : Nat} {p4 : Int32} {l6 l7 l8 l9 l10 : Option Value} (hM : LayM C Z R) (zr0 : L 95 3 = 0) (zi0 : L 95 9 = 0) (go : ∀ L' l6' l8' l10', (∀ c, c ≠ 95 → L' c = L c) → (∀ x, x ≠ 9 → x ≠ 10 → x ≠ 11 → L' 95 x = L 95 x) → (L' 95 9 = 0 ∧ L' 95 10 = 0 ∧ (L' 95 11 = 0 ↔ L 95 11 * L 95 4 - L 95 5 * L 95 10 = 0)) → Br 128 270 125 [some (.ref 74), some (.int (nI m)), some (.int (nI 1)), some (.int (nI 1)), some (.int p4), some (.int (nI 4)), l6', none, l8', none, l10'] [] (n, sl, C, Z, I, L', R) Q (nI m ≤ nI 4)) : Wp 128 125 [some (.ref 74), some (.int (nI m)), some (.int (nI 1)), some (.int (nI 1)), some (.int p4), some (.int (nI 3)), l6, l7, l8, l9, l10] [] (n, sl, C, Z, I, L, R) Q := by
  unfold LayM at hM
  have cm : ∀ a b : Int64, a * b - b * a = 0 := fun a b => by rw [Int64.mul_comm a b, Int64.sub_self]
  obtain ⟨W, hW⟩ : ∃ W, L 95 11 * L 95 4 - L 95 5 * L 95 10 = W := ⟨_, rfl⟩
  obtain ⟨e, he, hc⟩ := mc_0W W
  rw [hW] at go
  have n0 : nI 0 = 0 := rfl
  have n1 : nI 1 = 1 := rfl
  have n2 : nI 2 = 2 := rfl
  have n3 : nI 3 = 3 := rfl
  have n4 : nI 4 = 4 := rfl
  simp only [n0, n1, n2, n3, n4] at go ⊢
  rcases hc with ⟨h1, -⟩ | ⟨h1, h2, h3, h4⟩
  · simp [S128_0, S128_1, S128_2, S128_3, S128_4, S128_5, S128_6, BS, ixs, inbs, hM, u2_rd, zr0, zi0, cm, hW, mc_00, he, lg_le, h1]
    refine go _ _ _ _ (fun c h => ?_) (fun x q1 q2 q3 => ?_) ⟨?_, ?_, ?_⟩
    · repeat (first | rw [u2_ne _ _ _ h])
    · simp [u2_rd, q1, q2, q3]
    · simp [u2_rd]
    · simp [u2_rd]
    · simp [u2_rd]
  · simp [S128_0, S128_1, S128_2, S128_3, S128_4, S128_5, S128_6, BS, ixs, inbs, hM, u2_rd, zr0, zi0, cm, hW, mc_00, he, lg_le, h1, h2, h3]
    refine go _ _ _ _ (fun c h => ?_) (fun x q1 q2 q3 => ?_) ⟨?_, ?_, ?_⟩
    · repeat (first | rw [u2_ne _ _ _ h])
    · simp [u2_rd, q1, q2, q3]
    · simp [u2_rd]
    · simp [u2_rd]
    · simp [u2_rd, h4]
set_option maxRecDepth 100000 in
set_option maxHeartbeats 8000000 in
theorem mr2_2_01 {n sl : Nat} {C Z : Nat → Nat} {I : Nat → Nat → Int32} {L : Nat → Nat → Int64} {R : Nat → Nat → Nat} {Q : Option Value → Hp → Prop} {m : Nat} {p4 : Int32} {l6 l7 l8 l9 l10 : Option Value} (hM : LayM C Z R) (zr0 : L 95 0 = 0) (zi0 : L 95 3 = 0) (zr1 : L 95 1 = 0) (zi1 : L 95 4 = 0) (go : ∀ L' l6' l8' l10', (∀ c, c ≠ 95 → L' c = L c) → (∀ x, x ≠ 3 → x ≠ 4 → x ≠ 5 → L' 95 x = L 95 x) → (L' 95 3 = 0 ∧ L' 95 4 = 0 ∧ (L' 95 5 = 0 ↔ L 95 5 * L 95 2 - L 95 2 * L 95 5 = 0)) → Br 128 270 125 [some (.ref 74), some (.int (nI m)), some (.int (nI 0)), some (.int (nI 2)), some (.int p4), some (.int (nI 2)), l6', none, l8', none, l10'] [] (n, sl, C, Z, I, L', R) Q (nI m ≤ nI 2)) : Wp 128 125 [some (.ref 74), some (.int (nI m)), some (.int (nI 0)), some (.int (nI 2)), some (.int p4), some (.int (nI 1)), l6, l7, l8, l9, l10] [] (n, sl, C, Z, I, L, R) Q := by
  unfold LayM at hM
  have cm : ∀ a b : Int64, a * b - b * a = 0 := fun a b => by rw [Int64.mul_comm a b, Int64.sub_self]
  obtain ⟨W, hW⟩ : ∃ W, L 95 5 * L 95 2 - L 95 2 * L 95 5 = W := ⟨_, rfl⟩
  obtain ⟨e, he, hc⟩ := mc_0W W
  rw [hW] at go
  have W0 : W = 0 := by rw [← hW]; exact cm _ _
  have n0 : nI 0 = 0 := rfl
  have n1 : nI 1 = 1 := rfl
  have n2 : nI 2 = 2 := rfl
  have n3 : nI 3 = 3 := rfl
  have n4 : nI 4 = 4 := rfl
  simp only [n0, n1, n2, n3, n4] at go ⊢
  rcases hc with ⟨h1, -⟩ | ⟨h1, h2, h3, h4⟩
  · simp [S128_0, S128_1, S128_2, S128_3, S128_4, S128_5, S128_6, BS, ixs, inbs, hM, u2_rd, zr0, zi0, zr1, zi1, cm, hW, mc_00, he, lg_le, h1]
    refine go _ _ _ _ (fun c h => ?_) (fun x q1 q2 q3 => ?_) ⟨?_, ?_, ?_⟩
    · repeat (first | rw [u2_ne _ _ _ h])
    · simp [u2_rd, q1, q2, q3]
    · simp [u2_rd]
    · simp [u2_rd]
    · simp [u2_rd, W0]
  · simp [S128_0, S128_1, S128_2, S128_3, S128_4, S128_5, S128_6, BS, ixs, inbs, hM, u2_rd, zr0, zi0, zr1, zi1, cm, hW, mc_00, he, lg_le, h1, h2, h3]
    refine go _ _ _ _ (fun c h => ?_) (fun x q1 q2 q3 => ?_) ⟨?_, ?_, ?_⟩
    · repeat (first | rw [u2_ne _ _ _ h])
    · simp [u2_rd, q1, q2, q3]
    · simp [u2_rd]
    · simp [u2_rd]
    · simp [u2_rd, W0]
set_option maxRecDepth 100000 in
set_option maxHeartbeats 8000000 in
theorem mr2_2_02 {n sl : Nat} {C Z : Nat → Nat} {I : Nat → Nat → Int32} {L : Nat → Nat → Int64} {R : Nat → Nat → Nat} {Q : Option Value → Hp → Prop} {m : Nat} {p4 : Int32} {l6 l7 l8 l9 l10 : Option Value} (hM : LayM C Z R) (zr0 : L 95 0 = 0) (zi0 : L 95 6 = 0) (zr1 : L 95 1 = 0) (zi1 : L 95 7 = 0) (go : ∀ L' l6' l8' l10', (∀ c, c ≠ 95 → L' c = L c) → (∀ x, x ≠ 6 → x ≠ 7 → x ≠ 8 → L' 95 x = L 95 x) → (L' 95 6 = 0 ∧ L' 95 7 = 0 ∧ (L' 95 8 = 0 ↔ L 95 8 * L 95 2 - L 95 2 * L 95 8 = 0)) → Br 128 270 125 [some (.ref 74), some (.int (nI m)), some (.int (nI 0)), some (.int (nI 2)), some (.int p4), some (.int (nI 3)), l6', none, l8', none, l10'] [] (n, sl, C, Z, I, L', R) Q (nI m ≤ nI 3)) : Wp 128 125 [some (.ref 74), some (.int (nI m)), some (.int (nI 0)), some (.int (nI 2)), some (.int p4), some (.int (nI 2)), l6, l7, l8, l9, l10] [] (n, sl, C, Z, I, L, R) Q := by
  unfold LayM at hM
  have cm : ∀ a b : Int64, a * b - b * a = 0 := fun a b => by rw [Int64.mul_comm a b, Int64.sub_self]
  obtain ⟨W, hW⟩ : ∃ W, L 95 8 * L 95 2 - L 95 2 * L 95 8 = W := ⟨_, rfl⟩
  obtain ⟨e, he, hc⟩ := mc_0W W
  rw [hW] at go
  have W0 : W = 0 := by rw [← hW]; exact cm _ _
  have n0 : nI 0 = 0 := rfl
  have n1 : nI 1 = 1 := rfl
  have n2 : nI 2 = 2 := rfl
  have n3 : nI 3 = 3 := rfl
  have n4 : nI 4 = 4 := rfl
  simp only [n0, n1, n2, n3, n4] at go ⊢
  rcases hc with ⟨h1, -⟩ | ⟨h1, h2, h3, h4⟩
  · simp [S128_0, S128_1, S128_2, S128_3, S128_4, S128_5, S128_6, BS, ixs, inbs, hM, u2_rd, zr0, zi0, zr1, zi1, cm, hW, mc_00, he, lg_le, h1]
    refine go _ _ _ _ (fun c h => ?_) (fun x q1 q2 q3 => ?_) ⟨?_, ?_, ?_⟩
    · repeat (first | rw [u2_ne _ _ _ h])
    · simp [u2_rd, q1, q2, q3]
    · simp [u2_rd]
    · simp [u2_rd]
    · simp [u2_rd, W0]
  · simp [S128_0, S128_1, S128_2, S128_3, S128_4, S128_5, S128_6, BS, ixs, inbs, hM, u2_rd, zr0, zi0, zr1, zi1, cm, hW, mc_00, he, lg_le, h1, h2, h3]
    refine go _ _ _ _ (fun c h => ?_) (fun x q1 q2 q3 => ?_) ⟨?_, ?_, ?_⟩
    · repeat (first | rw [u2_ne _ _ _ h])
    · simp [u2_rd, q1, q2, q3]
    · simp [u2_rd]
    · simp [u2_rd]
    · simp [u2_rd, W0]
set_option maxRecDepth 100000 in
set_option maxHeartbeats 8000000 in
theorem mr2_2_03 {n sl : Nat} {C Z : Nat → Nat} {I : Nat → Nat → Int32} {L : Nat → Nat → Int64} {R : Nat → Nat → Nat} {Q : Option Value → Hp → Prop} {m : Nat} {p4 : Int32} {l6 l7 l8 l9 l10 : Option Value} (hM : LayM C Z R) (zr0 : L 95 0 = 0) (zi0 : L 95 9 = 0) (zr1 : L 95 1 = 0) (zi1 : L 95 10 = 0) (go : ∀ L' l6' l8' l10', (∀ c, c ≠ 95 → L' c = L c) → (∀ x, x ≠ 9 → x ≠ 10 → x ≠ 11 → L' 95 x = L 95 x) → (L' 95 9 = 0 ∧ L' 95 10 = 0 ∧ (L' 95 11 = 0 ↔ L 95 11 * L 95 2 - L 95 2 * L 95 11 = 0)) → Br 128 270 125 [some (.ref 74), some (.int (nI m)), some (.int (nI 0)), some (.int (nI 2)), some (.int p4), some (.int (nI 4)), l6', none, l8', none, l10'] [] (n, sl, C, Z, I, L', R) Q (nI m ≤ nI 4)) : Wp 128 125 [some (.ref 74), some (.int (nI m)), some (.int (nI 0)), some (.int (nI 2)), some (.int p4), some (.int (nI 3)), l6, l7, l8, l9, l10] [] (n, sl, C, Z, I, L, R) Q := by
  unfold LayM at hM
  have cm : ∀ a b : Int64, a * b - b * a = 0 := fun a b => by rw [Int64.mul_comm a b, Int64.sub_self]
  obtain ⟨W, hW⟩ : ∃ W, L 95 11 * L 95 2 - L 95 2 * L 95 11 = W := ⟨_, rfl⟩
  obtain ⟨e, he, hc⟩ := mc_0W W
  rw [hW] at go
  have W0 : W = 0 := by rw [← hW]; exact cm _ _
  have n0 : nI 0 = 0 := rfl
  have n1 : nI 1 = 1 := rfl
  have n2 : nI 2 = 2 := rfl
  have n3 : nI 3 = 3 := rfl
  have n4 : nI 4 = 4 := rfl
  simp only [n0, n1, n2, n3, n4] at go ⊢
  rcases hc with ⟨h1, -⟩ | ⟨h1, h2, h3, h4⟩
  · simp [S128_0, S128_1, S128_2, S128_3, S128_4, S128_5, S128_6, BS, ixs, inbs, hM, u2_rd, zr0, zi0, zr1, zi1, cm, hW, mc_00, he, lg_le, h1]
    refine go _ _ _ _ (fun c h => ?_) (fun x q1 q2 q3 => ?_) ⟨?_, ?_, ?_⟩
    · repeat (first | rw [u2_ne _ _ _ h])
    · simp [u2_rd, q1, q2, q3]
    · simp [u2_rd]
    · simp [u2_rd]
    · simp [u2_rd, W0]
  · simp [S128_0, S128_1, S128_2, S128_3, S128_4, S128_5, S128_6, BS, ixs, inbs, hM, u2_rd, zr0, zi0, zr1, zi1, cm, hW, mc_00, he, lg_le, h1, h2, h3]
    refine go _ _ _ _ (fun c h => ?_) (fun x q1 q2 q3 => ?_) ⟨?_, ?_, ?_⟩
    · repeat (first | rw [u2_ne _ _ _ h])
    · simp [u2_rd, q1, q2, q3]
    · simp [u2_rd]
    · simp [u2_rd]
    · simp [u2_rd, W0]
set_option maxRecDepth 100000 in
set_option maxHeartbeats 8000000 in
theorem mr2_2_12 {n sl : Nat} {C Z : Nat → Nat} {I : Nat → Nat → Int32} {L : Nat → Nat → Int64} {R : Nat → Nat → Nat} {Q : Option Value → Hp → Prop} {m : Nat} {p4 : Int32} {l6 l7 l8 l9 l10 : Option Value} (hM : LayM C Z R) (zr0 : L 95 3 = 0) (zi0 : L 95 6 = 0) (zr1 : L 95 4 = 0) (zi1 : L 95 7 = 0) (go : ∀ L' l6' l8' l10', (∀ c, c ≠ 95 → L' c = L c) → (∀ x, x ≠ 6 → x ≠ 7 → x ≠ 8 → L' 95 x = L 95 x) → (L' 95 6 = 0 ∧ L' 95 7 = 0 ∧ (L' 95 8 = 0 ↔ L 95 8 * L 95 5 - L 95 5 * L 95 8 = 0)) → Br 128 270 125 [some (.ref 74), some (.int (nI m)), some (.int (nI 1)), some (.int (nI 2)), some (.int p4), some (.int (nI 3)), l6', none, l8', none, l10'] [] (n, sl, C, Z, I, L', R) Q (nI m ≤ nI 3)) : Wp 128 125 [some (.ref 74), some (.int (nI m)), some (.int (nI 1)), some (.int (nI 2)), some (.int p4), some (.int (nI 2)), l6, l7, l8, l9, l10] [] (n, sl, C, Z, I, L, R) Q := by
  unfold LayM at hM
  have cm : ∀ a b : Int64, a * b - b * a = 0 := fun a b => by rw [Int64.mul_comm a b, Int64.sub_self]
  obtain ⟨W, hW⟩ : ∃ W, L 95 8 * L 95 5 - L 95 5 * L 95 8 = W := ⟨_, rfl⟩
  obtain ⟨e, he, hc⟩ := mc_0W W
  rw [hW] at go
  have W0 : W = 0 := by rw [← hW]; exact cm _ _
  have n0 : nI 0 = 0 := rfl
  have n1 : nI 1 = 1 := rfl
  have n2 : nI 2 = 2 := rfl
  have n3 : nI 3 = 3 := rfl
  have n4 : nI 4 = 4 := rfl
  simp only [n0, n1, n2, n3, n4] at go ⊢
  rcases hc with ⟨h1, -⟩ | ⟨h1, h2, h3, h4⟩
  · simp [S128_0, S128_1, S128_2, S128_3, S128_4, S128_5, S128_6, BS, ixs, inbs, hM, u2_rd, zr0, zi0, zr1, zi1, cm, hW, mc_00, he, lg_le, h1]
    refine go _ _ _ _ (fun c h => ?_) (fun x q1 q2 q3 => ?_) ⟨?_, ?_, ?_⟩
    · repeat (first | rw [u2_ne _ _ _ h])
    · simp [u2_rd, q1, q2, q3]
    · simp [u2_rd]
    · simp [u2_rd]
    · simp [u2_rd, W0]
  · simp [S128_0, S128_1, S128_2, S128_3, S128_4, S128_5, S128_6, BS, ixs, inbs, hM, u2_rd, zr0, zi0, zr1, zi1, cm, hW, mc_00, he, lg_le, h1, h2, h3]
    refine go _ _ _ _ (fun c h => ?_) (fun x q1 q2 q3 => ?_) ⟨?_, ?_, ?_⟩
    · repeat (first | rw [u2_ne _ _ _ h])
    · simp [u2_rd, q1, q2, q3]
    · simp [u2_rd]
    · simp [u2_rd]
    · simp [u2_rd, W0]
set_option maxRecDepth 100000 in
set_option maxHeartbeats 8000000 in
theorem mr2_2_13 {n sl : Nat} {C Z : Nat → Nat} {I : Nat → Nat → Int32} {L : Nat → Nat → Int64} {R : Nat → Nat → Nat} {Q : Option Value → Hp → Prop} {m : Nat} {p4 : Int32} {l6 l7 l8 l9 l10 : Option Value} (hM : LayM C Z R) (zr0 : L 95 3 = 0) (zi0 : L 95 9 = 0) (zr1 : L 95 4 = 0) (zi1 : L 95 10 = 0) (go : ∀ L' l6' l8' l10', (∀ c, c ≠ 95 → L' c = L c) → (∀ x, x ≠ 9 → x ≠ 10 → x ≠ 11 → L' 95 x = L 95 x) → (L' 95 9 = 0 ∧ L' 95 10 = 0 ∧ (L' 95 11 = 0 ↔ L 95 11 * L 95 5 - L 95 5 * L 95 11 = 0)) → Br 128 270 125 [some (.ref 74), some (.int (nI m)), some (.int (nI 1)), some (.int (nI 2)), some (.int p4), some (.int (nI 4)), l6', none, l8', none, l10'] [] (n, sl, C, Z, I, L', R) Q (nI m ≤ nI 4)) : Wp 128 125 [some (.ref 74), some (.int (nI m)), some (.int (nI 1)), some (.int (nI 2)), some (.int p4), some (.int (nI 3)), l6, l7, l8, l9, l10] [] (n, sl, C, Z, I, L, R) Q := by
  unfold LayM at hM
  have cm : ∀ a b : Int64, a * b - b * a = 0 := fun a b => by rw [Int64.mul_comm a b, Int64.sub_self]
  obtain ⟨W, hW⟩ : ∃ W, L 95 11 * L 95 5 - L 95 5 * L 95 11 = W := ⟨_, rfl⟩
  obtain ⟨e, he, hc⟩ := mc_0W W
  rw [hW] at go
  have W0 : W = 0 := by rw [← hW]; exact cm _ _
  have n0 : nI 0 = 0 := rfl
  have n1 : nI 1 = 1 := rfl
  have n2 : nI 2 = 2 := rfl
  have n3 : nI 3 = 3 := rfl
  have n4 : nI 4 = 4 := rfl
  simp only [n0, n1, n2, n3, n4] at go ⊢
  rcases hc with ⟨h1, -⟩ | ⟨h1, h2, h3, h4⟩
  · simp [S128_0, S128_1, S128_2, S128_3, S128_4, S128_5, S128_6, BS, ixs, inbs, hM, u2_rd, zr0, zi0, zr1, zi1, cm, hW, mc_00, he, lg_le, h1]
    refine go _ _ _ _ (fun c h => ?_) (fun x q1 q2 q3 => ?_) ⟨?_, ?_, ?_⟩
    · repeat (first | rw [u2_ne _ _ _ h])
    · simp [u2_rd, q1, q2, q3]
    · simp [u2_rd]
    · simp [u2_rd]
    · simp [u2_rd, W0]
  · simp [S128_0, S128_1, S128_2, S128_3, S128_4, S128_5, S128_6, BS, ixs, inbs, hM, u2_rd, zr0, zi0, zr1, zi1, cm, hW, mc_00, he, lg_le, h1, h2, h3]
    refine go _ _ _ _ (fun c h => ?_) (fun x q1 q2 q3 => ?_) ⟨?_, ?_, ?_⟩
    · repeat (first | rw [u2_ne _ _ _ h])
    · simp [u2_rd, q1, q2, q3]
    · simp [u2_rd]
    · simp [u2_rd]
    · simp [u2_rd, W0]
set_option maxRecDepth 100000 in
set_option maxHeartbeats 8000000 in
theorem mr2_2_23 {n sl : Nat} {C Z : Nat → Nat} {I : Nat → Nat → Int32} {L : Nat → Nat → Int64} {R : Nat → Nat → Nat} {Q : Option Value → Hp → Prop} {m : Nat} {p4 : Int32} {l6 l7 l8 l9 l10 : Option Value} (hM : LayM C Z R) (zr0 : L 95 6 = 0) (zi0 : L 95 9 = 0) (zr1 : L 95 7 = 0) (zi1 : L 95 10 = 0) (go : ∀ L' l6' l8' l10', (∀ c, c ≠ 95 → L' c = L c) → (∀ x, x ≠ 9 → x ≠ 10 → x ≠ 11 → L' 95 x = L 95 x) → (L' 95 9 = 0 ∧ L' 95 10 = 0 ∧ (L' 95 11 = 0 ↔ L 95 11 * L 95 8 - L 95 8 * L 95 11 = 0)) → Br 128 270 125 [some (.ref 74), some (.int (nI m)), some (.int (nI 2)), some (.int (nI 2)), some (.int p4), some (.int (nI 4)), l6', none, l8', none, l10'] [] (n, sl, C, Z, I, L', R) Q (nI m ≤ nI 4)) : Wp 128 125 [some (.ref 74), some (.int (nI m)), some (.int (nI 2)), some (.int (nI 2)), some (.int p4), some (.int (nI 3)), l6, l7, l8, l9, l10] [] (n, sl, C, Z, I, L, R) Q := by
  unfold LayM at hM
  have cm : ∀ a b : Int64, a * b - b * a = 0 := fun a b => by rw [Int64.mul_comm a b, Int64.sub_self]
  obtain ⟨W, hW⟩ : ∃ W, L 95 11 * L 95 8 - L 95 8 * L 95 11 = W := ⟨_, rfl⟩
  obtain ⟨e, he, hc⟩ := mc_0W W
  rw [hW] at go
  have W0 : W = 0 := by rw [← hW]; exact cm _ _
  have n0 : nI 0 = 0 := rfl
  have n1 : nI 1 = 1 := rfl
  have n2 : nI 2 = 2 := rfl
  have n3 : nI 3 = 3 := rfl
  have n4 : nI 4 = 4 := rfl
  simp only [n0, n1, n2, n3, n4] at go ⊢
  rcases hc with ⟨h1, -⟩ | ⟨h1, h2, h3, h4⟩
  · simp [S128_0, S128_1, S128_2, S128_3, S128_4, S128_5, S128_6, BS, ixs, inbs, hM, u2_rd, zr0, zi0, zr1, zi1, cm, hW, mc_00, he, lg_le, h1]
    refine go _ _ _ _ (fun c h => ?_) (fun x q1 q2 q3 => ?_) ⟨?_, ?_, ?_⟩
    · repeat (first | rw [u2_ne _ _ _ h])
    · simp [u2_rd, q1, q2, q3]
    · simp [u2_rd]
    · simp [u2_rd]
    · simp [u2_rd, W0]
  · simp [S128_0, S128_1, S128_2, S128_3, S128_4, S128_5, S128_6, BS, ixs, inbs, hM, u2_rd, zr0, zi0, zr1, zi1, cm, hW, mc_00, he, lg_le, h1, h2, h3]
    refine go _ _ _ _ (fun c h => ?_) (fun x q1 q2 q3 => ?_) ⟨?_, ?_, ?_⟩
    · repeat (first | rw [u2_ne _ _ _ h])
    · simp [u2_rd, q1, q2, q3]
    · simp [u2_rd]
    · simp [u2_rd]
    · simp [u2_rd, W0]
