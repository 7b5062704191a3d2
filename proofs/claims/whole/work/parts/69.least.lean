theorem G2_hks {X Y : Nat → Nat → Int} {m : Nat} (h : ∀ i c, c < 3 → X i c = Y i c) (hY : G2 Y m) : G2 X m := by
  intro p hp p1 p2 i j hi hi2 hj hj2
  have hs : ∀ i c, c < 3 → sw X 0 p i c = sw Y 0 p i c := fun i c hc => by
    unfold sw
    split
    · exact h _ _ hc
    · split
      · exact h _ _ hc
      · exact h _ _ hc
  have hx : ∀ i c, c < 3 → x3 (sw X 0 p) i c = x3 (sw Y 0 p) i c := fun i c hc => by
    unfold x3
    rw [hs i c hc, hs 0 0 (by omega), hs 0 c hc, hs i 0 (by omega)]
  have he : ∀ i c, 1 ≤ i → c < 3 → el (sw X 0 p) i c = el (sw Y 0 p) i c := fun i c h1 hc => by
    unfold el
    rw [if_neg (by omega), if_neg (by omega)]
    show x3 (sw X 0 p) i c / g3 (sw X 0 p) i = x3 (sw Y 0 p) i c / g3 (sw Y 0 p) i
    unfold g3
    rw [hx i c hc, hx i 0 (by omega), hx i 1 (by omega), hx i 2 (by omega)]
  rw [he i 2 hi (by omega), he j 1 hj (by omega), he j 2 hj (by omega), he i 1 hi (by omega)]
  exact hY p hp (by rw [← h p 0 (by omega)]; exact p1) (fun p' hp' => by rw [← h p' 0 (by omega)]; exact p2 p' hp') i j hi hi2 hj hj2
set_option maxRecDepth 100000 in
set_option maxHeartbeats 8000000 in
theorem m_least_0 {n sl : Nat} {C Z : Nat → Nat} {I : Nat → Nat → Int32} {L : Nat → Nat → Int64} {R : Nat → Nat → Nat} {j : Nat} {u : Int32} {A B K : Nat → Int} {d : Int} (hr : RM C Z I R j 0 u A B K d) (hA : ∀ i, i < 9 → bn 12 (A i)) (hB : ∀ i, i < 3 → bn 12 (B i)) (hK : ∀ i, i < 3 → bn 12 (K i)) (hL : True) {k pc : Nat} {ls : Lo} {st : List Value} {Q : Option Value → Hp → Prop} (go : ∀ r, r ≤ 3 → IsRk (hk A B K) 3 r → ∀ L', (∀ c, c ≠ 95 → c ≠ 97 → c ≠ 98 → L' c = L c) → Wp k pc ls (.int (nI r) :: st) (n, sl, C, Z, I, L', R) Q) : Call 132 [some (.ref 74), some (.int (nI j)), none, none] (n, sl, C, Z, I, L, R) k pc ls st Q := by
  obtain ⟨hM, hj12, hs3, k76, k77, mA, mB, mK, mD, zA, zB⟩ := id hr
  have hM' := hM
  unfold LayM at hM
  have j0 : inb (nI j) 12 = true := by rw [inb_nI (by omega)]; simp; omega
  have jx := ix_nI (show j < 2 ^ 31 by omega)
  have n0 : nI 0 = 0 := rfl
  have n1 : nI 1 = 1 := rfl
  have n2 : nI 2 = 2 := rfl
  have n3 : nI 3 = 3 := rfl
  have n4 : nI 4 = 4 := rfl
  have beat := fun (e : Nat) (he : e < 1000) (L : Nat → Nat → Int64) (k pc : Nat) (ls : Lo) (st : List Value) (Q : Option Value → Hp → Prop) => m_beat (n := n) (sl := sl) (L := L) hr he (k := k) (pc := pc) (ls := ls) (st := st) (Q := Q)
  have b0 := beat 0 (by omega)
  have b1 := beat 1 (by omega)
  have b2 := beat 2 (by omega)
  have b3 := beat 3 (by omega)
  have b4 := beat 4 (by omega)
  rw [nI_0] at b0
  rw [n1] at b1
  rw [n2] at b2
  rw [n3] at b3
  rw [n4] at b4
  simp [S132_0, S132_1, Call_in (k2 := 132), BS, ixs, inbs, hM, j0, jx, k76, n0]
  have bh : ∀ i c, i < 0 → c < 3 → bn 1073741824 (hks 0 A B K i c) := fun i c hi hc => by
    unfold hks
    by_cases q : c < 0
    · rw [if_pos q]
      exact bn_le (bn_pl hA hB hK (i + c)) (by
        have : i + c ≤ 4 := by omega
        have : 36 ^ (i + c) ≤ 36 ^ 4 := Nat.pow_le_pow_right (by omega) this
        omega)
    · rw [if_neg q]; unfold bn; decide
  refine m_rank (m := 0) (X := hks 0 A B K) hM' (by omega) (fun i c hi hc => ?_) bh (G2_two (by omega)) (fun r h1 h2 Lz fz => ?_)
  · exact absurd hi (by omega)
  · simp [S132_0, S132_1, BS]
    exact go r h1 (rk_hk hs3 zA zB h2) Lz (fun c q1 q2 q3 => by
      rw [fz c q1]
      repeat (first | rw [u2_ne _ _ _ q1]))
set_option maxRecDepth 100000 in
set_option maxHeartbeats 8000000 in
theorem m_least_1 {n sl : Nat} {C Z : Nat → Nat} {I : Nat → Nat → Int32} {L : Nat → Nat → Int64} {R : Nat → Nat → Nat} {j : Nat} {u : Int32} {A B K : Nat → Int} {d : Int} (hr : RM C Z I R j 1 u A B K d) (hA : ∀ i, i < 9 → bn 12 (A i)) (hB : ∀ i, i < 3 → bn 12 (B i)) (hK : ∀ i, i < 3 → bn 12 (K i)) (hL : True) {k pc : Nat} {ls : Lo} {st : List Value} {Q : Option Value → Hp → Prop} (go : ∀ r, r ≤ 3 → IsRk (hk A B K) 3 r → ∀ L', (∀ c, c ≠ 95 → c ≠ 97 → c ≠ 98 → L' c = L c) → Wp k pc ls (.int (nI r) :: st) (n, sl, C, Z, I, L', R) Q) : Call 132 [some (.ref 74), some (.int (nI j)), none, none] (n, sl, C, Z, I, L, R) k pc ls st Q := by
  obtain ⟨hM, hj12, hs3, k76, k77, mA, mB, mK, mD, zA, zB⟩ := id hr
  have hM' := hM
  unfold LayM at hM
  have j0 : inb (nI j) 12 = true := by rw [inb_nI (by omega)]; simp; omega
  have jx := ix_nI (show j < 2 ^ 31 by omega)
  have n0 : nI 1 = 1 := rfl
  have n1 : nI 1 = 1 := rfl
  have n2 : nI 2 = 2 := rfl
  have n3 : nI 3 = 3 := rfl
  have n4 : nI 4 = 4 := rfl
  have beat := fun (e : Nat) (he : e < 1000) (L : Nat → Nat → Int64) (k pc : Nat) (ls : Lo) (st : List Value) (Q : Option Value → Hp → Prop) => m_beat (n := n) (sl := sl) (L := L) hr he (k := k) (pc := pc) (ls := ls) (st := st) (Q := Q)
  have b0 := beat 0 (by omega)
  have b1 := beat 1 (by omega)
  have b2 := beat 2 (by omega)
  have b3 := beat 3 (by omega)
  have b4 := beat 4 (by omega)
  rw [nI_0] at b0
  rw [n1] at b1
  rw [n2] at b2
  rw [n3] at b3
  rw [n4] at b4
  simp [S132_0, S132_1, Call_in (k2 := 132), BS, ixs, inbs, hM, j0, jx, k76, n0]
  refine b0 _ _ _ _ _ _ (fun M0 f0 => ?_)
  simp [S132_0, S132_1, BS, ixs, inbs, hM, j0, jx, k76, n0]
  have bh : ∀ i c, i < 1 → c < 3 → bn 1073741824 (hks 1 A B K i c) := fun i c hi hc => by
    unfold hks
    by_cases q : c < 1
    · rw [if_pos q]
      exact bn_le (bn_pl hA hB hK (i + c)) (by
        have : i + c ≤ 4 := by omega
        have : 36 ^ (i + c) ≤ 36 ^ 4 := Nat.pow_le_pow_right (by omega) this
        omega)
    · rw [if_neg q]; unfold bn; decide
  refine m_rank (m := 1) (X := hks 1 A B K) hM' (by omega) (fun i c hi hc => ?_) bh (G2_two (by omega)) (fun r h1 h2 Lz fz => ?_)
  · rcases (by omega : i = 0) with rfl <;> rcases i3 hc with rfl | rfl | rfl <;> simp [u2_rd, hks, wL_0, f0 95]
  · simp [S132_0, S132_1, BS]
    exact go r h1 (rk_hk hs3 zA zB h2) Lz (fun c q1 q2 q3 => by
      rw [fz c q1]
      repeat (first | rw [u2_ne _ _ _ q1] | rw [f0 c q2 q3]))
set_option maxRecDepth 100000 in
set_option maxHeartbeats 8000000 in
theorem m_least_2 {n sl : Nat} {C Z : Nat → Nat} {I : Nat → Nat → Int32} {L : Nat → Nat → Int64} {R : Nat → Nat → Nat} {j : Nat} {u : Int32} {A B K : Nat → Int} {d : Int} (hr : RM C Z I R j 2 u A B K d) (hA : ∀ i, i < 9 → bn 12 (A i)) (hB : ∀ i, i < 3 → bn 12 (B i)) (hK : ∀ i, i < 3 → bn 12 (K i)) (hL : True) {k pc : Nat} {ls : Lo} {st : List Value} {Q : Option Value → Hp → Prop} (go : ∀ r, r ≤ 3 → IsRk (hk A B K) 3 r → ∀ L', (∀ c, c ≠ 95 → c ≠ 97 → c ≠ 98 → L' c = L c) → Wp k pc ls (.int (nI r) :: st) (n, sl, C, Z, I, L', R) Q) : Call 132 [some (.ref 74), some (.int (nI j)), none, none] (n, sl, C, Z, I, L, R) k pc ls st Q := by
  obtain ⟨hM, hj12, hs3, k76, k77, mA, mB, mK, mD, zA, zB⟩ := id hr
  have hM' := hM
  unfold LayM at hM
  have j0 : inb (nI j) 12 = true := by rw [inb_nI (by omega)]; simp; omega
  have jx := ix_nI (show j < 2 ^ 31 by omega)
  have n0 : nI 2 = 2 := rfl
  have n1 : nI 1 = 1 := rfl
  have n2 : nI 2 = 2 := rfl
  have n3 : nI 3 = 3 := rfl
  have n4 : nI 4 = 4 := rfl
  have beat := fun (e : Nat) (he : e < 1000) (L : Nat → Nat → Int64) (k pc : Nat) (ls : Lo) (st : List Value) (Q : Option Value → Hp → Prop) => m_beat (n := n) (sl := sl) (L := L) hr he (k := k) (pc := pc) (ls := ls) (st := st) (Q := Q)
  have b0 := beat 0 (by omega)
  have b1 := beat 1 (by omega)
  have b2 := beat 2 (by omega)
  have b3 := beat 3 (by omega)
  have b4 := beat 4 (by omega)
  rw [nI_0] at b0
  rw [n1] at b1
  rw [n2] at b2
  rw [n3] at b3
  rw [n4] at b4
  simp [S132_0, S132_1, Call_in (k2 := 132), BS, ixs, inbs, hM, j0, jx, k76, n0]
  refine b0 _ _ _ _ _ _ (fun M0 f0 => ?_)
  simp [S132_0, S132_1, BS, ixs, inbs, hM, j0, jx, k76, n0]
  refine b1 _ _ _ _ _ _ (fun M1 f1 => ?_)
  simp [S132_0, S132_1, BS, ixs, inbs, hM, j0, jx, k76, n0]
  refine b1 _ _ _ _ _ _ (fun M2 f2 => ?_)
  simp [S132_0, S132_1, BS, ixs, inbs, hM, j0, jx, k76, n0]
  refine b2 _ _ _ _ _ _ (fun M3 f3 => ?_)
  simp [S132_0, S132_1, BS, ixs, inbs, hM, j0, jx, k76, n0]
  have bh : ∀ i c, i < 2 → c < 3 → bn 1073741824 (hks 2 A B K i c) := fun i c hi hc => by
    unfold hks
    by_cases q : c < 2
    · rw [if_pos q]
      exact bn_le (bn_pl hA hB hK (i + c)) (by
        have : i + c ≤ 4 := by omega
        have : 36 ^ (i + c) ≤ 36 ^ 4 := Nat.pow_le_pow_right (by omega) this
        omega)
    · rw [if_neg q]; unfold bn; decide
  refine m_rank (m := 2) (X := hks 2 A B K) hM' (by omega) (fun i c hi hc => ?_) bh (G2_two (by omega)) (fun r h1 h2 Lz fz => ?_)
  · rcases (by omega : i = 0 ∨ i = 1) with rfl | rfl <;> rcases i3 hc with rfl | rfl | rfl <;> simp [u2_rd, hks, wL_0, f0 95, f1 95, f2 95, f3 95]
  · simp [S132_0, S132_1, BS]
    exact go r h1 (rk_hk hs3 zA zB h2) Lz (fun c q1 q2 q3 => by
      rw [fz c q1]
      repeat (first | rw [u2_ne _ _ _ q1] | rw [f0 c q2 q3] | rw [f1 c q2 q3] | rw [f2 c q2 q3] | rw [f3 c q2 q3]))
set_option maxRecDepth 100000 in
set_option maxHeartbeats 8000000 in
theorem m_least_3 {n sl : Nat} {C Z : Nat → Nat} {I : Nat → Nat → Int32} {L : Nat → Nat → Int64} {R : Nat → Nat → Nat} {j : Nat} {u : Int32} {A B K : Nat → Int} {d : Int} (hr : RM C Z I R j 3 u A B K d) (hA : ∀ i, i < 9 → bn 12 (A i)) (hB : ∀ i, i < 3 → bn 12 (B i)) (hK : ∀ i, i < 3 → bn 12 (K i)) (hL : LB A B K) {k pc : Nat} {ls : Lo} {st : List Value} {Q : Option Value → Hp → Prop} (go : ∀ r, r ≤ 3 → IsRk (hk A B K) 3 r → ∀ L', (∀ c, c ≠ 95 → c ≠ 97 → c ≠ 98 → L' c = L c) → Wp k pc ls (.int (nI r) :: st) (n, sl, C, Z, I, L', R) Q) : Call 132 [some (.ref 74), some (.int (nI j)), none, none] (n, sl, C, Z, I, L, R) k pc ls st Q := by
  obtain ⟨hM, hj12, hs3, k76, k77, mA, mB, mK, mD, zA, zB⟩ := id hr
  have hM' := hM
  unfold LayM at hM
  have j0 : inb (nI j) 12 = true := by rw [inb_nI (by omega)]; simp; omega
  have jx := ix_nI (show j < 2 ^ 31 by omega)
  have n0 : nI 3 = 3 := rfl
  have n1 : nI 1 = 1 := rfl
  have n2 : nI 2 = 2 := rfl
  have n3 : nI 3 = 3 := rfl
  have n4 : nI 4 = 4 := rfl
  have beat := fun (e : Nat) (he : e < 1000) (L : Nat → Nat → Int64) (k pc : Nat) (ls : Lo) (st : List Value) (Q : Option Value → Hp → Prop) => m_beat (n := n) (sl := sl) (L := L) hr he (k := k) (pc := pc) (ls := ls) (st := st) (Q := Q)
  have b0 := beat 0 (by omega)
  have b1 := beat 1 (by omega)
  have b2 := beat 2 (by omega)
  have b3 := beat 3 (by omega)
  have b4 := beat 4 (by omega)
  rw [nI_0] at b0
  rw [n1] at b1
  rw [n2] at b2
  rw [n3] at b3
  rw [n4] at b4
  simp [S132_0, S132_1, Call_in (k2 := 132), BS, ixs, inbs, hM, j0, jx, k76, n0]
  refine b0 _ _ _ _ _ _ (fun M0 f0 => ?_)
  simp [S132_0, S132_1, BS, ixs, inbs, hM, j0, jx, k76, n0]
  refine b1 _ _ _ _ _ _ (fun M1 f1 => ?_)
  simp [S132_0, S132_1, BS, ixs, inbs, hM, j0, jx, k76, n0]
  refine b2 _ _ _ _ _ _ (fun M2 f2 => ?_)
  simp [S132_0, S132_1, BS, ixs, inbs, hM, j0, jx, k76, n0]
  refine b1 _ _ _ _ _ _ (fun M3 f3 => ?_)
  simp [S132_0, S132_1, BS, ixs, inbs, hM, j0, jx, k76, n0]
  refine b2 _ _ _ _ _ _ (fun M4 f4 => ?_)
  simp [S132_0, S132_1, BS, ixs, inbs, hM, j0, jx, k76, n0]
  refine b3 _ _ _ _ _ _ (fun M5 f5 => ?_)
  simp [S132_0, S132_1, BS, ixs, inbs, hM, j0, jx, k76, n0]
  refine b2 _ _ _ _ _ _ (fun M6 f6 => ?_)
  simp [S132_0, S132_1, BS, ixs, inbs, hM, j0, jx, k76, n0]
  refine b3 _ _ _ _ _ _ (fun M7 f7 => ?_)
  simp [S132_0, S132_1, BS, ixs, inbs, hM, j0, jx, k76, n0]
  refine b4 _ _ _ _ _ _ (fun M8 f8 => ?_)
  simp [S132_0, S132_1, BS, ixs, inbs, hM, j0, jx, k76, n0]
  have bh : ∀ i c, i < 3 → c < 3 → bn 1073741824 (hks 3 A B K i c) := fun i c hi hc => by
    unfold hks
    by_cases q : c < 3
    · rw [if_pos q]
      exact bn_le (bn_pl hA hB hK (i + c)) (by
        have : i + c ≤ 4 := by omega
        have : 36 ^ (i + c) ≤ 36 ^ 4 := Nat.pow_le_pow_right (by omega) this
        omega)
    · rw [if_neg q]; unfold bn; decide
  refine m_rank (m := 3) (X := hks 3 A B K) hM' (by omega) (fun i c hi hc => ?_) bh (fun p hp p1 p2 => by
    have e : ∀ i c, c < 3 → hks 3 A B K i c = hk A B K i c := fun i c hc => by unfold hks hk; rw [if_pos hc]
    exact G2_hks (fun i c hc => e i c hc) (G2_hk hA hB hK hL) p hp p1 p2) (fun r h1 h2 Lz fz => ?_)
  · rcases (by omega : i = 0 ∨ i = 1 ∨ i = 2) with rfl | rfl | rfl <;> rcases i3 hc with rfl | rfl | rfl <;> simp [u2_rd, hks, wL_0, f0 95, f1 95, f2 95, f3 95, f4 95, f5 95, f6 95, f7 95, f8 95]
  · simp [S132_0, S132_1, BS]
    exact go r h1 (rk_hk hs3 zA zB h2) Lz (fun c q1 q2 q3 => by
      rw [fz c q1]
      repeat (first | rw [u2_ne _ _ _ q1] | rw [f0 c q2 q3] | rw [f1 c q2 q3] | rw [f2 c q2 q3] | rw [f3 c q2 q3] | rw [f4 c q2 q3] | rw [f5 c q2 q3] | rw [f6 c q2 q3] | rw [f7 c q2 q3] | rw [f8 c q2 q3]))
