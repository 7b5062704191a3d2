theorem nI_sub1 {M : Nat} (h : M ≤ 12) : (nI M - 1).toInt = (M : Int) - 1 := by
  have := pk_sub_toInt (a := M) (b := 1) (by omega) (by omega)
  simpa [nI] using this
theorem le_pred {x : Int32} {M : Nat} (h : M ≤ 12) : x ≤ nI M - 1 ↔ x < nI M := by
  rw [Int32.le_iff_toInt_le, Int32.lt_iff_toInt_lt, nI_sub1 h, nI_toInt (by omega)]
  omega
theorem nI_nneg {j : Nat} (h : j < 1000000) : ¬ nI j < 0 := nI_pos (by omega)
section HLP
variable {n sl : Nat} {C Z : Nat → Nat} {I : Nat → Nat → Int32} {L : Nat → Nat → Int64} {R : Nat → Nat → Nat} {M : Nat}
/-- machineAt: no such machine -/
theorem at_no (hB : LayB C Z R) (e1 : I 1 1 = nI M) (hM : M ≤ 12) {x : Int32} (hx : x < 0 ∨ nI M ≤ x) (k pc : Nat) (ls : Lo) (st : List Value) (Q : Option Value → Hp → Prop) : Call 92 [some (.ref 1), some (.int x)] (n, sl, C, Z, I, L, R) k pc ls st Q ↔ Wp k pc ls (.ref 0 :: st) (n, sl, C, Z, I, L, R) Q := by
  unfold LayB at hB
  rcases hx with hx | hx
  · have h0 : ¬ 0 ≤ x := by rw [Int32.not_le]; exact hx
    simp [S92_0, S87_0, Call_in, BS, ixs, inbs, hB, e1, hx, h0]
  · have h0 : ¬ x < nI M := by rw [Int32.not_lt]; exact hx
    have h1 : nI M - 1 < x := by rw [← Int32.not_le, le_pred hM]; exact h0
    by_cases h2 : x < 0
    · simp [S92_0, S87_0, Call_in, BS, ixs, inbs, hB, e1, h2]
    · simp [S92_0, S87_0, Call_in, BS, ixs, inbs, hB, e1, h1, h2]
/-- machineAt: machine j -/
theorem at_yes (hB : LayB C Z R) (e1 : I 1 1 = nI M) (hM : M ≤ 12) {j : Nat} (hj : j < M) (k pc : Nat) (ls : Lo) (st : List Value) (Q : Option Value → Hp → Prop) : Call 92 [some (.ref 1), some (.int (nI j))] (n, sl, C, Z, I, L, R) k pc ls st Q ↔ Wp k pc ls (.ref (R 2 j) :: st) (n, sl, C, Z, I, L, R) Q := by
  unfold LayB at hB
  have h0 : ¬ nI j < 0 := nI_nneg (by omega)
  have h1 : ¬ nI M - 1 < nI j := by rw [Int32.not_lt, le_pred hM]; exact nI_lt hj (by omega)
  have h2 : inb (nI j) 12 = true := by rw [inb_nI (by omega)]; simp; omega
  simp [S92_0, S87_0, Call_in, BS, ixs, inbs, hB, e1, h0, h1, h2, ix_nI (show j < 2 ^ 31 by omega)]
theorem is_no (hB : LayM C Z R) (e1 : I 74 0 = nI M) {x : Int32} (hx : x < 0 ∨ nI M ≤ x) (k pc : Nat) (ls : Lo) (st : List Value) (Q : Option Value → Hp → Prop) : Call 103 [some (.ref 74), some (.int x)] (n, sl, C, Z, I, L, R) k pc ls st Q ↔ Wp k pc ls (.int 0 :: st) (n, sl, C, Z, I, L, R) Q := by
  unfold LayM at hB
  rcases hx with hx | hx
  · simp [S103_0, Call_in, BS, hB, e1, hx]
  · by_cases h2 : x < 0
    · simp [S103_0, Call_in, BS, hB, e1, h2]
    · simp [S103_0, Call_in, BS, hB, e1, hx, h2]
theorem is_yes (hB : LayM C Z R) (e1 : I 74 0 = nI M) (hM : M ≤ 12) {j : Nat} (hj : j < M) (k pc : Nat) (ls : Lo) (st : List Value) (Q : Option Value → Hp → Prop) : Call 103 [some (.ref 74), some (.int (nI j))] (n, sl, C, Z, I, L, R) k pc ls st Q ↔ Wp k pc ls (.int 1 :: st) (n, sl, C, Z, I, L, R) Q := by
  unfold LayM at hB
  have h0 : ¬ nI j < 0 := nI_nneg (by omega)
  have h1 : ¬ nI M ≤ nI j := nI_ge hj (by omega)
  simp [S103_0, Call_in, BS, hB, e1, h0, h1]
end HLP
