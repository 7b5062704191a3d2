def colF (A : Nat → Int32) (x : Nat → Int64) (i : Nat) : Int64 := ((0 + (A (3 * i)).toInt64 * x 0) + (A (3 * i + 1)).toInt64 * x 1) + (A (3 * i + 2)).toInt64 * x 2
theorem c_columnInto {n sl : Nat} {C Z : Nat → Nat} {I : Nat → Nat → Int32} {L : Nat → Nat → Int64} {R : Nat → Nat → Nat} {Q : Option Value → Hp → Prop} {t u x m a : Nat}
    (hC : C t = 4) (hm : R t 0 = m) (hmC : inG 7 (C m) = true) (ha : R m 3 = a) (haC : C a = 21) (haZ : Z a = 9) (huC : C u = 22) (huZ : Z u = 3) (hxC : C x = 22) (hxZ : Z x = 3) (hne : x ≠ u)
    (hQ : Q none (n, sl, C, Z, I, u2 (u2 (u2 L u 0 (colF (I a) (L x) 0)) u 1 (colF (I a) (L x) 1)) u 2 (colF (I a) (L x) 2), R)) :
    Wp 18 0 [some (.ref t), some (.ref u), some (.ref x), none, none, none, none] [] (n, sl, C, Z, I, L, R) Q := by
  have e1 : ∀ (L : Nat → Nat → Int64) (v : Int64) (j : Nat), u2 L u j v x = L x := fun L v j => by simp [u2, va_up, hne]
  simp [S18_0, S18_1, Br_t, Br_f, clr_i, clr_r, clr_n, clr_l, hC, hm, hmC, ha, haC, haZ, huC, huZ, hxC, hxZ, ixs, inbs, e1]
  exact hQ
