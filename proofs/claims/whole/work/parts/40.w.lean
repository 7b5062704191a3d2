/-! longs as whole numbers -/
def wL (z : Int) : Int64 := Int64.ofInt z
theorem wL_add (a b : Int) : wL a + wL b = wL (a + b) := (Int64.ofInt_add a b).symm
theorem wL_sub (a b : Int) : wL a - wL b = wL (a - b) := (Int64.ofInt_sub a b).symm
theorem wL_mul (a b : Int) : wL a * wL b = wL (a * b) := (Int64.ofInt_mul a b).symm
theorem wL_neg (a : Int) : -wL a = wL (-a) := (Int64.ofInt_neg a).symm
theorem wL_i2l (x : Int32) : x.toInt64 = wL x.toInt := by
  apply Int64.toInt_inj.mp
  rw [Int32.toInt_toInt64]
  unfold wL
  have h1 := Int32.le_toInt x
  have h2 := Int32.toInt_lt x
  rw [Int64.toInt_ofInt_of_le (by omega) (by omega)]
theorem wL_toInt {z : Int} (h1 : -9223372036854775808 ≤ z) (h2 : z < 9223372036854775808) : (wL z).toInt = z := Int64.toInt_ofInt_of_le h1 h2
theorem wL_of (x : Int64) : wL x.toInt = x := Int64.ofInt_toInt x
theorem wL_lt {a b : Int} (a1 : -9223372036854775808 ≤ a) (a2 : a < 9223372036854775808) (b1 : -9223372036854775808 ≤ b) (b2 : b < 9223372036854775808) : wL a < wL b ↔ a < b := by
  rw [Int64.lt_iff_toInt_lt, wL_toInt a1 a2, wL_toInt b1 b2]
theorem wL_eq0 {a : Int} (h1 : -18446744073709551616 < a) (h2 : a < 18446744073709551616) : wL a = 0 ↔ a = 0 := by
  constructor
  · intro h
    have h3 : a.bmod (2 ^ 64) = (0 : Int64).toInt := (Int64.ofInt_eq_iff_bmod_eq_toInt a 0).mp h
    have h4 : (0 : Int64).toInt = 0 := rfl
    rw [h4] at h3
    have h5 := Int.dvd_of_bmod_eq_zero h3
    obtain ⟨c, hc⟩ := h5
    have h6 : ((2 ^ 64 : Nat) : Int) = 18446744073709551616 := by decide
    rw [h6] at hc
    have : c = 0 := by omega
    subst this
    omega
  · intro h
    subst h
    rfl
theorem wL_eq {a b : Int} (h1 : -18446744073709551616 < a - b) (h2 : a - b < 18446744073709551616) : wL a = wL b ↔ a = b := by
  have h3 := wL_eq0 h1 h2
  rw [← wL_sub] at h3
  constructor
  · intro h
    rw [h] at h3
    have := h3.mp (by simp)
    omega
  · intro h
    rw [h]
