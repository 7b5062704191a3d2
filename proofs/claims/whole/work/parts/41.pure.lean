/-! pure numbers of a machine -/
def mv (A v : Nat → Int) (i : Nat) : Int := A (3 * i) * v 0 + A (3 * i + 1) * v 1 + A (3 * i + 2) * v 2
def vm (v A : Nat → Int) (i : Nat) : Int := v 0 * A i + v 1 * A (3 + i) + v 2 * A (6 + i)
def pw (A B : Nat → Int) : Nat → Nat → Int
  | 0 => B
  | k + 1 => mv A (pw A B k)
def pr (A K : Nat → Int) : Nat → Nat → Int
  | 0 => K
  | k + 1 => vm (pr A K k) A
/-- the plain pulse -/
def pl (A B K : Nat → Int) (k : Nat) : Int := K 0 * pw A B k 0 + K 1 * pw A B k 1 + K 2 * pw A B k 2
def dt3 (x y z : Nat → Int) : Int := x 0 * (y 1 * z 2 - y 2 * z 1) - x 1 * (y 0 * z 2 - y 2 * z 0) + x 2 * (y 0 * z 1 - y 1 * z 0)
/-- the numbers of OWN from the top -/
def cf (A : Nat → Int) (j : Nat) : Int := if j = 0 then 1 else if j = 1 then -(A 0 + A 4 + A 8) else if j = 2 then A 0 * A 4 - A 1 * A 3 + (A 0 * A 8 - A 2 * A 6) + (A 4 * A 8 - A 5 * A 7) else -(A 0 * (A 4 * A 8 - A 5 * A 7) - A 1 * (A 3 * A 8 - A 5 * A 6) + A 2 * (A 3 * A 7 - A 4 * A 6))
/-- bounds -/
def bn (X : Nat) (a : Int) : Prop := a.natAbs ≤ X
theorem bn_mul {X Y : Nat} {a b : Int} (h1 : bn X a) (h2 : bn Y b) : bn (X * Y) (a * b) := by
  unfold bn at *
  rw [Int.natAbs_mul]
  exact Nat.mul_le_mul h1 h2
theorem bn_add {X Y : Nat} {a b : Int} (h1 : bn X a) (h2 : bn Y b) : bn (X + Y) (a + b) := by
  unfold bn at *
  omega
theorem bn_sub {X Y : Nat} {a b : Int} (h1 : bn X a) (h2 : bn Y b) : bn (X + Y) (a - b) := by
  unfold bn at *
  omega
theorem bn_neg {X : Nat} {a : Int} (h1 : bn X a) : bn X (-a) := by
  unfold bn at *
  omega
theorem bn_le {X Y : Nat} {a : Int} (h1 : bn X a) (h : X ≤ Y) : bn Y a := Nat.le_trans h1 h
theorem bn_mv {X Y : Nat} {A v : Nat → Int} (hA : ∀ i, i < 9 → bn X (A i)) (hv : ∀ i, i < 3 → bn Y (v i)) {i : Nat} (hi : i < 3) : bn (X * Y + X * Y + X * Y) (mv A v i) := bn_add (bn_add (bn_mul (hA _ (by omega)) (hv _ (by omega))) (bn_mul (hA _ (by omega)) (hv _ (by omega)))) (bn_mul (hA _ (by omega)) (hv _ (by omega)))
theorem bn_vm {X Y : Nat} {A v : Nat → Int} (hA : ∀ i, i < 9 → bn X (A i)) (hv : ∀ i, i < 3 → bn Y (v i)) {i : Nat} (hi : i < 3) : bn (Y * X + Y * X + Y * X) (vm v A i) := bn_add (bn_add (bn_mul (hv _ (by omega)) (hA _ (by omega))) (bn_mul (hv _ (by omega)) (hA _ (by omega)))) (bn_mul (hv _ (by omega)) (hA _ (by omega)))
theorem bn_pw {Y : Nat} {A B : Nat → Int} (hA : ∀ i, i < 9 → bn 12 (A i)) (hB : ∀ i, i < 3 → bn Y (B i)) : ∀ k i, i < 3 → bn (Y * 36 ^ k) (pw A B k i) := by
  intro k
  induction k with
  | zero => intro i hi; simpa [pw] using hB i hi
  | succ k ih =>
    intro i hi
    refine bn_le (bn_mv hA ih hi) ?_
    rw [Nat.pow_succ, show Y * (36 ^ k * 36) = 36 * (Y * 36 ^ k) from by rw [← Nat.mul_assoc, Nat.mul_comm]]
    omega
theorem bn_pr {Y : Nat} {A K : Nat → Int} (hA : ∀ i, i < 9 → bn 12 (A i)) (hK : ∀ i, i < 3 → bn Y (K i)) : ∀ k i, i < 3 → bn (Y * 36 ^ k) (pr A K k i) := by
  intro k
  induction k with
  | zero => intro i hi; simpa [pr] using hK i hi
  | succ k ih =>
    intro i hi
    refine bn_le (bn_vm hA ih hi) ?_
    rw [Nat.pow_succ, show Y * (36 ^ k * 36) = 36 * (Y * 36 ^ k) from by rw [← Nat.mul_assoc, Nat.mul_comm]]
    omega
theorem bn_pl {A B K : Nat → Int} (hA : ∀ i, i < 9 → bn 12 (A i)) (hB : ∀ i, i < 3 → bn 12 (B i)) (hK : ∀ i, i < 3 → bn 12 (K i)) (k : Nat) : bn (432 * 36 ^ k) (pl A B K k) := by
  have h := bn_pw hA hB k
  refine bn_le (bn_add (bn_add (bn_mul (hK 0 (by omega)) (h 0 (by omega))) (bn_mul (hK 1 (by omega)) (h 1 (by omega)))) (bn_mul (hK 2 (by omega)) (h 2 (by omega)))) ?_
  omega
