/-! the invariant between the bench and the reference -/
def bnd (b : Int) (x : Int32) : Prop := -b ≤ x.toInt ∧ x.toInt ≤ b
def mb (kd : Int32) : Int := if kd = 0 ∨ kd = 1 then 3 else 12
/-- of three STATES in a LOOP: two blocks, or b and c are multiples of what is small against one another -/
def FB (s : Nat) (A B K : Nat → Int32) : Prop := s = 3 → (A 2 = 0 ∧ A 5 = 0) ∨ (A 1 = 0 ∧ A 2 = 0) ∨ ∃ (f g : Int) (b k : Nat → Int), ∀ i, i < 3 → (B i).toInt = f * b i ∧ (K i).toInt = g * k i ∧ ∀ i', i' < 3 → -24 ≤ b i * k i' ∧ b i * k i' ≤ 24
/-- machine j: its cell q, its s STATES -/
def MOK (n : Nat) (C Z : Nat → Nat) (I : Nat → Nat → Int32) (R : Nat → Nat → Nat) (j q s : Nat) : Prop :=
  R 2 j = q ∧ 99 ≤ q ∧ q + 4 ≤ n ∧ ((C q = 8 ∧ I 75 j = 0) ∨ (C q = 2 ∧ I 75 j = 1) ∨ (C q = 5 ∧ I 75 j = 2 ∧ FB s (I (q + 1)) (I (q + 2)) (I (q + 3))) ∨ (C q = 6 ∧ I 75 j = 3 ∧ FB s (I (q + 1)) (I (q + 2)) (I (q + 3)))) ∧
  (I q 0 = nI j ∧ s ≤ 3 ∧ I q 1 = nI s ∧ I 76 j = nI s) ∧ (I q 2 = I 77 j ∧ (I 77 j = 1 ∨ I 77 j = 2 ∨ I 77 j = 4)) ∧
  (R q 3 = q + 1 ∧ R q 4 = q + 2 ∧ R q 5 = q + 3 ∧ R q 6 = q + 4) ∧
  (C (q + 1) = 21 ∧ C (q + 2) = 21 ∧ C (q + 3) = 21 ∧ C (q + 4) = 21 ∧ Z (q + 1) = 9 ∧ Z (q + 2) = 3 ∧ Z (q + 3) = 3 ∧ Z (q + 4) = 1) ∧
  (∀ i, i < 9 → I 79 (9 * j + i) = I (q + 1) i ∧ bnd (mb (I 75 j)) (I (q + 1) i)) ∧
  (∀ i, i < 3 → I 80 (3 * j + i) = I (q + 2) i ∧ bnd (mb (I 75 j)) (I (q + 2) i)) ∧
  (∀ i, i < 3 → I 81 (3 * j + i) = I (q + 3) i ∧ bnd (mb (I 75 j)) (I (q + 3) i)) ∧
  (I 78 j = I (q + 4) 0 ∧ bnd (mb (I 75 j)) (I (q + 4) 0)) ∧
  (∀ i k, i < 3 → k < 3 → (s ≤ i ∨ s ≤ k) → I (q + 1) (3 * i + k) = 0) ∧ (∀ i, i < 3 → s ≤ i → I (q + 2) i = 0 ∧ I (q + 3) i = 0)
/-- sheet s -/
def SOK (n : Nat) (C Z : Nat → Nat) (I : Nat → Nat → Int32) (L : Nat → Nat → Int64) (R : Nat → Nat → Nat) (s : Nat) : Prop :=
  (R 7 s = 0 ∧ I 87 s = -1) ∨ ∃ q z : Nat, R 7 s = q ∧ 99 ≤ q ∧ q + 1 ≤ n ∧ C q = 7 ∧ R q 1 = q + 1 ∧ C (q + 1) = 22 ∧ Z (q + 1) = z ∧ z ≤ 40 ∧ I q 0 = I 87 s ∧ (I 87 s = 0 ∨ I 87 s = 1 ∨ I 87 s = 2) ∧ I 88 s = nI z ∧ ∀ i, i < z → L (q + 1) i = L 89 (40 * s + i)
def Lay (C Z : Nat → Nat) (R : Nat → Nat → Nat) : Prop := LayB C Z R ∧ LayK C Z R ∧ LayO C Z R ∧ LayE C Z R ∧ LayM C Z R
/-- rows and trace -/
def TOK (I : Nat → Nat → Int32) (L : Nat → Nat → Int64) (rn t : Nat) : Prop := (rn ≤ 11 ∧ I 1 4 = nI rn ∧ I 74 13 = nI rn ∧ ∀ i, i < rn → L 3 i = L 85 i) ∧ (t < 1000 ∧ I 5 1 = nI t ∧ I 74 20 = nI t ∧ ∀ i, i < t → i < 40 → I 6 i = I 91 i)
/-- apart: machines' cells, sheets' cells -/
def AOK (R : Nat → Nat → Nat) (M : Nat) : Prop := (∀ i j, i < M → j < M → i ≠ j → R 2 i + 5 ≤ R 2 j ∨ R 2 j + 5 ≤ R 2 i) ∧ (∀ s j, s < 4 → j < M → R 7 s ≠ 0 → R 7 s + 2 ≤ R 2 j ∨ R 2 j + 5 ≤ R 7 s) ∧ ∀ s t, s < 4 → t < 4 → s ≠ t → R 7 s ≠ 0 → R 7 t ≠ 0 → R 7 s + 2 ≤ R 7 t ∨ R 7 t + 2 ≤ R 7 s
def Inv7 (n : Nat) (C Z : Nat → Nat) (I : Nat → Nat → Int32) (L : Nat → Nat → Int64) (R : Nat → Nat → Nat) (M rn t : Nat) : Prop := M ≤ 12 ∧ 98 ≤ n ∧ Lay C Z R ∧ (I 1 1 = nI M ∧ I 74 0 = nI M) ∧ (∀ j, j < M → ∃ q s, MOK n C Z I R j q s) ∧ (∀ s, s < 4 → SOK n C Z I L R s) ∧ AOK R M ∧ TOK I L rn t
def Inv (h : Hp) : Prop := ∃ M rn t : Nat, Inv7 h.1 h.2.2.1 h.2.2.2.1 h.2.2.2.2.1 h.2.2.2.2.2.1 h.2.2.2.2.2.2 M rn t
/-- both answer alike, and the invariant stays -/
def Two (kC kM : Nat) (lc lm : Lo) (h : Hp) : Prop := Wp kC 0 lc [] h (fun r h1 => Wp kM 0 lm [] h1 (fun r2 h2 => r2 = r ∧ Inv h2 ∧ h2.1 ≤ h.1 + 5 ∧ h2.2.1 ≤ h.2.1 + 42))
