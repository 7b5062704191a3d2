theorem d18_0 : decode (byt 18) 0 = .ok (.iconst 0, 1) := by decide +kernel
theorem d18_1 : decode (byt 18) 1 = .ok (.istore_n 3, 1) := by decide +kernel
theorem d18_2 : decode (byt 18) 2 = .ok (.iload_n 3, 1) := by decide +kernel
theorem d18_3 : decode (byt 18) 3 = .ok (.iconst 3, 1) := by decide +kernel
theorem d18_4 : decode (byt 18) 4 = .ok (.if_icmp .ge 57, 3) := by decide +kernel
theorem d18_7 : decode (byt 18) 7 = .ok (.lconst 0, 1) := by decide +kernel
theorem d18_8 : decode (byt 18) 8 = .ok (.lstore 4, 2) := by decide +kernel
theorem d18_10 : decode (byt 18) 10 = .ok (.iconst 0, 1) := by decide +kernel
theorem d18_11 : decode (byt 18) 11 = .ok (.istore 6, 2) := by decide +kernel
theorem d18_13 : decode (byt 18) 13 = .ok (.iload 6, 2) := by decide +kernel
theorem d18_15 : decode (byt 18) 15 = .ok (.iconst 3, 1) := by decide +kernel
theorem d18_16 : decode (byt 18) 16 = .ok (.if_icmp .ge 34, 3) := by decide +kernel
theorem d18_19 : decode (byt 18) 19 = .ok (.lload 4, 2) := by decide +kernel
theorem d18_21 : decode (byt 18) 21 = .ok (.aload_n 0, 1) := by decide +kernel
theorem d18_22 : decode (byt 18) 22 = .ok (.getfield 14, 3) := by decide +kernel
theorem d18_25 : decode (byt 18) 25 = .ok (.getfield 64, 3) := by decide +kernel
theorem d18_28 : decode (byt 18) 28 = .ok (.iconst 3, 1) := by decide +kernel
theorem d18_29 : decode (byt 18) 29 = .ok (.iload_n 3, 1) := by decide +kernel
theorem d18_30 : decode (byt 18) 30 = .ok (.imul, 1) := by decide +kernel
theorem d18_31 : decode (byt 18) 31 = .ok (.iload 6, 2) := by decide +kernel
theorem d18_33 : decode (byt 18) 33 = .ok (.iadd, 1) := by decide +kernel
theorem d18_34 : decode (byt 18) 34 = .ok (.iaload, 1) := by decide +kernel
theorem d18_35 : decode (byt 18) 35 = .ok (.i2l, 1) := by decide +kernel
theorem d18_36 : decode (byt 18) 36 = .ok (.aload_n 2, 1) := by decide +kernel
theorem d18_37 : decode (byt 18) 37 = .ok (.iload 6, 2) := by decide +kernel
theorem d18_39 : decode (byt 18) 39 = .ok (.laload, 1) := by decide +kernel
theorem d18_40 : decode (byt 18) 40 = .ok (.lmul, 1) := by decide +kernel
theorem d18_41 : decode (byt 18) 41 = .ok (.ladd, 1) := by decide +kernel
theorem d18_42 : decode (byt 18) 42 = .ok (.lstore 4, 2) := by decide +kernel
theorem d18_44 : decode (byt 18) 44 = .ok (.iinc 6 1, 3) := by decide +kernel
theorem d18_47 : decode (byt 18) 47 = .ok (.goto (-34), 3) := by decide +kernel
theorem d18_50 : decode (byt 18) 50 = .ok (.aload_n 1, 1) := by decide +kernel
theorem d18_51 : decode (byt 18) 51 = .ok (.iload_n 3, 1) := by decide +kernel
theorem d18_52 : decode (byt 18) 52 = .ok (.lload 4, 2) := by decide +kernel
theorem d18_54 : decode (byt 18) 54 = .ok (.lastore, 1) := by decide +kernel
theorem d18_55 : decode (byt 18) 55 = .ok (.iinc 3 1, 3) := by decide +kernel
theorem d18_58 : decode (byt 18) 58 = .ok (.goto (-56), 3) := by decide +kernel
theorem d18_61 : decode (byt 18) 61 = .ok (.return_, 1) := by decide +kernel
set_option maxRecDepth 20000 in
theorem S18_0 : (∀ (ls : Lo) (st : List Value) (h : Hp) (Q : Option Value → Hp → Prop), Wp 18 0 (ls) (st) h Q ↔ Wp 18 1 (ls) (.int (0) :: st) h Q) ∧
  (∀ (ls : Lo) (st : List Value) (h : Hp) (Q : Option Value → Hp → Prop) (l0 l1 l2 l3 : Option Value) (x : Int32), Wp 18 1 (l0 :: l1 :: l2 :: l3 :: ls) (.int x :: st) h Q ↔ Wp 18 2 (l0 :: l1 :: clr l2 :: some (.int x) :: ls) (st) h Q) ∧
  (∀ (ls : Lo) (st : List Value) (h : Hp) (Q : Option Value → Hp → Prop) (l0 l1 l2 : Option Value) (x : Int32), Wp 18 2 (l0 :: l1 :: l2 :: some (.int x) :: ls) (st) h Q ↔ Wp 18 3 (l0 :: l1 :: l2 :: some (.int x) :: ls) (.int x :: st) h Q) ∧
  (∀ (ls : Lo) (st : List Value) (h : Hp) (Q : Option Value → Hp → Prop), Wp 18 3 (ls) (st) h Q ↔ Wp 18 4 (ls) (.int (3) :: st) h Q) ∧
  (∀ (ls : Lo) (st : List Value) (h : Hp) (Q : Option Value → Hp → Prop) (x y : Int32), Wp 18 4 (ls) (.int y :: .int x :: st) h Q ↔ Br 18 61 7 ls st h Q (y ≤ x)) ∧
  (∀ (ls : Lo) (st : List Value) (h : Hp) (Q : Option Value → Hp → Prop), Wp 18 7 (ls) (st) h Q ↔ Wp 18 8 (ls) (.long 0 :: st) h Q) ∧
  (∀ (ls : Lo) (st : List Value) (h : Hp) (Q : Option Value → Hp → Prop) (l0 l1 l2 l3 l4 l5 : Option Value) (a : Int64), Wp 18 8 (l0 :: l1 :: l2 :: l3 :: l4 :: l5 :: ls) (.long a :: st) h Q ↔ Wp 18 10 (l0 :: l1 :: l2 :: clr l3 :: some (.long a) :: none :: ls) (st) h Q) ∧
  (∀ (ls : Lo) (st : List Value) (h : Hp) (Q : Option Value → Hp → Prop), Wp 18 10 (ls) (st) h Q ↔ Wp 18 11 (ls) (.int (0) :: st) h Q) ∧
  (∀ (ls : Lo) (st : List Value) (h : Hp) (Q : Option Value → Hp → Prop) (l0 l1 l2 l3 l4 l5 l6 : Option Value) (x : Int32), Wp 18 11 (l0 :: l1 :: l2 :: l3 :: l4 :: l5 :: l6 :: ls) (.int x :: st) h Q ↔ Wp 18 13 (l0 :: l1 :: l2 :: l3 :: l4 :: clr l5 :: some (.int x) :: ls) (st) h Q) ∧
  (∀ (ls : Lo) (st : List Value) (h : Hp) (Q : Option Value → Hp → Prop) (l0 l1 l2 l3 l4 l5 : Option Value) (x : Int32), Wp 18 13 (l0 :: l1 :: l2 :: l3 :: l4 :: l5 :: some (.int x) :: ls) (st) h Q ↔ Wp 18 15 (l0 :: l1 :: l2 :: l3 :: l4 :: l5 :: some (.int x) :: ls) (.int x :: st) h Q) ∧
  (∀ (ls : Lo) (st : List Value) (h : Hp) (Q : Option Value → Hp → Prop), Wp 18 15 (ls) (st) h Q ↔ Wp 18 16 (ls) (.int (3) :: st) h Q) ∧
  (∀ (ls : Lo) (st : List Value) (h : Hp) (Q : Option Value → Hp → Prop) (x y : Int32), Wp 18 16 (ls) (.int y :: .int x :: st) h Q ↔ Br 18 50 19 ls st h Q (y ≤ x)) ∧
  (∀ (ls : Lo) (st : List Value) (h : Hp) (Q : Option Value → Hp → Prop) (l0 l1 l2 l3 : Option Value) (a : Int64), Wp 18 19 (l0 :: l1 :: l2 :: l3 :: some (.long a) :: ls) (st) h Q ↔ Wp 18 21 (l0 :: l1 :: l2 :: l3 :: some (.long a) :: ls) (.long a :: st) h Q) ∧
  (∀ (ls : Lo) (st : List Value) (h : Hp) (Q : Option Value → Hp → Prop)  (i : Nat), Wp 18 21 (some (.ref i) :: ls) (st) h Q ↔ Wp 18 22 (some (.ref i) :: ls) (.ref i :: st) h Q) ∧
  (∀ (ls : Lo) (st : List Value) (n sl : Nat) (C Z : Nat → Nat) (I : Nat → Nat → Int32) (L : Nat → Nat → Int64) (R : Nat → Nat → Nat) (Q : Option Value → Hp → Prop) (i : Nat), Wp 18 22 (ls) (.ref i :: st) (n, sl, C, Z, I, L, R) Q ↔ (C i = 4 ∧ Wp 18 25 (ls) (.ref (R i 0) :: st) (n, sl, C, Z, I, L, R) Q)) ∧
  (∀ (ls : Lo) (st : List Value) (n sl : Nat) (C Z : Nat → Nat) (I : Nat → Nat → Int32) (L : Nat → Nat → Int64) (R : Nat → Nat → Nat) (Q : Option Value → Hp → Prop) (i : Nat), Wp 18 25 (ls) (.ref i :: st) (n, sl, C, Z, I, L, R) Q ↔ (inG 7 (C i) = true ∧ Wp 18 28 (ls) (.ref (R i 3) :: st) (n, sl, C, Z, I, L, R) Q)) ∧
  (∀ (ls : Lo) (st : List Value) (h : Hp) (Q : Option Value → Hp → Prop), Wp 18 28 (ls) (st) h Q ↔ Wp 18 29 (ls) (.int (3) :: st) h Q) ∧
  (∀ (ls : Lo) (st : List Value) (h : Hp) (Q : Option Value → Hp → Prop) (l0 l1 l2 : Option Value) (x : Int32), Wp 18 29 (l0 :: l1 :: l2 :: some (.int x) :: ls) (st) h Q ↔ Wp 18 30 (l0 :: l1 :: l2 :: some (.int x) :: ls) (.int x :: st) h Q) ∧
  (∀ (ls : Lo) (st : List Value) (h : Hp) (Q : Option Value → Hp → Prop) (x y : Int32), Wp 18 30 (ls) (.int y :: .int x :: st) h Q ↔ Wp 18 31 (ls) (.int (x * y) :: st) h Q) ∧
  (∀ (ls : Lo) (st : List Value) (h : Hp) (Q : Option Value → Hp → Prop) (l0 l1 l2 l3 l4 l5 : Option Value) (x : Int32), Wp 18 31 (l0 :: l1 :: l2 :: l3 :: l4 :: l5 :: some (.int x) :: ls) (st) h Q ↔ Wp 18 33 (l0 :: l1 :: l2 :: l3 :: l4 :: l5 :: some (.int x) :: ls) (.int x :: st) h Q) ∧
  (∀ (ls : Lo) (st : List Value) (h : Hp) (Q : Option Value → Hp → Prop) (x y : Int32), Wp 18 33 (ls) (.int y :: .int x :: st) h Q ↔ Wp 18 34 (ls) (.int (x + y) :: st) h Q) ∧
  (∀ (ls : Lo) (st : List Value) (n sl : Nat) (C Z : Nat → Nat) (I : Nat → Nat → Int32) (L : Nat → Nat → Int64) (R : Nat → Nat → Nat) (Q : Option Value → Hp → Prop) (i : Nat) (y : Int32), Wp 18 34 (ls) (.int y :: .ref i :: st) (n, sl, C, Z, I, L, R) Q ↔ ((inb y (Z i) = true ∧ C i = 21) ∧ Wp 18 35 (ls) (.int (I i (ix y)) :: st) (n, sl, C, Z, I, L, R) Q)) ∧
  (∀ (ls : Lo) (st : List Value) (h : Hp) (Q : Option Value → Hp → Prop) (x : Int32), Wp 18 35 (ls) (.int x :: st) h Q ↔ Wp 18 36 (ls) (.long x.toInt64 :: st) h Q) ∧
  (∀ (ls : Lo) (st : List Value) (h : Hp) (Q : Option Value → Hp → Prop) (l0 l1 : Option Value) (i : Nat), Wp 18 36 (l0 :: l1 :: some (.ref i) :: ls) (st) h Q ↔ Wp 18 37 (l0 :: l1 :: some (.ref i) :: ls) (.ref i :: st) h Q) ∧
  (∀ (ls : Lo) (st : List Value) (h : Hp) (Q : Option Value → Hp → Prop) (l0 l1 l2 l3 l4 l5 : Option Value) (x : Int32), Wp 18 37 (l0 :: l1 :: l2 :: l3 :: l4 :: l5 :: some (.int x) :: ls) (st) h Q ↔ Wp 18 39 (l0 :: l1 :: l2 :: l3 :: l4 :: l5 :: some (.int x) :: ls) (.int x :: st) h Q) := ⟨by intros; exact e_iconst d18_0 rfl,
  by intros; exact e_istore_n d18_1 rfl,
  by intros; exact e_iload_n d18_2 rfl,
  by intros; exact e_iconst d18_3 rfl,
  by intros; exact e_ic d18_4 (by decide) c_ge,
  by intros; exact e_lconst d18_7 rfl,
  by intros; exact e_lstore d18_8 rfl,
  by intros; exact e_iconst d18_10 rfl,
  by intros; exact e_istore d18_11 rfl,
  by intros; exact e_iload d18_13 rfl,
  by intros; exact e_iconst d18_15 rfl,
  by intros; exact e_ic d18_16 (by decide) c_ge,
  by intros; exact e_lload d18_19 rfl,
  by intros; exact e_aload_n d18_21 rfl,
  by intros; exact e_get (g := 3) (s := 0) (ty := 2) d18_22 rfl rfl (inG_ne (by decide)),
  by intros; exact e_get (g := 7) (s := 3) (ty := 2) d18_25 rfl rfl rfl,
  by intros; exact e_iconst d18_28 rfl,
  by intros; exact e_iload_n d18_29 rfl,
  by intros; exact e_imul d18_30,
  by intros; exact e_iload d18_31 rfl,
  by intros; exact e_iadd d18_33,
  by intros; exact e_iald d18_34,
  by intros; exact e_i2l d18_35,
  by intros; exact e_aload_n d18_36 rfl,
  by intros; exact e_iload d18_37 rfl⟩
set_option maxRecDepth 20000 in
theorem S18_1 : (∀ (ls : Lo) (st : List Value) (n sl : Nat) (C Z : Nat → Nat) (I : Nat → Nat → Int32) (L : Nat → Nat → Int64) (R : Nat → Nat → Nat) (Q : Option Value → Hp → Prop) (i : Nat) (y : Int32), Wp 18 39 (ls) (.int y :: .ref i :: st) (n, sl, C, Z, I, L, R) Q ↔ ((inb y (Z i) = true ∧ C i = 22) ∧ Wp 18 40 (ls) (.long (L i (ix y)) :: st) (n, sl, C, Z, I, L, R) Q)) ∧
  (∀ (ls : Lo) (st : List Value) (h : Hp) (Q : Option Value → Hp → Prop) (a b : Int64), Wp 18 40 (ls) (.long b :: .long a :: st) h Q ↔ Wp 18 41 (ls) (.long (a * b) :: st) h Q) ∧
  (∀ (ls : Lo) (st : List Value) (h : Hp) (Q : Option Value → Hp → Prop) (a b : Int64), Wp 18 41 (ls) (.long b :: .long a :: st) h Q ↔ Wp 18 42 (ls) (.long (a + b) :: st) h Q) ∧
  (∀ (ls : Lo) (st : List Value) (h : Hp) (Q : Option Value → Hp → Prop) (l0 l1 l2 l3 l4 l5 : Option Value) (a : Int64), Wp 18 42 (l0 :: l1 :: l2 :: l3 :: l4 :: l5 :: ls) (.long a :: st) h Q ↔ Wp 18 44 (l0 :: l1 :: l2 :: clr l3 :: some (.long a) :: none :: ls) (st) h Q) ∧
  (∀ (ls : Lo) (st : List Value) (h : Hp) (Q : Option Value → Hp → Prop) (l0 l1 l2 l3 l4 l5 : Option Value) (x : Int32), Wp 18 44 (l0 :: l1 :: l2 :: l3 :: l4 :: l5 :: some (.int x) :: ls) (st) h Q ↔ Wp 18 47 (l0 :: l1 :: l2 :: l3 :: l4 :: clr l5 :: some (.int (x + (1))) :: ls) (st) h Q) ∧
  (∀ (ls : Lo) (st : List Value) (h : Hp) (Q : Option Value → Hp → Prop), Wp 18 47 (ls) (st) h Q ↔ Wp 18 13 (ls) (st) h Q) ∧
  (∀ (ls : Lo) (st : List Value) (h : Hp) (Q : Option Value → Hp → Prop) (l0 : Option Value) (i : Nat), Wp 18 50 (l0 :: some (.ref i) :: ls) (st) h Q ↔ Wp 18 51 (l0 :: some (.ref i) :: ls) (.ref i :: st) h Q) ∧
  (∀ (ls : Lo) (st : List Value) (h : Hp) (Q : Option Value → Hp → Prop) (l0 l1 l2 : Option Value) (x : Int32), Wp 18 51 (l0 :: l1 :: l2 :: some (.int x) :: ls) (st) h Q ↔ Wp 18 52 (l0 :: l1 :: l2 :: some (.int x) :: ls) (.int x :: st) h Q) ∧
  (∀ (ls : Lo) (st : List Value) (h : Hp) (Q : Option Value → Hp → Prop) (l0 l1 l2 l3 : Option Value) (a : Int64), Wp 18 52 (l0 :: l1 :: l2 :: l3 :: some (.long a) :: ls) (st) h Q ↔ Wp 18 54 (l0 :: l1 :: l2 :: l3 :: some (.long a) :: ls) (.long a :: st) h Q) ∧
  (∀ (ls : Lo) (st : List Value) (n sl : Nat) (C Z : Nat → Nat) (I : Nat → Nat → Int32) (L : Nat → Nat → Int64) (R : Nat → Nat → Nat) (Q : Option Value → Hp → Prop) (i : Nat) (y : Int32) (a : Int64), Wp 18 54 (ls) (.long a :: .int y :: .ref i :: st) (n, sl, C, Z, I, L, R) Q ↔ ((inb y (Z i) = true ∧ C i = 22) ∧ Wp 18 55 (ls) (st) (n, sl, C, Z, I, u2 L i (ix y) a, R) Q)) ∧
  (∀ (ls : Lo) (st : List Value) (h : Hp) (Q : Option Value → Hp → Prop) (l0 l1 l2 : Option Value) (x : Int32), Wp 18 55 (l0 :: l1 :: l2 :: some (.int x) :: ls) (st) h Q ↔ Wp 18 58 (l0 :: l1 :: clr l2 :: some (.int (x + (1))) :: ls) (st) h Q) ∧
  (∀ (ls : Lo) (st : List Value) (h : Hp) (Q : Option Value → Hp → Prop), Wp 18 58 (ls) (st) h Q ↔ Wp 18 2 (ls) (st) h Q) ∧
  (∀ (ls : Lo) (h : Hp) (Q : Option Value → Hp → Prop), Wp 18 61 (ls) ([]) h Q ↔ Q none h) := ⟨by intros; exact e_lald d18_39,
  by intros; exact e_lmul d18_40,
  by intros; exact e_ladd d18_41,
  by intros; exact e_lstore d18_42 rfl,
  by intros; exact e_iinc d18_44 rfl rfl rfl,
  by intros; exact e_goto d18_47 (by decide),
  by intros; exact e_aload_n d18_50 rfl,
  by intros; exact e_iload_n d18_51 rfl,
  by intros; exact e_lload d18_52 rfl,
  by intros; exact e_last d18_54,
  by intros; exact e_iinc d18_55 rfl rfl rfl,
  by intros; exact e_goto d18_58 (by decide),
  by intros; exact e_rV d18_61 rfl⟩
theorem d21_0 : decode (byt 21) 0 = .ok (.iload_n 1, 1) := by decide +kernel
theorem d21_1 : decode (byt 21) 1 = .ok (.aload_n 0, 1) := by decide +kernel
theorem d21_2 : decode (byt 21) 2 = .ok (.getfield 14, 3) := by decide +kernel
theorem d21_5 : decode (byt 21) 5 = .ok (.getfield 81, 3) := by decide +kernel
theorem d21_8 : decode (byt 21) 8 = .ok (.if_icmp .gt 18, 3) := by decide +kernel
theorem d21_11 : decode (byt 21) 11 = .ok (.aload_n 0, 1) := by decide +kernel
theorem d21_12 : decode (byt 21) 12 = .ok (.getfield 28, 3) := by decide +kernel
theorem d21_15 : decode (byt 21) 15 = .ok (.aload_n 0, 1) := by decide +kernel
theorem d21_16 : decode (byt 21) 16 = .ok (.getfield 14, 3) := by decide +kernel
theorem d21_19 : decode (byt 21) 19 = .ok (.getfield 81, 3) := by decide +kernel
theorem d21_22 : decode (byt 21) 22 = .ok (.iload_n 1, 1) := by decide +kernel
theorem d21_23 : decode (byt 21) 23 = .ok (.isub, 1) := by decide +kernel
theorem d21_24 : decode (byt 21) 24 = .ok (.lload_n 2, 1) := by decide +kernel
theorem d21_25 : decode (byt 21) 25 = .ok (.lastore, 1) := by decide +kernel
theorem d21_26 : decode (byt 21) 26 = .ok (.return_, 1) := by decide +kernel
set_option maxRecDepth 20000 in
theorem S21_0 : (∀ (ls : Lo) (st : List Value) (h : Hp) (Q : Option Value → Hp → Prop) (l0 : Option Value) (x : Int32), Wp 21 0 (l0 :: some (.int x) :: ls) (st) h Q ↔ Wp 21 1 (l0 :: some (.int x) :: ls) (.int x :: st) h Q) ∧
  (∀ (ls : Lo) (st : List Value) (h : Hp) (Q : Option Value → Hp → Prop)  (i : Nat), Wp 21 1 (some (.ref i) :: ls) (st) h Q ↔ Wp 21 2 (some (.ref i) :: ls) (.ref i :: st) h Q) ∧
  (∀ (ls : Lo) (st : List Value) (n sl : Nat) (C Z : Nat → Nat) (I : Nat → Nat → Int32) (L : Nat → Nat → Int64) (R : Nat → Nat → Nat) (Q : Option Value → Hp → Prop) (i : Nat), Wp 21 2 (ls) (.ref i :: st) (n, sl, C, Z, I, L, R) Q ↔ (C i = 4 ∧ Wp 21 5 (ls) (.ref (R i 0) :: st) (n, sl, C, Z, I, L, R) Q)) ∧
  (∀ (ls : Lo) (st : List Value) (n sl : Nat) (C Z : Nat → Nat) (I : Nat → Nat → Int32) (L : Nat → Nat → Int64) (R : Nat → Nat → Nat) (Q : Option Value → Hp → Prop) (i : Nat), Wp 21 5 (ls) (.ref i :: st) (n, sl, C, Z, I, L, R) Q ↔ (inG 7 (C i) = true ∧ Wp 21 8 (ls) (.int (I i 1) :: st) (n, sl, C, Z, I, L, R) Q)) ∧
  (∀ (ls : Lo) (st : List Value) (h : Hp) (Q : Option Value → Hp → Prop) (x y : Int32), Wp 21 8 (ls) (.int y :: .int x :: st) h Q ↔ Br 21 26 11 ls st h Q (y < x)) ∧
  (∀ (ls : Lo) (st : List Value) (h : Hp) (Q : Option Value → Hp → Prop)  (i : Nat), Wp 21 11 (some (.ref i) :: ls) (st) h Q ↔ Wp 21 12 (some (.ref i) :: ls) (.ref i :: st) h Q) ∧
  (∀ (ls : Lo) (st : List Value) (n sl : Nat) (C Z : Nat → Nat) (I : Nat → Nat → Int32) (L : Nat → Nat → Int64) (R : Nat → Nat → Nat) (Q : Option Value → Hp → Prop) (i : Nat), Wp 21 12 (ls) (.ref i :: st) (n, sl, C, Z, I, L, R) Q ↔ (C i = 4 ∧ Wp 21 15 (ls) (.ref (R i 3) :: st) (n, sl, C, Z, I, L, R) Q)) ∧
  (∀ (ls : Lo) (st : List Value) (h : Hp) (Q : Option Value → Hp → Prop)  (i : Nat), Wp 21 15 (some (.ref i) :: ls) (st) h Q ↔ Wp 21 16 (some (.ref i) :: ls) (.ref i :: st) h Q) ∧
  (∀ (ls : Lo) (st : List Value) (n sl : Nat) (C Z : Nat → Nat) (I : Nat → Nat → Int32) (L : Nat → Nat → Int64) (R : Nat → Nat → Nat) (Q : Option Value → Hp → Prop) (i : Nat), Wp 21 16 (ls) (.ref i :: st) (n, sl, C, Z, I, L, R) Q ↔ (C i = 4 ∧ Wp 21 19 (ls) (.ref (R i 0) :: st) (n, sl, C, Z, I, L, R) Q)) ∧
  (∀ (ls : Lo) (st : List Value) (n sl : Nat) (C Z : Nat → Nat) (I : Nat → Nat → Int32) (L : Nat → Nat → Int64) (R : Nat → Nat → Nat) (Q : Option Value → Hp → Prop) (i : Nat), Wp 21 19 (ls) (.ref i :: st) (n, sl, C, Z, I, L, R) Q ↔ (inG 7 (C i) = true ∧ Wp 21 22 (ls) (.int (I i 1) :: st) (n, sl, C, Z, I, L, R) Q)) ∧
  (∀ (ls : Lo) (st : List Value) (h : Hp) (Q : Option Value → Hp → Prop) (l0 : Option Value) (x : Int32), Wp 21 22 (l0 :: some (.int x) :: ls) (st) h Q ↔ Wp 21 23 (l0 :: some (.int x) :: ls) (.int x :: st) h Q) ∧
  (∀ (ls : Lo) (st : List Value) (h : Hp) (Q : Option Value → Hp → Prop) (x y : Int32), Wp 21 23 (ls) (.int y :: .int x :: st) h Q ↔ Wp 21 24 (ls) (.int (x - y) :: st) h Q) ∧
  (∀ (ls : Lo) (st : List Value) (h : Hp) (Q : Option Value → Hp → Prop) (l0 l1 : Option Value) (a : Int64), Wp 21 24 (l0 :: l1 :: some (.long a) :: ls) (st) h Q ↔ Wp 21 25 (l0 :: l1 :: some (.long a) :: ls) (.long a :: st) h Q) ∧
  (∀ (ls : Lo) (st : List Value) (n sl : Nat) (C Z : Nat → Nat) (I : Nat → Nat → Int32) (L : Nat → Nat → Int64) (R : Nat → Nat → Nat) (Q : Option Value → Hp → Prop) (i : Nat) (y : Int32) (a : Int64), Wp 21 25 (ls) (.long a :: .int y :: .ref i :: st) (n, sl, C, Z, I, L, R) Q ↔ ((inb y (Z i) = true ∧ C i = 22) ∧ Wp 21 26 (ls) (st) (n, sl, C, Z, I, u2 L i (ix y) a, R) Q)) ∧
  (∀ (ls : Lo) (h : Hp) (Q : Option Value → Hp → Prop), Wp 21 26 (ls) ([]) h Q ↔ Q none h) := ⟨by intros; exact e_iload_n d21_0 rfl,
  by intros; exact e_aload_n d21_1 rfl,
  by intros; exact e_get (g := 3) (s := 0) (ty := 2) d21_2 rfl rfl (inG_ne (by decide)),
  by intros; exact e_get (g := 7) (s := 1) (ty := 0) d21_5 rfl rfl rfl,
  by intros; exact e_ic d21_8 (by decide) c_gt,
  by intros; exact e_aload_n d21_11 rfl,
  by intros; exact e_get (g := 3) (s := 3) (ty := 2) d21_12 rfl rfl (inG_ne (by decide)),
  by intros; exact e_aload_n d21_15 rfl,
  by intros; exact e_get (g := 3) (s := 0) (ty := 2) d21_16 rfl rfl (inG_ne (by decide)),
  by intros; exact e_get (g := 7) (s := 1) (ty := 0) d21_19 rfl rfl rfl,
  by intros; exact e_iload_n d21_22 rfl,
  by intros; exact e_isub d21_23,
  by intros; exact e_lload_n d21_24 rfl,
  by intros; exact e_last d21_25,
  by intros; exact e_rV d21_26 rfl⟩
theorem d23_0 : decode (byt 23) 0 = .ok (.lconst 0, 1) := by decide +kernel
theorem d23_1 : decode (byt 23) 1 = .ok (.lstore_n 2, 1) := by decide +kernel
theorem d23_2 : decode (byt 23) 2 = .ok (.iconst 0, 1) := by decide +kernel
theorem d23_3 : decode (byt 23) 3 = .ok (.istore 4, 2) := by decide +kernel
theorem d23_5 : decode (byt 23) 5 = .ok (.iload 4, 2) := by decide +kernel
theorem d23_7 : decode (byt 23) 7 = .ok (.iconst 3, 1) := by decide +kernel
theorem d23_8 : decode (byt 23) 8 = .ok (.if_icmp .ge 33, 3) := by decide +kernel
theorem d23_11 : decode (byt 23) 11 = .ok (.lload_n 2, 1) := by decide +kernel
theorem d23_12 : decode (byt 23) 12 = .ok (.aload_n 0, 1) := by decide +kernel
theorem d23_13 : decode (byt 23) 13 = .ok (.getfield 14, 3) := by decide +kernel
theorem d23_16 : decode (byt 23) 16 = .ok (.getfield 51, 3) := by decide +kernel
theorem d23_19 : decode (byt 23) 19 = .ok (.iload 4, 2) := by decide +kernel
theorem d23_21 : decode (byt 23) 21 = .ok (.iaload, 1) := by decide +kernel
theorem d23_22 : decode (byt 23) 22 = .ok (.i2l, 1) := by decide +kernel
theorem d23_23 : decode (byt 23) 23 = .ok (.aload_n 0, 1) := by decide +kernel
theorem d23_24 : decode (byt 23) 24 = .ok (.getfield 22, 3) := by decide +kernel
theorem d23_27 : decode (byt 23) 27 = .ok (.iload_n 1, 1) := by decide +kernel
theorem d23_28 : decode (byt 23) 28 = .ok (.aaload, 1) := by decide +kernel
theorem d23_29 : decode (byt 23) 29 = .ok (.iload 4, 2) := by decide +kernel
theorem d23_31 : decode (byt 23) 31 = .ok (.laload, 1) := by decide +kernel
theorem d23_32 : decode (byt 23) 32 = .ok (.lmul, 1) := by decide +kernel
theorem d23_33 : decode (byt 23) 33 = .ok (.ladd, 1) := by decide +kernel
theorem d23_34 : decode (byt 23) 34 = .ok (.lstore_n 2, 1) := by decide +kernel
theorem d23_35 : decode (byt 23) 35 = .ok (.iinc 4 1, 3) := by decide +kernel
theorem d23_38 : decode (byt 23) 38 = .ok (.goto (-33), 3) := by decide +kernel
theorem d23_41 : decode (byt 23) 41 = .ok (.lload_n 2, 1) := by decide +kernel
theorem d23_42 : decode (byt 23) 42 = .ok (.lreturn, 1) := by decide +kernel
set_option maxRecDepth 20000 in
theorem S23_0 : (∀ (ls : Lo) (st : List Value) (h : Hp) (Q : Option Value → Hp → Prop), Wp 23 0 (ls) (st) h Q ↔ Wp 23 1 (ls) (.long 0 :: st) h Q) ∧
  (∀ (ls : Lo) (st : List Value) (h : Hp) (Q : Option Value → Hp → Prop) (l0 l1 l2 l3 : Option Value) (a : Int64), Wp 23 1 (l0 :: l1 :: l2 :: l3 :: ls) (.long a :: st) h Q ↔ Wp 23 2 (l0 :: clr l1 :: some (.long a) :: none :: ls) (st) h Q) ∧
  (∀ (ls : Lo) (st : List Value) (h : Hp) (Q : Option Value → Hp → Prop), Wp 23 2 (ls) (st) h Q ↔ Wp 23 3 (ls) (.int (0) :: st) h Q) ∧
  (∀ (ls : Lo) (st : List Value) (h : Hp) (Q : Option Value → Hp → Prop) (l0 l1 l2 l3 l4 : Option Value) (x : Int32), Wp 23 3 (l0 :: l1 :: l2 :: l3 :: l4 :: ls) (.int x :: st) h Q ↔ Wp 23 5 (l0 :: l1 :: l2 :: clr l3 :: some (.int x) :: ls) (st) h Q) ∧
  (∀ (ls : Lo) (st : List Value) (h : Hp) (Q : Option Value → Hp → Prop) (l0 l1 l2 l3 : Option Value) (x : Int32), Wp 23 5 (l0 :: l1 :: l2 :: l3 :: some (.int x) :: ls) (st) h Q ↔ Wp 23 7 (l0 :: l1 :: l2 :: l3 :: some (.int x) :: ls) (.int x :: st) h Q) ∧
  (∀ (ls : Lo) (st : List Value) (h : Hp) (Q : Option Value → Hp → Prop), Wp 23 7 (ls) (st) h Q ↔ Wp 23 8 (ls) (.int (3) :: st) h Q) ∧
  (∀ (ls : Lo) (st : List Value) (h : Hp) (Q : Option Value → Hp → Prop) (x y : Int32), Wp 23 8 (ls) (.int y :: .int x :: st) h Q ↔ Br 23 41 11 ls st h Q (y ≤ x)) ∧
  (∀ (ls : Lo) (st : List Value) (h : Hp) (Q : Option Value → Hp → Prop) (l0 l1 : Option Value) (a : Int64), Wp 23 11 (l0 :: l1 :: some (.long a) :: ls) (st) h Q ↔ Wp 23 12 (l0 :: l1 :: some (.long a) :: ls) (.long a :: st) h Q) ∧
  (∀ (ls : Lo) (st : List Value) (h : Hp) (Q : Option Value → Hp → Prop)  (i : Nat), Wp 23 12 (some (.ref i) :: ls) (st) h Q ↔ Wp 23 13 (some (.ref i) :: ls) (.ref i :: st) h Q) ∧
  (∀ (ls : Lo) (st : List Value) (n sl : Nat) (C Z : Nat → Nat) (I : Nat → Nat → Int32) (L : Nat → Nat → Int64) (R : Nat → Nat → Nat) (Q : Option Value → Hp → Prop) (i : Nat), Wp 23 13 (ls) (.ref i :: st) (n, sl, C, Z, I, L, R) Q ↔ (C i = 4 ∧ Wp 23 16 (ls) (.ref (R i 0) :: st) (n, sl, C, Z, I, L, R) Q)) ∧
  (∀ (ls : Lo) (st : List Value) (n sl : Nat) (C Z : Nat → Nat) (I : Nat → Nat → Int32) (L : Nat → Nat → Int64) (R : Nat → Nat → Nat) (Q : Option Value → Hp → Prop) (i : Nat), Wp 23 16 (ls) (.ref i :: st) (n, sl, C, Z, I, L, R) Q ↔ (inG 7 (C i) = true ∧ Wp 23 19 (ls) (.ref (R i 5) :: st) (n, sl, C, Z, I, L, R) Q)) ∧
  (∀ (ls : Lo) (st : List Value) (h : Hp) (Q : Option Value → Hp → Prop) (l0 l1 l2 l3 : Option Value) (x : Int32), Wp 23 19 (l0 :: l1 :: l2 :: l3 :: some (.int x) :: ls) (st) h Q ↔ Wp 23 21 (l0 :: l1 :: l2 :: l3 :: some (.int x) :: ls) (.int x :: st) h Q) ∧
  (∀ (ls : Lo) (st : List Value) (n sl : Nat) (C Z : Nat → Nat) (I : Nat → Nat → Int32) (L : Nat → Nat → Int64) (R : Nat → Nat → Nat) (Q : Option Value → Hp → Prop) (i : Nat) (y : Int32), Wp 23 21 (ls) (.int y :: .ref i :: st) (n, sl, C, Z, I, L, R) Q ↔ ((inb y (Z i) = true ∧ C i = 21) ∧ Wp 23 22 (ls) (.int (I i (ix y)) :: st) (n, sl, C, Z, I, L, R) Q)) ∧
  (∀ (ls : Lo) (st : List Value) (h : Hp) (Q : Option Value → Hp → Prop) (x : Int32), Wp 23 22 (ls) (.int x :: st) h Q ↔ Wp 23 23 (ls) (.long x.toInt64 :: st) h Q) ∧
  (∀ (ls : Lo) (st : List Value) (h : Hp) (Q : Option Value → Hp → Prop)  (i : Nat), Wp 23 23 (some (.ref i) :: ls) (st) h Q ↔ Wp 23 24 (some (.ref i) :: ls) (.ref i :: st) h Q) ∧
  (∀ (ls : Lo) (st : List Value) (n sl : Nat) (C Z : Nat → Nat) (I : Nat → Nat → Int32) (L : Nat → Nat → Int64) (R : Nat → Nat → Nat) (Q : Option Value → Hp → Prop) (i : Nat), Wp 23 24 (ls) (.ref i :: st) (n, sl, C, Z, I, L, R) Q ↔ (C i = 4 ∧ Wp 23 27 (ls) (.ref (R i 1) :: st) (n, sl, C, Z, I, L, R) Q)) ∧
  (∀ (ls : Lo) (st : List Value) (h : Hp) (Q : Option Value → Hp → Prop) (l0 : Option Value) (x : Int32), Wp 23 27 (l0 :: some (.int x) :: ls) (st) h Q ↔ Wp 23 28 (l0 :: some (.int x) :: ls) (.int x :: st) h Q) ∧
  (∀ (ls : Lo) (st : List Value) (n sl : Nat) (C Z : Nat → Nat) (I : Nat → Nat → Int32) (L : Nat → Nat → Int64) (R : Nat → Nat → Nat) (Q : Option Value → Hp → Prop) (i : Nat) (y : Int32), Wp 23 28 (ls) (.int y :: .ref i :: st) (n, sl, C, Z, I, L, R) Q ↔ ((inb y (Z i) = true ∧ (C i = 23 ∨ C i = 24 ∨ C i = 25)) ∧ Wp 23 29 (ls) (.ref (R i (ix y)) :: st) (n, sl, C, Z, I, L, R) Q)) ∧
  (∀ (ls : Lo) (st : List Value) (h : Hp) (Q : Option Value → Hp → Prop) (l0 l1 l2 l3 : Option Value) (x : Int32), Wp 23 29 (l0 :: l1 :: l2 :: l3 :: some (.int x) :: ls) (st) h Q ↔ Wp 23 31 (l0 :: l1 :: l2 :: l3 :: some (.int x) :: ls) (.int x :: st) h Q) ∧
  (∀ (ls : Lo) (st : List Value) (n sl : Nat) (C Z : Nat → Nat) (I : Nat → Nat → Int32) (L : Nat → Nat → Int64) (R : Nat → Nat → Nat) (Q : Option Value → Hp → Prop) (i : Nat) (y : Int32), Wp 23 31 (ls) (.int y :: .ref i :: st) (n, sl, C, Z, I, L, R) Q ↔ ((inb y (Z i) = true ∧ C i = 22) ∧ Wp 23 32 (ls) (.long (L i (ix y)) :: st) (n, sl, C, Z, I, L, R) Q)) ∧
  (∀ (ls : Lo) (st : List Value) (h : Hp) (Q : Option Value → Hp → Prop) (a b : Int64), Wp 23 32 (ls) (.long b :: .long a :: st) h Q ↔ Wp 23 33 (ls) (.long (a * b) :: st) h Q) ∧
  (∀ (ls : Lo) (st : List Value) (h : Hp) (Q : Option Value → Hp → Prop) (a b : Int64), Wp 23 33 (ls) (.long b :: .long a :: st) h Q ↔ Wp 23 34 (ls) (.long (a + b) :: st) h Q) ∧
  (∀ (ls : Lo) (st : List Value) (h : Hp) (Q : Option Value → Hp → Prop) (l0 l1 l2 l3 : Option Value) (a : Int64), Wp 23 34 (l0 :: l1 :: l2 :: l3 :: ls) (.long a :: st) h Q ↔ Wp 23 35 (l0 :: clr l1 :: some (.long a) :: none :: ls) (st) h Q) ∧
  (∀ (ls : Lo) (st : List Value) (h : Hp) (Q : Option Value → Hp → Prop) (l0 l1 l2 l3 : Option Value) (x : Int32), Wp 23 35 (l0 :: l1 :: l2 :: l3 :: some (.int x) :: ls) (st) h Q ↔ Wp 23 38 (l0 :: l1 :: l2 :: clr l3 :: some (.int (x + (1))) :: ls) (st) h Q) ∧
  (∀ (ls : Lo) (st : List Value) (h : Hp) (Q : Option Value → Hp → Prop), Wp 23 38 (ls) (st) h Q ↔ Wp 23 5 (ls) (st) h Q) := ⟨by intros; exact e_lconst d23_0 rfl,
  by intros; exact e_lstore_n d23_1 rfl,
  by intros; exact e_iconst d23_2 rfl,
  by intros; exact e_istore d23_3 rfl,
  by intros; exact e_iload d23_5 rfl,
  by intros; exact e_iconst d23_7 rfl,
  by intros; exact e_ic d23_8 (by decide) c_ge,
  by intros; exact e_lload_n d23_11 rfl,
  by intros; exact e_aload_n d23_12 rfl,
  by intros; exact e_get (g := 3) (s := 0) (ty := 2) d23_13 rfl rfl (inG_ne (by decide)),
  by intros; exact e_get (g := 7) (s := 5) (ty := 2) d23_16 rfl rfl rfl,
  by intros; exact e_iload d23_19 rfl,
  by intros; exact e_iald d23_21,
  by intros; exact e_i2l d23_22,
  by intros; exact e_aload_n d23_23 rfl,
  by intros; exact e_get (g := 3) (s := 1) (ty := 2) d23_24 rfl rfl (inG_ne (by decide)),
  by intros; exact e_iload_n d23_27 rfl,
  by intros; exact e_aald d23_28,
  by intros; exact e_iload d23_29 rfl,
  by intros; exact e_lald d23_31,
  by intros; exact e_lmul d23_32,
  by intros; exact e_ladd d23_33,
  by intros; exact e_lstore_n d23_34 rfl,
  by intros; exact e_iinc d23_35 rfl rfl rfl,
  by intros; exact e_goto d23_38 (by decide)⟩
set_option maxRecDepth 20000 in
theorem S23_1 : (∀ (ls : Lo) (st : List Value) (h : Hp) (Q : Option Value → Hp → Prop) (l0 l1 : Option Value) (a : Int64), Wp 23 41 (l0 :: l1 :: some (.long a) :: ls) (st) h Q ↔ Wp 23 42 (l0 :: l1 :: some (.long a) :: ls) (.long a :: st) h Q) ∧
  (∀ (ls : Lo) (h : Hp) (Q : Option Value → Hp → Prop) (a : Int64), Wp 23 42 (ls) ([.long a]) h Q ↔ Q (some (.long a)) h) := ⟨by intros; exact e_lload_n d23_41 rfl,
  by intros; exact e_rL d23_42 rfl⟩
