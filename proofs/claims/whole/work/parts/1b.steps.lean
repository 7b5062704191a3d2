theorem d19_0 : decode (byt 19) 0 = .ok (.iconst 0, 1) := by decide +kernel
theorem d19_1 : decode (byt 19) 1 = .ok (.istore_n 3, 1) := by decide +kernel
theorem d19_2 : decode (byt 19) 2 = .ok (.iload_n 3, 1) := by decide +kernel
theorem d19_3 : decode (byt 19) 3 = .ok (.iconst 3, 1) := by decide +kernel
theorem d19_4 : decode (byt 19) 4 = .ok (.if_icmp .ge 57, 3) := by decide +kernel
theorem d19_7 : decode (byt 19) 7 = .ok (.lconst 0, 1) := by decide +kernel
theorem d19_8 : decode (byt 19) 8 = .ok (.lstore 4, 2) := by decide +kernel
theorem d19_10 : decode (byt 19) 10 = .ok (.iconst 0, 1) := by decide +kernel
theorem d19_11 : decode (byt 19) 11 = .ok (.istore 6, 2) := by decide +kernel
theorem d19_13 : decode (byt 19) 13 = .ok (.iload 6, 2) := by decide +kernel
theorem d19_15 : decode (byt 19) 15 = .ok (.iconst 3, 1) := by decide +kernel
theorem d19_16 : decode (byt 19) 16 = .ok (.if_icmp .ge 34, 3) := by decide +kernel
theorem d19_19 : decode (byt 19) 19 = .ok (.lload 4, 2) := by decide +kernel
theorem d19_21 : decode (byt 19) 21 = .ok (.aload_n 2, 1) := by decide +kernel
theorem d19_22 : decode (byt 19) 22 = .ok (.iload 6, 2) := by decide +kernel
theorem d19_24 : decode (byt 19) 24 = .ok (.laload, 1) := by decide +kernel
theorem d19_25 : decode (byt 19) 25 = .ok (.aload_n 0, 1) := by decide +kernel
theorem d19_26 : decode (byt 19) 26 = .ok (.getfield 14, 3) := by decide +kernel
theorem d19_29 : decode (byt 19) 29 = .ok (.getfield 64, 3) := by decide +kernel
theorem d19_32 : decode (byt 19) 32 = .ok (.iconst 3, 1) := by decide +kernel
theorem d19_33 : decode (byt 19) 33 = .ok (.iload 6, 2) := by decide +kernel
theorem d19_35 : decode (byt 19) 35 = .ok (.imul, 1) := by decide +kernel
theorem d19_36 : decode (byt 19) 36 = .ok (.iload_n 3, 1) := by decide +kernel
theorem d19_37 : decode (byt 19) 37 = .ok (.iadd, 1) := by decide +kernel
theorem d19_38 : decode (byt 19) 38 = .ok (.iaload, 1) := by decide +kernel
theorem d19_39 : decode (byt 19) 39 = .ok (.i2l, 1) := by decide +kernel
theorem d19_40 : decode (byt 19) 40 = .ok (.lmul, 1) := by decide +kernel
theorem d19_41 : decode (byt 19) 41 = .ok (.ladd, 1) := by decide +kernel
theorem d19_42 : decode (byt 19) 42 = .ok (.lstore 4, 2) := by decide +kernel
theorem d19_44 : decode (byt 19) 44 = .ok (.iinc 6 1, 3) := by decide +kernel
theorem d19_47 : decode (byt 19) 47 = .ok (.goto (-34), 3) := by decide +kernel
theorem d19_50 : decode (byt 19) 50 = .ok (.aload_n 1, 1) := by decide +kernel
theorem d19_51 : decode (byt 19) 51 = .ok (.iload_n 3, 1) := by decide +kernel
theorem d19_52 : decode (byt 19) 52 = .ok (.lload 4, 2) := by decide +kernel
theorem d19_54 : decode (byt 19) 54 = .ok (.lastore, 1) := by decide +kernel
theorem d19_55 : decode (byt 19) 55 = .ok (.iinc 3 1, 3) := by decide +kernel
theorem d19_58 : decode (byt 19) 58 = .ok (.goto (-56), 3) := by decide +kernel
theorem d19_61 : decode (byt 19) 61 = .ok (.return_, 1) := by decide +kernel
set_option maxRecDepth 20000 in
theorem S19_0 : (∀ (ls : Lo) (st : List Value) (h : Hp) (Q : Option Value → Hp → Prop), Wp 19 0 (ls) (st) h Q ↔ Wp 19 1 (ls) (.int (0) :: st) h Q) ∧
  (∀ (ls : Lo) (st : List Value) (h : Hp) (Q : Option Value → Hp → Prop) (l0 l1 l2 l3 : Option Value) (x : Int32), Wp 19 1 (l0 :: l1 :: l2 :: l3 :: ls) (.int x :: st) h Q ↔ Wp 19 2 (l0 :: l1 :: clr l2 :: some (.int x) :: ls) (st) h Q) ∧
  (∀ (ls : Lo) (st : List Value) (h : Hp) (Q : Option Value → Hp → Prop) (l0 l1 l2 : Option Value) (x : Int32), Wp 19 2 (l0 :: l1 :: l2 :: some (.int x) :: ls) (st) h Q ↔ Wp 19 3 (l0 :: l1 :: l2 :: some (.int x) :: ls) (.int x :: st) h Q) ∧
  (∀ (ls : Lo) (st : List Value) (h : Hp) (Q : Option Value → Hp → Prop), Wp 19 3 (ls) (st) h Q ↔ Wp 19 4 (ls) (.int (3) :: st) h Q) ∧
  (∀ (ls : Lo) (st : List Value) (h : Hp) (Q : Option Value → Hp → Prop) (x y : Int32), Wp 19 4 (ls) (.int y :: .int x :: st) h Q ↔ Br 19 61 7 ls st h Q (y ≤ x)) ∧
  (∀ (ls : Lo) (st : List Value) (h : Hp) (Q : Option Value → Hp → Prop), Wp 19 7 (ls) (st) h Q ↔ Wp 19 8 (ls) (.long 0 :: st) h Q) ∧
  (∀ (ls : Lo) (st : List Value) (h : Hp) (Q : Option Value → Hp → Prop) (l0 l1 l2 l3 l4 l5 : Option Value) (a : Int64), Wp 19 8 (l0 :: l1 :: l2 :: l3 :: l4 :: l5 :: ls) (.long a :: st) h Q ↔ Wp 19 10 (l0 :: l1 :: l2 :: clr l3 :: some (.long a) :: none :: ls) (st) h Q) ∧
  (∀ (ls : Lo) (st : List Value) (h : Hp) (Q : Option Value → Hp → Prop), Wp 19 10 (ls) (st) h Q ↔ Wp 19 11 (ls) (.int (0) :: st) h Q) ∧
  (∀ (ls : Lo) (st : List Value) (h : Hp) (Q : Option Value → Hp → Prop) (l0 l1 l2 l3 l4 l5 l6 : Option Value) (x : Int32), Wp 19 11 (l0 :: l1 :: l2 :: l3 :: l4 :: l5 :: l6 :: ls) (.int x :: st) h Q ↔ Wp 19 13 (l0 :: l1 :: l2 :: l3 :: l4 :: clr l5 :: some (.int x) :: ls) (st) h Q) ∧
  (∀ (ls : Lo) (st : List Value) (h : Hp) (Q : Option Value → Hp → Prop) (l0 l1 l2 l3 l4 l5 : Option Value) (x : Int32), Wp 19 13 (l0 :: l1 :: l2 :: l3 :: l4 :: l5 :: some (.int x) :: ls) (st) h Q ↔ Wp 19 15 (l0 :: l1 :: l2 :: l3 :: l4 :: l5 :: some (.int x) :: ls) (.int x :: st) h Q) ∧
  (∀ (ls : Lo) (st : List Value) (h : Hp) (Q : Option Value → Hp → Prop), Wp 19 15 (ls) (st) h Q ↔ Wp 19 16 (ls) (.int (3) :: st) h Q) ∧
  (∀ (ls : Lo) (st : List Value) (h : Hp) (Q : Option Value → Hp → Prop) (x y : Int32), Wp 19 16 (ls) (.int y :: .int x :: st) h Q ↔ Br 19 50 19 ls st h Q (y ≤ x)) ∧
  (∀ (ls : Lo) (st : List Value) (h : Hp) (Q : Option Value → Hp → Prop) (l0 l1 l2 l3 : Option Value) (a : Int64), Wp 19 19 (l0 :: l1 :: l2 :: l3 :: some (.long a) :: ls) (st) h Q ↔ Wp 19 21 (l0 :: l1 :: l2 :: l3 :: some (.long a) :: ls) (.long a :: st) h Q) ∧
  (∀ (ls : Lo) (st : List Value) (h : Hp) (Q : Option Value → Hp → Prop) (l0 l1 : Option Value) (i : Nat), Wp 19 21 (l0 :: l1 :: some (.ref i) :: ls) (st) h Q ↔ Wp 19 22 (l0 :: l1 :: some (.ref i) :: ls) (.ref i :: st) h Q) ∧
  (∀ (ls : Lo) (st : List Value) (h : Hp) (Q : Option Value → Hp → Prop) (l0 l1 l2 l3 l4 l5 : Option Value) (x : Int32), Wp 19 22 (l0 :: l1 :: l2 :: l3 :: l4 :: l5 :: some (.int x) :: ls) (st) h Q ↔ Wp 19 24 (l0 :: l1 :: l2 :: l3 :: l4 :: l5 :: some (.int x) :: ls) (.int x :: st) h Q) ∧
  (∀ (ls : Lo) (st : List Value) (n sl : Nat) (C Z : Nat → Nat) (I : Nat → Nat → Int32) (L : Nat → Nat → Int64) (R : Nat → Nat → Nat) (Q : Option Value → Hp → Prop) (i : Nat) (y : Int32), Wp 19 24 (ls) (.int y :: .ref i :: st) (n, sl, C, Z, I, L, R) Q ↔ ((inb y (Z i) = true ∧ C i = 22) ∧ Wp 19 25 (ls) (.long (L i (ix y)) :: st) (n, sl, C, Z, I, L, R) Q)) ∧
  (∀ (ls : Lo) (st : List Value) (h : Hp) (Q : Option Value → Hp → Prop)  (i : Nat), Wp 19 25 (some (.ref i) :: ls) (st) h Q ↔ Wp 19 26 (some (.ref i) :: ls) (.ref i :: st) h Q) ∧
  (∀ (ls : Lo) (st : List Value) (n sl : Nat) (C Z : Nat → Nat) (I : Nat → Nat → Int32) (L : Nat → Nat → Int64) (R : Nat → Nat → Nat) (Q : Option Value → Hp → Prop) (i : Nat), Wp 19 26 (ls) (.ref i :: st) (n, sl, C, Z, I, L, R) Q ↔ (C i = 4 ∧ Wp 19 29 (ls) (.ref (R i 0) :: st) (n, sl, C, Z, I, L, R) Q)) ∧
  (∀ (ls : Lo) (st : List Value) (n sl : Nat) (C Z : Nat → Nat) (I : Nat → Nat → Int32) (L : Nat → Nat → Int64) (R : Nat → Nat → Nat) (Q : Option Value → Hp → Prop) (i : Nat), Wp 19 29 (ls) (.ref i :: st) (n, sl, C, Z, I, L, R) Q ↔ (inG 7 (C i) = true ∧ Wp 19 32 (ls) (.ref (R i 3) :: st) (n, sl, C, Z, I, L, R) Q)) ∧
  (∀ (ls : Lo) (st : List Value) (h : Hp) (Q : Option Value → Hp → Prop), Wp 19 32 (ls) (st) h Q ↔ Wp 19 33 (ls) (.int (3) :: st) h Q) ∧
  (∀ (ls : Lo) (st : List Value) (h : Hp) (Q : Option Value → Hp → Prop) (l0 l1 l2 l3 l4 l5 : Option Value) (x : Int32), Wp 19 33 (l0 :: l1 :: l2 :: l3 :: l4 :: l5 :: some (.int x) :: ls) (st) h Q ↔ Wp 19 35 (l0 :: l1 :: l2 :: l3 :: l4 :: l5 :: some (.int x) :: ls) (.int x :: st) h Q) ∧
  (∀ (ls : Lo) (st : List Value) (h : Hp) (Q : Option Value → Hp → Prop) (x y : Int32), Wp 19 35 (ls) (.int y :: .int x :: st) h Q ↔ Wp 19 36 (ls) (.int (x * y) :: st) h Q) ∧
  (∀ (ls : Lo) (st : List Value) (h : Hp) (Q : Option Value → Hp → Prop) (l0 l1 l2 : Option Value) (x : Int32), Wp 19 36 (l0 :: l1 :: l2 :: some (.int x) :: ls) (st) h Q ↔ Wp 19 37 (l0 :: l1 :: l2 :: some (.int x) :: ls) (.int x :: st) h Q) ∧
  (∀ (ls : Lo) (st : List Value) (h : Hp) (Q : Option Value → Hp → Prop) (x y : Int32), Wp 19 37 (ls) (.int y :: .int x :: st) h Q ↔ Wp 19 38 (ls) (.int (x + y) :: st) h Q) ∧
  (∀ (ls : Lo) (st : List Value) (n sl : Nat) (C Z : Nat → Nat) (I : Nat → Nat → Int32) (L : Nat → Nat → Int64) (R : Nat → Nat → Nat) (Q : Option Value → Hp → Prop) (i : Nat) (y : Int32), Wp 19 38 (ls) (.int y :: .ref i :: st) (n, sl, C, Z, I, L, R) Q ↔ ((inb y (Z i) = true ∧ C i = 21) ∧ Wp 19 39 (ls) (.int (I i (ix y)) :: st) (n, sl, C, Z, I, L, R) Q)) := ⟨by intro ls st h Q; exact e_iconst d19_0 rfl,
  by intro ls st h Q l0 l1 l2 l3 x; exact e_istore_n d19_1 rfl,
  by intro ls st h Q l0 l1 l2 x; exact e_iload_n d19_2 rfl,
  by intro ls st h Q; exact e_iconst d19_3 rfl,
  by intro ls st h Q x y; exact e_ic d19_4 (by decide) c_ge,
  by intro ls st h Q; exact e_lconst d19_7 rfl,
  by intro ls st h Q l0 l1 l2 l3 l4 l5 a; exact e_lstore d19_8 rfl,
  by intro ls st h Q; exact e_iconst d19_10 rfl,
  by intro ls st h Q l0 l1 l2 l3 l4 l5 l6 x; exact e_istore d19_11 rfl,
  by intro ls st h Q l0 l1 l2 l3 l4 l5 x; exact e_iload d19_13 rfl,
  by intro ls st h Q; exact e_iconst d19_15 rfl,
  by intro ls st h Q x y; exact e_ic d19_16 (by decide) c_ge,
  by intro ls st h Q l0 l1 l2 l3 a; exact e_lload d19_19 rfl,
  by intro ls st h Q l0 l1 i; exact e_aload_n d19_21 rfl,
  by intro ls st h Q l0 l1 l2 l3 l4 l5 x; exact e_iload d19_22 rfl,
  by intro ls st n sl C Z I L R Q i y; exact e_lald d19_24,
  by intro ls st h Q i; exact e_aload_n d19_25 rfl,
  by intro ls st n sl C Z I L R Q i; exact e_get (g := 3) (s := 0) (ty := 2) d19_26 rfl rfl (inG_ne (by decide)),
  by intro ls st n sl C Z I L R Q i; exact e_get (g := 7) (s := 3) (ty := 2) d19_29 rfl rfl rfl,
  by intro ls st h Q; exact e_iconst d19_32 rfl,
  by intro ls st h Q l0 l1 l2 l3 l4 l5 x; exact e_iload d19_33 rfl,
  by intro ls st h Q x y; exact e_imul d19_35,
  by intro ls st h Q l0 l1 l2 x; exact e_iload_n d19_36 rfl,
  by intro ls st h Q x y; exact e_iadd d19_37,
  by intro ls st n sl C Z I L R Q i y; exact e_iald d19_38⟩
set_option maxRecDepth 20000 in
theorem S19_1 : (∀ (ls : Lo) (st : List Value) (h : Hp) (Q : Option Value → Hp → Prop) (x : Int32), Wp 19 39 (ls) (.int x :: st) h Q ↔ Wp 19 40 (ls) (.long x.toInt64 :: st) h Q) ∧
  (∀ (ls : Lo) (st : List Value) (h : Hp) (Q : Option Value → Hp → Prop) (a b : Int64), Wp 19 40 (ls) (.long b :: .long a :: st) h Q ↔ Wp 19 41 (ls) (.long (a * b) :: st) h Q) ∧
  (∀ (ls : Lo) (st : List Value) (h : Hp) (Q : Option Value → Hp → Prop) (a b : Int64), Wp 19 41 (ls) (.long b :: .long a :: st) h Q ↔ Wp 19 42 (ls) (.long (a + b) :: st) h Q) ∧
  (∀ (ls : Lo) (st : List Value) (h : Hp) (Q : Option Value → Hp → Prop) (l0 l1 l2 l3 l4 l5 : Option Value) (a : Int64), Wp 19 42 (l0 :: l1 :: l2 :: l3 :: l4 :: l5 :: ls) (.long a :: st) h Q ↔ Wp 19 44 (l0 :: l1 :: l2 :: clr l3 :: some (.long a) :: none :: ls) (st) h Q) ∧
  (∀ (ls : Lo) (st : List Value) (h : Hp) (Q : Option Value → Hp → Prop) (l0 l1 l2 l3 l4 l5 : Option Value) (x : Int32), Wp 19 44 (l0 :: l1 :: l2 :: l3 :: l4 :: l5 :: some (.int x) :: ls) (st) h Q ↔ Wp 19 47 (l0 :: l1 :: l2 :: l3 :: l4 :: clr l5 :: some (.int (x + (1))) :: ls) (st) h Q) ∧
  (∀ (ls : Lo) (st : List Value) (h : Hp) (Q : Option Value → Hp → Prop), Wp 19 47 (ls) (st) h Q ↔ Wp 19 13 (ls) (st) h Q) ∧
  (∀ (ls : Lo) (st : List Value) (h : Hp) (Q : Option Value → Hp → Prop) (l0 : Option Value) (i : Nat), Wp 19 50 (l0 :: some (.ref i) :: ls) (st) h Q ↔ Wp 19 51 (l0 :: some (.ref i) :: ls) (.ref i :: st) h Q) ∧
  (∀ (ls : Lo) (st : List Value) (h : Hp) (Q : Option Value → Hp → Prop) (l0 l1 l2 : Option Value) (x : Int32), Wp 19 51 (l0 :: l1 :: l2 :: some (.int x) :: ls) (st) h Q ↔ Wp 19 52 (l0 :: l1 :: l2 :: some (.int x) :: ls) (.int x :: st) h Q) ∧
  (∀ (ls : Lo) (st : List Value) (h : Hp) (Q : Option Value → Hp → Prop) (l0 l1 l2 l3 : Option Value) (a : Int64), Wp 19 52 (l0 :: l1 :: l2 :: l3 :: some (.long a) :: ls) (st) h Q ↔ Wp 19 54 (l0 :: l1 :: l2 :: l3 :: some (.long a) :: ls) (.long a :: st) h Q) ∧
  (∀ (ls : Lo) (st : List Value) (n sl : Nat) (C Z : Nat → Nat) (I : Nat → Nat → Int32) (L : Nat → Nat → Int64) (R : Nat → Nat → Nat) (Q : Option Value → Hp → Prop) (i : Nat) (y : Int32) (a : Int64), Wp 19 54 (ls) (.long a :: .int y :: .ref i :: st) (n, sl, C, Z, I, L, R) Q ↔ ((inb y (Z i) = true ∧ C i = 22) ∧ Wp 19 55 (ls) (st) (n, sl, C, Z, I, u2 L i (ix y) a, R) Q)) ∧
  (∀ (ls : Lo) (st : List Value) (h : Hp) (Q : Option Value → Hp → Prop) (l0 l1 l2 : Option Value) (x : Int32), Wp 19 55 (l0 :: l1 :: l2 :: some (.int x) :: ls) (st) h Q ↔ Wp 19 58 (l0 :: l1 :: clr l2 :: some (.int (x + (1))) :: ls) (st) h Q) ∧
  (∀ (ls : Lo) (st : List Value) (h : Hp) (Q : Option Value → Hp → Prop), Wp 19 58 (ls) (st) h Q ↔ Wp 19 2 (ls) (st) h Q) ∧
  (∀ (ls : Lo) (h : Hp) (Q : Option Value → Hp → Prop), Wp 19 61 (ls) ([]) h Q ↔ Q none h) := ⟨by intro ls st h Q x; exact e_i2l d19_39,
  by intro ls st h Q a b; exact e_lmul d19_40,
  by intro ls st h Q a b; exact e_ladd d19_41,
  by intro ls st h Q l0 l1 l2 l3 l4 l5 a; exact e_lstore d19_42 rfl,
  by intro ls st h Q l0 l1 l2 l3 l4 l5 x; exact e_iinc d19_44 rfl rfl rfl,
  by intro ls st h Q; exact e_goto d19_47 (by decide),
  by intro ls st h Q l0 i; exact e_aload_n d19_50 rfl,
  by intro ls st h Q l0 l1 l2 x; exact e_iload_n d19_51 rfl,
  by intro ls st h Q l0 l1 l2 l3 a; exact e_lload d19_52 rfl,
  by intro ls st n sl C Z I L R Q i y a; exact e_last d19_54,
  by intro ls st h Q l0 l1 l2 x; exact e_iinc d19_55 rfl rfl rfl,
  by intro ls st h Q; exact e_goto d19_58 (by decide),
  by intros; exact e_rV d19_61 rfl⟩
theorem d20_0 : decode (byt 20) 0 = .ok (.iconst 0, 1) := by decide +kernel
theorem d20_1 : decode (byt 20) 1 = .ok (.istore_n 1, 1) := by decide +kernel
theorem d20_2 : decode (byt 20) 2 = .ok (.iload_n 1, 1) := by decide +kernel
theorem d20_3 : decode (byt 20) 3 = .ok (.iconst 3, 1) := by decide +kernel
theorem d20_4 : decode (byt 20) 4 = .ok (.if_icmp .ge 44, 3) := by decide +kernel
theorem d20_7 : decode (byt 20) 7 = .ok (.iconst 0, 1) := by decide +kernel
theorem d20_8 : decode (byt 20) 8 = .ok (.istore_n 2, 1) := by decide +kernel
theorem d20_9 : decode (byt 20) 9 = .ok (.iload_n 2, 1) := by decide +kernel
theorem d20_10 : decode (byt 20) 10 = .ok (.iconst 3, 1) := by decide +kernel
theorem d20_11 : decode (byt 20) 11 = .ok (.if_icmp .ge 31, 3) := by decide +kernel
theorem d20_14 : decode (byt 20) 14 = .ok (.aload_n 0, 1) := by decide +kernel
theorem d20_15 : decode (byt 20) 15 = .ok (.getfield 32, 3) := by decide +kernel
theorem d20_18 : decode (byt 20) 18 = .ok (.iload_n 1, 1) := by decide +kernel
theorem d20_19 : decode (byt 20) 19 = .ok (.aaload, 1) := by decide +kernel
theorem d20_20 : decode (byt 20) 20 = .ok (.iload_n 2, 1) := by decide +kernel
theorem d20_21 : decode (byt 20) 21 = .ok (.aload_n 0, 1) := by decide +kernel
theorem d20_22 : decode (byt 20) 22 = .ok (.getfield 14, 3) := by decide +kernel
theorem d20_25 : decode (byt 20) 25 = .ok (.getfield 64, 3) := by decide +kernel
theorem d20_28 : decode (byt 20) 28 = .ok (.iconst 3, 1) := by decide +kernel
theorem d20_29 : decode (byt 20) 29 = .ok (.iload_n 1, 1) := by decide +kernel
theorem d20_30 : decode (byt 20) 30 = .ok (.imul, 1) := by decide +kernel
theorem d20_31 : decode (byt 20) 31 = .ok (.iload_n 2, 1) := by decide +kernel
theorem d20_32 : decode (byt 20) 32 = .ok (.iadd, 1) := by decide +kernel
theorem d20_33 : decode (byt 20) 33 = .ok (.iaload, 1) := by decide +kernel
theorem d20_34 : decode (byt 20) 34 = .ok (.i2l, 1) := by decide +kernel
theorem d20_35 : decode (byt 20) 35 = .ok (.lastore, 1) := by decide +kernel
theorem d20_36 : decode (byt 20) 36 = .ok (.iinc 2 1, 3) := by decide +kernel
theorem d20_39 : decode (byt 20) 39 = .ok (.goto (-30), 3) := by decide +kernel
theorem d20_42 : decode (byt 20) 42 = .ok (.iinc 1 1, 3) := by decide +kernel
theorem d20_45 : decode (byt 20) 45 = .ok (.goto (-43), 3) := by decide +kernel
theorem d20_48 : decode (byt 20) 48 = .ok (.aload_n 0, 1) := by decide +kernel
theorem d20_49 : decode (byt 20) 49 = .ok (.iconst 0, 1) := by decide +kernel
theorem d20_50 : decode (byt 20) 50 = .ok (.lconst 1, 1) := by decide +kernel
theorem d20_51 : decode (byt 20) 51 = .ok (.invokevirtual 67, 3) := by decide +kernel
theorem d20_54 : decode (byt 20) 54 = .ok (.aload_n 0, 1) := by decide +kernel
theorem d20_55 : decode (byt 20) 55 = .ok (.iconst 1, 1) := by decide +kernel
theorem d20_56 : decode (byt 20) 56 = .ok (.aload_n 0, 1) := by decide +kernel
theorem d20_57 : decode (byt 20) 57 = .ok (.getfield 32, 3) := by decide +kernel
theorem d20_60 : decode (byt 20) 60 = .ok (.iconst 0, 1) := by decide +kernel
theorem d20_61 : decode (byt 20) 61 = .ok (.aaload, 1) := by decide +kernel
theorem d20_62 : decode (byt 20) 62 = .ok (.iconst 0, 1) := by decide +kernel
theorem d20_63 : decode (byt 20) 63 = .ok (.laload, 1) := by decide +kernel
theorem d20_64 : decode (byt 20) 64 = .ok (.aload_n 0, 1) := by decide +kernel
theorem d20_65 : decode (byt 20) 65 = .ok (.getfield 32, 3) := by decide +kernel
theorem d20_68 : decode (byt 20) 68 = .ok (.iconst 1, 1) := by decide +kernel
theorem d20_69 : decode (byt 20) 69 = .ok (.aaload, 1) := by decide +kernel
theorem d20_70 : decode (byt 20) 70 = .ok (.iconst 1, 1) := by decide +kernel
theorem d20_71 : decode (byt 20) 71 = .ok (.laload, 1) := by decide +kernel
theorem d20_72 : decode (byt 20) 72 = .ok (.ladd, 1) := by decide +kernel
theorem d20_73 : decode (byt 20) 73 = .ok (.aload_n 0, 1) := by decide +kernel
theorem d20_74 : decode (byt 20) 74 = .ok (.getfield 32, 3) := by decide +kernel
theorem d20_77 : decode (byt 20) 77 = .ok (.iconst 2, 1) := by decide +kernel
theorem d20_78 : decode (byt 20) 78 = .ok (.aaload, 1) := by decide +kernel
theorem d20_79 : decode (byt 20) 79 = .ok (.iconst 2, 1) := by decide +kernel
theorem d20_80 : decode (byt 20) 80 = .ok (.laload, 1) := by decide +kernel
theorem d20_81 : decode (byt 20) 81 = .ok (.ladd, 1) := by decide +kernel
theorem d20_82 : decode (byt 20) 82 = .ok (.lneg, 1) := by decide +kernel
theorem d20_83 : decode (byt 20) 83 = .ok (.invokevirtual 67, 3) := by decide +kernel
theorem d20_86 : decode (byt 20) 86 = .ok (.aload_n 0, 1) := by decide +kernel
theorem d20_87 : decode (byt 20) 87 = .ok (.iconst 2, 1) := by decide +kernel
theorem d20_88 : decode (byt 20) 88 = .ok (.aload_n 0, 1) := by decide +kernel
theorem d20_89 : decode (byt 20) 89 = .ok (.iconst 0, 1) := by decide +kernel
theorem d20_90 : decode (byt 20) 90 = .ok (.iconst 1, 1) := by decide +kernel
theorem d20_91 : decode (byt 20) 91 = .ok (.invokevirtual 71, 3) := by decide +kernel
theorem d20_94 : decode (byt 20) 94 = .ok (.aload_n 0, 1) := by decide +kernel
theorem d20_95 : decode (byt 20) 95 = .ok (.iconst 0, 1) := by decide +kernel
theorem d20_96 : decode (byt 20) 96 = .ok (.iconst 2, 1) := by decide +kernel
theorem d20_97 : decode (byt 20) 97 = .ok (.invokevirtual 71, 3) := by decide +kernel
theorem d20_100 : decode (byt 20) 100 = .ok (.ladd, 1) := by decide +kernel
theorem d20_101 : decode (byt 20) 101 = .ok (.aload_n 0, 1) := by decide +kernel
theorem d20_102 : decode (byt 20) 102 = .ok (.iconst 1, 1) := by decide +kernel
theorem d20_103 : decode (byt 20) 103 = .ok (.iconst 2, 1) := by decide +kernel
theorem d20_104 : decode (byt 20) 104 = .ok (.invokevirtual 71, 3) := by decide +kernel
theorem d20_107 : decode (byt 20) 107 = .ok (.ladd, 1) := by decide +kernel
theorem d20_108 : decode (byt 20) 108 = .ok (.invokevirtual 67, 3) := by decide +kernel
theorem d20_111 : decode (byt 20) 111 = .ok (.aload_n 0, 1) := by decide +kernel
theorem d20_112 : decode (byt 20) 112 = .ok (.iconst 3, 1) := by decide +kernel
theorem d20_113 : decode (byt 20) 113 = .ok (.aload_n 0, 1) := by decide +kernel
theorem d20_114 : decode (byt 20) 114 = .ok (.getfield 32, 3) := by decide +kernel
theorem d20_117 : decode (byt 20) 117 = .ok (.iconst 0, 1) := by decide +kernel
theorem d20_118 : decode (byt 20) 118 = .ok (.aaload, 1) := by decide +kernel
theorem d20_119 : decode (byt 20) 119 = .ok (.aload_n 0, 1) := by decide +kernel
theorem d20_120 : decode (byt 20) 120 = .ok (.getfield 32, 3) := by decide +kernel
theorem d20_123 : decode (byt 20) 123 = .ok (.iconst 1, 1) := by decide +kernel
theorem d20_124 : decode (byt 20) 124 = .ok (.aaload, 1) := by decide +kernel
theorem d20_125 : decode (byt 20) 125 = .ok (.aload_n 0, 1) := by decide +kernel
theorem d20_126 : decode (byt 20) 126 = .ok (.getfield 32, 3) := by decide +kernel
theorem d20_129 : decode (byt 20) 129 = .ok (.iconst 2, 1) := by decide +kernel
theorem d20_130 : decode (byt 20) 130 = .ok (.aaload, 1) := by decide +kernel
theorem d20_131 : decode (byt 20) 131 = .ok (.invokestatic 75, 3) := by decide +kernel
theorem d20_134 : decode (byt 20) 134 = .ok (.lneg, 1) := by decide +kernel
theorem d20_135 : decode (byt 20) 135 = .ok (.invokevirtual 67, 3) := by decide +kernel
theorem d20_138 : decode (byt 20) 138 = .ok (.return_, 1) := by decide +kernel
set_option maxRecDepth 20000 in
theorem S20_0 : (∀ (ls : Lo) (st : List Value) (h : Hp) (Q : Option Value → Hp → Prop), Wp 20 0 (ls) (st) h Q ↔ Wp 20 1 (ls) (.int (0) :: st) h Q) ∧
  (∀ (ls : Lo) (st : List Value) (h : Hp) (Q : Option Value → Hp → Prop) (l0 l1 : Option Value) (x : Int32), Wp 20 1 (l0 :: l1 :: ls) (.int x :: st) h Q ↔ Wp 20 2 (clr l0 :: some (.int x) :: ls) (st) h Q) ∧
  (∀ (ls : Lo) (st : List Value) (h : Hp) (Q : Option Value → Hp → Prop) (l0 : Option Value) (x : Int32), Wp 20 2 (l0 :: some (.int x) :: ls) (st) h Q ↔ Wp 20 3 (l0 :: some (.int x) :: ls) (.int x :: st) h Q) ∧
  (∀ (ls : Lo) (st : List Value) (h : Hp) (Q : Option Value → Hp → Prop), Wp 20 3 (ls) (st) h Q ↔ Wp 20 4 (ls) (.int (3) :: st) h Q) ∧
  (∀ (ls : Lo) (st : List Value) (h : Hp) (Q : Option Value → Hp → Prop) (x y : Int32), Wp 20 4 (ls) (.int y :: .int x :: st) h Q ↔ Br 20 48 7 ls st h Q (y ≤ x)) ∧
  (∀ (ls : Lo) (st : List Value) (h : Hp) (Q : Option Value → Hp → Prop), Wp 20 7 (ls) (st) h Q ↔ Wp 20 8 (ls) (.int (0) :: st) h Q) ∧
  (∀ (ls : Lo) (st : List Value) (h : Hp) (Q : Option Value → Hp → Prop) (l0 l1 l2 : Option Value) (x : Int32), Wp 20 8 (l0 :: l1 :: l2 :: ls) (.int x :: st) h Q ↔ Wp 20 9 (l0 :: clr l1 :: some (.int x) :: ls) (st) h Q) ∧
  (∀ (ls : Lo) (st : List Value) (h : Hp) (Q : Option Value → Hp → Prop) (l0 l1 : Option Value) (x : Int32), Wp 20 9 (l0 :: l1 :: some (.int x) :: ls) (st) h Q ↔ Wp 20 10 (l0 :: l1 :: some (.int x) :: ls) (.int x :: st) h Q) ∧
  (∀ (ls : Lo) (st : List Value) (h : Hp) (Q : Option Value → Hp → Prop), Wp 20 10 (ls) (st) h Q ↔ Wp 20 11 (ls) (.int (3) :: st) h Q) ∧
  (∀ (ls : Lo) (st : List Value) (h : Hp) (Q : Option Value → Hp → Prop) (x y : Int32), Wp 20 11 (ls) (.int y :: .int x :: st) h Q ↔ Br 20 42 14 ls st h Q (y ≤ x)) ∧
  (∀ (ls : Lo) (st : List Value) (h : Hp) (Q : Option Value → Hp → Prop)  (i : Nat), Wp 20 14 (some (.ref i) :: ls) (st) h Q ↔ Wp 20 15 (some (.ref i) :: ls) (.ref i :: st) h Q) ∧
  (∀ (ls : Lo) (st : List Value) (n sl : Nat) (C Z : Nat → Nat) (I : Nat → Nat → Int32) (L : Nat → Nat → Int64) (R : Nat → Nat → Nat) (Q : Option Value → Hp → Prop) (i : Nat), Wp 20 15 (ls) (.ref i :: st) (n, sl, C, Z, I, L, R) Q ↔ (C i = 4 ∧ Wp 20 18 (ls) (.ref (R i 4) :: st) (n, sl, C, Z, I, L, R) Q)) ∧
  (∀ (ls : Lo) (st : List Value) (h : Hp) (Q : Option Value → Hp → Prop) (l0 : Option Value) (x : Int32), Wp 20 18 (l0 :: some (.int x) :: ls) (st) h Q ↔ Wp 20 19 (l0 :: some (.int x) :: ls) (.int x :: st) h Q) ∧
  (∀ (ls : Lo) (st : List Value) (n sl : Nat) (C Z : Nat → Nat) (I : Nat → Nat → Int32) (L : Nat → Nat → Int64) (R : Nat → Nat → Nat) (Q : Option Value → Hp → Prop) (i : Nat) (y : Int32), Wp 20 19 (ls) (.int y :: .ref i :: st) (n, sl, C, Z, I, L, R) Q ↔ ((inb y (Z i) = true ∧ (C i = 23 ∨ C i = 24 ∨ C i = 25)) ∧ Wp 20 20 (ls) (.ref (R i (ix y)) :: st) (n, sl, C, Z, I, L, R) Q)) ∧
  (∀ (ls : Lo) (st : List Value) (h : Hp) (Q : Option Value → Hp → Prop) (l0 l1 : Option Value) (x : Int32), Wp 20 20 (l0 :: l1 :: some (.int x) :: ls) (st) h Q ↔ Wp 20 21 (l0 :: l1 :: some (.int x) :: ls) (.int x :: st) h Q) ∧
  (∀ (ls : Lo) (st : List Value) (h : Hp) (Q : Option Value → Hp → Prop)  (i : Nat), Wp 20 21 (some (.ref i) :: ls) (st) h Q ↔ Wp 20 22 (some (.ref i) :: ls) (.ref i :: st) h Q) ∧
  (∀ (ls : Lo) (st : List Value) (n sl : Nat) (C Z : Nat → Nat) (I : Nat → Nat → Int32) (L : Nat → Nat → Int64) (R : Nat → Nat → Nat) (Q : Option Value → Hp → Prop) (i : Nat), Wp 20 22 (ls) (.ref i :: st) (n, sl, C, Z, I, L, R) Q ↔ (C i = 4 ∧ Wp 20 25 (ls) (.ref (R i 0) :: st) (n, sl, C, Z, I, L, R) Q)) ∧
  (∀ (ls : Lo) (st : List Value) (n sl : Nat) (C Z : Nat → Nat) (I : Nat → Nat → Int32) (L : Nat → Nat → Int64) (R : Nat → Nat → Nat) (Q : Option Value → Hp → Prop) (i : Nat), Wp 20 25 (ls) (.ref i :: st) (n, sl, C, Z, I, L, R) Q ↔ (inG 7 (C i) = true ∧ Wp 20 28 (ls) (.ref (R i 3) :: st) (n, sl, C, Z, I, L, R) Q)) ∧
  (∀ (ls : Lo) (st : List Value) (h : Hp) (Q : Option Value → Hp → Prop), Wp 20 28 (ls) (st) h Q ↔ Wp 20 29 (ls) (.int (3) :: st) h Q) ∧
  (∀ (ls : Lo) (st : List Value) (h : Hp) (Q : Option Value → Hp → Prop) (l0 : Option Value) (x : Int32), Wp 20 29 (l0 :: some (.int x) :: ls) (st) h Q ↔ Wp 20 30 (l0 :: some (.int x) :: ls) (.int x :: st) h Q) ∧
  (∀ (ls : Lo) (st : List Value) (h : Hp) (Q : Option Value → Hp → Prop) (x y : Int32), Wp 20 30 (ls) (.int y :: .int x :: st) h Q ↔ Wp 20 31 (ls) (.int (x * y) :: st) h Q) ∧
  (∀ (ls : Lo) (st : List Value) (h : Hp) (Q : Option Value → Hp → Prop) (l0 l1 : Option Value) (x : Int32), Wp 20 31 (l0 :: l1 :: some (.int x) :: ls) (st) h Q ↔ Wp 20 32 (l0 :: l1 :: some (.int x) :: ls) (.int x :: st) h Q) ∧
  (∀ (ls : Lo) (st : List Value) (h : Hp) (Q : Option Value → Hp → Prop) (x y : Int32), Wp 20 32 (ls) (.int y :: .int x :: st) h Q ↔ Wp 20 33 (ls) (.int (x + y) :: st) h Q) ∧
  (∀ (ls : Lo) (st : List Value) (n sl : Nat) (C Z : Nat → Nat) (I : Nat → Nat → Int32) (L : Nat → Nat → Int64) (R : Nat → Nat → Nat) (Q : Option Value → Hp → Prop) (i : Nat) (y : Int32), Wp 20 33 (ls) (.int y :: .ref i :: st) (n, sl, C, Z, I, L, R) Q ↔ ((inb y (Z i) = true ∧ C i = 21) ∧ Wp 20 34 (ls) (.int (I i (ix y)) :: st) (n, sl, C, Z, I, L, R) Q)) ∧
  (∀ (ls : Lo) (st : List Value) (h : Hp) (Q : Option Value → Hp → Prop) (x : Int32), Wp 20 34 (ls) (.int x :: st) h Q ↔ Wp 20 35 (ls) (.long x.toInt64 :: st) h Q) := ⟨by intro ls st h Q; exact e_iconst d20_0 rfl,
  by intro ls st h Q l0 l1 x; exact e_istore_n d20_1 rfl,
  by intro ls st h Q l0 x; exact e_iload_n d20_2 rfl,
  by intro ls st h Q; exact e_iconst d20_3 rfl,
  by intro ls st h Q x y; exact e_ic d20_4 (by decide) c_ge,
  by intro ls st h Q; exact e_iconst d20_7 rfl,
  by intro ls st h Q l0 l1 l2 x; exact e_istore_n d20_8 rfl,
  by intro ls st h Q l0 l1 x; exact e_iload_n d20_9 rfl,
  by intro ls st h Q; exact e_iconst d20_10 rfl,
  by intro ls st h Q x y; exact e_ic d20_11 (by decide) c_ge,
  by intro ls st h Q i; exact e_aload_n d20_14 rfl,
  by intro ls st n sl C Z I L R Q i; exact e_get (g := 3) (s := 4) (ty := 2) d20_15 rfl rfl (inG_ne (by decide)),
  by intro ls st h Q l0 x; exact e_iload_n d20_18 rfl,
  by intro ls st n sl C Z I L R Q i y; exact e_aald d20_19,
  by intro ls st h Q l0 l1 x; exact e_iload_n d20_20 rfl,
  by intro ls st h Q i; exact e_aload_n d20_21 rfl,
  by intro ls st n sl C Z I L R Q i; exact e_get (g := 3) (s := 0) (ty := 2) d20_22 rfl rfl (inG_ne (by decide)),
  by intro ls st n sl C Z I L R Q i; exact e_get (g := 7) (s := 3) (ty := 2) d20_25 rfl rfl rfl,
  by intro ls st h Q; exact e_iconst d20_28 rfl,
  by intro ls st h Q l0 x; exact e_iload_n d20_29 rfl,
  by intro ls st h Q x y; exact e_imul d20_30,
  by intro ls st h Q l0 l1 x; exact e_iload_n d20_31 rfl,
  by intro ls st h Q x y; exact e_iadd d20_32,
  by intro ls st n sl C Z I L R Q i y; exact e_iald d20_33,
  by intro ls st h Q x; exact e_i2l d20_34⟩
set_option maxRecDepth 20000 in
theorem S20_1 : (∀ (ls : Lo) (st : List Value) (n sl : Nat) (C Z : Nat → Nat) (I : Nat → Nat → Int32) (L : Nat → Nat → Int64) (R : Nat → Nat → Nat) (Q : Option Value → Hp → Prop) (i : Nat) (y : Int32) (a : Int64), Wp 20 35 (ls) (.long a :: .int y :: .ref i :: st) (n, sl, C, Z, I, L, R) Q ↔ ((inb y (Z i) = true ∧ C i = 22) ∧ Wp 20 36 (ls) (st) (n, sl, C, Z, I, u2 L i (ix y) a, R) Q)) ∧
  (∀ (ls : Lo) (st : List Value) (h : Hp) (Q : Option Value → Hp → Prop) (l0 l1 : Option Value) (x : Int32), Wp 20 36 (l0 :: l1 :: some (.int x) :: ls) (st) h Q ↔ Wp 20 39 (l0 :: clr l1 :: some (.int (x + (1))) :: ls) (st) h Q) ∧
  (∀ (ls : Lo) (st : List Value) (h : Hp) (Q : Option Value → Hp → Prop), Wp 20 39 (ls) (st) h Q ↔ Wp 20 9 (ls) (st) h Q) ∧
  (∀ (ls : Lo) (st : List Value) (h : Hp) (Q : Option Value → Hp → Prop) (l0 : Option Value) (x : Int32), Wp 20 42 (l0 :: some (.int x) :: ls) (st) h Q ↔ Wp 20 45 (clr l0 :: some (.int (x + (1))) :: ls) (st) h Q) ∧
  (∀ (ls : Lo) (st : List Value) (h : Hp) (Q : Option Value → Hp → Prop), Wp 20 45 (ls) (st) h Q ↔ Wp 20 2 (ls) (st) h Q) ∧
  (∀ (ls : Lo) (st : List Value) (h : Hp) (Q : Option Value → Hp → Prop)  (i : Nat), Wp 20 48 (some (.ref i) :: ls) (st) h Q ↔ Wp 20 49 (some (.ref i) :: ls) (.ref i :: st) h Q) ∧
  (∀ (ls : Lo) (st : List Value) (h : Hp) (Q : Option Value → Hp → Prop), Wp 20 49 (ls) (st) h Q ↔ Wp 20 50 (ls) (.int (0) :: st) h Q) ∧
  (∀ (ls : Lo) (st : List Value) (h : Hp) (Q : Option Value → Hp → Prop), Wp 20 50 (ls) (st) h Q ↔ Wp 20 51 (ls) (.long 1 :: st) h Q) ∧
  (∀ (ls : Lo) (st : List Value) (n sl : Nat) (C Z : Nat → Nat) (I : Nat → Nat → Int32) (L : Nat → Nat → Int64) (R : Nat → Nat → Nat) (Q : Option Value → Hp → Prop) (x0 : Int32) (x1 : Int64) (i : Nat), C i = 4 → (Wp 20 51 (ls) (.long x1 :: .int x0 :: .ref i :: st) (n, sl, C, Z, I, L, R) Q ↔ (wsum st ≤ 8 ∧ Call 21 [some (.ref i), some (.int x0), some (.long x1), none] (n, sl, C, Z, I, L, R) 20 54 ls st Q))) ∧
  (∀ (ls : Lo) (st : List Value) (h : Hp) (Q : Option Value → Hp → Prop)  (i : Nat), Wp 20 54 (some (.ref i) :: ls) (st) h Q ↔ Wp 20 55 (some (.ref i) :: ls) (.ref i :: st) h Q) ∧
  (∀ (ls : Lo) (st : List Value) (h : Hp) (Q : Option Value → Hp → Prop), Wp 20 55 (ls) (st) h Q ↔ Wp 20 56 (ls) (.int (1) :: st) h Q) ∧
  (∀ (ls : Lo) (st : List Value) (h : Hp) (Q : Option Value → Hp → Prop)  (i : Nat), Wp 20 56 (some (.ref i) :: ls) (st) h Q ↔ Wp 20 57 (some (.ref i) :: ls) (.ref i :: st) h Q) ∧
  (∀ (ls : Lo) (st : List Value) (n sl : Nat) (C Z : Nat → Nat) (I : Nat → Nat → Int32) (L : Nat → Nat → Int64) (R : Nat → Nat → Nat) (Q : Option Value → Hp → Prop) (i : Nat), Wp 20 57 (ls) (.ref i :: st) (n, sl, C, Z, I, L, R) Q ↔ (C i = 4 ∧ Wp 20 60 (ls) (.ref (R i 4) :: st) (n, sl, C, Z, I, L, R) Q)) ∧
  (∀ (ls : Lo) (st : List Value) (h : Hp) (Q : Option Value → Hp → Prop), Wp 20 60 (ls) (st) h Q ↔ Wp 20 61 (ls) (.int (0) :: st) h Q) ∧
  (∀ (ls : Lo) (st : List Value) (n sl : Nat) (C Z : Nat → Nat) (I : Nat → Nat → Int32) (L : Nat → Nat → Int64) (R : Nat → Nat → Nat) (Q : Option Value → Hp → Prop) (i : Nat) (y : Int32), Wp 20 61 (ls) (.int y :: .ref i :: st) (n, sl, C, Z, I, L, R) Q ↔ ((inb y (Z i) = true ∧ (C i = 23 ∨ C i = 24 ∨ C i = 25)) ∧ Wp 20 62 (ls) (.ref (R i (ix y)) :: st) (n, sl, C, Z, I, L, R) Q)) ∧
  (∀ (ls : Lo) (st : List Value) (h : Hp) (Q : Option Value → Hp → Prop), Wp 20 62 (ls) (st) h Q ↔ Wp 20 63 (ls) (.int (0) :: st) h Q) ∧
  (∀ (ls : Lo) (st : List Value) (n sl : Nat) (C Z : Nat → Nat) (I : Nat → Nat → Int32) (L : Nat → Nat → Int64) (R : Nat → Nat → Nat) (Q : Option Value → Hp → Prop) (i : Nat) (y : Int32), Wp 20 63 (ls) (.int y :: .ref i :: st) (n, sl, C, Z, I, L, R) Q ↔ ((inb y (Z i) = true ∧ C i = 22) ∧ Wp 20 64 (ls) (.long (L i (ix y)) :: st) (n, sl, C, Z, I, L, R) Q)) ∧
  (∀ (ls : Lo) (st : List Value) (h : Hp) (Q : Option Value → Hp → Prop)  (i : Nat), Wp 20 64 (some (.ref i) :: ls) (st) h Q ↔ Wp 20 65 (some (.ref i) :: ls) (.ref i :: st) h Q) ∧
  (∀ (ls : Lo) (st : List Value) (n sl : Nat) (C Z : Nat → Nat) (I : Nat → Nat → Int32) (L : Nat → Nat → Int64) (R : Nat → Nat → Nat) (Q : Option Value → Hp → Prop) (i : Nat), Wp 20 65 (ls) (.ref i :: st) (n, sl, C, Z, I, L, R) Q ↔ (C i = 4 ∧ Wp 20 68 (ls) (.ref (R i 4) :: st) (n, sl, C, Z, I, L, R) Q)) ∧
  (∀ (ls : Lo) (st : List Value) (h : Hp) (Q : Option Value → Hp → Prop), Wp 20 68 (ls) (st) h Q ↔ Wp 20 69 (ls) (.int (1) :: st) h Q) ∧
  (∀ (ls : Lo) (st : List Value) (n sl : Nat) (C Z : Nat → Nat) (I : Nat → Nat → Int32) (L : Nat → Nat → Int64) (R : Nat → Nat → Nat) (Q : Option Value → Hp → Prop) (i : Nat) (y : Int32), Wp 20 69 (ls) (.int y :: .ref i :: st) (n, sl, C, Z, I, L, R) Q ↔ ((inb y (Z i) = true ∧ (C i = 23 ∨ C i = 24 ∨ C i = 25)) ∧ Wp 20 70 (ls) (.ref (R i (ix y)) :: st) (n, sl, C, Z, I, L, R) Q)) ∧
  (∀ (ls : Lo) (st : List Value) (h : Hp) (Q : Option Value → Hp → Prop), Wp 20 70 (ls) (st) h Q ↔ Wp 20 71 (ls) (.int (1) :: st) h Q) ∧
  (∀ (ls : Lo) (st : List Value) (n sl : Nat) (C Z : Nat → Nat) (I : Nat → Nat → Int32) (L : Nat → Nat → Int64) (R : Nat → Nat → Nat) (Q : Option Value → Hp → Prop) (i : Nat) (y : Int32), Wp 20 71 (ls) (.int y :: .ref i :: st) (n, sl, C, Z, I, L, R) Q ↔ ((inb y (Z i) = true ∧ C i = 22) ∧ Wp 20 72 (ls) (.long (L i (ix y)) :: st) (n, sl, C, Z, I, L, R) Q)) ∧
  (∀ (ls : Lo) (st : List Value) (h : Hp) (Q : Option Value → Hp → Prop) (a b : Int64), Wp 20 72 (ls) (.long b :: .long a :: st) h Q ↔ Wp 20 73 (ls) (.long (a + b) :: st) h Q) ∧
  (∀ (ls : Lo) (st : List Value) (h : Hp) (Q : Option Value → Hp → Prop)  (i : Nat), Wp 20 73 (some (.ref i) :: ls) (st) h Q ↔ Wp 20 74 (some (.ref i) :: ls) (.ref i :: st) h Q) := ⟨by intro ls st n sl C Z I L R Q i y a; exact e_last d20_35,
  by intro ls st h Q l0 l1 x; exact e_iinc d20_36 rfl rfl rfl,
  by intro ls st h Q; exact e_goto d20_39 (by decide),
  by intro ls st h Q l0 x; exact e_iinc d20_42 rfl rfl rfl,
  by intro ls st h Q; exact e_goto d20_45 (by decide),
  by intro ls st h Q i; exact e_aload_n d20_48 rfl,
  by intro ls st h Q; exact e_iconst d20_49 rfl,
  by intro ls st h Q; exact e_lconst d20_50 rfl,
  by intro ls st n sl C Z I L R Q x0 x1 i hh; exact e_iv (k2 := 21) (c := 4) (as := [.int x0, .long x1]) d20_51 rfl (by decide) rfl rfl (by decide +kernel) (Nat.le_of_ble_eq_true rfl) rfl hh,
  by intro ls st h Q i; exact e_aload_n d20_54 rfl,
  by intro ls st h Q; exact e_iconst d20_55 rfl,
  by intro ls st h Q i; exact e_aload_n d20_56 rfl,
  by intro ls st n sl C Z I L R Q i; exact e_get (g := 3) (s := 4) (ty := 2) d20_57 rfl rfl (inG_ne (by decide)),
  by intro ls st h Q; exact e_iconst d20_60 rfl,
  by intro ls st n sl C Z I L R Q i y; exact e_aald d20_61,
  by intro ls st h Q; exact e_iconst d20_62 rfl,
  by intro ls st n sl C Z I L R Q i y; exact e_lald d20_63,
  by intro ls st h Q i; exact e_aload_n d20_64 rfl,
  by intro ls st n sl C Z I L R Q i; exact e_get (g := 3) (s := 4) (ty := 2) d20_65 rfl rfl (inG_ne (by decide)),
  by intro ls st h Q; exact e_iconst d20_68 rfl,
  by intro ls st n sl C Z I L R Q i y; exact e_aald d20_69,
  by intro ls st h Q; exact e_iconst d20_70 rfl,
  by intro ls st n sl C Z I L R Q i y; exact e_lald d20_71,
  by intro ls st h Q a b; exact e_ladd d20_72,
  by intro ls st h Q i; exact e_aload_n d20_73 rfl⟩
set_option maxRecDepth 20000 in
theorem S20_2 : (∀ (ls : Lo) (st : List Value) (n sl : Nat) (C Z : Nat → Nat) (I : Nat → Nat → Int32) (L : Nat → Nat → Int64) (R : Nat → Nat → Nat) (Q : Option Value → Hp → Prop) (i : Nat), Wp 20 74 (ls) (.ref i :: st) (n, sl, C, Z, I, L, R) Q ↔ (C i = 4 ∧ Wp 20 77 (ls) (.ref (R i 4) :: st) (n, sl, C, Z, I, L, R) Q)) ∧
  (∀ (ls : Lo) (st : List Value) (h : Hp) (Q : Option Value → Hp → Prop), Wp 20 77 (ls) (st) h Q ↔ Wp 20 78 (ls) (.int (2) :: st) h Q) ∧
  (∀ (ls : Lo) (st : List Value) (n sl : Nat) (C Z : Nat → Nat) (I : Nat → Nat → Int32) (L : Nat → Nat → Int64) (R : Nat → Nat → Nat) (Q : Option Value → Hp → Prop) (i : Nat) (y : Int32), Wp 20 78 (ls) (.int y :: .ref i :: st) (n, sl, C, Z, I, L, R) Q ↔ ((inb y (Z i) = true ∧ (C i = 23 ∨ C i = 24 ∨ C i = 25)) ∧ Wp 20 79 (ls) (.ref (R i (ix y)) :: st) (n, sl, C, Z, I, L, R) Q)) ∧
  (∀ (ls : Lo) (st : List Value) (h : Hp) (Q : Option Value → Hp → Prop), Wp 20 79 (ls) (st) h Q ↔ Wp 20 80 (ls) (.int (2) :: st) h Q) ∧
  (∀ (ls : Lo) (st : List Value) (n sl : Nat) (C Z : Nat → Nat) (I : Nat → Nat → Int32) (L : Nat → Nat → Int64) (R : Nat → Nat → Nat) (Q : Option Value → Hp → Prop) (i : Nat) (y : Int32), Wp 20 80 (ls) (.int y :: .ref i :: st) (n, sl, C, Z, I, L, R) Q ↔ ((inb y (Z i) = true ∧ C i = 22) ∧ Wp 20 81 (ls) (.long (L i (ix y)) :: st) (n, sl, C, Z, I, L, R) Q)) ∧
  (∀ (ls : Lo) (st : List Value) (h : Hp) (Q : Option Value → Hp → Prop) (a b : Int64), Wp 20 81 (ls) (.long b :: .long a :: st) h Q ↔ Wp 20 82 (ls) (.long (a + b) :: st) h Q) ∧
  (∀ (ls : Lo) (st : List Value) (h : Hp) (Q : Option Value → Hp → Prop) (a : Int64), Wp 20 82 (ls) (.long a :: st) h Q ↔ Wp 20 83 (ls) (.long (-a) :: st) h Q) ∧
  (∀ (ls : Lo) (st : List Value) (n sl : Nat) (C Z : Nat → Nat) (I : Nat → Nat → Int32) (L : Nat → Nat → Int64) (R : Nat → Nat → Nat) (Q : Option Value → Hp → Prop) (x0 : Int32) (x1 : Int64) (i : Nat), C i = 4 → (Wp 20 83 (ls) (.long x1 :: .int x0 :: .ref i :: st) (n, sl, C, Z, I, L, R) Q ↔ (wsum st ≤ 8 ∧ Call 21 [some (.ref i), some (.int x0), some (.long x1), none] (n, sl, C, Z, I, L, R) 20 86 ls st Q))) ∧
  (∀ (ls : Lo) (st : List Value) (h : Hp) (Q : Option Value → Hp → Prop)  (i : Nat), Wp 20 86 (some (.ref i) :: ls) (st) h Q ↔ Wp 20 87 (some (.ref i) :: ls) (.ref i :: st) h Q) ∧
  (∀ (ls : Lo) (st : List Value) (h : Hp) (Q : Option Value → Hp → Prop), Wp 20 87 (ls) (st) h Q ↔ Wp 20 88 (ls) (.int (2) :: st) h Q) ∧
  (∀ (ls : Lo) (st : List Value) (h : Hp) (Q : Option Value → Hp → Prop)  (i : Nat), Wp 20 88 (some (.ref i) :: ls) (st) h Q ↔ Wp 20 89 (some (.ref i) :: ls) (.ref i :: st) h Q) ∧
  (∀ (ls : Lo) (st : List Value) (h : Hp) (Q : Option Value → Hp → Prop), Wp 20 89 (ls) (st) h Q ↔ Wp 20 90 (ls) (.int (0) :: st) h Q) ∧
  (∀ (ls : Lo) (st : List Value) (h : Hp) (Q : Option Value → Hp → Prop), Wp 20 90 (ls) (st) h Q ↔ Wp 20 91 (ls) (.int (1) :: st) h Q) ∧
  (∀ (ls : Lo) (st : List Value) (n sl : Nat) (C Z : Nat → Nat) (I : Nat → Nat → Int32) (L : Nat → Nat → Int64) (R : Nat → Nat → Nat) (Q : Option Value → Hp → Prop) (x0 : Int32) (x1 : Int32) (i : Nat), C i = 4 → (Wp 20 91 (ls) (.int x1 :: .int x0 :: .ref i :: st) (n, sl, C, Z, I, L, R) Q ↔ (wsum st ≤ 8 ∧ Call 22 [some (.ref i), some (.int x0), some (.int x1)] (n, sl, C, Z, I, L, R) 20 94 ls st Q))) ∧
  (∀ (ls : Lo) (st : List Value) (h : Hp) (Q : Option Value → Hp → Prop)  (i : Nat), Wp 20 94 (some (.ref i) :: ls) (st) h Q ↔ Wp 20 95 (some (.ref i) :: ls) (.ref i :: st) h Q) ∧
  (∀ (ls : Lo) (st : List Value) (h : Hp) (Q : Option Value → Hp → Prop), Wp 20 95 (ls) (st) h Q ↔ Wp 20 96 (ls) (.int (0) :: st) h Q) ∧
  (∀ (ls : Lo) (st : List Value) (h : Hp) (Q : Option Value → Hp → Prop), Wp 20 96 (ls) (st) h Q ↔ Wp 20 97 (ls) (.int (2) :: st) h Q) ∧
  (∀ (ls : Lo) (st : List Value) (n sl : Nat) (C Z : Nat → Nat) (I : Nat → Nat → Int32) (L : Nat → Nat → Int64) (R : Nat → Nat → Nat) (Q : Option Value → Hp → Prop) (x0 : Int32) (x1 : Int32) (i : Nat), C i = 4 → (Wp 20 97 (ls) (.int x1 :: .int x0 :: .ref i :: st) (n, sl, C, Z, I, L, R) Q ↔ (wsum st ≤ 8 ∧ Call 22 [some (.ref i), some (.int x0), some (.int x1)] (n, sl, C, Z, I, L, R) 20 100 ls st Q))) ∧
  (∀ (ls : Lo) (st : List Value) (h : Hp) (Q : Option Value → Hp → Prop) (a b : Int64), Wp 20 100 (ls) (.long b :: .long a :: st) h Q ↔ Wp 20 101 (ls) (.long (a + b) :: st) h Q) ∧
  (∀ (ls : Lo) (st : List Value) (h : Hp) (Q : Option Value → Hp → Prop)  (i : Nat), Wp 20 101 (some (.ref i) :: ls) (st) h Q ↔ Wp 20 102 (some (.ref i) :: ls) (.ref i :: st) h Q) ∧
  (∀ (ls : Lo) (st : List Value) (h : Hp) (Q : Option Value → Hp → Prop), Wp 20 102 (ls) (st) h Q ↔ Wp 20 103 (ls) (.int (1) :: st) h Q) ∧
  (∀ (ls : Lo) (st : List Value) (h : Hp) (Q : Option Value → Hp → Prop), Wp 20 103 (ls) (st) h Q ↔ Wp 20 104 (ls) (.int (2) :: st) h Q) ∧
  (∀ (ls : Lo) (st : List Value) (n sl : Nat) (C Z : Nat → Nat) (I : Nat → Nat → Int32) (L : Nat → Nat → Int64) (R : Nat → Nat → Nat) (Q : Option Value → Hp → Prop) (x0 : Int32) (x1 : Int32) (i : Nat), C i = 4 → (Wp 20 104 (ls) (.int x1 :: .int x0 :: .ref i :: st) (n, sl, C, Z, I, L, R) Q ↔ (wsum st ≤ 8 ∧ Call 22 [some (.ref i), some (.int x0), some (.int x1)] (n, sl, C, Z, I, L, R) 20 107 ls st Q))) ∧
  (∀ (ls : Lo) (st : List Value) (h : Hp) (Q : Option Value → Hp → Prop) (a b : Int64), Wp 20 107 (ls) (.long b :: .long a :: st) h Q ↔ Wp 20 108 (ls) (.long (a + b) :: st) h Q) ∧
  (∀ (ls : Lo) (st : List Value) (n sl : Nat) (C Z : Nat → Nat) (I : Nat → Nat → Int32) (L : Nat → Nat → Int64) (R : Nat → Nat → Nat) (Q : Option Value → Hp → Prop) (x0 : Int32) (x1 : Int64) (i : Nat), C i = 4 → (Wp 20 108 (ls) (.long x1 :: .int x0 :: .ref i :: st) (n, sl, C, Z, I, L, R) Q ↔ (wsum st ≤ 8 ∧ Call 21 [some (.ref i), some (.int x0), some (.long x1), none] (n, sl, C, Z, I, L, R) 20 111 ls st Q))) := ⟨by intro ls st n sl C Z I L R Q i; exact e_get (g := 3) (s := 4) (ty := 2) d20_74 rfl rfl (inG_ne (by decide)),
  by intro ls st h Q; exact e_iconst d20_77 rfl,
  by intro ls st n sl C Z I L R Q i y; exact e_aald d20_78,
  by intro ls st h Q; exact e_iconst d20_79 rfl,
  by intro ls st n sl C Z I L R Q i y; exact e_lald d20_80,
  by intro ls st h Q a b; exact e_ladd d20_81,
  by intro ls st h Q a; exact e_lneg d20_82,
  by intro ls st n sl C Z I L R Q x0 x1 i hh; exact e_iv (k2 := 21) (c := 4) (as := [.int x0, .long x1]) d20_83 rfl (by decide) rfl rfl (by decide +kernel) (Nat.le_of_ble_eq_true rfl) rfl hh,
  by intro ls st h Q i; exact e_aload_n d20_86 rfl,
  by intro ls st h Q; exact e_iconst d20_87 rfl,
  by intro ls st h Q i; exact e_aload_n d20_88 rfl,
  by intro ls st h Q; exact e_iconst d20_89 rfl,
  by intro ls st h Q; exact e_iconst d20_90 rfl,
  by intro ls st n sl C Z I L R Q x0 x1 i hh; exact e_iv (k2 := 22) (c := 4) (as := [.int x0, .int x1]) d20_91 rfl (by decide) rfl rfl (by decide +kernel) (Nat.le_of_ble_eq_true rfl) rfl hh,
  by intro ls st h Q i; exact e_aload_n d20_94 rfl,
  by intro ls st h Q; exact e_iconst d20_95 rfl,
  by intro ls st h Q; exact e_iconst d20_96 rfl,
  by intro ls st n sl C Z I L R Q x0 x1 i hh; exact e_iv (k2 := 22) (c := 4) (as := [.int x0, .int x1]) d20_97 rfl (by decide) rfl rfl (by decide +kernel) (Nat.le_of_ble_eq_true rfl) rfl hh,
  by intro ls st h Q a b; exact e_ladd d20_100,
  by intro ls st h Q i; exact e_aload_n d20_101 rfl,
  by intro ls st h Q; exact e_iconst d20_102 rfl,
  by intro ls st h Q; exact e_iconst d20_103 rfl,
  by intro ls st n sl C Z I L R Q x0 x1 i hh; exact e_iv (k2 := 22) (c := 4) (as := [.int x0, .int x1]) d20_104 rfl (by decide) rfl rfl (by decide +kernel) (Nat.le_of_ble_eq_true rfl) rfl hh,
  by intro ls st h Q a b; exact e_ladd d20_107,
  by intro ls st n sl C Z I L R Q x0 x1 i hh; exact e_iv (k2 := 21) (c := 4) (as := [.int x0, .long x1]) d20_108 rfl (by decide) rfl rfl (by decide +kernel) (Nat.le_of_ble_eq_true rfl) rfl hh⟩
set_option maxRecDepth 20000 in
theorem S20_3 : (∀ (ls : Lo) (st : List Value) (h : Hp) (Q : Option Value → Hp → Prop)  (i : Nat), Wp 20 111 (some (.ref i) :: ls) (st) h Q ↔ Wp 20 112 (some (.ref i) :: ls) (.ref i :: st) h Q) ∧
  (∀ (ls : Lo) (st : List Value) (h : Hp) (Q : Option Value → Hp → Prop), Wp 20 112 (ls) (st) h Q ↔ Wp 20 113 (ls) (.int (3) :: st) h Q) ∧
  (∀ (ls : Lo) (st : List Value) (h : Hp) (Q : Option Value → Hp → Prop)  (i : Nat), Wp 20 113 (some (.ref i) :: ls) (st) h Q ↔ Wp 20 114 (some (.ref i) :: ls) (.ref i :: st) h Q) ∧
  (∀ (ls : Lo) (st : List Value) (n sl : Nat) (C Z : Nat → Nat) (I : Nat → Nat → Int32) (L : Nat → Nat → Int64) (R : Nat → Nat → Nat) (Q : Option Value → Hp → Prop) (i : Nat), Wp 20 114 (ls) (.ref i :: st) (n, sl, C, Z, I, L, R) Q ↔ (C i = 4 ∧ Wp 20 117 (ls) (.ref (R i 4) :: st) (n, sl, C, Z, I, L, R) Q)) ∧
  (∀ (ls : Lo) (st : List Value) (h : Hp) (Q : Option Value → Hp → Prop), Wp 20 117 (ls) (st) h Q ↔ Wp 20 118 (ls) (.int (0) :: st) h Q) ∧
  (∀ (ls : Lo) (st : List Value) (n sl : Nat) (C Z : Nat → Nat) (I : Nat → Nat → Int32) (L : Nat → Nat → Int64) (R : Nat → Nat → Nat) (Q : Option Value → Hp → Prop) (i : Nat) (y : Int32), Wp 20 118 (ls) (.int y :: .ref i :: st) (n, sl, C, Z, I, L, R) Q ↔ ((inb y (Z i) = true ∧ (C i = 23 ∨ C i = 24 ∨ C i = 25)) ∧ Wp 20 119 (ls) (.ref (R i (ix y)) :: st) (n, sl, C, Z, I, L, R) Q)) ∧
  (∀ (ls : Lo) (st : List Value) (h : Hp) (Q : Option Value → Hp → Prop)  (i : Nat), Wp 20 119 (some (.ref i) :: ls) (st) h Q ↔ Wp 20 120 (some (.ref i) :: ls) (.ref i :: st) h Q) ∧
  (∀ (ls : Lo) (st : List Value) (n sl : Nat) (C Z : Nat → Nat) (I : Nat → Nat → Int32) (L : Nat → Nat → Int64) (R : Nat → Nat → Nat) (Q : Option Value → Hp → Prop) (i : Nat), Wp 20 120 (ls) (.ref i :: st) (n, sl, C, Z, I, L, R) Q ↔ (C i = 4 ∧ Wp 20 123 (ls) (.ref (R i 4) :: st) (n, sl, C, Z, I, L, R) Q)) ∧
  (∀ (ls : Lo) (st : List Value) (h : Hp) (Q : Option Value → Hp → Prop), Wp 20 123 (ls) (st) h Q ↔ Wp 20 124 (ls) (.int (1) :: st) h Q) ∧
  (∀ (ls : Lo) (st : List Value) (n sl : Nat) (C Z : Nat → Nat) (I : Nat → Nat → Int32) (L : Nat → Nat → Int64) (R : Nat → Nat → Nat) (Q : Option Value → Hp → Prop) (i : Nat) (y : Int32), Wp 20 124 (ls) (.int y :: .ref i :: st) (n, sl, C, Z, I, L, R) Q ↔ ((inb y (Z i) = true ∧ (C i = 23 ∨ C i = 24 ∨ C i = 25)) ∧ Wp 20 125 (ls) (.ref (R i (ix y)) :: st) (n, sl, C, Z, I, L, R) Q)) ∧
  (∀ (ls : Lo) (st : List Value) (h : Hp) (Q : Option Value → Hp → Prop)  (i : Nat), Wp 20 125 (some (.ref i) :: ls) (st) h Q ↔ Wp 20 126 (some (.ref i) :: ls) (.ref i :: st) h Q) ∧
  (∀ (ls : Lo) (st : List Value) (n sl : Nat) (C Z : Nat → Nat) (I : Nat → Nat → Int32) (L : Nat → Nat → Int64) (R : Nat → Nat → Nat) (Q : Option Value → Hp → Prop) (i : Nat), Wp 20 126 (ls) (.ref i :: st) (n, sl, C, Z, I, L, R) Q ↔ (C i = 4 ∧ Wp 20 129 (ls) (.ref (R i 4) :: st) (n, sl, C, Z, I, L, R) Q)) ∧
  (∀ (ls : Lo) (st : List Value) (h : Hp) (Q : Option Value → Hp → Prop), Wp 20 129 (ls) (st) h Q ↔ Wp 20 130 (ls) (.int (2) :: st) h Q) ∧
  (∀ (ls : Lo) (st : List Value) (n sl : Nat) (C Z : Nat → Nat) (I : Nat → Nat → Int32) (L : Nat → Nat → Int64) (R : Nat → Nat → Nat) (Q : Option Value → Hp → Prop) (i : Nat) (y : Int32), Wp 20 130 (ls) (.int y :: .ref i :: st) (n, sl, C, Z, I, L, R) Q ↔ ((inb y (Z i) = true ∧ (C i = 23 ∨ C i = 24 ∨ C i = 25)) ∧ Wp 20 131 (ls) (.ref (R i (ix y)) :: st) (n, sl, C, Z, I, L, R) Q)) ∧
  (∀ (ls : Lo) (st : List Value) (h : Hp) (Q : Option Value → Hp → Prop) (x0 : Nat) (x1 : Nat) (x2 : Nat), Wp 20 131 (ls) (.ref x2 :: .ref x1 :: .ref x0 :: st) h Q ↔ (wsum st ≤ 8 ∧ Call 41 [some (.ref x0), some (.ref x1), some (.ref x2)] h 20 134 ls st Q)) ∧
  (∀ (ls : Lo) (st : List Value) (h : Hp) (Q : Option Value → Hp → Prop) (a : Int64), Wp 20 134 (ls) (.long a :: st) h Q ↔ Wp 20 135 (ls) (.long (-a) :: st) h Q) ∧
  (∀ (ls : Lo) (st : List Value) (n sl : Nat) (C Z : Nat → Nat) (I : Nat → Nat → Int32) (L : Nat → Nat → Int64) (R : Nat → Nat → Nat) (Q : Option Value → Hp → Prop) (x0 : Int32) (x1 : Int64) (i : Nat), C i = 4 → (Wp 20 135 (ls) (.long x1 :: .int x0 :: .ref i :: st) (n, sl, C, Z, I, L, R) Q ↔ (wsum st ≤ 8 ∧ Call 21 [some (.ref i), some (.int x0), some (.long x1), none] (n, sl, C, Z, I, L, R) 20 138 ls st Q))) ∧
  (∀ (ls : Lo) (h : Hp) (Q : Option Value → Hp → Prop), Wp 20 138 (ls) ([]) h Q ↔ Q none h) := ⟨by intro ls st h Q i; exact e_aload_n d20_111 rfl,
  by intro ls st h Q; exact e_iconst d20_112 rfl,
  by intro ls st h Q i; exact e_aload_n d20_113 rfl,
  by intro ls st n sl C Z I L R Q i; exact e_get (g := 3) (s := 4) (ty := 2) d20_114 rfl rfl (inG_ne (by decide)),
  by intro ls st h Q; exact e_iconst d20_117 rfl,
  by intro ls st n sl C Z I L R Q i y; exact e_aald d20_118,
  by intro ls st h Q i; exact e_aload_n d20_119 rfl,
  by intro ls st n sl C Z I L R Q i; exact e_get (g := 3) (s := 4) (ty := 2) d20_120 rfl rfl (inG_ne (by decide)),
  by intro ls st h Q; exact e_iconst d20_123 rfl,
  by intro ls st n sl C Z I L R Q i y; exact e_aald d20_124,
  by intro ls st h Q i; exact e_aload_n d20_125 rfl,
  by intro ls st n sl C Z I L R Q i; exact e_get (g := 3) (s := 4) (ty := 2) d20_126 rfl rfl (inG_ne (by decide)),
  by intro ls st h Q; exact e_iconst d20_129 rfl,
  by intro ls st n sl C Z I L R Q i y; exact e_aald d20_130,
  by intro ls st h Q x0 x1 x2; exact e_is (k2 := 41) (as := [.ref x0, .ref x1, .ref x2]) d20_131 rfl (by decide) rfl rfl (by decide +kernel) (Nat.le_of_ble_eq_true rfl) rfl,
  by intro ls st h Q a; exact e_lneg d20_134,
  by intro ls st n sl C Z I L R Q x0 x1 i hh; exact e_iv (k2 := 21) (c := 4) (as := [.int x0, .long x1]) d20_135 rfl (by decide) rfl rfl (by decide +kernel) (Nat.le_of_ble_eq_true rfl) rfl hh,
  by intros; exact e_rV d20_138 rfl⟩
theorem d21_0 : decode (byt 21) 0 = .ok (.iload_n 1, 1) := by decide +kernel
theorem d21_1 : decode (byt 21) 1 = .ok (.aload_n 0, 1) := by decide +kernel
theorem d21_2 : decode (byt 21) 2 = .ok (.getfield 14, 3) := by decide +kernel
theorem d21_5 : decode (byt 21) 5 = .ok (.getfield 81, 3) := by decide +kernel
theorem d21_8 : decode (byt 21) 8 = .ok (.if_icmp .gt 18, 3) := by decide +kernel
theorem d21_11 : decode (byt 21) 11 = .ok (.aload_n 0, 1) := by decide +kernel
theorem d21_12 : decode (byt 21) 12 = .ok (.getfield 28, 3) := by decide +kernel
theorem d21_15 : decode (byt 21) 15 = .ok (.aload_n 0, 1) := by decide +kernel
theorem d21_16 : decode (byt 21) 16 = .ok (.getfield 14, 3) := by decide +kernel
theorem d21_19 : decode (byt 21) 19 = .ok (.getfield 81, 3) := by decide +kernel
theorem d21_22 : decode (byt 21) 22 = .ok (.iload_n 1, 1) := by decide +kernel
theorem d21_23 : decode (byt 21) 23 = .ok (.isub, 1) := by decide +kernel
theorem d21_24 : decode (byt 21) 24 = .ok (.lload_n 2, 1) := by decide +kernel
theorem d21_25 : decode (byt 21) 25 = .ok (.lastore, 1) := by decide +kernel
theorem d21_26 : decode (byt 21) 26 = .ok (.return_, 1) := by decide +kernel
set_option maxRecDepth 20000 in
theorem S21_0 : (∀ (ls : Lo) (st : List Value) (h : Hp) (Q : Option Value → Hp → Prop) (l0 : Option Value) (x : Int32), Wp 21 0 (l0 :: some (.int x) :: ls) (st) h Q ↔ Wp 21 1 (l0 :: some (.int x) :: ls) (.int x :: st) h Q) ∧
  (∀ (ls : Lo) (st : List Value) (h : Hp) (Q : Option Value → Hp → Prop)  (i : Nat), Wp 21 1 (some (.ref i) :: ls) (st) h Q ↔ Wp 21 2 (some (.ref i) :: ls) (.ref i :: st) h Q) ∧
  (∀ (ls : Lo) (st : List Value) (n sl : Nat) (C Z : Nat → Nat) (I : Nat → Nat → Int32) (L : Nat → Nat → Int64) (R : Nat → Nat → Nat) (Q : Option Value → Hp → Prop) (i : Nat), Wp 21 2 (ls) (.ref i :: st) (n, sl, C, Z, I, L, R) Q ↔ (C i = 4 ∧ Wp 21 5 (ls) (.ref (R i 0) :: st) (n, sl, C, Z, I, L, R) Q)) ∧
  (∀ (ls : Lo) (st : List Value) (n sl : Nat) (C Z : Nat → Nat) (I : Nat → Nat → Int32) (L : Nat → Nat → Int64) (R : Nat → Nat → Nat) (Q : Option Value → Hp → Prop) (i : Nat), Wp 21 5 (ls) (.ref i :: st) (n, sl, C, Z, I, L, R) Q ↔ (inG 7 (C i) = true ∧ Wp 21 8 (ls) (.int (I i 1) :: st) (n, sl, C, Z, I, L, R) Q)) ∧
  (∀ (ls : Lo) (st : List Value) (h : Hp) (Q : Option Value → Hp → Prop) (x y : Int32), Wp 21 8 (ls) (.int y :: .int x :: st) h Q ↔ Br 21 26 11 ls st h Q (y < x)) ∧
  (∀ (ls : Lo) (st : List Value) (h : Hp) (Q : Option Value → Hp → Prop)  (i : Nat), Wp 21 11 (some (.ref i) :: ls) (st) h Q ↔ Wp 21 12 (some (.ref i) :: ls) (.ref i :: st) h Q) ∧
  (∀ (ls : Lo) (st : List Value) (n sl : Nat) (C Z : Nat → Nat) (I : Nat → Nat → Int32) (L : Nat → Nat → Int64) (R : Nat → Nat → Nat) (Q : Option Value → Hp → Prop) (i : Nat), Wp 21 12 (ls) (.ref i :: st) (n, sl, C, Z, I, L, R) Q ↔ (C i = 4 ∧ Wp 21 15 (ls) (.ref (R i 3) :: st) (n, sl, C, Z, I, L, R) Q)) ∧
  (∀ (ls : Lo) (st : List Value) (h : Hp) (Q : Option Value → Hp → Prop)  (i : Nat), Wp 21 15 (some (.ref i) :: ls) (st) h Q ↔ Wp 21 16 (some (.ref i) :: ls) (.ref i :: st) h Q) ∧
  (∀ (ls : Lo) (st : List Value) (n sl : Nat) (C Z : Nat → Nat) (I : Nat → Nat → Int32) (L : Nat → Nat → Int64) (R : Nat → Nat → Nat) (Q : Option Value → Hp → Prop) (i : Nat), Wp 21 16 (ls) (.ref i :: st) (n, sl, C, Z, I, L, R) Q ↔ (C i = 4 ∧ Wp 21 19 (ls) (.ref (R i 0) :: st) (n, sl, C, Z, I, L, R) Q)) ∧
  (∀ (ls : Lo) (st : List Value) (n sl : Nat) (C Z : Nat → Nat) (I : Nat → Nat → Int32) (L : Nat → Nat → Int64) (R : Nat → Nat → Nat) (Q : Option Value → Hp → Prop) (i : Nat), Wp 21 19 (ls) (.ref i :: st) (n, sl, C, Z, I, L, R) Q ↔ (inG 7 (C i) = true ∧ Wp 21 22 (ls) (.int (I i 1) :: st) (n, sl, C, Z, I, L, R) Q)) ∧
  (∀ (ls : Lo) (st : List Value) (h : Hp) (Q : Option Value → Hp → Prop) (l0 : Option Value) (x : Int32), Wp 21 22 (l0 :: some (.int x) :: ls) (st) h Q ↔ Wp 21 23 (l0 :: some (.int x) :: ls) (.int x :: st) h Q) ∧
  (∀ (ls : Lo) (st : List Value) (h : Hp) (Q : Option Value → Hp → Prop) (x y : Int32), Wp 21 23 (ls) (.int y :: .int x :: st) h Q ↔ Wp 21 24 (ls) (.int (x - y) :: st) h Q) ∧
  (∀ (ls : Lo) (st : List Value) (h : Hp) (Q : Option Value → Hp → Prop) (l0 l1 : Option Value) (a : Int64), Wp 21 24 (l0 :: l1 :: some (.long a) :: ls) (st) h Q ↔ Wp 21 25 (l0 :: l1 :: some (.long a) :: ls) (.long a :: st) h Q) ∧
  (∀ (ls : Lo) (st : List Value) (n sl : Nat) (C Z : Nat → Nat) (I : Nat → Nat → Int32) (L : Nat → Nat → Int64) (R : Nat → Nat → Nat) (Q : Option Value → Hp → Prop) (i : Nat) (y : Int32) (a : Int64), Wp 21 25 (ls) (.long a :: .int y :: .ref i :: st) (n, sl, C, Z, I, L, R) Q ↔ ((inb y (Z i) = true ∧ C i = 22) ∧ Wp 21 26 (ls) (st) (n, sl, C, Z, I, u2 L i (ix y) a, R) Q)) ∧
  (∀ (ls : Lo) (h : Hp) (Q : Option Value → Hp → Prop), Wp 21 26 (ls) ([]) h Q ↔ Q none h) := ⟨by intro ls st h Q l0 x; exact e_iload_n d21_0 rfl,
  by intro ls st h Q i; exact e_aload_n d21_1 rfl,
  by intro ls st n sl C Z I L R Q i; exact e_get (g := 3) (s := 0) (ty := 2) d21_2 rfl rfl (inG_ne (by decide)),
  by intro ls st n sl C Z I L R Q i; exact e_get (g := 7) (s := 1) (ty := 0) d21_5 rfl rfl rfl,
  by intro ls st h Q x y; exact e_ic d21_8 (by decide) c_gt,
  by intro ls st h Q i; exact e_aload_n d21_11 rfl,
  by intro ls st n sl C Z I L R Q i; exact e_get (g := 3) (s := 3) (ty := 2) d21_12 rfl rfl (inG_ne (by decide)),
  by intro ls st h Q i; exact e_aload_n d21_15 rfl,
  by intro ls st n sl C Z I L R Q i; exact e_get (g := 3) (s := 0) (ty := 2) d21_16 rfl rfl (inG_ne (by decide)),
  by intro ls st n sl C Z I L R Q i; exact e_get (g := 7) (s := 1) (ty := 0) d21_19 rfl rfl rfl,
  by intro ls st h Q l0 x; exact e_iload_n d21_22 rfl,
  by intro ls st h Q x y; exact e_isub d21_23,
  by intro ls st h Q l0 l1 a; exact e_lload_n d21_24 rfl,
  by intro ls st n sl C Z I L R Q i y a; exact e_last d21_25,
  by intros; exact e_rV d21_26 rfl⟩
theorem d22_0 : decode (byt 22) 0 = .ok (.aload_n 0, 1) := by decide +kernel
theorem d22_1 : decode (byt 22) 1 = .ok (.getfield 32, 3) := by decide +kernel
theorem d22_4 : decode (byt 22) 4 = .ok (.iload_n 1, 1) := by decide +kernel
theorem d22_5 : decode (byt 22) 5 = .ok (.aaload, 1) := by decide +kernel
theorem d22_6 : decode (byt 22) 6 = .ok (.iload_n 1, 1) := by decide +kernel
theorem d22_7 : decode (byt 22) 7 = .ok (.laload, 1) := by decide +kernel
theorem d22_8 : decode (byt 22) 8 = .ok (.aload_n 0, 1) := by decide +kernel
theorem d22_9 : decode (byt 22) 9 = .ok (.getfield 32, 3) := by decide +kernel
theorem d22_12 : decode (byt 22) 12 = .ok (.iload_n 2, 1) := by decide +kernel
theorem d22_13 : decode (byt 22) 13 = .ok (.aaload, 1) := by decide +kernel
theorem d22_14 : decode (byt 22) 14 = .ok (.iload_n 2, 1) := by decide +kernel
theorem d22_15 : decode (byt 22) 15 = .ok (.laload, 1) := by decide +kernel
theorem d22_16 : decode (byt 22) 16 = .ok (.lmul, 1) := by decide +kernel
theorem d22_17 : decode (byt 22) 17 = .ok (.aload_n 0, 1) := by decide +kernel
theorem d22_18 : decode (byt 22) 18 = .ok (.getfield 32, 3) := by decide +kernel
theorem d22_21 : decode (byt 22) 21 = .ok (.iload_n 1, 1) := by decide +kernel
theorem d22_22 : decode (byt 22) 22 = .ok (.aaload, 1) := by decide +kernel
theorem d22_23 : decode (byt 22) 23 = .ok (.iload_n 2, 1) := by decide +kernel
theorem d22_24 : decode (byt 22) 24 = .ok (.laload, 1) := by decide +kernel
theorem d22_25 : decode (byt 22) 25 = .ok (.aload_n 0, 1) := by decide +kernel
theorem d22_26 : decode (byt 22) 26 = .ok (.getfield 32, 3) := by decide +kernel
theorem d22_29 : decode (byt 22) 29 = .ok (.iload_n 2, 1) := by decide +kernel
theorem d22_30 : decode (byt 22) 30 = .ok (.aaload, 1) := by decide +kernel
theorem d22_31 : decode (byt 22) 31 = .ok (.iload_n 1, 1) := by decide +kernel
theorem d22_32 : decode (byt 22) 32 = .ok (.laload, 1) := by decide +kernel
theorem d22_33 : decode (byt 22) 33 = .ok (.lmul, 1) := by decide +kernel
theorem d22_34 : decode (byt 22) 34 = .ok (.lsub, 1) := by decide +kernel
theorem d22_35 : decode (byt 22) 35 = .ok (.lreturn, 1) := by decide +kernel
set_option maxRecDepth 20000 in
theorem S22_0 : (∀ (ls : Lo) (st : List Value) (h : Hp) (Q : Option Value → Hp → Prop)  (i : Nat), Wp 22 0 (some (.ref i) :: ls) (st) h Q ↔ Wp 22 1 (some (.ref i) :: ls) (.ref i :: st) h Q) ∧
  (∀ (ls : Lo) (st : List Value) (n sl : Nat) (C Z : Nat → Nat) (I : Nat → Nat → Int32) (L : Nat → Nat → Int64) (R : Nat → Nat → Nat) (Q : Option Value → Hp → Prop) (i : Nat), Wp 22 1 (ls) (.ref i :: st) (n, sl, C, Z, I, L, R) Q ↔ (C i = 4 ∧ Wp 22 4 (ls) (.ref (R i 4) :: st) (n, sl, C, Z, I, L, R) Q)) ∧
  (∀ (ls : Lo) (st : List Value) (h : Hp) (Q : Option Value → Hp → Prop) (l0 : Option Value) (x : Int32), Wp 22 4 (l0 :: some (.int x) :: ls) (st) h Q ↔ Wp 22 5 (l0 :: some (.int x) :: ls) (.int x :: st) h Q) ∧
  (∀ (ls : Lo) (st : List Value) (n sl : Nat) (C Z : Nat → Nat) (I : Nat → Nat → Int32) (L : Nat → Nat → Int64) (R : Nat → Nat → Nat) (Q : Option Value → Hp → Prop) (i : Nat) (y : Int32), Wp 22 5 (ls) (.int y :: .ref i :: st) (n, sl, C, Z, I, L, R) Q ↔ ((inb y (Z i) = true ∧ (C i = 23 ∨ C i = 24 ∨ C i = 25)) ∧ Wp 22 6 (ls) (.ref (R i (ix y)) :: st) (n, sl, C, Z, I, L, R) Q)) ∧
  (∀ (ls : Lo) (st : List Value) (h : Hp) (Q : Option Value → Hp → Prop) (l0 : Option Value) (x : Int32), Wp 22 6 (l0 :: some (.int x) :: ls) (st) h Q ↔ Wp 22 7 (l0 :: some (.int x) :: ls) (.int x :: st) h Q) ∧
  (∀ (ls : Lo) (st : List Value) (n sl : Nat) (C Z : Nat → Nat) (I : Nat → Nat → Int32) (L : Nat → Nat → Int64) (R : Nat → Nat → Nat) (Q : Option Value → Hp → Prop) (i : Nat) (y : Int32), Wp 22 7 (ls) (.int y :: .ref i :: st) (n, sl, C, Z, I, L, R) Q ↔ ((inb y (Z i) = true ∧ C i = 22) ∧ Wp 22 8 (ls) (.long (L i (ix y)) :: st) (n, sl, C, Z, I, L, R) Q)) ∧
  (∀ (ls : Lo) (st : List Value) (h : Hp) (Q : Option Value → Hp → Prop)  (i : Nat), Wp 22 8 (some (.ref i) :: ls) (st) h Q ↔ Wp 22 9 (some (.ref i) :: ls) (.ref i :: st) h Q) ∧
  (∀ (ls : Lo) (st : List Value) (n sl : Nat) (C Z : Nat → Nat) (I : Nat → Nat → Int32) (L : Nat → Nat → Int64) (R : Nat → Nat → Nat) (Q : Option Value → Hp → Prop) (i : Nat), Wp 22 9 (ls) (.ref i :: st) (n, sl, C, Z, I, L, R) Q ↔ (C i = 4 ∧ Wp 22 12 (ls) (.ref (R i 4) :: st) (n, sl, C, Z, I, L, R) Q)) ∧
  (∀ (ls : Lo) (st : List Value) (h : Hp) (Q : Option Value → Hp → Prop) (l0 l1 : Option Value) (x : Int32), Wp 22 12 (l0 :: l1 :: some (.int x) :: ls) (st) h Q ↔ Wp 22 13 (l0 :: l1 :: some (.int x) :: ls) (.int x :: st) h Q) ∧
  (∀ (ls : Lo) (st : List Value) (n sl : Nat) (C Z : Nat → Nat) (I : Nat → Nat → Int32) (L : Nat → Nat → Int64) (R : Nat → Nat → Nat) (Q : Option Value → Hp → Prop) (i : Nat) (y : Int32), Wp 22 13 (ls) (.int y :: .ref i :: st) (n, sl, C, Z, I, L, R) Q ↔ ((inb y (Z i) = true ∧ (C i = 23 ∨ C i = 24 ∨ C i = 25)) ∧ Wp 22 14 (ls) (.ref (R i (ix y)) :: st) (n, sl, C, Z, I, L, R) Q)) ∧
  (∀ (ls : Lo) (st : List Value) (h : Hp) (Q : Option Value → Hp → Prop) (l0 l1 : Option Value) (x : Int32), Wp 22 14 (l0 :: l1 :: some (.int x) :: ls) (st) h Q ↔ Wp 22 15 (l0 :: l1 :: some (.int x) :: ls) (.int x :: st) h Q) ∧
  (∀ (ls : Lo) (st : List Value) (n sl : Nat) (C Z : Nat → Nat) (I : Nat → Nat → Int32) (L : Nat → Nat → Int64) (R : Nat → Nat → Nat) (Q : Option Value → Hp → Prop) (i : Nat) (y : Int32), Wp 22 15 (ls) (.int y :: .ref i :: st) (n, sl, C, Z, I, L, R) Q ↔ ((inb y (Z i) = true ∧ C i = 22) ∧ Wp 22 16 (ls) (.long (L i (ix y)) :: st) (n, sl, C, Z, I, L, R) Q)) ∧
  (∀ (ls : Lo) (st : List Value) (h : Hp) (Q : Option Value → Hp → Prop) (a b : Int64), Wp 22 16 (ls) (.long b :: .long a :: st) h Q ↔ Wp 22 17 (ls) (.long (a * b) :: st) h Q) ∧
  (∀ (ls : Lo) (st : List Value) (h : Hp) (Q : Option Value → Hp → Prop)  (i : Nat), Wp 22 17 (some (.ref i) :: ls) (st) h Q ↔ Wp 22 18 (some (.ref i) :: ls) (.ref i :: st) h Q) ∧
  (∀ (ls : Lo) (st : List Value) (n sl : Nat) (C Z : Nat → Nat) (I : Nat → Nat → Int32) (L : Nat → Nat → Int64) (R : Nat → Nat → Nat) (Q : Option Value → Hp → Prop) (i : Nat), Wp 22 18 (ls) (.ref i :: st) (n, sl, C, Z, I, L, R) Q ↔ (C i = 4 ∧ Wp 22 21 (ls) (.ref (R i 4) :: st) (n, sl, C, Z, I, L, R) Q)) ∧
  (∀ (ls : Lo) (st : List Value) (h : Hp) (Q : Option Value → Hp → Prop) (l0 : Option Value) (x : Int32), Wp 22 21 (l0 :: some (.int x) :: ls) (st) h Q ↔ Wp 22 22 (l0 :: some (.int x) :: ls) (.int x :: st) h Q) ∧
  (∀ (ls : Lo) (st : List Value) (n sl : Nat) (C Z : Nat → Nat) (I : Nat → Nat → Int32) (L : Nat → Nat → Int64) (R : Nat → Nat → Nat) (Q : Option Value → Hp → Prop) (i : Nat) (y : Int32), Wp 22 22 (ls) (.int y :: .ref i :: st) (n, sl, C, Z, I, L, R) Q ↔ ((inb y (Z i) = true ∧ (C i = 23 ∨ C i = 24 ∨ C i = 25)) ∧ Wp 22 23 (ls) (.ref (R i (ix y)) :: st) (n, sl, C, Z, I, L, R) Q)) ∧
  (∀ (ls : Lo) (st : List Value) (h : Hp) (Q : Option Value → Hp → Prop) (l0 l1 : Option Value) (x : Int32), Wp 22 23 (l0 :: l1 :: some (.int x) :: ls) (st) h Q ↔ Wp 22 24 (l0 :: l1 :: some (.int x) :: ls) (.int x :: st) h Q) ∧
  (∀ (ls : Lo) (st : List Value) (n sl : Nat) (C Z : Nat → Nat) (I : Nat → Nat → Int32) (L : Nat → Nat → Int64) (R : Nat → Nat → Nat) (Q : Option Value → Hp → Prop) (i : Nat) (y : Int32), Wp 22 24 (ls) (.int y :: .ref i :: st) (n, sl, C, Z, I, L, R) Q ↔ ((inb y (Z i) = true ∧ C i = 22) ∧ Wp 22 25 (ls) (.long (L i (ix y)) :: st) (n, sl, C, Z, I, L, R) Q)) ∧
  (∀ (ls : Lo) (st : List Value) (h : Hp) (Q : Option Value → Hp → Prop)  (i : Nat), Wp 22 25 (some (.ref i) :: ls) (st) h Q ↔ Wp 22 26 (some (.ref i) :: ls) (.ref i :: st) h Q) ∧
  (∀ (ls : Lo) (st : List Value) (n sl : Nat) (C Z : Nat → Nat) (I : Nat → Nat → Int32) (L : Nat → Nat → Int64) (R : Nat → Nat → Nat) (Q : Option Value → Hp → Prop) (i : Nat), Wp 22 26 (ls) (.ref i :: st) (n, sl, C, Z, I, L, R) Q ↔ (C i = 4 ∧ Wp 22 29 (ls) (.ref (R i 4) :: st) (n, sl, C, Z, I, L, R) Q)) ∧
  (∀ (ls : Lo) (st : List Value) (h : Hp) (Q : Option Value → Hp → Prop) (l0 l1 : Option Value) (x : Int32), Wp 22 29 (l0 :: l1 :: some (.int x) :: ls) (st) h Q ↔ Wp 22 30 (l0 :: l1 :: some (.int x) :: ls) (.int x :: st) h Q) ∧
  (∀ (ls : Lo) (st : List Value) (n sl : Nat) (C Z : Nat → Nat) (I : Nat → Nat → Int32) (L : Nat → Nat → Int64) (R : Nat → Nat → Nat) (Q : Option Value → Hp → Prop) (i : Nat) (y : Int32), Wp 22 30 (ls) (.int y :: .ref i :: st) (n, sl, C, Z, I, L, R) Q ↔ ((inb y (Z i) = true ∧ (C i = 23 ∨ C i = 24 ∨ C i = 25)) ∧ Wp 22 31 (ls) (.ref (R i (ix y)) :: st) (n, sl, C, Z, I, L, R) Q)) ∧
  (∀ (ls : Lo) (st : List Value) (h : Hp) (Q : Option Value → Hp → Prop) (l0 : Option Value) (x : Int32), Wp 22 31 (l0 :: some (.int x) :: ls) (st) h Q ↔ Wp 22 32 (l0 :: some (.int x) :: ls) (.int x :: st) h Q) ∧
  (∀ (ls : Lo) (st : List Value) (n sl : Nat) (C Z : Nat → Nat) (I : Nat → Nat → Int32) (L : Nat → Nat → Int64) (R : Nat → Nat → Nat) (Q : Option Value → Hp → Prop) (i : Nat) (y : Int32), Wp 22 32 (ls) (.int y :: .ref i :: st) (n, sl, C, Z, I, L, R) Q ↔ ((inb y (Z i) = true ∧ C i = 22) ∧ Wp 22 33 (ls) (.long (L i (ix y)) :: st) (n, sl, C, Z, I, L, R) Q)) := ⟨by intro ls st h Q i; exact e_aload_n d22_0 rfl,
  by intro ls st n sl C Z I L R Q i; exact e_get (g := 3) (s := 4) (ty := 2) d22_1 rfl rfl (inG_ne (by decide)),
  by intro ls st h Q l0 x; exact e_iload_n d22_4 rfl,
  by intro ls st n sl C Z I L R Q i y; exact e_aald d22_5,
  by intro ls st h Q l0 x; exact e_iload_n d22_6 rfl,
  by intro ls st n sl C Z I L R Q i y; exact e_lald d22_7,
  by intro ls st h Q i; exact e_aload_n d22_8 rfl,
  by intro ls st n sl C Z I L R Q i; exact e_get (g := 3) (s := 4) (ty := 2) d22_9 rfl rfl (inG_ne (by decide)),
  by intro ls st h Q l0 l1 x; exact e_iload_n d22_12 rfl,
  by intro ls st n sl C Z I L R Q i y; exact e_aald d22_13,
  by intro ls st h Q l0 l1 x; exact e_iload_n d22_14 rfl,
  by intro ls st n sl C Z I L R Q i y; exact e_lald d22_15,
  by intro ls st h Q a b; exact e_lmul d22_16,
  by intro ls st h Q i; exact e_aload_n d22_17 rfl,
  by intro ls st n sl C Z I L R Q i; exact e_get (g := 3) (s := 4) (ty := 2) d22_18 rfl rfl (inG_ne (by decide)),
  by intro ls st h Q l0 x; exact e_iload_n d22_21 rfl,
  by intro ls st n sl C Z I L R Q i y; exact e_aald d22_22,
  by intro ls st h Q l0 l1 x; exact e_iload_n d22_23 rfl,
  by intro ls st n sl C Z I L R Q i y; exact e_lald d22_24,
  by intro ls st h Q i; exact e_aload_n d22_25 rfl,
  by intro ls st n sl C Z I L R Q i; exact e_get (g := 3) (s := 4) (ty := 2) d22_26 rfl rfl (inG_ne (by decide)),
  by intro ls st h Q l0 l1 x; exact e_iload_n d22_29 rfl,
  by intro ls st n sl C Z I L R Q i y; exact e_aald d22_30,
  by intro ls st h Q l0 x; exact e_iload_n d22_31 rfl,
  by intro ls st n sl C Z I L R Q i y; exact e_lald d22_32⟩
set_option maxRecDepth 20000 in
theorem S22_1 : (∀ (ls : Lo) (st : List Value) (h : Hp) (Q : Option Value → Hp → Prop) (a b : Int64), Wp 22 33 (ls) (.long b :: .long a :: st) h Q ↔ Wp 22 34 (ls) (.long (a * b) :: st) h Q) ∧
  (∀ (ls : Lo) (st : List Value) (h : Hp) (Q : Option Value → Hp → Prop) (a b : Int64), Wp 22 34 (ls) (.long b :: .long a :: st) h Q ↔ Wp 22 35 (ls) (.long (a - b) :: st) h Q) ∧
  (∀ (ls : Lo) (h : Hp) (Q : Option Value → Hp → Prop) (a : Int64), Wp 22 35 (ls) ([.long a]) h Q ↔ Q (some (.long a)) h) := ⟨by intro ls st h Q a b; exact e_lmul d22_33,
  by intro ls st h Q a b; exact e_lsub d22_34,
  by intros; exact e_rL d22_35 rfl⟩
theorem d23_0 : decode (byt 23) 0 = .ok (.lconst 0, 1) := by decide +kernel
theorem d23_1 : decode (byt 23) 1 = .ok (.lstore_n 2, 1) := by decide +kernel
theorem d23_2 : decode (byt 23) 2 = .ok (.iconst 0, 1) := by decide +kernel
theorem d23_3 : decode (byt 23) 3 = .ok (.istore 4, 2) := by decide +kernel
theorem d23_5 : decode (byt 23) 5 = .ok (.iload 4, 2) := by decide +kernel
theorem d23_7 : decode (byt 23) 7 = .ok (.iconst 3, 1) := by decide +kernel
theorem d23_8 : decode (byt 23) 8 = .ok (.if_icmp .ge 33, 3) := by decide +kernel
theorem d23_11 : decode (byt 23) 11 = .ok (.lload_n 2, 1) := by decide +kernel
theorem d23_12 : decode (byt 23) 12 = .ok (.aload_n 0, 1) := by decide +kernel
theorem d23_13 : decode (byt 23) 13 = .ok (.getfield 14, 3) := by decide +kernel
theorem d23_16 : decode (byt 23) 16 = .ok (.getfield 51, 3) := by decide +kernel
theorem d23_19 : decode (byt 23) 19 = .ok (.iload 4, 2) := by decide +kernel
theorem d23_21 : decode (byt 23) 21 = .ok (.iaload, 1) := by decide +kernel
theorem d23_22 : decode (byt 23) 22 = .ok (.i2l, 1) := by decide +kernel
theorem d23_23 : decode (byt 23) 23 = .ok (.aload_n 0, 1) := by decide +kernel
theorem d23_24 : decode (byt 23) 24 = .ok (.getfield 22, 3) := by decide +kernel
theorem d23_27 : decode (byt 23) 27 = .ok (.iload_n 1, 1) := by decide +kernel
theorem d23_28 : decode (byt 23) 28 = .ok (.aaload, 1) := by decide +kernel
theorem d23_29 : decode (byt 23) 29 = .ok (.iload 4, 2) := by decide +kernel
theorem d23_31 : decode (byt 23) 31 = .ok (.laload, 1) := by decide +kernel
theorem d23_32 : decode (byt 23) 32 = .ok (.lmul, 1) := by decide +kernel
theorem d23_33 : decode (byt 23) 33 = .ok (.ladd, 1) := by decide +kernel
theorem d23_34 : decode (byt 23) 34 = .ok (.lstore_n 2, 1) := by decide +kernel
theorem d23_35 : decode (byt 23) 35 = .ok (.iinc 4 1, 3) := by decide +kernel
theorem d23_38 : decode (byt 23) 38 = .ok (.goto (-33), 3) := by decide +kernel
theorem d23_41 : decode (byt 23) 41 = .ok (.lload_n 2, 1) := by decide +kernel
theorem d23_42 : decode (byt 23) 42 = .ok (.lreturn, 1) := by decide +kernel
set_option maxRecDepth 20000 in
theorem S23_0 : (∀ (ls : Lo) (st : List Value) (h : Hp) (Q : Option Value → Hp → Prop), Wp 23 0 (ls) (st) h Q ↔ Wp 23 1 (ls) (.long 0 :: st) h Q) ∧
  (∀ (ls : Lo) (st : List Value) (h : Hp) (Q : Option Value → Hp → Prop) (l0 l1 l2 l3 : Option Value) (a : Int64), Wp 23 1 (l0 :: l1 :: l2 :: l3 :: ls) (.long a :: st) h Q ↔ Wp 23 2 (l0 :: clr l1 :: some (.long a) :: none :: ls) (st) h Q) ∧
  (∀ (ls : Lo) (st : List Value) (h : Hp) (Q : Option Value → Hp → Prop), Wp 23 2 (ls) (st) h Q ↔ Wp 23 3 (ls) (.int (0) :: st) h Q) ∧
  (∀ (ls : Lo) (st : List Value) (h : Hp) (Q : Option Value → Hp → Prop) (l0 l1 l2 l3 l4 : Option Value) (x : Int32), Wp 23 3 (l0 :: l1 :: l2 :: l3 :: l4 :: ls) (.int x :: st) h Q ↔ Wp 23 5 (l0 :: l1 :: l2 :: clr l3 :: some (.int x) :: ls) (st) h Q) ∧
  (∀ (ls : Lo) (st : List Value) (h : Hp) (Q : Option Value → Hp → Prop) (l0 l1 l2 l3 : Option Value) (x : Int32), Wp 23 5 (l0 :: l1 :: l2 :: l3 :: some (.int x) :: ls) (st) h Q ↔ Wp 23 7 (l0 :: l1 :: l2 :: l3 :: some (.int x) :: ls) (.int x :: st) h Q) ∧
  (∀ (ls : Lo) (st : List Value) (h : Hp) (Q : Option Value → Hp → Prop), Wp 23 7 (ls) (st) h Q ↔ Wp 23 8 (ls) (.int (3) :: st) h Q) ∧
  (∀ (ls : Lo) (st : List Value) (h : Hp) (Q : Option Value → Hp → Prop) (x y : Int32), Wp 23 8 (ls) (.int y :: .int x :: st) h Q ↔ Br 23 41 11 ls st h Q (y ≤ x)) ∧
  (∀ (ls : Lo) (st : List Value) (h : Hp) (Q : Option Value → Hp → Prop) (l0 l1 : Option Value) (a : Int64), Wp 23 11 (l0 :: l1 :: some (.long a) :: ls) (st) h Q ↔ Wp 23 12 (l0 :: l1 :: some (.long a) :: ls) (.long a :: st) h Q) ∧
  (∀ (ls : Lo) (st : List Value) (h : Hp) (Q : Option Value → Hp → Prop)  (i : Nat), Wp 23 12 (some (.ref i) :: ls) (st) h Q ↔ Wp 23 13 (some (.ref i) :: ls) (.ref i :: st) h Q) ∧
  (∀ (ls : Lo) (st : List Value) (n sl : Nat) (C Z : Nat → Nat) (I : Nat → Nat → Int32) (L : Nat → Nat → Int64) (R : Nat → Nat → Nat) (Q : Option Value → Hp → Prop) (i : Nat), Wp 23 13 (ls) (.ref i :: st) (n, sl, C, Z, I, L, R) Q ↔ (C i = 4 ∧ Wp 23 16 (ls) (.ref (R i 0) :: st) (n, sl, C, Z, I, L, R) Q)) ∧
  (∀ (ls : Lo) (st : List Value) (n sl : Nat) (C Z : Nat → Nat) (I : Nat → Nat → Int32) (L : Nat → Nat → Int64) (R : Nat → Nat → Nat) (Q : Option Value → Hp → Prop) (i : Nat), Wp 23 16 (ls) (.ref i :: st) (n, sl, C, Z, I, L, R) Q ↔ (inG 7 (C i) = true ∧ Wp 23 19 (ls) (.ref (R i 5) :: st) (n, sl, C, Z, I, L, R) Q)) ∧
  (∀ (ls : Lo) (st : List Value) (h : Hp) (Q : Option Value → Hp → Prop) (l0 l1 l2 l3 : Option Value) (x : Int32), Wp 23 19 (l0 :: l1 :: l2 :: l3 :: some (.int x) :: ls) (st) h Q ↔ Wp 23 21 (l0 :: l1 :: l2 :: l3 :: some (.int x) :: ls) (.int x :: st) h Q) ∧
  (∀ (ls : Lo) (st : List Value) (n sl : Nat) (C Z : Nat → Nat) (I : Nat → Nat → Int32) (L : Nat → Nat → Int64) (R : Nat → Nat → Nat) (Q : Option Value → Hp → Prop) (i : Nat) (y : Int32), Wp 23 21 (ls) (.int y :: .ref i :: st) (n, sl, C, Z, I, L, R) Q ↔ ((inb y (Z i) = true ∧ C i = 21) ∧ Wp 23 22 (ls) (.int (I i (ix y)) :: st) (n, sl, C, Z, I, L, R) Q)) ∧
  (∀ (ls : Lo) (st : List Value) (h : Hp) (Q : Option Value → Hp → Prop) (x : Int32), Wp 23 22 (ls) (.int x :: st) h Q ↔ Wp 23 23 (ls) (.long x.toInt64 :: st) h Q) ∧
  (∀ (ls : Lo) (st : List Value) (h : Hp) (Q : Option Value → Hp → Prop)  (i : Nat), Wp 23 23 (some (.ref i) :: ls) (st) h Q ↔ Wp 23 24 (some (.ref i) :: ls) (.ref i :: st) h Q) ∧
  (∀ (ls : Lo) (st : List Value) (n sl : Nat) (C Z : Nat → Nat) (I : Nat → Nat → Int32) (L : Nat → Nat → Int64) (R : Nat → Nat → Nat) (Q : Option Value → Hp → Prop) (i : Nat), Wp 23 24 (ls) (.ref i :: st) (n, sl, C, Z, I, L, R) Q ↔ (C i = 4 ∧ Wp 23 27 (ls) (.ref (R i 1) :: st) (n, sl, C, Z, I, L, R) Q)) ∧
  (∀ (ls : Lo) (st : List Value) (h : Hp) (Q : Option Value → Hp → Prop) (l0 : Option Value) (x : Int32), Wp 23 27 (l0 :: some (.int x) :: ls) (st) h Q ↔ Wp 23 28 (l0 :: some (.int x) :: ls) (.int x :: st) h Q) ∧
  (∀ (ls : Lo) (st : List Value) (n sl : Nat) (C Z : Nat → Nat) (I : Nat → Nat → Int32) (L : Nat → Nat → Int64) (R : Nat → Nat → Nat) (Q : Option Value → Hp → Prop) (i : Nat) (y : Int32), Wp 23 28 (ls) (.int y :: .ref i :: st) (n, sl, C, Z, I, L, R) Q ↔ ((inb y (Z i) = true ∧ (C i = 23 ∨ C i = 24 ∨ C i = 25)) ∧ Wp 23 29 (ls) (.ref (R i (ix y)) :: st) (n, sl, C, Z, I, L, R) Q)) ∧
  (∀ (ls : Lo) (st : List Value) (h : Hp) (Q : Option Value → Hp → Prop) (l0 l1 l2 l3 : Option Value) (x : Int32), Wp 23 29 (l0 :: l1 :: l2 :: l3 :: some (.int x) :: ls) (st) h Q ↔ Wp 23 31 (l0 :: l1 :: l2 :: l3 :: some (.int x) :: ls) (.int x :: st) h Q) ∧
  (∀ (ls : Lo) (st : List Value) (n sl : Nat) (C Z : Nat → Nat) (I : Nat → Nat → Int32) (L : Nat → Nat → Int64) (R : Nat → Nat → Nat) (Q : Option Value → Hp → Prop) (i : Nat) (y : Int32), Wp 23 31 (ls) (.int y :: .ref i :: st) (n, sl, C, Z, I, L, R) Q ↔ ((inb y (Z i) = true ∧ C i = 22) ∧ Wp 23 32 (ls) (.long (L i (ix y)) :: st) (n, sl, C, Z, I, L, R) Q)) ∧
  (∀ (ls : Lo) (st : List Value) (h : Hp) (Q : Option Value → Hp → Prop) (a b : Int64), Wp 23 32 (ls) (.long b :: .long a :: st) h Q ↔ Wp 23 33 (ls) (.long (a * b) :: st) h Q) ∧
  (∀ (ls : Lo) (st : List Value) (h : Hp) (Q : Option Value → Hp → Prop) (a b : Int64), Wp 23 33 (ls) (.long b :: .long a :: st) h Q ↔ Wp 23 34 (ls) (.long (a + b) :: st) h Q) ∧
  (∀ (ls : Lo) (st : List Value) (h : Hp) (Q : Option Value → Hp → Prop) (l0 l1 l2 l3 : Option Value) (a : Int64), Wp 23 34 (l0 :: l1 :: l2 :: l3 :: ls) (.long a :: st) h Q ↔ Wp 23 35 (l0 :: clr l1 :: some (.long a) :: none :: ls) (st) h Q) ∧
  (∀ (ls : Lo) (st : List Value) (h : Hp) (Q : Option Value → Hp → Prop) (l0 l1 l2 l3 : Option Value) (x : Int32), Wp 23 35 (l0 :: l1 :: l2 :: l3 :: some (.int x) :: ls) (st) h Q ↔ Wp 23 38 (l0 :: l1 :: l2 :: clr l3 :: some (.int (x + (1))) :: ls) (st) h Q) ∧
  (∀ (ls : Lo) (st : List Value) (h : Hp) (Q : Option Value → Hp → Prop), Wp 23 38 (ls) (st) h Q ↔ Wp 23 5 (ls) (st) h Q) := ⟨by intro ls st h Q; exact e_lconst d23_0 rfl,
  by intro ls st h Q l0 l1 l2 l3 a; exact e_lstore_n d23_1 rfl,
  by intro ls st h Q; exact e_iconst d23_2 rfl,
  by intro ls st h Q l0 l1 l2 l3 l4 x; exact e_istore d23_3 rfl,
  by intro ls st h Q l0 l1 l2 l3 x; exact e_iload d23_5 rfl,
  by intro ls st h Q; exact e_iconst d23_7 rfl,
  by intro ls st h Q x y; exact e_ic d23_8 (by decide) c_ge,
  by intro ls st h Q l0 l1 a; exact e_lload_n d23_11 rfl,
  by intro ls st h Q i; exact e_aload_n d23_12 rfl,
  by intro ls st n sl C Z I L R Q i; exact e_get (g := 3) (s := 0) (ty := 2) d23_13 rfl rfl (inG_ne (by decide)),
  by intro ls st n sl C Z I L R Q i; exact e_get (g := 7) (s := 5) (ty := 2) d23_16 rfl rfl rfl,
  by intro ls st h Q l0 l1 l2 l3 x; exact e_iload d23_19 rfl,
  by intro ls st n sl C Z I L R Q i y; exact e_iald d23_21,
  by intro ls st h Q x; exact e_i2l d23_22,
  by intro ls st h Q i; exact e_aload_n d23_23 rfl,
  by intro ls st n sl C Z I L R Q i; exact e_get (g := 3) (s := 1) (ty := 2) d23_24 rfl rfl (inG_ne (by decide)),
  by intro ls st h Q l0 x; exact e_iload_n d23_27 rfl,
  by intro ls st n sl C Z I L R Q i y; exact e_aald d23_28,
  by intro ls st h Q l0 l1 l2 l3 x; exact e_iload d23_29 rfl,
  by intro ls st n sl C Z I L R Q i y; exact e_lald d23_31,
  by intro ls st h Q a b; exact e_lmul d23_32,
  by intro ls st h Q a b; exact e_ladd d23_33,
  by intro ls st h Q l0 l1 l2 l3 a; exact e_lstore_n d23_34 rfl,
  by intro ls st h Q l0 l1 l2 l3 x; exact e_iinc d23_35 rfl rfl rfl,
  by intro ls st h Q; exact e_goto d23_38 (by decide)⟩
set_option maxRecDepth 20000 in
theorem S23_1 : (∀ (ls : Lo) (st : List Value) (h : Hp) (Q : Option Value → Hp → Prop) (l0 l1 : Option Value) (a : Int64), Wp 23 41 (l0 :: l1 :: some (.long a) :: ls) (st) h Q ↔ Wp 23 42 (l0 :: l1 :: some (.long a) :: ls) (.long a :: st) h Q) ∧
  (∀ (ls : Lo) (h : Hp) (Q : Option Value → Hp → Prop) (a : Int64), Wp 23 42 (ls) ([.long a]) h Q ↔ Q (some (.long a)) h) := ⟨by intro ls st h Q l0 l1 a; exact e_lload_n d23_41 rfl,
  by intros; exact e_rL d23_42 rfl⟩
theorem d24_0 : decode (byt 24) 0 = .ok (.aload_n 0, 1) := by decide +kernel
theorem d24_1 : decode (byt 24) 1 = .ok (.getfield 14, 3) := by decide +kernel
theorem d24_4 : decode (byt 24) 4 = .ok (.getfield 85, 3) := by decide +kernel
theorem d24_7 : decode (byt 24) 7 = .ok (.iconst 0, 1) := by decide +kernel
theorem d24_8 : decode (byt 24) 8 = .ok (.iaload, 1) := by decide +kernel
theorem d24_9 : decode (byt 24) 9 = .ok (.i2l, 1) := by decide +kernel
theorem d24_10 : decode (byt 24) 10 = .ok (.aload_n 0, 1) := by decide +kernel
theorem d24_11 : decode (byt 24) 11 = .ok (.getfield 28, 3) := by decide +kernel
theorem d24_14 : decode (byt 24) 14 = .ok (.iload_n 1, 1) := by decide +kernel
theorem d24_15 : decode (byt 24) 15 = .ok (.laload, 1) := by decide +kernel
theorem d24_16 : decode (byt 24) 16 = .ok (.lmul, 1) := by decide +kernel
theorem d24_17 : decode (byt 24) 17 = .ok (.lstore_n 2, 1) := by decide +kernel
theorem d24_18 : decode (byt 24) 18 = .ok (.iconst 1, 1) := by decide +kernel
theorem d24_19 : decode (byt 24) 19 = .ok (.istore 4, 2) := by decide +kernel
theorem d24_21 : decode (byt 24) 21 = .ok (.iload 4, 2) := by decide +kernel
theorem d24_23 : decode (byt 24) 23 = .ok (.aload_n 0, 1) := by decide +kernel
theorem d24_24 : decode (byt 24) 24 = .ok (.getfield 14, 3) := by decide +kernel
theorem d24_27 : decode (byt 24) 27 = .ok (.getfield 81, 3) := by decide +kernel
theorem d24_30 : decode (byt 24) 30 = .ok (.iload_n 1, 1) := by decide +kernel
theorem d24_31 : decode (byt 24) 31 = .ok (.isub, 1) := by decide +kernel
theorem d24_32 : decode (byt 24) 32 = .ok (.if_icmp .gt 39, 3) := by decide +kernel
theorem d24_35 : decode (byt 24) 35 = .ok (.lload_n 2, 1) := by decide +kernel
theorem d24_36 : decode (byt 24) 36 = .ok (.aload_n 0, 1) := by decide +kernel
theorem d24_37 : decode (byt 24) 37 = .ok (.getfield 28, 3) := by decide +kernel
theorem d24_40 : decode (byt 24) 40 = .ok (.iload_n 1, 1) := by decide +kernel
theorem d24_41 : decode (byt 24) 41 = .ok (.iload 4, 2) := by decide +kernel
theorem d24_43 : decode (byt 24) 43 = .ok (.iadd, 1) := by decide +kernel
theorem d24_44 : decode (byt 24) 44 = .ok (.laload, 1) := by decide +kernel
theorem d24_45 : decode (byt 24) 45 = .ok (.aload_n 0, 1) := by decide +kernel
theorem d24_46 : decode (byt 24) 46 = .ok (.getfield 14, 3) := by decide +kernel
theorem d24_49 : decode (byt 24) 49 = .ok (.getfield 88, 3) := by decide +kernel
theorem d24_52 : decode (byt 24) 52 = .ok (.i2l, 1) := by decide +kernel
theorem d24_53 : decode (byt 24) 53 = .ok (.lmul, 1) := by decide +kernel
theorem d24_54 : decode (byt 24) 54 = .ok (.aload_n 0, 1) := by decide +kernel
theorem d24_55 : decode (byt 24) 55 = .ok (.iload 4, 2) := by decide +kernel
theorem d24_57 : decode (byt 24) 57 = .ok (.iconst 1, 1) := by decide +kernel
theorem d24_58 : decode (byt 24) 58 = .ok (.isub, 1) := by decide +kernel
theorem d24_59 : decode (byt 24) 59 = .ok (.invokevirtual 91, 3) := by decide +kernel
theorem d24_62 : decode (byt 24) 62 = .ok (.lmul, 1) := by decide +kernel
theorem d24_63 : decode (byt 24) 63 = .ok (.ladd, 1) := by decide +kernel
theorem d24_64 : decode (byt 24) 64 = .ok (.lstore_n 2, 1) := by decide +kernel
theorem d24_65 : decode (byt 24) 65 = .ok (.iinc 4 1, 3) := by decide +kernel
theorem d24_68 : decode (byt 24) 68 = .ok (.goto (-47), 3) := by decide +kernel
theorem d24_71 : decode (byt 24) 71 = .ok (.lload_n 2, 1) := by decide +kernel
theorem d24_72 : decode (byt 24) 72 = .ok (.lreturn, 1) := by decide +kernel
set_option maxRecDepth 20000 in
theorem S24_0 : (∀ (ls : Lo) (st : List Value) (h : Hp) (Q : Option Value → Hp → Prop)  (i : Nat), Wp 24 0 (some (.ref i) :: ls) (st) h Q ↔ Wp 24 1 (some (.ref i) :: ls) (.ref i :: st) h Q) ∧
  (∀ (ls : Lo) (st : List Value) (n sl : Nat) (C Z : Nat → Nat) (I : Nat → Nat → Int32) (L : Nat → Nat → Int64) (R : Nat → Nat → Nat) (Q : Option Value → Hp → Prop) (i : Nat), Wp 24 1 (ls) (.ref i :: st) (n, sl, C, Z, I, L, R) Q ↔ (C i = 4 ∧ Wp 24 4 (ls) (.ref (R i 0) :: st) (n, sl, C, Z, I, L, R) Q)) ∧
  (∀ (ls : Lo) (st : List Value) (n sl : Nat) (C Z : Nat → Nat) (I : Nat → Nat → Int32) (L : Nat → Nat → Int64) (R : Nat → Nat → Nat) (Q : Option Value → Hp → Prop) (i : Nat), Wp 24 4 (ls) (.ref i :: st) (n, sl, C, Z, I, L, R) Q ↔ (inG 7 (C i) = true ∧ Wp 24 7 (ls) (.ref (R i 6) :: st) (n, sl, C, Z, I, L, R) Q)) ∧
  (∀ (ls : Lo) (st : List Value) (h : Hp) (Q : Option Value → Hp → Prop), Wp 24 7 (ls) (st) h Q ↔ Wp 24 8 (ls) (.int (0) :: st) h Q) ∧
  (∀ (ls : Lo) (st : List Value) (n sl : Nat) (C Z : Nat → Nat) (I : Nat → Nat → Int32) (L : Nat → Nat → Int64) (R : Nat → Nat → Nat) (Q : Option Value → Hp → Prop) (i : Nat) (y : Int32), Wp 24 8 (ls) (.int y :: .ref i :: st) (n, sl, C, Z, I, L, R) Q ↔ ((inb y (Z i) = true ∧ C i = 21) ∧ Wp 24 9 (ls) (.int (I i (ix y)) :: st) (n, sl, C, Z, I, L, R) Q)) ∧
  (∀ (ls : Lo) (st : List Value) (h : Hp) (Q : Option Value → Hp → Prop) (x : Int32), Wp 24 9 (ls) (.int x :: st) h Q ↔ Wp 24 10 (ls) (.long x.toInt64 :: st) h Q) ∧
  (∀ (ls : Lo) (st : List Value) (h : Hp) (Q : Option Value → Hp → Prop)  (i : Nat), Wp 24 10 (some (.ref i) :: ls) (st) h Q ↔ Wp 24 11 (some (.ref i) :: ls) (.ref i :: st) h Q) ∧
  (∀ (ls : Lo) (st : List Value) (n sl : Nat) (C Z : Nat → Nat) (I : Nat → Nat → Int32) (L : Nat → Nat → Int64) (R : Nat → Nat → Nat) (Q : Option Value → Hp → Prop) (i : Nat), Wp 24 11 (ls) (.ref i :: st) (n, sl, C, Z, I, L, R) Q ↔ (C i = 4 ∧ Wp 24 14 (ls) (.ref (R i 3) :: st) (n, sl, C, Z, I, L, R) Q)) ∧
  (∀ (ls : Lo) (st : List Value) (h : Hp) (Q : Option Value → Hp → Prop) (l0 : Option Value) (x : Int32), Wp 24 14 (l0 :: some (.int x) :: ls) (st) h Q ↔ Wp 24 15 (l0 :: some (.int x) :: ls) (.int x :: st) h Q) ∧
  (∀ (ls : Lo) (st : List Value) (n sl : Nat) (C Z : Nat → Nat) (I : Nat → Nat → Int32) (L : Nat → Nat → Int64) (R : Nat → Nat → Nat) (Q : Option Value → Hp → Prop) (i : Nat) (y : Int32), Wp 24 15 (ls) (.int y :: .ref i :: st) (n, sl, C, Z, I, L, R) Q ↔ ((inb y (Z i) = true ∧ C i = 22) ∧ Wp 24 16 (ls) (.long (L i (ix y)) :: st) (n, sl, C, Z, I, L, R) Q)) ∧
  (∀ (ls : Lo) (st : List Value) (h : Hp) (Q : Option Value → Hp → Prop) (a b : Int64), Wp 24 16 (ls) (.long b :: .long a :: st) h Q ↔ Wp 24 17 (ls) (.long (a * b) :: st) h Q) ∧
  (∀ (ls : Lo) (st : List Value) (h : Hp) (Q : Option Value → Hp → Prop) (l0 l1 l2 l3 : Option Value) (a : Int64), Wp 24 17 (l0 :: l1 :: l2 :: l3 :: ls) (.long a :: st) h Q ↔ Wp 24 18 (l0 :: clr l1 :: some (.long a) :: none :: ls) (st) h Q) ∧
  (∀ (ls : Lo) (st : List Value) (h : Hp) (Q : Option Value → Hp → Prop), Wp 24 18 (ls) (st) h Q ↔ Wp 24 19 (ls) (.int (1) :: st) h Q) ∧
  (∀ (ls : Lo) (st : List Value) (h : Hp) (Q : Option Value → Hp → Prop) (l0 l1 l2 l3 l4 : Option Value) (x : Int32), Wp 24 19 (l0 :: l1 :: l2 :: l3 :: l4 :: ls) (.int x :: st) h Q ↔ Wp 24 21 (l0 :: l1 :: l2 :: clr l3 :: some (.int x) :: ls) (st) h Q) ∧
  (∀ (ls : Lo) (st : List Value) (h : Hp) (Q : Option Value → Hp → Prop) (l0 l1 l2 l3 : Option Value) (x : Int32), Wp 24 21 (l0 :: l1 :: l2 :: l3 :: some (.int x) :: ls) (st) h Q ↔ Wp 24 23 (l0 :: l1 :: l2 :: l3 :: some (.int x) :: ls) (.int x :: st) h Q) ∧
  (∀ (ls : Lo) (st : List Value) (h : Hp) (Q : Option Value → Hp → Prop)  (i : Nat), Wp 24 23 (some (.ref i) :: ls) (st) h Q ↔ Wp 24 24 (some (.ref i) :: ls) (.ref i :: st) h Q) ∧
  (∀ (ls : Lo) (st : List Value) (n sl : Nat) (C Z : Nat → Nat) (I : Nat → Nat → Int32) (L : Nat → Nat → Int64) (R : Nat → Nat → Nat) (Q : Option Value → Hp → Prop) (i : Nat), Wp 24 24 (ls) (.ref i :: st) (n, sl, C, Z, I, L, R) Q ↔ (C i = 4 ∧ Wp 24 27 (ls) (.ref (R i 0) :: st) (n, sl, C, Z, I, L, R) Q)) ∧
  (∀ (ls : Lo) (st : List Value) (n sl : Nat) (C Z : Nat → Nat) (I : Nat → Nat → Int32) (L : Nat → Nat → Int64) (R : Nat → Nat → Nat) (Q : Option Value → Hp → Prop) (i : Nat), Wp 24 27 (ls) (.ref i :: st) (n, sl, C, Z, I, L, R) Q ↔ (inG 7 (C i) = true ∧ Wp 24 30 (ls) (.int (I i 1) :: st) (n, sl, C, Z, I, L, R) Q)) ∧
  (∀ (ls : Lo) (st : List Value) (h : Hp) (Q : Option Value → Hp → Prop) (l0 : Option Value) (x : Int32), Wp 24 30 (l0 :: some (.int x) :: ls) (st) h Q ↔ Wp 24 31 (l0 :: some (.int x) :: ls) (.int x :: st) h Q) ∧
  (∀ (ls : Lo) (st : List Value) (h : Hp) (Q : Option Value → Hp → Prop) (x y : Int32), Wp 24 31 (ls) (.int y :: .int x :: st) h Q ↔ Wp 24 32 (ls) (.int (x - y) :: st) h Q) ∧
  (∀ (ls : Lo) (st : List Value) (h : Hp) (Q : Option Value → Hp → Prop) (x y : Int32), Wp 24 32 (ls) (.int y :: .int x :: st) h Q ↔ Br 24 71 35 ls st h Q (y < x)) ∧
  (∀ (ls : Lo) (st : List Value) (h : Hp) (Q : Option Value → Hp → Prop) (l0 l1 : Option Value) (a : Int64), Wp 24 35 (l0 :: l1 :: some (.long a) :: ls) (st) h Q ↔ Wp 24 36 (l0 :: l1 :: some (.long a) :: ls) (.long a :: st) h Q) ∧
  (∀ (ls : Lo) (st : List Value) (h : Hp) (Q : Option Value → Hp → Prop)  (i : Nat), Wp 24 36 (some (.ref i) :: ls) (st) h Q ↔ Wp 24 37 (some (.ref i) :: ls) (.ref i :: st) h Q) ∧
  (∀ (ls : Lo) (st : List Value) (n sl : Nat) (C Z : Nat → Nat) (I : Nat → Nat → Int32) (L : Nat → Nat → Int64) (R : Nat → Nat → Nat) (Q : Option Value → Hp → Prop) (i : Nat), Wp 24 37 (ls) (.ref i :: st) (n, sl, C, Z, I, L, R) Q ↔ (C i = 4 ∧ Wp 24 40 (ls) (.ref (R i 3) :: st) (n, sl, C, Z, I, L, R) Q)) ∧
  (∀ (ls : Lo) (st : List Value) (h : Hp) (Q : Option Value → Hp → Prop) (l0 : Option Value) (x : Int32), Wp 24 40 (l0 :: some (.int x) :: ls) (st) h Q ↔ Wp 24 41 (l0 :: some (.int x) :: ls) (.int x :: st) h Q) := ⟨by intro ls st h Q i; exact e_aload_n d24_0 rfl,
  by intro ls st n sl C Z I L R Q i; exact e_get (g := 3) (s := 0) (ty := 2) d24_1 rfl rfl (inG_ne (by decide)),
  by intro ls st n sl C Z I L R Q i; exact e_get (g := 7) (s := 6) (ty := 2) d24_4 rfl rfl rfl,
  by intro ls st h Q; exact e_iconst d24_7 rfl,
  by intro ls st n sl C Z I L R Q i y; exact e_iald d24_8,
  by intro ls st h Q x; exact e_i2l d24_9,
  by intro ls st h Q i; exact e_aload_n d24_10 rfl,
  by intro ls st n sl C Z I L R Q i; exact e_get (g := 3) (s := 3) (ty := 2) d24_11 rfl rfl (inG_ne (by decide)),
  by intro ls st h Q l0 x; exact e_iload_n d24_14 rfl,
  by intro ls st n sl C Z I L R Q i y; exact e_lald d24_15,
  by intro ls st h Q a b; exact e_lmul d24_16,
  by intro ls st h Q l0 l1 l2 l3 a; exact e_lstore_n d24_17 rfl,
  by intro ls st h Q; exact e_iconst d24_18 rfl,
  by intro ls st h Q l0 l1 l2 l3 l4 x; exact e_istore d24_19 rfl,
  by intro ls st h Q l0 l1 l2 l3 x; exact e_iload d24_21 rfl,
  by intro ls st h Q i; exact e_aload_n d24_23 rfl,
  by intro ls st n sl C Z I L R Q i; exact e_get (g := 3) (s := 0) (ty := 2) d24_24 rfl rfl (inG_ne (by decide)),
  by intro ls st n sl C Z I L R Q i; exact e_get (g := 7) (s := 1) (ty := 0) d24_27 rfl rfl rfl,
  by intro ls st h Q l0 x; exact e_iload_n d24_30 rfl,
  by intro ls st h Q x y; exact e_isub d24_31,
  by intro ls st h Q x y; exact e_ic d24_32 (by decide) c_gt,
  by intro ls st h Q l0 l1 a; exact e_lload_n d24_35 rfl,
  by intro ls st h Q i; exact e_aload_n d24_36 rfl,
  by intro ls st n sl C Z I L R Q i; exact e_get (g := 3) (s := 3) (ty := 2) d24_37 rfl rfl (inG_ne (by decide)),
  by intro ls st h Q l0 x; exact e_iload_n d24_40 rfl⟩
set_option maxRecDepth 20000 in
theorem S24_1 : (∀ (ls : Lo) (st : List Value) (h : Hp) (Q : Option Value → Hp → Prop) (l0 l1 l2 l3 : Option Value) (x : Int32), Wp 24 41 (l0 :: l1 :: l2 :: l3 :: some (.int x) :: ls) (st) h Q ↔ Wp 24 43 (l0 :: l1 :: l2 :: l3 :: some (.int x) :: ls) (.int x :: st) h Q) ∧
  (∀ (ls : Lo) (st : List Value) (h : Hp) (Q : Option Value → Hp → Prop) (x y : Int32), Wp 24 43 (ls) (.int y :: .int x :: st) h Q ↔ Wp 24 44 (ls) (.int (x + y) :: st) h Q) ∧
  (∀ (ls : Lo) (st : List Value) (n sl : Nat) (C Z : Nat → Nat) (I : Nat → Nat → Int32) (L : Nat → Nat → Int64) (R : Nat → Nat → Nat) (Q : Option Value → Hp → Prop) (i : Nat) (y : Int32), Wp 24 44 (ls) (.int y :: .ref i :: st) (n, sl, C, Z, I, L, R) Q ↔ ((inb y (Z i) = true ∧ C i = 22) ∧ Wp 24 45 (ls) (.long (L i (ix y)) :: st) (n, sl, C, Z, I, L, R) Q)) ∧
  (∀ (ls : Lo) (st : List Value) (h : Hp) (Q : Option Value → Hp → Prop)  (i : Nat), Wp 24 45 (some (.ref i) :: ls) (st) h Q ↔ Wp 24 46 (some (.ref i) :: ls) (.ref i :: st) h Q) ∧
  (∀ (ls : Lo) (st : List Value) (n sl : Nat) (C Z : Nat → Nat) (I : Nat → Nat → Int32) (L : Nat → Nat → Int64) (R : Nat → Nat → Nat) (Q : Option Value → Hp → Prop) (i : Nat), Wp 24 46 (ls) (.ref i :: st) (n, sl, C, Z, I, L, R) Q ↔ (C i = 4 ∧ Wp 24 49 (ls) (.ref (R i 0) :: st) (n, sl, C, Z, I, L, R) Q)) ∧
  (∀ (ls : Lo) (st : List Value) (n sl : Nat) (C Z : Nat → Nat) (I : Nat → Nat → Int32) (L : Nat → Nat → Int64) (R : Nat → Nat → Nat) (Q : Option Value → Hp → Prop) (i : Nat), Wp 24 49 (ls) (.ref i :: st) (n, sl, C, Z, I, L, R) Q ↔ (inG 7 (C i) = true ∧ Wp 24 52 (ls) (.int (I i 2) :: st) (n, sl, C, Z, I, L, R) Q)) ∧
  (∀ (ls : Lo) (st : List Value) (h : Hp) (Q : Option Value → Hp → Prop) (x : Int32), Wp 24 52 (ls) (.int x :: st) h Q ↔ Wp 24 53 (ls) (.long x.toInt64 :: st) h Q) ∧
  (∀ (ls : Lo) (st : List Value) (h : Hp) (Q : Option Value → Hp → Prop) (a b : Int64), Wp 24 53 (ls) (.long b :: .long a :: st) h Q ↔ Wp 24 54 (ls) (.long (a * b) :: st) h Q) ∧
  (∀ (ls : Lo) (st : List Value) (h : Hp) (Q : Option Value → Hp → Prop)  (i : Nat), Wp 24 54 (some (.ref i) :: ls) (st) h Q ↔ Wp 24 55 (some (.ref i) :: ls) (.ref i :: st) h Q) ∧
  (∀ (ls : Lo) (st : List Value) (h : Hp) (Q : Option Value → Hp → Prop) (l0 l1 l2 l3 : Option Value) (x : Int32), Wp 24 55 (l0 :: l1 :: l2 :: l3 :: some (.int x) :: ls) (st) h Q ↔ Wp 24 57 (l0 :: l1 :: l2 :: l3 :: some (.int x) :: ls) (.int x :: st) h Q) ∧
  (∀ (ls : Lo) (st : List Value) (h : Hp) (Q : Option Value → Hp → Prop), Wp 24 57 (ls) (st) h Q ↔ Wp 24 58 (ls) (.int (1) :: st) h Q) ∧
  (∀ (ls : Lo) (st : List Value) (h : Hp) (Q : Option Value → Hp → Prop) (x y : Int32), Wp 24 58 (ls) (.int y :: .int x :: st) h Q ↔ Wp 24 59 (ls) (.int (x - y) :: st) h Q) ∧
  (∀ (ls : Lo) (st : List Value) (n sl : Nat) (C Z : Nat → Nat) (I : Nat → Nat → Int32) (L : Nat → Nat → Int64) (R : Nat → Nat → Nat) (Q : Option Value → Hp → Prop) (x0 : Int32) (i : Nat), C i = 4 → (Wp 24 59 (ls) (.int x0 :: .ref i :: st) (n, sl, C, Z, I, L, R) Q ↔ (wsum st ≤ 8 ∧ Call 23 [some (.ref i), some (.int x0), none, none, none] (n, sl, C, Z, I, L, R) 24 62 ls st Q))) ∧
  (∀ (ls : Lo) (st : List Value) (h : Hp) (Q : Option Value → Hp → Prop) (a b : Int64), Wp 24 62 (ls) (.long b :: .long a :: st) h Q ↔ Wp 24 63 (ls) (.long (a * b) :: st) h Q) ∧
  (∀ (ls : Lo) (st : List Value) (h : Hp) (Q : Option Value → Hp → Prop) (a b : Int64), Wp 24 63 (ls) (.long b :: .long a :: st) h Q ↔ Wp 24 64 (ls) (.long (a + b) :: st) h Q) ∧
  (∀ (ls : Lo) (st : List Value) (h : Hp) (Q : Option Value → Hp → Prop) (l0 l1 l2 l3 : Option Value) (a : Int64), Wp 24 64 (l0 :: l1 :: l2 :: l3 :: ls) (.long a :: st) h Q ↔ Wp 24 65 (l0 :: clr l1 :: some (.long a) :: none :: ls) (st) h Q) ∧
  (∀ (ls : Lo) (st : List Value) (h : Hp) (Q : Option Value → Hp → Prop) (l0 l1 l2 l3 : Option Value) (x : Int32), Wp 24 65 (l0 :: l1 :: l2 :: l3 :: some (.int x) :: ls) (st) h Q ↔ Wp 24 68 (l0 :: l1 :: l2 :: clr l3 :: some (.int (x + (1))) :: ls) (st) h Q) ∧
  (∀ (ls : Lo) (st : List Value) (h : Hp) (Q : Option Value → Hp → Prop), Wp 24 68 (ls) (st) h Q ↔ Wp 24 21 (ls) (st) h Q) ∧
  (∀ (ls : Lo) (st : List Value) (h : Hp) (Q : Option Value → Hp → Prop) (l0 l1 : Option Value) (a : Int64), Wp 24 71 (l0 :: l1 :: some (.long a) :: ls) (st) h Q ↔ Wp 24 72 (l0 :: l1 :: some (.long a) :: ls) (.long a :: st) h Q) ∧
  (∀ (ls : Lo) (h : Hp) (Q : Option Value → Hp → Prop) (a : Int64), Wp 24 72 (ls) ([.long a]) h Q ↔ Q (some (.long a)) h) := ⟨by intro ls st h Q l0 l1 l2 l3 x; exact e_iload d24_41 rfl,
  by intro ls st h Q x y; exact e_iadd d24_43,
  by intro ls st n sl C Z I L R Q i y; exact e_lald d24_44,
  by intro ls st h Q i; exact e_aload_n d24_45 rfl,
  by intro ls st n sl C Z I L R Q i; exact e_get (g := 3) (s := 0) (ty := 2) d24_46 rfl rfl (inG_ne (by decide)),
  by intro ls st n sl C Z I L R Q i; exact e_get (g := 7) (s := 2) (ty := 0) d24_49 rfl rfl rfl,
  by intro ls st h Q x; exact e_i2l d24_52,
  by intro ls st h Q a b; exact e_lmul d24_53,
  by intro ls st h Q i; exact e_aload_n d24_54 rfl,
  by intro ls st h Q l0 l1 l2 l3 x; exact e_iload d24_55 rfl,
  by intro ls st h Q; exact e_iconst d24_57 rfl,
  by intro ls st h Q x y; exact e_isub d24_58,
  by intro ls st n sl C Z I L R Q x0 i hh; exact e_iv (k2 := 23) (c := 4) (as := [.int x0]) d24_59 rfl (by decide) rfl rfl (by decide +kernel) (Nat.le_of_ble_eq_true rfl) rfl hh,
  by intro ls st h Q a b; exact e_lmul d24_62,
  by intro ls st h Q a b; exact e_ladd d24_63,
  by intro ls st h Q l0 l1 l2 l3 a; exact e_lstore_n d24_64 rfl,
  by intro ls st h Q l0 l1 l2 l3 x; exact e_iinc d24_65 rfl rfl rfl,
  by intro ls st h Q; exact e_goto d24_68 (by decide),
  by intro ls st h Q l0 l1 a; exact e_lload_n d24_71 rfl,
  by intros; exact e_rL d24_72 rfl⟩
theorem d25_0 : decode (byt 25) 0 = .ok (.aload_n 0, 1) := by decide +kernel
theorem d25_1 : decode (byt 25) 1 = .ok (.getfield 14, 3) := by decide +kernel
theorem d25_4 : decode (byt 25) 4 = .ok (.instanceof 95, 3) := by decide +kernel
theorem d25_7 : decode (byt 25) 7 = .ok (.ifCond .eq 10, 3) := by decide +kernel
theorem d25_10 : decode (byt 25) 10 = .ok (.aload_n 0, 1) := by decide +kernel
theorem d25_11 : decode (byt 25) 11 = .ok (.invokevirtual 97, 3) := by decide +kernel
theorem d25_14 : decode (byt 25) 14 = .ok (.goto 7, 3) := by decide +kernel
theorem d25_17 : decode (byt 25) 17 = .ok (.aload_n 0, 1) := by decide +kernel
theorem d25_18 : decode (byt 25) 18 = .ok (.invokevirtual 101, 3) := by decide +kernel
theorem d25_21 : decode (byt 25) 21 = .ok (.ireturn, 1) := by decide +kernel
set_option maxRecDepth 20000 in
theorem S25_0 : (∀ (ls : Lo) (st : List Value) (h : Hp) (Q : Option Value → Hp → Prop)  (i : Nat), Wp 25 0 (some (.ref i) :: ls) (st) h Q ↔ Wp 25 1 (some (.ref i) :: ls) (.ref i :: st) h Q) ∧
  (∀ (ls : Lo) (st : List Value) (n sl : Nat) (C Z : Nat → Nat) (I : Nat → Nat → Int32) (L : Nat → Nat → Int64) (R : Nat → Nat → Nat) (Q : Option Value → Hp → Prop) (i : Nat), Wp 25 1 (ls) (.ref i :: st) (n, sl, C, Z, I, L, R) Q ↔ (C i = 4 ∧ Wp 25 4 (ls) (.ref (R i 0) :: st) (n, sl, C, Z, I, L, R) Q)) ∧
  (∀ (ls : Lo) (st : List Value) (n sl : Nat) (C Z : Nat → Nat) (I : Nat → Nat → Int32) (L : Nat → Nat → Int64) (R : Nat → Nat → Nat) (Q : Option Value → Hp → Prop) (i : Nat), Wp 25 4 (ls) (.ref i :: st) (n, sl, C, Z, I, L, R) Q ↔ (inG 7 (C i) = true ∧ Wp 25 7 (ls) (.int (if isa (C i) 1 = true then 1 else 0) :: st) (n, sl, C, Z, I, L, R) Q)) ∧
  (∀ (ls : Lo) (st : List Value) (h : Hp) (Q : Option Value → Hp → Prop) (x : Int32), Wp 25 7 (ls) (.int x :: st) h Q ↔ Br 25 17 10 ls st h Q (x = 0)) ∧
  (∀ (ls : Lo) (st : List Value) (h : Hp) (Q : Option Value → Hp → Prop)  (i : Nat), Wp 25 10 (some (.ref i) :: ls) (st) h Q ↔ Wp 25 11 (some (.ref i) :: ls) (.ref i :: st) h Q) ∧
  (∀ (ls : Lo) (st : List Value) (n sl : Nat) (C Z : Nat → Nat) (I : Nat → Nat → Int32) (L : Nat → Nat → Int64) (R : Nat → Nat → Nat) (Q : Option Value → Hp → Prop)  (i : Nat), C i = 4 → (Wp 25 11 (ls) (.ref i :: st) (n, sl, C, Z, I, L, R) Q ↔ (wsum st ≤ 8 ∧ Call 26 [some (.ref i), none] (n, sl, C, Z, I, L, R) 25 14 ls st Q))) ∧
  (∀ (ls : Lo) (st : List Value) (h : Hp) (Q : Option Value → Hp → Prop), Wp 25 14 (ls) (st) h Q ↔ Wp 25 21 (ls) (st) h Q) ∧
  (∀ (ls : Lo) (st : List Value) (h : Hp) (Q : Option Value → Hp → Prop)  (i : Nat), Wp 25 17 (some (.ref i) :: ls) (st) h Q ↔ Wp 25 18 (some (.ref i) :: ls) (.ref i :: st) h Q) ∧
  (∀ (ls : Lo) (st : List Value) (n sl : Nat) (C Z : Nat → Nat) (I : Nat → Nat → Int32) (L : Nat → Nat → Int64) (R : Nat → Nat → Nat) (Q : Option Value → Hp → Prop)  (i : Nat), C i = 4 → (Wp 25 18 (ls) (.ref i :: st) (n, sl, C, Z, I, L, R) Q ↔ (wsum st ≤ 8 ∧ Call 27 [some (.ref i), none, none, none, none, none, none] (n, sl, C, Z, I, L, R) 25 21 ls st Q))) ∧
  (∀ (ls : Lo) (h : Hp) (Q : Option Value → Hp → Prop) (x : Int32), Wp 25 21 (ls) ([.int x]) h Q ↔ ((x = 0 ∨ x = 1) ∧ Q (some (.int x)) h)) := ⟨by intro ls st h Q i; exact e_aload_n d25_0 rfl,
  by intro ls st n sl C Z I L R Q i; exact e_get (g := 3) (s := 0) (ty := 2) d25_1 rfl rfl (inG_ne (by decide)),
  by intro ls st n sl C Z I L R Q i; exact e_io (p := 488) (c := 1) d25_4 rfl (by decide),
  by intro ls st h Q x; exact e_if d25_7 (by decide) c_eq,
  by intro ls st h Q i; exact e_aload_n d25_10 rfl,
  by intro ls st n sl C Z I L R Q i hh; exact e_iv (k2 := 26) (c := 4) (as := []) d25_11 rfl (by decide) rfl rfl (by decide +kernel) (Nat.le_of_ble_eq_true rfl) rfl hh,
  by intro ls st h Q; exact e_goto d25_14 (by decide),
  by intro ls st h Q i; exact e_aload_n d25_17 rfl,
  by intro ls st n sl C Z I L R Q i hh; exact e_iv (k2 := 27) (c := 4) (as := []) d25_18 rfl (by decide) rfl rfl (by decide +kernel) (Nat.le_of_ble_eq_true rfl) rfl hh,
  by intros; exact e_rZ d25_21 rfl⟩
theorem d26_0 : decode (byt 26) 0 = .ok (.iconst 0, 1) := by decide +kernel
theorem d26_1 : decode (byt 26) 1 = .ok (.istore_n 1, 1) := by decide +kernel
theorem d26_2 : decode (byt 26) 2 = .ok (.iload_n 1, 1) := by decide +kernel
theorem d26_3 : decode (byt 26) 3 = .ok (.aload_n 0, 1) := by decide +kernel
theorem d26_4 : decode (byt 26) 4 = .ok (.getfield 14, 3) := by decide +kernel
theorem d26_7 : decode (byt 26) 7 = .ok (.getfield 81, 3) := by decide +kernel
theorem d26_10 : decode (byt 26) 10 = .ok (.if_icmp .ge 22, 3) := by decide +kernel
theorem d26_13 : decode (byt 26) 13 = .ok (.aload_n 0, 1) := by decide +kernel
theorem d26_14 : decode (byt 26) 14 = .ok (.getfield 28, 3) := by decide +kernel
theorem d26_17 : decode (byt 26) 17 = .ok (.iload_n 1, 1) := by decide +kernel
theorem d26_18 : decode (byt 26) 18 = .ok (.laload, 1) := by decide +kernel
theorem d26_19 : decode (byt 26) 19 = .ok (.lconst 0, 1) := by decide +kernel
theorem d26_20 : decode (byt 26) 20 = .ok (.lcmp, 1) := by decide +kernel
theorem d26_21 : decode (byt 26) 21 = .ok (.ifCond .gt 5, 3) := by decide +kernel
theorem d26_24 : decode (byt 26) 24 = .ok (.iconst 0, 1) := by decide +kernel
theorem d26_25 : decode (byt 26) 25 = .ok (.ireturn, 1) := by decide +kernel
theorem d26_26 : decode (byt 26) 26 = .ok (.iinc 1 1, 3) := by decide +kernel
theorem d26_29 : decode (byt 26) 29 = .ok (.goto (-27), 3) := by decide +kernel
theorem d26_32 : decode (byt 26) 32 = .ok (.aload_n 0, 1) := by decide +kernel
theorem d26_33 : decode (byt 26) 33 = .ok (.getfield 14, 3) := by decide +kernel
theorem d26_36 : decode (byt 26) 36 = .ok (.getfield 81, 3) := by decide +kernel
theorem d26_39 : decode (byt 26) 39 = .ok (.iconst 3, 1) := by decide +kernel
theorem d26_40 : decode (byt 26) 40 = .ok (.if_icmp .lt 26, 3) := by decide +kernel
theorem d26_43 : decode (byt 26) 43 = .ok (.aload_n 0, 1) := by decide +kernel
theorem d26_44 : decode (byt 26) 44 = .ok (.getfield 28, 3) := by decide +kernel
theorem d26_47 : decode (byt 26) 47 = .ok (.iconst 2, 1) := by decide +kernel
theorem d26_48 : decode (byt 26) 48 = .ok (.laload, 1) := by decide +kernel
theorem d26_49 : decode (byt 26) 49 = .ok (.aload_n 0, 1) := by decide +kernel
theorem d26_50 : decode (byt 26) 50 = .ok (.getfield 28, 3) := by decide +kernel
theorem d26_53 : decode (byt 26) 53 = .ok (.iconst 1, 1) := by decide +kernel
theorem d26_54 : decode (byt 26) 54 = .ok (.laload, 1) := by decide +kernel
theorem d26_55 : decode (byt 26) 55 = .ok (.lmul, 1) := by decide +kernel
theorem d26_56 : decode (byt 26) 56 = .ok (.aload_n 0, 1) := by decide +kernel
theorem d26_57 : decode (byt 26) 57 = .ok (.getfield 28, 3) := by decide +kernel
theorem d26_60 : decode (byt 26) 60 = .ok (.iconst 0, 1) := by decide +kernel
theorem d26_61 : decode (byt 26) 61 = .ok (.laload, 1) := by decide +kernel
theorem d26_62 : decode (byt 26) 62 = .ok (.lcmp, 1) := by decide +kernel
theorem d26_63 : decode (byt 26) 63 = .ok (.ifCond .le 7, 3) := by decide +kernel
theorem d26_66 : decode (byt 26) 66 = .ok (.iconst 1, 1) := by decide +kernel
theorem d26_67 : decode (byt 26) 67 = .ok (.goto 4, 3) := by decide +kernel
theorem d26_70 : decode (byt 26) 70 = .ok (.iconst 0, 1) := by decide +kernel
theorem d26_71 : decode (byt 26) 71 = .ok (.ireturn, 1) := by decide +kernel
set_option maxRecDepth 20000 in
theorem S26_0 : (∀ (ls : Lo) (st : List Value) (h : Hp) (Q : Option Value → Hp → Prop), Wp 26 0 (ls) (st) h Q ↔ Wp 26 1 (ls) (.int (0) :: st) h Q) ∧
  (∀ (ls : Lo) (st : List Value) (h : Hp) (Q : Option Value → Hp → Prop) (l0 l1 : Option Value) (x : Int32), Wp 26 1 (l0 :: l1 :: ls) (.int x :: st) h Q ↔ Wp 26 2 (clr l0 :: some (.int x) :: ls) (st) h Q) ∧
  (∀ (ls : Lo) (st : List Value) (h : Hp) (Q : Option Value → Hp → Prop) (l0 : Option Value) (x : Int32), Wp 26 2 (l0 :: some (.int x) :: ls) (st) h Q ↔ Wp 26 3 (l0 :: some (.int x) :: ls) (.int x :: st) h Q) ∧
  (∀ (ls : Lo) (st : List Value) (h : Hp) (Q : Option Value → Hp → Prop)  (i : Nat), Wp 26 3 (some (.ref i) :: ls) (st) h Q ↔ Wp 26 4 (some (.ref i) :: ls) (.ref i :: st) h Q) ∧
  (∀ (ls : Lo) (st : List Value) (n sl : Nat) (C Z : Nat → Nat) (I : Nat → Nat → Int32) (L : Nat → Nat → Int64) (R : Nat → Nat → Nat) (Q : Option Value → Hp → Prop) (i : Nat), Wp 26 4 (ls) (.ref i :: st) (n, sl, C, Z, I, L, R) Q ↔ (C i = 4 ∧ Wp 26 7 (ls) (.ref (R i 0) :: st) (n, sl, C, Z, I, L, R) Q)) ∧
  (∀ (ls : Lo) (st : List Value) (n sl : Nat) (C Z : Nat → Nat) (I : Nat → Nat → Int32) (L : Nat → Nat → Int64) (R : Nat → Nat → Nat) (Q : Option Value → Hp → Prop) (i : Nat), Wp 26 7 (ls) (.ref i :: st) (n, sl, C, Z, I, L, R) Q ↔ (inG 7 (C i) = true ∧ Wp 26 10 (ls) (.int (I i 1) :: st) (n, sl, C, Z, I, L, R) Q)) ∧
  (∀ (ls : Lo) (st : List Value) (h : Hp) (Q : Option Value → Hp → Prop) (x y : Int32), Wp 26 10 (ls) (.int y :: .int x :: st) h Q ↔ Br 26 32 13 ls st h Q (y ≤ x)) ∧
  (∀ (ls : Lo) (st : List Value) (h : Hp) (Q : Option Value → Hp → Prop)  (i : Nat), Wp 26 13 (some (.ref i) :: ls) (st) h Q ↔ Wp 26 14 (some (.ref i) :: ls) (.ref i :: st) h Q) ∧
  (∀ (ls : Lo) (st : List Value) (n sl : Nat) (C Z : Nat → Nat) (I : Nat → Nat → Int32) (L : Nat → Nat → Int64) (R : Nat → Nat → Nat) (Q : Option Value → Hp → Prop) (i : Nat), Wp 26 14 (ls) (.ref i :: st) (n, sl, C, Z, I, L, R) Q ↔ (C i = 4 ∧ Wp 26 17 (ls) (.ref (R i 3) :: st) (n, sl, C, Z, I, L, R) Q)) ∧
  (∀ (ls : Lo) (st : List Value) (h : Hp) (Q : Option Value → Hp → Prop) (l0 : Option Value) (x : Int32), Wp 26 17 (l0 :: some (.int x) :: ls) (st) h Q ↔ Wp 26 18 (l0 :: some (.int x) :: ls) (.int x :: st) h Q) ∧
  (∀ (ls : Lo) (st : List Value) (n sl : Nat) (C Z : Nat → Nat) (I : Nat → Nat → Int32) (L : Nat → Nat → Int64) (R : Nat → Nat → Nat) (Q : Option Value → Hp → Prop) (i : Nat) (y : Int32), Wp 26 18 (ls) (.int y :: .ref i :: st) (n, sl, C, Z, I, L, R) Q ↔ ((inb y (Z i) = true ∧ C i = 22) ∧ Wp 26 19 (ls) (.long (L i (ix y)) :: st) (n, sl, C, Z, I, L, R) Q)) ∧
  (∀ (ls : Lo) (st : List Value) (h : Hp) (Q : Option Value → Hp → Prop), Wp 26 19 (ls) (st) h Q ↔ Wp 26 20 (ls) (.long 0 :: st) h Q) ∧
  (∀ (ls : Lo) (st : List Value) (h : Hp) (Q : Option Value → Hp → Prop) (a b : Int64), Wp 26 20 (ls) (.long b :: .long a :: st) h Q ↔ Wp 26 21 (ls) (.int (lg_cmp a b) :: st) h Q) ∧
  (∀ (ls : Lo) (st : List Value) (h : Hp) (Q : Option Value → Hp → Prop) (x : Int32), Wp 26 21 (ls) (.int x :: st) h Q ↔ Br 26 26 24 ls st h Q (0 < x)) ∧
  (∀ (ls : Lo) (st : List Value) (h : Hp) (Q : Option Value → Hp → Prop), Wp 26 24 (ls) (st) h Q ↔ Wp 26 25 (ls) (.int (0) :: st) h Q) ∧
  (∀ (ls : Lo) (h : Hp) (Q : Option Value → Hp → Prop) (x : Int32), Wp 26 25 (ls) ([.int x]) h Q ↔ ((x = 0 ∨ x = 1) ∧ Q (some (.int x)) h)) ∧
  (∀ (ls : Lo) (st : List Value) (h : Hp) (Q : Option Value → Hp → Prop) (l0 : Option Value) (x : Int32), Wp 26 26 (l0 :: some (.int x) :: ls) (st) h Q ↔ Wp 26 29 (clr l0 :: some (.int (x + (1))) :: ls) (st) h Q) ∧
  (∀ (ls : Lo) (st : List Value) (h : Hp) (Q : Option Value → Hp → Prop), Wp 26 29 (ls) (st) h Q ↔ Wp 26 2 (ls) (st) h Q) ∧
  (∀ (ls : Lo) (st : List Value) (h : Hp) (Q : Option Value → Hp → Prop)  (i : Nat), Wp 26 32 (some (.ref i) :: ls) (st) h Q ↔ Wp 26 33 (some (.ref i) :: ls) (.ref i :: st) h Q) ∧
  (∀ (ls : Lo) (st : List Value) (n sl : Nat) (C Z : Nat → Nat) (I : Nat → Nat → Int32) (L : Nat → Nat → Int64) (R : Nat → Nat → Nat) (Q : Option Value → Hp → Prop) (i : Nat), Wp 26 33 (ls) (.ref i :: st) (n, sl, C, Z, I, L, R) Q ↔ (C i = 4 ∧ Wp 26 36 (ls) (.ref (R i 0) :: st) (n, sl, C, Z, I, L, R) Q)) ∧
  (∀ (ls : Lo) (st : List Value) (n sl : Nat) (C Z : Nat → Nat) (I : Nat → Nat → Int32) (L : Nat → Nat → Int64) (R : Nat → Nat → Nat) (Q : Option Value → Hp → Prop) (i : Nat), Wp 26 36 (ls) (.ref i :: st) (n, sl, C, Z, I, L, R) Q ↔ (inG 7 (C i) = true ∧ Wp 26 39 (ls) (.int (I i 1) :: st) (n, sl, C, Z, I, L, R) Q)) ∧
  (∀ (ls : Lo) (st : List Value) (h : Hp) (Q : Option Value → Hp → Prop), Wp 26 39 (ls) (st) h Q ↔ Wp 26 40 (ls) (.int (3) :: st) h Q) ∧
  (∀ (ls : Lo) (st : List Value) (h : Hp) (Q : Option Value → Hp → Prop) (x y : Int32), Wp 26 40 (ls) (.int y :: .int x :: st) h Q ↔ Br 26 66 43 ls st h Q (x < y)) ∧
  (∀ (ls : Lo) (st : List Value) (h : Hp) (Q : Option Value → Hp → Prop)  (i : Nat), Wp 26 43 (some (.ref i) :: ls) (st) h Q ↔ Wp 26 44 (some (.ref i) :: ls) (.ref i :: st) h Q) ∧
  (∀ (ls : Lo) (st : List Value) (n sl : Nat) (C Z : Nat → Nat) (I : Nat → Nat → Int32) (L : Nat → Nat → Int64) (R : Nat → Nat → Nat) (Q : Option Value → Hp → Prop) (i : Nat), Wp 26 44 (ls) (.ref i :: st) (n, sl, C, Z, I, L, R) Q ↔ (C i = 4 ∧ Wp 26 47 (ls) (.ref (R i 3) :: st) (n, sl, C, Z, I, L, R) Q)) := ⟨by intro ls st h Q; exact e_iconst d26_0 rfl,
  by intro ls st h Q l0 l1 x; exact e_istore_n d26_1 rfl,
  by intro ls st h Q l0 x; exact e_iload_n d26_2 rfl,
  by intro ls st h Q i; exact e_aload_n d26_3 rfl,
  by intro ls st n sl C Z I L R Q i; exact e_get (g := 3) (s := 0) (ty := 2) d26_4 rfl rfl (inG_ne (by decide)),
  by intro ls st n sl C Z I L R Q i; exact e_get (g := 7) (s := 1) (ty := 0) d26_7 rfl rfl rfl,
  by intro ls st h Q x y; exact e_ic d26_10 (by decide) c_ge,
  by intro ls st h Q i; exact e_aload_n d26_13 rfl,
  by intro ls st n sl C Z I L R Q i; exact e_get (g := 3) (s := 3) (ty := 2) d26_14 rfl rfl (inG_ne (by decide)),
  by intro ls st h Q l0 x; exact e_iload_n d26_17 rfl,
  by intro ls st n sl C Z I L R Q i y; exact e_lald d26_18,
  by intro ls st h Q; exact e_lconst d26_19 rfl,
  by intro ls st h Q a b; exact e_lcmp d26_20,
  by intro ls st h Q x; exact e_if d26_21 (by decide) c_gt,
  by intro ls st h Q; exact e_iconst d26_24 rfl,
  by intros; exact e_rZ d26_25 rfl,
  by intro ls st h Q l0 x; exact e_iinc d26_26 rfl rfl rfl,
  by intro ls st h Q; exact e_goto d26_29 (by decide),
  by intro ls st h Q i; exact e_aload_n d26_32 rfl,
  by intro ls st n sl C Z I L R Q i; exact e_get (g := 3) (s := 0) (ty := 2) d26_33 rfl rfl (inG_ne (by decide)),
  by intro ls st n sl C Z I L R Q i; exact e_get (g := 7) (s := 1) (ty := 0) d26_36 rfl rfl rfl,
  by intro ls st h Q; exact e_iconst d26_39 rfl,
  by intro ls st h Q x y; exact e_ic d26_40 (by decide) c_lt,
  by intro ls st h Q i; exact e_aload_n d26_43 rfl,
  by intro ls st n sl C Z I L R Q i; exact e_get (g := 3) (s := 3) (ty := 2) d26_44 rfl rfl (inG_ne (by decide))⟩
set_option maxRecDepth 20000 in
theorem S26_1 : (∀ (ls : Lo) (st : List Value) (h : Hp) (Q : Option Value → Hp → Prop), Wp 26 47 (ls) (st) h Q ↔ Wp 26 48 (ls) (.int (2) :: st) h Q) ∧
  (∀ (ls : Lo) (st : List Value) (n sl : Nat) (C Z : Nat → Nat) (I : Nat → Nat → Int32) (L : Nat → Nat → Int64) (R : Nat → Nat → Nat) (Q : Option Value → Hp → Prop) (i : Nat) (y : Int32), Wp 26 48 (ls) (.int y :: .ref i :: st) (n, sl, C, Z, I, L, R) Q ↔ ((inb y (Z i) = true ∧ C i = 22) ∧ Wp 26 49 (ls) (.long (L i (ix y)) :: st) (n, sl, C, Z, I, L, R) Q)) ∧
  (∀ (ls : Lo) (st : List Value) (h : Hp) (Q : Option Value → Hp → Prop)  (i : Nat), Wp 26 49 (some (.ref i) :: ls) (st) h Q ↔ Wp 26 50 (some (.ref i) :: ls) (.ref i :: st) h Q) ∧
  (∀ (ls : Lo) (st : List Value) (n sl : Nat) (C Z : Nat → Nat) (I : Nat → Nat → Int32) (L : Nat → Nat → Int64) (R : Nat → Nat → Nat) (Q : Option Value → Hp → Prop) (i : Nat), Wp 26 50 (ls) (.ref i :: st) (n, sl, C, Z, I, L, R) Q ↔ (C i = 4 ∧ Wp 26 53 (ls) (.ref (R i 3) :: st) (n, sl, C, Z, I, L, R) Q)) ∧
  (∀ (ls : Lo) (st : List Value) (h : Hp) (Q : Option Value → Hp → Prop), Wp 26 53 (ls) (st) h Q ↔ Wp 26 54 (ls) (.int (1) :: st) h Q) ∧
  (∀ (ls : Lo) (st : List Value) (n sl : Nat) (C Z : Nat → Nat) (I : Nat → Nat → Int32) (L : Nat → Nat → Int64) (R : Nat → Nat → Nat) (Q : Option Value → Hp → Prop) (i : Nat) (y : Int32), Wp 26 54 (ls) (.int y :: .ref i :: st) (n, sl, C, Z, I, L, R) Q ↔ ((inb y (Z i) = true ∧ C i = 22) ∧ Wp 26 55 (ls) (.long (L i (ix y)) :: st) (n, sl, C, Z, I, L, R) Q)) ∧
  (∀ (ls : Lo) (st : List Value) (h : Hp) (Q : Option Value → Hp → Prop) (a b : Int64), Wp 26 55 (ls) (.long b :: .long a :: st) h Q ↔ Wp 26 56 (ls) (.long (a * b) :: st) h Q) ∧
  (∀ (ls : Lo) (st : List Value) (h : Hp) (Q : Option Value → Hp → Prop)  (i : Nat), Wp 26 56 (some (.ref i) :: ls) (st) h Q ↔ Wp 26 57 (some (.ref i) :: ls) (.ref i :: st) h Q) ∧
  (∀ (ls : Lo) (st : List Value) (n sl : Nat) (C Z : Nat → Nat) (I : Nat → Nat → Int32) (L : Nat → Nat → Int64) (R : Nat → Nat → Nat) (Q : Option Value → Hp → Prop) (i : Nat), Wp 26 57 (ls) (.ref i :: st) (n, sl, C, Z, I, L, R) Q ↔ (C i = 4 ∧ Wp 26 60 (ls) (.ref (R i 3) :: st) (n, sl, C, Z, I, L, R) Q)) ∧
  (∀ (ls : Lo) (st : List Value) (h : Hp) (Q : Option Value → Hp → Prop), Wp 26 60 (ls) (st) h Q ↔ Wp 26 61 (ls) (.int (0) :: st) h Q) ∧
  (∀ (ls : Lo) (st : List Value) (n sl : Nat) (C Z : Nat → Nat) (I : Nat → Nat → Int32) (L : Nat → Nat → Int64) (R : Nat → Nat → Nat) (Q : Option Value → Hp → Prop) (i : Nat) (y : Int32), Wp 26 61 (ls) (.int y :: .ref i :: st) (n, sl, C, Z, I, L, R) Q ↔ ((inb y (Z i) = true ∧ C i = 22) ∧ Wp 26 62 (ls) (.long (L i (ix y)) :: st) (n, sl, C, Z, I, L, R) Q)) ∧
  (∀ (ls : Lo) (st : List Value) (h : Hp) (Q : Option Value → Hp → Prop) (a b : Int64), Wp 26 62 (ls) (.long b :: .long a :: st) h Q ↔ Wp 26 63 (ls) (.int (lg_cmp a b) :: st) h Q) ∧
  (∀ (ls : Lo) (st : List Value) (h : Hp) (Q : Option Value → Hp → Prop) (x : Int32), Wp 26 63 (ls) (.int x :: st) h Q ↔ Br 26 70 66 ls st h Q (x ≤ 0)) ∧
  (∀ (ls : Lo) (st : List Value) (h : Hp) (Q : Option Value → Hp → Prop), Wp 26 66 (ls) (st) h Q ↔ Wp 26 67 (ls) (.int (1) :: st) h Q) ∧
  (∀ (ls : Lo) (st : List Value) (h : Hp) (Q : Option Value → Hp → Prop), Wp 26 67 (ls) (st) h Q ↔ Wp 26 71 (ls) (st) h Q) ∧
  (∀ (ls : Lo) (st : List Value) (h : Hp) (Q : Option Value → Hp → Prop), Wp 26 70 (ls) (st) h Q ↔ Wp 26 71 (ls) (.int (0) :: st) h Q) ∧
  (∀ (ls : Lo) (h : Hp) (Q : Option Value → Hp → Prop) (x : Int32), Wp 26 71 (ls) ([.int x]) h Q ↔ ((x = 0 ∨ x = 1) ∧ Q (some (.int x)) h)) := ⟨by intro ls st h Q; exact e_iconst d26_47 rfl,
  by intro ls st n sl C Z I L R Q i y; exact e_lald d26_48,
  by intro ls st h Q i; exact e_aload_n d26_49 rfl,
  by intro ls st n sl C Z I L R Q i; exact e_get (g := 3) (s := 3) (ty := 2) d26_50 rfl rfl (inG_ne (by decide)),
  by intro ls st h Q; exact e_iconst d26_53 rfl,
  by intro ls st n sl C Z I L R Q i y; exact e_lald d26_54,
  by intro ls st h Q a b; exact e_lmul d26_55,
  by intro ls st h Q i; exact e_aload_n d26_56 rfl,
  by intro ls st n sl C Z I L R Q i; exact e_get (g := 3) (s := 3) (ty := 2) d26_57 rfl rfl (inG_ne (by decide)),
  by intro ls st h Q; exact e_iconst d26_60 rfl,
  by intro ls st n sl C Z I L R Q i y; exact e_lald d26_61,
  by intro ls st h Q a b; exact e_lcmp d26_62,
  by intro ls st h Q x; exact e_if d26_63 (by decide) c_le,
  by intro ls st h Q; exact e_iconst d26_66 rfl,
  by intro ls st h Q; exact e_goto d26_67 (by decide),
  by intro ls st h Q; exact e_iconst d26_70 rfl,
  by intros; exact e_rZ d26_71 rfl⟩
theorem d27_0 : decode (byt 27) 0 = .ok (.iconst 0, 1) := by decide +kernel
theorem d27_1 : decode (byt 27) 1 = .ok (.istore_n 1, 1) := by decide +kernel
theorem d27_2 : decode (byt 27) 2 = .ok (.iload_n 1, 1) := by decide +kernel
theorem d27_3 : decode (byt 27) 3 = .ok (.aload_n 0, 1) := by decide +kernel
theorem d27_4 : decode (byt 27) 4 = .ok (.getfield 14, 3) := by decide +kernel
theorem d27_7 : decode (byt 27) 7 = .ok (.getfield 81, 3) := by decide +kernel
theorem d27_10 : decode (byt 27) 10 = .ok (.if_icmp .gt 33, 3) := by decide +kernel
theorem d27_13 : decode (byt 27) 13 = .ok (.aload_n 0, 1) := by decide +kernel
theorem d27_14 : decode (byt 27) 14 = .ok (.getfield 35, 3) := by decide +kernel
theorem d27_17 : decode (byt 27) 17 = .ok (.iload_n 1, 1) := by decide +kernel
theorem d27_18 : decode (byt 27) 18 = .ok (.aload_n 0, 1) := by decide +kernel
theorem d27_19 : decode (byt 27) 19 = .ok (.getfield 28, 3) := by decide +kernel
theorem d27_22 : decode (byt 27) 22 = .ok (.iload_n 1, 1) := by decide +kernel
theorem d27_23 : decode (byt 27) 23 = .ok (.laload, 1) := by decide +kernel
theorem d27_24 : decode (byt 27) 24 = .ok (.aload_n 0, 1) := by decide +kernel
theorem d27_25 : decode (byt 27) 25 = .ok (.getfield 14, 3) := by decide +kernel
theorem d27_28 : decode (byt 27) 28 = .ok (.getfield 88, 3) := by decide +kernel
theorem d27_31 : decode (byt 27) 31 = .ok (.iload_n 1, 1) := by decide +kernel
theorem d27_32 : decode (byt 27) 32 = .ok (.invokestatic 104, 3) := by decide +kernel
theorem d27_35 : decode (byt 27) 35 = .ok (.lmul, 1) := by decide +kernel
theorem d27_36 : decode (byt 27) 36 = .ok (.lastore, 1) := by decide +kernel
theorem d27_37 : decode (byt 27) 37 = .ok (.iinc 1 1, 3) := by decide +kernel
theorem d27_40 : decode (byt 27) 40 = .ok (.goto (-38), 3) := by decide +kernel
theorem d27_43 : decode (byt 27) 43 = .ok (.aload_n 0, 1) := by decide +kernel
theorem d27_44 : decode (byt 27) 44 = .ok (.getfield 14, 3) := by decide +kernel
theorem d27_47 : decode (byt 27) 47 = .ok (.getfield 81, 3) := by decide +kernel
theorem d27_50 : decode (byt 27) 50 = .ok (.istore_n 1, 1) := by decide +kernel
theorem d27_51 : decode (byt 27) 51 = .ok (.iload_n 1, 1) := by decide +kernel
theorem d27_52 : decode (byt 27) 52 = .ok (.ifCond .le 101, 3) := by decide +kernel
theorem d27_55 : decode (byt 27) 55 = .ok (.aload_n 0, 1) := by decide +kernel
theorem d27_56 : decode (byt 27) 56 = .ok (.getfield 35, 3) := by decide +kernel
theorem d27_59 : decode (byt 27) 59 = .ok (.iconst 0, 1) := by decide +kernel
theorem d27_60 : decode (byt 27) 60 = .ok (.laload, 1) := by decide +kernel
theorem d27_61 : decode (byt 27) 61 = .ok (.lstore_n 2, 1) := by decide +kernel
theorem d27_62 : decode (byt 27) 62 = .ok (.aload_n 0, 1) := by decide +kernel
theorem d27_63 : decode (byt 27) 63 = .ok (.getfield 35, 3) := by decide +kernel
theorem d27_66 : decode (byt 27) 66 = .ok (.iload_n 1, 1) := by decide +kernel
theorem d27_67 : decode (byt 27) 67 = .ok (.laload, 1) := by decide +kernel
theorem d27_68 : decode (byt 27) 68 = .ok (.lstore 4, 2) := by decide +kernel
theorem d27_70 : decode (byt 27) 70 = .ok (.lload_n 2, 1) := by decide +kernel
theorem d27_71 : decode (byt 27) 71 = .ok (.invokestatic 107, 3) := by decide +kernel
theorem d27_74 : decode (byt 27) 74 = .ok (.lload 4, 2) := by decide +kernel
theorem d27_76 : decode (byt 27) 76 = .ok (.invokestatic 107, 3) := by decide +kernel
theorem d27_79 : decode (byt 27) 79 = .ok (.lcmp, 1) := by decide +kernel
theorem d27_80 : decode (byt 27) 80 = .ok (.ifCond .lt 5, 3) := by decide +kernel
theorem d27_83 : decode (byt 27) 83 = .ok (.iconst 0, 1) := by decide +kernel
theorem d27_84 : decode (byt 27) 84 = .ok (.ireturn, 1) := by decide +kernel
theorem d27_85 : decode (byt 27) 85 = .ok (.iconst 0, 1) := by decide +kernel
theorem d27_86 : decode (byt 27) 86 = .ok (.istore 6, 2) := by decide +kernel
theorem d27_88 : decode (byt 27) 88 = .ok (.iload 6, 2) := by decide +kernel
theorem d27_90 : decode (byt 27) 90 = .ok (.iload_n 1, 1) := by decide +kernel
theorem d27_91 : decode (byt 27) 91 = .ok (.if_icmp .ge 42, 3) := by decide +kernel
theorem d27_94 : decode (byt 27) 94 = .ok (.aload_n 0, 1) := by decide +kernel
theorem d27_95 : decode (byt 27) 95 = .ok (.getfield 38, 3) := by decide +kernel
theorem d27_98 : decode (byt 27) 98 = .ok (.iload 6, 2) := by decide +kernel
theorem d27_100 : decode (byt 27) 100 = .ok (.lload 4, 2) := by decide +kernel
theorem d27_102 : decode (byt 27) 102 = .ok (.aload_n 0, 1) := by decide +kernel
theorem d27_103 : decode (byt 27) 103 = .ok (.getfield 35, 3) := by decide +kernel
theorem d27_106 : decode (byt 27) 106 = .ok (.iload 6, 2) := by decide +kernel
theorem d27_108 : decode (byt 27) 108 = .ok (.iconst 1, 1) := by decide +kernel
theorem d27_109 : decode (byt 27) 109 = .ok (.iadd, 1) := by decide +kernel
theorem d27_110 : decode (byt 27) 110 = .ok (.laload, 1) := by decide +kernel
theorem d27_111 : decode (byt 27) 111 = .ok (.lmul, 1) := by decide +kernel
theorem d27_112 : decode (byt 27) 112 = .ok (.lload_n 2, 1) := by decide +kernel
theorem d27_113 : decode (byt 27) 113 = .ok (.aload_n 0, 1) := by decide +kernel
theorem d27_114 : decode (byt 27) 114 = .ok (.getfield 35, 3) := by decide +kernel
theorem d27_117 : decode (byt 27) 117 = .ok (.iload_n 1, 1) := by decide +kernel
theorem d27_118 : decode (byt 27) 118 = .ok (.iconst 1, 1) := by decide +kernel
theorem d27_119 : decode (byt 27) 119 = .ok (.isub, 1) := by decide +kernel
theorem d27_120 : decode (byt 27) 120 = .ok (.iload 6, 2) := by decide +kernel
theorem d27_122 : decode (byt 27) 122 = .ok (.isub, 1) := by decide +kernel
theorem d27_123 : decode (byt 27) 123 = .ok (.laload, 1) := by decide +kernel
theorem d27_124 : decode (byt 27) 124 = .ok (.lmul, 1) := by decide +kernel
theorem d27_125 : decode (byt 27) 125 = .ok (.lsub, 1) := by decide +kernel
theorem d27_126 : decode (byt 27) 126 = .ok (.lastore, 1) := by decide +kernel
theorem d27_127 : decode (byt 27) 127 = .ok (.iinc 6 1, 3) := by decide +kernel
theorem d27_130 : decode (byt 27) 130 = .ok (.goto (-42), 3) := by decide +kernel
theorem d27_133 : decode (byt 27) 133 = .ok (.aload_n 0, 1) := by decide +kernel
theorem d27_134 : decode (byt 27) 134 = .ok (.getfield 38, 3) := by decide +kernel
theorem d27_137 : decode (byt 27) 137 = .ok (.iconst 0, 1) := by decide +kernel
theorem d27_138 : decode (byt 27) 138 = .ok (.aload_n 0, 1) := by decide +kernel
theorem d27_139 : decode (byt 27) 139 = .ok (.getfield 35, 3) := by decide +kernel
theorem d27_142 : decode (byt 27) 142 = .ok (.iconst 0, 1) := by decide +kernel
theorem d27_143 : decode (byt 27) 143 = .ok (.iload_n 1, 1) := by decide +kernel
theorem d27_144 : decode (byt 27) 144 = .ok (.invokestatic 113, 3) := by decide +kernel
theorem d27_147 : decode (byt 27) 147 = .ok (.iinc 1 (-1), 3) := by decide +kernel
theorem d27_150 : decode (byt 27) 150 = .ok (.goto (-99), 3) := by decide +kernel
theorem d27_153 : decode (byt 27) 153 = .ok (.iconst 1, 1) := by decide +kernel
theorem d27_154 : decode (byt 27) 154 = .ok (.ireturn, 1) := by decide +kernel
set_option maxRecDepth 20000 in
theorem S27_0 : (∀ (ls : Lo) (st : List Value) (h : Hp) (Q : Option Value → Hp → Prop), Wp 27 0 (ls) (st) h Q ↔ Wp 27 1 (ls) (.int (0) :: st) h Q) ∧
  (∀ (ls : Lo) (st : List Value) (h : Hp) (Q : Option Value → Hp → Prop) (l0 l1 : Option Value) (x : Int32), Wp 27 1 (l0 :: l1 :: ls) (.int x :: st) h Q ↔ Wp 27 2 (clr l0 :: some (.int x) :: ls) (st) h Q) ∧
  (∀ (ls : Lo) (st : List Value) (h : Hp) (Q : Option Value → Hp → Prop) (l0 : Option Value) (x : Int32), Wp 27 2 (l0 :: some (.int x) :: ls) (st) h Q ↔ Wp 27 3 (l0 :: some (.int x) :: ls) (.int x :: st) h Q) ∧
  (∀ (ls : Lo) (st : List Value) (h : Hp) (Q : Option Value → Hp → Prop)  (i : Nat), Wp 27 3 (some (.ref i) :: ls) (st) h Q ↔ Wp 27 4 (some (.ref i) :: ls) (.ref i :: st) h Q) ∧
  (∀ (ls : Lo) (st : List Value) (n sl : Nat) (C Z : Nat → Nat) (I : Nat → Nat → Int32) (L : Nat → Nat → Int64) (R : Nat → Nat → Nat) (Q : Option Value → Hp → Prop) (i : Nat), Wp 27 4 (ls) (.ref i :: st) (n, sl, C, Z, I, L, R) Q ↔ (C i = 4 ∧ Wp 27 7 (ls) (.ref (R i 0) :: st) (n, sl, C, Z, I, L, R) Q)) ∧
  (∀ (ls : Lo) (st : List Value) (n sl : Nat) (C Z : Nat → Nat) (I : Nat → Nat → Int32) (L : Nat → Nat → Int64) (R : Nat → Nat → Nat) (Q : Option Value → Hp → Prop) (i : Nat), Wp 27 7 (ls) (.ref i :: st) (n, sl, C, Z, I, L, R) Q ↔ (inG 7 (C i) = true ∧ Wp 27 10 (ls) (.int (I i 1) :: st) (n, sl, C, Z, I, L, R) Q)) ∧
  (∀ (ls : Lo) (st : List Value) (h : Hp) (Q : Option Value → Hp → Prop) (x y : Int32), Wp 27 10 (ls) (.int y :: .int x :: st) h Q ↔ Br 27 43 13 ls st h Q (y < x)) ∧
  (∀ (ls : Lo) (st : List Value) (h : Hp) (Q : Option Value → Hp → Prop)  (i : Nat), Wp 27 13 (some (.ref i) :: ls) (st) h Q ↔ Wp 27 14 (some (.ref i) :: ls) (.ref i :: st) h Q) ∧
  (∀ (ls : Lo) (st : List Value) (n sl : Nat) (C Z : Nat → Nat) (I : Nat → Nat → Int32) (L : Nat → Nat → Int64) (R : Nat → Nat → Nat) (Q : Option Value → Hp → Prop) (i : Nat), Wp 27 14 (ls) (.ref i :: st) (n, sl, C, Z, I, L, R) Q ↔ (C i = 4 ∧ Wp 27 17 (ls) (.ref (R i 5) :: st) (n, sl, C, Z, I, L, R) Q)) ∧
  (∀ (ls : Lo) (st : List Value) (h : Hp) (Q : Option Value → Hp → Prop) (l0 : Option Value) (x : Int32), Wp 27 17 (l0 :: some (.int x) :: ls) (st) h Q ↔ Wp 27 18 (l0 :: some (.int x) :: ls) (.int x :: st) h Q) ∧
  (∀ (ls : Lo) (st : List Value) (h : Hp) (Q : Option Value → Hp → Prop)  (i : Nat), Wp 27 18 (some (.ref i) :: ls) (st) h Q ↔ Wp 27 19 (some (.ref i) :: ls) (.ref i :: st) h Q) ∧
  (∀ (ls : Lo) (st : List Value) (n sl : Nat) (C Z : Nat → Nat) (I : Nat → Nat → Int32) (L : Nat → Nat → Int64) (R : Nat → Nat → Nat) (Q : Option Value → Hp → Prop) (i : Nat), Wp 27 19 (ls) (.ref i :: st) (n, sl, C, Z, I, L, R) Q ↔ (C i = 4 ∧ Wp 27 22 (ls) (.ref (R i 3) :: st) (n, sl, C, Z, I, L, R) Q)) ∧
  (∀ (ls : Lo) (st : List Value) (h : Hp) (Q : Option Value → Hp → Prop) (l0 : Option Value) (x : Int32), Wp 27 22 (l0 :: some (.int x) :: ls) (st) h Q ↔ Wp 27 23 (l0 :: some (.int x) :: ls) (.int x :: st) h Q) ∧
  (∀ (ls : Lo) (st : List Value) (n sl : Nat) (C Z : Nat → Nat) (I : Nat → Nat → Int32) (L : Nat → Nat → Int64) (R : Nat → Nat → Nat) (Q : Option Value → Hp → Prop) (i : Nat) (y : Int32), Wp 27 23 (ls) (.int y :: .ref i :: st) (n, sl, C, Z, I, L, R) Q ↔ ((inb y (Z i) = true ∧ C i = 22) ∧ Wp 27 24 (ls) (.long (L i (ix y)) :: st) (n, sl, C, Z, I, L, R) Q)) ∧
  (∀ (ls : Lo) (st : List Value) (h : Hp) (Q : Option Value → Hp → Prop)  (i : Nat), Wp 27 24 (some (.ref i) :: ls) (st) h Q ↔ Wp 27 25 (some (.ref i) :: ls) (.ref i :: st) h Q) ∧
  (∀ (ls : Lo) (st : List Value) (n sl : Nat) (C Z : Nat → Nat) (I : Nat → Nat → Int32) (L : Nat → Nat → Int64) (R : Nat → Nat → Nat) (Q : Option Value → Hp → Prop) (i : Nat), Wp 27 25 (ls) (.ref i :: st) (n, sl, C, Z, I, L, R) Q ↔ (C i = 4 ∧ Wp 27 28 (ls) (.ref (R i 0) :: st) (n, sl, C, Z, I, L, R) Q)) ∧
  (∀ (ls : Lo) (st : List Value) (n sl : Nat) (C Z : Nat → Nat) (I : Nat → Nat → Int32) (L : Nat → Nat → Int64) (R : Nat → Nat → Nat) (Q : Option Value → Hp → Prop) (i : Nat), Wp 27 28 (ls) (.ref i :: st) (n, sl, C, Z, I, L, R) Q ↔ (inG 7 (C i) = true ∧ Wp 27 31 (ls) (.int (I i 2) :: st) (n, sl, C, Z, I, L, R) Q)) ∧
  (∀ (ls : Lo) (st : List Value) (h : Hp) (Q : Option Value → Hp → Prop) (l0 : Option Value) (x : Int32), Wp 27 31 (l0 :: some (.int x) :: ls) (st) h Q ↔ Wp 27 32 (l0 :: some (.int x) :: ls) (.int x :: st) h Q) ∧
  (∀ (ls : Lo) (st : List Value) (h : Hp) (Q : Option Value → Hp → Prop) (x0 : Int32) (x1 : Int32), Wp 27 32 (ls) (.int x1 :: .int x0 :: st) h Q ↔ (wsum st ≤ 8 ∧ Call 89 [some (.int x0), some (.int x1), none, none, none] h 27 35 ls st Q)) ∧
  (∀ (ls : Lo) (st : List Value) (h : Hp) (Q : Option Value → Hp → Prop) (a b : Int64), Wp 27 35 (ls) (.long b :: .long a :: st) h Q ↔ Wp 27 36 (ls) (.long (a * b) :: st) h Q) ∧
  (∀ (ls : Lo) (st : List Value) (n sl : Nat) (C Z : Nat → Nat) (I : Nat → Nat → Int32) (L : Nat → Nat → Int64) (R : Nat → Nat → Nat) (Q : Option Value → Hp → Prop) (i : Nat) (y : Int32) (a : Int64), Wp 27 36 (ls) (.long a :: .int y :: .ref i :: st) (n, sl, C, Z, I, L, R) Q ↔ ((inb y (Z i) = true ∧ C i = 22) ∧ Wp 27 37 (ls) (st) (n, sl, C, Z, I, u2 L i (ix y) a, R) Q)) ∧
  (∀ (ls : Lo) (st : List Value) (h : Hp) (Q : Option Value → Hp → Prop) (l0 : Option Value) (x : Int32), Wp 27 37 (l0 :: some (.int x) :: ls) (st) h Q ↔ Wp 27 40 (clr l0 :: some (.int (x + (1))) :: ls) (st) h Q) ∧
  (∀ (ls : Lo) (st : List Value) (h : Hp) (Q : Option Value → Hp → Prop), Wp 27 40 (ls) (st) h Q ↔ Wp 27 2 (ls) (st) h Q) ∧
  (∀ (ls : Lo) (st : List Value) (h : Hp) (Q : Option Value → Hp → Prop)  (i : Nat), Wp 27 43 (some (.ref i) :: ls) (st) h Q ↔ Wp 27 44 (some (.ref i) :: ls) (.ref i :: st) h Q) ∧
  (∀ (ls : Lo) (st : List Value) (n sl : Nat) (C Z : Nat → Nat) (I : Nat → Nat → Int32) (L : Nat → Nat → Int64) (R : Nat → Nat → Nat) (Q : Option Value → Hp → Prop) (i : Nat), Wp 27 44 (ls) (.ref i :: st) (n, sl, C, Z, I, L, R) Q ↔ (C i = 4 ∧ Wp 27 47 (ls) (.ref (R i 0) :: st) (n, sl, C, Z, I, L, R) Q)) := ⟨by intro ls st h Q; exact e_iconst d27_0 rfl,
  by intro ls st h Q l0 l1 x; exact e_istore_n d27_1 rfl,
  by intro ls st h Q l0 x; exact e_iload_n d27_2 rfl,
  by intro ls st h Q i; exact e_aload_n d27_3 rfl,
  by intro ls st n sl C Z I L R Q i; exact e_get (g := 3) (s := 0) (ty := 2) d27_4 rfl rfl (inG_ne (by decide)),
  by intro ls st n sl C Z I L R Q i; exact e_get (g := 7) (s := 1) (ty := 0) d27_7 rfl rfl rfl,
  by intro ls st h Q x y; exact e_ic d27_10 (by decide) c_gt,
  by intro ls st h Q i; exact e_aload_n d27_13 rfl,
  by intro ls st n sl C Z I L R Q i; exact e_get (g := 3) (s := 5) (ty := 2) d27_14 rfl rfl (inG_ne (by decide)),
  by intro ls st h Q l0 x; exact e_iload_n d27_17 rfl,
  by intro ls st h Q i; exact e_aload_n d27_18 rfl,
  by intro ls st n sl C Z I L R Q i; exact e_get (g := 3) (s := 3) (ty := 2) d27_19 rfl rfl (inG_ne (by decide)),
  by intro ls st h Q l0 x; exact e_iload_n d27_22 rfl,
  by intro ls st n sl C Z I L R Q i y; exact e_lald d27_23,
  by intro ls st h Q i; exact e_aload_n d27_24 rfl,
  by intro ls st n sl C Z I L R Q i; exact e_get (g := 3) (s := 0) (ty := 2) d27_25 rfl rfl (inG_ne (by decide)),
  by intro ls st n sl C Z I L R Q i; exact e_get (g := 7) (s := 2) (ty := 0) d27_28 rfl rfl rfl,
  by intro ls st h Q l0 x; exact e_iload_n d27_31 rfl,
  by intro ls st h Q x0 x1; exact e_is (k2 := 89) (as := [.int x0, .int x1]) d27_32 rfl (by decide) rfl rfl (by decide +kernel) (Nat.le_of_ble_eq_true rfl) rfl,
  by intro ls st h Q a b; exact e_lmul d27_35,
  by intro ls st n sl C Z I L R Q i y a; exact e_last d27_36,
  by intro ls st h Q l0 x; exact e_iinc d27_37 rfl rfl rfl,
  by intro ls st h Q; exact e_goto d27_40 (by decide),
  by intro ls st h Q i; exact e_aload_n d27_43 rfl,
  by intro ls st n sl C Z I L R Q i; exact e_get (g := 3) (s := 0) (ty := 2) d27_44 rfl rfl (inG_ne (by decide))⟩
set_option maxRecDepth 20000 in
theorem S27_1 : (∀ (ls : Lo) (st : List Value) (n sl : Nat) (C Z : Nat → Nat) (I : Nat → Nat → Int32) (L : Nat → Nat → Int64) (R : Nat → Nat → Nat) (Q : Option Value → Hp → Prop) (i : Nat), Wp 27 47 (ls) (.ref i :: st) (n, sl, C, Z, I, L, R) Q ↔ (inG 7 (C i) = true ∧ Wp 27 50 (ls) (.int (I i 1) :: st) (n, sl, C, Z, I, L, R) Q)) ∧
  (∀ (ls : Lo) (st : List Value) (h : Hp) (Q : Option Value → Hp → Prop) (l0 l1 : Option Value) (x : Int32), Wp 27 50 (l0 :: l1 :: ls) (.int x :: st) h Q ↔ Wp 27 51 (clr l0 :: some (.int x) :: ls) (st) h Q) ∧
  (∀ (ls : Lo) (st : List Value) (h : Hp) (Q : Option Value → Hp → Prop) (l0 : Option Value) (x : Int32), Wp 27 51 (l0 :: some (.int x) :: ls) (st) h Q ↔ Wp 27 52 (l0 :: some (.int x) :: ls) (.int x :: st) h Q) ∧
  (∀ (ls : Lo) (st : List Value) (h : Hp) (Q : Option Value → Hp → Prop) (x : Int32), Wp 27 52 (ls) (.int x :: st) h Q ↔ Br 27 153 55 ls st h Q (x ≤ 0)) ∧
  (∀ (ls : Lo) (st : List Value) (h : Hp) (Q : Option Value → Hp → Prop)  (i : Nat), Wp 27 55 (some (.ref i) :: ls) (st) h Q ↔ Wp 27 56 (some (.ref i) :: ls) (.ref i :: st) h Q) ∧
  (∀ (ls : Lo) (st : List Value) (n sl : Nat) (C Z : Nat → Nat) (I : Nat → Nat → Int32) (L : Nat → Nat → Int64) (R : Nat → Nat → Nat) (Q : Option Value → Hp → Prop) (i : Nat), Wp 27 56 (ls) (.ref i :: st) (n, sl, C, Z, I, L, R) Q ↔ (C i = 4 ∧ Wp 27 59 (ls) (.ref (R i 5) :: st) (n, sl, C, Z, I, L, R) Q)) ∧
  (∀ (ls : Lo) (st : List Value) (h : Hp) (Q : Option Value → Hp → Prop), Wp 27 59 (ls) (st) h Q ↔ Wp 27 60 (ls) (.int (0) :: st) h Q) ∧
  (∀ (ls : Lo) (st : List Value) (n sl : Nat) (C Z : Nat → Nat) (I : Nat → Nat → Int32) (L : Nat → Nat → Int64) (R : Nat → Nat → Nat) (Q : Option Value → Hp → Prop) (i : Nat) (y : Int32), Wp 27 60 (ls) (.int y :: .ref i :: st) (n, sl, C, Z, I, L, R) Q ↔ ((inb y (Z i) = true ∧ C i = 22) ∧ Wp 27 61 (ls) (.long (L i (ix y)) :: st) (n, sl, C, Z, I, L, R) Q)) ∧
  (∀ (ls : Lo) (st : List Value) (h : Hp) (Q : Option Value → Hp → Prop) (l0 l1 l2 l3 : Option Value) (a : Int64), Wp 27 61 (l0 :: l1 :: l2 :: l3 :: ls) (.long a :: st) h Q ↔ Wp 27 62 (l0 :: clr l1 :: some (.long a) :: none :: ls) (st) h Q) ∧
  (∀ (ls : Lo) (st : List Value) (h : Hp) (Q : Option Value → Hp → Prop)  (i : Nat), Wp 27 62 (some (.ref i) :: ls) (st) h Q ↔ Wp 27 63 (some (.ref i) :: ls) (.ref i :: st) h Q) ∧
  (∀ (ls : Lo) (st : List Value) (n sl : Nat) (C Z : Nat → Nat) (I : Nat → Nat → Int32) (L : Nat → Nat → Int64) (R : Nat → Nat → Nat) (Q : Option Value → Hp → Prop) (i : Nat), Wp 27 63 (ls) (.ref i :: st) (n, sl, C, Z, I, L, R) Q ↔ (C i = 4 ∧ Wp 27 66 (ls) (.ref (R i 5) :: st) (n, sl, C, Z, I, L, R) Q)) ∧
  (∀ (ls : Lo) (st : List Value) (h : Hp) (Q : Option Value → Hp → Prop) (l0 : Option Value) (x : Int32), Wp 27 66 (l0 :: some (.int x) :: ls) (st) h Q ↔ Wp 27 67 (l0 :: some (.int x) :: ls) (.int x :: st) h Q) ∧
  (∀ (ls : Lo) (st : List Value) (n sl : Nat) (C Z : Nat → Nat) (I : Nat → Nat → Int32) (L : Nat → Nat → Int64) (R : Nat → Nat → Nat) (Q : Option Value → Hp → Prop) (i : Nat) (y : Int32), Wp 27 67 (ls) (.int y :: .ref i :: st) (n, sl, C, Z, I, L, R) Q ↔ ((inb y (Z i) = true ∧ C i = 22) ∧ Wp 27 68 (ls) (.long (L i (ix y)) :: st) (n, sl, C, Z, I, L, R) Q)) ∧
  (∀ (ls : Lo) (st : List Value) (h : Hp) (Q : Option Value → Hp → Prop) (l0 l1 l2 l3 l4 l5 : Option Value) (a : Int64), Wp 27 68 (l0 :: l1 :: l2 :: l3 :: l4 :: l5 :: ls) (.long a :: st) h Q ↔ Wp 27 70 (l0 :: l1 :: l2 :: clr l3 :: some (.long a) :: none :: ls) (st) h Q) ∧
  (∀ (ls : Lo) (st : List Value) (h : Hp) (Q : Option Value → Hp → Prop) (l0 l1 : Option Value) (a : Int64), Wp 27 70 (l0 :: l1 :: some (.long a) :: ls) (st) h Q ↔ Wp 27 71 (l0 :: l1 :: some (.long a) :: ls) (.long a :: st) h Q) ∧
  (∀ (ls : Lo) (st : List Value) (h : Hp) (Q : Option Value → Hp → Prop) (a : Int64), Wp 27 71 (ls) (.long a :: st) h Q ↔ (wsum st ≤ 8 ∧ Wp 27 74 (ls) (.long (if 0 < a then a else -a) :: st) h Q)) ∧
  (∀ (ls : Lo) (st : List Value) (h : Hp) (Q : Option Value → Hp → Prop) (l0 l1 l2 l3 : Option Value) (a : Int64), Wp 27 74 (l0 :: l1 :: l2 :: l3 :: some (.long a) :: ls) (st) h Q ↔ Wp 27 76 (l0 :: l1 :: l2 :: l3 :: some (.long a) :: ls) (.long a :: st) h Q) ∧
  (∀ (ls : Lo) (st : List Value) (h : Hp) (Q : Option Value → Hp → Prop) (a : Int64), Wp 27 76 (ls) (.long a :: st) h Q ↔ (wsum st ≤ 8 ∧ Wp 27 79 (ls) (.long (if 0 < a then a else -a) :: st) h Q)) ∧
  (∀ (ls : Lo) (st : List Value) (h : Hp) (Q : Option Value → Hp → Prop) (a b : Int64), Wp 27 79 (ls) (.long b :: .long a :: st) h Q ↔ Wp 27 80 (ls) (.int (lg_cmp a b) :: st) h Q) ∧
  (∀ (ls : Lo) (st : List Value) (h : Hp) (Q : Option Value → Hp → Prop) (x : Int32), Wp 27 80 (ls) (.int x :: st) h Q ↔ Br 27 85 83 ls st h Q (x < 0)) ∧
  (∀ (ls : Lo) (st : List Value) (h : Hp) (Q : Option Value → Hp → Prop), Wp 27 83 (ls) (st) h Q ↔ Wp 27 84 (ls) (.int (0) :: st) h Q) ∧
  (∀ (ls : Lo) (h : Hp) (Q : Option Value → Hp → Prop) (x : Int32), Wp 27 84 (ls) ([.int x]) h Q ↔ ((x = 0 ∨ x = 1) ∧ Q (some (.int x)) h)) ∧
  (∀ (ls : Lo) (st : List Value) (h : Hp) (Q : Option Value → Hp → Prop), Wp 27 85 (ls) (st) h Q ↔ Wp 27 86 (ls) (.int (0) :: st) h Q) ∧
  (∀ (ls : Lo) (st : List Value) (h : Hp) (Q : Option Value → Hp → Prop) (l0 l1 l2 l3 l4 l5 l6 : Option Value) (x : Int32), Wp 27 86 (l0 :: l1 :: l2 :: l3 :: l4 :: l5 :: l6 :: ls) (.int x :: st) h Q ↔ Wp 27 88 (l0 :: l1 :: l2 :: l3 :: l4 :: clr l5 :: some (.int x) :: ls) (st) h Q) ∧
  (∀ (ls : Lo) (st : List Value) (h : Hp) (Q : Option Value → Hp → Prop) (l0 l1 l2 l3 l4 l5 : Option Value) (x : Int32), Wp 27 88 (l0 :: l1 :: l2 :: l3 :: l4 :: l5 :: some (.int x) :: ls) (st) h Q ↔ Wp 27 90 (l0 :: l1 :: l2 :: l3 :: l4 :: l5 :: some (.int x) :: ls) (.int x :: st) h Q) := ⟨by intro ls st n sl C Z I L R Q i; exact e_get (g := 7) (s := 1) (ty := 0) d27_47 rfl rfl rfl,
  by intro ls st h Q l0 l1 x; exact e_istore_n d27_50 rfl,
  by intro ls st h Q l0 x; exact e_iload_n d27_51 rfl,
  by intro ls st h Q x; exact e_if d27_52 (by decide) c_le,
  by intro ls st h Q i; exact e_aload_n d27_55 rfl,
  by intro ls st n sl C Z I L R Q i; exact e_get (g := 3) (s := 5) (ty := 2) d27_56 rfl rfl (inG_ne (by decide)),
  by intro ls st h Q; exact e_iconst d27_59 rfl,
  by intro ls st n sl C Z I L R Q i y; exact e_lald d27_60,
  by intro ls st h Q l0 l1 l2 l3 a; exact e_lstore_n d27_61 rfl,
  by intro ls st h Q i; exact e_aload_n d27_62 rfl,
  by intro ls st n sl C Z I L R Q i; exact e_get (g := 3) (s := 5) (ty := 2) d27_63 rfl rfl (inG_ne (by decide)),
  by intro ls st h Q l0 x; exact e_iload_n d27_66 rfl,
  by intro ls st n sl C Z I L R Q i y; exact e_lald d27_67,
  by intro ls st h Q l0 l1 l2 l3 l4 l5 a; exact e_lstore d27_68 rfl,
  by intro ls st h Q l0 l1 a; exact e_lload_n d27_70 rfl,
  by intro ls st h Q a; exact e_abs d27_71 rfl (by decide +kernel),
  by intro ls st h Q l0 l1 l2 l3 a; exact e_lload d27_74 rfl,
  by intro ls st h Q a; exact e_abs d27_76 rfl (by decide +kernel),
  by intro ls st h Q a b; exact e_lcmp d27_79,
  by intro ls st h Q x; exact e_if d27_80 (by decide) c_lt,
  by intro ls st h Q; exact e_iconst d27_83 rfl,
  by intros; exact e_rZ d27_84 rfl,
  by intro ls st h Q; exact e_iconst d27_85 rfl,
  by intro ls st h Q l0 l1 l2 l3 l4 l5 l6 x; exact e_istore d27_86 rfl,
  by intro ls st h Q l0 l1 l2 l3 l4 l5 x; exact e_iload d27_88 rfl⟩
set_option maxRecDepth 20000 in
theorem S27_2 : (∀ (ls : Lo) (st : List Value) (h : Hp) (Q : Option Value → Hp → Prop) (l0 : Option Value) (x : Int32), Wp 27 90 (l0 :: some (.int x) :: ls) (st) h Q ↔ Wp 27 91 (l0 :: some (.int x) :: ls) (.int x :: st) h Q) ∧
  (∀ (ls : Lo) (st : List Value) (h : Hp) (Q : Option Value → Hp → Prop) (x y : Int32), Wp 27 91 (ls) (.int y :: .int x :: st) h Q ↔ Br 27 133 94 ls st h Q (y ≤ x)) ∧
  (∀ (ls : Lo) (st : List Value) (h : Hp) (Q : Option Value → Hp → Prop)  (i : Nat), Wp 27 94 (some (.ref i) :: ls) (st) h Q ↔ Wp 27 95 (some (.ref i) :: ls) (.ref i :: st) h Q) ∧
  (∀ (ls : Lo) (st : List Value) (n sl : Nat) (C Z : Nat → Nat) (I : Nat → Nat → Int32) (L : Nat → Nat → Int64) (R : Nat → Nat → Nat) (Q : Option Value → Hp → Prop) (i : Nat), Wp 27 95 (ls) (.ref i :: st) (n, sl, C, Z, I, L, R) Q ↔ (C i = 4 ∧ Wp 27 98 (ls) (.ref (R i 6) :: st) (n, sl, C, Z, I, L, R) Q)) ∧
  (∀ (ls : Lo) (st : List Value) (h : Hp) (Q : Option Value → Hp → Prop) (l0 l1 l2 l3 l4 l5 : Option Value) (x : Int32), Wp 27 98 (l0 :: l1 :: l2 :: l3 :: l4 :: l5 :: some (.int x) :: ls) (st) h Q ↔ Wp 27 100 (l0 :: l1 :: l2 :: l3 :: l4 :: l5 :: some (.int x) :: ls) (.int x :: st) h Q) ∧
  (∀ (ls : Lo) (st : List Value) (h : Hp) (Q : Option Value → Hp → Prop) (l0 l1 l2 l3 : Option Value) (a : Int64), Wp 27 100 (l0 :: l1 :: l2 :: l3 :: some (.long a) :: ls) (st) h Q ↔ Wp 27 102 (l0 :: l1 :: l2 :: l3 :: some (.long a) :: ls) (.long a :: st) h Q) ∧
  (∀ (ls : Lo) (st : List Value) (h : Hp) (Q : Option Value → Hp → Prop)  (i : Nat), Wp 27 102 (some (.ref i) :: ls) (st) h Q ↔ Wp 27 103 (some (.ref i) :: ls) (.ref i :: st) h Q) ∧
  (∀ (ls : Lo) (st : List Value) (n sl : Nat) (C Z : Nat → Nat) (I : Nat → Nat → Int32) (L : Nat → Nat → Int64) (R : Nat → Nat → Nat) (Q : Option Value → Hp → Prop) (i : Nat), Wp 27 103 (ls) (.ref i :: st) (n, sl, C, Z, I, L, R) Q ↔ (C i = 4 ∧ Wp 27 106 (ls) (.ref (R i 5) :: st) (n, sl, C, Z, I, L, R) Q)) ∧
  (∀ (ls : Lo) (st : List Value) (h : Hp) (Q : Option Value → Hp → Prop) (l0 l1 l2 l3 l4 l5 : Option Value) (x : Int32), Wp 27 106 (l0 :: l1 :: l2 :: l3 :: l4 :: l5 :: some (.int x) :: ls) (st) h Q ↔ Wp 27 108 (l0 :: l1 :: l2 :: l3 :: l4 :: l5 :: some (.int x) :: ls) (.int x :: st) h Q) ∧
  (∀ (ls : Lo) (st : List Value) (h : Hp) (Q : Option Value → Hp → Prop), Wp 27 108 (ls) (st) h Q ↔ Wp 27 109 (ls) (.int (1) :: st) h Q) ∧
  (∀ (ls : Lo) (st : List Value) (h : Hp) (Q : Option Value → Hp → Prop) (x y : Int32), Wp 27 109 (ls) (.int y :: .int x :: st) h Q ↔ Wp 27 110 (ls) (.int (x + y) :: st) h Q) ∧
  (∀ (ls : Lo) (st : List Value) (n sl : Nat) (C Z : Nat → Nat) (I : Nat → Nat → Int32) (L : Nat → Nat → Int64) (R : Nat → Nat → Nat) (Q : Option Value → Hp → Prop) (i : Nat) (y : Int32), Wp 27 110 (ls) (.int y :: .ref i :: st) (n, sl, C, Z, I, L, R) Q ↔ ((inb y (Z i) = true ∧ C i = 22) ∧ Wp 27 111 (ls) (.long (L i (ix y)) :: st) (n, sl, C, Z, I, L, R) Q)) ∧
  (∀ (ls : Lo) (st : List Value) (h : Hp) (Q : Option Value → Hp → Prop) (a b : Int64), Wp 27 111 (ls) (.long b :: .long a :: st) h Q ↔ Wp 27 112 (ls) (.long (a * b) :: st) h Q) ∧
  (∀ (ls : Lo) (st : List Value) (h : Hp) (Q : Option Value → Hp → Prop) (l0 l1 : Option Value) (a : Int64), Wp 27 112 (l0 :: l1 :: some (.long a) :: ls) (st) h Q ↔ Wp 27 113 (l0 :: l1 :: some (.long a) :: ls) (.long a :: st) h Q) ∧
  (∀ (ls : Lo) (st : List Value) (h : Hp) (Q : Option Value → Hp → Prop)  (i : Nat), Wp 27 113 (some (.ref i) :: ls) (st) h Q ↔ Wp 27 114 (some (.ref i) :: ls) (.ref i :: st) h Q) ∧
  (∀ (ls : Lo) (st : List Value) (n sl : Nat) (C Z : Nat → Nat) (I : Nat → Nat → Int32) (L : Nat → Nat → Int64) (R : Nat → Nat → Nat) (Q : Option Value → Hp → Prop) (i : Nat), Wp 27 114 (ls) (.ref i :: st) (n, sl, C, Z, I, L, R) Q ↔ (C i = 4 ∧ Wp 27 117 (ls) (.ref (R i 5) :: st) (n, sl, C, Z, I, L, R) Q)) ∧
  (∀ (ls : Lo) (st : List Value) (h : Hp) (Q : Option Value → Hp → Prop) (l0 : Option Value) (x : Int32), Wp 27 117 (l0 :: some (.int x) :: ls) (st) h Q ↔ Wp 27 118 (l0 :: some (.int x) :: ls) (.int x :: st) h Q) ∧
  (∀ (ls : Lo) (st : List Value) (h : Hp) (Q : Option Value → Hp → Prop), Wp 27 118 (ls) (st) h Q ↔ Wp 27 119 (ls) (.int (1) :: st) h Q) ∧
  (∀ (ls : Lo) (st : List Value) (h : Hp) (Q : Option Value → Hp → Prop) (x y : Int32), Wp 27 119 (ls) (.int y :: .int x :: st) h Q ↔ Wp 27 120 (ls) (.int (x - y) :: st) h Q) ∧
  (∀ (ls : Lo) (st : List Value) (h : Hp) (Q : Option Value → Hp → Prop) (l0 l1 l2 l3 l4 l5 : Option Value) (x : Int32), Wp 27 120 (l0 :: l1 :: l2 :: l3 :: l4 :: l5 :: some (.int x) :: ls) (st) h Q ↔ Wp 27 122 (l0 :: l1 :: l2 :: l3 :: l4 :: l5 :: some (.int x) :: ls) (.int x :: st) h Q) ∧
  (∀ (ls : Lo) (st : List Value) (h : Hp) (Q : Option Value → Hp → Prop) (x y : Int32), Wp 27 122 (ls) (.int y :: .int x :: st) h Q ↔ Wp 27 123 (ls) (.int (x - y) :: st) h Q) ∧
  (∀ (ls : Lo) (st : List Value) (n sl : Nat) (C Z : Nat → Nat) (I : Nat → Nat → Int32) (L : Nat → Nat → Int64) (R : Nat → Nat → Nat) (Q : Option Value → Hp → Prop) (i : Nat) (y : Int32), Wp 27 123 (ls) (.int y :: .ref i :: st) (n, sl, C, Z, I, L, R) Q ↔ ((inb y (Z i) = true ∧ C i = 22) ∧ Wp 27 124 (ls) (.long (L i (ix y)) :: st) (n, sl, C, Z, I, L, R) Q)) ∧
  (∀ (ls : Lo) (st : List Value) (h : Hp) (Q : Option Value → Hp → Prop) (a b : Int64), Wp 27 124 (ls) (.long b :: .long a :: st) h Q ↔ Wp 27 125 (ls) (.long (a * b) :: st) h Q) ∧
  (∀ (ls : Lo) (st : List Value) (h : Hp) (Q : Option Value → Hp → Prop) (a b : Int64), Wp 27 125 (ls) (.long b :: .long a :: st) h Q ↔ Wp 27 126 (ls) (.long (a - b) :: st) h Q) ∧
  (∀ (ls : Lo) (st : List Value) (n sl : Nat) (C Z : Nat → Nat) (I : Nat → Nat → Int32) (L : Nat → Nat → Int64) (R : Nat → Nat → Nat) (Q : Option Value → Hp → Prop) (i : Nat) (y : Int32) (a : Int64), Wp 27 126 (ls) (.long a :: .int y :: .ref i :: st) (n, sl, C, Z, I, L, R) Q ↔ ((inb y (Z i) = true ∧ C i = 22) ∧ Wp 27 127 (ls) (st) (n, sl, C, Z, I, u2 L i (ix y) a, R) Q)) := ⟨by intro ls st h Q l0 x; exact e_iload_n d27_90 rfl,
  by intro ls st h Q x y; exact e_ic d27_91 (by decide) c_ge,
  by intro ls st h Q i; exact e_aload_n d27_94 rfl,
  by intro ls st n sl C Z I L R Q i; exact e_get (g := 3) (s := 6) (ty := 2) d27_95 rfl rfl (inG_ne (by decide)),
  by intro ls st h Q l0 l1 l2 l3 l4 l5 x; exact e_iload d27_98 rfl,
  by intro ls st h Q l0 l1 l2 l3 a; exact e_lload d27_100 rfl,
  by intro ls st h Q i; exact e_aload_n d27_102 rfl,
  by intro ls st n sl C Z I L R Q i; exact e_get (g := 3) (s := 5) (ty := 2) d27_103 rfl rfl (inG_ne (by decide)),
  by intro ls st h Q l0 l1 l2 l3 l4 l5 x; exact e_iload d27_106 rfl,
  by intro ls st h Q; exact e_iconst d27_108 rfl,
  by intro ls st h Q x y; exact e_iadd d27_109,
  by intro ls st n sl C Z I L R Q i y; exact e_lald d27_110,
  by intro ls st h Q a b; exact e_lmul d27_111,
  by intro ls st h Q l0 l1 a; exact e_lload_n d27_112 rfl,
  by intro ls st h Q i; exact e_aload_n d27_113 rfl,
  by intro ls st n sl C Z I L R Q i; exact e_get (g := 3) (s := 5) (ty := 2) d27_114 rfl rfl (inG_ne (by decide)),
  by intro ls st h Q l0 x; exact e_iload_n d27_117 rfl,
  by intro ls st h Q; exact e_iconst d27_118 rfl,
  by intro ls st h Q x y; exact e_isub d27_119,
  by intro ls st h Q l0 l1 l2 l3 l4 l5 x; exact e_iload d27_120 rfl,
  by intro ls st h Q x y; exact e_isub d27_122,
  by intro ls st n sl C Z I L R Q i y; exact e_lald d27_123,
  by intro ls st h Q a b; exact e_lmul d27_124,
  by intro ls st h Q a b; exact e_lsub d27_125,
  by intro ls st n sl C Z I L R Q i y a; exact e_last d27_126⟩
set_option maxRecDepth 20000 in
theorem S27_3 : (∀ (ls : Lo) (st : List Value) (h : Hp) (Q : Option Value → Hp → Prop) (l0 l1 l2 l3 l4 l5 : Option Value) (x : Int32), Wp 27 127 (l0 :: l1 :: l2 :: l3 :: l4 :: l5 :: some (.int x) :: ls) (st) h Q ↔ Wp 27 130 (l0 :: l1 :: l2 :: l3 :: l4 :: clr l5 :: some (.int (x + (1))) :: ls) (st) h Q) ∧
  (∀ (ls : Lo) (st : List Value) (h : Hp) (Q : Option Value → Hp → Prop), Wp 27 130 (ls) (st) h Q ↔ Wp 27 88 (ls) (st) h Q) ∧
  (∀ (ls : Lo) (st : List Value) (h : Hp) (Q : Option Value → Hp → Prop)  (i : Nat), Wp 27 133 (some (.ref i) :: ls) (st) h Q ↔ Wp 27 134 (some (.ref i) :: ls) (.ref i :: st) h Q) ∧
  (∀ (ls : Lo) (st : List Value) (n sl : Nat) (C Z : Nat → Nat) (I : Nat → Nat → Int32) (L : Nat → Nat → Int64) (R : Nat → Nat → Nat) (Q : Option Value → Hp → Prop) (i : Nat), Wp 27 134 (ls) (.ref i :: st) (n, sl, C, Z, I, L, R) Q ↔ (C i = 4 ∧ Wp 27 137 (ls) (.ref (R i 6) :: st) (n, sl, C, Z, I, L, R) Q)) ∧
  (∀ (ls : Lo) (st : List Value) (h : Hp) (Q : Option Value → Hp → Prop), Wp 27 137 (ls) (st) h Q ↔ Wp 27 138 (ls) (.int (0) :: st) h Q) ∧
  (∀ (ls : Lo) (st : List Value) (h : Hp) (Q : Option Value → Hp → Prop)  (i : Nat), Wp 27 138 (some (.ref i) :: ls) (st) h Q ↔ Wp 27 139 (some (.ref i) :: ls) (.ref i :: st) h Q) ∧
  (∀ (ls : Lo) (st : List Value) (n sl : Nat) (C Z : Nat → Nat) (I : Nat → Nat → Int32) (L : Nat → Nat → Int64) (R : Nat → Nat → Nat) (Q : Option Value → Hp → Prop) (i : Nat), Wp 27 139 (ls) (.ref i :: st) (n, sl, C, Z, I, L, R) Q ↔ (C i = 4 ∧ Wp 27 142 (ls) (.ref (R i 5) :: st) (n, sl, C, Z, I, L, R) Q)) ∧
  (∀ (ls : Lo) (st : List Value) (h : Hp) (Q : Option Value → Hp → Prop), Wp 27 142 (ls) (st) h Q ↔ Wp 27 143 (ls) (.int (0) :: st) h Q) ∧
  (∀ (ls : Lo) (st : List Value) (h : Hp) (Q : Option Value → Hp → Prop) (l0 : Option Value) (x : Int32), Wp 27 143 (l0 :: some (.int x) :: ls) (st) h Q ↔ Wp 27 144 (l0 :: some (.int x) :: ls) (.int x :: st) h Q) ∧
  (∀ (ls : Lo) (st : List Value) (n sl : Nat) (C Z : Nat → Nat) (I : Nat → Nat → Int32) (L : Nat → Nat → Int64) (R : Nat → Nat → Nat) (Q : Option Value → Hp → Prop) (i j : Nat) (x y v : Int32), Wp 27 144 (ls) (.int v :: .int y :: .ref j :: .int x :: .ref i :: st) (n, sl, C, Z, I, L, R) Q ↔ ((wsum st ≤ 8 ∧ C i = 22 ∧ C j = 22 ∧ ¬ x < 0 ∧ ¬ y < 0 ∧ ¬ v < 0 ∧ ix x + ix v ≤ Z i ∧ ix y + ix v ≤ Z j) ∧ Wp 27 147 (ls) (st) (n, sl, C, Z, I, va_up L j (va_cpy (L i) (L j) (ix x) (ix y) (ix v)), R) Q)) ∧
  (∀ (ls : Lo) (st : List Value) (h : Hp) (Q : Option Value → Hp → Prop) (l0 : Option Value) (x : Int32), Wp 27 147 (l0 :: some (.int x) :: ls) (st) h Q ↔ Wp 27 150 (clr l0 :: some (.int (x + (-1))) :: ls) (st) h Q) ∧
  (∀ (ls : Lo) (st : List Value) (h : Hp) (Q : Option Value → Hp → Prop), Wp 27 150 (ls) (st) h Q ↔ Wp 27 51 (ls) (st) h Q) ∧
  (∀ (ls : Lo) (st : List Value) (h : Hp) (Q : Option Value → Hp → Prop), Wp 27 153 (ls) (st) h Q ↔ Wp 27 154 (ls) (.int (1) :: st) h Q) ∧
  (∀ (ls : Lo) (h : Hp) (Q : Option Value → Hp → Prop) (x : Int32), Wp 27 154 (ls) ([.int x]) h Q ↔ ((x = 0 ∨ x = 1) ∧ Q (some (.int x)) h)) := ⟨by intro ls st h Q l0 l1 l2 l3 l4 l5 x; exact e_iinc d27_127 rfl rfl rfl,
  by intro ls st h Q; exact e_goto d27_130 (by decide),
  by intro ls st h Q i; exact e_aload_n d27_133 rfl,
  by intro ls st n sl C Z I L R Q i; exact e_get (g := 3) (s := 6) (ty := 2) d27_134 rfl rfl (inG_ne (by decide)),
  by intro ls st h Q; exact e_iconst d27_137 rfl,
  by intro ls st h Q i; exact e_aload_n d27_138 rfl,
  by intro ls st n sl C Z I L R Q i; exact e_get (g := 3) (s := 5) (ty := 2) d27_139 rfl rfl (inG_ne (by decide)),
  by intro ls st h Q; exact e_iconst d27_142 rfl,
  by intro ls st h Q l0 x; exact e_iload_n d27_143 rfl,
  by intro ls st n sl C Z I L R Q i j x y v; exact e_cpy d27_144 rfl (by decide +kernel),
  by intro ls st h Q l0 x; exact e_iinc d27_147 rfl rfl rfl,
  by intro ls st h Q; exact e_goto d27_150 (by decide),
  by intro ls st h Q; exact e_iconst d27_153 rfl,
  by intros; exact e_rZ d27_154 rfl⟩
theorem d28_0 : decode (byt 28) 0 = .ok (.aload_n 0, 1) := by decide +kernel
theorem d28_1 : decode (byt 28) 1 = .ok (.getfield 22, 3) := by decide +kernel
theorem d28_4 : decode (byt 28) 4 = .ok (.iconst 3, 1) := by decide +kernel
theorem d28_5 : decode (byt 28) 5 = .ok (.invokestatic 119, 3) := by decide +kernel
theorem d28_8 : decode (byt 28) 8 = .ok (.ireturn, 1) := by decide +kernel
set_option maxRecDepth 20000 in
theorem S28_0 : (∀ (ls : Lo) (st : List Value) (h : Hp) (Q : Option Value → Hp → Prop)  (i : Nat), Wp 28 0 (some (.ref i) :: ls) (st) h Q ↔ Wp 28 1 (some (.ref i) :: ls) (.ref i :: st) h Q) ∧
  (∀ (ls : Lo) (st : List Value) (n sl : Nat) (C Z : Nat → Nat) (I : Nat → Nat → Int32) (L : Nat → Nat → Int64) (R : Nat → Nat → Nat) (Q : Option Value → Hp → Prop) (i : Nat), Wp 28 1 (ls) (.ref i :: st) (n, sl, C, Z, I, L, R) Q ↔ (C i = 4 ∧ Wp 28 4 (ls) (.ref (R i 1) :: st) (n, sl, C, Z, I, L, R) Q)) ∧
  (∀ (ls : Lo) (st : List Value) (h : Hp) (Q : Option Value → Hp → Prop), Wp 28 4 (ls) (st) h Q ↔ Wp 28 5 (ls) (.int (3) :: st) h Q) ∧
  (∀ (ls : Lo) (st : List Value) (h : Hp) (Q : Option Value → Hp → Prop) (x0 : Nat) (x1 : Int32), Wp 28 5 (ls) (.int x1 :: .ref x0 :: st) h Q ↔ (wsum st ≤ 8 ∧ Call 44 [some (.ref x0), some (.int x1), none, none, none, none] h 28 8 ls st Q)) ∧
  (∀ (ls : Lo) (h : Hp) (Q : Option Value → Hp → Prop) (x : Int32), Wp 28 8 (ls) ([.int x]) h Q ↔ Q (some (.int x)) h) := ⟨by intro ls st h Q i; exact e_aload_n d28_0 rfl,
  by intro ls st n sl C Z I L R Q i; exact e_get (g := 3) (s := 1) (ty := 2) d28_1 rfl rfl (inG_ne (by decide)),
  by intro ls st h Q; exact e_iconst d28_4 rfl,
  by intro ls st h Q x0 x1; exact e_is (k2 := 44) (as := [.ref x0, .int x1]) d28_5 rfl (by decide) rfl rfl (by decide +kernel) (Nat.le_of_ble_eq_true rfl) rfl,
  by intros; exact e_rI (p := True) d28_8 rfl⟩
theorem d29_0 : decode (byt 29) 0 = .ok (.aload_n 0, 1) := by decide +kernel
theorem d29_1 : decode (byt 29) 1 = .ok (.getfield 25, 3) := by decide +kernel
theorem d29_4 : decode (byt 29) 4 = .ok (.iconst 3, 1) := by decide +kernel
theorem d29_5 : decode (byt 29) 5 = .ok (.invokestatic 119, 3) := by decide +kernel
theorem d29_8 : decode (byt 29) 8 = .ok (.ireturn, 1) := by decide +kernel
set_option maxRecDepth 20000 in
theorem S29_0 : (∀ (ls : Lo) (st : List Value) (h : Hp) (Q : Option Value → Hp → Prop)  (i : Nat), Wp 29 0 (some (.ref i) :: ls) (st) h Q ↔ Wp 29 1 (some (.ref i) :: ls) (.ref i :: st) h Q) ∧
  (∀ (ls : Lo) (st : List Value) (n sl : Nat) (C Z : Nat → Nat) (I : Nat → Nat → Int32) (L : Nat → Nat → Int64) (R : Nat → Nat → Nat) (Q : Option Value → Hp → Prop) (i : Nat), Wp 29 1 (ls) (.ref i :: st) (n, sl, C, Z, I, L, R) Q ↔ (C i = 4 ∧ Wp 29 4 (ls) (.ref (R i 2) :: st) (n, sl, C, Z, I, L, R) Q)) ∧
  (∀ (ls : Lo) (st : List Value) (h : Hp) (Q : Option Value → Hp → Prop), Wp 29 4 (ls) (st) h Q ↔ Wp 29 5 (ls) (.int (3) :: st) h Q) ∧
  (∀ (ls : Lo) (st : List Value) (h : Hp) (Q : Option Value → Hp → Prop) (x0 : Nat) (x1 : Int32), Wp 29 5 (ls) (.int x1 :: .ref x0 :: st) h Q ↔ (wsum st ≤ 8 ∧ Call 44 [some (.ref x0), some (.int x1), none, none, none, none] h 29 8 ls st Q)) ∧
  (∀ (ls : Lo) (h : Hp) (Q : Option Value → Hp → Prop) (x : Int32), Wp 29 8 (ls) ([.int x]) h Q ↔ Q (some (.int x)) h) := ⟨by intro ls st h Q i; exact e_aload_n d29_0 rfl,
  by intro ls st n sl C Z I L R Q i; exact e_get (g := 3) (s := 2) (ty := 2) d29_1 rfl rfl (inG_ne (by decide)),
  by intro ls st h Q; exact e_iconst d29_4 rfl,
  by intro ls st h Q x0 x1; exact e_is (k2 := 44) (as := [.ref x0, .int x1]) d29_5 rfl (by decide) rfl rfl (by decide +kernel) (Nat.le_of_ble_eq_true rfl) rfl,
  by intros; exact e_rI (p := True) d29_8 rfl⟩
theorem d30_0 : decode (byt 30) 0 = .ok (.iconst 0, 1) := by decide +kernel
theorem d30_1 : decode (byt 30) 1 = .ok (.istore_n 1, 1) := by decide +kernel
theorem d30_2 : decode (byt 30) 2 = .ok (.iload_n 1, 1) := by decide +kernel
theorem d30_3 : decode (byt 30) 3 = .ok (.iconst 3, 1) := by decide +kernel
theorem d30_4 : decode (byt 30) 4 = .ok (.if_icmp .ge 37, 3) := by decide +kernel
theorem d30_7 : decode (byt 30) 7 = .ok (.iconst 0, 1) := by decide +kernel
theorem d30_8 : decode (byt 30) 8 = .ok (.istore_n 2, 1) := by decide +kernel
theorem d30_9 : decode (byt 30) 9 = .ok (.iload_n 2, 1) := by decide +kernel
theorem d30_10 : decode (byt 30) 10 = .ok (.iconst 3, 1) := by decide +kernel
theorem d30_11 : decode (byt 30) 11 = .ok (.if_icmp .ge 24, 3) := by decide +kernel
theorem d30_14 : decode (byt 30) 14 = .ok (.aload_n 0, 1) := by decide +kernel
theorem d30_15 : decode (byt 30) 15 = .ok (.getfield 32, 3) := by decide +kernel
theorem d30_18 : decode (byt 30) 18 = .ok (.iload_n 1, 1) := by decide +kernel
theorem d30_19 : decode (byt 30) 19 = .ok (.aaload, 1) := by decide +kernel
theorem d30_20 : decode (byt 30) 20 = .ok (.iload_n 2, 1) := by decide +kernel
theorem d30_21 : decode (byt 30) 21 = .ok (.aload_n 0, 1) := by decide +kernel
theorem d30_22 : decode (byt 30) 22 = .ok (.iload_n 1, 1) := by decide +kernel
theorem d30_23 : decode (byt 30) 23 = .ok (.iload_n 2, 1) := by decide +kernel
theorem d30_24 : decode (byt 30) 24 = .ok (.iadd, 1) := by decide +kernel
theorem d30_25 : decode (byt 30) 25 = .ok (.invokevirtual 91, 3) := by decide +kernel
theorem d30_28 : decode (byt 30) 28 = .ok (.lastore, 1) := by decide +kernel
theorem d30_29 : decode (byt 30) 29 = .ok (.iinc 2 1, 3) := by decide +kernel
theorem d30_32 : decode (byt 30) 32 = .ok (.goto (-23), 3) := by decide +kernel
theorem d30_35 : decode (byt 30) 35 = .ok (.iinc 1 1, 3) := by decide +kernel
theorem d30_38 : decode (byt 30) 38 = .ok (.goto (-36), 3) := by decide +kernel
theorem d30_41 : decode (byt 30) 41 = .ok (.aload_n 0, 1) := by decide +kernel
theorem d30_42 : decode (byt 30) 42 = .ok (.getfield 32, 3) := by decide +kernel
theorem d30_45 : decode (byt 30) 45 = .ok (.iconst 3, 1) := by decide +kernel
theorem d30_46 : decode (byt 30) 46 = .ok (.invokestatic 119, 3) := by decide +kernel
theorem d30_49 : decode (byt 30) 49 = .ok (.ireturn, 1) := by decide +kernel
set_option maxRecDepth 20000 in
theorem S30_0 : (∀ (ls : Lo) (st : List Value) (h : Hp) (Q : Option Value → Hp → Prop), Wp 30 0 (ls) (st) h Q ↔ Wp 30 1 (ls) (.int (0) :: st) h Q) ∧
  (∀ (ls : Lo) (st : List Value) (h : Hp) (Q : Option Value → Hp → Prop) (l0 l1 : Option Value) (x : Int32), Wp 30 1 (l0 :: l1 :: ls) (.int x :: st) h Q ↔ Wp 30 2 (clr l0 :: some (.int x) :: ls) (st) h Q) ∧
  (∀ (ls : Lo) (st : List Value) (h : Hp) (Q : Option Value → Hp → Prop) (l0 : Option Value) (x : Int32), Wp 30 2 (l0 :: some (.int x) :: ls) (st) h Q ↔ Wp 30 3 (l0 :: some (.int x) :: ls) (.int x :: st) h Q) ∧
  (∀ (ls : Lo) (st : List Value) (h : Hp) (Q : Option Value → Hp → Prop), Wp 30 3 (ls) (st) h Q ↔ Wp 30 4 (ls) (.int (3) :: st) h Q) ∧
  (∀ (ls : Lo) (st : List Value) (h : Hp) (Q : Option Value → Hp → Prop) (x y : Int32), Wp 30 4 (ls) (.int y :: .int x :: st) h Q ↔ Br 30 41 7 ls st h Q (y ≤ x)) ∧
  (∀ (ls : Lo) (st : List Value) (h : Hp) (Q : Option Value → Hp → Prop), Wp 30 7 (ls) (st) h Q ↔ Wp 30 8 (ls) (.int (0) :: st) h Q) ∧
  (∀ (ls : Lo) (st : List Value) (h : Hp) (Q : Option Value → Hp → Prop) (l0 l1 l2 : Option Value) (x : Int32), Wp 30 8 (l0 :: l1 :: l2 :: ls) (.int x :: st) h Q ↔ Wp 30 9 (l0 :: clr l1 :: some (.int x) :: ls) (st) h Q) ∧
  (∀ (ls : Lo) (st : List Value) (h : Hp) (Q : Option Value → Hp → Prop) (l0 l1 : Option Value) (x : Int32), Wp 30 9 (l0 :: l1 :: some (.int x) :: ls) (st) h Q ↔ Wp 30 10 (l0 :: l1 :: some (.int x) :: ls) (.int x :: st) h Q) ∧
  (∀ (ls : Lo) (st : List Value) (h : Hp) (Q : Option Value → Hp → Prop), Wp 30 10 (ls) (st) h Q ↔ Wp 30 11 (ls) (.int (3) :: st) h Q) ∧
  (∀ (ls : Lo) (st : List Value) (h : Hp) (Q : Option Value → Hp → Prop) (x y : Int32), Wp 30 11 (ls) (.int y :: .int x :: st) h Q ↔ Br 30 35 14 ls st h Q (y ≤ x)) ∧
  (∀ (ls : Lo) (st : List Value) (h : Hp) (Q : Option Value → Hp → Prop)  (i : Nat), Wp 30 14 (some (.ref i) :: ls) (st) h Q ↔ Wp 30 15 (some (.ref i) :: ls) (.ref i :: st) h Q) ∧
  (∀ (ls : Lo) (st : List Value) (n sl : Nat) (C Z : Nat → Nat) (I : Nat → Nat → Int32) (L : Nat → Nat → Int64) (R : Nat → Nat → Nat) (Q : Option Value → Hp → Prop) (i : Nat), Wp 30 15 (ls) (.ref i :: st) (n, sl, C, Z, I, L, R) Q ↔ (C i = 4 ∧ Wp 30 18 (ls) (.ref (R i 4) :: st) (n, sl, C, Z, I, L, R) Q)) ∧
  (∀ (ls : Lo) (st : List Value) (h : Hp) (Q : Option Value → Hp → Prop) (l0 : Option Value) (x : Int32), Wp 30 18 (l0 :: some (.int x) :: ls) (st) h Q ↔ Wp 30 19 (l0 :: some (.int x) :: ls) (.int x :: st) h Q) ∧
  (∀ (ls : Lo) (st : List Value) (n sl : Nat) (C Z : Nat → Nat) (I : Nat → Nat → Int32) (L : Nat → Nat → Int64) (R : Nat → Nat → Nat) (Q : Option Value → Hp → Prop) (i : Nat) (y : Int32), Wp 30 19 (ls) (.int y :: .ref i :: st) (n, sl, C, Z, I, L, R) Q ↔ ((inb y (Z i) = true ∧ (C i = 23 ∨ C i = 24 ∨ C i = 25)) ∧ Wp 30 20 (ls) (.ref (R i (ix y)) :: st) (n, sl, C, Z, I, L, R) Q)) ∧
  (∀ (ls : Lo) (st : List Value) (h : Hp) (Q : Option Value → Hp → Prop) (l0 l1 : Option Value) (x : Int32), Wp 30 20 (l0 :: l1 :: some (.int x) :: ls) (st) h Q ↔ Wp 30 21 (l0 :: l1 :: some (.int x) :: ls) (.int x :: st) h Q) ∧
  (∀ (ls : Lo) (st : List Value) (h : Hp) (Q : Option Value → Hp → Prop)  (i : Nat), Wp 30 21 (some (.ref i) :: ls) (st) h Q ↔ Wp 30 22 (some (.ref i) :: ls) (.ref i :: st) h Q) ∧
  (∀ (ls : Lo) (st : List Value) (h : Hp) (Q : Option Value → Hp → Prop) (l0 : Option Value) (x : Int32), Wp 30 22 (l0 :: some (.int x) :: ls) (st) h Q ↔ Wp 30 23 (l0 :: some (.int x) :: ls) (.int x :: st) h Q) ∧
  (∀ (ls : Lo) (st : List Value) (h : Hp) (Q : Option Value → Hp → Prop) (l0 l1 : Option Value) (x : Int32), Wp 30 23 (l0 :: l1 :: some (.int x) :: ls) (st) h Q ↔ Wp 30 24 (l0 :: l1 :: some (.int x) :: ls) (.int x :: st) h Q) ∧
  (∀ (ls : Lo) (st : List Value) (h : Hp) (Q : Option Value → Hp → Prop) (x y : Int32), Wp 30 24 (ls) (.int y :: .int x :: st) h Q ↔ Wp 30 25 (ls) (.int (x + y) :: st) h Q) ∧
  (∀ (ls : Lo) (st : List Value) (n sl : Nat) (C Z : Nat → Nat) (I : Nat → Nat → Int32) (L : Nat → Nat → Int64) (R : Nat → Nat → Nat) (Q : Option Value → Hp → Prop) (x0 : Int32) (i : Nat), C i = 4 → (Wp 30 25 (ls) (.int x0 :: .ref i :: st) (n, sl, C, Z, I, L, R) Q ↔ (wsum st ≤ 8 ∧ Call 23 [some (.ref i), some (.int x0), none, none, none] (n, sl, C, Z, I, L, R) 30 28 ls st Q))) ∧
  (∀ (ls : Lo) (st : List Value) (n sl : Nat) (C Z : Nat → Nat) (I : Nat → Nat → Int32) (L : Nat → Nat → Int64) (R : Nat → Nat → Nat) (Q : Option Value → Hp → Prop) (i : Nat) (y : Int32) (a : Int64), Wp 30 28 (ls) (.long a :: .int y :: .ref i :: st) (n, sl, C, Z, I, L, R) Q ↔ ((inb y (Z i) = true ∧ C i = 22) ∧ Wp 30 29 (ls) (st) (n, sl, C, Z, I, u2 L i (ix y) a, R) Q)) ∧
  (∀ (ls : Lo) (st : List Value) (h : Hp) (Q : Option Value → Hp → Prop) (l0 l1 : Option Value) (x : Int32), Wp 30 29 (l0 :: l1 :: some (.int x) :: ls) (st) h Q ↔ Wp 30 32 (l0 :: clr l1 :: some (.int (x + (1))) :: ls) (st) h Q) ∧
  (∀ (ls : Lo) (st : List Value) (h : Hp) (Q : Option Value → Hp → Prop), Wp 30 32 (ls) (st) h Q ↔ Wp 30 9 (ls) (st) h Q) ∧
  (∀ (ls : Lo) (st : List Value) (h : Hp) (Q : Option Value → Hp → Prop) (l0 : Option Value) (x : Int32), Wp 30 35 (l0 :: some (.int x) :: ls) (st) h Q ↔ Wp 30 38 (clr l0 :: some (.int (x + (1))) :: ls) (st) h Q) ∧
  (∀ (ls : Lo) (st : List Value) (h : Hp) (Q : Option Value → Hp → Prop), Wp 30 38 (ls) (st) h Q ↔ Wp 30 2 (ls) (st) h Q) := ⟨by intro ls st h Q; exact e_iconst d30_0 rfl,
  by intro ls st h Q l0 l1 x; exact e_istore_n d30_1 rfl,
  by intro ls st h Q l0 x; exact e_iload_n d30_2 rfl,
  by intro ls st h Q; exact e_iconst d30_3 rfl,
  by intro ls st h Q x y; exact e_ic d30_4 (by decide) c_ge,
  by intro ls st h Q; exact e_iconst d30_7 rfl,
  by intro ls st h Q l0 l1 l2 x; exact e_istore_n d30_8 rfl,
  by intro ls st h Q l0 l1 x; exact e_iload_n d30_9 rfl,
  by intro ls st h Q; exact e_iconst d30_10 rfl,
  by intro ls st h Q x y; exact e_ic d30_11 (by decide) c_ge,
  by intro ls st h Q i; exact e_aload_n d30_14 rfl,
  by intro ls st n sl C Z I L R Q i; exact e_get (g := 3) (s := 4) (ty := 2) d30_15 rfl rfl (inG_ne (by decide)),
  by intro ls st h Q l0 x; exact e_iload_n d30_18 rfl,
  by intro ls st n sl C Z I L R Q i y; exact e_aald d30_19,
  by intro ls st h Q l0 l1 x; exact e_iload_n d30_20 rfl,
  by intro ls st h Q i; exact e_aload_n d30_21 rfl,
  by intro ls st h Q l0 x; exact e_iload_n d30_22 rfl,
  by intro ls st h Q l0 l1 x; exact e_iload_n d30_23 rfl,
  by intro ls st h Q x y; exact e_iadd d30_24,
  by intro ls st n sl C Z I L R Q x0 i hh; exact e_iv (k2 := 23) (c := 4) (as := [.int x0]) d30_25 rfl (by decide) rfl rfl (by decide +kernel) (Nat.le_of_ble_eq_true rfl) rfl hh,
  by intro ls st n sl C Z I L R Q i y a; exact e_last d30_28,
  by intro ls st h Q l0 l1 x; exact e_iinc d30_29 rfl rfl rfl,
  by intro ls st h Q; exact e_goto d30_32 (by decide),
  by intro ls st h Q l0 x; exact e_iinc d30_35 rfl rfl rfl,
  by intro ls st h Q; exact e_goto d30_38 (by decide)⟩
set_option maxRecDepth 20000 in
theorem S30_1 : (∀ (ls : Lo) (st : List Value) (h : Hp) (Q : Option Value → Hp → Prop)  (i : Nat), Wp 30 41 (some (.ref i) :: ls) (st) h Q ↔ Wp 30 42 (some (.ref i) :: ls) (.ref i :: st) h Q) ∧
  (∀ (ls : Lo) (st : List Value) (n sl : Nat) (C Z : Nat → Nat) (I : Nat → Nat → Int32) (L : Nat → Nat → Int64) (R : Nat → Nat → Nat) (Q : Option Value → Hp → Prop) (i : Nat), Wp 30 42 (ls) (.ref i :: st) (n, sl, C, Z, I, L, R) Q ↔ (C i = 4 ∧ Wp 30 45 (ls) (.ref (R i 4) :: st) (n, sl, C, Z, I, L, R) Q)) ∧
  (∀ (ls : Lo) (st : List Value) (h : Hp) (Q : Option Value → Hp → Prop), Wp 30 45 (ls) (st) h Q ↔ Wp 30 46 (ls) (.int (3) :: st) h Q) ∧
  (∀ (ls : Lo) (st : List Value) (h : Hp) (Q : Option Value → Hp → Prop) (x0 : Nat) (x1 : Int32), Wp 30 46 (ls) (.int x1 :: .ref x0 :: st) h Q ↔ (wsum st ≤ 8 ∧ Call 44 [some (.ref x0), some (.int x1), none, none, none, none] h 30 49 ls st Q)) ∧
  (∀ (ls : Lo) (h : Hp) (Q : Option Value → Hp → Prop) (x : Int32), Wp 30 49 (ls) ([.int x]) h Q ↔ Q (some (.int x)) h) := ⟨by intro ls st h Q i; exact e_aload_n d30_41 rfl,
  by intro ls st n sl C Z I L R Q i; exact e_get (g := 3) (s := 4) (ty := 2) d30_42 rfl rfl (inG_ne (by decide)),
  by intro ls st h Q; exact e_iconst d30_45 rfl,
  by intro ls st h Q x0 x1; exact e_is (k2 := 44) (as := [.ref x0, .int x1]) d30_46 rfl (by decide) rfl rfl (by decide +kernel) (Nat.le_of_ble_eq_true rfl) rfl,
  by intros; exact e_rI (p := True) d30_49 rfl⟩
theorem d31_0 : decode (byt 31) 0 = .ok (.iload_n 2, 1) := by decide +kernel
theorem d31_1 : decode (byt 31) 1 = .ok (.ifCond .ne 21, 3) := by decide +kernel
theorem d31_4 : decode (byt 31) 4 = .ok (.aload_n 1, 1) := by decide +kernel
theorem d31_5 : decode (byt 31) 5 = .ok (.aload_n 0, 1) := by decide +kernel
theorem d31_6 : decode (byt 31) 6 = .ok (.getfield 14, 3) := by decide +kernel
theorem d31_9 : decode (byt 31) 9 = .ok (.getfield 85, 3) := by decide +kernel
theorem d31_12 : decode (byt 31) 12 = .ok (.iconst 0, 1) := by decide +kernel
theorem d31_13 : decode (byt 31) 13 = .ok (.iaload, 1) := by decide +kernel
theorem d31_14 : decode (byt 31) 14 = .ok (.i2l, 1) := by decide +kernel
theorem d31_15 : decode (byt 31) 15 = .ok (.lconst 1, 1) := by decide +kernel
theorem d31_16 : decode (byt 31) 16 = .ok (.invokevirtual 123, 3) := by decide +kernel
theorem d31_19 : decode (byt 31) 19 = .ok (.goto 27, 3) := by decide +kernel
theorem d31_22 : decode (byt 31) 22 = .ok (.aload_n 1, 1) := by decide +kernel
theorem d31_23 : decode (byt 31) 23 = .ok (.aload_n 0, 1) := by decide +kernel
theorem d31_24 : decode (byt 31) 24 = .ok (.iload_n 2, 1) := by decide +kernel
theorem d31_25 : decode (byt 31) 25 = .ok (.iconst 1, 1) := by decide +kernel
theorem d31_26 : decode (byt 31) 26 = .ok (.isub, 1) := by decide +kernel
theorem d31_27 : decode (byt 31) 27 = .ok (.invokevirtual 91, 3) := by decide +kernel
theorem d31_30 : decode (byt 31) 30 = .ok (.aload_n 0, 1) := by decide +kernel
theorem d31_31 : decode (byt 31) 31 = .ok (.getfield 14, 3) := by decide +kernel
theorem d31_34 : decode (byt 31) 34 = .ok (.getfield 88, 3) := by decide +kernel
theorem d31_37 : decode (byt 31) 37 = .ok (.iload_n 2, 1) := by decide +kernel
theorem d31_38 : decode (byt 31) 38 = .ok (.iconst 1, 1) := by decide +kernel
theorem d31_39 : decode (byt 31) 39 = .ok (.isub, 1) := by decide +kernel
theorem d31_40 : decode (byt 31) 40 = .ok (.invokestatic 104, 3) := by decide +kernel
theorem d31_43 : decode (byt 31) 43 = .ok (.invokevirtual 123, 3) := by decide +kernel
theorem d31_46 : decode (byt 31) 46 = .ok (.return_, 1) := by decide +kernel
set_option maxRecDepth 20000 in
theorem S31_0 : (∀ (ls : Lo) (st : List Value) (h : Hp) (Q : Option Value → Hp → Prop) (l0 l1 : Option Value) (x : Int32), Wp 31 0 (l0 :: l1 :: some (.int x) :: ls) (st) h Q ↔ Wp 31 1 (l0 :: l1 :: some (.int x) :: ls) (.int x :: st) h Q) ∧
  (∀ (ls : Lo) (st : List Value) (h : Hp) (Q : Option Value → Hp → Prop) (x : Int32), Wp 31 1 (ls) (.int x :: st) h Q ↔ Br 31 22 4 ls st h Q (¬ x = 0)) ∧
  (∀ (ls : Lo) (st : List Value) (h : Hp) (Q : Option Value → Hp → Prop) (l0 : Option Value) (i : Nat), Wp 31 4 (l0 :: some (.ref i) :: ls) (st) h Q ↔ Wp 31 5 (l0 :: some (.ref i) :: ls) (.ref i :: st) h Q) ∧
  (∀ (ls : Lo) (st : List Value) (h : Hp) (Q : Option Value → Hp → Prop)  (i : Nat), Wp 31 5 (some (.ref i) :: ls) (st) h Q ↔ Wp 31 6 (some (.ref i) :: ls) (.ref i :: st) h Q) ∧
  (∀ (ls : Lo) (st : List Value) (n sl : Nat) (C Z : Nat → Nat) (I : Nat → Nat → Int32) (L : Nat → Nat → Int64) (R : Nat → Nat → Nat) (Q : Option Value → Hp → Prop) (i : Nat), Wp 31 6 (ls) (.ref i :: st) (n, sl, C, Z, I, L, R) Q ↔ (C i = 4 ∧ Wp 31 9 (ls) (.ref (R i 0) :: st) (n, sl, C, Z, I, L, R) Q)) ∧
  (∀ (ls : Lo) (st : List Value) (n sl : Nat) (C Z : Nat → Nat) (I : Nat → Nat → Int32) (L : Nat → Nat → Int64) (R : Nat → Nat → Nat) (Q : Option Value → Hp → Prop) (i : Nat), Wp 31 9 (ls) (.ref i :: st) (n, sl, C, Z, I, L, R) Q ↔ (inG 7 (C i) = true ∧ Wp 31 12 (ls) (.ref (R i 6) :: st) (n, sl, C, Z, I, L, R) Q)) ∧
  (∀ (ls : Lo) (st : List Value) (h : Hp) (Q : Option Value → Hp → Prop), Wp 31 12 (ls) (st) h Q ↔ Wp 31 13 (ls) (.int (0) :: st) h Q) ∧
  (∀ (ls : Lo) (st : List Value) (n sl : Nat) (C Z : Nat → Nat) (I : Nat → Nat → Int32) (L : Nat → Nat → Int64) (R : Nat → Nat → Nat) (Q : Option Value → Hp → Prop) (i : Nat) (y : Int32), Wp 31 13 (ls) (.int y :: .ref i :: st) (n, sl, C, Z, I, L, R) Q ↔ ((inb y (Z i) = true ∧ C i = 21) ∧ Wp 31 14 (ls) (.int (I i (ix y)) :: st) (n, sl, C, Z, I, L, R) Q)) ∧
  (∀ (ls : Lo) (st : List Value) (h : Hp) (Q : Option Value → Hp → Prop) (x : Int32), Wp 31 14 (ls) (.int x :: st) h Q ↔ Wp 31 15 (ls) (.long x.toInt64 :: st) h Q) ∧
  (∀ (ls : Lo) (st : List Value) (h : Hp) (Q : Option Value → Hp → Prop), Wp 31 15 (ls) (st) h Q ↔ Wp 31 16 (ls) (.long 1 :: st) h Q) ∧
  (∀ (ls : Lo) (st : List Value) (n sl : Nat) (C Z : Nat → Nat) (I : Nat → Nat → Int32) (L : Nat → Nat → Int64) (R : Nat → Nat → Nat) (Q : Option Value → Hp → Prop) (x0 : Int64) (x1 : Int64) (i : Nat), C i = 3 → (Wp 31 16 (ls) (.long x1 :: .long x0 :: .ref i :: st) (n, sl, C, Z, I, L, R) Q ↔ (wsum st ≤ 8 ∧ Call 13 [some (.ref i), some (.long x0), none, some (.long x1), none, none, none, none, none] (n, sl, C, Z, I, L, R) 31 19 ls st Q))) ∧
  (∀ (ls : Lo) (st : List Value) (h : Hp) (Q : Option Value → Hp → Prop), Wp 31 19 (ls) (st) h Q ↔ Wp 31 46 (ls) (st) h Q) ∧
  (∀ (ls : Lo) (st : List Value) (h : Hp) (Q : Option Value → Hp → Prop) (l0 : Option Value) (i : Nat), Wp 31 22 (l0 :: some (.ref i) :: ls) (st) h Q ↔ Wp 31 23 (l0 :: some (.ref i) :: ls) (.ref i :: st) h Q) ∧
  (∀ (ls : Lo) (st : List Value) (h : Hp) (Q : Option Value → Hp → Prop)  (i : Nat), Wp 31 23 (some (.ref i) :: ls) (st) h Q ↔ Wp 31 24 (some (.ref i) :: ls) (.ref i :: st) h Q) ∧
  (∀ (ls : Lo) (st : List Value) (h : Hp) (Q : Option Value → Hp → Prop) (l0 l1 : Option Value) (x : Int32), Wp 31 24 (l0 :: l1 :: some (.int x) :: ls) (st) h Q ↔ Wp 31 25 (l0 :: l1 :: some (.int x) :: ls) (.int x :: st) h Q) ∧
  (∀ (ls : Lo) (st : List Value) (h : Hp) (Q : Option Value → Hp → Prop), Wp 31 25 (ls) (st) h Q ↔ Wp 31 26 (ls) (.int (1) :: st) h Q) ∧
  (∀ (ls : Lo) (st : List Value) (h : Hp) (Q : Option Value → Hp → Prop) (x y : Int32), Wp 31 26 (ls) (.int y :: .int x :: st) h Q ↔ Wp 31 27 (ls) (.int (x - y) :: st) h Q) ∧
  (∀ (ls : Lo) (st : List Value) (n sl : Nat) (C Z : Nat → Nat) (I : Nat → Nat → Int32) (L : Nat → Nat → Int64) (R : Nat → Nat → Nat) (Q : Option Value → Hp → Prop) (x0 : Int32) (i : Nat), C i = 4 → (Wp 31 27 (ls) (.int x0 :: .ref i :: st) (n, sl, C, Z, I, L, R) Q ↔ (wsum st ≤ 8 ∧ Call 23 [some (.ref i), some (.int x0), none, none, none] (n, sl, C, Z, I, L, R) 31 30 ls st Q))) ∧
  (∀ (ls : Lo) (st : List Value) (h : Hp) (Q : Option Value → Hp → Prop)  (i : Nat), Wp 31 30 (some (.ref i) :: ls) (st) h Q ↔ Wp 31 31 (some (.ref i) :: ls) (.ref i :: st) h Q) ∧
  (∀ (ls : Lo) (st : List Value) (n sl : Nat) (C Z : Nat → Nat) (I : Nat → Nat → Int32) (L : Nat → Nat → Int64) (R : Nat → Nat → Nat) (Q : Option Value → Hp → Prop) (i : Nat), Wp 31 31 (ls) (.ref i :: st) (n, sl, C, Z, I, L, R) Q ↔ (C i = 4 ∧ Wp 31 34 (ls) (.ref (R i 0) :: st) (n, sl, C, Z, I, L, R) Q)) ∧
  (∀ (ls : Lo) (st : List Value) (n sl : Nat) (C Z : Nat → Nat) (I : Nat → Nat → Int32) (L : Nat → Nat → Int64) (R : Nat → Nat → Nat) (Q : Option Value → Hp → Prop) (i : Nat), Wp 31 34 (ls) (.ref i :: st) (n, sl, C, Z, I, L, R) Q ↔ (inG 7 (C i) = true ∧ Wp 31 37 (ls) (.int (I i 2) :: st) (n, sl, C, Z, I, L, R) Q)) ∧
  (∀ (ls : Lo) (st : List Value) (h : Hp) (Q : Option Value → Hp → Prop) (l0 l1 : Option Value) (x : Int32), Wp 31 37 (l0 :: l1 :: some (.int x) :: ls) (st) h Q ↔ Wp 31 38 (l0 :: l1 :: some (.int x) :: ls) (.int x :: st) h Q) ∧
  (∀ (ls : Lo) (st : List Value) (h : Hp) (Q : Option Value → Hp → Prop), Wp 31 38 (ls) (st) h Q ↔ Wp 31 39 (ls) (.int (1) :: st) h Q) ∧
  (∀ (ls : Lo) (st : List Value) (h : Hp) (Q : Option Value → Hp → Prop) (x y : Int32), Wp 31 39 (ls) (.int y :: .int x :: st) h Q ↔ Wp 31 40 (ls) (.int (x - y) :: st) h Q) ∧
  (∀ (ls : Lo) (st : List Value) (h : Hp) (Q : Option Value → Hp → Prop) (x0 : Int32) (x1 : Int32), Wp 31 40 (ls) (.int x1 :: .int x0 :: st) h Q ↔ (wsum st ≤ 8 ∧ Call 89 [some (.int x0), some (.int x1), none, none, none] h 31 43 ls st Q)) := ⟨by intro ls st h Q l0 l1 x; exact e_iload_n d31_0 rfl,
  by intro ls st h Q x; exact e_if d31_1 (by decide) c_ne,
  by intro ls st h Q l0 i; exact e_aload_n d31_4 rfl,
  by intro ls st h Q i; exact e_aload_n d31_5 rfl,
  by intro ls st n sl C Z I L R Q i; exact e_get (g := 3) (s := 0) (ty := 2) d31_6 rfl rfl (inG_ne (by decide)),
  by intro ls st n sl C Z I L R Q i; exact e_get (g := 7) (s := 6) (ty := 2) d31_9 rfl rfl rfl,
  by intro ls st h Q; exact e_iconst d31_12 rfl,
  by intro ls st n sl C Z I L R Q i y; exact e_iald d31_13,
  by intro ls st h Q x; exact e_i2l d31_14,
  by intro ls st h Q; exact e_lconst d31_15 rfl,
  by intro ls st n sl C Z I L R Q x0 x1 i hh; exact e_iv (k2 := 13) (c := 3) (as := [.long x0, .long x1]) d31_16 rfl (by decide) rfl rfl (by decide +kernel) (Nat.le_of_ble_eq_true rfl) rfl hh,
  by intro ls st h Q; exact e_goto d31_19 (by decide),
  by intro ls st h Q l0 i; exact e_aload_n d31_22 rfl,
  by intro ls st h Q i; exact e_aload_n d31_23 rfl,
  by intro ls st h Q l0 l1 x; exact e_iload_n d31_24 rfl,
  by intro ls st h Q; exact e_iconst d31_25 rfl,
  by intro ls st h Q x y; exact e_isub d31_26,
  by intro ls st n sl C Z I L R Q x0 i hh; exact e_iv (k2 := 23) (c := 4) (as := [.int x0]) d31_27 rfl (by decide) rfl rfl (by decide +kernel) (Nat.le_of_ble_eq_true rfl) rfl hh,
  by intro ls st h Q i; exact e_aload_n d31_30 rfl,
  by intro ls st n sl C Z I L R Q i; exact e_get (g := 3) (s := 0) (ty := 2) d31_31 rfl rfl (inG_ne (by decide)),
  by intro ls st n sl C Z I L R Q i; exact e_get (g := 7) (s := 2) (ty := 0) d31_34 rfl rfl rfl,
  by intro ls st h Q l0 l1 x; exact e_iload_n d31_37 rfl,
  by intro ls st h Q; exact e_iconst d31_38 rfl,
  by intro ls st h Q x y; exact e_isub d31_39,
  by intro ls st h Q x0 x1; exact e_is (k2 := 89) (as := [.int x0, .int x1]) d31_40 rfl (by decide) rfl rfl (by decide +kernel) (Nat.le_of_ble_eq_true rfl) rfl⟩
set_option maxRecDepth 20000 in
theorem S31_1 : (∀ (ls : Lo) (st : List Value) (n sl : Nat) (C Z : Nat → Nat) (I : Nat → Nat → Int32) (L : Nat → Nat → Int64) (R : Nat → Nat → Nat) (Q : Option Value → Hp → Prop) (x0 : Int64) (x1 : Int64) (i : Nat), C i = 3 → (Wp 31 43 (ls) (.long x1 :: .long x0 :: .ref i :: st) (n, sl, C, Z, I, L, R) Q ↔ (wsum st ≤ 8 ∧ Call 13 [some (.ref i), some (.long x0), none, some (.long x1), none, none, none, none, none] (n, sl, C, Z, I, L, R) 31 46 ls st Q))) ∧
  (∀ (ls : Lo) (h : Hp) (Q : Option Value → Hp → Prop), Wp 31 46 (ls) ([]) h Q ↔ Q none h) := ⟨by intro ls st n sl C Z I L R Q x0 x1 i hh; exact e_iv (k2 := 13) (c := 3) (as := [.long x0, .long x1]) d31_43 rfl (by decide) rfl rfl (by decide +kernel) (Nat.le_of_ble_eq_true rfl) rfl hh,
  by intros; exact e_rV d31_46 rfl⟩
theorem d32_0 : decode (byt 32) 0 = .ok (.iload_n 3, 1) := by decide +kernel
theorem d32_1 : decode (byt 32) 1 = .ok (.istore 4, 2) := by decide +kernel
theorem d32_3 : decode (byt 32) 3 = .ok (.lconst 0, 1) := by decide +kernel
theorem d32_4 : decode (byt 32) 4 = .ok (.lstore 5, 2) := by decide +kernel
theorem d32_6 : decode (byt 32) 6 = .ok (.iconst 0, 1) := by decide +kernel
theorem d32_7 : decode (byt 32) 7 = .ok (.istore 7, 2) := by decide +kernel
theorem d32_9 : decode (byt 32) 9 = .ok (.iload 7, 2) := by decide +kernel
theorem d32_11 : decode (byt 32) 11 = .ok (.iload_n 2, 1) := by decide +kernel
theorem d32_12 : decode (byt 32) 12 = .ok (.if_icmp .ge 55, 3) := by decide +kernel
theorem d32_15 : decode (byt 32) 15 = .ok (.lload 5, 2) := by decide +kernel
theorem d32_17 : decode (byt 32) 17 = .ok (.aload_n 0, 1) := by decide +kernel
theorem d32_18 : decode (byt 32) 18 = .ok (.iload_n 2, 1) := by decide +kernel
theorem d32_19 : decode (byt 32) 19 = .ok (.iconst 1, 1) := by decide +kernel
theorem d32_20 : decode (byt 32) 20 = .ok (.isub, 1) := by decide +kernel
theorem d32_21 : decode (byt 32) 21 = .ok (.iload 7, 2) := by decide +kernel
theorem d32_23 : decode (byt 32) 23 = .ok (.isub, 1) := by decide +kernel
theorem d32_24 : decode (byt 32) 24 = .ok (.invokevirtual 91, 3) := by decide +kernel
theorem d32_27 : decode (byt 32) 27 = .ok (.aload_n 0, 1) := by decide +kernel
theorem d32_28 : decode (byt 32) 28 = .ok (.getfield 14, 3) := by decide +kernel
theorem d32_31 : decode (byt 32) 31 = .ok (.getfield 88, 3) := by decide +kernel
theorem d32_34 : decode (byt 32) 34 = .ok (.iload 7, 2) := by decide +kernel
theorem d32_36 : decode (byt 32) 36 = .ok (.iconst 1, 1) := by decide +kernel
theorem d32_37 : decode (byt 32) 37 = .ok (.iadd, 1) := by decide +kernel
theorem d32_38 : decode (byt 32) 38 = .ok (.invokestatic 104, 3) := by decide +kernel
theorem d32_41 : decode (byt 32) 41 = .ok (.lmul, 1) := by decide +kernel
theorem d32_42 : decode (byt 32) 42 = .ok (.iload 4, 2) := by decide +kernel
theorem d32_44 : decode (byt 32) 44 = .ok (.bipush 7, 2) := by decide +kernel
theorem d32_46 : decode (byt 32) 46 = .ok (.irem, 1) := by decide +kernel
theorem d32_47 : decode (byt 32) 47 = .ok (.iconst 3, 1) := by decide +kernel
theorem d32_48 : decode (byt 32) 48 = .ok (.isub, 1) := by decide +kernel
theorem d32_49 : decode (byt 32) 49 = .ok (.i2l, 1) := by decide +kernel
theorem d32_50 : decode (byt 32) 50 = .ok (.lmul, 1) := by decide +kernel
theorem d32_51 : decode (byt 32) 51 = .ok (.ladd, 1) := by decide +kernel
theorem d32_52 : decode (byt 32) 52 = .ok (.lstore 5, 2) := by decide +kernel
theorem d32_54 : decode (byt 32) 54 = .ok (.iload 4, 2) := by decide +kernel
theorem d32_56 : decode (byt 32) 56 = .ok (.bipush 7, 2) := by decide +kernel
theorem d32_58 : decode (byt 32) 58 = .ok (.idiv, 1) := by decide +kernel
theorem d32_59 : decode (byt 32) 59 = .ok (.istore 4, 2) := by decide +kernel
theorem d32_61 : decode (byt 32) 61 = .ok (.iinc 7 1, 3) := by decide +kernel
theorem d32_64 : decode (byt 32) 64 = .ok (.goto (-55), 3) := by decide +kernel
theorem d32_67 : decode (byt 32) 67 = .ok (.aload_n 0, 1) := by decide +kernel
theorem d32_68 : decode (byt 32) 68 = .ok (.getfield 14, 3) := by decide +kernel
theorem d32_71 : decode (byt 32) 71 = .ok (.getfield 88, 3) := by decide +kernel
theorem d32_74 : decode (byt 32) 74 = .ok (.iload_n 2, 1) := by decide +kernel
theorem d32_75 : decode (byt 32) 75 = .ok (.invokestatic 104, 3) := by decide +kernel
theorem d32_78 : decode (byt 32) 78 = .ok (.lstore 7, 2) := by decide +kernel
theorem d32_80 : decode (byt 32) 80 = .ok (.aload_n 1, 1) := by decide +kernel
theorem d32_81 : decode (byt 32) 81 = .ok (.lload 5, 2) := by decide +kernel
theorem d32_83 : decode (byt 32) 83 = .ok (.aload_n 0, 1) := by decide +kernel
theorem d32_84 : decode (byt 32) 84 = .ok (.getfield 14, 3) := by decide +kernel
theorem d32_87 : decode (byt 32) 87 = .ok (.getfield 85, 3) := by decide +kernel
theorem d32_90 : decode (byt 32) 90 = .ok (.iconst 0, 1) := by decide +kernel
theorem d32_91 : decode (byt 32) 91 = .ok (.iaload, 1) := by decide +kernel
theorem d32_92 : decode (byt 32) 92 = .ok (.i2l, 1) := by decide +kernel
theorem d32_93 : decode (byt 32) 93 = .ok (.lload 7, 2) := by decide +kernel
theorem d32_95 : decode (byt 32) 95 = .ok (.lmul, 1) := by decide +kernel
theorem d32_96 : decode (byt 32) 96 = .ok (.iload 4, 2) := by decide +kernel
theorem d32_98 : decode (byt 32) 98 = .ok (.iconst 3, 1) := by decide +kernel
theorem d32_99 : decode (byt 32) 99 = .ok (.isub, 1) := by decide +kernel
theorem d32_100 : decode (byt 32) 100 = .ok (.i2l, 1) := by decide +kernel
theorem d32_101 : decode (byt 32) 101 = .ok (.lmul, 1) := by decide +kernel
theorem d32_102 : decode (byt 32) 102 = .ok (.ladd, 1) := by decide +kernel
theorem d32_103 : decode (byt 32) 103 = .ok (.lload 7, 2) := by decide +kernel
theorem d32_105 : decode (byt 32) 105 = .ok (.invokevirtual 123, 3) := by decide +kernel
theorem d32_108 : decode (byt 32) 108 = .ok (.return_, 1) := by decide +kernel
set_option maxRecDepth 20000 in
theorem S32_0 : (∀ (ls : Lo) (st : List Value) (h : Hp) (Q : Option Value → Hp → Prop) (l0 l1 l2 : Option Value) (x : Int32), Wp 32 0 (l0 :: l1 :: l2 :: some (.int x) :: ls) (st) h Q ↔ Wp 32 1 (l0 :: l1 :: l2 :: some (.int x) :: ls) (.int x :: st) h Q) ∧
  (∀ (ls : Lo) (st : List Value) (h : Hp) (Q : Option Value → Hp → Prop) (l0 l1 l2 l3 l4 : Option Value) (x : Int32), Wp 32 1 (l0 :: l1 :: l2 :: l3 :: l4 :: ls) (.int x :: st) h Q ↔ Wp 32 3 (l0 :: l1 :: l2 :: clr l3 :: some (.int x) :: ls) (st) h Q) ∧
  (∀ (ls : Lo) (st : List Value) (h : Hp) (Q : Option Value → Hp → Prop), Wp 32 3 (ls) (st) h Q ↔ Wp 32 4 (ls) (.long 0 :: st) h Q) ∧
  (∀ (ls : Lo) (st : List Value) (h : Hp) (Q : Option Value → Hp → Prop) (l0 l1 l2 l3 l4 l5 l6 : Option Value) (a : Int64), Wp 32 4 (l0 :: l1 :: l2 :: l3 :: l4 :: l5 :: l6 :: ls) (.long a :: st) h Q ↔ Wp 32 6 (l0 :: l1 :: l2 :: l3 :: clr l4 :: some (.long a) :: none :: ls) (st) h Q) ∧
  (∀ (ls : Lo) (st : List Value) (h : Hp) (Q : Option Value → Hp → Prop), Wp 32 6 (ls) (st) h Q ↔ Wp 32 7 (ls) (.int (0) :: st) h Q) ∧
  (∀ (ls : Lo) (st : List Value) (h : Hp) (Q : Option Value → Hp → Prop) (l0 l1 l2 l3 l4 l5 l6 l7 : Option Value) (x : Int32), Wp 32 7 (l0 :: l1 :: l2 :: l3 :: l4 :: l5 :: l6 :: l7 :: ls) (.int x :: st) h Q ↔ Wp 32 9 (l0 :: l1 :: l2 :: l3 :: l4 :: l5 :: clr l6 :: some (.int x) :: ls) (st) h Q) ∧
  (∀ (ls : Lo) (st : List Value) (h : Hp) (Q : Option Value → Hp → Prop) (l0 l1 l2 l3 l4 l5 l6 : Option Value) (x : Int32), Wp 32 9 (l0 :: l1 :: l2 :: l3 :: l4 :: l5 :: l6 :: some (.int x) :: ls) (st) h Q ↔ Wp 32 11 (l0 :: l1 :: l2 :: l3 :: l4 :: l5 :: l6 :: some (.int x) :: ls) (.int x :: st) h Q) ∧
  (∀ (ls : Lo) (st : List Value) (h : Hp) (Q : Option Value → Hp → Prop) (l0 l1 : Option Value) (x : Int32), Wp 32 11 (l0 :: l1 :: some (.int x) :: ls) (st) h Q ↔ Wp 32 12 (l0 :: l1 :: some (.int x) :: ls) (.int x :: st) h Q) ∧
  (∀ (ls : Lo) (st : List Value) (h : Hp) (Q : Option Value → Hp → Prop) (x y : Int32), Wp 32 12 (ls) (.int y :: .int x :: st) h Q ↔ Br 32 67 15 ls st h Q (y ≤ x)) ∧
  (∀ (ls : Lo) (st : List Value) (h : Hp) (Q : Option Value → Hp → Prop) (l0 l1 l2 l3 l4 : Option Value) (a : Int64), Wp 32 15 (l0 :: l1 :: l2 :: l3 :: l4 :: some (.long a) :: ls) (st) h Q ↔ Wp 32 17 (l0 :: l1 :: l2 :: l3 :: l4 :: some (.long a) :: ls) (.long a :: st) h Q) ∧
  (∀ (ls : Lo) (st : List Value) (h : Hp) (Q : Option Value → Hp → Prop)  (i : Nat), Wp 32 17 (some (.ref i) :: ls) (st) h Q ↔ Wp 32 18 (some (.ref i) :: ls) (.ref i :: st) h Q) ∧
  (∀ (ls : Lo) (st : List Value) (h : Hp) (Q : Option Value → Hp → Prop) (l0 l1 : Option Value) (x : Int32), Wp 32 18 (l0 :: l1 :: some (.int x) :: ls) (st) h Q ↔ Wp 32 19 (l0 :: l1 :: some (.int x) :: ls) (.int x :: st) h Q) ∧
  (∀ (ls : Lo) (st : List Value) (h : Hp) (Q : Option Value → Hp → Prop), Wp 32 19 (ls) (st) h Q ↔ Wp 32 20 (ls) (.int (1) :: st) h Q) ∧
  (∀ (ls : Lo) (st : List Value) (h : Hp) (Q : Option Value → Hp → Prop) (x y : Int32), Wp 32 20 (ls) (.int y :: .int x :: st) h Q ↔ Wp 32 21 (ls) (.int (x - y) :: st) h Q) ∧
  (∀ (ls : Lo) (st : List Value) (h : Hp) (Q : Option Value → Hp → Prop) (l0 l1 l2 l3 l4 l5 l6 : Option Value) (x : Int32), Wp 32 21 (l0 :: l1 :: l2 :: l3 :: l4 :: l5 :: l6 :: some (.int x) :: ls) (st) h Q ↔ Wp 32 23 (l0 :: l1 :: l2 :: l3 :: l4 :: l5 :: l6 :: some (.int x) :: ls) (.int x :: st) h Q) ∧
  (∀ (ls : Lo) (st : List Value) (h : Hp) (Q : Option Value → Hp → Prop) (x y : Int32), Wp 32 23 (ls) (.int y :: .int x :: st) h Q ↔ Wp 32 24 (ls) (.int (x - y) :: st) h Q) ∧
  (∀ (ls : Lo) (st : List Value) (n sl : Nat) (C Z : Nat → Nat) (I : Nat → Nat → Int32) (L : Nat → Nat → Int64) (R : Nat → Nat → Nat) (Q : Option Value → Hp → Prop) (x0 : Int32) (i : Nat), C i = 4 → (Wp 32 24 (ls) (.int x0 :: .ref i :: st) (n, sl, C, Z, I, L, R) Q ↔ (wsum st ≤ 8 ∧ Call 23 [some (.ref i), some (.int x0), none, none, none] (n, sl, C, Z, I, L, R) 32 27 ls st Q))) ∧
  (∀ (ls : Lo) (st : List Value) (h : Hp) (Q : Option Value → Hp → Prop)  (i : Nat), Wp 32 27 (some (.ref i) :: ls) (st) h Q ↔ Wp 32 28 (some (.ref i) :: ls) (.ref i :: st) h Q) ∧
  (∀ (ls : Lo) (st : List Value) (n sl : Nat) (C Z : Nat → Nat) (I : Nat → Nat → Int32) (L : Nat → Nat → Int64) (R : Nat → Nat → Nat) (Q : Option Value → Hp → Prop) (i : Nat), Wp 32 28 (ls) (.ref i :: st) (n, sl, C, Z, I, L, R) Q ↔ (C i = 4 ∧ Wp 32 31 (ls) (.ref (R i 0) :: st) (n, sl, C, Z, I, L, R) Q)) ∧
  (∀ (ls : Lo) (st : List Value) (n sl : Nat) (C Z : Nat → Nat) (I : Nat → Nat → Int32) (L : Nat → Nat → Int64) (R : Nat → Nat → Nat) (Q : Option Value → Hp → Prop) (i : Nat), Wp 32 31 (ls) (.ref i :: st) (n, sl, C, Z, I, L, R) Q ↔ (inG 7 (C i) = true ∧ Wp 32 34 (ls) (.int (I i 2) :: st) (n, sl, C, Z, I, L, R) Q)) ∧
  (∀ (ls : Lo) (st : List Value) (h : Hp) (Q : Option Value → Hp → Prop) (l0 l1 l2 l3 l4 l5 l6 : Option Value) (x : Int32), Wp 32 34 (l0 :: l1 :: l2 :: l3 :: l4 :: l5 :: l6 :: some (.int x) :: ls) (st) h Q ↔ Wp 32 36 (l0 :: l1 :: l2 :: l3 :: l4 :: l5 :: l6 :: some (.int x) :: ls) (.int x :: st) h Q) ∧
  (∀ (ls : Lo) (st : List Value) (h : Hp) (Q : Option Value → Hp → Prop), Wp 32 36 (ls) (st) h Q ↔ Wp 32 37 (ls) (.int (1) :: st) h Q) ∧
  (∀ (ls : Lo) (st : List Value) (h : Hp) (Q : Option Value → Hp → Prop) (x y : Int32), Wp 32 37 (ls) (.int y :: .int x :: st) h Q ↔ Wp 32 38 (ls) (.int (x + y) :: st) h Q) ∧
  (∀ (ls : Lo) (st : List Value) (h : Hp) (Q : Option Value → Hp → Prop) (x0 : Int32) (x1 : Int32), Wp 32 38 (ls) (.int x1 :: .int x0 :: st) h Q ↔ (wsum st ≤ 8 ∧ Call 89 [some (.int x0), some (.int x1), none, none, none] h 32 41 ls st Q)) ∧
  (∀ (ls : Lo) (st : List Value) (h : Hp) (Q : Option Value → Hp → Prop) (a b : Int64), Wp 32 41 (ls) (.long b :: .long a :: st) h Q ↔ Wp 32 42 (ls) (.long (a * b) :: st) h Q) := ⟨by intro ls st h Q l0 l1 l2 x; exact e_iload_n d32_0 rfl,
  by intro ls st h Q l0 l1 l2 l3 l4 x; exact e_istore d32_1 rfl,
  by intro ls st h Q; exact e_lconst d32_3 rfl,
  by intro ls st h Q l0 l1 l2 l3 l4 l5 l6 a; exact e_lstore d32_4 rfl,
  by intro ls st h Q; exact e_iconst d32_6 rfl,
  by intro ls st h Q l0 l1 l2 l3 l4 l5 l6 l7 x; exact e_istore d32_7 rfl,
  by intro ls st h Q l0 l1 l2 l3 l4 l5 l6 x; exact e_iload d32_9 rfl,
  by intro ls st h Q l0 l1 x; exact e_iload_n d32_11 rfl,
  by intro ls st h Q x y; exact e_ic d32_12 (by decide) c_ge,
  by intro ls st h Q l0 l1 l2 l3 l4 a; exact e_lload d32_15 rfl,
  by intro ls st h Q i; exact e_aload_n d32_17 rfl,
  by intro ls st h Q l0 l1 x; exact e_iload_n d32_18 rfl,
  by intro ls st h Q; exact e_iconst d32_19 rfl,
  by intro ls st h Q x y; exact e_isub d32_20,
  by intro ls st h Q l0 l1 l2 l3 l4 l5 l6 x; exact e_iload d32_21 rfl,
  by intro ls st h Q x y; exact e_isub d32_23,
  by intro ls st n sl C Z I L R Q x0 i hh; exact e_iv (k2 := 23) (c := 4) (as := [.int x0]) d32_24 rfl (by decide) rfl rfl (by decide +kernel) (Nat.le_of_ble_eq_true rfl) rfl hh,
  by intro ls st h Q i; exact e_aload_n d32_27 rfl,
  by intro ls st n sl C Z I L R Q i; exact e_get (g := 3) (s := 0) (ty := 2) d32_28 rfl rfl (inG_ne (by decide)),
  by intro ls st n sl C Z I L R Q i; exact e_get (g := 7) (s := 2) (ty := 0) d32_31 rfl rfl rfl,
  by intro ls st h Q l0 l1 l2 l3 l4 l5 l6 x; exact e_iload d32_34 rfl,
  by intro ls st h Q; exact e_iconst d32_36 rfl,
  by intro ls st h Q x y; exact e_iadd d32_37,
  by intro ls st h Q x0 x1; exact e_is (k2 := 89) (as := [.int x0, .int x1]) d32_38 rfl (by decide) rfl rfl (by decide +kernel) (Nat.le_of_ble_eq_true rfl) rfl,
  by intro ls st h Q a b; exact e_lmul d32_41⟩
set_option maxRecDepth 20000 in
theorem S32_1 : (∀ (ls : Lo) (st : List Value) (h : Hp) (Q : Option Value → Hp → Prop) (l0 l1 l2 l3 : Option Value) (x : Int32), Wp 32 42 (l0 :: l1 :: l2 :: l3 :: some (.int x) :: ls) (st) h Q ↔ Wp 32 44 (l0 :: l1 :: l2 :: l3 :: some (.int x) :: ls) (.int x :: st) h Q) ∧
  (∀ (ls : Lo) (st : List Value) (h : Hp) (Q : Option Value → Hp → Prop), Wp 32 44 (ls) (st) h Q ↔ Wp 32 46 (ls) (.int (7) :: st) h Q) ∧
  (∀ (ls : Lo) (st : List Value) (h : Hp) (Q : Option Value → Hp → Prop) (x y : Int32), Wp 32 46 (ls) (.int y :: .int x :: st) h Q ↔ (¬ y = 0 ∧ Wp 32 47 (ls) (.int (x - x / y * y) :: st) h Q)) ∧
  (∀ (ls : Lo) (st : List Value) (h : Hp) (Q : Option Value → Hp → Prop), Wp 32 47 (ls) (st) h Q ↔ Wp 32 48 (ls) (.int (3) :: st) h Q) ∧
  (∀ (ls : Lo) (st : List Value) (h : Hp) (Q : Option Value → Hp → Prop) (x y : Int32), Wp 32 48 (ls) (.int y :: .int x :: st) h Q ↔ Wp 32 49 (ls) (.int (x - y) :: st) h Q) ∧
  (∀ (ls : Lo) (st : List Value) (h : Hp) (Q : Option Value → Hp → Prop) (x : Int32), Wp 32 49 (ls) (.int x :: st) h Q ↔ Wp 32 50 (ls) (.long x.toInt64 :: st) h Q) ∧
  (∀ (ls : Lo) (st : List Value) (h : Hp) (Q : Option Value → Hp → Prop) (a b : Int64), Wp 32 50 (ls) (.long b :: .long a :: st) h Q ↔ Wp 32 51 (ls) (.long (a * b) :: st) h Q) ∧
  (∀ (ls : Lo) (st : List Value) (h : Hp) (Q : Option Value → Hp → Prop) (a b : Int64), Wp 32 51 (ls) (.long b :: .long a :: st) h Q ↔ Wp 32 52 (ls) (.long (a + b) :: st) h Q) ∧
  (∀ (ls : Lo) (st : List Value) (h : Hp) (Q : Option Value → Hp → Prop) (l0 l1 l2 l3 l4 l5 l6 : Option Value) (a : Int64), Wp 32 52 (l0 :: l1 :: l2 :: l3 :: l4 :: l5 :: l6 :: ls) (.long a :: st) h Q ↔ Wp 32 54 (l0 :: l1 :: l2 :: l3 :: clr l4 :: some (.long a) :: none :: ls) (st) h Q) ∧
  (∀ (ls : Lo) (st : List Value) (h : Hp) (Q : Option Value → Hp → Prop) (l0 l1 l2 l3 : Option Value) (x : Int32), Wp 32 54 (l0 :: l1 :: l2 :: l3 :: some (.int x) :: ls) (st) h Q ↔ Wp 32 56 (l0 :: l1 :: l2 :: l3 :: some (.int x) :: ls) (.int x :: st) h Q) ∧
  (∀ (ls : Lo) (st : List Value) (h : Hp) (Q : Option Value → Hp → Prop), Wp 32 56 (ls) (st) h Q ↔ Wp 32 58 (ls) (.int (7) :: st) h Q) ∧
  (∀ (ls : Lo) (st : List Value) (h : Hp) (Q : Option Value → Hp → Prop) (x y : Int32), Wp 32 58 (ls) (.int y :: .int x :: st) h Q ↔ (¬ y = 0 ∧ Wp 32 59 (ls) (.int (x / y) :: st) h Q)) ∧
  (∀ (ls : Lo) (st : List Value) (h : Hp) (Q : Option Value → Hp → Prop) (l0 l1 l2 l3 l4 : Option Value) (x : Int32), Wp 32 59 (l0 :: l1 :: l2 :: l3 :: l4 :: ls) (.int x :: st) h Q ↔ Wp 32 61 (l0 :: l1 :: l2 :: clr l3 :: some (.int x) :: ls) (st) h Q) ∧
  (∀ (ls : Lo) (st : List Value) (h : Hp) (Q : Option Value → Hp → Prop) (l0 l1 l2 l3 l4 l5 l6 : Option Value) (x : Int32), Wp 32 61 (l0 :: l1 :: l2 :: l3 :: l4 :: l5 :: l6 :: some (.int x) :: ls) (st) h Q ↔ Wp 32 64 (l0 :: l1 :: l2 :: l3 :: l4 :: l5 :: clr l6 :: some (.int (x + (1))) :: ls) (st) h Q) ∧
  (∀ (ls : Lo) (st : List Value) (h : Hp) (Q : Option Value → Hp → Prop), Wp 32 64 (ls) (st) h Q ↔ Wp 32 9 (ls) (st) h Q) ∧
  (∀ (ls : Lo) (st : List Value) (h : Hp) (Q : Option Value → Hp → Prop)  (i : Nat), Wp 32 67 (some (.ref i) :: ls) (st) h Q ↔ Wp 32 68 (some (.ref i) :: ls) (.ref i :: st) h Q) ∧
  (∀ (ls : Lo) (st : List Value) (n sl : Nat) (C Z : Nat → Nat) (I : Nat → Nat → Int32) (L : Nat → Nat → Int64) (R : Nat → Nat → Nat) (Q : Option Value → Hp → Prop) (i : Nat), Wp 32 68 (ls) (.ref i :: st) (n, sl, C, Z, I, L, R) Q ↔ (C i = 4 ∧ Wp 32 71 (ls) (.ref (R i 0) :: st) (n, sl, C, Z, I, L, R) Q)) ∧
  (∀ (ls : Lo) (st : List Value) (n sl : Nat) (C Z : Nat → Nat) (I : Nat → Nat → Int32) (L : Nat → Nat → Int64) (R : Nat → Nat → Nat) (Q : Option Value → Hp → Prop) (i : Nat), Wp 32 71 (ls) (.ref i :: st) (n, sl, C, Z, I, L, R) Q ↔ (inG 7 (C i) = true ∧ Wp 32 74 (ls) (.int (I i 2) :: st) (n, sl, C, Z, I, L, R) Q)) ∧
  (∀ (ls : Lo) (st : List Value) (h : Hp) (Q : Option Value → Hp → Prop) (l0 l1 : Option Value) (x : Int32), Wp 32 74 (l0 :: l1 :: some (.int x) :: ls) (st) h Q ↔ Wp 32 75 (l0 :: l1 :: some (.int x) :: ls) (.int x :: st) h Q) ∧
  (∀ (ls : Lo) (st : List Value) (h : Hp) (Q : Option Value → Hp → Prop) (x0 : Int32) (x1 : Int32), Wp 32 75 (ls) (.int x1 :: .int x0 :: st) h Q ↔ (wsum st ≤ 8 ∧ Call 89 [some (.int x0), some (.int x1), none, none, none] h 32 78 ls st Q)) ∧
  (∀ (ls : Lo) (st : List Value) (h : Hp) (Q : Option Value → Hp → Prop) (l0 l1 l2 l3 l4 l5 l6 l7 l8 : Option Value) (a : Int64), Wp 32 78 (l0 :: l1 :: l2 :: l3 :: l4 :: l5 :: l6 :: l7 :: l8 :: ls) (.long a :: st) h Q ↔ Wp 32 80 (l0 :: l1 :: l2 :: l3 :: l4 :: l5 :: clr l6 :: some (.long a) :: none :: ls) (st) h Q) ∧
  (∀ (ls : Lo) (st : List Value) (h : Hp) (Q : Option Value → Hp → Prop) (l0 : Option Value) (i : Nat), Wp 32 80 (l0 :: some (.ref i) :: ls) (st) h Q ↔ Wp 32 81 (l0 :: some (.ref i) :: ls) (.ref i :: st) h Q) ∧
  (∀ (ls : Lo) (st : List Value) (h : Hp) (Q : Option Value → Hp → Prop) (l0 l1 l2 l3 l4 : Option Value) (a : Int64), Wp 32 81 (l0 :: l1 :: l2 :: l3 :: l4 :: some (.long a) :: ls) (st) h Q ↔ Wp 32 83 (l0 :: l1 :: l2 :: l3 :: l4 :: some (.long a) :: ls) (.long a :: st) h Q) ∧
  (∀ (ls : Lo) (st : List Value) (h : Hp) (Q : Option Value → Hp → Prop)  (i : Nat), Wp 32 83 (some (.ref i) :: ls) (st) h Q ↔ Wp 32 84 (some (.ref i) :: ls) (.ref i :: st) h Q) ∧
  (∀ (ls : Lo) (st : List Value) (n sl : Nat) (C Z : Nat → Nat) (I : Nat → Nat → Int32) (L : Nat → Nat → Int64) (R : Nat → Nat → Nat) (Q : Option Value → Hp → Prop) (i : Nat), Wp 32 84 (ls) (.ref i :: st) (n, sl, C, Z, I, L, R) Q ↔ (C i = 4 ∧ Wp 32 87 (ls) (.ref (R i 0) :: st) (n, sl, C, Z, I, L, R) Q)) := ⟨by intro ls st h Q l0 l1 l2 l3 x; exact e_iload d32_42 rfl,
  by intro ls st h Q; exact e_bipush d32_44 rfl,
  by intro ls st h Q x y; exact e_irem d32_46,
  by intro ls st h Q; exact e_iconst d32_47 rfl,
  by intro ls st h Q x y; exact e_isub d32_48,
  by intro ls st h Q x; exact e_i2l d32_49,
  by intro ls st h Q a b; exact e_lmul d32_50,
  by intro ls st h Q a b; exact e_ladd d32_51,
  by intro ls st h Q l0 l1 l2 l3 l4 l5 l6 a; exact e_lstore d32_52 rfl,
  by intro ls st h Q l0 l1 l2 l3 x; exact e_iload d32_54 rfl,
  by intro ls st h Q; exact e_bipush d32_56 rfl,
  by intro ls st h Q x y; exact e_idiv d32_58,
  by intro ls st h Q l0 l1 l2 l3 l4 x; exact e_istore d32_59 rfl,
  by intro ls st h Q l0 l1 l2 l3 l4 l5 l6 x; exact e_iinc d32_61 rfl rfl rfl,
  by intro ls st h Q; exact e_goto d32_64 (by decide),
  by intro ls st h Q i; exact e_aload_n d32_67 rfl,
  by intro ls st n sl C Z I L R Q i; exact e_get (g := 3) (s := 0) (ty := 2) d32_68 rfl rfl (inG_ne (by decide)),
  by intro ls st n sl C Z I L R Q i; exact e_get (g := 7) (s := 2) (ty := 0) d32_71 rfl rfl rfl,
  by intro ls st h Q l0 l1 x; exact e_iload_n d32_74 rfl,
  by intro ls st h Q x0 x1; exact e_is (k2 := 89) (as := [.int x0, .int x1]) d32_75 rfl (by decide) rfl rfl (by decide +kernel) (Nat.le_of_ble_eq_true rfl) rfl,
  by intro ls st h Q l0 l1 l2 l3 l4 l5 l6 l7 l8 a; exact e_lstore d32_78 rfl,
  by intro ls st h Q l0 i; exact e_aload_n d32_80 rfl,
  by intro ls st h Q l0 l1 l2 l3 l4 a; exact e_lload d32_81 rfl,
  by intro ls st h Q i; exact e_aload_n d32_83 rfl,
  by intro ls st n sl C Z I L R Q i; exact e_get (g := 3) (s := 0) (ty := 2) d32_84 rfl rfl (inG_ne (by decide))⟩
set_option maxRecDepth 20000 in
theorem S32_2 : (∀ (ls : Lo) (st : List Value) (n sl : Nat) (C Z : Nat → Nat) (I : Nat → Nat → Int32) (L : Nat → Nat → Int64) (R : Nat → Nat → Nat) (Q : Option Value → Hp → Prop) (i : Nat), Wp 32 87 (ls) (.ref i :: st) (n, sl, C, Z, I, L, R) Q ↔ (inG 7 (C i) = true ∧ Wp 32 90 (ls) (.ref (R i 6) :: st) (n, sl, C, Z, I, L, R) Q)) ∧
  (∀ (ls : Lo) (st : List Value) (h : Hp) (Q : Option Value → Hp → Prop), Wp 32 90 (ls) (st) h Q ↔ Wp 32 91 (ls) (.int (0) :: st) h Q) ∧
  (∀ (ls : Lo) (st : List Value) (n sl : Nat) (C Z : Nat → Nat) (I : Nat → Nat → Int32) (L : Nat → Nat → Int64) (R : Nat → Nat → Nat) (Q : Option Value → Hp → Prop) (i : Nat) (y : Int32), Wp 32 91 (ls) (.int y :: .ref i :: st) (n, sl, C, Z, I, L, R) Q ↔ ((inb y (Z i) = true ∧ C i = 21) ∧ Wp 32 92 (ls) (.int (I i (ix y)) :: st) (n, sl, C, Z, I, L, R) Q)) ∧
  (∀ (ls : Lo) (st : List Value) (h : Hp) (Q : Option Value → Hp → Prop) (x : Int32), Wp 32 92 (ls) (.int x :: st) h Q ↔ Wp 32 93 (ls) (.long x.toInt64 :: st) h Q) ∧
  (∀ (ls : Lo) (st : List Value) (h : Hp) (Q : Option Value → Hp → Prop) (l0 l1 l2 l3 l4 l5 l6 : Option Value) (a : Int64), Wp 32 93 (l0 :: l1 :: l2 :: l3 :: l4 :: l5 :: l6 :: some (.long a) :: ls) (st) h Q ↔ Wp 32 95 (l0 :: l1 :: l2 :: l3 :: l4 :: l5 :: l6 :: some (.long a) :: ls) (.long a :: st) h Q) ∧
  (∀ (ls : Lo) (st : List Value) (h : Hp) (Q : Option Value → Hp → Prop) (a b : Int64), Wp 32 95 (ls) (.long b :: .long a :: st) h Q ↔ Wp 32 96 (ls) (.long (a * b) :: st) h Q) ∧
  (∀ (ls : Lo) (st : List Value) (h : Hp) (Q : Option Value → Hp → Prop) (l0 l1 l2 l3 : Option Value) (x : Int32), Wp 32 96 (l0 :: l1 :: l2 :: l3 :: some (.int x) :: ls) (st) h Q ↔ Wp 32 98 (l0 :: l1 :: l2 :: l3 :: some (.int x) :: ls) (.int x :: st) h Q) ∧
  (∀ (ls : Lo) (st : List Value) (h : Hp) (Q : Option Value → Hp → Prop), Wp 32 98 (ls) (st) h Q ↔ Wp 32 99 (ls) (.int (3) :: st) h Q) ∧
  (∀ (ls : Lo) (st : List Value) (h : Hp) (Q : Option Value → Hp → Prop) (x y : Int32), Wp 32 99 (ls) (.int y :: .int x :: st) h Q ↔ Wp 32 100 (ls) (.int (x - y) :: st) h Q) ∧
  (∀ (ls : Lo) (st : List Value) (h : Hp) (Q : Option Value → Hp → Prop) (x : Int32), Wp 32 100 (ls) (.int x :: st) h Q ↔ Wp 32 101 (ls) (.long x.toInt64 :: st) h Q) ∧
  (∀ (ls : Lo) (st : List Value) (h : Hp) (Q : Option Value → Hp → Prop) (a b : Int64), Wp 32 101 (ls) (.long b :: .long a :: st) h Q ↔ Wp 32 102 (ls) (.long (a * b) :: st) h Q) ∧
  (∀ (ls : Lo) (st : List Value) (h : Hp) (Q : Option Value → Hp → Prop) (a b : Int64), Wp 32 102 (ls) (.long b :: .long a :: st) h Q ↔ Wp 32 103 (ls) (.long (a + b) :: st) h Q) ∧
  (∀ (ls : Lo) (st : List Value) (h : Hp) (Q : Option Value → Hp → Prop) (l0 l1 l2 l3 l4 l5 l6 : Option Value) (a : Int64), Wp 32 103 (l0 :: l1 :: l2 :: l3 :: l4 :: l5 :: l6 :: some (.long a) :: ls) (st) h Q ↔ Wp 32 105 (l0 :: l1 :: l2 :: l3 :: l4 :: l5 :: l6 :: some (.long a) :: ls) (.long a :: st) h Q) ∧
  (∀ (ls : Lo) (st : List Value) (n sl : Nat) (C Z : Nat → Nat) (I : Nat → Nat → Int32) (L : Nat → Nat → Int64) (R : Nat → Nat → Nat) (Q : Option Value → Hp → Prop) (x0 : Int64) (x1 : Int64) (i : Nat), C i = 3 → (Wp 32 105 (ls) (.long x1 :: .long x0 :: .ref i :: st) (n, sl, C, Z, I, L, R) Q ↔ (wsum st ≤ 8 ∧ Call 13 [some (.ref i), some (.long x0), none, some (.long x1), none, none, none, none, none] (n, sl, C, Z, I, L, R) 32 108 ls st Q))) ∧
  (∀ (ls : Lo) (h : Hp) (Q : Option Value → Hp → Prop), Wp 32 108 (ls) ([]) h Q ↔ Q none h) := ⟨by intro ls st n sl C Z I L R Q i; exact e_get (g := 7) (s := 6) (ty := 2) d32_87 rfl rfl rfl,
  by intro ls st h Q; exact e_iconst d32_90 rfl,
  by intro ls st n sl C Z I L R Q i y; exact e_iald d32_91,
  by intro ls st h Q x; exact e_i2l d32_92,
  by intro ls st h Q l0 l1 l2 l3 l4 l5 l6 a; exact e_lload d32_93 rfl,
  by intro ls st h Q a b; exact e_lmul d32_95,
  by intro ls st h Q l0 l1 l2 l3 x; exact e_iload d32_96 rfl,
  by intro ls st h Q; exact e_iconst d32_98 rfl,
  by intro ls st h Q x y; exact e_isub d32_99,
  by intro ls st h Q x; exact e_i2l d32_100,
  by intro ls st h Q a b; exact e_lmul d32_101,
  by intro ls st h Q a b; exact e_ladd d32_102,
  by intro ls st h Q l0 l1 l2 l3 l4 l5 l6 a; exact e_lload d32_103 rfl,
  by intro ls st n sl C Z I L R Q x0 x1 i hh; exact e_iv (k2 := 13) (c := 3) (as := [.long x0, .long x1]) d32_105 rfl (by decide) rfl rfl (by decide +kernel) (Nat.le_of_ble_eq_true rfl) rfl hh,
  by intros; exact e_rV d32_108 rfl⟩
theorem d33_0 : decode (byt 33) 0 = .ok (.aload_n 0, 1) := by decide +kernel
theorem d33_1 : decode (byt 33) 1 = .ok (.getfield 14, 3) := by decide +kernel
theorem d33_4 : decode (byt 33) 4 = .ok (.getfield 85, 3) := by decide +kernel
theorem d33_7 : decode (byt 33) 7 = .ok (.iconst 0, 1) := by decide +kernel
theorem d33_8 : decode (byt 33) 8 = .ok (.iaload, 1) := by decide +kernel
theorem d33_9 : decode (byt 33) 9 = .ok (.aload_n 1, 1) := by decide +kernel
theorem d33_10 : decode (byt 33) 10 = .ok (.getfield 14, 3) := by decide +kernel
theorem d33_13 : decode (byt 33) 13 = .ok (.getfield 85, 3) := by decide +kernel
theorem d33_16 : decode (byt 33) 16 = .ok (.iconst 0, 1) := by decide +kernel
theorem d33_17 : decode (byt 33) 17 = .ok (.iaload, 1) := by decide +kernel
theorem d33_18 : decode (byt 33) 18 = .ok (.if_icmp .eq 5, 3) := by decide +kernel
theorem d33_21 : decode (byt 33) 21 = .ok (.iconst 0, 1) := by decide +kernel
theorem d33_22 : decode (byt 33) 22 = .ok (.ireturn, 1) := by decide +kernel
theorem d33_23 : decode (byt 33) 23 = .ok (.iconst 0, 1) := by decide +kernel
theorem d33_24 : decode (byt 33) 24 = .ok (.istore_n 2, 1) := by decide +kernel
theorem d33_25 : decode (byt 33) 25 = .ok (.iload_n 2, 1) := by decide +kernel
theorem d33_26 : decode (byt 33) 26 = .ok (.bipush 6, 2) := by decide +kernel
theorem d33_28 : decode (byt 33) 28 = .ok (.if_icmp .ge 55, 3) := by decide +kernel
theorem d33_31 : decode (byt 33) 31 = .ok (.aload_n 0, 1) := by decide +kernel
theorem d33_32 : decode (byt 33) 32 = .ok (.iload_n 2, 1) := by decide +kernel
theorem d33_33 : decode (byt 33) 33 = .ok (.invokevirtual 91, 3) := by decide +kernel
theorem d33_36 : decode (byt 33) 36 = .ok (.aload_n 1, 1) := by decide +kernel
theorem d33_37 : decode (byt 33) 37 = .ok (.getfield 14, 3) := by decide +kernel
theorem d33_40 : decode (byt 33) 40 = .ok (.getfield 88, 3) := by decide +kernel
theorem d33_43 : decode (byt 33) 43 = .ok (.iload_n 2, 1) := by decide +kernel
theorem d33_44 : decode (byt 33) 44 = .ok (.invokestatic 104, 3) := by decide +kernel
theorem d33_47 : decode (byt 33) 47 = .ok (.lmul, 1) := by decide +kernel
theorem d33_48 : decode (byt 33) 48 = .ok (.lstore_n 3, 1) := by decide +kernel
theorem d33_49 : decode (byt 33) 49 = .ok (.aload_n 1, 1) := by decide +kernel
theorem d33_50 : decode (byt 33) 50 = .ok (.iload_n 2, 1) := by decide +kernel
theorem d33_51 : decode (byt 33) 51 = .ok (.invokevirtual 91, 3) := by decide +kernel
theorem d33_54 : decode (byt 33) 54 = .ok (.aload_n 0, 1) := by decide +kernel
theorem d33_55 : decode (byt 33) 55 = .ok (.getfield 14, 3) := by decide +kernel
theorem d33_58 : decode (byt 33) 58 = .ok (.getfield 88, 3) := by decide +kernel
theorem d33_61 : decode (byt 33) 61 = .ok (.iload_n 2, 1) := by decide +kernel
theorem d33_62 : decode (byt 33) 62 = .ok (.invokestatic 104, 3) := by decide +kernel
theorem d33_65 : decode (byt 33) 65 = .ok (.lmul, 1) := by decide +kernel
theorem d33_66 : decode (byt 33) 66 = .ok (.lstore 5, 2) := by decide +kernel
theorem d33_68 : decode (byt 33) 68 = .ok (.lload_n 3, 1) := by decide +kernel
theorem d33_69 : decode (byt 33) 69 = .ok (.lload 5, 2) := by decide +kernel
theorem d33_71 : decode (byt 33) 71 = .ok (.lcmp, 1) := by decide +kernel
theorem d33_72 : decode (byt 33) 72 = .ok (.ifCond .eq 5, 3) := by decide +kernel
theorem d33_75 : decode (byt 33) 75 = .ok (.iconst 0, 1) := by decide +kernel
theorem d33_76 : decode (byt 33) 76 = .ok (.ireturn, 1) := by decide +kernel
theorem d33_77 : decode (byt 33) 77 = .ok (.iinc 2 1, 3) := by decide +kernel
theorem d33_80 : decode (byt 33) 80 = .ok (.goto (-55), 3) := by decide +kernel
theorem d33_83 : decode (byt 33) 83 = .ok (.iconst 1, 1) := by decide +kernel
theorem d33_84 : decode (byt 33) 84 = .ok (.ireturn, 1) := by decide +kernel
set_option maxRecDepth 20000 in
theorem S33_0 : (∀ (ls : Lo) (st : List Value) (h : Hp) (Q : Option Value → Hp → Prop)  (i : Nat), Wp 33 0 (some (.ref i) :: ls) (st) h Q ↔ Wp 33 1 (some (.ref i) :: ls) (.ref i :: st) h Q) ∧
  (∀ (ls : Lo) (st : List Value) (n sl : Nat) (C Z : Nat → Nat) (I : Nat → Nat → Int32) (L : Nat → Nat → Int64) (R : Nat → Nat → Nat) (Q : Option Value → Hp → Prop) (i : Nat), Wp 33 1 (ls) (.ref i :: st) (n, sl, C, Z, I, L, R) Q ↔ (C i = 4 ∧ Wp 33 4 (ls) (.ref (R i 0) :: st) (n, sl, C, Z, I, L, R) Q)) ∧
  (∀ (ls : Lo) (st : List Value) (n sl : Nat) (C Z : Nat → Nat) (I : Nat → Nat → Int32) (L : Nat → Nat → Int64) (R : Nat → Nat → Nat) (Q : Option Value → Hp → Prop) (i : Nat), Wp 33 4 (ls) (.ref i :: st) (n, sl, C, Z, I, L, R) Q ↔ (inG 7 (C i) = true ∧ Wp 33 7 (ls) (.ref (R i 6) :: st) (n, sl, C, Z, I, L, R) Q)) ∧
  (∀ (ls : Lo) (st : List Value) (h : Hp) (Q : Option Value → Hp → Prop), Wp 33 7 (ls) (st) h Q ↔ Wp 33 8 (ls) (.int (0) :: st) h Q) ∧
  (∀ (ls : Lo) (st : List Value) (n sl : Nat) (C Z : Nat → Nat) (I : Nat → Nat → Int32) (L : Nat → Nat → Int64) (R : Nat → Nat → Nat) (Q : Option Value → Hp → Prop) (i : Nat) (y : Int32), Wp 33 8 (ls) (.int y :: .ref i :: st) (n, sl, C, Z, I, L, R) Q ↔ ((inb y (Z i) = true ∧ C i = 21) ∧ Wp 33 9 (ls) (.int (I i (ix y)) :: st) (n, sl, C, Z, I, L, R) Q)) ∧
  (∀ (ls : Lo) (st : List Value) (h : Hp) (Q : Option Value → Hp → Prop) (l0 : Option Value) (i : Nat), Wp 33 9 (l0 :: some (.ref i) :: ls) (st) h Q ↔ Wp 33 10 (l0 :: some (.ref i) :: ls) (.ref i :: st) h Q) ∧
  (∀ (ls : Lo) (st : List Value) (n sl : Nat) (C Z : Nat → Nat) (I : Nat → Nat → Int32) (L : Nat → Nat → Int64) (R : Nat → Nat → Nat) (Q : Option Value → Hp → Prop) (i : Nat), Wp 33 10 (ls) (.ref i :: st) (n, sl, C, Z, I, L, R) Q ↔ (C i = 4 ∧ Wp 33 13 (ls) (.ref (R i 0) :: st) (n, sl, C, Z, I, L, R) Q)) ∧
  (∀ (ls : Lo) (st : List Value) (n sl : Nat) (C Z : Nat → Nat) (I : Nat → Nat → Int32) (L : Nat → Nat → Int64) (R : Nat → Nat → Nat) (Q : Option Value → Hp → Prop) (i : Nat), Wp 33 13 (ls) (.ref i :: st) (n, sl, C, Z, I, L, R) Q ↔ (inG 7 (C i) = true ∧ Wp 33 16 (ls) (.ref (R i 6) :: st) (n, sl, C, Z, I, L, R) Q)) ∧
  (∀ (ls : Lo) (st : List Value) (h : Hp) (Q : Option Value → Hp → Prop), Wp 33 16 (ls) (st) h Q ↔ Wp 33 17 (ls) (.int (0) :: st) h Q) ∧
  (∀ (ls : Lo) (st : List Value) (n sl : Nat) (C Z : Nat → Nat) (I : Nat → Nat → Int32) (L : Nat → Nat → Int64) (R : Nat → Nat → Nat) (Q : Option Value → Hp → Prop) (i : Nat) (y : Int32), Wp 33 17 (ls) (.int y :: .ref i :: st) (n, sl, C, Z, I, L, R) Q ↔ ((inb y (Z i) = true ∧ C i = 21) ∧ Wp 33 18 (ls) (.int (I i (ix y)) :: st) (n, sl, C, Z, I, L, R) Q)) ∧
  (∀ (ls : Lo) (st : List Value) (h : Hp) (Q : Option Value → Hp → Prop) (x y : Int32), Wp 33 18 (ls) (.int y :: .int x :: st) h Q ↔ Br 33 23 21 ls st h Q (x = y)) ∧
  (∀ (ls : Lo) (st : List Value) (h : Hp) (Q : Option Value → Hp → Prop), Wp 33 21 (ls) (st) h Q ↔ Wp 33 22 (ls) (.int (0) :: st) h Q) ∧
  (∀ (ls : Lo) (h : Hp) (Q : Option Value → Hp → Prop) (x : Int32), Wp 33 22 (ls) ([.int x]) h Q ↔ ((x = 0 ∨ x = 1) ∧ Q (some (.int x)) h)) ∧
  (∀ (ls : Lo) (st : List Value) (h : Hp) (Q : Option Value → Hp → Prop), Wp 33 23 (ls) (st) h Q ↔ Wp 33 24 (ls) (.int (0) :: st) h Q) ∧
  (∀ (ls : Lo) (st : List Value) (h : Hp) (Q : Option Value → Hp → Prop) (l0 l1 l2 : Option Value) (x : Int32), Wp 33 24 (l0 :: l1 :: l2 :: ls) (.int x :: st) h Q ↔ Wp 33 25 (l0 :: clr l1 :: some (.int x) :: ls) (st) h Q) ∧
  (∀ (ls : Lo) (st : List Value) (h : Hp) (Q : Option Value → Hp → Prop) (l0 l1 : Option Value) (x : Int32), Wp 33 25 (l0 :: l1 :: some (.int x) :: ls) (st) h Q ↔ Wp 33 26 (l0 :: l1 :: some (.int x) :: ls) (.int x :: st) h Q) ∧
  (∀ (ls : Lo) (st : List Value) (h : Hp) (Q : Option Value → Hp → Prop), Wp 33 26 (ls) (st) h Q ↔ Wp 33 28 (ls) (.int (6) :: st) h Q) ∧
  (∀ (ls : Lo) (st : List Value) (h : Hp) (Q : Option Value → Hp → Prop) (x y : Int32), Wp 33 28 (ls) (.int y :: .int x :: st) h Q ↔ Br 33 83 31 ls st h Q (y ≤ x)) ∧
  (∀ (ls : Lo) (st : List Value) (h : Hp) (Q : Option Value → Hp → Prop)  (i : Nat), Wp 33 31 (some (.ref i) :: ls) (st) h Q ↔ Wp 33 32 (some (.ref i) :: ls) (.ref i :: st) h Q) ∧
  (∀ (ls : Lo) (st : List Value) (h : Hp) (Q : Option Value → Hp → Prop) (l0 l1 : Option Value) (x : Int32), Wp 33 32 (l0 :: l1 :: some (.int x) :: ls) (st) h Q ↔ Wp 33 33 (l0 :: l1 :: some (.int x) :: ls) (.int x :: st) h Q) ∧
  (∀ (ls : Lo) (st : List Value) (n sl : Nat) (C Z : Nat → Nat) (I : Nat → Nat → Int32) (L : Nat → Nat → Int64) (R : Nat → Nat → Nat) (Q : Option Value → Hp → Prop) (x0 : Int32) (i : Nat), C i = 4 → (Wp 33 33 (ls) (.int x0 :: .ref i :: st) (n, sl, C, Z, I, L, R) Q ↔ (wsum st ≤ 8 ∧ Call 23 [some (.ref i), some (.int x0), none, none, none] (n, sl, C, Z, I, L, R) 33 36 ls st Q))) ∧
  (∀ (ls : Lo) (st : List Value) (h : Hp) (Q : Option Value → Hp → Prop) (l0 : Option Value) (i : Nat), Wp 33 36 (l0 :: some (.ref i) :: ls) (st) h Q ↔ Wp 33 37 (l0 :: some (.ref i) :: ls) (.ref i :: st) h Q) ∧
  (∀ (ls : Lo) (st : List Value) (n sl : Nat) (C Z : Nat → Nat) (I : Nat → Nat → Int32) (L : Nat → Nat → Int64) (R : Nat → Nat → Nat) (Q : Option Value → Hp → Prop) (i : Nat), Wp 33 37 (ls) (.ref i :: st) (n, sl, C, Z, I, L, R) Q ↔ (C i = 4 ∧ Wp 33 40 (ls) (.ref (R i 0) :: st) (n, sl, C, Z, I, L, R) Q)) ∧
  (∀ (ls : Lo) (st : List Value) (n sl : Nat) (C Z : Nat → Nat) (I : Nat → Nat → Int32) (L : Nat → Nat → Int64) (R : Nat → Nat → Nat) (Q : Option Value → Hp → Prop) (i : Nat), Wp 33 40 (ls) (.ref i :: st) (n, sl, C, Z, I, L, R) Q ↔ (inG 7 (C i) = true ∧ Wp 33 43 (ls) (.int (I i 2) :: st) (n, sl, C, Z, I, L, R) Q)) ∧
  (∀ (ls : Lo) (st : List Value) (h : Hp) (Q : Option Value → Hp → Prop) (l0 l1 : Option Value) (x : Int32), Wp 33 43 (l0 :: l1 :: some (.int x) :: ls) (st) h Q ↔ Wp 33 44 (l0 :: l1 :: some (.int x) :: ls) (.int x :: st) h Q) := ⟨by intro ls st h Q i; exact e_aload_n d33_0 rfl,
  by intro ls st n sl C Z I L R Q i; exact e_get (g := 3) (s := 0) (ty := 2) d33_1 rfl rfl (inG_ne (by decide)),
  by intro ls st n sl C Z I L R Q i; exact e_get (g := 7) (s := 6) (ty := 2) d33_4 rfl rfl rfl,
  by intro ls st h Q; exact e_iconst d33_7 rfl,
  by intro ls st n sl C Z I L R Q i y; exact e_iald d33_8,
  by intro ls st h Q l0 i; exact e_aload_n d33_9 rfl,
  by intro ls st n sl C Z I L R Q i; exact e_get (g := 3) (s := 0) (ty := 2) d33_10 rfl rfl (inG_ne (by decide)),
  by intro ls st n sl C Z I L R Q i; exact e_get (g := 7) (s := 6) (ty := 2) d33_13 rfl rfl rfl,
  by intro ls st h Q; exact e_iconst d33_16 rfl,
  by intro ls st n sl C Z I L R Q i y; exact e_iald d33_17,
  by intro ls st h Q x y; exact e_ic d33_18 (by decide) c_eq,
  by intro ls st h Q; exact e_iconst d33_21 rfl,
  by intros; exact e_rZ d33_22 rfl,
  by intro ls st h Q; exact e_iconst d33_23 rfl,
  by intro ls st h Q l0 l1 l2 x; exact e_istore_n d33_24 rfl,
  by intro ls st h Q l0 l1 x; exact e_iload_n d33_25 rfl,
  by intro ls st h Q; exact e_bipush d33_26 rfl,
  by intro ls st h Q x y; exact e_ic d33_28 (by decide) c_ge,
  by intro ls st h Q i; exact e_aload_n d33_31 rfl,
  by intro ls st h Q l0 l1 x; exact e_iload_n d33_32 rfl,
  by intro ls st n sl C Z I L R Q x0 i hh; exact e_iv (k2 := 23) (c := 4) (as := [.int x0]) d33_33 rfl (by decide) rfl rfl (by decide +kernel) (Nat.le_of_ble_eq_true rfl) rfl hh,
  by intro ls st h Q l0 i; exact e_aload_n d33_36 rfl,
  by intro ls st n sl C Z I L R Q i; exact e_get (g := 3) (s := 0) (ty := 2) d33_37 rfl rfl (inG_ne (by decide)),
  by intro ls st n sl C Z I L R Q i; exact e_get (g := 7) (s := 2) (ty := 0) d33_40 rfl rfl rfl,
  by intro ls st h Q l0 l1 x; exact e_iload_n d33_43 rfl⟩
set_option maxRecDepth 20000 in
theorem S33_1 : (∀ (ls : Lo) (st : List Value) (h : Hp) (Q : Option Value → Hp → Prop) (x0 : Int32) (x1 : Int32), Wp 33 44 (ls) (.int x1 :: .int x0 :: st) h Q ↔ (wsum st ≤ 8 ∧ Call 89 [some (.int x0), some (.int x1), none, none, none] h 33 47 ls st Q)) ∧
  (∀ (ls : Lo) (st : List Value) (h : Hp) (Q : Option Value → Hp → Prop) (a b : Int64), Wp 33 47 (ls) (.long b :: .long a :: st) h Q ↔ Wp 33 48 (ls) (.long (a * b) :: st) h Q) ∧
  (∀ (ls : Lo) (st : List Value) (h : Hp) (Q : Option Value → Hp → Prop) (l0 l1 l2 l3 l4 : Option Value) (a : Int64), Wp 33 48 (l0 :: l1 :: l2 :: l3 :: l4 :: ls) (.long a :: st) h Q ↔ Wp 33 49 (l0 :: l1 :: clr l2 :: some (.long a) :: none :: ls) (st) h Q) ∧
  (∀ (ls : Lo) (st : List Value) (h : Hp) (Q : Option Value → Hp → Prop) (l0 : Option Value) (i : Nat), Wp 33 49 (l0 :: some (.ref i) :: ls) (st) h Q ↔ Wp 33 50 (l0 :: some (.ref i) :: ls) (.ref i :: st) h Q) ∧
  (∀ (ls : Lo) (st : List Value) (h : Hp) (Q : Option Value → Hp → Prop) (l0 l1 : Option Value) (x : Int32), Wp 33 50 (l0 :: l1 :: some (.int x) :: ls) (st) h Q ↔ Wp 33 51 (l0 :: l1 :: some (.int x) :: ls) (.int x :: st) h Q) ∧
  (∀ (ls : Lo) (st : List Value) (n sl : Nat) (C Z : Nat → Nat) (I : Nat → Nat → Int32) (L : Nat → Nat → Int64) (R : Nat → Nat → Nat) (Q : Option Value → Hp → Prop) (x0 : Int32) (i : Nat), C i = 4 → (Wp 33 51 (ls) (.int x0 :: .ref i :: st) (n, sl, C, Z, I, L, R) Q ↔ (wsum st ≤ 8 ∧ Call 23 [some (.ref i), some (.int x0), none, none, none] (n, sl, C, Z, I, L, R) 33 54 ls st Q))) ∧
  (∀ (ls : Lo) (st : List Value) (h : Hp) (Q : Option Value → Hp → Prop)  (i : Nat), Wp 33 54 (some (.ref i) :: ls) (st) h Q ↔ Wp 33 55 (some (.ref i) :: ls) (.ref i :: st) h Q) ∧
  (∀ (ls : Lo) (st : List Value) (n sl : Nat) (C Z : Nat → Nat) (I : Nat → Nat → Int32) (L : Nat → Nat → Int64) (R : Nat → Nat → Nat) (Q : Option Value → Hp → Prop) (i : Nat), Wp 33 55 (ls) (.ref i :: st) (n, sl, C, Z, I, L, R) Q ↔ (C i = 4 ∧ Wp 33 58 (ls) (.ref (R i 0) :: st) (n, sl, C, Z, I, L, R) Q)) ∧
  (∀ (ls : Lo) (st : List Value) (n sl : Nat) (C Z : Nat → Nat) (I : Nat → Nat → Int32) (L : Nat → Nat → Int64) (R : Nat → Nat → Nat) (Q : Option Value → Hp → Prop) (i : Nat), Wp 33 58 (ls) (.ref i :: st) (n, sl, C, Z, I, L, R) Q ↔ (inG 7 (C i) = true ∧ Wp 33 61 (ls) (.int (I i 2) :: st) (n, sl, C, Z, I, L, R) Q)) ∧
  (∀ (ls : Lo) (st : List Value) (h : Hp) (Q : Option Value → Hp → Prop) (l0 l1 : Option Value) (x : Int32), Wp 33 61 (l0 :: l1 :: some (.int x) :: ls) (st) h Q ↔ Wp 33 62 (l0 :: l1 :: some (.int x) :: ls) (.int x :: st) h Q) ∧
  (∀ (ls : Lo) (st : List Value) (h : Hp) (Q : Option Value → Hp → Prop) (x0 : Int32) (x1 : Int32), Wp 33 62 (ls) (.int x1 :: .int x0 :: st) h Q ↔ (wsum st ≤ 8 ∧ Call 89 [some (.int x0), some (.int x1), none, none, none] h 33 65 ls st Q)) ∧
  (∀ (ls : Lo) (st : List Value) (h : Hp) (Q : Option Value → Hp → Prop) (a b : Int64), Wp 33 65 (ls) (.long b :: .long a :: st) h Q ↔ Wp 33 66 (ls) (.long (a * b) :: st) h Q) ∧
  (∀ (ls : Lo) (st : List Value) (h : Hp) (Q : Option Value → Hp → Prop) (l0 l1 l2 l3 l4 l5 l6 : Option Value) (a : Int64), Wp 33 66 (l0 :: l1 :: l2 :: l3 :: l4 :: l5 :: l6 :: ls) (.long a :: st) h Q ↔ Wp 33 68 (l0 :: l1 :: l2 :: l3 :: clr l4 :: some (.long a) :: none :: ls) (st) h Q) ∧
  (∀ (ls : Lo) (st : List Value) (h : Hp) (Q : Option Value → Hp → Prop) (l0 l1 l2 : Option Value) (a : Int64), Wp 33 68 (l0 :: l1 :: l2 :: some (.long a) :: ls) (st) h Q ↔ Wp 33 69 (l0 :: l1 :: l2 :: some (.long a) :: ls) (.long a :: st) h Q) ∧
  (∀ (ls : Lo) (st : List Value) (h : Hp) (Q : Option Value → Hp → Prop) (l0 l1 l2 l3 l4 : Option Value) (a : Int64), Wp 33 69 (l0 :: l1 :: l2 :: l3 :: l4 :: some (.long a) :: ls) (st) h Q ↔ Wp 33 71 (l0 :: l1 :: l2 :: l3 :: l4 :: some (.long a) :: ls) (.long a :: st) h Q) ∧
  (∀ (ls : Lo) (st : List Value) (h : Hp) (Q : Option Value → Hp → Prop) (a b : Int64), Wp 33 71 (ls) (.long b :: .long a :: st) h Q ↔ Wp 33 72 (ls) (.int (lg_cmp a b) :: st) h Q) ∧
  (∀ (ls : Lo) (st : List Value) (h : Hp) (Q : Option Value → Hp → Prop) (x : Int32), Wp 33 72 (ls) (.int x :: st) h Q ↔ Br 33 77 75 ls st h Q (x = 0)) ∧
  (∀ (ls : Lo) (st : List Value) (h : Hp) (Q : Option Value → Hp → Prop), Wp 33 75 (ls) (st) h Q ↔ Wp 33 76 (ls) (.int (0) :: st) h Q) ∧
  (∀ (ls : Lo) (h : Hp) (Q : Option Value → Hp → Prop) (x : Int32), Wp 33 76 (ls) ([.int x]) h Q ↔ ((x = 0 ∨ x = 1) ∧ Q (some (.int x)) h)) ∧
  (∀ (ls : Lo) (st : List Value) (h : Hp) (Q : Option Value → Hp → Prop) (l0 l1 : Option Value) (x : Int32), Wp 33 77 (l0 :: l1 :: some (.int x) :: ls) (st) h Q ↔ Wp 33 80 (l0 :: clr l1 :: some (.int (x + (1))) :: ls) (st) h Q) ∧
  (∀ (ls : Lo) (st : List Value) (h : Hp) (Q : Option Value → Hp → Prop), Wp 33 80 (ls) (st) h Q ↔ Wp 33 25 (ls) (st) h Q) ∧
  (∀ (ls : Lo) (st : List Value) (h : Hp) (Q : Option Value → Hp → Prop), Wp 33 83 (ls) (st) h Q ↔ Wp 33 84 (ls) (.int (1) :: st) h Q) ∧
  (∀ (ls : Lo) (h : Hp) (Q : Option Value → Hp → Prop) (x : Int32), Wp 33 84 (ls) ([.int x]) h Q ↔ ((x = 0 ∨ x = 1) ∧ Q (some (.int x)) h)) := ⟨by intro ls st h Q x0 x1; exact e_is (k2 := 89) (as := [.int x0, .int x1]) d33_44 rfl (by decide) rfl rfl (by decide +kernel) (Nat.le_of_ble_eq_true rfl) rfl,
  by intro ls st h Q a b; exact e_lmul d33_47,
  by intro ls st h Q l0 l1 l2 l3 l4 a; exact e_lstore_n d33_48 rfl,
  by intro ls st h Q l0 i; exact e_aload_n d33_49 rfl,
  by intro ls st h Q l0 l1 x; exact e_iload_n d33_50 rfl,
  by intro ls st n sl C Z I L R Q x0 i hh; exact e_iv (k2 := 23) (c := 4) (as := [.int x0]) d33_51 rfl (by decide) rfl rfl (by decide +kernel) (Nat.le_of_ble_eq_true rfl) rfl hh,
  by intro ls st h Q i; exact e_aload_n d33_54 rfl,
  by intro ls st n sl C Z I L R Q i; exact e_get (g := 3) (s := 0) (ty := 2) d33_55 rfl rfl (inG_ne (by decide)),
  by intro ls st n sl C Z I L R Q i; exact e_get (g := 7) (s := 2) (ty := 0) d33_58 rfl rfl rfl,
  by intro ls st h Q l0 l1 x; exact e_iload_n d33_61 rfl,
  by intro ls st h Q x0 x1; exact e_is (k2 := 89) (as := [.int x0, .int x1]) d33_62 rfl (by decide) rfl rfl (by decide +kernel) (Nat.le_of_ble_eq_true rfl) rfl,
  by intro ls st h Q a b; exact e_lmul d33_65,
  by intro ls st h Q l0 l1 l2 l3 l4 l5 l6 a; exact e_lstore d33_66 rfl,
  by intro ls st h Q l0 l1 l2 a; exact e_lload_n d33_68 rfl,
  by intro ls st h Q l0 l1 l2 l3 l4 a; exact e_lload d33_69 rfl,
  by intro ls st h Q a b; exact e_lcmp d33_71,
  by intro ls st h Q x; exact e_if d33_72 (by decide) c_eq,
  by intro ls st h Q; exact e_iconst d33_75 rfl,
  by intros; exact e_rZ d33_76 rfl,
  by intro ls st h Q l0 l1 x; exact e_iinc d33_77 rfl rfl rfl,
  by intro ls st h Q; exact e_goto d33_80 (by decide),
  by intro ls st h Q; exact e_iconst d33_83 rfl,
  by intros; exact e_rZ d33_84 rfl⟩
theorem d34_0 : decode (byt 34) 0 = .ok (.aload_n 0, 1) := by decide +kernel
theorem d34_1 : decode (byt 34) 1 = .ok (.getfield 14, 3) := by decide +kernel
theorem d34_4 : decode (byt 34) 4 = .ok (.getfield 81, 3) := by decide +kernel
theorem d34_7 : decode (byt 34) 7 = .ok (.istore 6, 2) := by decide +kernel
theorem d34_9 : decode (byt 34) 9 = .ok (.aload_n 0, 1) := by decide +kernel
theorem d34_10 : decode (byt 34) 10 = .ok (.getfield 32, 3) := by decide +kernel
theorem d34_13 : decode (byt 34) 13 = .ok (.iconst 0, 1) := by decide +kernel
theorem d34_14 : decode (byt 34) 14 = .ok (.aaload, 1) := by decide +kernel
theorem d34_15 : decode (byt 34) 15 = .ok (.astore 7, 2) := by decide +kernel
theorem d34_17 : decode (byt 34) 17 = .ok (.aload_n 0, 1) := by decide +kernel
theorem d34_18 : decode (byt 34) 18 = .ok (.aload 7, 2) := by decide +kernel
theorem d34_20 : decode (byt 34) 20 = .ok (.invokevirtual 129, 3) := by decide +kernel
theorem d34_23 : decode (byt 34) 23 = .ok (.aload 7, 2) := by decide +kernel
theorem d34_25 : decode (byt 34) 25 = .ok (.iconst 0, 1) := by decide +kernel
theorem d34_26 : decode (byt 34) 26 = .ok (.aload_n 0, 1) := by decide +kernel
theorem d34_27 : decode (byt 34) 27 = .ok (.getfield 41, 3) := by decide +kernel
theorem d34_30 : decode (byt 34) 30 = .ok (.iconst 0, 1) := by decide +kernel
theorem d34_31 : decode (byt 34) 31 = .ok (.iconst 3, 1) := by decide +kernel
theorem d34_32 : decode (byt 34) 32 = .ok (.invokestatic 113, 3) := by decide +kernel
theorem d34_35 : decode (byt 34) 35 = .ok (.iload 6, 2) := by decide +kernel
theorem d34_37 : decode (byt 34) 37 = .ok (.iconst 1, 1) := by decide +kernel
theorem d34_38 : decode (byt 34) 38 = .ok (.isub, 1) := by decide +kernel
theorem d34_39 : decode (byt 34) 39 = .ok (.istore 8, 2) := by decide +kernel
theorem d34_41 : decode (byt 34) 41 = .ok (.iload 8, 2) := by decide +kernel
theorem d34_43 : decode (byt 34) 43 = .ok (.ifCond .lt 85, 3) := by decide +kernel
theorem d34_46 : decode (byt 34) 46 = .ok (.iload 8, 2) := by decide +kernel
theorem d34_48 : decode (byt 34) 48 = .ok (.ifCond .ne 8, 3) := by decide +kernel
theorem d34_51 : decode (byt 34) 51 = .ok (.iload_n 2, 1) := by decide +kernel
theorem d34_52 : decode (byt 34) 52 = .ok (.i2l, 1) := by decide +kernel
theorem d34_53 : decode (byt 34) 53 = .ok (.goto 17, 3) := by decide +kernel
theorem d34_56 : decode (byt 34) 56 = .ok (.iload 8, 2) := by decide +kernel
theorem d34_58 : decode (byt 34) 58 = .ok (.iconst 1, 1) := by decide +kernel
theorem d34_59 : decode (byt 34) 59 = .ok (.if_icmp .ne 8, 3) := by decide +kernel
theorem d34_62 : decode (byt 34) 62 = .ok (.iload_n 3, 1) := by decide +kernel
theorem d34_63 : decode (byt 34) 63 = .ok (.i2l, 1) := by decide +kernel
theorem d34_64 : decode (byt 34) 64 = .ok (.goto 6, 3) := by decide +kernel
theorem d34_67 : decode (byt 34) 67 = .ok (.iload 4, 2) := by decide +kernel
theorem d34_69 : decode (byt 34) 69 = .ok (.i2l, 1) := by decide +kernel
theorem d34_70 : decode (byt 34) 70 = .ok (.lstore 9, 2) := by decide +kernel
theorem d34_72 : decode (byt 34) 72 = .ok (.aload_n 0, 1) := by decide +kernel
theorem d34_73 : decode (byt 34) 73 = .ok (.aload_n 0, 1) := by decide +kernel
theorem d34_74 : decode (byt 34) 74 = .ok (.getfield 44, 3) := by decide +kernel
theorem d34_77 : decode (byt 34) 77 = .ok (.aload_n 0, 1) := by decide +kernel
theorem d34_78 : decode (byt 34) 78 = .ok (.getfield 41, 3) := by decide +kernel
theorem d34_81 : decode (byt 34) 81 = .ok (.invokevirtual 58, 3) := by decide +kernel
theorem d34_84 : decode (byt 34) 84 = .ok (.iconst 0, 1) := by decide +kernel
theorem d34_85 : decode (byt 34) 85 = .ok (.istore 11, 2) := by decide +kernel
theorem d34_87 : decode (byt 34) 87 = .ok (.iload 11, 2) := by decide +kernel
theorem d34_89 : decode (byt 34) 89 = .ok (.iconst 3, 1) := by decide +kernel
theorem d34_90 : decode (byt 34) 90 = .ok (.if_icmp .ge 32, 3) := by decide +kernel
theorem d34_93 : decode (byt 34) 93 = .ok (.aload_n 0, 1) := by decide +kernel
theorem d34_94 : decode (byt 34) 94 = .ok (.getfield 41, 3) := by decide +kernel
theorem d34_97 : decode (byt 34) 97 = .ok (.iload 11, 2) := by decide +kernel
theorem d34_99 : decode (byt 34) 99 = .ok (.aload_n 0, 1) := by decide +kernel
theorem d34_100 : decode (byt 34) 100 = .ok (.getfield 44, 3) := by decide +kernel
theorem d34_103 : decode (byt 34) 103 = .ok (.iload 11, 2) := by decide +kernel
theorem d34_105 : decode (byt 34) 105 = .ok (.laload, 1) := by decide +kernel
theorem d34_106 : decode (byt 34) 106 = .ok (.lload 9, 2) := by decide +kernel
theorem d34_108 : decode (byt 34) 108 = .ok (.aload 7, 2) := by decide +kernel
theorem d34_110 : decode (byt 34) 110 = .ok (.iload 11, 2) := by decide +kernel
theorem d34_112 : decode (byt 34) 112 = .ok (.laload, 1) := by decide +kernel
theorem d34_113 : decode (byt 34) 113 = .ok (.lmul, 1) := by decide +kernel
theorem d34_114 : decode (byt 34) 114 = .ok (.ladd, 1) := by decide +kernel
theorem d34_115 : decode (byt 34) 115 = .ok (.lastore, 1) := by decide +kernel
theorem d34_116 : decode (byt 34) 116 = .ok (.iinc 11 1, 3) := by decide +kernel
theorem d34_119 : decode (byt 34) 119 = .ok (.goto (-32), 3) := by decide +kernel
theorem d34_122 : decode (byt 34) 122 = .ok (.iinc 8 (-1), 3) := by decide +kernel
theorem d34_125 : decode (byt 34) 125 = .ok (.goto (-84), 3) := by decide +kernel
theorem d34_128 : decode (byt 34) 128 = .ok (.lconst 0, 1) := by decide +kernel
theorem d34_129 : decode (byt 34) 129 = .ok (.lstore 8, 2) := by decide +kernel
theorem d34_131 : decode (byt 34) 131 = .ok (.iconst 0, 1) := by decide +kernel
theorem d34_132 : decode (byt 34) 132 = .ok (.istore 10, 2) := by decide +kernel
theorem d34_134 : decode (byt 34) 134 = .ok (.iload 10, 2) := by decide +kernel
theorem d34_136 : decode (byt 34) 136 = .ok (.iload 6, 2) := by decide +kernel
theorem d34_138 : decode (byt 34) 138 = .ok (.if_icmp .ge 32, 3) := by decide +kernel
theorem d34_141 : decode (byt 34) 141 = .ok (.lload 8, 2) := by decide +kernel
theorem d34_143 : decode (byt 34) 143 = .ok (.aload 7, 2) := by decide +kernel
theorem d34_145 : decode (byt 34) 145 = .ok (.iload 10, 2) := by decide +kernel
theorem d34_147 : decode (byt 34) 147 = .ok (.laload, 1) := by decide +kernel
theorem d34_148 : decode (byt 34) 148 = .ok (.aload_n 0, 1) := by decide +kernel
theorem d34_149 : decode (byt 34) 149 = .ok (.getfield 22, 3) := by decide +kernel
theorem d34_152 : decode (byt 34) 152 = .ok (.iload 6, 2) := by decide +kernel
theorem d34_154 : decode (byt 34) 154 = .ok (.iconst 1, 1) := by decide +kernel
theorem d34_155 : decode (byt 34) 155 = .ok (.isub, 1) := by decide +kernel
theorem d34_156 : decode (byt 34) 156 = .ok (.aaload, 1) := by decide +kernel
theorem d34_157 : decode (byt 34) 157 = .ok (.iload 10, 2) := by decide +kernel
theorem d34_159 : decode (byt 34) 159 = .ok (.laload, 1) := by decide +kernel
theorem d34_160 : decode (byt 34) 160 = .ok (.lmul, 1) := by decide +kernel
theorem d34_161 : decode (byt 34) 161 = .ok (.ladd, 1) := by decide +kernel
theorem d34_162 : decode (byt 34) 162 = .ok (.lstore 8, 2) := by decide +kernel
theorem d34_164 : decode (byt 34) 164 = .ok (.iinc 10 1, 3) := by decide +kernel
theorem d34_167 : decode (byt 34) 167 = .ok (.goto (-33), 3) := by decide +kernel
theorem d34_170 : decode (byt 34) 170 = .ok (.aload_n 1, 1) := by decide +kernel
theorem d34_171 : decode (byt 34) 171 = .ok (.aload_n 0, 1) := by decide +kernel
theorem d34_172 : decode (byt 34) 172 = .ok (.getfield 41, 3) := by decide +kernel
theorem d34_175 : decode (byt 34) 175 = .ok (.iload 5, 2) := by decide +kernel
theorem d34_177 : decode (byt 34) 177 = .ok (.laload, 1) := by decide +kernel
theorem d34_178 : decode (byt 34) 178 = .ok (.aload_n 0, 1) := by decide +kernel
theorem d34_179 : decode (byt 34) 179 = .ok (.getfield 14, 3) := by decide +kernel
theorem d34_182 : decode (byt 34) 182 = .ok (.getfield 88, 3) := by decide +kernel
theorem d34_185 : decode (byt 34) 185 = .ok (.i2l, 1) := by decide +kernel
theorem d34_186 : decode (byt 34) 186 = .ok (.lload 8, 2) := by decide +kernel
theorem d34_188 : decode (byt 34) 188 = .ok (.lmul, 1) := by decide +kernel
theorem d34_189 : decode (byt 34) 189 = .ok (.invokevirtual 123, 3) := by decide +kernel
theorem d34_192 : decode (byt 34) 192 = .ok (.return_, 1) := by decide +kernel
set_option maxRecDepth 20000 in
theorem S34_0 : (∀ (ls : Lo) (st : List Value) (h : Hp) (Q : Option Value → Hp → Prop)  (i : Nat), Wp 34 0 (some (.ref i) :: ls) (st) h Q ↔ Wp 34 1 (some (.ref i) :: ls) (.ref i :: st) h Q) ∧
  (∀ (ls : Lo) (st : List Value) (n sl : Nat) (C Z : Nat → Nat) (I : Nat → Nat → Int32) (L : Nat → Nat → Int64) (R : Nat → Nat → Nat) (Q : Option Value → Hp → Prop) (i : Nat), Wp 34 1 (ls) (.ref i :: st) (n, sl, C, Z, I, L, R) Q ↔ (C i = 4 ∧ Wp 34 4 (ls) (.ref (R i 0) :: st) (n, sl, C, Z, I, L, R) Q)) ∧
  (∀ (ls : Lo) (st : List Value) (n sl : Nat) (C Z : Nat → Nat) (I : Nat → Nat → Int32) (L : Nat → Nat → Int64) (R : Nat → Nat → Nat) (Q : Option Value → Hp → Prop) (i : Nat), Wp 34 4 (ls) (.ref i :: st) (n, sl, C, Z, I, L, R) Q ↔ (inG 7 (C i) = true ∧ Wp 34 7 (ls) (.int (I i 1) :: st) (n, sl, C, Z, I, L, R) Q)) ∧
  (∀ (ls : Lo) (st : List Value) (h : Hp) (Q : Option Value → Hp → Prop) (l0 l1 l2 l3 l4 l5 l6 : Option Value) (x : Int32), Wp 34 7 (l0 :: l1 :: l2 :: l3 :: l4 :: l5 :: l6 :: ls) (.int x :: st) h Q ↔ Wp 34 9 (l0 :: l1 :: l2 :: l3 :: l4 :: clr l5 :: some (.int x) :: ls) (st) h Q) ∧
  (∀ (ls : Lo) (st : List Value) (h : Hp) (Q : Option Value → Hp → Prop)  (i : Nat), Wp 34 9 (some (.ref i) :: ls) (st) h Q ↔ Wp 34 10 (some (.ref i) :: ls) (.ref i :: st) h Q) ∧
  (∀ (ls : Lo) (st : List Value) (n sl : Nat) (C Z : Nat → Nat) (I : Nat → Nat → Int32) (L : Nat → Nat → Int64) (R : Nat → Nat → Nat) (Q : Option Value → Hp → Prop) (i : Nat), Wp 34 10 (ls) (.ref i :: st) (n, sl, C, Z, I, L, R) Q ↔ (C i = 4 ∧ Wp 34 13 (ls) (.ref (R i 4) :: st) (n, sl, C, Z, I, L, R) Q)) ∧
  (∀ (ls : Lo) (st : List Value) (h : Hp) (Q : Option Value → Hp → Prop), Wp 34 13 (ls) (st) h Q ↔ Wp 34 14 (ls) (.int (0) :: st) h Q) ∧
  (∀ (ls : Lo) (st : List Value) (n sl : Nat) (C Z : Nat → Nat) (I : Nat → Nat → Int32) (L : Nat → Nat → Int64) (R : Nat → Nat → Nat) (Q : Option Value → Hp → Prop) (i : Nat) (y : Int32), Wp 34 14 (ls) (.int y :: .ref i :: st) (n, sl, C, Z, I, L, R) Q ↔ ((inb y (Z i) = true ∧ (C i = 23 ∨ C i = 24 ∨ C i = 25)) ∧ Wp 34 15 (ls) (.ref (R i (ix y)) :: st) (n, sl, C, Z, I, L, R) Q)) ∧
  (∀ (ls : Lo) (st : List Value) (h : Hp) (Q : Option Value → Hp → Prop) (l0 l1 l2 l3 l4 l5 l6 l7 : Option Value) (i : Nat), Wp 34 15 (l0 :: l1 :: l2 :: l3 :: l4 :: l5 :: l6 :: l7 :: ls) (.ref i :: st) h Q ↔ Wp 34 17 (l0 :: l1 :: l2 :: l3 :: l4 :: l5 :: clr l6 :: some (.ref i) :: ls) (st) h Q) ∧
  (∀ (ls : Lo) (st : List Value) (h : Hp) (Q : Option Value → Hp → Prop)  (i : Nat), Wp 34 17 (some (.ref i) :: ls) (st) h Q ↔ Wp 34 18 (some (.ref i) :: ls) (.ref i :: st) h Q) ∧
  (∀ (ls : Lo) (st : List Value) (h : Hp) (Q : Option Value → Hp → Prop) (l0 l1 l2 l3 l4 l5 l6 : Option Value) (i : Nat), Wp 34 18 (l0 :: l1 :: l2 :: l3 :: l4 :: l5 :: l6 :: some (.ref i) :: ls) (st) h Q ↔ Wp 34 20 (l0 :: l1 :: l2 :: l3 :: l4 :: l5 :: l6 :: some (.ref i) :: ls) (.ref i :: st) h Q) ∧
  (∀ (ls : Lo) (st : List Value) (n sl : Nat) (C Z : Nat → Nat) (I : Nat → Nat → Int32) (L : Nat → Nat → Int64) (R : Nat → Nat → Nat) (Q : Option Value → Hp → Prop) (x0 : Nat) (i : Nat), C i = 4 → (Wp 34 20 (ls) (.ref x0 :: .ref i :: st) (n, sl, C, Z, I, L, R) Q ↔ (wsum st ≤ 8 ∧ Call 35 [some (.ref i), some (.ref x0), none, none, none, none] (n, sl, C, Z, I, L, R) 34 23 ls st Q))) ∧
  (∀ (ls : Lo) (st : List Value) (h : Hp) (Q : Option Value → Hp → Prop) (l0 l1 l2 l3 l4 l5 l6 : Option Value) (i : Nat), Wp 34 23 (l0 :: l1 :: l2 :: l3 :: l4 :: l5 :: l6 :: some (.ref i) :: ls) (st) h Q ↔ Wp 34 25 (l0 :: l1 :: l2 :: l3 :: l4 :: l5 :: l6 :: some (.ref i) :: ls) (.ref i :: st) h Q) ∧
  (∀ (ls : Lo) (st : List Value) (h : Hp) (Q : Option Value → Hp → Prop), Wp 34 25 (ls) (st) h Q ↔ Wp 34 26 (ls) (.int (0) :: st) h Q) ∧
  (∀ (ls : Lo) (st : List Value) (h : Hp) (Q : Option Value → Hp → Prop)  (i : Nat), Wp 34 26 (some (.ref i) :: ls) (st) h Q ↔ Wp 34 27 (some (.ref i) :: ls) (.ref i :: st) h Q) ∧
  (∀ (ls : Lo) (st : List Value) (n sl : Nat) (C Z : Nat → Nat) (I : Nat → Nat → Int32) (L : Nat → Nat → Int64) (R : Nat → Nat → Nat) (Q : Option Value → Hp → Prop) (i : Nat), Wp 34 27 (ls) (.ref i :: st) (n, sl, C, Z, I, L, R) Q ↔ (C i = 4 ∧ Wp 34 30 (ls) (.ref (R i 7) :: st) (n, sl, C, Z, I, L, R) Q)) ∧
  (∀ (ls : Lo) (st : List Value) (h : Hp) (Q : Option Value → Hp → Prop), Wp 34 30 (ls) (st) h Q ↔ Wp 34 31 (ls) (.int (0) :: st) h Q) ∧
  (∀ (ls : Lo) (st : List Value) (h : Hp) (Q : Option Value → Hp → Prop), Wp 34 31 (ls) (st) h Q ↔ Wp 34 32 (ls) (.int (3) :: st) h Q) ∧
  (∀ (ls : Lo) (st : List Value) (n sl : Nat) (C Z : Nat → Nat) (I : Nat → Nat → Int32) (L : Nat → Nat → Int64) (R : Nat → Nat → Nat) (Q : Option Value → Hp → Prop) (i j : Nat) (x y v : Int32), Wp 34 32 (ls) (.int v :: .int y :: .ref j :: .int x :: .ref i :: st) (n, sl, C, Z, I, L, R) Q ↔ ((wsum st ≤ 8 ∧ C i = 22 ∧ C j = 22 ∧ ¬ x < 0 ∧ ¬ y < 0 ∧ ¬ v < 0 ∧ ix x + ix v ≤ Z i ∧ ix y + ix v ≤ Z j) ∧ Wp 34 35 (ls) (st) (n, sl, C, Z, I, va_up L j (va_cpy (L i) (L j) (ix x) (ix y) (ix v)), R) Q)) ∧
  (∀ (ls : Lo) (st : List Value) (h : Hp) (Q : Option Value → Hp → Prop) (l0 l1 l2 l3 l4 l5 : Option Value) (x : Int32), Wp 34 35 (l0 :: l1 :: l2 :: l3 :: l4 :: l5 :: some (.int x) :: ls) (st) h Q ↔ Wp 34 37 (l0 :: l1 :: l2 :: l3 :: l4 :: l5 :: some (.int x) :: ls) (.int x :: st) h Q) ∧
  (∀ (ls : Lo) (st : List Value) (h : Hp) (Q : Option Value → Hp → Prop), Wp 34 37 (ls) (st) h Q ↔ Wp 34 38 (ls) (.int (1) :: st) h Q) ∧
  (∀ (ls : Lo) (st : List Value) (h : Hp) (Q : Option Value → Hp → Prop) (x y : Int32), Wp 34 38 (ls) (.int y :: .int x :: st) h Q ↔ Wp 34 39 (ls) (.int (x - y) :: st) h Q) ∧
  (∀ (ls : Lo) (st : List Value) (h : Hp) (Q : Option Value → Hp → Prop) (l0 l1 l2 l3 l4 l5 l6 l7 l8 : Option Value) (x : Int32), Wp 34 39 (l0 :: l1 :: l2 :: l3 :: l4 :: l5 :: l6 :: l7 :: l8 :: ls) (.int x :: st) h Q ↔ Wp 34 41 (l0 :: l1 :: l2 :: l3 :: l4 :: l5 :: l6 :: clr l7 :: some (.int x) :: ls) (st) h Q) ∧
  (∀ (ls : Lo) (st : List Value) (h : Hp) (Q : Option Value → Hp → Prop) (l0 l1 l2 l3 l4 l5 l6 l7 : Option Value) (x : Int32), Wp 34 41 (l0 :: l1 :: l2 :: l3 :: l4 :: l5 :: l6 :: l7 :: some (.int x) :: ls) (st) h Q ↔ Wp 34 43 (l0 :: l1 :: l2 :: l3 :: l4 :: l5 :: l6 :: l7 :: some (.int x) :: ls) (.int x :: st) h Q) ∧
  (∀ (ls : Lo) (st : List Value) (h : Hp) (Q : Option Value → Hp → Prop) (x : Int32), Wp 34 43 (ls) (.int x :: st) h Q ↔ Br 34 128 46 ls st h Q (x < 0)) := ⟨by intro ls st h Q i; exact e_aload_n d34_0 rfl,
  by intro ls st n sl C Z I L R Q i; exact e_get (g := 3) (s := 0) (ty := 2) d34_1 rfl rfl (inG_ne (by decide)),
  by intro ls st n sl C Z I L R Q i; exact e_get (g := 7) (s := 1) (ty := 0) d34_4 rfl rfl rfl,
  by intro ls st h Q l0 l1 l2 l3 l4 l5 l6 x; exact e_istore d34_7 rfl,
  by intro ls st h Q i; exact e_aload_n d34_9 rfl,
  by intro ls st n sl C Z I L R Q i; exact e_get (g := 3) (s := 4) (ty := 2) d34_10 rfl rfl (inG_ne (by decide)),
  by intro ls st h Q; exact e_iconst d34_13 rfl,
  by intro ls st n sl C Z I L R Q i y; exact e_aald d34_14,
  by intro ls st h Q l0 l1 l2 l3 l4 l5 l6 l7 i; exact e_astore d34_15 rfl,
  by intro ls st h Q i; exact e_aload_n d34_17 rfl,
  by intro ls st h Q l0 l1 l2 l3 l4 l5 l6 i; exact e_aload d34_18 rfl,
  by intro ls st n sl C Z I L R Q x0 i hh; exact e_iv (k2 := 35) (c := 4) (as := [.ref x0]) d34_20 rfl (by decide) rfl rfl (by decide +kernel) (Nat.le_of_ble_eq_true rfl) rfl hh,
  by intro ls st h Q l0 l1 l2 l3 l4 l5 l6 i; exact e_aload d34_23 rfl,
  by intro ls st h Q; exact e_iconst d34_25 rfl,
  by intro ls st h Q i; exact e_aload_n d34_26 rfl,
  by intro ls st n sl C Z I L R Q i; exact e_get (g := 3) (s := 7) (ty := 2) d34_27 rfl rfl (inG_ne (by decide)),
  by intro ls st h Q; exact e_iconst d34_30 rfl,
  by intro ls st h Q; exact e_iconst d34_31 rfl,
  by intro ls st n sl C Z I L R Q i j x y v; exact e_cpy d34_32 rfl (by decide +kernel),
  by intro ls st h Q l0 l1 l2 l3 l4 l5 x; exact e_iload d34_35 rfl,
  by intro ls st h Q; exact e_iconst d34_37 rfl,
  by intro ls st h Q x y; exact e_isub d34_38,
  by intro ls st h Q l0 l1 l2 l3 l4 l5 l6 l7 l8 x; exact e_istore d34_39 rfl,
  by intro ls st h Q l0 l1 l2 l3 l4 l5 l6 l7 x; exact e_iload d34_41 rfl,
  by intro ls st h Q x; exact e_if d34_43 (by decide) c_lt⟩
set_option maxRecDepth 20000 in
theorem S34_1 : (∀ (ls : Lo) (st : List Value) (h : Hp) (Q : Option Value → Hp → Prop) (l0 l1 l2 l3 l4 l5 l6 l7 : Option Value) (x : Int32), Wp 34 46 (l0 :: l1 :: l2 :: l3 :: l4 :: l5 :: l6 :: l7 :: some (.int x) :: ls) (st) h Q ↔ Wp 34 48 (l0 :: l1 :: l2 :: l3 :: l4 :: l5 :: l6 :: l7 :: some (.int x) :: ls) (.int x :: st) h Q) ∧
  (∀ (ls : Lo) (st : List Value) (h : Hp) (Q : Option Value → Hp → Prop) (x : Int32), Wp 34 48 (ls) (.int x :: st) h Q ↔ Br 34 56 51 ls st h Q (¬ x = 0)) ∧
  (∀ (ls : Lo) (st : List Value) (h : Hp) (Q : Option Value → Hp → Prop) (l0 l1 : Option Value) (x : Int32), Wp 34 51 (l0 :: l1 :: some (.int x) :: ls) (st) h Q ↔ Wp 34 52 (l0 :: l1 :: some (.int x) :: ls) (.int x :: st) h Q) ∧
  (∀ (ls : Lo) (st : List Value) (h : Hp) (Q : Option Value → Hp → Prop) (x : Int32), Wp 34 52 (ls) (.int x :: st) h Q ↔ Wp 34 53 (ls) (.long x.toInt64 :: st) h Q) ∧
  (∀ (ls : Lo) (st : List Value) (h : Hp) (Q : Option Value → Hp → Prop), Wp 34 53 (ls) (st) h Q ↔ Wp 34 70 (ls) (st) h Q) ∧
  (∀ (ls : Lo) (st : List Value) (h : Hp) (Q : Option Value → Hp → Prop) (l0 l1 l2 l3 l4 l5 l6 l7 : Option Value) (x : Int32), Wp 34 56 (l0 :: l1 :: l2 :: l3 :: l4 :: l5 :: l6 :: l7 :: some (.int x) :: ls) (st) h Q ↔ Wp 34 58 (l0 :: l1 :: l2 :: l3 :: l4 :: l5 :: l6 :: l7 :: some (.int x) :: ls) (.int x :: st) h Q) ∧
  (∀ (ls : Lo) (st : List Value) (h : Hp) (Q : Option Value → Hp → Prop), Wp 34 58 (ls) (st) h Q ↔ Wp 34 59 (ls) (.int (1) :: st) h Q) ∧
  (∀ (ls : Lo) (st : List Value) (h : Hp) (Q : Option Value → Hp → Prop) (x y : Int32), Wp 34 59 (ls) (.int y :: .int x :: st) h Q ↔ Br 34 67 62 ls st h Q (¬ x = y)) ∧
  (∀ (ls : Lo) (st : List Value) (h : Hp) (Q : Option Value → Hp → Prop) (l0 l1 l2 : Option Value) (x : Int32), Wp 34 62 (l0 :: l1 :: l2 :: some (.int x) :: ls) (st) h Q ↔ Wp 34 63 (l0 :: l1 :: l2 :: some (.int x) :: ls) (.int x :: st) h Q) ∧
  (∀ (ls : Lo) (st : List Value) (h : Hp) (Q : Option Value → Hp → Prop) (x : Int32), Wp 34 63 (ls) (.int x :: st) h Q ↔ Wp 34 64 (ls) (.long x.toInt64 :: st) h Q) ∧
  (∀ (ls : Lo) (st : List Value) (h : Hp) (Q : Option Value → Hp → Prop), Wp 34 64 (ls) (st) h Q ↔ Wp 34 70 (ls) (st) h Q) ∧
  (∀ (ls : Lo) (st : List Value) (h : Hp) (Q : Option Value → Hp → Prop) (l0 l1 l2 l3 : Option Value) (x : Int32), Wp 34 67 (l0 :: l1 :: l2 :: l3 :: some (.int x) :: ls) (st) h Q ↔ Wp 34 69 (l0 :: l1 :: l2 :: l3 :: some (.int x) :: ls) (.int x :: st) h Q) ∧
  (∀ (ls : Lo) (st : List Value) (h : Hp) (Q : Option Value → Hp → Prop) (x : Int32), Wp 34 69 (ls) (.int x :: st) h Q ↔ Wp 34 70 (ls) (.long x.toInt64 :: st) h Q) ∧
  (∀ (ls : Lo) (st : List Value) (h : Hp) (Q : Option Value → Hp → Prop) (l0 l1 l2 l3 l4 l5 l6 l7 l8 l9 l10 : Option Value) (a : Int64), Wp 34 70 (l0 :: l1 :: l2 :: l3 :: l4 :: l5 :: l6 :: l7 :: l8 :: l9 :: l10 :: ls) (.long a :: st) h Q ↔ Wp 34 72 (l0 :: l1 :: l2 :: l3 :: l4 :: l5 :: l6 :: l7 :: clr l8 :: some (.long a) :: none :: ls) (st) h Q) ∧
  (∀ (ls : Lo) (st : List Value) (h : Hp) (Q : Option Value → Hp → Prop)  (i : Nat), Wp 34 72 (some (.ref i) :: ls) (st) h Q ↔ Wp 34 73 (some (.ref i) :: ls) (.ref i :: st) h Q) ∧
  (∀ (ls : Lo) (st : List Value) (h : Hp) (Q : Option Value → Hp → Prop)  (i : Nat), Wp 34 73 (some (.ref i) :: ls) (st) h Q ↔ Wp 34 74 (some (.ref i) :: ls) (.ref i :: st) h Q) ∧
  (∀ (ls : Lo) (st : List Value) (n sl : Nat) (C Z : Nat → Nat) (I : Nat → Nat → Int32) (L : Nat → Nat → Int64) (R : Nat → Nat → Nat) (Q : Option Value → Hp → Prop) (i : Nat), Wp 34 74 (ls) (.ref i :: st) (n, sl, C, Z, I, L, R) Q ↔ (C i = 4 ∧ Wp 34 77 (ls) (.ref (R i 8) :: st) (n, sl, C, Z, I, L, R) Q)) ∧
  (∀ (ls : Lo) (st : List Value) (h : Hp) (Q : Option Value → Hp → Prop)  (i : Nat), Wp 34 77 (some (.ref i) :: ls) (st) h Q ↔ Wp 34 78 (some (.ref i) :: ls) (.ref i :: st) h Q) ∧
  (∀ (ls : Lo) (st : List Value) (n sl : Nat) (C Z : Nat → Nat) (I : Nat → Nat → Int32) (L : Nat → Nat → Int64) (R : Nat → Nat → Nat) (Q : Option Value → Hp → Prop) (i : Nat), Wp 34 78 (ls) (.ref i :: st) (n, sl, C, Z, I, L, R) Q ↔ (C i = 4 ∧ Wp 34 81 (ls) (.ref (R i 7) :: st) (n, sl, C, Z, I, L, R) Q)) ∧
  (∀ (ls : Lo) (st : List Value) (n sl : Nat) (C Z : Nat → Nat) (I : Nat → Nat → Int32) (L : Nat → Nat → Int64) (R : Nat → Nat → Nat) (Q : Option Value → Hp → Prop) (x0 : Nat) (x1 : Nat) (i : Nat), C i = 4 → (Wp 34 81 (ls) (.ref x1 :: .ref x0 :: .ref i :: st) (n, sl, C, Z, I, L, R) Q ↔ (wsum st ≤ 8 ∧ Call 19 [some (.ref i), some (.ref x0), some (.ref x1), none, none, none, none] (n, sl, C, Z, I, L, R) 34 84 ls st Q))) ∧
  (∀ (ls : Lo) (st : List Value) (h : Hp) (Q : Option Value → Hp → Prop), Wp 34 84 (ls) (st) h Q ↔ Wp 34 85 (ls) (.int (0) :: st) h Q) ∧
  (∀ (ls : Lo) (st : List Value) (h : Hp) (Q : Option Value → Hp → Prop) (l0 l1 l2 l3 l4 l5 l6 l7 l8 l9 l10 l11 : Option Value) (x : Int32), Wp 34 85 (l0 :: l1 :: l2 :: l3 :: l4 :: l5 :: l6 :: l7 :: l8 :: l9 :: l10 :: l11 :: ls) (.int x :: st) h Q ↔ Wp 34 87 (l0 :: l1 :: l2 :: l3 :: l4 :: l5 :: l6 :: l7 :: l8 :: l9 :: clr l10 :: some (.int x) :: ls) (st) h Q) ∧
  (∀ (ls : Lo) (st : List Value) (h : Hp) (Q : Option Value → Hp → Prop) (l0 l1 l2 l3 l4 l5 l6 l7 l8 l9 l10 : Option Value) (x : Int32), Wp 34 87 (l0 :: l1 :: l2 :: l3 :: l4 :: l5 :: l6 :: l7 :: l8 :: l9 :: l10 :: some (.int x) :: ls) (st) h Q ↔ Wp 34 89 (l0 :: l1 :: l2 :: l3 :: l4 :: l5 :: l6 :: l7 :: l8 :: l9 :: l10 :: some (.int x) :: ls) (.int x :: st) h Q) ∧
  (∀ (ls : Lo) (st : List Value) (h : Hp) (Q : Option Value → Hp → Prop), Wp 34 89 (ls) (st) h Q ↔ Wp 34 90 (ls) (.int (3) :: st) h Q) ∧
  (∀ (ls : Lo) (st : List Value) (h : Hp) (Q : Option Value → Hp → Prop) (x y : Int32), Wp 34 90 (ls) (.int y :: .int x :: st) h Q ↔ Br 34 122 93 ls st h Q (y ≤ x)) := ⟨by intro ls st h Q l0 l1 l2 l3 l4 l5 l6 l7 x; exact e_iload d34_46 rfl,
  by intro ls st h Q x; exact e_if d34_48 (by decide) c_ne,
  by intro ls st h Q l0 l1 x; exact e_iload_n d34_51 rfl,
  by intro ls st h Q x; exact e_i2l d34_52,
  by intro ls st h Q; exact e_goto d34_53 (by decide),
  by intro ls st h Q l0 l1 l2 l3 l4 l5 l6 l7 x; exact e_iload d34_56 rfl,
  by intro ls st h Q; exact e_iconst d34_58 rfl,
  by intro ls st h Q x y; exact e_ic d34_59 (by decide) c_ne,
  by intro ls st h Q l0 l1 l2 x; exact e_iload_n d34_62 rfl,
  by intro ls st h Q x; exact e_i2l d34_63,
  by intro ls st h Q; exact e_goto d34_64 (by decide),
  by intro ls st h Q l0 l1 l2 l3 x; exact e_iload d34_67 rfl,
  by intro ls st h Q x; exact e_i2l d34_69,
  by intro ls st h Q l0 l1 l2 l3 l4 l5 l6 l7 l8 l9 l10 a; exact e_lstore d34_70 rfl,
  by intro ls st h Q i; exact e_aload_n d34_72 rfl,
  by intro ls st h Q i; exact e_aload_n d34_73 rfl,
  by intro ls st n sl C Z I L R Q i; exact e_get (g := 3) (s := 8) (ty := 2) d34_74 rfl rfl (inG_ne (by decide)),
  by intro ls st h Q i; exact e_aload_n d34_77 rfl,
  by intro ls st n sl C Z I L R Q i; exact e_get (g := 3) (s := 7) (ty := 2) d34_78 rfl rfl (inG_ne (by decide)),
  by intro ls st n sl C Z I L R Q x0 x1 i hh; exact e_iv (k2 := 19) (c := 4) (as := [.ref x0, .ref x1]) d34_81 rfl (by decide) rfl rfl (by decide +kernel) (Nat.le_of_ble_eq_true rfl) rfl hh,
  by intro ls st h Q; exact e_iconst d34_84 rfl,
  by intro ls st h Q l0 l1 l2 l3 l4 l5 l6 l7 l8 l9 l10 l11 x; exact e_istore d34_85 rfl,
  by intro ls st h Q l0 l1 l2 l3 l4 l5 l6 l7 l8 l9 l10 x; exact e_iload d34_87 rfl,
  by intro ls st h Q; exact e_iconst d34_89 rfl,
  by intro ls st h Q x y; exact e_ic d34_90 (by decide) c_ge⟩
set_option maxRecDepth 20000 in
theorem S34_2 : (∀ (ls : Lo) (st : List Value) (h : Hp) (Q : Option Value → Hp → Prop)  (i : Nat), Wp 34 93 (some (.ref i) :: ls) (st) h Q ↔ Wp 34 94 (some (.ref i) :: ls) (.ref i :: st) h Q) ∧
  (∀ (ls : Lo) (st : List Value) (n sl : Nat) (C Z : Nat → Nat) (I : Nat → Nat → Int32) (L : Nat → Nat → Int64) (R : Nat → Nat → Nat) (Q : Option Value → Hp → Prop) (i : Nat), Wp 34 94 (ls) (.ref i :: st) (n, sl, C, Z, I, L, R) Q ↔ (C i = 4 ∧ Wp 34 97 (ls) (.ref (R i 7) :: st) (n, sl, C, Z, I, L, R) Q)) ∧
  (∀ (ls : Lo) (st : List Value) (h : Hp) (Q : Option Value → Hp → Prop) (l0 l1 l2 l3 l4 l5 l6 l7 l8 l9 l10 : Option Value) (x : Int32), Wp 34 97 (l0 :: l1 :: l2 :: l3 :: l4 :: l5 :: l6 :: l7 :: l8 :: l9 :: l10 :: some (.int x) :: ls) (st) h Q ↔ Wp 34 99 (l0 :: l1 :: l2 :: l3 :: l4 :: l5 :: l6 :: l7 :: l8 :: l9 :: l10 :: some (.int x) :: ls) (.int x :: st) h Q) ∧
  (∀ (ls : Lo) (st : List Value) (h : Hp) (Q : Option Value → Hp → Prop)  (i : Nat), Wp 34 99 (some (.ref i) :: ls) (st) h Q ↔ Wp 34 100 (some (.ref i) :: ls) (.ref i :: st) h Q) ∧
  (∀ (ls : Lo) (st : List Value) (n sl : Nat) (C Z : Nat → Nat) (I : Nat → Nat → Int32) (L : Nat → Nat → Int64) (R : Nat → Nat → Nat) (Q : Option Value → Hp → Prop) (i : Nat), Wp 34 100 (ls) (.ref i :: st) (n, sl, C, Z, I, L, R) Q ↔ (C i = 4 ∧ Wp 34 103 (ls) (.ref (R i 8) :: st) (n, sl, C, Z, I, L, R) Q)) ∧
  (∀ (ls : Lo) (st : List Value) (h : Hp) (Q : Option Value → Hp → Prop) (l0 l1 l2 l3 l4 l5 l6 l7 l8 l9 l10 : Option Value) (x : Int32), Wp 34 103 (l0 :: l1 :: l2 :: l3 :: l4 :: l5 :: l6 :: l7 :: l8 :: l9 :: l10 :: some (.int x) :: ls) (st) h Q ↔ Wp 34 105 (l0 :: l1 :: l2 :: l3 :: l4 :: l5 :: l6 :: l7 :: l8 :: l9 :: l10 :: some (.int x) :: ls) (.int x :: st) h Q) ∧
  (∀ (ls : Lo) (st : List Value) (n sl : Nat) (C Z : Nat → Nat) (I : Nat → Nat → Int32) (L : Nat → Nat → Int64) (R : Nat → Nat → Nat) (Q : Option Value → Hp → Prop) (i : Nat) (y : Int32), Wp 34 105 (ls) (.int y :: .ref i :: st) (n, sl, C, Z, I, L, R) Q ↔ ((inb y (Z i) = true ∧ C i = 22) ∧ Wp 34 106 (ls) (.long (L i (ix y)) :: st) (n, sl, C, Z, I, L, R) Q)) ∧
  (∀ (ls : Lo) (st : List Value) (h : Hp) (Q : Option Value → Hp → Prop) (l0 l1 l2 l3 l4 l5 l6 l7 l8 : Option Value) (a : Int64), Wp 34 106 (l0 :: l1 :: l2 :: l3 :: l4 :: l5 :: l6 :: l7 :: l8 :: some (.long a) :: ls) (st) h Q ↔ Wp 34 108 (l0 :: l1 :: l2 :: l3 :: l4 :: l5 :: l6 :: l7 :: l8 :: some (.long a) :: ls) (.long a :: st) h Q) ∧
  (∀ (ls : Lo) (st : List Value) (h : Hp) (Q : Option Value → Hp → Prop) (l0 l1 l2 l3 l4 l5 l6 : Option Value) (i : Nat), Wp 34 108 (l0 :: l1 :: l2 :: l3 :: l4 :: l5 :: l6 :: some (.ref i) :: ls) (st) h Q ↔ Wp 34 110 (l0 :: l1 :: l2 :: l3 :: l4 :: l5 :: l6 :: some (.ref i) :: ls) (.ref i :: st) h Q) ∧
  (∀ (ls : Lo) (st : List Value) (h : Hp) (Q : Option Value → Hp → Prop) (l0 l1 l2 l3 l4 l5 l6 l7 l8 l9 l10 : Option Value) (x : Int32), Wp 34 110 (l0 :: l1 :: l2 :: l3 :: l4 :: l5 :: l6 :: l7 :: l8 :: l9 :: l10 :: some (.int x) :: ls) (st) h Q ↔ Wp 34 112 (l0 :: l1 :: l2 :: l3 :: l4 :: l5 :: l6 :: l7 :: l8 :: l9 :: l10 :: some (.int x) :: ls) (.int x :: st) h Q) ∧
  (∀ (ls : Lo) (st : List Value) (n sl : Nat) (C Z : Nat → Nat) (I : Nat → Nat → Int32) (L : Nat → Nat → Int64) (R : Nat → Nat → Nat) (Q : Option Value → Hp → Prop) (i : Nat) (y : Int32), Wp 34 112 (ls) (.int y :: .ref i :: st) (n, sl, C, Z, I, L, R) Q ↔ ((inb y (Z i) = true ∧ C i = 22) ∧ Wp 34 113 (ls) (.long (L i (ix y)) :: st) (n, sl, C, Z, I, L, R) Q)) ∧
  (∀ (ls : Lo) (st : List Value) (h : Hp) (Q : Option Value → Hp → Prop) (a b : Int64), Wp 34 113 (ls) (.long b :: .long a :: st) h Q ↔ Wp 34 114 (ls) (.long (a * b) :: st) h Q) ∧
  (∀ (ls : Lo) (st : List Value) (h : Hp) (Q : Option Value → Hp → Prop) (a b : Int64), Wp 34 114 (ls) (.long b :: .long a :: st) h Q ↔ Wp 34 115 (ls) (.long (a + b) :: st) h Q) ∧
  (∀ (ls : Lo) (st : List Value) (n sl : Nat) (C Z : Nat → Nat) (I : Nat → Nat → Int32) (L : Nat → Nat → Int64) (R : Nat → Nat → Nat) (Q : Option Value → Hp → Prop) (i : Nat) (y : Int32) (a : Int64), Wp 34 115 (ls) (.long a :: .int y :: .ref i :: st) (n, sl, C, Z, I, L, R) Q ↔ ((inb y (Z i) = true ∧ C i = 22) ∧ Wp 34 116 (ls) (st) (n, sl, C, Z, I, u2 L i (ix y) a, R) Q)) ∧
  (∀ (ls : Lo) (st : List Value) (h : Hp) (Q : Option Value → Hp → Prop) (l0 l1 l2 l3 l4 l5 l6 l7 l8 l9 l10 : Option Value) (x : Int32), Wp 34 116 (l0 :: l1 :: l2 :: l3 :: l4 :: l5 :: l6 :: l7 :: l8 :: l9 :: l10 :: some (.int x) :: ls) (st) h Q ↔ Wp 34 119 (l0 :: l1 :: l2 :: l3 :: l4 :: l5 :: l6 :: l7 :: l8 :: l9 :: clr l10 :: some (.int (x + (1))) :: ls) (st) h Q) ∧
  (∀ (ls : Lo) (st : List Value) (h : Hp) (Q : Option Value → Hp → Prop), Wp 34 119 (ls) (st) h Q ↔ Wp 34 87 (ls) (st) h Q) ∧
  (∀ (ls : Lo) (st : List Value) (h : Hp) (Q : Option Value → Hp → Prop) (l0 l1 l2 l3 l4 l5 l6 l7 : Option Value) (x : Int32), Wp 34 122 (l0 :: l1 :: l2 :: l3 :: l4 :: l5 :: l6 :: l7 :: some (.int x) :: ls) (st) h Q ↔ Wp 34 125 (l0 :: l1 :: l2 :: l3 :: l4 :: l5 :: l6 :: clr l7 :: some (.int (x + (-1))) :: ls) (st) h Q) ∧
  (∀ (ls : Lo) (st : List Value) (h : Hp) (Q : Option Value → Hp → Prop), Wp 34 125 (ls) (st) h Q ↔ Wp 34 41 (ls) (st) h Q) ∧
  (∀ (ls : Lo) (st : List Value) (h : Hp) (Q : Option Value → Hp → Prop), Wp 34 128 (ls) (st) h Q ↔ Wp 34 129 (ls) (.long 0 :: st) h Q) ∧
  (∀ (ls : Lo) (st : List Value) (h : Hp) (Q : Option Value → Hp → Prop) (l0 l1 l2 l3 l4 l5 l6 l7 l8 l9 : Option Value) (a : Int64), Wp 34 129 (l0 :: l1 :: l2 :: l3 :: l4 :: l5 :: l6 :: l7 :: l8 :: l9 :: ls) (.long a :: st) h Q ↔ Wp 34 131 (l0 :: l1 :: l2 :: l3 :: l4 :: l5 :: l6 :: clr l7 :: some (.long a) :: none :: ls) (st) h Q) ∧
  (∀ (ls : Lo) (st : List Value) (h : Hp) (Q : Option Value → Hp → Prop), Wp 34 131 (ls) (st) h Q ↔ Wp 34 132 (ls) (.int (0) :: st) h Q) ∧
  (∀ (ls : Lo) (st : List Value) (h : Hp) (Q : Option Value → Hp → Prop) (l0 l1 l2 l3 l4 l5 l6 l7 l8 l9 l10 : Option Value) (x : Int32), Wp 34 132 (l0 :: l1 :: l2 :: l3 :: l4 :: l5 :: l6 :: l7 :: l8 :: l9 :: l10 :: ls) (.int x :: st) h Q ↔ Wp 34 134 (l0 :: l1 :: l2 :: l3 :: l4 :: l5 :: l6 :: l7 :: l8 :: clr l9 :: some (.int x) :: ls) (st) h Q) ∧
  (∀ (ls : Lo) (st : List Value) (h : Hp) (Q : Option Value → Hp → Prop) (l0 l1 l2 l3 l4 l5 l6 l7 l8 l9 : Option Value) (x : Int32), Wp 34 134 (l0 :: l1 :: l2 :: l3 :: l4 :: l5 :: l6 :: l7 :: l8 :: l9 :: some (.int x) :: ls) (st) h Q ↔ Wp 34 136 (l0 :: l1 :: l2 :: l3 :: l4 :: l5 :: l6 :: l7 :: l8 :: l9 :: some (.int x) :: ls) (.int x :: st) h Q) ∧
  (∀ (ls : Lo) (st : List Value) (h : Hp) (Q : Option Value → Hp → Prop) (l0 l1 l2 l3 l4 l5 : Option Value) (x : Int32), Wp 34 136 (l0 :: l1 :: l2 :: l3 :: l4 :: l5 :: some (.int x) :: ls) (st) h Q ↔ Wp 34 138 (l0 :: l1 :: l2 :: l3 :: l4 :: l5 :: some (.int x) :: ls) (.int x :: st) h Q) ∧
  (∀ (ls : Lo) (st : List Value) (h : Hp) (Q : Option Value → Hp → Prop) (x y : Int32), Wp 34 138 (ls) (.int y :: .int x :: st) h Q ↔ Br 34 170 141 ls st h Q (y ≤ x)) := ⟨by intro ls st h Q i; exact e_aload_n d34_93 rfl,
  by intro ls st n sl C Z I L R Q i; exact e_get (g := 3) (s := 7) (ty := 2) d34_94 rfl rfl (inG_ne (by decide)),
  by intro ls st h Q l0 l1 l2 l3 l4 l5 l6 l7 l8 l9 l10 x; exact e_iload d34_97 rfl,
  by intro ls st h Q i; exact e_aload_n d34_99 rfl,
  by intro ls st n sl C Z I L R Q i; exact e_get (g := 3) (s := 8) (ty := 2) d34_100 rfl rfl (inG_ne (by decide)),
  by intro ls st h Q l0 l1 l2 l3 l4 l5 l6 l7 l8 l9 l10 x; exact e_iload d34_103 rfl,
  by intro ls st n sl C Z I L R Q i y; exact e_lald d34_105,
  by intro ls st h Q l0 l1 l2 l3 l4 l5 l6 l7 l8 a; exact e_lload d34_106 rfl,
  by intro ls st h Q l0 l1 l2 l3 l4 l5 l6 i; exact e_aload d34_108 rfl,
  by intro ls st h Q l0 l1 l2 l3 l4 l5 l6 l7 l8 l9 l10 x; exact e_iload d34_110 rfl,
  by intro ls st n sl C Z I L R Q i y; exact e_lald d34_112,
  by intro ls st h Q a b; exact e_lmul d34_113,
  by intro ls st h Q a b; exact e_ladd d34_114,
  by intro ls st n sl C Z I L R Q i y a; exact e_last d34_115,
  by intro ls st h Q l0 l1 l2 l3 l4 l5 l6 l7 l8 l9 l10 x; exact e_iinc d34_116 rfl rfl rfl,
  by intro ls st h Q; exact e_goto d34_119 (by decide),
  by intro ls st h Q l0 l1 l2 l3 l4 l5 l6 l7 x; exact e_iinc d34_122 rfl rfl rfl,
  by intro ls st h Q; exact e_goto d34_125 (by decide),
  by intro ls st h Q; exact e_lconst d34_128 rfl,
  by intro ls st h Q l0 l1 l2 l3 l4 l5 l6 l7 l8 l9 a; exact e_lstore d34_129 rfl,
  by intro ls st h Q; exact e_iconst d34_131 rfl,
  by intro ls st h Q l0 l1 l2 l3 l4 l5 l6 l7 l8 l9 l10 x; exact e_istore d34_132 rfl,
  by intro ls st h Q l0 l1 l2 l3 l4 l5 l6 l7 l8 l9 x; exact e_iload d34_134 rfl,
  by intro ls st h Q l0 l1 l2 l3 l4 l5 x; exact e_iload d34_136 rfl,
  by intro ls st h Q x y; exact e_ic d34_138 (by decide) c_ge⟩
set_option maxRecDepth 20000 in
theorem S34_3 : (∀ (ls : Lo) (st : List Value) (h : Hp) (Q : Option Value → Hp → Prop) (l0 l1 l2 l3 l4 l5 l6 l7 : Option Value) (a : Int64), Wp 34 141 (l0 :: l1 :: l2 :: l3 :: l4 :: l5 :: l6 :: l7 :: some (.long a) :: ls) (st) h Q ↔ Wp 34 143 (l0 :: l1 :: l2 :: l3 :: l4 :: l5 :: l6 :: l7 :: some (.long a) :: ls) (.long a :: st) h Q) ∧
  (∀ (ls : Lo) (st : List Value) (h : Hp) (Q : Option Value → Hp → Prop) (l0 l1 l2 l3 l4 l5 l6 : Option Value) (i : Nat), Wp 34 143 (l0 :: l1 :: l2 :: l3 :: l4 :: l5 :: l6 :: some (.ref i) :: ls) (st) h Q ↔ Wp 34 145 (l0 :: l1 :: l2 :: l3 :: l4 :: l5 :: l6 :: some (.ref i) :: ls) (.ref i :: st) h Q) ∧
  (∀ (ls : Lo) (st : List Value) (h : Hp) (Q : Option Value → Hp → Prop) (l0 l1 l2 l3 l4 l5 l6 l7 l8 l9 : Option Value) (x : Int32), Wp 34 145 (l0 :: l1 :: l2 :: l3 :: l4 :: l5 :: l6 :: l7 :: l8 :: l9 :: some (.int x) :: ls) (st) h Q ↔ Wp 34 147 (l0 :: l1 :: l2 :: l3 :: l4 :: l5 :: l6 :: l7 :: l8 :: l9 :: some (.int x) :: ls) (.int x :: st) h Q) ∧
  (∀ (ls : Lo) (st : List Value) (n sl : Nat) (C Z : Nat → Nat) (I : Nat → Nat → Int32) (L : Nat → Nat → Int64) (R : Nat → Nat → Nat) (Q : Option Value → Hp → Prop) (i : Nat) (y : Int32), Wp 34 147 (ls) (.int y :: .ref i :: st) (n, sl, C, Z, I, L, R) Q ↔ ((inb y (Z i) = true ∧ C i = 22) ∧ Wp 34 148 (ls) (.long (L i (ix y)) :: st) (n, sl, C, Z, I, L, R) Q)) ∧
  (∀ (ls : Lo) (st : List Value) (h : Hp) (Q : Option Value → Hp → Prop)  (i : Nat), Wp 34 148 (some (.ref i) :: ls) (st) h Q ↔ Wp 34 149 (some (.ref i) :: ls) (.ref i :: st) h Q) ∧
  (∀ (ls : Lo) (st : List Value) (n sl : Nat) (C Z : Nat → Nat) (I : Nat → Nat → Int32) (L : Nat → Nat → Int64) (R : Nat → Nat → Nat) (Q : Option Value → Hp → Prop) (i : Nat), Wp 34 149 (ls) (.ref i :: st) (n, sl, C, Z, I, L, R) Q ↔ (C i = 4 ∧ Wp 34 152 (ls) (.ref (R i 1) :: st) (n, sl, C, Z, I, L, R) Q)) ∧
  (∀ (ls : Lo) (st : List Value) (h : Hp) (Q : Option Value → Hp → Prop) (l0 l1 l2 l3 l4 l5 : Option Value) (x : Int32), Wp 34 152 (l0 :: l1 :: l2 :: l3 :: l4 :: l5 :: some (.int x) :: ls) (st) h Q ↔ Wp 34 154 (l0 :: l1 :: l2 :: l3 :: l4 :: l5 :: some (.int x) :: ls) (.int x :: st) h Q) ∧
  (∀ (ls : Lo) (st : List Value) (h : Hp) (Q : Option Value → Hp → Prop), Wp 34 154 (ls) (st) h Q ↔ Wp 34 155 (ls) (.int (1) :: st) h Q) ∧
  (∀ (ls : Lo) (st : List Value) (h : Hp) (Q : Option Value → Hp → Prop) (x y : Int32), Wp 34 155 (ls) (.int y :: .int x :: st) h Q ↔ Wp 34 156 (ls) (.int (x - y) :: st) h Q) ∧
  (∀ (ls : Lo) (st : List Value) (n sl : Nat) (C Z : Nat → Nat) (I : Nat → Nat → Int32) (L : Nat → Nat → Int64) (R : Nat → Nat → Nat) (Q : Option Value → Hp → Prop) (i : Nat) (y : Int32), Wp 34 156 (ls) (.int y :: .ref i :: st) (n, sl, C, Z, I, L, R) Q ↔ ((inb y (Z i) = true ∧ (C i = 23 ∨ C i = 24 ∨ C i = 25)) ∧ Wp 34 157 (ls) (.ref (R i (ix y)) :: st) (n, sl, C, Z, I, L, R) Q)) ∧
  (∀ (ls : Lo) (st : List Value) (h : Hp) (Q : Option Value → Hp → Prop) (l0 l1 l2 l3 l4 l5 l6 l7 l8 l9 : Option Value) (x : Int32), Wp 34 157 (l0 :: l1 :: l2 :: l3 :: l4 :: l5 :: l6 :: l7 :: l8 :: l9 :: some (.int x) :: ls) (st) h Q ↔ Wp 34 159 (l0 :: l1 :: l2 :: l3 :: l4 :: l5 :: l6 :: l7 :: l8 :: l9 :: some (.int x) :: ls) (.int x :: st) h Q) ∧
  (∀ (ls : Lo) (st : List Value) (n sl : Nat) (C Z : Nat → Nat) (I : Nat → Nat → Int32) (L : Nat → Nat → Int64) (R : Nat → Nat → Nat) (Q : Option Value → Hp → Prop) (i : Nat) (y : Int32), Wp 34 159 (ls) (.int y :: .ref i :: st) (n, sl, C, Z, I, L, R) Q ↔ ((inb y (Z i) = true ∧ C i = 22) ∧ Wp 34 160 (ls) (.long (L i (ix y)) :: st) (n, sl, C, Z, I, L, R) Q)) ∧
  (∀ (ls : Lo) (st : List Value) (h : Hp) (Q : Option Value → Hp → Prop) (a b : Int64), Wp 34 160 (ls) (.long b :: .long a :: st) h Q ↔ Wp 34 161 (ls) (.long (a * b) :: st) h Q) ∧
  (∀ (ls : Lo) (st : List Value) (h : Hp) (Q : Option Value → Hp → Prop) (a b : Int64), Wp 34 161 (ls) (.long b :: .long a :: st) h Q ↔ Wp 34 162 (ls) (.long (a + b) :: st) h Q) ∧
  (∀ (ls : Lo) (st : List Value) (h : Hp) (Q : Option Value → Hp → Prop) (l0 l1 l2 l3 l4 l5 l6 l7 l8 l9 : Option Value) (a : Int64), Wp 34 162 (l0 :: l1 :: l2 :: l3 :: l4 :: l5 :: l6 :: l7 :: l8 :: l9 :: ls) (.long a :: st) h Q ↔ Wp 34 164 (l0 :: l1 :: l2 :: l3 :: l4 :: l5 :: l6 :: clr l7 :: some (.long a) :: none :: ls) (st) h Q) ∧
  (∀ (ls : Lo) (st : List Value) (h : Hp) (Q : Option Value → Hp → Prop) (l0 l1 l2 l3 l4 l5 l6 l7 l8 l9 : Option Value) (x : Int32), Wp 34 164 (l0 :: l1 :: l2 :: l3 :: l4 :: l5 :: l6 :: l7 :: l8 :: l9 :: some (.int x) :: ls) (st) h Q ↔ Wp 34 167 (l0 :: l1 :: l2 :: l3 :: l4 :: l5 :: l6 :: l7 :: l8 :: clr l9 :: some (.int (x + (1))) :: ls) (st) h Q) ∧
  (∀ (ls : Lo) (st : List Value) (h : Hp) (Q : Option Value → Hp → Prop), Wp 34 167 (ls) (st) h Q ↔ Wp 34 134 (ls) (st) h Q) ∧
  (∀ (ls : Lo) (st : List Value) (h : Hp) (Q : Option Value → Hp → Prop) (l0 : Option Value) (i : Nat), Wp 34 170 (l0 :: some (.ref i) :: ls) (st) h Q ↔ Wp 34 171 (l0 :: some (.ref i) :: ls) (.ref i :: st) h Q) ∧
  (∀ (ls : Lo) (st : List Value) (h : Hp) (Q : Option Value → Hp → Prop)  (i : Nat), Wp 34 171 (some (.ref i) :: ls) (st) h Q ↔ Wp 34 172 (some (.ref i) :: ls) (.ref i :: st) h Q) ∧
  (∀ (ls : Lo) (st : List Value) (n sl : Nat) (C Z : Nat → Nat) (I : Nat → Nat → Int32) (L : Nat → Nat → Int64) (R : Nat → Nat → Nat) (Q : Option Value → Hp → Prop) (i : Nat), Wp 34 172 (ls) (.ref i :: st) (n, sl, C, Z, I, L, R) Q ↔ (C i = 4 ∧ Wp 34 175 (ls) (.ref (R i 7) :: st) (n, sl, C, Z, I, L, R) Q)) ∧
  (∀ (ls : Lo) (st : List Value) (h : Hp) (Q : Option Value → Hp → Prop) (l0 l1 l2 l3 l4 : Option Value) (x : Int32), Wp 34 175 (l0 :: l1 :: l2 :: l3 :: l4 :: some (.int x) :: ls) (st) h Q ↔ Wp 34 177 (l0 :: l1 :: l2 :: l3 :: l4 :: some (.int x) :: ls) (.int x :: st) h Q) ∧
  (∀ (ls : Lo) (st : List Value) (n sl : Nat) (C Z : Nat → Nat) (I : Nat → Nat → Int32) (L : Nat → Nat → Int64) (R : Nat → Nat → Nat) (Q : Option Value → Hp → Prop) (i : Nat) (y : Int32), Wp 34 177 (ls) (.int y :: .ref i :: st) (n, sl, C, Z, I, L, R) Q ↔ ((inb y (Z i) = true ∧ C i = 22) ∧ Wp 34 178 (ls) (.long (L i (ix y)) :: st) (n, sl, C, Z, I, L, R) Q)) ∧
  (∀ (ls : Lo) (st : List Value) (h : Hp) (Q : Option Value → Hp → Prop)  (i : Nat), Wp 34 178 (some (.ref i) :: ls) (st) h Q ↔ Wp 34 179 (some (.ref i) :: ls) (.ref i :: st) h Q) ∧
  (∀ (ls : Lo) (st : List Value) (n sl : Nat) (C Z : Nat → Nat) (I : Nat → Nat → Int32) (L : Nat → Nat → Int64) (R : Nat → Nat → Nat) (Q : Option Value → Hp → Prop) (i : Nat), Wp 34 179 (ls) (.ref i :: st) (n, sl, C, Z, I, L, R) Q ↔ (C i = 4 ∧ Wp 34 182 (ls) (.ref (R i 0) :: st) (n, sl, C, Z, I, L, R) Q)) ∧
  (∀ (ls : Lo) (st : List Value) (n sl : Nat) (C Z : Nat → Nat) (I : Nat → Nat → Int32) (L : Nat → Nat → Int64) (R : Nat → Nat → Nat) (Q : Option Value → Hp → Prop) (i : Nat), Wp 34 182 (ls) (.ref i :: st) (n, sl, C, Z, I, L, R) Q ↔ (inG 7 (C i) = true ∧ Wp 34 185 (ls) (.int (I i 2) :: st) (n, sl, C, Z, I, L, R) Q)) := ⟨by intro ls st h Q l0 l1 l2 l3 l4 l5 l6 l7 a; exact e_lload d34_141 rfl,
  by intro ls st h Q l0 l1 l2 l3 l4 l5 l6 i; exact e_aload d34_143 rfl,
  by intro ls st h Q l0 l1 l2 l3 l4 l5 l6 l7 l8 l9 x; exact e_iload d34_145 rfl,
  by intro ls st n sl C Z I L R Q i y; exact e_lald d34_147,
  by intro ls st h Q i; exact e_aload_n d34_148 rfl,
  by intro ls st n sl C Z I L R Q i; exact e_get (g := 3) (s := 1) (ty := 2) d34_149 rfl rfl (inG_ne (by decide)),
  by intro ls st h Q l0 l1 l2 l3 l4 l5 x; exact e_iload d34_152 rfl,
  by intro ls st h Q; exact e_iconst d34_154 rfl,
  by intro ls st h Q x y; exact e_isub d34_155,
  by intro ls st n sl C Z I L R Q i y; exact e_aald d34_156,
  by intro ls st h Q l0 l1 l2 l3 l4 l5 l6 l7 l8 l9 x; exact e_iload d34_157 rfl,
  by intro ls st n sl C Z I L R Q i y; exact e_lald d34_159,
  by intro ls st h Q a b; exact e_lmul d34_160,
  by intro ls st h Q a b; exact e_ladd d34_161,
  by intro ls st h Q l0 l1 l2 l3 l4 l5 l6 l7 l8 l9 a; exact e_lstore d34_162 rfl,
  by intro ls st h Q l0 l1 l2 l3 l4 l5 l6 l7 l8 l9 x; exact e_iinc d34_164 rfl rfl rfl,
  by intro ls st h Q; exact e_goto d34_167 (by decide),
  by intro ls st h Q l0 i; exact e_aload_n d34_170 rfl,
  by intro ls st h Q i; exact e_aload_n d34_171 rfl,
  by intro ls st n sl C Z I L R Q i; exact e_get (g := 3) (s := 7) (ty := 2) d34_172 rfl rfl (inG_ne (by decide)),
  by intro ls st h Q l0 l1 l2 l3 l4 x; exact e_iload d34_175 rfl,
  by intro ls st n sl C Z I L R Q i y; exact e_lald d34_177,
  by intro ls st h Q i; exact e_aload_n d34_178 rfl,
  by intro ls st n sl C Z I L R Q i; exact e_get (g := 3) (s := 0) (ty := 2) d34_179 rfl rfl (inG_ne (by decide)),
  by intro ls st n sl C Z I L R Q i; exact e_get (g := 7) (s := 2) (ty := 0) d34_182 rfl rfl rfl⟩
set_option maxRecDepth 20000 in
theorem S34_4 : (∀ (ls : Lo) (st : List Value) (h : Hp) (Q : Option Value → Hp → Prop) (x : Int32), Wp 34 185 (ls) (.int x :: st) h Q ↔ Wp 34 186 (ls) (.long x.toInt64 :: st) h Q) ∧
  (∀ (ls : Lo) (st : List Value) (h : Hp) (Q : Option Value → Hp → Prop) (l0 l1 l2 l3 l4 l5 l6 l7 : Option Value) (a : Int64), Wp 34 186 (l0 :: l1 :: l2 :: l3 :: l4 :: l5 :: l6 :: l7 :: some (.long a) :: ls) (st) h Q ↔ Wp 34 188 (l0 :: l1 :: l2 :: l3 :: l4 :: l5 :: l6 :: l7 :: some (.long a) :: ls) (.long a :: st) h Q) ∧
  (∀ (ls : Lo) (st : List Value) (h : Hp) (Q : Option Value → Hp → Prop) (a b : Int64), Wp 34 188 (ls) (.long b :: .long a :: st) h Q ↔ Wp 34 189 (ls) (.long (a * b) :: st) h Q) ∧
  (∀ (ls : Lo) (st : List Value) (n sl : Nat) (C Z : Nat → Nat) (I : Nat → Nat → Int32) (L : Nat → Nat → Int64) (R : Nat → Nat → Nat) (Q : Option Value → Hp → Prop) (x0 : Int64) (x1 : Int64) (i : Nat), C i = 3 → (Wp 34 189 (ls) (.long x1 :: .long x0 :: .ref i :: st) (n, sl, C, Z, I, L, R) Q ↔ (wsum st ≤ 8 ∧ Call 13 [some (.ref i), some (.long x0), none, some (.long x1), none, none, none, none, none] (n, sl, C, Z, I, L, R) 34 192 ls st Q))) ∧
  (∀ (ls : Lo) (h : Hp) (Q : Option Value → Hp → Prop), Wp 34 192 (ls) ([]) h Q ↔ Q none h) := ⟨by intro ls st h Q x; exact e_i2l d34_185,
  by intro ls st h Q l0 l1 l2 l3 l4 l5 l6 l7 a; exact e_lload d34_186 rfl,
  by intro ls st h Q a b; exact e_lmul d34_188,
  by intro ls st n sl C Z I L R Q x0 x1 i hh; exact e_iv (k2 := 13) (c := 3) (as := [.long x0, .long x1]) d34_189 rfl (by decide) rfl rfl (by decide +kernel) (Nat.le_of_ble_eq_true rfl) rfl hh,
  by intros; exact e_rV d34_192 rfl⟩
