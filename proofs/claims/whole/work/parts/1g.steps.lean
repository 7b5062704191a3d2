theorem d110_0 : decode (byt 110) 0 = .ok (.iload_n 2, 1) := by decide +kernel
theorem d110_1 : decode (byt 110) 1 = .ok (.ifCond .lt 8, 3) := by decide +kernel
theorem d110_4 : decode (byt 110) 4 = .ok (.iload_n 2, 1) := by decide +kernel
theorem d110_5 : decode (byt 110) 5 = .ok (.iconst 3, 1) := by decide +kernel
theorem d110_6 : decode (byt 110) 6 = .ok (.if_icmp .le 5, 3) := by decide +kernel
theorem d110_9 : decode (byt 110) 9 = .ok (.iconst 0, 1) := by decide +kernel
theorem d110_10 : decode (byt 110) 10 = .ok (.ireturn, 1) := by decide +kernel
theorem d110_11 : decode (byt 110) 11 = .ok (.iload_n 2, 1) := by decide +kernel
theorem d110_12 : decode (byt 110) 12 = .ok (.iconst 3, 1) := by decide +kernel
theorem d110_13 : decode (byt 110) 13 = .ok (.if_icmp .ne 5, 3) := by decide +kernel
theorem d110_16 : decode (byt 110) 16 = .ok (.iconst 1, 1) := by decide +kernel
theorem d110_17 : decode (byt 110) 17 = .ok (.ireturn, 1) := by decide +kernel
theorem d110_18 : decode (byt 110) 18 = .ok (.iload_n 3, 1) := by decide +kernel
theorem d110_19 : decode (byt 110) 19 = .ok (.ifCond .lt 13, 3) := by decide +kernel
theorem d110_22 : decode (byt 110) 22 = .ok (.iload_n 3, 1) := by decide +kernel
theorem d110_23 : decode (byt 110) 23 = .ok (.aload_n 0, 1) := by decide +kernel
theorem d110_24 : decode (byt 110) 24 = .ok (.getfield 13, 3) := by decide +kernel
theorem d110_27 : decode (byt 110) 27 = .ok (.iload_n 1, 1) := by decide +kernel
theorem d110_28 : decode (byt 110) 28 = .ok (.iaload, 1) := by decide +kernel
theorem d110_29 : decode (byt 110) 29 = .ok (.if_icmp .lt 5, 3) := by decide +kernel
theorem d110_32 : decode (byt 110) 32 = .ok (.iconst 0, 1) := by decide +kernel
theorem d110_33 : decode (byt 110) 33 = .ok (.ireturn, 1) := by decide +kernel
theorem d110_34 : decode (byt 110) 34 = .ok (.iload_n 2, 1) := by decide +kernel
theorem d110_35 : decode (byt 110) 35 = .ok (.ifCond .ne 19, 3) := by decide +kernel
theorem d110_38 : decode (byt 110) 38 = .ok (.iload 4, 2) := by decide +kernel
theorem d110_40 : decode (byt 110) 40 = .ok (.ifCond .lt 18, 3) := by decide +kernel
theorem d110_43 : decode (byt 110) 43 = .ok (.iload 4, 2) := by decide +kernel
theorem d110_45 : decode (byt 110) 45 = .ok (.aload_n 0, 1) := by decide +kernel
theorem d110_46 : decode (byt 110) 46 = .ok (.getfield 13, 3) := by decide +kernel
theorem d110_49 : decode (byt 110) 49 = .ok (.iload_n 1, 1) := by decide +kernel
theorem d110_50 : decode (byt 110) 50 = .ok (.iaload, 1) := by decide +kernel
theorem d110_51 : decode (byt 110) 51 = .ok (.if_icmp .ge 7, 3) := by decide +kernel
theorem d110_54 : decode (byt 110) 54 = .ok (.iconst 1, 1) := by decide +kernel
theorem d110_55 : decode (byt 110) 55 = .ok (.goto 4, 3) := by decide +kernel
theorem d110_58 : decode (byt 110) 58 = .ok (.iconst 0, 1) := by decide +kernel
theorem d110_59 : decode (byt 110) 59 = .ok (.ireturn, 1) := by decide +kernel
set_option maxRecDepth 20000 in
theorem S110_0 : (∀ (ls : Lo) (st : List Value) (h : Hp) (Q : Option Value → Hp → Prop) (l0 l1 : Option Value) (x : Int32), Wp 110 0 (l0 :: l1 :: some (.int x) :: ls) (st) h Q ↔ Wp 110 1 (l0 :: l1 :: some (.int x) :: ls) (.int x :: st) h Q) ∧
  (∀ (ls : Lo) (st : List Value) (h : Hp) (Q : Option Value → Hp → Prop) (x : Int32), Wp 110 1 (ls) (.int x :: st) h Q ↔ Br 110 9 4 ls st h Q (x < 0)) ∧
  (∀ (ls : Lo) (st : List Value) (h : Hp) (Q : Option Value → Hp → Prop) (l0 l1 : Option Value) (x : Int32), Wp 110 4 (l0 :: l1 :: some (.int x) :: ls) (st) h Q ↔ Wp 110 5 (l0 :: l1 :: some (.int x) :: ls) (.int x :: st) h Q) ∧
  (∀ (ls : Lo) (st : List Value) (h : Hp) (Q : Option Value → Hp → Prop), Wp 110 5 (ls) (st) h Q ↔ Wp 110 6 (ls) (.int (3) :: st) h Q) ∧
  (∀ (ls : Lo) (st : List Value) (h : Hp) (Q : Option Value → Hp → Prop) (x y : Int32), Wp 110 6 (ls) (.int y :: .int x :: st) h Q ↔ Br 110 11 9 ls st h Q (x ≤ y)) ∧
  (∀ (ls : Lo) (st : List Value) (h : Hp) (Q : Option Value → Hp → Prop), Wp 110 9 (ls) (st) h Q ↔ Wp 110 10 (ls) (.int (0) :: st) h Q) ∧
  (∀ (ls : Lo) (h : Hp) (Q : Option Value → Hp → Prop) (x : Int32), Wp 110 10 (ls) ([.int x]) h Q ↔ ((x = 0 ∨ x = 1) ∧ Q (some (.int x)) h)) ∧
  (∀ (ls : Lo) (st : List Value) (h : Hp) (Q : Option Value → Hp → Prop) (l0 l1 : Option Value) (x : Int32), Wp 110 11 (l0 :: l1 :: some (.int x) :: ls) (st) h Q ↔ Wp 110 12 (l0 :: l1 :: some (.int x) :: ls) (.int x :: st) h Q) ∧
  (∀ (ls : Lo) (st : List Value) (h : Hp) (Q : Option Value → Hp → Prop), Wp 110 12 (ls) (st) h Q ↔ Wp 110 13 (ls) (.int (3) :: st) h Q) ∧
  (∀ (ls : Lo) (st : List Value) (h : Hp) (Q : Option Value → Hp → Prop) (x y : Int32), Wp 110 13 (ls) (.int y :: .int x :: st) h Q ↔ Br 110 18 16 ls st h Q (¬ x = y)) ∧
  (∀ (ls : Lo) (st : List Value) (h : Hp) (Q : Option Value → Hp → Prop), Wp 110 16 (ls) (st) h Q ↔ Wp 110 17 (ls) (.int (1) :: st) h Q) ∧
  (∀ (ls : Lo) (h : Hp) (Q : Option Value → Hp → Prop) (x : Int32), Wp 110 17 (ls) ([.int x]) h Q ↔ ((x = 0 ∨ x = 1) ∧ Q (some (.int x)) h)) ∧
  (∀ (ls : Lo) (st : List Value) (h : Hp) (Q : Option Value → Hp → Prop) (l0 l1 l2 : Option Value) (x : Int32), Wp 110 18 (l0 :: l1 :: l2 :: some (.int x) :: ls) (st) h Q ↔ Wp 110 19 (l0 :: l1 :: l2 :: some (.int x) :: ls) (.int x :: st) h Q) ∧
  (∀ (ls : Lo) (st : List Value) (h : Hp) (Q : Option Value → Hp → Prop) (x : Int32), Wp 110 19 (ls) (.int x :: st) h Q ↔ Br 110 32 22 ls st h Q (x < 0)) ∧
  (∀ (ls : Lo) (st : List Value) (h : Hp) (Q : Option Value → Hp → Prop) (l0 l1 l2 : Option Value) (x : Int32), Wp 110 22 (l0 :: l1 :: l2 :: some (.int x) :: ls) (st) h Q ↔ Wp 110 23 (l0 :: l1 :: l2 :: some (.int x) :: ls) (.int x :: st) h Q) ∧
  (∀ (ls : Lo) (st : List Value) (h : Hp) (Q : Option Value → Hp → Prop)  (i : Nat), Wp 110 23 (some (.ref i) :: ls) (st) h Q ↔ Wp 110 24 (some (.ref i) :: ls) (.ref i :: st) h Q) ∧
  (∀ (ls : Lo) (st : List Value) (n sl : Nat) (C Z : Nat → Nat) (I : Nat → Nat → Int32) (L : Nat → Nat → Int64) (R : Nat → Nat → Nat) (Q : Option Value → Hp → Prop) (i : Nat), Wp 110 24 (ls) (.ref i :: st) (n, sl, C, Z, I, L, R) Q ↔ (C i = 11 ∧ Wp 110 27 (ls) (.ref (R i 2) :: st) (n, sl, C, Z, I, L, R) Q)) ∧
  (∀ (ls : Lo) (st : List Value) (h : Hp) (Q : Option Value → Hp → Prop) (l0 : Option Value) (x : Int32), Wp 110 27 (l0 :: some (.int x) :: ls) (st) h Q ↔ Wp 110 28 (l0 :: some (.int x) :: ls) (.int x :: st) h Q) ∧
  (∀ (ls : Lo) (st : List Value) (n sl : Nat) (C Z : Nat → Nat) (I : Nat → Nat → Int32) (L : Nat → Nat → Int64) (R : Nat → Nat → Nat) (Q : Option Value → Hp → Prop) (i : Nat) (y : Int32), Wp 110 28 (ls) (.int y :: .ref i :: st) (n, sl, C, Z, I, L, R) Q ↔ ((inb y (Z i) = true ∧ C i = 21) ∧ Wp 110 29 (ls) (.int (I i (ix y)) :: st) (n, sl, C, Z, I, L, R) Q)) ∧
  (∀ (ls : Lo) (st : List Value) (h : Hp) (Q : Option Value → Hp → Prop) (x y : Int32), Wp 110 29 (ls) (.int y :: .int x :: st) h Q ↔ Br 110 34 32 ls st h Q (x < y)) ∧
  (∀ (ls : Lo) (st : List Value) (h : Hp) (Q : Option Value → Hp → Prop), Wp 110 32 (ls) (st) h Q ↔ Wp 110 33 (ls) (.int (0) :: st) h Q) ∧
  (∀ (ls : Lo) (h : Hp) (Q : Option Value → Hp → Prop) (x : Int32), Wp 110 33 (ls) ([.int x]) h Q ↔ ((x = 0 ∨ x = 1) ∧ Q (some (.int x)) h)) ∧
  (∀ (ls : Lo) (st : List Value) (h : Hp) (Q : Option Value → Hp → Prop) (l0 l1 : Option Value) (x : Int32), Wp 110 34 (l0 :: l1 :: some (.int x) :: ls) (st) h Q ↔ Wp 110 35 (l0 :: l1 :: some (.int x) :: ls) (.int x :: st) h Q) ∧
  (∀ (ls : Lo) (st : List Value) (h : Hp) (Q : Option Value → Hp → Prop) (x : Int32), Wp 110 35 (ls) (.int x :: st) h Q ↔ Br 110 54 38 ls st h Q (¬ x = 0)) ∧
  (∀ (ls : Lo) (st : List Value) (h : Hp) (Q : Option Value → Hp → Prop) (l0 l1 l2 l3 : Option Value) (x : Int32), Wp 110 38 (l0 :: l1 :: l2 :: l3 :: some (.int x) :: ls) (st) h Q ↔ Wp 110 40 (l0 :: l1 :: l2 :: l3 :: some (.int x) :: ls) (.int x :: st) h Q) := ⟨by intro ls st h Q l0 l1 x; exact e_iload_n d110_0 rfl,
  by intro ls st h Q x; exact e_if d110_1 (by decide) c_lt,
  by intro ls st h Q l0 l1 x; exact e_iload_n d110_4 rfl,
  by intro ls st h Q; exact e_iconst d110_5 rfl,
  by intro ls st h Q x y; exact e_ic d110_6 (by decide) c_le,
  by intro ls st h Q; exact e_iconst d110_9 rfl,
  by intros; exact e_rZ d110_10 rfl,
  by intro ls st h Q l0 l1 x; exact e_iload_n d110_11 rfl,
  by intro ls st h Q; exact e_iconst d110_12 rfl,
  by intro ls st h Q x y; exact e_ic d110_13 (by decide) c_ne,
  by intro ls st h Q; exact e_iconst d110_16 rfl,
  by intros; exact e_rZ d110_17 rfl,
  by intro ls st h Q l0 l1 l2 x; exact e_iload_n d110_18 rfl,
  by intro ls st h Q x; exact e_if d110_19 (by decide) c_lt,
  by intro ls st h Q l0 l1 l2 x; exact e_iload_n d110_22 rfl,
  by intro ls st h Q i; exact e_aload_n d110_23 rfl,
  by intro ls st n sl C Z I L R Q i; exact e_get (g := 10) (s := 2) (ty := 2) d110_24 rfl rfl (inG_ne (by decide)),
  by intro ls st h Q l0 x; exact e_iload_n d110_27 rfl,
  by intro ls st n sl C Z I L R Q i y; exact e_iald d110_28,
  by intro ls st h Q x y; exact e_ic d110_29 (by decide) c_lt,
  by intro ls st h Q; exact e_iconst d110_32 rfl,
  by intros; exact e_rZ d110_33 rfl,
  by intro ls st h Q l0 l1 x; exact e_iload_n d110_34 rfl,
  by intro ls st h Q x; exact e_if d110_35 (by decide) c_ne,
  by intro ls st h Q l0 l1 l2 l3 x; exact e_iload d110_38 rfl⟩
set_option maxRecDepth 20000 in
theorem S110_1 : (∀ (ls : Lo) (st : List Value) (h : Hp) (Q : Option Value → Hp → Prop) (x : Int32), Wp 110 40 (ls) (.int x :: st) h Q ↔ Br 110 58 43 ls st h Q (x < 0)) ∧
  (∀ (ls : Lo) (st : List Value) (h : Hp) (Q : Option Value → Hp → Prop) (l0 l1 l2 l3 : Option Value) (x : Int32), Wp 110 43 (l0 :: l1 :: l2 :: l3 :: some (.int x) :: ls) (st) h Q ↔ Wp 110 45 (l0 :: l1 :: l2 :: l3 :: some (.int x) :: ls) (.int x :: st) h Q) ∧
  (∀ (ls : Lo) (st : List Value) (h : Hp) (Q : Option Value → Hp → Prop)  (i : Nat), Wp 110 45 (some (.ref i) :: ls) (st) h Q ↔ Wp 110 46 (some (.ref i) :: ls) (.ref i :: st) h Q) ∧
  (∀ (ls : Lo) (st : List Value) (n sl : Nat) (C Z : Nat → Nat) (I : Nat → Nat → Int32) (L : Nat → Nat → Int64) (R : Nat → Nat → Nat) (Q : Option Value → Hp → Prop) (i : Nat), Wp 110 46 (ls) (.ref i :: st) (n, sl, C, Z, I, L, R) Q ↔ (C i = 11 ∧ Wp 110 49 (ls) (.ref (R i 2) :: st) (n, sl, C, Z, I, L, R) Q)) ∧
  (∀ (ls : Lo) (st : List Value) (h : Hp) (Q : Option Value → Hp → Prop) (l0 : Option Value) (x : Int32), Wp 110 49 (l0 :: some (.int x) :: ls) (st) h Q ↔ Wp 110 50 (l0 :: some (.int x) :: ls) (.int x :: st) h Q) ∧
  (∀ (ls : Lo) (st : List Value) (n sl : Nat) (C Z : Nat → Nat) (I : Nat → Nat → Int32) (L : Nat → Nat → Int64) (R : Nat → Nat → Nat) (Q : Option Value → Hp → Prop) (i : Nat) (y : Int32), Wp 110 50 (ls) (.int y :: .ref i :: st) (n, sl, C, Z, I, L, R) Q ↔ ((inb y (Z i) = true ∧ C i = 21) ∧ Wp 110 51 (ls) (.int (I i (ix y)) :: st) (n, sl, C, Z, I, L, R) Q)) ∧
  (∀ (ls : Lo) (st : List Value) (h : Hp) (Q : Option Value → Hp → Prop) (x y : Int32), Wp 110 51 (ls) (.int y :: .int x :: st) h Q ↔ Br 110 58 54 ls st h Q (y ≤ x)) ∧
  (∀ (ls : Lo) (st : List Value) (h : Hp) (Q : Option Value → Hp → Prop), Wp 110 54 (ls) (st) h Q ↔ Wp 110 55 (ls) (.int (1) :: st) h Q) ∧
  (∀ (ls : Lo) (st : List Value) (h : Hp) (Q : Option Value → Hp → Prop), Wp 110 55 (ls) (st) h Q ↔ Wp 110 59 (ls) (st) h Q) ∧
  (∀ (ls : Lo) (st : List Value) (h : Hp) (Q : Option Value → Hp → Prop), Wp 110 58 (ls) (st) h Q ↔ Wp 110 59 (ls) (.int (0) :: st) h Q) ∧
  (∀ (ls : Lo) (h : Hp) (Q : Option Value → Hp → Prop) (x : Int32), Wp 110 59 (ls) ([.int x]) h Q ↔ ((x = 0 ∨ x = 1) ∧ Q (some (.int x)) h)) := ⟨by intro ls st h Q x; exact e_if d110_40 (by decide) c_lt,
  by intro ls st h Q l0 l1 l2 l3 x; exact e_iload d110_43 rfl,
  by intro ls st h Q i; exact e_aload_n d110_45 rfl,
  by intro ls st n sl C Z I L R Q i; exact e_get (g := 10) (s := 2) (ty := 2) d110_46 rfl rfl (inG_ne (by decide)),
  by intro ls st h Q l0 x; exact e_iload_n d110_49 rfl,
  by intro ls st n sl C Z I L R Q i y; exact e_iald d110_50,
  by intro ls st h Q x y; exact e_ic d110_51 (by decide) c_ge,
  by intro ls st h Q; exact e_iconst d110_54 rfl,
  by intro ls st h Q; exact e_goto d110_55 (by decide),
  by intro ls st h Q; exact e_iconst d110_58 rfl,
  by intros; exact e_rZ d110_59 rfl⟩
theorem d111_0 : decode (byt 111) 0 = .ok (.iload_n 2, 1) := by decide +kernel
theorem d111_1 : decode (byt 111) 1 = .ok (.ifCond .ne 14, 3) := by decide +kernel
theorem d111_4 : decode (byt 111) 4 = .ok (.aload_n 0, 1) := by decide +kernel
theorem d111_5 : decode (byt 111) 5 = .ok (.iload_n 1, 1) := by decide +kernel
theorem d111_6 : decode (byt 111) 6 = .ok (.iload_n 3, 1) := by decide +kernel
theorem d111_7 : decode (byt 111) 7 = .ok (.iload 4, 2) := by decide +kernel
theorem d111_9 : decode (byt 111) 9 = .ok (.invokevirtual 102, 3) := by decide +kernel
theorem d111_12 : decode (byt 111) 12 = .ok (.goto 45, 3) := by decide +kernel
theorem d111_15 : decode (byt 111) 15 = .ok (.iload_n 2, 1) := by decide +kernel
theorem d111_16 : decode (byt 111) 16 = .ok (.iconst 1, 1) := by decide +kernel
theorem d111_17 : decode (byt 111) 17 = .ok (.if_icmp .ne 16, 3) := by decide +kernel
theorem d111_20 : decode (byt 111) 20 = .ok (.aload_n 0, 1) := by decide +kernel
theorem d111_21 : decode (byt 111) 21 = .ok (.getfield 25, 3) := by decide +kernel
theorem d111_24 : decode (byt 111) 24 = .ok (.iconst 3, 1) := by decide +kernel
theorem d111_25 : decode (byt 111) 25 = .ok (.iload_n 1, 1) := by decide +kernel
theorem d111_26 : decode (byt 111) 26 = .ok (.imul, 1) := by decide +kernel
theorem d111_27 : decode (byt 111) 27 = .ok (.iload_n 3, 1) := by decide +kernel
theorem d111_28 : decode (byt 111) 28 = .ok (.iadd, 1) := by decide +kernel
theorem d111_29 : decode (byt 111) 29 = .ok (.iaload, 1) := by decide +kernel
theorem d111_30 : decode (byt 111) 30 = .ok (.goto 27, 3) := by decide +kernel
theorem d111_33 : decode (byt 111) 33 = .ok (.iload_n 2, 1) := by decide +kernel
theorem d111_34 : decode (byt 111) 34 = .ok (.iconst 2, 1) := by decide +kernel
theorem d111_35 : decode (byt 111) 35 = .ok (.if_icmp .ne 16, 3) := by decide +kernel
theorem d111_38 : decode (byt 111) 38 = .ok (.aload_n 0, 1) := by decide +kernel
theorem d111_39 : decode (byt 111) 39 = .ok (.getfield 28, 3) := by decide +kernel
theorem d111_42 : decode (byt 111) 42 = .ok (.iconst 3, 1) := by decide +kernel
theorem d111_43 : decode (byt 111) 43 = .ok (.iload_n 1, 1) := by decide +kernel
theorem d111_44 : decode (byt 111) 44 = .ok (.imul, 1) := by decide +kernel
theorem d111_45 : decode (byt 111) 45 = .ok (.iload_n 3, 1) := by decide +kernel
theorem d111_46 : decode (byt 111) 46 = .ok (.iadd, 1) := by decide +kernel
theorem d111_47 : decode (byt 111) 47 = .ok (.iaload, 1) := by decide +kernel
theorem d111_48 : decode (byt 111) 48 = .ok (.goto 9, 3) := by decide +kernel
theorem d111_51 : decode (byt 111) 51 = .ok (.aload_n 0, 1) := by decide +kernel
theorem d111_52 : decode (byt 111) 52 = .ok (.getfield 19, 3) := by decide +kernel
theorem d111_55 : decode (byt 111) 55 = .ok (.iload_n 1, 1) := by decide +kernel
theorem d111_56 : decode (byt 111) 56 = .ok (.iaload, 1) := by decide +kernel
theorem d111_57 : decode (byt 111) 57 = .ok (.ireturn, 1) := by decide +kernel
set_option maxRecDepth 20000 in
theorem S111_0 : (∀ (ls : Lo) (st : List Value) (h : Hp) (Q : Option Value → Hp → Prop) (l0 l1 : Option Value) (x : Int32), Wp 111 0 (l0 :: l1 :: some (.int x) :: ls) (st) h Q ↔ Wp 111 1 (l0 :: l1 :: some (.int x) :: ls) (.int x :: st) h Q) ∧
  (∀ (ls : Lo) (st : List Value) (h : Hp) (Q : Option Value → Hp → Prop) (x : Int32), Wp 111 1 (ls) (.int x :: st) h Q ↔ Br 111 15 4 ls st h Q (¬ x = 0)) ∧
  (∀ (ls : Lo) (st : List Value) (h : Hp) (Q : Option Value → Hp → Prop)  (i : Nat), Wp 111 4 (some (.ref i) :: ls) (st) h Q ↔ Wp 111 5 (some (.ref i) :: ls) (.ref i :: st) h Q) ∧
  (∀ (ls : Lo) (st : List Value) (h : Hp) (Q : Option Value → Hp → Prop) (l0 : Option Value) (x : Int32), Wp 111 5 (l0 :: some (.int x) :: ls) (st) h Q ↔ Wp 111 6 (l0 :: some (.int x) :: ls) (.int x :: st) h Q) ∧
  (∀ (ls : Lo) (st : List Value) (h : Hp) (Q : Option Value → Hp → Prop) (l0 l1 l2 : Option Value) (x : Int32), Wp 111 6 (l0 :: l1 :: l2 :: some (.int x) :: ls) (st) h Q ↔ Wp 111 7 (l0 :: l1 :: l2 :: some (.int x) :: ls) (.int x :: st) h Q) ∧
  (∀ (ls : Lo) (st : List Value) (h : Hp) (Q : Option Value → Hp → Prop) (l0 l1 l2 l3 : Option Value) (x : Int32), Wp 111 7 (l0 :: l1 :: l2 :: l3 :: some (.int x) :: ls) (st) h Q ↔ Wp 111 9 (l0 :: l1 :: l2 :: l3 :: some (.int x) :: ls) (.int x :: st) h Q) ∧
  (∀ (ls : Lo) (st : List Value) (n sl : Nat) (C Z : Nat → Nat) (I : Nat → Nat → Int32) (L : Nat → Nat → Int64) (R : Nat → Nat → Nat) (Q : Option Value → Hp → Prop) (x0 : Int32) (x1 : Int32) (x2 : Int32) (i : Nat), C i = 11 → (Wp 111 9 (ls) (.int x2 :: .int x1 :: .int x0 :: .ref i :: st) (n, sl, C, Z, I, L, R) Q ↔ (wsum st ≤ 8 ∧ Call 104 [some (.ref i), some (.int x0), some (.int x1), some (.int x2)] (n, sl, C, Z, I, L, R) 111 12 ls st Q))) ∧
  (∀ (ls : Lo) (st : List Value) (h : Hp) (Q : Option Value → Hp → Prop), Wp 111 12 (ls) (st) h Q ↔ Wp 111 57 (ls) (st) h Q) ∧
  (∀ (ls : Lo) (st : List Value) (h : Hp) (Q : Option Value → Hp → Prop) (l0 l1 : Option Value) (x : Int32), Wp 111 15 (l0 :: l1 :: some (.int x) :: ls) (st) h Q ↔ Wp 111 16 (l0 :: l1 :: some (.int x) :: ls) (.int x :: st) h Q) ∧
  (∀ (ls : Lo) (st : List Value) (h : Hp) (Q : Option Value → Hp → Prop), Wp 111 16 (ls) (st) h Q ↔ Wp 111 17 (ls) (.int (1) :: st) h Q) ∧
  (∀ (ls : Lo) (st : List Value) (h : Hp) (Q : Option Value → Hp → Prop) (x y : Int32), Wp 111 17 (ls) (.int y :: .int x :: st) h Q ↔ Br 111 33 20 ls st h Q (¬ x = y)) ∧
  (∀ (ls : Lo) (st : List Value) (h : Hp) (Q : Option Value → Hp → Prop)  (i : Nat), Wp 111 20 (some (.ref i) :: ls) (st) h Q ↔ Wp 111 21 (some (.ref i) :: ls) (.ref i :: st) h Q) ∧
  (∀ (ls : Lo) (st : List Value) (n sl : Nat) (C Z : Nat → Nat) (I : Nat → Nat → Int32) (L : Nat → Nat → Int64) (R : Nat → Nat → Nat) (Q : Option Value → Hp → Prop) (i : Nat), Wp 111 21 (ls) (.ref i :: st) (n, sl, C, Z, I, L, R) Q ↔ (C i = 11 ∧ Wp 111 24 (ls) (.ref (R i 6) :: st) (n, sl, C, Z, I, L, R) Q)) ∧
  (∀ (ls : Lo) (st : List Value) (h : Hp) (Q : Option Value → Hp → Prop), Wp 111 24 (ls) (st) h Q ↔ Wp 111 25 (ls) (.int (3) :: st) h Q) ∧
  (∀ (ls : Lo) (st : List Value) (h : Hp) (Q : Option Value → Hp → Prop) (l0 : Option Value) (x : Int32), Wp 111 25 (l0 :: some (.int x) :: ls) (st) h Q ↔ Wp 111 26 (l0 :: some (.int x) :: ls) (.int x :: st) h Q) ∧
  (∀ (ls : Lo) (st : List Value) (h : Hp) (Q : Option Value → Hp → Prop) (x y : Int32), Wp 111 26 (ls) (.int y :: .int x :: st) h Q ↔ Wp 111 27 (ls) (.int (x * y) :: st) h Q) ∧
  (∀ (ls : Lo) (st : List Value) (h : Hp) (Q : Option Value → Hp → Prop) (l0 l1 l2 : Option Value) (x : Int32), Wp 111 27 (l0 :: l1 :: l2 :: some (.int x) :: ls) (st) h Q ↔ Wp 111 28 (l0 :: l1 :: l2 :: some (.int x) :: ls) (.int x :: st) h Q) ∧
  (∀ (ls : Lo) (st : List Value) (h : Hp) (Q : Option Value → Hp → Prop) (x y : Int32), Wp 111 28 (ls) (.int y :: .int x :: st) h Q ↔ Wp 111 29 (ls) (.int (x + y) :: st) h Q) ∧
  (∀ (ls : Lo) (st : List Value) (n sl : Nat) (C Z : Nat → Nat) (I : Nat → Nat → Int32) (L : Nat → Nat → Int64) (R : Nat → Nat → Nat) (Q : Option Value → Hp → Prop) (i : Nat) (y : Int32), Wp 111 29 (ls) (.int y :: .ref i :: st) (n, sl, C, Z, I, L, R) Q ↔ ((inb y (Z i) = true ∧ C i = 21) ∧ Wp 111 30 (ls) (.int (I i (ix y)) :: st) (n, sl, C, Z, I, L, R) Q)) ∧
  (∀ (ls : Lo) (st : List Value) (h : Hp) (Q : Option Value → Hp → Prop), Wp 111 30 (ls) (st) h Q ↔ Wp 111 57 (ls) (st) h Q) ∧
  (∀ (ls : Lo) (st : List Value) (h : Hp) (Q : Option Value → Hp → Prop) (l0 l1 : Option Value) (x : Int32), Wp 111 33 (l0 :: l1 :: some (.int x) :: ls) (st) h Q ↔ Wp 111 34 (l0 :: l1 :: some (.int x) :: ls) (.int x :: st) h Q) ∧
  (∀ (ls : Lo) (st : List Value) (h : Hp) (Q : Option Value → Hp → Prop), Wp 111 34 (ls) (st) h Q ↔ Wp 111 35 (ls) (.int (2) :: st) h Q) ∧
  (∀ (ls : Lo) (st : List Value) (h : Hp) (Q : Option Value → Hp → Prop) (x y : Int32), Wp 111 35 (ls) (.int y :: .int x :: st) h Q ↔ Br 111 51 38 ls st h Q (¬ x = y)) ∧
  (∀ (ls : Lo) (st : List Value) (h : Hp) (Q : Option Value → Hp → Prop)  (i : Nat), Wp 111 38 (some (.ref i) :: ls) (st) h Q ↔ Wp 111 39 (some (.ref i) :: ls) (.ref i :: st) h Q) ∧
  (∀ (ls : Lo) (st : List Value) (n sl : Nat) (C Z : Nat → Nat) (I : Nat → Nat → Int32) (L : Nat → Nat → Int64) (R : Nat → Nat → Nat) (Q : Option Value → Hp → Prop) (i : Nat), Wp 111 39 (ls) (.ref i :: st) (n, sl, C, Z, I, L, R) Q ↔ (C i = 11 ∧ Wp 111 42 (ls) (.ref (R i 7) :: st) (n, sl, C, Z, I, L, R) Q)) := ⟨by intro ls st h Q l0 l1 x; exact e_iload_n d111_0 rfl,
  by intro ls st h Q x; exact e_if d111_1 (by decide) c_ne,
  by intro ls st h Q i; exact e_aload_n d111_4 rfl,
  by intro ls st h Q l0 x; exact e_iload_n d111_5 rfl,
  by intro ls st h Q l0 l1 l2 x; exact e_iload_n d111_6 rfl,
  by intro ls st h Q l0 l1 l2 l3 x; exact e_iload d111_7 rfl,
  by intro ls st n sl C Z I L R Q x0 x1 x2 i hh; exact e_iv (k2 := 104) (c := 11) (as := [.int x0, .int x1, .int x2]) d111_9 rfl (by decide) rfl rfl (by decide +kernel) (Nat.le_of_ble_eq_true rfl) rfl hh,
  by intro ls st h Q; exact e_goto d111_12 (by decide),
  by intro ls st h Q l0 l1 x; exact e_iload_n d111_15 rfl,
  by intro ls st h Q; exact e_iconst d111_16 rfl,
  by intro ls st h Q x y; exact e_ic d111_17 (by decide) c_ne,
  by intro ls st h Q i; exact e_aload_n d111_20 rfl,
  by intro ls st n sl C Z I L R Q i; exact e_get (g := 10) (s := 6) (ty := 2) d111_21 rfl rfl (inG_ne (by decide)),
  by intro ls st h Q; exact e_iconst d111_24 rfl,
  by intro ls st h Q l0 x; exact e_iload_n d111_25 rfl,
  by intro ls st h Q x y; exact e_imul d111_26,
  by intro ls st h Q l0 l1 l2 x; exact e_iload_n d111_27 rfl,
  by intro ls st h Q x y; exact e_iadd d111_28,
  by intro ls st n sl C Z I L R Q i y; exact e_iald d111_29,
  by intro ls st h Q; exact e_goto d111_30 (by decide),
  by intro ls st h Q l0 l1 x; exact e_iload_n d111_33 rfl,
  by intro ls st h Q; exact e_iconst d111_34 rfl,
  by intro ls st h Q x y; exact e_ic d111_35 (by decide) c_ne,
  by intro ls st h Q i; exact e_aload_n d111_38 rfl,
  by intro ls st n sl C Z I L R Q i; exact e_get (g := 10) (s := 7) (ty := 2) d111_39 rfl rfl (inG_ne (by decide))⟩
set_option maxRecDepth 20000 in
theorem S111_1 : (∀ (ls : Lo) (st : List Value) (h : Hp) (Q : Option Value → Hp → Prop), Wp 111 42 (ls) (st) h Q ↔ Wp 111 43 (ls) (.int (3) :: st) h Q) ∧
  (∀ (ls : Lo) (st : List Value) (h : Hp) (Q : Option Value → Hp → Prop) (l0 : Option Value) (x : Int32), Wp 111 43 (l0 :: some (.int x) :: ls) (st) h Q ↔ Wp 111 44 (l0 :: some (.int x) :: ls) (.int x :: st) h Q) ∧
  (∀ (ls : Lo) (st : List Value) (h : Hp) (Q : Option Value → Hp → Prop) (x y : Int32), Wp 111 44 (ls) (.int y :: .int x :: st) h Q ↔ Wp 111 45 (ls) (.int (x * y) :: st) h Q) ∧
  (∀ (ls : Lo) (st : List Value) (h : Hp) (Q : Option Value → Hp → Prop) (l0 l1 l2 : Option Value) (x : Int32), Wp 111 45 (l0 :: l1 :: l2 :: some (.int x) :: ls) (st) h Q ↔ Wp 111 46 (l0 :: l1 :: l2 :: some (.int x) :: ls) (.int x :: st) h Q) ∧
  (∀ (ls : Lo) (st : List Value) (h : Hp) (Q : Option Value → Hp → Prop) (x y : Int32), Wp 111 46 (ls) (.int y :: .int x :: st) h Q ↔ Wp 111 47 (ls) (.int (x + y) :: st) h Q) ∧
  (∀ (ls : Lo) (st : List Value) (n sl : Nat) (C Z : Nat → Nat) (I : Nat → Nat → Int32) (L : Nat → Nat → Int64) (R : Nat → Nat → Nat) (Q : Option Value → Hp → Prop) (i : Nat) (y : Int32), Wp 111 47 (ls) (.int y :: .ref i :: st) (n, sl, C, Z, I, L, R) Q ↔ ((inb y (Z i) = true ∧ C i = 21) ∧ Wp 111 48 (ls) (.int (I i (ix y)) :: st) (n, sl, C, Z, I, L, R) Q)) ∧
  (∀ (ls : Lo) (st : List Value) (h : Hp) (Q : Option Value → Hp → Prop), Wp 111 48 (ls) (st) h Q ↔ Wp 111 57 (ls) (st) h Q) ∧
  (∀ (ls : Lo) (st : List Value) (h : Hp) (Q : Option Value → Hp → Prop)  (i : Nat), Wp 111 51 (some (.ref i) :: ls) (st) h Q ↔ Wp 111 52 (some (.ref i) :: ls) (.ref i :: st) h Q) ∧
  (∀ (ls : Lo) (st : List Value) (n sl : Nat) (C Z : Nat → Nat) (I : Nat → Nat → Int32) (L : Nat → Nat → Int64) (R : Nat → Nat → Nat) (Q : Option Value → Hp → Prop) (i : Nat), Wp 111 52 (ls) (.ref i :: st) (n, sl, C, Z, I, L, R) Q ↔ (C i = 11 ∧ Wp 111 55 (ls) (.ref (R i 4) :: st) (n, sl, C, Z, I, L, R) Q)) ∧
  (∀ (ls : Lo) (st : List Value) (h : Hp) (Q : Option Value → Hp → Prop) (l0 : Option Value) (x : Int32), Wp 111 55 (l0 :: some (.int x) :: ls) (st) h Q ↔ Wp 111 56 (l0 :: some (.int x) :: ls) (.int x :: st) h Q) ∧
  (∀ (ls : Lo) (st : List Value) (n sl : Nat) (C Z : Nat → Nat) (I : Nat → Nat → Int32) (L : Nat → Nat → Int64) (R : Nat → Nat → Nat) (Q : Option Value → Hp → Prop) (i : Nat) (y : Int32), Wp 111 56 (ls) (.int y :: .ref i :: st) (n, sl, C, Z, I, L, R) Q ↔ ((inb y (Z i) = true ∧ C i = 21) ∧ Wp 111 57 (ls) (.int (I i (ix y)) :: st) (n, sl, C, Z, I, L, R) Q)) ∧
  (∀ (ls : Lo) (h : Hp) (Q : Option Value → Hp → Prop) (x : Int32), Wp 111 57 (ls) ([.int x]) h Q ↔ Q (some (.int x)) h) := ⟨by intro ls st h Q; exact e_iconst d111_42 rfl,
  by intro ls st h Q l0 x; exact e_iload_n d111_43 rfl,
  by intro ls st h Q x y; exact e_imul d111_44,
  by intro ls st h Q l0 l1 l2 x; exact e_iload_n d111_45 rfl,
  by intro ls st h Q x y; exact e_iadd d111_46,
  by intro ls st n sl C Z I L R Q i y; exact e_iald d111_47,
  by intro ls st h Q; exact e_goto d111_48 (by decide),
  by intro ls st h Q i; exact e_aload_n d111_51 rfl,
  by intro ls st n sl C Z I L R Q i; exact e_get (g := 10) (s := 4) (ty := 2) d111_52 rfl rfl (inG_ne (by decide)),
  by intro ls st h Q l0 x; exact e_iload_n d111_55 rfl,
  by intro ls st n sl C Z I L R Q i y; exact e_iald d111_56,
  by intros; exact e_rI (p := True) d111_57 rfl⟩
theorem d112_0 : decode (byt 112) 0 = .ok (.aload_n 0, 1) := by decide +kernel
theorem d112_1 : decode (byt 112) 1 = .ok (.iload_n 1, 1) := by decide +kernel
theorem d112_2 : decode (byt 112) 2 = .ok (.invokevirtual 105, 3) := by decide +kernel
theorem d112_5 : decode (byt 112) 5 = .ok (.ifCond .eq 28, 3) := by decide +kernel
theorem d112_8 : decode (byt 112) 8 = .ok (.aload_n 0, 1) := by decide +kernel
theorem d112_9 : decode (byt 112) 9 = .ok (.iload_n 1, 1) := by decide +kernel
theorem d112_10 : decode (byt 112) 10 = .ok (.iload_n 2, 1) := by decide +kernel
theorem d112_11 : decode (byt 112) 11 = .ok (.iload_n 3, 1) := by decide +kernel
theorem d112_12 : decode (byt 112) 12 = .ok (.iload 4, 2) := by decide +kernel
theorem d112_14 : decode (byt 112) 14 = .ok (.invokevirtual 109, 3) := by decide +kernel
theorem d112_17 : decode (byt 112) 17 = .ok (.ifCond .eq 16, 3) := by decide +kernel
theorem d112_20 : decode (byt 112) 20 = .ok (.iload 5, 2) := by decide +kernel
theorem d112_22 : decode (byt 112) 22 = .ok (.bipush (-3), 2) := by decide +kernel
theorem d112_24 : decode (byt 112) 24 = .ok (.if_icmp .lt 9, 3) := by decide +kernel
theorem d112_27 : decode (byt 112) 27 = .ok (.iload 5, 2) := by decide +kernel
theorem d112_29 : decode (byt 112) 29 = .ok (.iconst 3, 1) := by decide +kernel
theorem d112_30 : decode (byt 112) 30 = .ok (.if_icmp .le 6, 3) := by decide +kernel
theorem d112_33 : decode (byt 112) 33 = .ok (.bipush (-2), 2) := by decide +kernel
theorem d112_35 : decode (byt 112) 35 = .ok (.ireturn, 1) := by decide +kernel
theorem d112_36 : decode (byt 112) 36 = .ok (.aload_n 0, 1) := by decide +kernel
theorem d112_37 : decode (byt 112) 37 = .ok (.getfield 7, 3) := by decide +kernel
theorem d112_40 : decode (byt 112) 40 = .ok (.iload_n 1, 1) := by decide +kernel
theorem d112_41 : decode (byt 112) 41 = .ok (.iaload, 1) := by decide +kernel
theorem d112_42 : decode (byt 112) 42 = .ok (.iconst 1, 1) := by decide +kernel
theorem d112_43 : decode (byt 112) 43 = .ok (.if_icmp .le 6, 3) := by decide +kernel
theorem d112_46 : decode (byt 112) 46 = .ok (.bipush (-3), 2) := by decide +kernel
theorem d112_48 : decode (byt 112) 48 = .ok (.ireturn, 1) := by decide +kernel
theorem d112_49 : decode (byt 112) 49 = .ok (.aload_n 0, 1) := by decide +kernel
theorem d112_50 : decode (byt 112) 50 = .ok (.iload_n 1, 1) := by decide +kernel
theorem d112_51 : decode (byt 112) 51 = .ok (.iload_n 2, 1) := by decide +kernel
theorem d112_52 : decode (byt 112) 52 = .ok (.iload_n 3, 1) := by decide +kernel
theorem d112_53 : decode (byt 112) 53 = .ok (.iload 4, 2) := by decide +kernel
theorem d112_55 : decode (byt 112) 55 = .ok (.invokevirtual 113, 3) := by decide +kernel
theorem d112_58 : decode (byt 112) 58 = .ok (.istore 6, 2) := by decide +kernel
theorem d112_60 : decode (byt 112) 60 = .ok (.iload_n 2, 1) := by decide +kernel
theorem d112_61 : decode (byt 112) 61 = .ok (.ifCond .ne 24, 3) := by decide +kernel
theorem d112_64 : decode (byt 112) 64 = .ok (.aload_n 0, 1) := by decide +kernel
theorem d112_65 : decode (byt 112) 65 = .ok (.getfield 22, 3) := by decide +kernel
theorem d112_68 : decode (byt 112) 68 = .ok (.bipush 9, 2) := by decide +kernel
theorem d112_70 : decode (byt 112) 70 = .ok (.iload_n 1, 1) := by decide +kernel
theorem d112_71 : decode (byt 112) 71 = .ok (.imul, 1) := by decide +kernel
theorem d112_72 : decode (byt 112) 72 = .ok (.iconst 3, 1) := by decide +kernel
theorem d112_73 : decode (byt 112) 73 = .ok (.iload_n 3, 1) := by decide +kernel
theorem d112_74 : decode (byt 112) 74 = .ok (.imul, 1) := by decide +kernel
theorem d112_75 : decode (byt 112) 75 = .ok (.iadd, 1) := by decide +kernel
theorem d112_76 : decode (byt 112) 76 = .ok (.iload 4, 2) := by decide +kernel
theorem d112_78 : decode (byt 112) 78 = .ok (.iadd, 1) := by decide +kernel
theorem d112_79 : decode (byt 112) 79 = .ok (.iload 5, 2) := by decide +kernel
theorem d112_81 : decode (byt 112) 81 = .ok (.iastore, 1) := by decide +kernel
theorem d112_82 : decode (byt 112) 82 = .ok (.goto 51, 3) := by decide +kernel
theorem d112_85 : decode (byt 112) 85 = .ok (.iload_n 2, 1) := by decide +kernel
theorem d112_86 : decode (byt 112) 86 = .ok (.iconst 1, 1) := by decide +kernel
theorem d112_87 : decode (byt 112) 87 = .ok (.if_icmp .ne 18, 3) := by decide +kernel
theorem d112_90 : decode (byt 112) 90 = .ok (.aload_n 0, 1) := by decide +kernel
theorem d112_91 : decode (byt 112) 91 = .ok (.getfield 25, 3) := by decide +kernel
theorem d112_94 : decode (byt 112) 94 = .ok (.iconst 3, 1) := by decide +kernel
theorem d112_95 : decode (byt 112) 95 = .ok (.iload_n 1, 1) := by decide +kernel
theorem d112_96 : decode (byt 112) 96 = .ok (.imul, 1) := by decide +kernel
theorem d112_97 : decode (byt 112) 97 = .ok (.iload_n 3, 1) := by decide +kernel
theorem d112_98 : decode (byt 112) 98 = .ok (.iadd, 1) := by decide +kernel
theorem d112_99 : decode (byt 112) 99 = .ok (.iload 5, 2) := by decide +kernel
theorem d112_101 : decode (byt 112) 101 = .ok (.iastore, 1) := by decide +kernel
theorem d112_102 : decode (byt 112) 102 = .ok (.goto 31, 3) := by decide +kernel
theorem d112_105 : decode (byt 112) 105 = .ok (.iload_n 2, 1) := by decide +kernel
theorem d112_106 : decode (byt 112) 106 = .ok (.iconst 2, 1) := by decide +kernel
theorem d112_107 : decode (byt 112) 107 = .ok (.if_icmp .ne 18, 3) := by decide +kernel
theorem d112_110 : decode (byt 112) 110 = .ok (.aload_n 0, 1) := by decide +kernel
theorem d112_111 : decode (byt 112) 111 = .ok (.getfield 28, 3) := by decide +kernel
theorem d112_114 : decode (byt 112) 114 = .ok (.iconst 3, 1) := by decide +kernel
theorem d112_115 : decode (byt 112) 115 = .ok (.iload_n 1, 1) := by decide +kernel
theorem d112_116 : decode (byt 112) 116 = .ok (.imul, 1) := by decide +kernel
theorem d112_117 : decode (byt 112) 117 = .ok (.iload_n 3, 1) := by decide +kernel
theorem d112_118 : decode (byt 112) 118 = .ok (.iadd, 1) := by decide +kernel
theorem d112_119 : decode (byt 112) 119 = .ok (.iload 5, 2) := by decide +kernel
theorem d112_121 : decode (byt 112) 121 = .ok (.iastore, 1) := by decide +kernel
theorem d112_122 : decode (byt 112) 122 = .ok (.goto 11, 3) := by decide +kernel
theorem d112_125 : decode (byt 112) 125 = .ok (.aload_n 0, 1) := by decide +kernel
theorem d112_126 : decode (byt 112) 126 = .ok (.getfield 19, 3) := by decide +kernel
theorem d112_129 : decode (byt 112) 129 = .ok (.iload_n 1, 1) := by decide +kernel
theorem d112_130 : decode (byt 112) 130 = .ok (.iload 5, 2) := by decide +kernel
theorem d112_132 : decode (byt 112) 132 = .ok (.iastore, 1) := by decide +kernel
theorem d112_133 : decode (byt 112) 133 = .ok (.iload 6, 2) := by decide +kernel
theorem d112_135 : decode (byt 112) 135 = .ok (.bipush 10, 2) := by decide +kernel
theorem d112_137 : decode (byt 112) 137 = .ok (.iadd, 1) := by decide +kernel
theorem d112_138 : decode (byt 112) 138 = .ok (.ireturn, 1) := by decide +kernel
set_option maxRecDepth 20000 in
theorem S112_0 : (∀ (ls : Lo) (st : List Value) (h : Hp) (Q : Option Value → Hp → Prop)  (i : Nat), Wp 112 0 (some (.ref i) :: ls) (st) h Q ↔ Wp 112 1 (some (.ref i) :: ls) (.ref i :: st) h Q) ∧
  (∀ (ls : Lo) (st : List Value) (h : Hp) (Q : Option Value → Hp → Prop) (l0 : Option Value) (x : Int32), Wp 112 1 (l0 :: some (.int x) :: ls) (st) h Q ↔ Wp 112 2 (l0 :: some (.int x) :: ls) (.int x :: st) h Q) ∧
  (∀ (ls : Lo) (st : List Value) (n sl : Nat) (C Z : Nat → Nat) (I : Nat → Nat → Int32) (L : Nat → Nat → Int64) (R : Nat → Nat → Nat) (Q : Option Value → Hp → Prop) (x0 : Int32) (i : Nat), C i = 11 → (Wp 112 2 (ls) (.int x0 :: .ref i :: st) (n, sl, C, Z, I, L, R) Q ↔ (wsum st ≤ 8 ∧ Call 103 [some (.ref i), some (.int x0)] (n, sl, C, Z, I, L, R) 112 5 ls st Q))) ∧
  (∀ (ls : Lo) (st : List Value) (h : Hp) (Q : Option Value → Hp → Prop) (x : Int32), Wp 112 5 (ls) (.int x :: st) h Q ↔ Br 112 33 8 ls st h Q (x = 0)) ∧
  (∀ (ls : Lo) (st : List Value) (h : Hp) (Q : Option Value → Hp → Prop)  (i : Nat), Wp 112 8 (some (.ref i) :: ls) (st) h Q ↔ Wp 112 9 (some (.ref i) :: ls) (.ref i :: st) h Q) ∧
  (∀ (ls : Lo) (st : List Value) (h : Hp) (Q : Option Value → Hp → Prop) (l0 : Option Value) (x : Int32), Wp 112 9 (l0 :: some (.int x) :: ls) (st) h Q ↔ Wp 112 10 (l0 :: some (.int x) :: ls) (.int x :: st) h Q) ∧
  (∀ (ls : Lo) (st : List Value) (h : Hp) (Q : Option Value → Hp → Prop) (l0 l1 : Option Value) (x : Int32), Wp 112 10 (l0 :: l1 :: some (.int x) :: ls) (st) h Q ↔ Wp 112 11 (l0 :: l1 :: some (.int x) :: ls) (.int x :: st) h Q) ∧
  (∀ (ls : Lo) (st : List Value) (h : Hp) (Q : Option Value → Hp → Prop) (l0 l1 l2 : Option Value) (x : Int32), Wp 112 11 (l0 :: l1 :: l2 :: some (.int x) :: ls) (st) h Q ↔ Wp 112 12 (l0 :: l1 :: l2 :: some (.int x) :: ls) (.int x :: st) h Q) ∧
  (∀ (ls : Lo) (st : List Value) (h : Hp) (Q : Option Value → Hp → Prop) (l0 l1 l2 l3 : Option Value) (x : Int32), Wp 112 12 (l0 :: l1 :: l2 :: l3 :: some (.int x) :: ls) (st) h Q ↔ Wp 112 14 (l0 :: l1 :: l2 :: l3 :: some (.int x) :: ls) (.int x :: st) h Q) ∧
  (∀ (ls : Lo) (st : List Value) (n sl : Nat) (C Z : Nat → Nat) (I : Nat → Nat → Int32) (L : Nat → Nat → Int64) (R : Nat → Nat → Nat) (Q : Option Value → Hp → Prop) (x0 : Int32) (x1 : Int32) (x2 : Int32) (x3 : Int32) (i : Nat), C i = 11 → (Wp 112 14 (ls) (.int x3 :: .int x2 :: .int x1 :: .int x0 :: .ref i :: st) (n, sl, C, Z, I, L, R) Q ↔ (wsum st ≤ 8 ∧ Call 110 [some (.ref i), some (.int x0), some (.int x1), some (.int x2), some (.int x3)] (n, sl, C, Z, I, L, R) 112 17 ls st Q))) ∧
  (∀ (ls : Lo) (st : List Value) (h : Hp) (Q : Option Value → Hp → Prop) (x : Int32), Wp 112 17 (ls) (.int x :: st) h Q ↔ Br 112 33 20 ls st h Q (x = 0)) ∧
  (∀ (ls : Lo) (st : List Value) (h : Hp) (Q : Option Value → Hp → Prop) (l0 l1 l2 l3 l4 : Option Value) (x : Int32), Wp 112 20 (l0 :: l1 :: l2 :: l3 :: l4 :: some (.int x) :: ls) (st) h Q ↔ Wp 112 22 (l0 :: l1 :: l2 :: l3 :: l4 :: some (.int x) :: ls) (.int x :: st) h Q) ∧
  (∀ (ls : Lo) (st : List Value) (h : Hp) (Q : Option Value → Hp → Prop), Wp 112 22 (ls) (st) h Q ↔ Wp 112 24 (ls) (.int (-3) :: st) h Q) ∧
  (∀ (ls : Lo) (st : List Value) (h : Hp) (Q : Option Value → Hp → Prop) (x y : Int32), Wp 112 24 (ls) (.int y :: .int x :: st) h Q ↔ Br 112 33 27 ls st h Q (x < y)) ∧
  (∀ (ls : Lo) (st : List Value) (h : Hp) (Q : Option Value → Hp → Prop) (l0 l1 l2 l3 l4 : Option Value) (x : Int32), Wp 112 27 (l0 :: l1 :: l2 :: l3 :: l4 :: some (.int x) :: ls) (st) h Q ↔ Wp 112 29 (l0 :: l1 :: l2 :: l3 :: l4 :: some (.int x) :: ls) (.int x :: st) h Q) ∧
  (∀ (ls : Lo) (st : List Value) (h : Hp) (Q : Option Value → Hp → Prop), Wp 112 29 (ls) (st) h Q ↔ Wp 112 30 (ls) (.int (3) :: st) h Q) ∧
  (∀ (ls : Lo) (st : List Value) (h : Hp) (Q : Option Value → Hp → Prop) (x y : Int32), Wp 112 30 (ls) (.int y :: .int x :: st) h Q ↔ Br 112 36 33 ls st h Q (x ≤ y)) ∧
  (∀ (ls : Lo) (st : List Value) (h : Hp) (Q : Option Value → Hp → Prop), Wp 112 33 (ls) (st) h Q ↔ Wp 112 35 (ls) (.int (-2) :: st) h Q) ∧
  (∀ (ls : Lo) (h : Hp) (Q : Option Value → Hp → Prop) (x : Int32), Wp 112 35 (ls) ([.int x]) h Q ↔ Q (some (.int x)) h) ∧
  (∀ (ls : Lo) (st : List Value) (h : Hp) (Q : Option Value → Hp → Prop)  (i : Nat), Wp 112 36 (some (.ref i) :: ls) (st) h Q ↔ Wp 112 37 (some (.ref i) :: ls) (.ref i :: st) h Q) ∧
  (∀ (ls : Lo) (st : List Value) (n sl : Nat) (C Z : Nat → Nat) (I : Nat → Nat → Int32) (L : Nat → Nat → Int64) (R : Nat → Nat → Nat) (Q : Option Value → Hp → Prop) (i : Nat), Wp 112 37 (ls) (.ref i :: st) (n, sl, C, Z, I, L, R) Q ↔ (C i = 11 ∧ Wp 112 40 (ls) (.ref (R i 1) :: st) (n, sl, C, Z, I, L, R) Q)) ∧
  (∀ (ls : Lo) (st : List Value) (h : Hp) (Q : Option Value → Hp → Prop) (l0 : Option Value) (x : Int32), Wp 112 40 (l0 :: some (.int x) :: ls) (st) h Q ↔ Wp 112 41 (l0 :: some (.int x) :: ls) (.int x :: st) h Q) ∧
  (∀ (ls : Lo) (st : List Value) (n sl : Nat) (C Z : Nat → Nat) (I : Nat → Nat → Int32) (L : Nat → Nat → Int64) (R : Nat → Nat → Nat) (Q : Option Value → Hp → Prop) (i : Nat) (y : Int32), Wp 112 41 (ls) (.int y :: .ref i :: st) (n, sl, C, Z, I, L, R) Q ↔ ((inb y (Z i) = true ∧ C i = 21) ∧ Wp 112 42 (ls) (.int (I i (ix y)) :: st) (n, sl, C, Z, I, L, R) Q)) ∧
  (∀ (ls : Lo) (st : List Value) (h : Hp) (Q : Option Value → Hp → Prop), Wp 112 42 (ls) (st) h Q ↔ Wp 112 43 (ls) (.int (1) :: st) h Q) ∧
  (∀ (ls : Lo) (st : List Value) (h : Hp) (Q : Option Value → Hp → Prop) (x y : Int32), Wp 112 43 (ls) (.int y :: .int x :: st) h Q ↔ Br 112 49 46 ls st h Q (x ≤ y)) := ⟨by intro ls st h Q i; exact e_aload_n d112_0 rfl,
  by intro ls st h Q l0 x; exact e_iload_n d112_1 rfl,
  by intro ls st n sl C Z I L R Q x0 i hh; exact e_iv (k2 := 103) (c := 11) (as := [.int x0]) d112_2 rfl (by decide) rfl rfl (by decide +kernel) (Nat.le_of_ble_eq_true rfl) rfl hh,
  by intro ls st h Q x; exact e_if d112_5 (by decide) c_eq,
  by intro ls st h Q i; exact e_aload_n d112_8 rfl,
  by intro ls st h Q l0 x; exact e_iload_n d112_9 rfl,
  by intro ls st h Q l0 l1 x; exact e_iload_n d112_10 rfl,
  by intro ls st h Q l0 l1 l2 x; exact e_iload_n d112_11 rfl,
  by intro ls st h Q l0 l1 l2 l3 x; exact e_iload d112_12 rfl,
  by intro ls st n sl C Z I L R Q x0 x1 x2 x3 i hh; exact e_iv (k2 := 110) (c := 11) (as := [.int x0, .int x1, .int x2, .int x3]) d112_14 rfl (by decide) rfl rfl (by decide +kernel) (Nat.le_of_ble_eq_true rfl) rfl hh,
  by intro ls st h Q x; exact e_if d112_17 (by decide) c_eq,
  by intro ls st h Q l0 l1 l2 l3 l4 x; exact e_iload d112_20 rfl,
  by intro ls st h Q; exact e_bipush d112_22 rfl,
  by intro ls st h Q x y; exact e_ic d112_24 (by decide) c_lt,
  by intro ls st h Q l0 l1 l2 l3 l4 x; exact e_iload d112_27 rfl,
  by intro ls st h Q; exact e_iconst d112_29 rfl,
  by intro ls st h Q x y; exact e_ic d112_30 (by decide) c_le,
  by intro ls st h Q; exact e_bipush d112_33 rfl,
  by intros; exact e_rI (p := True) d112_35 rfl,
  by intro ls st h Q i; exact e_aload_n d112_36 rfl,
  by intro ls st n sl C Z I L R Q i; exact e_get (g := 10) (s := 1) (ty := 2) d112_37 rfl rfl (inG_ne (by decide)),
  by intro ls st h Q l0 x; exact e_iload_n d112_40 rfl,
  by intro ls st n sl C Z I L R Q i y; exact e_iald d112_41,
  by intro ls st h Q; exact e_iconst d112_42 rfl,
  by intro ls st h Q x y; exact e_ic d112_43 (by decide) c_le⟩
set_option maxRecDepth 20000 in
theorem S112_1 : (∀ (ls : Lo) (st : List Value) (h : Hp) (Q : Option Value → Hp → Prop), Wp 112 46 (ls) (st) h Q ↔ Wp 112 48 (ls) (.int (-3) :: st) h Q) ∧
  (∀ (ls : Lo) (h : Hp) (Q : Option Value → Hp → Prop) (x : Int32), Wp 112 48 (ls) ([.int x]) h Q ↔ Q (some (.int x)) h) ∧
  (∀ (ls : Lo) (st : List Value) (h : Hp) (Q : Option Value → Hp → Prop)  (i : Nat), Wp 112 49 (some (.ref i) :: ls) (st) h Q ↔ Wp 112 50 (some (.ref i) :: ls) (.ref i :: st) h Q) ∧
  (∀ (ls : Lo) (st : List Value) (h : Hp) (Q : Option Value → Hp → Prop) (l0 : Option Value) (x : Int32), Wp 112 50 (l0 :: some (.int x) :: ls) (st) h Q ↔ Wp 112 51 (l0 :: some (.int x) :: ls) (.int x :: st) h Q) ∧
  (∀ (ls : Lo) (st : List Value) (h : Hp) (Q : Option Value → Hp → Prop) (l0 l1 : Option Value) (x : Int32), Wp 112 51 (l0 :: l1 :: some (.int x) :: ls) (st) h Q ↔ Wp 112 52 (l0 :: l1 :: some (.int x) :: ls) (.int x :: st) h Q) ∧
  (∀ (ls : Lo) (st : List Value) (h : Hp) (Q : Option Value → Hp → Prop) (l0 l1 l2 : Option Value) (x : Int32), Wp 112 52 (l0 :: l1 :: l2 :: some (.int x) :: ls) (st) h Q ↔ Wp 112 53 (l0 :: l1 :: l2 :: some (.int x) :: ls) (.int x :: st) h Q) ∧
  (∀ (ls : Lo) (st : List Value) (h : Hp) (Q : Option Value → Hp → Prop) (l0 l1 l2 l3 : Option Value) (x : Int32), Wp 112 53 (l0 :: l1 :: l2 :: l3 :: some (.int x) :: ls) (st) h Q ↔ Wp 112 55 (l0 :: l1 :: l2 :: l3 :: some (.int x) :: ls) (.int x :: st) h Q) ∧
  (∀ (ls : Lo) (st : List Value) (n sl : Nat) (C Z : Nat → Nat) (I : Nat → Nat → Int32) (L : Nat → Nat → Int64) (R : Nat → Nat → Nat) (Q : Option Value → Hp → Prop) (x0 : Int32) (x1 : Int32) (x2 : Int32) (x3 : Int32) (i : Nat), C i = 11 → (Wp 112 55 (ls) (.int x3 :: .int x2 :: .int x1 :: .int x0 :: .ref i :: st) (n, sl, C, Z, I, L, R) Q ↔ (wsum st ≤ 8 ∧ Call 111 [some (.ref i), some (.int x0), some (.int x1), some (.int x2), some (.int x3)] (n, sl, C, Z, I, L, R) 112 58 ls st Q))) ∧
  (∀ (ls : Lo) (st : List Value) (h : Hp) (Q : Option Value → Hp → Prop) (l0 l1 l2 l3 l4 l5 l6 : Option Value) (x : Int32), Wp 112 58 (l0 :: l1 :: l2 :: l3 :: l4 :: l5 :: l6 :: ls) (.int x :: st) h Q ↔ Wp 112 60 (l0 :: l1 :: l2 :: l3 :: l4 :: clr l5 :: some (.int x) :: ls) (st) h Q) ∧
  (∀ (ls : Lo) (st : List Value) (h : Hp) (Q : Option Value → Hp → Prop) (l0 l1 : Option Value) (x : Int32), Wp 112 60 (l0 :: l1 :: some (.int x) :: ls) (st) h Q ↔ Wp 112 61 (l0 :: l1 :: some (.int x) :: ls) (.int x :: st) h Q) ∧
  (∀ (ls : Lo) (st : List Value) (h : Hp) (Q : Option Value → Hp → Prop) (x : Int32), Wp 112 61 (ls) (.int x :: st) h Q ↔ Br 112 85 64 ls st h Q (¬ x = 0)) ∧
  (∀ (ls : Lo) (st : List Value) (h : Hp) (Q : Option Value → Hp → Prop)  (i : Nat), Wp 112 64 (some (.ref i) :: ls) (st) h Q ↔ Wp 112 65 (some (.ref i) :: ls) (.ref i :: st) h Q) ∧
  (∀ (ls : Lo) (st : List Value) (n sl : Nat) (C Z : Nat → Nat) (I : Nat → Nat → Int32) (L : Nat → Nat → Int64) (R : Nat → Nat → Nat) (Q : Option Value → Hp → Prop) (i : Nat), Wp 112 65 (ls) (.ref i :: st) (n, sl, C, Z, I, L, R) Q ↔ (C i = 11 ∧ Wp 112 68 (ls) (.ref (R i 5) :: st) (n, sl, C, Z, I, L, R) Q)) ∧
  (∀ (ls : Lo) (st : List Value) (h : Hp) (Q : Option Value → Hp → Prop), Wp 112 68 (ls) (st) h Q ↔ Wp 112 70 (ls) (.int (9) :: st) h Q) ∧
  (∀ (ls : Lo) (st : List Value) (h : Hp) (Q : Option Value → Hp → Prop) (l0 : Option Value) (x : Int32), Wp 112 70 (l0 :: some (.int x) :: ls) (st) h Q ↔ Wp 112 71 (l0 :: some (.int x) :: ls) (.int x :: st) h Q) ∧
  (∀ (ls : Lo) (st : List Value) (h : Hp) (Q : Option Value → Hp → Prop) (x y : Int32), Wp 112 71 (ls) (.int y :: .int x :: st) h Q ↔ Wp 112 72 (ls) (.int (x * y) :: st) h Q) ∧
  (∀ (ls : Lo) (st : List Value) (h : Hp) (Q : Option Value → Hp → Prop), Wp 112 72 (ls) (st) h Q ↔ Wp 112 73 (ls) (.int (3) :: st) h Q) ∧
  (∀ (ls : Lo) (st : List Value) (h : Hp) (Q : Option Value → Hp → Prop) (l0 l1 l2 : Option Value) (x : Int32), Wp 112 73 (l0 :: l1 :: l2 :: some (.int x) :: ls) (st) h Q ↔ Wp 112 74 (l0 :: l1 :: l2 :: some (.int x) :: ls) (.int x :: st) h Q) ∧
  (∀ (ls : Lo) (st : List Value) (h : Hp) (Q : Option Value → Hp → Prop) (x y : Int32), Wp 112 74 (ls) (.int y :: .int x :: st) h Q ↔ Wp 112 75 (ls) (.int (x * y) :: st) h Q) ∧
  (∀ (ls : Lo) (st : List Value) (h : Hp) (Q : Option Value → Hp → Prop) (x y : Int32), Wp 112 75 (ls) (.int y :: .int x :: st) h Q ↔ Wp 112 76 (ls) (.int (x + y) :: st) h Q) ∧
  (∀ (ls : Lo) (st : List Value) (h : Hp) (Q : Option Value → Hp → Prop) (l0 l1 l2 l3 : Option Value) (x : Int32), Wp 112 76 (l0 :: l1 :: l2 :: l3 :: some (.int x) :: ls) (st) h Q ↔ Wp 112 78 (l0 :: l1 :: l2 :: l3 :: some (.int x) :: ls) (.int x :: st) h Q) ∧
  (∀ (ls : Lo) (st : List Value) (h : Hp) (Q : Option Value → Hp → Prop) (x y : Int32), Wp 112 78 (ls) (.int y :: .int x :: st) h Q ↔ Wp 112 79 (ls) (.int (x + y) :: st) h Q) ∧
  (∀ (ls : Lo) (st : List Value) (h : Hp) (Q : Option Value → Hp → Prop) (l0 l1 l2 l3 l4 : Option Value) (x : Int32), Wp 112 79 (l0 :: l1 :: l2 :: l3 :: l4 :: some (.int x) :: ls) (st) h Q ↔ Wp 112 81 (l0 :: l1 :: l2 :: l3 :: l4 :: some (.int x) :: ls) (.int x :: st) h Q) ∧
  (∀ (ls : Lo) (st : List Value) (n sl : Nat) (C Z : Nat → Nat) (I : Nat → Nat → Int32) (L : Nat → Nat → Int64) (R : Nat → Nat → Nat) (Q : Option Value → Hp → Prop) (i : Nat) (x y : Int32), Wp 112 81 (ls) (.int x :: .int y :: .ref i :: st) (n, sl, C, Z, I, L, R) Q ↔ ((inb y (Z i) = true ∧ C i = 21) ∧ Wp 112 82 (ls) (st) (n, sl, C, Z, u2 I i (ix y) x, L, R) Q)) ∧
  (∀ (ls : Lo) (st : List Value) (h : Hp) (Q : Option Value → Hp → Prop), Wp 112 82 (ls) (st) h Q ↔ Wp 112 133 (ls) (st) h Q) := ⟨by intro ls st h Q; exact e_bipush d112_46 rfl,
  by intros; exact e_rI (p := True) d112_48 rfl,
  by intro ls st h Q i; exact e_aload_n d112_49 rfl,
  by intro ls st h Q l0 x; exact e_iload_n d112_50 rfl,
  by intro ls st h Q l0 l1 x; exact e_iload_n d112_51 rfl,
  by intro ls st h Q l0 l1 l2 x; exact e_iload_n d112_52 rfl,
  by intro ls st h Q l0 l1 l2 l3 x; exact e_iload d112_53 rfl,
  by intro ls st n sl C Z I L R Q x0 x1 x2 x3 i hh; exact e_iv (k2 := 111) (c := 11) (as := [.int x0, .int x1, .int x2, .int x3]) d112_55 rfl (by decide) rfl rfl (by decide +kernel) (Nat.le_of_ble_eq_true rfl) rfl hh,
  by intro ls st h Q l0 l1 l2 l3 l4 l5 l6 x; exact e_istore d112_58 rfl,
  by intro ls st h Q l0 l1 x; exact e_iload_n d112_60 rfl,
  by intro ls st h Q x; exact e_if d112_61 (by decide) c_ne,
  by intro ls st h Q i; exact e_aload_n d112_64 rfl,
  by intro ls st n sl C Z I L R Q i; exact e_get (g := 10) (s := 5) (ty := 2) d112_65 rfl rfl (inG_ne (by decide)),
  by intro ls st h Q; exact e_bipush d112_68 rfl,
  by intro ls st h Q l0 x; exact e_iload_n d112_70 rfl,
  by intro ls st h Q x y; exact e_imul d112_71,
  by intro ls st h Q; exact e_iconst d112_72 rfl,
  by intro ls st h Q l0 l1 l2 x; exact e_iload_n d112_73 rfl,
  by intro ls st h Q x y; exact e_imul d112_74,
  by intro ls st h Q x y; exact e_iadd d112_75,
  by intro ls st h Q l0 l1 l2 l3 x; exact e_iload d112_76 rfl,
  by intro ls st h Q x y; exact e_iadd d112_78,
  by intro ls st h Q l0 l1 l2 l3 l4 x; exact e_iload d112_79 rfl,
  by intro ls st n sl C Z I L R Q i x y; exact e_iast d112_81,
  by intro ls st h Q; exact e_goto d112_82 (by decide)⟩
set_option maxRecDepth 20000 in
theorem S112_2 : (∀ (ls : Lo) (st : List Value) (h : Hp) (Q : Option Value → Hp → Prop) (l0 l1 : Option Value) (x : Int32), Wp 112 85 (l0 :: l1 :: some (.int x) :: ls) (st) h Q ↔ Wp 112 86 (l0 :: l1 :: some (.int x) :: ls) (.int x :: st) h Q) ∧
  (∀ (ls : Lo) (st : List Value) (h : Hp) (Q : Option Value → Hp → Prop), Wp 112 86 (ls) (st) h Q ↔ Wp 112 87 (ls) (.int (1) :: st) h Q) ∧
  (∀ (ls : Lo) (st : List Value) (h : Hp) (Q : Option Value → Hp → Prop) (x y : Int32), Wp 112 87 (ls) (.int y :: .int x :: st) h Q ↔ Br 112 105 90 ls st h Q (¬ x = y)) ∧
  (∀ (ls : Lo) (st : List Value) (h : Hp) (Q : Option Value → Hp → Prop)  (i : Nat), Wp 112 90 (some (.ref i) :: ls) (st) h Q ↔ Wp 112 91 (some (.ref i) :: ls) (.ref i :: st) h Q) ∧
  (∀ (ls : Lo) (st : List Value) (n sl : Nat) (C Z : Nat → Nat) (I : Nat → Nat → Int32) (L : Nat → Nat → Int64) (R : Nat → Nat → Nat) (Q : Option Value → Hp → Prop) (i : Nat), Wp 112 91 (ls) (.ref i :: st) (n, sl, C, Z, I, L, R) Q ↔ (C i = 11 ∧ Wp 112 94 (ls) (.ref (R i 6) :: st) (n, sl, C, Z, I, L, R) Q)) ∧
  (∀ (ls : Lo) (st : List Value) (h : Hp) (Q : Option Value → Hp → Prop), Wp 112 94 (ls) (st) h Q ↔ Wp 112 95 (ls) (.int (3) :: st) h Q) ∧
  (∀ (ls : Lo) (st : List Value) (h : Hp) (Q : Option Value → Hp → Prop) (l0 : Option Value) (x : Int32), Wp 112 95 (l0 :: some (.int x) :: ls) (st) h Q ↔ Wp 112 96 (l0 :: some (.int x) :: ls) (.int x :: st) h Q) ∧
  (∀ (ls : Lo) (st : List Value) (h : Hp) (Q : Option Value → Hp → Prop) (x y : Int32), Wp 112 96 (ls) (.int y :: .int x :: st) h Q ↔ Wp 112 97 (ls) (.int (x * y) :: st) h Q) ∧
  (∀ (ls : Lo) (st : List Value) (h : Hp) (Q : Option Value → Hp → Prop) (l0 l1 l2 : Option Value) (x : Int32), Wp 112 97 (l0 :: l1 :: l2 :: some (.int x) :: ls) (st) h Q ↔ Wp 112 98 (l0 :: l1 :: l2 :: some (.int x) :: ls) (.int x :: st) h Q) ∧
  (∀ (ls : Lo) (st : List Value) (h : Hp) (Q : Option Value → Hp → Prop) (x y : Int32), Wp 112 98 (ls) (.int y :: .int x :: st) h Q ↔ Wp 112 99 (ls) (.int (x + y) :: st) h Q) ∧
  (∀ (ls : Lo) (st : List Value) (h : Hp) (Q : Option Value → Hp → Prop) (l0 l1 l2 l3 l4 : Option Value) (x : Int32), Wp 112 99 (l0 :: l1 :: l2 :: l3 :: l4 :: some (.int x) :: ls) (st) h Q ↔ Wp 112 101 (l0 :: l1 :: l2 :: l3 :: l4 :: some (.int x) :: ls) (.int x :: st) h Q) ∧
  (∀ (ls : Lo) (st : List Value) (n sl : Nat) (C Z : Nat → Nat) (I : Nat → Nat → Int32) (L : Nat → Nat → Int64) (R : Nat → Nat → Nat) (Q : Option Value → Hp → Prop) (i : Nat) (x y : Int32), Wp 112 101 (ls) (.int x :: .int y :: .ref i :: st) (n, sl, C, Z, I, L, R) Q ↔ ((inb y (Z i) = true ∧ C i = 21) ∧ Wp 112 102 (ls) (st) (n, sl, C, Z, u2 I i (ix y) x, L, R) Q)) ∧
  (∀ (ls : Lo) (st : List Value) (h : Hp) (Q : Option Value → Hp → Prop), Wp 112 102 (ls) (st) h Q ↔ Wp 112 133 (ls) (st) h Q) ∧
  (∀ (ls : Lo) (st : List Value) (h : Hp) (Q : Option Value → Hp → Prop) (l0 l1 : Option Value) (x : Int32), Wp 112 105 (l0 :: l1 :: some (.int x) :: ls) (st) h Q ↔ Wp 112 106 (l0 :: l1 :: some (.int x) :: ls) (.int x :: st) h Q) ∧
  (∀ (ls : Lo) (st : List Value) (h : Hp) (Q : Option Value → Hp → Prop), Wp 112 106 (ls) (st) h Q ↔ Wp 112 107 (ls) (.int (2) :: st) h Q) ∧
  (∀ (ls : Lo) (st : List Value) (h : Hp) (Q : Option Value → Hp → Prop) (x y : Int32), Wp 112 107 (ls) (.int y :: .int x :: st) h Q ↔ Br 112 125 110 ls st h Q (¬ x = y)) ∧
  (∀ (ls : Lo) (st : List Value) (h : Hp) (Q : Option Value → Hp → Prop)  (i : Nat), Wp 112 110 (some (.ref i) :: ls) (st) h Q ↔ Wp 112 111 (some (.ref i) :: ls) (.ref i :: st) h Q) ∧
  (∀ (ls : Lo) (st : List Value) (n sl : Nat) (C Z : Nat → Nat) (I : Nat → Nat → Int32) (L : Nat → Nat → Int64) (R : Nat → Nat → Nat) (Q : Option Value → Hp → Prop) (i : Nat), Wp 112 111 (ls) (.ref i :: st) (n, sl, C, Z, I, L, R) Q ↔ (C i = 11 ∧ Wp 112 114 (ls) (.ref (R i 7) :: st) (n, sl, C, Z, I, L, R) Q)) ∧
  (∀ (ls : Lo) (st : List Value) (h : Hp) (Q : Option Value → Hp → Prop), Wp 112 114 (ls) (st) h Q ↔ Wp 112 115 (ls) (.int (3) :: st) h Q) ∧
  (∀ (ls : Lo) (st : List Value) (h : Hp) (Q : Option Value → Hp → Prop) (l0 : Option Value) (x : Int32), Wp 112 115 (l0 :: some (.int x) :: ls) (st) h Q ↔ Wp 112 116 (l0 :: some (.int x) :: ls) (.int x :: st) h Q) ∧
  (∀ (ls : Lo) (st : List Value) (h : Hp) (Q : Option Value → Hp → Prop) (x y : Int32), Wp 112 116 (ls) (.int y :: .int x :: st) h Q ↔ Wp 112 117 (ls) (.int (x * y) :: st) h Q) ∧
  (∀ (ls : Lo) (st : List Value) (h : Hp) (Q : Option Value → Hp → Prop) (l0 l1 l2 : Option Value) (x : Int32), Wp 112 117 (l0 :: l1 :: l2 :: some (.int x) :: ls) (st) h Q ↔ Wp 112 118 (l0 :: l1 :: l2 :: some (.int x) :: ls) (.int x :: st) h Q) ∧
  (∀ (ls : Lo) (st : List Value) (h : Hp) (Q : Option Value → Hp → Prop) (x y : Int32), Wp 112 118 (ls) (.int y :: .int x :: st) h Q ↔ Wp 112 119 (ls) (.int (x + y) :: st) h Q) ∧
  (∀ (ls : Lo) (st : List Value) (h : Hp) (Q : Option Value → Hp → Prop) (l0 l1 l2 l3 l4 : Option Value) (x : Int32), Wp 112 119 (l0 :: l1 :: l2 :: l3 :: l4 :: some (.int x) :: ls) (st) h Q ↔ Wp 112 121 (l0 :: l1 :: l2 :: l3 :: l4 :: some (.int x) :: ls) (.int x :: st) h Q) ∧
  (∀ (ls : Lo) (st : List Value) (n sl : Nat) (C Z : Nat → Nat) (I : Nat → Nat → Int32) (L : Nat → Nat → Int64) (R : Nat → Nat → Nat) (Q : Option Value → Hp → Prop) (i : Nat) (x y : Int32), Wp 112 121 (ls) (.int x :: .int y :: .ref i :: st) (n, sl, C, Z, I, L, R) Q ↔ ((inb y (Z i) = true ∧ C i = 21) ∧ Wp 112 122 (ls) (st) (n, sl, C, Z, u2 I i (ix y) x, L, R) Q)) := ⟨by intro ls st h Q l0 l1 x; exact e_iload_n d112_85 rfl,
  by intro ls st h Q; exact e_iconst d112_86 rfl,
  by intro ls st h Q x y; exact e_ic d112_87 (by decide) c_ne,
  by intro ls st h Q i; exact e_aload_n d112_90 rfl,
  by intro ls st n sl C Z I L R Q i; exact e_get (g := 10) (s := 6) (ty := 2) d112_91 rfl rfl (inG_ne (by decide)),
  by intro ls st h Q; exact e_iconst d112_94 rfl,
  by intro ls st h Q l0 x; exact e_iload_n d112_95 rfl,
  by intro ls st h Q x y; exact e_imul d112_96,
  by intro ls st h Q l0 l1 l2 x; exact e_iload_n d112_97 rfl,
  by intro ls st h Q x y; exact e_iadd d112_98,
  by intro ls st h Q l0 l1 l2 l3 l4 x; exact e_iload d112_99 rfl,
  by intro ls st n sl C Z I L R Q i x y; exact e_iast d112_101,
  by intro ls st h Q; exact e_goto d112_102 (by decide),
  by intro ls st h Q l0 l1 x; exact e_iload_n d112_105 rfl,
  by intro ls st h Q; exact e_iconst d112_106 rfl,
  by intro ls st h Q x y; exact e_ic d112_107 (by decide) c_ne,
  by intro ls st h Q i; exact e_aload_n d112_110 rfl,
  by intro ls st n sl C Z I L R Q i; exact e_get (g := 10) (s := 7) (ty := 2) d112_111 rfl rfl (inG_ne (by decide)),
  by intro ls st h Q; exact e_iconst d112_114 rfl,
  by intro ls st h Q l0 x; exact e_iload_n d112_115 rfl,
  by intro ls st h Q x y; exact e_imul d112_116,
  by intro ls st h Q l0 l1 l2 x; exact e_iload_n d112_117 rfl,
  by intro ls st h Q x y; exact e_iadd d112_118,
  by intro ls st h Q l0 l1 l2 l3 l4 x; exact e_iload d112_119 rfl,
  by intro ls st n sl C Z I L R Q i x y; exact e_iast d112_121⟩
set_option maxRecDepth 20000 in
theorem S112_3 : (∀ (ls : Lo) (st : List Value) (h : Hp) (Q : Option Value → Hp → Prop), Wp 112 122 (ls) (st) h Q ↔ Wp 112 133 (ls) (st) h Q) ∧
  (∀ (ls : Lo) (st : List Value) (h : Hp) (Q : Option Value → Hp → Prop)  (i : Nat), Wp 112 125 (some (.ref i) :: ls) (st) h Q ↔ Wp 112 126 (some (.ref i) :: ls) (.ref i :: st) h Q) ∧
  (∀ (ls : Lo) (st : List Value) (n sl : Nat) (C Z : Nat → Nat) (I : Nat → Nat → Int32) (L : Nat → Nat → Int64) (R : Nat → Nat → Nat) (Q : Option Value → Hp → Prop) (i : Nat), Wp 112 126 (ls) (.ref i :: st) (n, sl, C, Z, I, L, R) Q ↔ (C i = 11 ∧ Wp 112 129 (ls) (.ref (R i 4) :: st) (n, sl, C, Z, I, L, R) Q)) ∧
  (∀ (ls : Lo) (st : List Value) (h : Hp) (Q : Option Value → Hp → Prop) (l0 : Option Value) (x : Int32), Wp 112 129 (l0 :: some (.int x) :: ls) (st) h Q ↔ Wp 112 130 (l0 :: some (.int x) :: ls) (.int x :: st) h Q) ∧
  (∀ (ls : Lo) (st : List Value) (h : Hp) (Q : Option Value → Hp → Prop) (l0 l1 l2 l3 l4 : Option Value) (x : Int32), Wp 112 130 (l0 :: l1 :: l2 :: l3 :: l4 :: some (.int x) :: ls) (st) h Q ↔ Wp 112 132 (l0 :: l1 :: l2 :: l3 :: l4 :: some (.int x) :: ls) (.int x :: st) h Q) ∧
  (∀ (ls : Lo) (st : List Value) (n sl : Nat) (C Z : Nat → Nat) (I : Nat → Nat → Int32) (L : Nat → Nat → Int64) (R : Nat → Nat → Nat) (Q : Option Value → Hp → Prop) (i : Nat) (x y : Int32), Wp 112 132 (ls) (.int x :: .int y :: .ref i :: st) (n, sl, C, Z, I, L, R) Q ↔ ((inb y (Z i) = true ∧ C i = 21) ∧ Wp 112 133 (ls) (st) (n, sl, C, Z, u2 I i (ix y) x, L, R) Q)) ∧
  (∀ (ls : Lo) (st : List Value) (h : Hp) (Q : Option Value → Hp → Prop) (l0 l1 l2 l3 l4 l5 : Option Value) (x : Int32), Wp 112 133 (l0 :: l1 :: l2 :: l3 :: l4 :: l5 :: some (.int x) :: ls) (st) h Q ↔ Wp 112 135 (l0 :: l1 :: l2 :: l3 :: l4 :: l5 :: some (.int x) :: ls) (.int x :: st) h Q) ∧
  (∀ (ls : Lo) (st : List Value) (h : Hp) (Q : Option Value → Hp → Prop), Wp 112 135 (ls) (st) h Q ↔ Wp 112 137 (ls) (.int (10) :: st) h Q) ∧
  (∀ (ls : Lo) (st : List Value) (h : Hp) (Q : Option Value → Hp → Prop) (x y : Int32), Wp 112 137 (ls) (.int y :: .int x :: st) h Q ↔ Wp 112 138 (ls) (.int (x + y) :: st) h Q) ∧
  (∀ (ls : Lo) (h : Hp) (Q : Option Value → Hp → Prop) (x : Int32), Wp 112 138 (ls) ([.int x]) h Q ↔ Q (some (.int x)) h) := ⟨by intro ls st h Q; exact e_goto d112_122 (by decide),
  by intro ls st h Q i; exact e_aload_n d112_125 rfl,
  by intro ls st n sl C Z I L R Q i; exact e_get (g := 10) (s := 4) (ty := 2) d112_126 rfl rfl (inG_ne (by decide)),
  by intro ls st h Q l0 x; exact e_iload_n d112_129 rfl,
  by intro ls st h Q l0 l1 l2 l3 l4 x; exact e_iload d112_130 rfl,
  by intro ls st n sl C Z I L R Q i x y; exact e_iast d112_132,
  by intro ls st h Q l0 l1 l2 l3 l4 l5 x; exact e_iload d112_133 rfl,
  by intro ls st h Q; exact e_bipush d112_135 rfl,
  by intro ls st h Q x y; exact e_iadd d112_137,
  by intros; exact e_rI (p := True) d112_138 rfl⟩
theorem d113_0 : decode (byt 113) 0 = .ok (.aload_n 0, 1) := by decide +kernel
theorem d113_1 : decode (byt 113) 1 = .ok (.iload_n 1, 1) := by decide +kernel
theorem d113_2 : decode (byt 113) 2 = .ok (.invokevirtual 105, 3) := by decide +kernel
theorem d113_5 : decode (byt 113) 5 = .ok (.ifCond .eq 27, 3) := by decide +kernel
theorem d113_8 : decode (byt 113) 8 = .ok (.aload_n 0, 1) := by decide +kernel
theorem d113_9 : decode (byt 113) 9 = .ok (.iload_n 1, 1) := by decide +kernel
theorem d113_10 : decode (byt 113) 10 = .ok (.iload_n 2, 1) := by decide +kernel
theorem d113_11 : decode (byt 113) 11 = .ok (.iload_n 3, 1) := by decide +kernel
theorem d113_12 : decode (byt 113) 12 = .ok (.iload 4, 2) := by decide +kernel
theorem d113_14 : decode (byt 113) 14 = .ok (.invokevirtual 109, 3) := by decide +kernel
theorem d113_17 : decode (byt 113) 17 = .ok (.ifCond .eq 15, 3) := by decide +kernel
theorem d113_20 : decode (byt 113) 20 = .ok (.aload_n 0, 1) := by decide +kernel
theorem d113_21 : decode (byt 113) 21 = .ok (.iload_n 1, 1) := by decide +kernel
theorem d113_22 : decode (byt 113) 22 = .ok (.iload_n 2, 1) := by decide +kernel
theorem d113_23 : decode (byt 113) 23 = .ok (.iload_n 3, 1) := by decide +kernel
theorem d113_24 : decode (byt 113) 24 = .ok (.iload 4, 2) := by decide +kernel
theorem d113_26 : decode (byt 113) 26 = .ok (.invokevirtual 113, 3) := by decide +kernel
theorem d113_29 : decode (byt 113) 29 = .ok (.goto 5, 3) := by decide +kernel
theorem d113_32 : decode (byt 113) 32 = .ok (.ldc 117, 2) := by decide +kernel
theorem d113_34 : decode (byt 113) 34 = .ok (.ireturn, 1) := by decide +kernel
set_option maxRecDepth 20000 in
theorem S113_0 : (∀ (ls : Lo) (st : List Value) (h : Hp) (Q : Option Value → Hp → Prop)  (i : Nat), Wp 113 0 (some (.ref i) :: ls) (st) h Q ↔ Wp 113 1 (some (.ref i) :: ls) (.ref i :: st) h Q) ∧
  (∀ (ls : Lo) (st : List Value) (h : Hp) (Q : Option Value → Hp → Prop) (l0 : Option Value) (x : Int32), Wp 113 1 (l0 :: some (.int x) :: ls) (st) h Q ↔ Wp 113 2 (l0 :: some (.int x) :: ls) (.int x :: st) h Q) ∧
  (∀ (ls : Lo) (st : List Value) (n sl : Nat) (C Z : Nat → Nat) (I : Nat → Nat → Int32) (L : Nat → Nat → Int64) (R : Nat → Nat → Nat) (Q : Option Value → Hp → Prop) (x0 : Int32) (i : Nat), C i = 11 → (Wp 113 2 (ls) (.int x0 :: .ref i :: st) (n, sl, C, Z, I, L, R) Q ↔ (wsum st ≤ 8 ∧ Call 103 [some (.ref i), some (.int x0)] (n, sl, C, Z, I, L, R) 113 5 ls st Q))) ∧
  (∀ (ls : Lo) (st : List Value) (h : Hp) (Q : Option Value → Hp → Prop) (x : Int32), Wp 113 5 (ls) (.int x :: st) h Q ↔ Br 113 32 8 ls st h Q (x = 0)) ∧
  (∀ (ls : Lo) (st : List Value) (h : Hp) (Q : Option Value → Hp → Prop)  (i : Nat), Wp 113 8 (some (.ref i) :: ls) (st) h Q ↔ Wp 113 9 (some (.ref i) :: ls) (.ref i :: st) h Q) ∧
  (∀ (ls : Lo) (st : List Value) (h : Hp) (Q : Option Value → Hp → Prop) (l0 : Option Value) (x : Int32), Wp 113 9 (l0 :: some (.int x) :: ls) (st) h Q ↔ Wp 113 10 (l0 :: some (.int x) :: ls) (.int x :: st) h Q) ∧
  (∀ (ls : Lo) (st : List Value) (h : Hp) (Q : Option Value → Hp → Prop) (l0 l1 : Option Value) (x : Int32), Wp 113 10 (l0 :: l1 :: some (.int x) :: ls) (st) h Q ↔ Wp 113 11 (l0 :: l1 :: some (.int x) :: ls) (.int x :: st) h Q) ∧
  (∀ (ls : Lo) (st : List Value) (h : Hp) (Q : Option Value → Hp → Prop) (l0 l1 l2 : Option Value) (x : Int32), Wp 113 11 (l0 :: l1 :: l2 :: some (.int x) :: ls) (st) h Q ↔ Wp 113 12 (l0 :: l1 :: l2 :: some (.int x) :: ls) (.int x :: st) h Q) ∧
  (∀ (ls : Lo) (st : List Value) (h : Hp) (Q : Option Value → Hp → Prop) (l0 l1 l2 l3 : Option Value) (x : Int32), Wp 113 12 (l0 :: l1 :: l2 :: l3 :: some (.int x) :: ls) (st) h Q ↔ Wp 113 14 (l0 :: l1 :: l2 :: l3 :: some (.int x) :: ls) (.int x :: st) h Q) ∧
  (∀ (ls : Lo) (st : List Value) (n sl : Nat) (C Z : Nat → Nat) (I : Nat → Nat → Int32) (L : Nat → Nat → Int64) (R : Nat → Nat → Nat) (Q : Option Value → Hp → Prop) (x0 : Int32) (x1 : Int32) (x2 : Int32) (x3 : Int32) (i : Nat), C i = 11 → (Wp 113 14 (ls) (.int x3 :: .int x2 :: .int x1 :: .int x0 :: .ref i :: st) (n, sl, C, Z, I, L, R) Q ↔ (wsum st ≤ 8 ∧ Call 110 [some (.ref i), some (.int x0), some (.int x1), some (.int x2), some (.int x3)] (n, sl, C, Z, I, L, R) 113 17 ls st Q))) ∧
  (∀ (ls : Lo) (st : List Value) (h : Hp) (Q : Option Value → Hp → Prop) (x : Int32), Wp 113 17 (ls) (.int x :: st) h Q ↔ Br 113 32 20 ls st h Q (x = 0)) ∧
  (∀ (ls : Lo) (st : List Value) (h : Hp) (Q : Option Value → Hp → Prop)  (i : Nat), Wp 113 20 (some (.ref i) :: ls) (st) h Q ↔ Wp 113 21 (some (.ref i) :: ls) (.ref i :: st) h Q) ∧
  (∀ (ls : Lo) (st : List Value) (h : Hp) (Q : Option Value → Hp → Prop) (l0 : Option Value) (x : Int32), Wp 113 21 (l0 :: some (.int x) :: ls) (st) h Q ↔ Wp 113 22 (l0 :: some (.int x) :: ls) (.int x :: st) h Q) ∧
  (∀ (ls : Lo) (st : List Value) (h : Hp) (Q : Option Value → Hp → Prop) (l0 l1 : Option Value) (x : Int32), Wp 113 22 (l0 :: l1 :: some (.int x) :: ls) (st) h Q ↔ Wp 113 23 (l0 :: l1 :: some (.int x) :: ls) (.int x :: st) h Q) ∧
  (∀ (ls : Lo) (st : List Value) (h : Hp) (Q : Option Value → Hp → Prop) (l0 l1 l2 : Option Value) (x : Int32), Wp 113 23 (l0 :: l1 :: l2 :: some (.int x) :: ls) (st) h Q ↔ Wp 113 24 (l0 :: l1 :: l2 :: some (.int x) :: ls) (.int x :: st) h Q) ∧
  (∀ (ls : Lo) (st : List Value) (h : Hp) (Q : Option Value → Hp → Prop) (l0 l1 l2 l3 : Option Value) (x : Int32), Wp 113 24 (l0 :: l1 :: l2 :: l3 :: some (.int x) :: ls) (st) h Q ↔ Wp 113 26 (l0 :: l1 :: l2 :: l3 :: some (.int x) :: ls) (.int x :: st) h Q) ∧
  (∀ (ls : Lo) (st : List Value) (n sl : Nat) (C Z : Nat → Nat) (I : Nat → Nat → Int32) (L : Nat → Nat → Int64) (R : Nat → Nat → Nat) (Q : Option Value → Hp → Prop) (x0 : Int32) (x1 : Int32) (x2 : Int32) (x3 : Int32) (i : Nat), C i = 11 → (Wp 113 26 (ls) (.int x3 :: .int x2 :: .int x1 :: .int x0 :: .ref i :: st) (n, sl, C, Z, I, L, R) Q ↔ (wsum st ≤ 8 ∧ Call 111 [some (.ref i), some (.int x0), some (.int x1), some (.int x2), some (.int x3)] (n, sl, C, Z, I, L, R) 113 29 ls st Q))) ∧
  (∀ (ls : Lo) (st : List Value) (h : Hp) (Q : Option Value → Hp → Prop), Wp 113 29 (ls) (st) h Q ↔ Wp 113 34 (ls) (st) h Q) ∧
  (∀ (ls : Lo) (st : List Value) (h : Hp) (Q : Option Value → Hp → Prop), Wp 113 32 (ls) (st) h Q ↔ Wp 113 34 (ls) (.int (-100000) :: st) h Q) ∧
  (∀ (ls : Lo) (h : Hp) (Q : Option Value → Hp → Prop) (x : Int32), Wp 113 34 (ls) ([.int x]) h Q ↔ Q (some (.int x)) h) := ⟨by intro ls st h Q i; exact e_aload_n d113_0 rfl,
  by intro ls st h Q l0 x; exact e_iload_n d113_1 rfl,
  by intro ls st n sl C Z I L R Q x0 i hh; exact e_iv (k2 := 103) (c := 11) (as := [.int x0]) d113_2 rfl (by decide) rfl rfl (by decide +kernel) (Nat.le_of_ble_eq_true rfl) rfl hh,
  by intro ls st h Q x; exact e_if d113_5 (by decide) c_eq,
  by intro ls st h Q i; exact e_aload_n d113_8 rfl,
  by intro ls st h Q l0 x; exact e_iload_n d113_9 rfl,
  by intro ls st h Q l0 l1 x; exact e_iload_n d113_10 rfl,
  by intro ls st h Q l0 l1 l2 x; exact e_iload_n d113_11 rfl,
  by intro ls st h Q l0 l1 l2 l3 x; exact e_iload d113_12 rfl,
  by intro ls st n sl C Z I L R Q x0 x1 x2 x3 i hh; exact e_iv (k2 := 110) (c := 11) (as := [.int x0, .int x1, .int x2, .int x3]) d113_14 rfl (by decide) rfl rfl (by decide +kernel) (Nat.le_of_ble_eq_true rfl) rfl hh,
  by intro ls st h Q x; exact e_if d113_17 (by decide) c_eq,
  by intro ls st h Q i; exact e_aload_n d113_20 rfl,
  by intro ls st h Q l0 x; exact e_iload_n d113_21 rfl,
  by intro ls st h Q l0 l1 x; exact e_iload_n d113_22 rfl,
  by intro ls st h Q l0 l1 l2 x; exact e_iload_n d113_23 rfl,
  by intro ls st h Q l0 l1 l2 l3 x; exact e_iload d113_24 rfl,
  by intro ls st n sl C Z I L R Q x0 x1 x2 x3 i hh; exact e_iv (k2 := 111) (c := 11) (as := [.int x0, .int x1, .int x2, .int x3]) d113_26 rfl (by decide) rfl rfl (by decide +kernel) (Nat.le_of_ble_eq_true rfl) rfl hh,
  by intro ls st h Q; exact e_goto d113_29 (by decide),
  by intro ls st h Q; exact e_ldc (p := 880) d113_32 rfl,
  by intros; exact e_rI (p := True) d113_34 rfl⟩
theorem d114_0 : decode (byt 114) 0 = .ok (.iload_n 0, 1) := by decide +kernel
theorem d114_1 : decode (byt 114) 1 = .ok (.bipush (-12), 2) := by decide +kernel
theorem d114_3 : decode (byt 114) 3 = .ok (.if_icmp .lt 13, 3) := by decide +kernel
theorem d114_6 : decode (byt 114) 6 = .ok (.iload_n 0, 1) := by decide +kernel
theorem d114_7 : decode (byt 114) 7 = .ok (.bipush 12, 2) := by decide +kernel
theorem d114_9 : decode (byt 114) 9 = .ok (.if_icmp .gt 7, 3) := by decide +kernel
theorem d114_12 : decode (byt 114) 12 = .ok (.iconst 1, 1) := by decide +kernel
theorem d114_13 : decode (byt 114) 13 = .ok (.goto 4, 3) := by decide +kernel
theorem d114_16 : decode (byt 114) 16 = .ok (.iconst 0, 1) := by decide +kernel
theorem d114_17 : decode (byt 114) 17 = .ok (.ireturn, 1) := by decide +kernel
set_option maxRecDepth 20000 in
theorem S114_0 : (∀ (ls : Lo) (st : List Value) (h : Hp) (Q : Option Value → Hp → Prop)  (x : Int32), Wp 114 0 (some (.int x) :: ls) (st) h Q ↔ Wp 114 1 (some (.int x) :: ls) (.int x :: st) h Q) ∧
  (∀ (ls : Lo) (st : List Value) (h : Hp) (Q : Option Value → Hp → Prop), Wp 114 1 (ls) (st) h Q ↔ Wp 114 3 (ls) (.int (-12) :: st) h Q) ∧
  (∀ (ls : Lo) (st : List Value) (h : Hp) (Q : Option Value → Hp → Prop) (x y : Int32), Wp 114 3 (ls) (.int y :: .int x :: st) h Q ↔ Br 114 16 6 ls st h Q (x < y)) ∧
  (∀ (ls : Lo) (st : List Value) (h : Hp) (Q : Option Value → Hp → Prop)  (x : Int32), Wp 114 6 (some (.int x) :: ls) (st) h Q ↔ Wp 114 7 (some (.int x) :: ls) (.int x :: st) h Q) ∧
  (∀ (ls : Lo) (st : List Value) (h : Hp) (Q : Option Value → Hp → Prop), Wp 114 7 (ls) (st) h Q ↔ Wp 114 9 (ls) (.int (12) :: st) h Q) ∧
  (∀ (ls : Lo) (st : List Value) (h : Hp) (Q : Option Value → Hp → Prop) (x y : Int32), Wp 114 9 (ls) (.int y :: .int x :: st) h Q ↔ Br 114 16 12 ls st h Q (y < x)) ∧
  (∀ (ls : Lo) (st : List Value) (h : Hp) (Q : Option Value → Hp → Prop), Wp 114 12 (ls) (st) h Q ↔ Wp 114 13 (ls) (.int (1) :: st) h Q) ∧
  (∀ (ls : Lo) (st : List Value) (h : Hp) (Q : Option Value → Hp → Prop), Wp 114 13 (ls) (st) h Q ↔ Wp 114 17 (ls) (st) h Q) ∧
  (∀ (ls : Lo) (st : List Value) (h : Hp) (Q : Option Value → Hp → Prop), Wp 114 16 (ls) (st) h Q ↔ Wp 114 17 (ls) (.int (0) :: st) h Q) ∧
  (∀ (ls : Lo) (h : Hp) (Q : Option Value → Hp → Prop) (x : Int32), Wp 114 17 (ls) ([.int x]) h Q ↔ ((x = 0 ∨ x = 1) ∧ Q (some (.int x)) h)) := ⟨by intro ls st h Q x; exact e_iload_n d114_0 rfl,
  by intro ls st h Q; exact e_bipush d114_1 rfl,
  by intro ls st h Q x y; exact e_ic d114_3 (by decide) c_lt,
  by intro ls st h Q x; exact e_iload_n d114_6 rfl,
  by intro ls st h Q; exact e_bipush d114_7 rfl,
  by intro ls st h Q x y; exact e_ic d114_9 (by decide) c_gt,
  by intro ls st h Q; exact e_iconst d114_12 rfl,
  by intro ls st h Q; exact e_goto d114_13 (by decide),
  by intro ls st h Q; exact e_iconst d114_16 rfl,
  by intros; exact e_rZ d114_17 rfl⟩
theorem d115_0 : decode (byt 115) 0 = .ok (.iload 4, 2) := by decide +kernel
theorem d115_2 : decode (byt 115) 2 = .ok (.invokestatic 118, 3) := by decide +kernel
theorem d115_5 : decode (byt 115) 5 = .ok (.ifCond .eq 16, 3) := by decide +kernel
theorem d115_8 : decode (byt 115) 8 = .ok (.aload_n 0, 1) := by decide +kernel
theorem d115_9 : decode (byt 115) 9 = .ok (.getfield 83, 3) := by decide +kernel
theorem d115_12 : decode (byt 115) 12 = .ok (.bipush 12, 2) := by decide +kernel
theorem d115_14 : decode (byt 115) 14 = .ok (.if_icmp .ge 7, 3) := by decide +kernel
theorem d115_17 : decode (byt 115) 17 = .ok (.iconst 1, 1) := by decide +kernel
theorem d115_18 : decode (byt 115) 18 = .ok (.goto 4, 3) := by decide +kernel
theorem d115_21 : decode (byt 115) 21 = .ok (.iconst 0, 1) := by decide +kernel
theorem d115_22 : decode (byt 115) 22 = .ok (.istore 5, 2) := by decide +kernel
theorem d115_24 : decode (byt 115) 24 = .ok (.iconst 0, 1) := by decide +kernel
theorem d115_25 : decode (byt 115) 25 = .ok (.istore 6, 2) := by decide +kernel
theorem d115_27 : decode (byt 115) 27 = .ok (.iload 6, 2) := by decide +kernel
theorem d115_29 : decode (byt 115) 29 = .ok (.iload_n 2, 1) := by decide +kernel
theorem d115_30 : decode (byt 115) 30 = .ok (.if_icmp .ge 92, 3) := by decide +kernel
theorem d115_33 : decode (byt 115) 33 = .ok (.iload 5, 2) := by decide +kernel
theorem d115_35 : decode (byt 115) 35 = .ok (.ifCond .eq 33, 3) := by decide +kernel
theorem d115_38 : decode (byt 115) 38 = .ok (.aload_n 0, 1) := by decide +kernel
theorem d115_39 : decode (byt 115) 39 = .ok (.getfield 34, 3) := by decide +kernel
theorem d115_42 : decode (byt 115) 42 = .ok (.iload 6, 2) := by decide +kernel
theorem d115_44 : decode (byt 115) 44 = .ok (.iaload, 1) := by decide +kernel
theorem d115_45 : decode (byt 115) 45 = .ok (.invokestatic 118, 3) := by decide +kernel
theorem d115_48 : decode (byt 115) 48 = .ok (.ifCond .eq 20, 3) := by decide +kernel
theorem d115_51 : decode (byt 115) 51 = .ok (.aload_n 0, 1) := by decide +kernel
theorem d115_52 : decode (byt 115) 52 = .ok (.getfield 37, 3) := by decide +kernel
theorem d115_55 : decode (byt 115) 55 = .ok (.iload 6, 2) := by decide +kernel
theorem d115_57 : decode (byt 115) 57 = .ok (.iaload, 1) := by decide +kernel
theorem d115_58 : decode (byt 115) 58 = .ok (.invokestatic 118, 3) := by decide +kernel
theorem d115_61 : decode (byt 115) 61 = .ok (.ifCond .eq 7, 3) := by decide +kernel
theorem d115_64 : decode (byt 115) 64 = .ok (.iconst 1, 1) := by decide +kernel
theorem d115_65 : decode (byt 115) 65 = .ok (.goto 4, 3) := by decide +kernel
theorem d115_68 : decode (byt 115) 68 = .ok (.iconst 0, 1) := by decide +kernel
theorem d115_69 : decode (byt 115) 69 = .ok (.istore 5, 2) := by decide +kernel
theorem d115_71 : decode (byt 115) 71 = .ok (.iconst 0, 1) := by decide +kernel
theorem d115_72 : decode (byt 115) 72 = .ok (.istore 7, 2) := by decide +kernel
theorem d115_74 : decode (byt 115) 74 = .ok (.iload 7, 2) := by decide +kernel
theorem d115_76 : decode (byt 115) 76 = .ok (.iload_n 2, 1) := by decide +kernel
theorem d115_77 : decode (byt 115) 77 = .ok (.if_icmp .ge 39, 3) := by decide +kernel
theorem d115_80 : decode (byt 115) 80 = .ok (.iload 5, 2) := by decide +kernel
theorem d115_82 : decode (byt 115) 82 = .ok (.ifCond .eq 25, 3) := by decide +kernel
theorem d115_85 : decode (byt 115) 85 = .ok (.aload_n 0, 1) := by decide +kernel
theorem d115_86 : decode (byt 115) 86 = .ok (.getfield 31, 3) := by decide +kernel
theorem d115_89 : decode (byt 115) 89 = .ok (.iconst 3, 1) := by decide +kernel
theorem d115_90 : decode (byt 115) 90 = .ok (.iload 6, 2) := by decide +kernel
theorem d115_92 : decode (byt 115) 92 = .ok (.imul, 1) := by decide +kernel
theorem d115_93 : decode (byt 115) 93 = .ok (.iload 7, 2) := by decide +kernel
theorem d115_95 : decode (byt 115) 95 = .ok (.iadd, 1) := by decide +kernel
theorem d115_96 : decode (byt 115) 96 = .ok (.iaload, 1) := by decide +kernel
theorem d115_97 : decode (byt 115) 97 = .ok (.invokestatic 118, 3) := by decide +kernel
theorem d115_100 : decode (byt 115) 100 = .ok (.ifCond .eq 7, 3) := by decide +kernel
theorem d115_103 : decode (byt 115) 103 = .ok (.iconst 1, 1) := by decide +kernel
theorem d115_104 : decode (byt 115) 104 = .ok (.goto 4, 3) := by decide +kernel
theorem d115_107 : decode (byt 115) 107 = .ok (.iconst 0, 1) := by decide +kernel
theorem d115_108 : decode (byt 115) 108 = .ok (.istore 5, 2) := by decide +kernel
theorem d115_110 : decode (byt 115) 110 = .ok (.iinc 7 1, 3) := by decide +kernel
theorem d115_113 : decode (byt 115) 113 = .ok (.goto (-39), 3) := by decide +kernel
theorem d115_116 : decode (byt 115) 116 = .ok (.iinc 6 1, 3) := by decide +kernel
theorem d115_119 : decode (byt 115) 119 = .ok (.goto (-92), 3) := by decide +kernel
theorem d115_122 : decode (byt 115) 122 = .ok (.iload 5, 2) := by decide +kernel
theorem d115_124 : decode (byt 115) 124 = .ok (.ifCond .ne 6, 3) := by decide +kernel
theorem d115_127 : decode (byt 115) 127 = .ok (.bipush (-4), 2) := by decide +kernel
theorem d115_129 : decode (byt 115) 129 = .ok (.ireturn, 1) := by decide +kernel
theorem d115_130 : decode (byt 115) 130 = .ok (.aload_n 0, 1) := by decide +kernel
theorem d115_131 : decode (byt 115) 131 = .ok (.iload_n 1, 1) := by decide +kernel
theorem d115_132 : decode (byt 115) 132 = .ok (.iload_n 2, 1) := by decide +kernel
theorem d115_133 : decode (byt 115) 133 = .ok (.iload_n 3, 1) := by decide +kernel
theorem d115_134 : decode (byt 115) 134 = .ok (.invokevirtual 98, 3) := by decide +kernel
theorem d115_137 : decode (byt 115) 137 = .ok (.istore 6, 2) := by decide +kernel
theorem d115_139 : decode (byt 115) 139 = .ok (.aload_n 0, 1) := by decide +kernel
theorem d115_140 : decode (byt 115) 140 = .ok (.getfield 19, 3) := by decide +kernel
theorem d115_143 : decode (byt 115) 143 = .ok (.iload 6, 2) := by decide +kernel
theorem d115_145 : decode (byt 115) 145 = .ok (.iload 4, 2) := by decide +kernel
theorem d115_147 : decode (byt 115) 147 = .ok (.iastore, 1) := by decide +kernel
theorem d115_148 : decode (byt 115) 148 = .ok (.iconst 0, 1) := by decide +kernel
theorem d115_149 : decode (byt 115) 149 = .ok (.istore 7, 2) := by decide +kernel
theorem d115_151 : decode (byt 115) 151 = .ok (.iload 7, 2) := by decide +kernel
theorem d115_153 : decode (byt 115) 153 = .ok (.iload_n 2, 1) := by decide +kernel
theorem d115_154 : decode (byt 115) 154 = .ok (.if_icmp .ge 92, 3) := by decide +kernel
theorem d115_157 : decode (byt 115) 157 = .ok (.aload_n 0, 1) := by decide +kernel
theorem d115_158 : decode (byt 115) 158 = .ok (.getfield 25, 3) := by decide +kernel
theorem d115_161 : decode (byt 115) 161 = .ok (.iconst 3, 1) := by decide +kernel
theorem d115_162 : decode (byt 115) 162 = .ok (.iload 6, 2) := by decide +kernel
theorem d115_164 : decode (byt 115) 164 = .ok (.imul, 1) := by decide +kernel
theorem d115_165 : decode (byt 115) 165 = .ok (.iload 7, 2) := by decide +kernel
theorem d115_167 : decode (byt 115) 167 = .ok (.iadd, 1) := by decide +kernel
theorem d115_168 : decode (byt 115) 168 = .ok (.aload_n 0, 1) := by decide +kernel
theorem d115_169 : decode (byt 115) 169 = .ok (.getfield 34, 3) := by decide +kernel
theorem d115_172 : decode (byt 115) 172 = .ok (.iload 7, 2) := by decide +kernel
theorem d115_174 : decode (byt 115) 174 = .ok (.iaload, 1) := by decide +kernel
theorem d115_175 : decode (byt 115) 175 = .ok (.iastore, 1) := by decide +kernel
theorem d115_176 : decode (byt 115) 176 = .ok (.aload_n 0, 1) := by decide +kernel
theorem d115_177 : decode (byt 115) 177 = .ok (.getfield 28, 3) := by decide +kernel
theorem d115_180 : decode (byt 115) 180 = .ok (.iconst 3, 1) := by decide +kernel
theorem d115_181 : decode (byt 115) 181 = .ok (.iload 6, 2) := by decide +kernel
theorem d115_183 : decode (byt 115) 183 = .ok (.imul, 1) := by decide +kernel
theorem d115_184 : decode (byt 115) 184 = .ok (.iload 7, 2) := by decide +kernel
theorem d115_186 : decode (byt 115) 186 = .ok (.iadd, 1) := by decide +kernel
theorem d115_187 : decode (byt 115) 187 = .ok (.aload_n 0, 1) := by decide +kernel
theorem d115_188 : decode (byt 115) 188 = .ok (.getfield 37, 3) := by decide +kernel
theorem d115_191 : decode (byt 115) 191 = .ok (.iload 7, 2) := by decide +kernel
theorem d115_193 : decode (byt 115) 193 = .ok (.iaload, 1) := by decide +kernel
theorem d115_194 : decode (byt 115) 194 = .ok (.iastore, 1) := by decide +kernel
theorem d115_195 : decode (byt 115) 195 = .ok (.iconst 0, 1) := by decide +kernel
theorem d115_196 : decode (byt 115) 196 = .ok (.istore 8, 2) := by decide +kernel
theorem d115_198 : decode (byt 115) 198 = .ok (.iload 8, 2) := by decide +kernel
theorem d115_200 : decode (byt 115) 200 = .ok (.iload_n 2, 1) := by decide +kernel
theorem d115_201 : decode (byt 115) 201 = .ok (.if_icmp .ge 39, 3) := by decide +kernel
theorem d115_204 : decode (byt 115) 204 = .ok (.aload_n 0, 1) := by decide +kernel
theorem d115_205 : decode (byt 115) 205 = .ok (.getfield 22, 3) := by decide +kernel
theorem d115_208 : decode (byt 115) 208 = .ok (.bipush 9, 2) := by decide +kernel
theorem d115_210 : decode (byt 115) 210 = .ok (.iload 6, 2) := by decide +kernel
theorem d115_212 : decode (byt 115) 212 = .ok (.imul, 1) := by decide +kernel
theorem d115_213 : decode (byt 115) 213 = .ok (.iconst 3, 1) := by decide +kernel
theorem d115_214 : decode (byt 115) 214 = .ok (.iload 7, 2) := by decide +kernel
theorem d115_216 : decode (byt 115) 216 = .ok (.imul, 1) := by decide +kernel
theorem d115_217 : decode (byt 115) 217 = .ok (.iadd, 1) := by decide +kernel
theorem d115_218 : decode (byt 115) 218 = .ok (.iload 8, 2) := by decide +kernel
theorem d115_220 : decode (byt 115) 220 = .ok (.iadd, 1) := by decide +kernel
theorem d115_221 : decode (byt 115) 221 = .ok (.aload_n 0, 1) := by decide +kernel
theorem d115_222 : decode (byt 115) 222 = .ok (.getfield 31, 3) := by decide +kernel
theorem d115_225 : decode (byt 115) 225 = .ok (.iconst 3, 1) := by decide +kernel
theorem d115_226 : decode (byt 115) 226 = .ok (.iload 7, 2) := by decide +kernel
theorem d115_228 : decode (byt 115) 228 = .ok (.imul, 1) := by decide +kernel
theorem d115_229 : decode (byt 115) 229 = .ok (.iload 8, 2) := by decide +kernel
theorem d115_231 : decode (byt 115) 231 = .ok (.iadd, 1) := by decide +kernel
theorem d115_232 : decode (byt 115) 232 = .ok (.iaload, 1) := by decide +kernel
theorem d115_233 : decode (byt 115) 233 = .ok (.iastore, 1) := by decide +kernel
theorem d115_234 : decode (byt 115) 234 = .ok (.iinc 8 1, 3) := by decide +kernel
theorem d115_237 : decode (byt 115) 237 = .ok (.goto (-39), 3) := by decide +kernel
theorem d115_240 : decode (byt 115) 240 = .ok (.iinc 7 1, 3) := by decide +kernel
theorem d115_243 : decode (byt 115) 243 = .ok (.goto (-92), 3) := by decide +kernel
theorem d115_246 : decode (byt 115) 246 = .ok (.iload 6, 2) := by decide +kernel
theorem d115_248 : decode (byt 115) 248 = .ok (.ireturn, 1) := by decide +kernel
set_option maxRecDepth 20000 in
theorem S115_0 : (∀ (ls : Lo) (st : List Value) (h : Hp) (Q : Option Value → Hp → Prop) (l0 l1 l2 l3 : Option Value) (x : Int32), Wp 115 0 (l0 :: l1 :: l2 :: l3 :: some (.int x) :: ls) (st) h Q ↔ Wp 115 2 (l0 :: l1 :: l2 :: l3 :: some (.int x) :: ls) (.int x :: st) h Q) ∧
  (∀ (ls : Lo) (st : List Value) (h : Hp) (Q : Option Value → Hp → Prop) (x0 : Int32), Wp 115 2 (ls) (.int x0 :: st) h Q ↔ (wsum st ≤ 8 ∧ Call 114 [some (.int x0)] h 115 5 ls st Q)) ∧
  (∀ (ls : Lo) (st : List Value) (h : Hp) (Q : Option Value → Hp → Prop) (x : Int32), Wp 115 5 (ls) (.int x :: st) h Q ↔ Br 115 21 8 ls st h Q (x = 0)) ∧
  (∀ (ls : Lo) (st : List Value) (h : Hp) (Q : Option Value → Hp → Prop)  (i : Nat), Wp 115 8 (some (.ref i) :: ls) (st) h Q ↔ Wp 115 9 (some (.ref i) :: ls) (.ref i :: st) h Q) ∧
  (∀ (ls : Lo) (st : List Value) (n sl : Nat) (C Z : Nat → Nat) (I : Nat → Nat → Int32) (L : Nat → Nat → Int64) (R : Nat → Nat → Nat) (Q : Option Value → Hp → Prop) (i : Nat), Wp 115 9 (ls) (.ref i :: st) (n, sl, C, Z, I, L, R) Q ↔ (C i = 11 ∧ Wp 115 12 (ls) (.int (I i 0) :: st) (n, sl, C, Z, I, L, R) Q)) ∧
  (∀ (ls : Lo) (st : List Value) (h : Hp) (Q : Option Value → Hp → Prop), Wp 115 12 (ls) (st) h Q ↔ Wp 115 14 (ls) (.int (12) :: st) h Q) ∧
  (∀ (ls : Lo) (st : List Value) (h : Hp) (Q : Option Value → Hp → Prop) (x y : Int32), Wp 115 14 (ls) (.int y :: .int x :: st) h Q ↔ Br 115 21 17 ls st h Q (y ≤ x)) ∧
  (∀ (ls : Lo) (st : List Value) (h : Hp) (Q : Option Value → Hp → Prop), Wp 115 17 (ls) (st) h Q ↔ Wp 115 18 (ls) (.int (1) :: st) h Q) ∧
  (∀ (ls : Lo) (st : List Value) (h : Hp) (Q : Option Value → Hp → Prop), Wp 115 18 (ls) (st) h Q ↔ Wp 115 22 (ls) (st) h Q) ∧
  (∀ (ls : Lo) (st : List Value) (h : Hp) (Q : Option Value → Hp → Prop), Wp 115 21 (ls) (st) h Q ↔ Wp 115 22 (ls) (.int (0) :: st) h Q) ∧
  (∀ (ls : Lo) (st : List Value) (h : Hp) (Q : Option Value → Hp → Prop) (l0 l1 l2 l3 l4 l5 : Option Value) (x : Int32), Wp 115 22 (l0 :: l1 :: l2 :: l3 :: l4 :: l5 :: ls) (.int x :: st) h Q ↔ Wp 115 24 (l0 :: l1 :: l2 :: l3 :: clr l4 :: some (.int x) :: ls) (st) h Q) ∧
  (∀ (ls : Lo) (st : List Value) (h : Hp) (Q : Option Value → Hp → Prop), Wp 115 24 (ls) (st) h Q ↔ Wp 115 25 (ls) (.int (0) :: st) h Q) ∧
  (∀ (ls : Lo) (st : List Value) (h : Hp) (Q : Option Value → Hp → Prop) (l0 l1 l2 l3 l4 l5 l6 : Option Value) (x : Int32), Wp 115 25 (l0 :: l1 :: l2 :: l3 :: l4 :: l5 :: l6 :: ls) (.int x :: st) h Q ↔ Wp 115 27 (l0 :: l1 :: l2 :: l3 :: l4 :: clr l5 :: some (.int x) :: ls) (st) h Q) ∧
  (∀ (ls : Lo) (st : List Value) (h : Hp) (Q : Option Value → Hp → Prop) (l0 l1 l2 l3 l4 l5 : Option Value) (x : Int32), Wp 115 27 (l0 :: l1 :: l2 :: l3 :: l4 :: l5 :: some (.int x) :: ls) (st) h Q ↔ Wp 115 29 (l0 :: l1 :: l2 :: l3 :: l4 :: l5 :: some (.int x) :: ls) (.int x :: st) h Q) ∧
  (∀ (ls : Lo) (st : List Value) (h : Hp) (Q : Option Value → Hp → Prop) (l0 l1 : Option Value) (x : Int32), Wp 115 29 (l0 :: l1 :: some (.int x) :: ls) (st) h Q ↔ Wp 115 30 (l0 :: l1 :: some (.int x) :: ls) (.int x :: st) h Q) ∧
  (∀ (ls : Lo) (st : List Value) (h : Hp) (Q : Option Value → Hp → Prop) (x y : Int32), Wp 115 30 (ls) (.int y :: .int x :: st) h Q ↔ Br 115 122 33 ls st h Q (y ≤ x)) ∧
  (∀ (ls : Lo) (st : List Value) (h : Hp) (Q : Option Value → Hp → Prop) (l0 l1 l2 l3 l4 : Option Value) (x : Int32), Wp 115 33 (l0 :: l1 :: l2 :: l3 :: l4 :: some (.int x) :: ls) (st) h Q ↔ Wp 115 35 (l0 :: l1 :: l2 :: l3 :: l4 :: some (.int x) :: ls) (.int x :: st) h Q) ∧
  (∀ (ls : Lo) (st : List Value) (h : Hp) (Q : Option Value → Hp → Prop) (x : Int32), Wp 115 35 (ls) (.int x :: st) h Q ↔ Br 115 68 38 ls st h Q (x = 0)) ∧
  (∀ (ls : Lo) (st : List Value) (h : Hp) (Q : Option Value → Hp → Prop)  (i : Nat), Wp 115 38 (some (.ref i) :: ls) (st) h Q ↔ Wp 115 39 (some (.ref i) :: ls) (.ref i :: st) h Q) ∧
  (∀ (ls : Lo) (st : List Value) (n sl : Nat) (C Z : Nat → Nat) (I : Nat → Nat → Int32) (L : Nat → Nat → Int64) (R : Nat → Nat → Nat) (Q : Option Value → Hp → Prop) (i : Nat), Wp 115 39 (ls) (.ref i :: st) (n, sl, C, Z, I, L, R) Q ↔ (C i = 11 ∧ Wp 115 42 (ls) (.ref (R i 9) :: st) (n, sl, C, Z, I, L, R) Q)) ∧
  (∀ (ls : Lo) (st : List Value) (h : Hp) (Q : Option Value → Hp → Prop) (l0 l1 l2 l3 l4 l5 : Option Value) (x : Int32), Wp 115 42 (l0 :: l1 :: l2 :: l3 :: l4 :: l5 :: some (.int x) :: ls) (st) h Q ↔ Wp 115 44 (l0 :: l1 :: l2 :: l3 :: l4 :: l5 :: some (.int x) :: ls) (.int x :: st) h Q) ∧
  (∀ (ls : Lo) (st : List Value) (n sl : Nat) (C Z : Nat → Nat) (I : Nat → Nat → Int32) (L : Nat → Nat → Int64) (R : Nat → Nat → Nat) (Q : Option Value → Hp → Prop) (i : Nat) (y : Int32), Wp 115 44 (ls) (.int y :: .ref i :: st) (n, sl, C, Z, I, L, R) Q ↔ ((inb y (Z i) = true ∧ C i = 21) ∧ Wp 115 45 (ls) (.int (I i (ix y)) :: st) (n, sl, C, Z, I, L, R) Q)) ∧
  (∀ (ls : Lo) (st : List Value) (h : Hp) (Q : Option Value → Hp → Prop) (x0 : Int32), Wp 115 45 (ls) (.int x0 :: st) h Q ↔ (wsum st ≤ 8 ∧ Call 114 [some (.int x0)] h 115 48 ls st Q)) ∧
  (∀ (ls : Lo) (st : List Value) (h : Hp) (Q : Option Value → Hp → Prop) (x : Int32), Wp 115 48 (ls) (.int x :: st) h Q ↔ Br 115 68 51 ls st h Q (x = 0)) ∧
  (∀ (ls : Lo) (st : List Value) (h : Hp) (Q : Option Value → Hp → Prop)  (i : Nat), Wp 115 51 (some (.ref i) :: ls) (st) h Q ↔ Wp 115 52 (some (.ref i) :: ls) (.ref i :: st) h Q) := ⟨by intro ls st h Q l0 l1 l2 l3 x; exact e_iload d115_0 rfl,
  by intro ls st h Q x0; exact e_is (k2 := 114) (as := [.int x0]) d115_2 rfl (by decide) rfl rfl (by decide +kernel) (Nat.le_of_ble_eq_true rfl) rfl,
  by intro ls st h Q x; exact e_if d115_5 (by decide) c_eq,
  by intro ls st h Q i; exact e_aload_n d115_8 rfl,
  by intro ls st n sl C Z I L R Q i; exact e_get (g := 10) (s := 0) (ty := 0) d115_9 rfl rfl (inG_ne (by decide)),
  by intro ls st h Q; exact e_bipush d115_12 rfl,
  by intro ls st h Q x y; exact e_ic d115_14 (by decide) c_ge,
  by intro ls st h Q; exact e_iconst d115_17 rfl,
  by intro ls st h Q; exact e_goto d115_18 (by decide),
  by intro ls st h Q; exact e_iconst d115_21 rfl,
  by intro ls st h Q l0 l1 l2 l3 l4 l5 x; exact e_istore d115_22 rfl,
  by intro ls st h Q; exact e_iconst d115_24 rfl,
  by intro ls st h Q l0 l1 l2 l3 l4 l5 l6 x; exact e_istore d115_25 rfl,
  by intro ls st h Q l0 l1 l2 l3 l4 l5 x; exact e_iload d115_27 rfl,
  by intro ls st h Q l0 l1 x; exact e_iload_n d115_29 rfl,
  by intro ls st h Q x y; exact e_ic d115_30 (by decide) c_ge,
  by intro ls st h Q l0 l1 l2 l3 l4 x; exact e_iload d115_33 rfl,
  by intro ls st h Q x; exact e_if d115_35 (by decide) c_eq,
  by intro ls st h Q i; exact e_aload_n d115_38 rfl,
  by intro ls st n sl C Z I L R Q i; exact e_get (g := 10) (s := 9) (ty := 2) d115_39 rfl rfl (inG_ne (by decide)),
  by intro ls st h Q l0 l1 l2 l3 l4 l5 x; exact e_iload d115_42 rfl,
  by intro ls st n sl C Z I L R Q i y; exact e_iald d115_44,
  by intro ls st h Q x0; exact e_is (k2 := 114) (as := [.int x0]) d115_45 rfl (by decide) rfl rfl (by decide +kernel) (Nat.le_of_ble_eq_true rfl) rfl,
  by intro ls st h Q x; exact e_if d115_48 (by decide) c_eq,
  by intro ls st h Q i; exact e_aload_n d115_51 rfl⟩
set_option maxRecDepth 20000 in
theorem S115_1 : (∀ (ls : Lo) (st : List Value) (n sl : Nat) (C Z : Nat → Nat) (I : Nat → Nat → Int32) (L : Nat → Nat → Int64) (R : Nat → Nat → Nat) (Q : Option Value → Hp → Prop) (i : Nat), Wp 115 52 (ls) (.ref i :: st) (n, sl, C, Z, I, L, R) Q ↔ (C i = 11 ∧ Wp 115 55 (ls) (.ref (R i 10) :: st) (n, sl, C, Z, I, L, R) Q)) ∧
  (∀ (ls : Lo) (st : List Value) (h : Hp) (Q : Option Value → Hp → Prop) (l0 l1 l2 l3 l4 l5 : Option Value) (x : Int32), Wp 115 55 (l0 :: l1 :: l2 :: l3 :: l4 :: l5 :: some (.int x) :: ls) (st) h Q ↔ Wp 115 57 (l0 :: l1 :: l2 :: l3 :: l4 :: l5 :: some (.int x) :: ls) (.int x :: st) h Q) ∧
  (∀ (ls : Lo) (st : List Value) (n sl : Nat) (C Z : Nat → Nat) (I : Nat → Nat → Int32) (L : Nat → Nat → Int64) (R : Nat → Nat → Nat) (Q : Option Value → Hp → Prop) (i : Nat) (y : Int32), Wp 115 57 (ls) (.int y :: .ref i :: st) (n, sl, C, Z, I, L, R) Q ↔ ((inb y (Z i) = true ∧ C i = 21) ∧ Wp 115 58 (ls) (.int (I i (ix y)) :: st) (n, sl, C, Z, I, L, R) Q)) ∧
  (∀ (ls : Lo) (st : List Value) (h : Hp) (Q : Option Value → Hp → Prop) (x0 : Int32), Wp 115 58 (ls) (.int x0 :: st) h Q ↔ (wsum st ≤ 8 ∧ Call 114 [some (.int x0)] h 115 61 ls st Q)) ∧
  (∀ (ls : Lo) (st : List Value) (h : Hp) (Q : Option Value → Hp → Prop) (x : Int32), Wp 115 61 (ls) (.int x :: st) h Q ↔ Br 115 68 64 ls st h Q (x = 0)) ∧
  (∀ (ls : Lo) (st : List Value) (h : Hp) (Q : Option Value → Hp → Prop), Wp 115 64 (ls) (st) h Q ↔ Wp 115 65 (ls) (.int (1) :: st) h Q) ∧
  (∀ (ls : Lo) (st : List Value) (h : Hp) (Q : Option Value → Hp → Prop), Wp 115 65 (ls) (st) h Q ↔ Wp 115 69 (ls) (st) h Q) ∧
  (∀ (ls : Lo) (st : List Value) (h : Hp) (Q : Option Value → Hp → Prop), Wp 115 68 (ls) (st) h Q ↔ Wp 115 69 (ls) (.int (0) :: st) h Q) ∧
  (∀ (ls : Lo) (st : List Value) (h : Hp) (Q : Option Value → Hp → Prop) (l0 l1 l2 l3 l4 l5 : Option Value) (x : Int32), Wp 115 69 (l0 :: l1 :: l2 :: l3 :: l4 :: l5 :: ls) (.int x :: st) h Q ↔ Wp 115 71 (l0 :: l1 :: l2 :: l3 :: clr l4 :: some (.int x) :: ls) (st) h Q) ∧
  (∀ (ls : Lo) (st : List Value) (h : Hp) (Q : Option Value → Hp → Prop), Wp 115 71 (ls) (st) h Q ↔ Wp 115 72 (ls) (.int (0) :: st) h Q) ∧
  (∀ (ls : Lo) (st : List Value) (h : Hp) (Q : Option Value → Hp → Prop) (l0 l1 l2 l3 l4 l5 l6 l7 : Option Value) (x : Int32), Wp 115 72 (l0 :: l1 :: l2 :: l3 :: l4 :: l5 :: l6 :: l7 :: ls) (.int x :: st) h Q ↔ Wp 115 74 (l0 :: l1 :: l2 :: l3 :: l4 :: l5 :: clr l6 :: some (.int x) :: ls) (st) h Q) ∧
  (∀ (ls : Lo) (st : List Value) (h : Hp) (Q : Option Value → Hp → Prop) (l0 l1 l2 l3 l4 l5 l6 : Option Value) (x : Int32), Wp 115 74 (l0 :: l1 :: l2 :: l3 :: l4 :: l5 :: l6 :: some (.int x) :: ls) (st) h Q ↔ Wp 115 76 (l0 :: l1 :: l2 :: l3 :: l4 :: l5 :: l6 :: some (.int x) :: ls) (.int x :: st) h Q) ∧
  (∀ (ls : Lo) (st : List Value) (h : Hp) (Q : Option Value → Hp → Prop) (l0 l1 : Option Value) (x : Int32), Wp 115 76 (l0 :: l1 :: some (.int x) :: ls) (st) h Q ↔ Wp 115 77 (l0 :: l1 :: some (.int x) :: ls) (.int x :: st) h Q) ∧
  (∀ (ls : Lo) (st : List Value) (h : Hp) (Q : Option Value → Hp → Prop) (x y : Int32), Wp 115 77 (ls) (.int y :: .int x :: st) h Q ↔ Br 115 116 80 ls st h Q (y ≤ x)) ∧
  (∀ (ls : Lo) (st : List Value) (h : Hp) (Q : Option Value → Hp → Prop) (l0 l1 l2 l3 l4 : Option Value) (x : Int32), Wp 115 80 (l0 :: l1 :: l2 :: l3 :: l4 :: some (.int x) :: ls) (st) h Q ↔ Wp 115 82 (l0 :: l1 :: l2 :: l3 :: l4 :: some (.int x) :: ls) (.int x :: st) h Q) ∧
  (∀ (ls : Lo) (st : List Value) (h : Hp) (Q : Option Value → Hp → Prop) (x : Int32), Wp 115 82 (ls) (.int x :: st) h Q ↔ Br 115 107 85 ls st h Q (x = 0)) ∧
  (∀ (ls : Lo) (st : List Value) (h : Hp) (Q : Option Value → Hp → Prop)  (i : Nat), Wp 115 85 (some (.ref i) :: ls) (st) h Q ↔ Wp 115 86 (some (.ref i) :: ls) (.ref i :: st) h Q) ∧
  (∀ (ls : Lo) (st : List Value) (n sl : Nat) (C Z : Nat → Nat) (I : Nat → Nat → Int32) (L : Nat → Nat → Int64) (R : Nat → Nat → Nat) (Q : Option Value → Hp → Prop) (i : Nat), Wp 115 86 (ls) (.ref i :: st) (n, sl, C, Z, I, L, R) Q ↔ (C i = 11 ∧ Wp 115 89 (ls) (.ref (R i 8) :: st) (n, sl, C, Z, I, L, R) Q)) ∧
  (∀ (ls : Lo) (st : List Value) (h : Hp) (Q : Option Value → Hp → Prop), Wp 115 89 (ls) (st) h Q ↔ Wp 115 90 (ls) (.int (3) :: st) h Q) ∧
  (∀ (ls : Lo) (st : List Value) (h : Hp) (Q : Option Value → Hp → Prop) (l0 l1 l2 l3 l4 l5 : Option Value) (x : Int32), Wp 115 90 (l0 :: l1 :: l2 :: l3 :: l4 :: l5 :: some (.int x) :: ls) (st) h Q ↔ Wp 115 92 (l0 :: l1 :: l2 :: l3 :: l4 :: l5 :: some (.int x) :: ls) (.int x :: st) h Q) ∧
  (∀ (ls : Lo) (st : List Value) (h : Hp) (Q : Option Value → Hp → Prop) (x y : Int32), Wp 115 92 (ls) (.int y :: .int x :: st) h Q ↔ Wp 115 93 (ls) (.int (x * y) :: st) h Q) ∧
  (∀ (ls : Lo) (st : List Value) (h : Hp) (Q : Option Value → Hp → Prop) (l0 l1 l2 l3 l4 l5 l6 : Option Value) (x : Int32), Wp 115 93 (l0 :: l1 :: l2 :: l3 :: l4 :: l5 :: l6 :: some (.int x) :: ls) (st) h Q ↔ Wp 115 95 (l0 :: l1 :: l2 :: l3 :: l4 :: l5 :: l6 :: some (.int x) :: ls) (.int x :: st) h Q) ∧
  (∀ (ls : Lo) (st : List Value) (h : Hp) (Q : Option Value → Hp → Prop) (x y : Int32), Wp 115 95 (ls) (.int y :: .int x :: st) h Q ↔ Wp 115 96 (ls) (.int (x + y) :: st) h Q) ∧
  (∀ (ls : Lo) (st : List Value) (n sl : Nat) (C Z : Nat → Nat) (I : Nat → Nat → Int32) (L : Nat → Nat → Int64) (R : Nat → Nat → Nat) (Q : Option Value → Hp → Prop) (i : Nat) (y : Int32), Wp 115 96 (ls) (.int y :: .ref i :: st) (n, sl, C, Z, I, L, R) Q ↔ ((inb y (Z i) = true ∧ C i = 21) ∧ Wp 115 97 (ls) (.int (I i (ix y)) :: st) (n, sl, C, Z, I, L, R) Q)) ∧
  (∀ (ls : Lo) (st : List Value) (h : Hp) (Q : Option Value → Hp → Prop) (x0 : Int32), Wp 115 97 (ls) (.int x0 :: st) h Q ↔ (wsum st ≤ 8 ∧ Call 114 [some (.int x0)] h 115 100 ls st Q)) := ⟨by intro ls st n sl C Z I L R Q i; exact e_get (g := 10) (s := 10) (ty := 2) d115_52 rfl rfl (inG_ne (by decide)),
  by intro ls st h Q l0 l1 l2 l3 l4 l5 x; exact e_iload d115_55 rfl,
  by intro ls st n sl C Z I L R Q i y; exact e_iald d115_57,
  by intro ls st h Q x0; exact e_is (k2 := 114) (as := [.int x0]) d115_58 rfl (by decide) rfl rfl (by decide +kernel) (Nat.le_of_ble_eq_true rfl) rfl,
  by intro ls st h Q x; exact e_if d115_61 (by decide) c_eq,
  by intro ls st h Q; exact e_iconst d115_64 rfl,
  by intro ls st h Q; exact e_goto d115_65 (by decide),
  by intro ls st h Q; exact e_iconst d115_68 rfl,
  by intro ls st h Q l0 l1 l2 l3 l4 l5 x; exact e_istore d115_69 rfl,
  by intro ls st h Q; exact e_iconst d115_71 rfl,
  by intro ls st h Q l0 l1 l2 l3 l4 l5 l6 l7 x; exact e_istore d115_72 rfl,
  by intro ls st h Q l0 l1 l2 l3 l4 l5 l6 x; exact e_iload d115_74 rfl,
  by intro ls st h Q l0 l1 x; exact e_iload_n d115_76 rfl,
  by intro ls st h Q x y; exact e_ic d115_77 (by decide) c_ge,
  by intro ls st h Q l0 l1 l2 l3 l4 x; exact e_iload d115_80 rfl,
  by intro ls st h Q x; exact e_if d115_82 (by decide) c_eq,
  by intro ls st h Q i; exact e_aload_n d115_85 rfl,
  by intro ls st n sl C Z I L R Q i; exact e_get (g := 10) (s := 8) (ty := 2) d115_86 rfl rfl (inG_ne (by decide)),
  by intro ls st h Q; exact e_iconst d115_89 rfl,
  by intro ls st h Q l0 l1 l2 l3 l4 l5 x; exact e_iload d115_90 rfl,
  by intro ls st h Q x y; exact e_imul d115_92,
  by intro ls st h Q l0 l1 l2 l3 l4 l5 l6 x; exact e_iload d115_93 rfl,
  by intro ls st h Q x y; exact e_iadd d115_95,
  by intro ls st n sl C Z I L R Q i y; exact e_iald d115_96,
  by intro ls st h Q x0; exact e_is (k2 := 114) (as := [.int x0]) d115_97 rfl (by decide) rfl rfl (by decide +kernel) (Nat.le_of_ble_eq_true rfl) rfl⟩
set_option maxRecDepth 20000 in
theorem S115_2 : (∀ (ls : Lo) (st : List Value) (h : Hp) (Q : Option Value → Hp → Prop) (x : Int32), Wp 115 100 (ls) (.int x :: st) h Q ↔ Br 115 107 103 ls st h Q (x = 0)) ∧
  (∀ (ls : Lo) (st : List Value) (h : Hp) (Q : Option Value → Hp → Prop), Wp 115 103 (ls) (st) h Q ↔ Wp 115 104 (ls) (.int (1) :: st) h Q) ∧
  (∀ (ls : Lo) (st : List Value) (h : Hp) (Q : Option Value → Hp → Prop), Wp 115 104 (ls) (st) h Q ↔ Wp 115 108 (ls) (st) h Q) ∧
  (∀ (ls : Lo) (st : List Value) (h : Hp) (Q : Option Value → Hp → Prop), Wp 115 107 (ls) (st) h Q ↔ Wp 115 108 (ls) (.int (0) :: st) h Q) ∧
  (∀ (ls : Lo) (st : List Value) (h : Hp) (Q : Option Value → Hp → Prop) (l0 l1 l2 l3 l4 l5 : Option Value) (x : Int32), Wp 115 108 (l0 :: l1 :: l2 :: l3 :: l4 :: l5 :: ls) (.int x :: st) h Q ↔ Wp 115 110 (l0 :: l1 :: l2 :: l3 :: clr l4 :: some (.int x) :: ls) (st) h Q) ∧
  (∀ (ls : Lo) (st : List Value) (h : Hp) (Q : Option Value → Hp → Prop) (l0 l1 l2 l3 l4 l5 l6 : Option Value) (x : Int32), Wp 115 110 (l0 :: l1 :: l2 :: l3 :: l4 :: l5 :: l6 :: some (.int x) :: ls) (st) h Q ↔ Wp 115 113 (l0 :: l1 :: l2 :: l3 :: l4 :: l5 :: clr l6 :: some (.int (x + (1))) :: ls) (st) h Q) ∧
  (∀ (ls : Lo) (st : List Value) (h : Hp) (Q : Option Value → Hp → Prop), Wp 115 113 (ls) (st) h Q ↔ Wp 115 74 (ls) (st) h Q) ∧
  (∀ (ls : Lo) (st : List Value) (h : Hp) (Q : Option Value → Hp → Prop) (l0 l1 l2 l3 l4 l5 : Option Value) (x : Int32), Wp 115 116 (l0 :: l1 :: l2 :: l3 :: l4 :: l5 :: some (.int x) :: ls) (st) h Q ↔ Wp 115 119 (l0 :: l1 :: l2 :: l3 :: l4 :: clr l5 :: some (.int (x + (1))) :: ls) (st) h Q) ∧
  (∀ (ls : Lo) (st : List Value) (h : Hp) (Q : Option Value → Hp → Prop), Wp 115 119 (ls) (st) h Q ↔ Wp 115 27 (ls) (st) h Q) ∧
  (∀ (ls : Lo) (st : List Value) (h : Hp) (Q : Option Value → Hp → Prop) (l0 l1 l2 l3 l4 : Option Value) (x : Int32), Wp 115 122 (l0 :: l1 :: l2 :: l3 :: l4 :: some (.int x) :: ls) (st) h Q ↔ Wp 115 124 (l0 :: l1 :: l2 :: l3 :: l4 :: some (.int x) :: ls) (.int x :: st) h Q) ∧
  (∀ (ls : Lo) (st : List Value) (h : Hp) (Q : Option Value → Hp → Prop) (x : Int32), Wp 115 124 (ls) (.int x :: st) h Q ↔ Br 115 130 127 ls st h Q (¬ x = 0)) ∧
  (∀ (ls : Lo) (st : List Value) (h : Hp) (Q : Option Value → Hp → Prop), Wp 115 127 (ls) (st) h Q ↔ Wp 115 129 (ls) (.int (-4) :: st) h Q) ∧
  (∀ (ls : Lo) (h : Hp) (Q : Option Value → Hp → Prop) (x : Int32), Wp 115 129 (ls) ([.int x]) h Q ↔ Q (some (.int x)) h) ∧
  (∀ (ls : Lo) (st : List Value) (h : Hp) (Q : Option Value → Hp → Prop)  (i : Nat), Wp 115 130 (some (.ref i) :: ls) (st) h Q ↔ Wp 115 131 (some (.ref i) :: ls) (.ref i :: st) h Q) ∧
  (∀ (ls : Lo) (st : List Value) (h : Hp) (Q : Option Value → Hp → Prop) (l0 : Option Value) (x : Int32), Wp 115 131 (l0 :: some (.int x) :: ls) (st) h Q ↔ Wp 115 132 (l0 :: some (.int x) :: ls) (.int x :: st) h Q) ∧
  (∀ (ls : Lo) (st : List Value) (h : Hp) (Q : Option Value → Hp → Prop) (l0 l1 : Option Value) (x : Int32), Wp 115 132 (l0 :: l1 :: some (.int x) :: ls) (st) h Q ↔ Wp 115 133 (l0 :: l1 :: some (.int x) :: ls) (.int x :: st) h Q) ∧
  (∀ (ls : Lo) (st : List Value) (h : Hp) (Q : Option Value → Hp → Prop) (l0 l1 l2 : Option Value) (x : Int32), Wp 115 133 (l0 :: l1 :: l2 :: some (.int x) :: ls) (st) h Q ↔ Wp 115 134 (l0 :: l1 :: l2 :: some (.int x) :: ls) (.int x :: st) h Q) ∧
  (∀ (ls : Lo) (st : List Value) (n sl : Nat) (C Z : Nat → Nat) (I : Nat → Nat → Int32) (L : Nat → Nat → Int64) (R : Nat → Nat → Nat) (Q : Option Value → Hp → Prop) (x0 : Int32) (x1 : Int32) (x2 : Int32) (i : Nat), C i = 11 → (Wp 115 134 (ls) (.int x2 :: .int x1 :: .int x0 :: .ref i :: st) (n, sl, C, Z, I, L, R) Q ↔ (wsum st ≤ 8 ∧ Call 108 [some (.ref i), some (.int x0), some (.int x1), some (.int x2), none, none] (n, sl, C, Z, I, L, R) 115 137 ls st Q))) ∧
  (∀ (ls : Lo) (st : List Value) (h : Hp) (Q : Option Value → Hp → Prop) (l0 l1 l2 l3 l4 l5 l6 : Option Value) (x : Int32), Wp 115 137 (l0 :: l1 :: l2 :: l3 :: l4 :: l5 :: l6 :: ls) (.int x :: st) h Q ↔ Wp 115 139 (l0 :: l1 :: l2 :: l3 :: l4 :: clr l5 :: some (.int x) :: ls) (st) h Q) ∧
  (∀ (ls : Lo) (st : List Value) (h : Hp) (Q : Option Value → Hp → Prop)  (i : Nat), Wp 115 139 (some (.ref i) :: ls) (st) h Q ↔ Wp 115 140 (some (.ref i) :: ls) (.ref i :: st) h Q) ∧
  (∀ (ls : Lo) (st : List Value) (n sl : Nat) (C Z : Nat → Nat) (I : Nat → Nat → Int32) (L : Nat → Nat → Int64) (R : Nat → Nat → Nat) (Q : Option Value → Hp → Prop) (i : Nat), Wp 115 140 (ls) (.ref i :: st) (n, sl, C, Z, I, L, R) Q ↔ (C i = 11 ∧ Wp 115 143 (ls) (.ref (R i 4) :: st) (n, sl, C, Z, I, L, R) Q)) ∧
  (∀ (ls : Lo) (st : List Value) (h : Hp) (Q : Option Value → Hp → Prop) (l0 l1 l2 l3 l4 l5 : Option Value) (x : Int32), Wp 115 143 (l0 :: l1 :: l2 :: l3 :: l4 :: l5 :: some (.int x) :: ls) (st) h Q ↔ Wp 115 145 (l0 :: l1 :: l2 :: l3 :: l4 :: l5 :: some (.int x) :: ls) (.int x :: st) h Q) ∧
  (∀ (ls : Lo) (st : List Value) (h : Hp) (Q : Option Value → Hp → Prop) (l0 l1 l2 l3 : Option Value) (x : Int32), Wp 115 145 (l0 :: l1 :: l2 :: l3 :: some (.int x) :: ls) (st) h Q ↔ Wp 115 147 (l0 :: l1 :: l2 :: l3 :: some (.int x) :: ls) (.int x :: st) h Q) ∧
  (∀ (ls : Lo) (st : List Value) (n sl : Nat) (C Z : Nat → Nat) (I : Nat → Nat → Int32) (L : Nat → Nat → Int64) (R : Nat → Nat → Nat) (Q : Option Value → Hp → Prop) (i : Nat) (x y : Int32), Wp 115 147 (ls) (.int x :: .int y :: .ref i :: st) (n, sl, C, Z, I, L, R) Q ↔ ((inb y (Z i) = true ∧ C i = 21) ∧ Wp 115 148 (ls) (st) (n, sl, C, Z, u2 I i (ix y) x, L, R) Q)) ∧
  (∀ (ls : Lo) (st : List Value) (h : Hp) (Q : Option Value → Hp → Prop), Wp 115 148 (ls) (st) h Q ↔ Wp 115 149 (ls) (.int (0) :: st) h Q) := ⟨by intro ls st h Q x; exact e_if d115_100 (by decide) c_eq,
  by intro ls st h Q; exact e_iconst d115_103 rfl,
  by intro ls st h Q; exact e_goto d115_104 (by decide),
  by intro ls st h Q; exact e_iconst d115_107 rfl,
  by intro ls st h Q l0 l1 l2 l3 l4 l5 x; exact e_istore d115_108 rfl,
  by intro ls st h Q l0 l1 l2 l3 l4 l5 l6 x; exact e_iinc d115_110 rfl rfl rfl,
  by intro ls st h Q; exact e_goto d115_113 (by decide),
  by intro ls st h Q l0 l1 l2 l3 l4 l5 x; exact e_iinc d115_116 rfl rfl rfl,
  by intro ls st h Q; exact e_goto d115_119 (by decide),
  by intro ls st h Q l0 l1 l2 l3 l4 x; exact e_iload d115_122 rfl,
  by intro ls st h Q x; exact e_if d115_124 (by decide) c_ne,
  by intro ls st h Q; exact e_bipush d115_127 rfl,
  by intros; exact e_rI (p := True) d115_129 rfl,
  by intro ls st h Q i; exact e_aload_n d115_130 rfl,
  by intro ls st h Q l0 x; exact e_iload_n d115_131 rfl,
  by intro ls st h Q l0 l1 x; exact e_iload_n d115_132 rfl,
  by intro ls st h Q l0 l1 l2 x; exact e_iload_n d115_133 rfl,
  by intro ls st n sl C Z I L R Q x0 x1 x2 i hh; exact e_iv (k2 := 108) (c := 11) (as := [.int x0, .int x1, .int x2]) d115_134 rfl (by decide) rfl rfl (by decide +kernel) (Nat.le_of_ble_eq_true rfl) rfl hh,
  by intro ls st h Q l0 l1 l2 l3 l4 l5 l6 x; exact e_istore d115_137 rfl,
  by intro ls st h Q i; exact e_aload_n d115_139 rfl,
  by intro ls st n sl C Z I L R Q i; exact e_get (g := 10) (s := 4) (ty := 2) d115_140 rfl rfl (inG_ne (by decide)),
  by intro ls st h Q l0 l1 l2 l3 l4 l5 x; exact e_iload d115_143 rfl,
  by intro ls st h Q l0 l1 l2 l3 x; exact e_iload d115_145 rfl,
  by intro ls st n sl C Z I L R Q i x y; exact e_iast d115_147,
  by intro ls st h Q; exact e_iconst d115_148 rfl⟩
set_option maxRecDepth 20000 in
theorem S115_3 : (∀ (ls : Lo) (st : List Value) (h : Hp) (Q : Option Value → Hp → Prop) (l0 l1 l2 l3 l4 l5 l6 l7 : Option Value) (x : Int32), Wp 115 149 (l0 :: l1 :: l2 :: l3 :: l4 :: l5 :: l6 :: l7 :: ls) (.int x :: st) h Q ↔ Wp 115 151 (l0 :: l1 :: l2 :: l3 :: l4 :: l5 :: clr l6 :: some (.int x) :: ls) (st) h Q) ∧
  (∀ (ls : Lo) (st : List Value) (h : Hp) (Q : Option Value → Hp → Prop) (l0 l1 l2 l3 l4 l5 l6 : Option Value) (x : Int32), Wp 115 151 (l0 :: l1 :: l2 :: l3 :: l4 :: l5 :: l6 :: some (.int x) :: ls) (st) h Q ↔ Wp 115 153 (l0 :: l1 :: l2 :: l3 :: l4 :: l5 :: l6 :: some (.int x) :: ls) (.int x :: st) h Q) ∧
  (∀ (ls : Lo) (st : List Value) (h : Hp) (Q : Option Value → Hp → Prop) (l0 l1 : Option Value) (x : Int32), Wp 115 153 (l0 :: l1 :: some (.int x) :: ls) (st) h Q ↔ Wp 115 154 (l0 :: l1 :: some (.int x) :: ls) (.int x :: st) h Q) ∧
  (∀ (ls : Lo) (st : List Value) (h : Hp) (Q : Option Value → Hp → Prop) (x y : Int32), Wp 115 154 (ls) (.int y :: .int x :: st) h Q ↔ Br 115 246 157 ls st h Q (y ≤ x)) ∧
  (∀ (ls : Lo) (st : List Value) (h : Hp) (Q : Option Value → Hp → Prop)  (i : Nat), Wp 115 157 (some (.ref i) :: ls) (st) h Q ↔ Wp 115 158 (some (.ref i) :: ls) (.ref i :: st) h Q) ∧
  (∀ (ls : Lo) (st : List Value) (n sl : Nat) (C Z : Nat → Nat) (I : Nat → Nat → Int32) (L : Nat → Nat → Int64) (R : Nat → Nat → Nat) (Q : Option Value → Hp → Prop) (i : Nat), Wp 115 158 (ls) (.ref i :: st) (n, sl, C, Z, I, L, R) Q ↔ (C i = 11 ∧ Wp 115 161 (ls) (.ref (R i 6) :: st) (n, sl, C, Z, I, L, R) Q)) ∧
  (∀ (ls : Lo) (st : List Value) (h : Hp) (Q : Option Value → Hp → Prop), Wp 115 161 (ls) (st) h Q ↔ Wp 115 162 (ls) (.int (3) :: st) h Q) ∧
  (∀ (ls : Lo) (st : List Value) (h : Hp) (Q : Option Value → Hp → Prop) (l0 l1 l2 l3 l4 l5 : Option Value) (x : Int32), Wp 115 162 (l0 :: l1 :: l2 :: l3 :: l4 :: l5 :: some (.int x) :: ls) (st) h Q ↔ Wp 115 164 (l0 :: l1 :: l2 :: l3 :: l4 :: l5 :: some (.int x) :: ls) (.int x :: st) h Q) ∧
  (∀ (ls : Lo) (st : List Value) (h : Hp) (Q : Option Value → Hp → Prop) (x y : Int32), Wp 115 164 (ls) (.int y :: .int x :: st) h Q ↔ Wp 115 165 (ls) (.int (x * y) :: st) h Q) ∧
  (∀ (ls : Lo) (st : List Value) (h : Hp) (Q : Option Value → Hp → Prop) (l0 l1 l2 l3 l4 l5 l6 : Option Value) (x : Int32), Wp 115 165 (l0 :: l1 :: l2 :: l3 :: l4 :: l5 :: l6 :: some (.int x) :: ls) (st) h Q ↔ Wp 115 167 (l0 :: l1 :: l2 :: l3 :: l4 :: l5 :: l6 :: some (.int x) :: ls) (.int x :: st) h Q) ∧
  (∀ (ls : Lo) (st : List Value) (h : Hp) (Q : Option Value → Hp → Prop) (x y : Int32), Wp 115 167 (ls) (.int y :: .int x :: st) h Q ↔ Wp 115 168 (ls) (.int (x + y) :: st) h Q) ∧
  (∀ (ls : Lo) (st : List Value) (h : Hp) (Q : Option Value → Hp → Prop)  (i : Nat), Wp 115 168 (some (.ref i) :: ls) (st) h Q ↔ Wp 115 169 (some (.ref i) :: ls) (.ref i :: st) h Q) ∧
  (∀ (ls : Lo) (st : List Value) (n sl : Nat) (C Z : Nat → Nat) (I : Nat → Nat → Int32) (L : Nat → Nat → Int64) (R : Nat → Nat → Nat) (Q : Option Value → Hp → Prop) (i : Nat), Wp 115 169 (ls) (.ref i :: st) (n, sl, C, Z, I, L, R) Q ↔ (C i = 11 ∧ Wp 115 172 (ls) (.ref (R i 9) :: st) (n, sl, C, Z, I, L, R) Q)) ∧
  (∀ (ls : Lo) (st : List Value) (h : Hp) (Q : Option Value → Hp → Prop) (l0 l1 l2 l3 l4 l5 l6 : Option Value) (x : Int32), Wp 115 172 (l0 :: l1 :: l2 :: l3 :: l4 :: l5 :: l6 :: some (.int x) :: ls) (st) h Q ↔ Wp 115 174 (l0 :: l1 :: l2 :: l3 :: l4 :: l5 :: l6 :: some (.int x) :: ls) (.int x :: st) h Q) ∧
  (∀ (ls : Lo) (st : List Value) (n sl : Nat) (C Z : Nat → Nat) (I : Nat → Nat → Int32) (L : Nat → Nat → Int64) (R : Nat → Nat → Nat) (Q : Option Value → Hp → Prop) (i : Nat) (y : Int32), Wp 115 174 (ls) (.int y :: .ref i :: st) (n, sl, C, Z, I, L, R) Q ↔ ((inb y (Z i) = true ∧ C i = 21) ∧ Wp 115 175 (ls) (.int (I i (ix y)) :: st) (n, sl, C, Z, I, L, R) Q)) ∧
  (∀ (ls : Lo) (st : List Value) (n sl : Nat) (C Z : Nat → Nat) (I : Nat → Nat → Int32) (L : Nat → Nat → Int64) (R : Nat → Nat → Nat) (Q : Option Value → Hp → Prop) (i : Nat) (x y : Int32), Wp 115 175 (ls) (.int x :: .int y :: .ref i :: st) (n, sl, C, Z, I, L, R) Q ↔ ((inb y (Z i) = true ∧ C i = 21) ∧ Wp 115 176 (ls) (st) (n, sl, C, Z, u2 I i (ix y) x, L, R) Q)) ∧
  (∀ (ls : Lo) (st : List Value) (h : Hp) (Q : Option Value → Hp → Prop)  (i : Nat), Wp 115 176 (some (.ref i) :: ls) (st) h Q ↔ Wp 115 177 (some (.ref i) :: ls) (.ref i :: st) h Q) ∧
  (∀ (ls : Lo) (st : List Value) (n sl : Nat) (C Z : Nat → Nat) (I : Nat → Nat → Int32) (L : Nat → Nat → Int64) (R : Nat → Nat → Nat) (Q : Option Value → Hp → Prop) (i : Nat), Wp 115 177 (ls) (.ref i :: st) (n, sl, C, Z, I, L, R) Q ↔ (C i = 11 ∧ Wp 115 180 (ls) (.ref (R i 7) :: st) (n, sl, C, Z, I, L, R) Q)) ∧
  (∀ (ls : Lo) (st : List Value) (h : Hp) (Q : Option Value → Hp → Prop), Wp 115 180 (ls) (st) h Q ↔ Wp 115 181 (ls) (.int (3) :: st) h Q) ∧
  (∀ (ls : Lo) (st : List Value) (h : Hp) (Q : Option Value → Hp → Prop) (l0 l1 l2 l3 l4 l5 : Option Value) (x : Int32), Wp 115 181 (l0 :: l1 :: l2 :: l3 :: l4 :: l5 :: some (.int x) :: ls) (st) h Q ↔ Wp 115 183 (l0 :: l1 :: l2 :: l3 :: l4 :: l5 :: some (.int x) :: ls) (.int x :: st) h Q) ∧
  (∀ (ls : Lo) (st : List Value) (h : Hp) (Q : Option Value → Hp → Prop) (x y : Int32), Wp 115 183 (ls) (.int y :: .int x :: st) h Q ↔ Wp 115 184 (ls) (.int (x * y) :: st) h Q) ∧
  (∀ (ls : Lo) (st : List Value) (h : Hp) (Q : Option Value → Hp → Prop) (l0 l1 l2 l3 l4 l5 l6 : Option Value) (x : Int32), Wp 115 184 (l0 :: l1 :: l2 :: l3 :: l4 :: l5 :: l6 :: some (.int x) :: ls) (st) h Q ↔ Wp 115 186 (l0 :: l1 :: l2 :: l3 :: l4 :: l5 :: l6 :: some (.int x) :: ls) (.int x :: st) h Q) ∧
  (∀ (ls : Lo) (st : List Value) (h : Hp) (Q : Option Value → Hp → Prop) (x y : Int32), Wp 115 186 (ls) (.int y :: .int x :: st) h Q ↔ Wp 115 187 (ls) (.int (x + y) :: st) h Q) ∧
  (∀ (ls : Lo) (st : List Value) (h : Hp) (Q : Option Value → Hp → Prop)  (i : Nat), Wp 115 187 (some (.ref i) :: ls) (st) h Q ↔ Wp 115 188 (some (.ref i) :: ls) (.ref i :: st) h Q) ∧
  (∀ (ls : Lo) (st : List Value) (n sl : Nat) (C Z : Nat → Nat) (I : Nat → Nat → Int32) (L : Nat → Nat → Int64) (R : Nat → Nat → Nat) (Q : Option Value → Hp → Prop) (i : Nat), Wp 115 188 (ls) (.ref i :: st) (n, sl, C, Z, I, L, R) Q ↔ (C i = 11 ∧ Wp 115 191 (ls) (.ref (R i 10) :: st) (n, sl, C, Z, I, L, R) Q)) := ⟨by intro ls st h Q l0 l1 l2 l3 l4 l5 l6 l7 x; exact e_istore d115_149 rfl,
  by intro ls st h Q l0 l1 l2 l3 l4 l5 l6 x; exact e_iload d115_151 rfl,
  by intro ls st h Q l0 l1 x; exact e_iload_n d115_153 rfl,
  by intro ls st h Q x y; exact e_ic d115_154 (by decide) c_ge,
  by intro ls st h Q i; exact e_aload_n d115_157 rfl,
  by intro ls st n sl C Z I L R Q i; exact e_get (g := 10) (s := 6) (ty := 2) d115_158 rfl rfl (inG_ne (by decide)),
  by intro ls st h Q; exact e_iconst d115_161 rfl,
  by intro ls st h Q l0 l1 l2 l3 l4 l5 x; exact e_iload d115_162 rfl,
  by intro ls st h Q x y; exact e_imul d115_164,
  by intro ls st h Q l0 l1 l2 l3 l4 l5 l6 x; exact e_iload d115_165 rfl,
  by intro ls st h Q x y; exact e_iadd d115_167,
  by intro ls st h Q i; exact e_aload_n d115_168 rfl,
  by intro ls st n sl C Z I L R Q i; exact e_get (g := 10) (s := 9) (ty := 2) d115_169 rfl rfl (inG_ne (by decide)),
  by intro ls st h Q l0 l1 l2 l3 l4 l5 l6 x; exact e_iload d115_172 rfl,
  by intro ls st n sl C Z I L R Q i y; exact e_iald d115_174,
  by intro ls st n sl C Z I L R Q i x y; exact e_iast d115_175,
  by intro ls st h Q i; exact e_aload_n d115_176 rfl,
  by intro ls st n sl C Z I L R Q i; exact e_get (g := 10) (s := 7) (ty := 2) d115_177 rfl rfl (inG_ne (by decide)),
  by intro ls st h Q; exact e_iconst d115_180 rfl,
  by intro ls st h Q l0 l1 l2 l3 l4 l5 x; exact e_iload d115_181 rfl,
  by intro ls st h Q x y; exact e_imul d115_183,
  by intro ls st h Q l0 l1 l2 l3 l4 l5 l6 x; exact e_iload d115_184 rfl,
  by intro ls st h Q x y; exact e_iadd d115_186,
  by intro ls st h Q i; exact e_aload_n d115_187 rfl,
  by intro ls st n sl C Z I L R Q i; exact e_get (g := 10) (s := 10) (ty := 2) d115_188 rfl rfl (inG_ne (by decide))⟩
set_option maxRecDepth 20000 in
theorem S115_4 : (∀ (ls : Lo) (st : List Value) (h : Hp) (Q : Option Value → Hp → Prop) (l0 l1 l2 l3 l4 l5 l6 : Option Value) (x : Int32), Wp 115 191 (l0 :: l1 :: l2 :: l3 :: l4 :: l5 :: l6 :: some (.int x) :: ls) (st) h Q ↔ Wp 115 193 (l0 :: l1 :: l2 :: l3 :: l4 :: l5 :: l6 :: some (.int x) :: ls) (.int x :: st) h Q) ∧
  (∀ (ls : Lo) (st : List Value) (n sl : Nat) (C Z : Nat → Nat) (I : Nat → Nat → Int32) (L : Nat → Nat → Int64) (R : Nat → Nat → Nat) (Q : Option Value → Hp → Prop) (i : Nat) (y : Int32), Wp 115 193 (ls) (.int y :: .ref i :: st) (n, sl, C, Z, I, L, R) Q ↔ ((inb y (Z i) = true ∧ C i = 21) ∧ Wp 115 194 (ls) (.int (I i (ix y)) :: st) (n, sl, C, Z, I, L, R) Q)) ∧
  (∀ (ls : Lo) (st : List Value) (n sl : Nat) (C Z : Nat → Nat) (I : Nat → Nat → Int32) (L : Nat → Nat → Int64) (R : Nat → Nat → Nat) (Q : Option Value → Hp → Prop) (i : Nat) (x y : Int32), Wp 115 194 (ls) (.int x :: .int y :: .ref i :: st) (n, sl, C, Z, I, L, R) Q ↔ ((inb y (Z i) = true ∧ C i = 21) ∧ Wp 115 195 (ls) (st) (n, sl, C, Z, u2 I i (ix y) x, L, R) Q)) ∧
  (∀ (ls : Lo) (st : List Value) (h : Hp) (Q : Option Value → Hp → Prop), Wp 115 195 (ls) (st) h Q ↔ Wp 115 196 (ls) (.int (0) :: st) h Q) ∧
  (∀ (ls : Lo) (st : List Value) (h : Hp) (Q : Option Value → Hp → Prop) (l0 l1 l2 l3 l4 l5 l6 l7 l8 : Option Value) (x : Int32), Wp 115 196 (l0 :: l1 :: l2 :: l3 :: l4 :: l5 :: l6 :: l7 :: l8 :: ls) (.int x :: st) h Q ↔ Wp 115 198 (l0 :: l1 :: l2 :: l3 :: l4 :: l5 :: l6 :: clr l7 :: some (.int x) :: ls) (st) h Q) ∧
  (∀ (ls : Lo) (st : List Value) (h : Hp) (Q : Option Value → Hp → Prop) (l0 l1 l2 l3 l4 l5 l6 l7 : Option Value) (x : Int32), Wp 115 198 (l0 :: l1 :: l2 :: l3 :: l4 :: l5 :: l6 :: l7 :: some (.int x) :: ls) (st) h Q ↔ Wp 115 200 (l0 :: l1 :: l2 :: l3 :: l4 :: l5 :: l6 :: l7 :: some (.int x) :: ls) (.int x :: st) h Q) ∧
  (∀ (ls : Lo) (st : List Value) (h : Hp) (Q : Option Value → Hp → Prop) (l0 l1 : Option Value) (x : Int32), Wp 115 200 (l0 :: l1 :: some (.int x) :: ls) (st) h Q ↔ Wp 115 201 (l0 :: l1 :: some (.int x) :: ls) (.int x :: st) h Q) ∧
  (∀ (ls : Lo) (st : List Value) (h : Hp) (Q : Option Value → Hp → Prop) (x y : Int32), Wp 115 201 (ls) (.int y :: .int x :: st) h Q ↔ Br 115 240 204 ls st h Q (y ≤ x)) ∧
  (∀ (ls : Lo) (st : List Value) (h : Hp) (Q : Option Value → Hp → Prop)  (i : Nat), Wp 115 204 (some (.ref i) :: ls) (st) h Q ↔ Wp 115 205 (some (.ref i) :: ls) (.ref i :: st) h Q) ∧
  (∀ (ls : Lo) (st : List Value) (n sl : Nat) (C Z : Nat → Nat) (I : Nat → Nat → Int32) (L : Nat → Nat → Int64) (R : Nat → Nat → Nat) (Q : Option Value → Hp → Prop) (i : Nat), Wp 115 205 (ls) (.ref i :: st) (n, sl, C, Z, I, L, R) Q ↔ (C i = 11 ∧ Wp 115 208 (ls) (.ref (R i 5) :: st) (n, sl, C, Z, I, L, R) Q)) ∧
  (∀ (ls : Lo) (st : List Value) (h : Hp) (Q : Option Value → Hp → Prop), Wp 115 208 (ls) (st) h Q ↔ Wp 115 210 (ls) (.int (9) :: st) h Q) ∧
  (∀ (ls : Lo) (st : List Value) (h : Hp) (Q : Option Value → Hp → Prop) (l0 l1 l2 l3 l4 l5 : Option Value) (x : Int32), Wp 115 210 (l0 :: l1 :: l2 :: l3 :: l4 :: l5 :: some (.int x) :: ls) (st) h Q ↔ Wp 115 212 (l0 :: l1 :: l2 :: l3 :: l4 :: l5 :: some (.int x) :: ls) (.int x :: st) h Q) ∧
  (∀ (ls : Lo) (st : List Value) (h : Hp) (Q : Option Value → Hp → Prop) (x y : Int32), Wp 115 212 (ls) (.int y :: .int x :: st) h Q ↔ Wp 115 213 (ls) (.int (x * y) :: st) h Q) ∧
  (∀ (ls : Lo) (st : List Value) (h : Hp) (Q : Option Value → Hp → Prop), Wp 115 213 (ls) (st) h Q ↔ Wp 115 214 (ls) (.int (3) :: st) h Q) ∧
  (∀ (ls : Lo) (st : List Value) (h : Hp) (Q : Option Value → Hp → Prop) (l0 l1 l2 l3 l4 l5 l6 : Option Value) (x : Int32), Wp 115 214 (l0 :: l1 :: l2 :: l3 :: l4 :: l5 :: l6 :: some (.int x) :: ls) (st) h Q ↔ Wp 115 216 (l0 :: l1 :: l2 :: l3 :: l4 :: l5 :: l6 :: some (.int x) :: ls) (.int x :: st) h Q) ∧
  (∀ (ls : Lo) (st : List Value) (h : Hp) (Q : Option Value → Hp → Prop) (x y : Int32), Wp 115 216 (ls) (.int y :: .int x :: st) h Q ↔ Wp 115 217 (ls) (.int (x * y) :: st) h Q) ∧
  (∀ (ls : Lo) (st : List Value) (h : Hp) (Q : Option Value → Hp → Prop) (x y : Int32), Wp 115 217 (ls) (.int y :: .int x :: st) h Q ↔ Wp 115 218 (ls) (.int (x + y) :: st) h Q) ∧
  (∀ (ls : Lo) (st : List Value) (h : Hp) (Q : Option Value → Hp → Prop) (l0 l1 l2 l3 l4 l5 l6 l7 : Option Value) (x : Int32), Wp 115 218 (l0 :: l1 :: l2 :: l3 :: l4 :: l5 :: l6 :: l7 :: some (.int x) :: ls) (st) h Q ↔ Wp 115 220 (l0 :: l1 :: l2 :: l3 :: l4 :: l5 :: l6 :: l7 :: some (.int x) :: ls) (.int x :: st) h Q) ∧
  (∀ (ls : Lo) (st : List Value) (h : Hp) (Q : Option Value → Hp → Prop) (x y : Int32), Wp 115 220 (ls) (.int y :: .int x :: st) h Q ↔ Wp 115 221 (ls) (.int (x + y) :: st) h Q) ∧
  (∀ (ls : Lo) (st : List Value) (h : Hp) (Q : Option Value → Hp → Prop)  (i : Nat), Wp 115 221 (some (.ref i) :: ls) (st) h Q ↔ Wp 115 222 (some (.ref i) :: ls) (.ref i :: st) h Q) ∧
  (∀ (ls : Lo) (st : List Value) (n sl : Nat) (C Z : Nat → Nat) (I : Nat → Nat → Int32) (L : Nat → Nat → Int64) (R : Nat → Nat → Nat) (Q : Option Value → Hp → Prop) (i : Nat), Wp 115 222 (ls) (.ref i :: st) (n, sl, C, Z, I, L, R) Q ↔ (C i = 11 ∧ Wp 115 225 (ls) (.ref (R i 8) :: st) (n, sl, C, Z, I, L, R) Q)) ∧
  (∀ (ls : Lo) (st : List Value) (h : Hp) (Q : Option Value → Hp → Prop), Wp 115 225 (ls) (st) h Q ↔ Wp 115 226 (ls) (.int (3) :: st) h Q) ∧
  (∀ (ls : Lo) (st : List Value) (h : Hp) (Q : Option Value → Hp → Prop) (l0 l1 l2 l3 l4 l5 l6 : Option Value) (x : Int32), Wp 115 226 (l0 :: l1 :: l2 :: l3 :: l4 :: l5 :: l6 :: some (.int x) :: ls) (st) h Q ↔ Wp 115 228 (l0 :: l1 :: l2 :: l3 :: l4 :: l5 :: l6 :: some (.int x) :: ls) (.int x :: st) h Q) ∧
  (∀ (ls : Lo) (st : List Value) (h : Hp) (Q : Option Value → Hp → Prop) (x y : Int32), Wp 115 228 (ls) (.int y :: .int x :: st) h Q ↔ Wp 115 229 (ls) (.int (x * y) :: st) h Q) ∧
  (∀ (ls : Lo) (st : List Value) (h : Hp) (Q : Option Value → Hp → Prop) (l0 l1 l2 l3 l4 l5 l6 l7 : Option Value) (x : Int32), Wp 115 229 (l0 :: l1 :: l2 :: l3 :: l4 :: l5 :: l6 :: l7 :: some (.int x) :: ls) (st) h Q ↔ Wp 115 231 (l0 :: l1 :: l2 :: l3 :: l4 :: l5 :: l6 :: l7 :: some (.int x) :: ls) (.int x :: st) h Q) := ⟨by intro ls st h Q l0 l1 l2 l3 l4 l5 l6 x; exact e_iload d115_191 rfl,
  by intro ls st n sl C Z I L R Q i y; exact e_iald d115_193,
  by intro ls st n sl C Z I L R Q i x y; exact e_iast d115_194,
  by intro ls st h Q; exact e_iconst d115_195 rfl,
  by intro ls st h Q l0 l1 l2 l3 l4 l5 l6 l7 l8 x; exact e_istore d115_196 rfl,
  by intro ls st h Q l0 l1 l2 l3 l4 l5 l6 l7 x; exact e_iload d115_198 rfl,
  by intro ls st h Q l0 l1 x; exact e_iload_n d115_200 rfl,
  by intro ls st h Q x y; exact e_ic d115_201 (by decide) c_ge,
  by intro ls st h Q i; exact e_aload_n d115_204 rfl,
  by intro ls st n sl C Z I L R Q i; exact e_get (g := 10) (s := 5) (ty := 2) d115_205 rfl rfl (inG_ne (by decide)),
  by intro ls st h Q; exact e_bipush d115_208 rfl,
  by intro ls st h Q l0 l1 l2 l3 l4 l5 x; exact e_iload d115_210 rfl,
  by intro ls st h Q x y; exact e_imul d115_212,
  by intro ls st h Q; exact e_iconst d115_213 rfl,
  by intro ls st h Q l0 l1 l2 l3 l4 l5 l6 x; exact e_iload d115_214 rfl,
  by intro ls st h Q x y; exact e_imul d115_216,
  by intro ls st h Q x y; exact e_iadd d115_217,
  by intro ls st h Q l0 l1 l2 l3 l4 l5 l6 l7 x; exact e_iload d115_218 rfl,
  by intro ls st h Q x y; exact e_iadd d115_220,
  by intro ls st h Q i; exact e_aload_n d115_221 rfl,
  by intro ls st n sl C Z I L R Q i; exact e_get (g := 10) (s := 8) (ty := 2) d115_222 rfl rfl (inG_ne (by decide)),
  by intro ls st h Q; exact e_iconst d115_225 rfl,
  by intro ls st h Q l0 l1 l2 l3 l4 l5 l6 x; exact e_iload d115_226 rfl,
  by intro ls st h Q x y; exact e_imul d115_228,
  by intro ls st h Q l0 l1 l2 l3 l4 l5 l6 l7 x; exact e_iload d115_229 rfl⟩
set_option maxRecDepth 20000 in
theorem S115_5 : (∀ (ls : Lo) (st : List Value) (h : Hp) (Q : Option Value → Hp → Prop) (x y : Int32), Wp 115 231 (ls) (.int y :: .int x :: st) h Q ↔ Wp 115 232 (ls) (.int (x + y) :: st) h Q) ∧
  (∀ (ls : Lo) (st : List Value) (n sl : Nat) (C Z : Nat → Nat) (I : Nat → Nat → Int32) (L : Nat → Nat → Int64) (R : Nat → Nat → Nat) (Q : Option Value → Hp → Prop) (i : Nat) (y : Int32), Wp 115 232 (ls) (.int y :: .ref i :: st) (n, sl, C, Z, I, L, R) Q ↔ ((inb y (Z i) = true ∧ C i = 21) ∧ Wp 115 233 (ls) (.int (I i (ix y)) :: st) (n, sl, C, Z, I, L, R) Q)) ∧
  (∀ (ls : Lo) (st : List Value) (n sl : Nat) (C Z : Nat → Nat) (I : Nat → Nat → Int32) (L : Nat → Nat → Int64) (R : Nat → Nat → Nat) (Q : Option Value → Hp → Prop) (i : Nat) (x y : Int32), Wp 115 233 (ls) (.int x :: .int y :: .ref i :: st) (n, sl, C, Z, I, L, R) Q ↔ ((inb y (Z i) = true ∧ C i = 21) ∧ Wp 115 234 (ls) (st) (n, sl, C, Z, u2 I i (ix y) x, L, R) Q)) ∧
  (∀ (ls : Lo) (st : List Value) (h : Hp) (Q : Option Value → Hp → Prop) (l0 l1 l2 l3 l4 l5 l6 l7 : Option Value) (x : Int32), Wp 115 234 (l0 :: l1 :: l2 :: l3 :: l4 :: l5 :: l6 :: l7 :: some (.int x) :: ls) (st) h Q ↔ Wp 115 237 (l0 :: l1 :: l2 :: l3 :: l4 :: l5 :: l6 :: clr l7 :: some (.int (x + (1))) :: ls) (st) h Q) ∧
  (∀ (ls : Lo) (st : List Value) (h : Hp) (Q : Option Value → Hp → Prop), Wp 115 237 (ls) (st) h Q ↔ Wp 115 198 (ls) (st) h Q) ∧
  (∀ (ls : Lo) (st : List Value) (h : Hp) (Q : Option Value → Hp → Prop) (l0 l1 l2 l3 l4 l5 l6 : Option Value) (x : Int32), Wp 115 240 (l0 :: l1 :: l2 :: l3 :: l4 :: l5 :: l6 :: some (.int x) :: ls) (st) h Q ↔ Wp 115 243 (l0 :: l1 :: l2 :: l3 :: l4 :: l5 :: clr l6 :: some (.int (x + (1))) :: ls) (st) h Q) ∧
  (∀ (ls : Lo) (st : List Value) (h : Hp) (Q : Option Value → Hp → Prop), Wp 115 243 (ls) (st) h Q ↔ Wp 115 151 (ls) (st) h Q) ∧
  (∀ (ls : Lo) (st : List Value) (h : Hp) (Q : Option Value → Hp → Prop) (l0 l1 l2 l3 l4 l5 : Option Value) (x : Int32), Wp 115 246 (l0 :: l1 :: l2 :: l3 :: l4 :: l5 :: some (.int x) :: ls) (st) h Q ↔ Wp 115 248 (l0 :: l1 :: l2 :: l3 :: l4 :: l5 :: some (.int x) :: ls) (.int x :: st) h Q) ∧
  (∀ (ls : Lo) (h : Hp) (Q : Option Value → Hp → Prop) (x : Int32), Wp 115 248 (ls) ([.int x]) h Q ↔ Q (some (.int x)) h) := ⟨by intro ls st h Q x y; exact e_iadd d115_231,
  by intro ls st n sl C Z I L R Q i y; exact e_iald d115_232,
  by intro ls st n sl C Z I L R Q i x y; exact e_iast d115_233,
  by intro ls st h Q l0 l1 l2 l3 l4 l5 l6 l7 x; exact e_iinc d115_234 rfl rfl rfl,
  by intro ls st h Q; exact e_goto d115_237 (by decide),
  by intro ls st h Q l0 l1 l2 l3 l4 l5 l6 x; exact e_iinc d115_240 rfl rfl rfl,
  by intro ls st h Q; exact e_goto d115_243 (by decide),
  by intro ls st h Q l0 l1 l2 l3 l4 l5 x; exact e_iload d115_246 rfl,
  by intros; exact e_rI (p := True) d115_248 rfl⟩
theorem d116_0 : decode (byt 116) 0 = .ok (.aload_n 0, 1) := by decide +kernel
theorem d116_1 : decode (byt 116) 1 = .ok (.iload_n 1, 1) := by decide +kernel
theorem d116_2 : decode (byt 116) 2 = .ok (.invokevirtual 105, 3) := by decide +kernel
theorem d116_5 : decode (byt 116) 5 = .ok (.ifCond .eq 11, 3) := by decide +kernel
theorem d116_8 : decode (byt 116) 8 = .ok (.aload_n 0, 1) := by decide +kernel
theorem d116_9 : decode (byt 116) 9 = .ok (.iload_n 2, 1) := by decide +kernel
theorem d116_10 : decode (byt 116) 10 = .ok (.invokevirtual 105, 3) := by decide +kernel
theorem d116_13 : decode (byt 116) 13 = .ok (.ifCond .ne 6, 3) := by decide +kernel
theorem d116_16 : decode (byt 116) 16 = .ok (.bipush (-2), 2) := by decide +kernel
theorem d116_18 : decode (byt 116) 18 = .ok (.ireturn, 1) := by decide +kernel
theorem d116_19 : decode (byt 116) 19 = .ok (.aload_n 0, 1) := by decide +kernel
theorem d116_20 : decode (byt 116) 20 = .ok (.getfield 7, 3) := by decide +kernel
theorem d116_23 : decode (byt 116) 23 = .ok (.iload_n 1, 1) := by decide +kernel
theorem d116_24 : decode (byt 116) 24 = .ok (.iaload, 1) := by decide +kernel
theorem d116_25 : decode (byt 116) 25 = .ok (.iconst 1, 1) := by decide +kernel
theorem d116_26 : decode (byt 116) 26 = .ok (.if_icmp .eq 28, 3) := by decide +kernel
theorem d116_29 : decode (byt 116) 29 = .ok (.aload_n 0, 1) := by decide +kernel
theorem d116_30 : decode (byt 116) 30 = .ok (.getfield 7, 3) := by decide +kernel
theorem d116_33 : decode (byt 116) 33 = .ok (.iload_n 2, 1) := by decide +kernel
theorem d116_34 : decode (byt 116) 34 = .ok (.iaload, 1) := by decide +kernel
theorem d116_35 : decode (byt 116) 35 = .ok (.iconst 1, 1) := by decide +kernel
theorem d116_36 : decode (byt 116) 36 = .ok (.if_icmp .eq 18, 3) := by decide +kernel
theorem d116_39 : decode (byt 116) 39 = .ok (.aload_n 0, 1) := by decide +kernel
theorem d116_40 : decode (byt 116) 40 = .ok (.getfield 16, 3) := by decide +kernel
theorem d116_43 : decode (byt 116) 43 = .ok (.iload_n 1, 1) := by decide +kernel
theorem d116_44 : decode (byt 116) 44 = .ok (.iaload, 1) := by decide +kernel
theorem d116_45 : decode (byt 116) 45 = .ok (.aload_n 0, 1) := by decide +kernel
theorem d116_46 : decode (byt 116) 46 = .ok (.getfield 16, 3) := by decide +kernel
theorem d116_49 : decode (byt 116) 49 = .ok (.iload_n 2, 1) := by decide +kernel
theorem d116_50 : decode (byt 116) 50 = .ok (.iaload, 1) := by decide +kernel
theorem d116_51 : decode (byt 116) 51 = .ok (.if_icmp .eq 6, 3) := by decide +kernel
theorem d116_54 : decode (byt 116) 54 = .ok (.bipush (-3), 2) := by decide +kernel
theorem d116_56 : decode (byt 116) 56 = .ok (.ireturn, 1) := by decide +kernel
theorem d116_57 : decode (byt 116) 57 = .ok (.aload_n 0, 1) := by decide +kernel
theorem d116_58 : decode (byt 116) 58 = .ok (.getfield 13, 3) := by decide +kernel
theorem d116_61 : decode (byt 116) 61 = .ok (.iload_n 1, 1) := by decide +kernel
theorem d116_62 : decode (byt 116) 62 = .ok (.iaload, 1) := by decide +kernel
theorem d116_63 : decode (byt 116) 63 = .ok (.istore 4, 2) := by decide +kernel
theorem d116_65 : decode (byt 116) 65 = .ok (.iload 4, 2) := by decide +kernel
theorem d116_67 : decode (byt 116) 67 = .ok (.aload_n 0, 1) := by decide +kernel
theorem d116_68 : decode (byt 116) 68 = .ok (.getfield 13, 3) := by decide +kernel
theorem d116_71 : decode (byt 116) 71 = .ok (.iload_n 2, 1) := by decide +kernel
theorem d116_72 : decode (byt 116) 72 = .ok (.iaload, 1) := by decide +kernel
theorem d116_73 : decode (byt 116) 73 = .ok (.iadd, 1) := by decide +kernel
theorem d116_74 : decode (byt 116) 74 = .ok (.istore 5, 2) := by decide +kernel
theorem d116_76 : decode (byt 116) 76 = .ok (.iload 5, 2) := by decide +kernel
theorem d116_78 : decode (byt 116) 78 = .ok (.iconst 3, 1) := by decide +kernel
theorem d116_79 : decode (byt 116) 79 = .ok (.if_icmp .le 6, 3) := by decide +kernel
theorem d116_82 : decode (byt 116) 82 = .ok (.bipush (-4), 2) := by decide +kernel
theorem d116_84 : decode (byt 116) 84 = .ok (.ireturn, 1) := by decide +kernel
theorem d116_85 : decode (byt 116) 85 = .ok (.iconst 0, 1) := by decide +kernel
theorem d116_86 : decode (byt 116) 86 = .ok (.istore 6, 2) := by decide +kernel
theorem d116_88 : decode (byt 116) 88 = .ok (.iload 6, 2) := by decide +kernel
theorem d116_90 : decode (byt 116) 90 = .ok (.iload 5, 2) := by decide +kernel
theorem d116_92 : decode (byt 116) 92 = .ok (.if_icmp .ge 291, 3) := by decide +kernel
theorem d116_95 : decode (byt 116) 95 = .ok (.iload 6, 2) := by decide +kernel
theorem d116_97 : decode (byt 116) 97 = .ok (.iload 4, 2) := by decide +kernel
theorem d116_99 : decode (byt 116) 99 = .ok (.if_icmp .ge 7, 3) := by decide +kernel
theorem d116_102 : decode (byt 116) 102 = .ok (.iconst 1, 1) := by decide +kernel
theorem d116_103 : decode (byt 116) 103 = .ok (.goto 4, 3) := by decide +kernel
theorem d116_106 : decode (byt 116) 106 = .ok (.iconst 0, 1) := by decide +kernel
theorem d116_107 : decode (byt 116) 107 = .ok (.istore 7, 2) := by decide +kernel
theorem d116_109 : decode (byt 116) 109 = .ok (.aload_n 0, 1) := by decide +kernel
theorem d116_110 : decode (byt 116) 110 = .ok (.getfield 34, 3) := by decide +kernel
theorem d116_113 : decode (byt 116) 113 = .ok (.iload 6, 2) := by decide +kernel
theorem d116_115 : decode (byt 116) 115 = .ok (.iload 7, 2) := by decide +kernel
theorem d116_117 : decode (byt 116) 117 = .ok (.ifCond .eq 17, 3) := by decide +kernel
theorem d116_120 : decode (byt 116) 120 = .ok (.aload_n 0, 1) := by decide +kernel
theorem d116_121 : decode (byt 116) 121 = .ok (.getfield 25, 3) := by decide +kernel
theorem d116_124 : decode (byt 116) 124 = .ok (.iconst 3, 1) := by decide +kernel
theorem d116_125 : decode (byt 116) 125 = .ok (.iload_n 1, 1) := by decide +kernel
theorem d116_126 : decode (byt 116) 126 = .ok (.imul, 1) := by decide +kernel
theorem d116_127 : decode (byt 116) 127 = .ok (.iload 6, 2) := by decide +kernel
theorem d116_129 : decode (byt 116) 129 = .ok (.iadd, 1) := by decide +kernel
theorem d116_130 : decode (byt 116) 130 = .ok (.iaload, 1) := by decide +kernel
theorem d116_131 : decode (byt 116) 131 = .ok (.goto 45, 3) := by decide +kernel
theorem d116_134 : decode (byt 116) 134 = .ok (.iload_n 3, 1) := by decide +kernel
theorem d116_135 : decode (byt 116) 135 = .ok (.ifCond .eq 27, 3) := by decide +kernel
theorem d116_138 : decode (byt 116) 138 = .ok (.aload_n 0, 1) := by decide +kernel
theorem d116_139 : decode (byt 116) 139 = .ok (.getfield 25, 3) := by decide +kernel
theorem d116_142 : decode (byt 116) 142 = .ok (.iconst 3, 1) := by decide +kernel
theorem d116_143 : decode (byt 116) 143 = .ok (.iload_n 2, 1) := by decide +kernel
theorem d116_144 : decode (byt 116) 144 = .ok (.imul, 1) := by decide +kernel
theorem d116_145 : decode (byt 116) 145 = .ok (.iload 6, 2) := by decide +kernel
theorem d116_147 : decode (byt 116) 147 = .ok (.iadd, 1) := by decide +kernel
theorem d116_148 : decode (byt 116) 148 = .ok (.iload 4, 2) := by decide +kernel
theorem d116_150 : decode (byt 116) 150 = .ok (.isub, 1) := by decide +kernel
theorem d116_151 : decode (byt 116) 151 = .ok (.iaload, 1) := by decide +kernel
theorem d116_152 : decode (byt 116) 152 = .ok (.aload_n 0, 1) := by decide +kernel
theorem d116_153 : decode (byt 116) 153 = .ok (.getfield 19, 3) := by decide +kernel
theorem d116_156 : decode (byt 116) 156 = .ok (.iload_n 1, 1) := by decide +kernel
theorem d116_157 : decode (byt 116) 157 = .ok (.iaload, 1) := by decide +kernel
theorem d116_158 : decode (byt 116) 158 = .ok (.imul, 1) := by decide +kernel
theorem d116_159 : decode (byt 116) 159 = .ok (.goto 17, 3) := by decide +kernel
theorem d116_162 : decode (byt 116) 162 = .ok (.aload_n 0, 1) := by decide +kernel
theorem d116_163 : decode (byt 116) 163 = .ok (.getfield 25, 3) := by decide +kernel
theorem d116_166 : decode (byt 116) 166 = .ok (.iconst 3, 1) := by decide +kernel
theorem d116_167 : decode (byt 116) 167 = .ok (.iload_n 2, 1) := by decide +kernel
theorem d116_168 : decode (byt 116) 168 = .ok (.imul, 1) := by decide +kernel
theorem d116_169 : decode (byt 116) 169 = .ok (.iload 6, 2) := by decide +kernel
theorem d116_171 : decode (byt 116) 171 = .ok (.iadd, 1) := by decide +kernel
theorem d116_172 : decode (byt 116) 172 = .ok (.iload 4, 2) := by decide +kernel
theorem d116_174 : decode (byt 116) 174 = .ok (.isub, 1) := by decide +kernel
theorem d116_175 : decode (byt 116) 175 = .ok (.iaload, 1) := by decide +kernel
theorem d116_176 : decode (byt 116) 176 = .ok (.iastore, 1) := by decide +kernel
theorem d116_177 : decode (byt 116) 177 = .ok (.aload_n 0, 1) := by decide +kernel
theorem d116_178 : decode (byt 116) 178 = .ok (.getfield 37, 3) := by decide +kernel
theorem d116_181 : decode (byt 116) 181 = .ok (.iload 6, 2) := by decide +kernel
theorem d116_183 : decode (byt 116) 183 = .ok (.iload 7, 2) := by decide +kernel
theorem d116_185 : decode (byt 116) 185 = .ok (.ifCond .ne 20, 3) := by decide +kernel
theorem d116_188 : decode (byt 116) 188 = .ok (.aload_n 0, 1) := by decide +kernel
theorem d116_189 : decode (byt 116) 189 = .ok (.getfield 28, 3) := by decide +kernel
theorem d116_192 : decode (byt 116) 192 = .ok (.iconst 3, 1) := by decide +kernel
theorem d116_193 : decode (byt 116) 193 = .ok (.iload_n 2, 1) := by decide +kernel
theorem d116_194 : decode (byt 116) 194 = .ok (.imul, 1) := by decide +kernel
theorem d116_195 : decode (byt 116) 195 = .ok (.iload 6, 2) := by decide +kernel
theorem d116_197 : decode (byt 116) 197 = .ok (.iadd, 1) := by decide +kernel
theorem d116_198 : decode (byt 116) 198 = .ok (.iload 4, 2) := by decide +kernel
theorem d116_200 : decode (byt 116) 200 = .ok (.isub, 1) := by decide +kernel
theorem d116_201 : decode (byt 116) 201 = .ok (.iaload, 1) := by decide +kernel
theorem d116_202 : decode (byt 116) 202 = .ok (.goto 39, 3) := by decide +kernel
theorem d116_205 : decode (byt 116) 205 = .ok (.iload_n 3, 1) := by decide +kernel
theorem d116_206 : decode (byt 116) 206 = .ok (.ifCond .eq 24, 3) := by decide +kernel
theorem d116_209 : decode (byt 116) 209 = .ok (.aload_n 0, 1) := by decide +kernel
theorem d116_210 : decode (byt 116) 210 = .ok (.getfield 19, 3) := by decide +kernel
theorem d116_213 : decode (byt 116) 213 = .ok (.iload_n 2, 1) := by decide +kernel
theorem d116_214 : decode (byt 116) 214 = .ok (.iaload, 1) := by decide +kernel
theorem d116_215 : decode (byt 116) 215 = .ok (.aload_n 0, 1) := by decide +kernel
theorem d116_216 : decode (byt 116) 216 = .ok (.getfield 28, 3) := by decide +kernel
theorem d116_219 : decode (byt 116) 219 = .ok (.iconst 3, 1) := by decide +kernel
theorem d116_220 : decode (byt 116) 220 = .ok (.iload_n 1, 1) := by decide +kernel
theorem d116_221 : decode (byt 116) 221 = .ok (.imul, 1) := by decide +kernel
theorem d116_222 : decode (byt 116) 222 = .ok (.iload 6, 2) := by decide +kernel
theorem d116_224 : decode (byt 116) 224 = .ok (.iadd, 1) := by decide +kernel
theorem d116_225 : decode (byt 116) 225 = .ok (.iaload, 1) := by decide +kernel
theorem d116_226 : decode (byt 116) 226 = .ok (.imul, 1) := by decide +kernel
theorem d116_227 : decode (byt 116) 227 = .ok (.goto 14, 3) := by decide +kernel
theorem d116_230 : decode (byt 116) 230 = .ok (.aload_n 0, 1) := by decide +kernel
theorem d116_231 : decode (byt 116) 231 = .ok (.getfield 28, 3) := by decide +kernel
theorem d116_234 : decode (byt 116) 234 = .ok (.iconst 3, 1) := by decide +kernel
theorem d116_235 : decode (byt 116) 235 = .ok (.iload_n 1, 1) := by decide +kernel
theorem d116_236 : decode (byt 116) 236 = .ok (.imul, 1) := by decide +kernel
theorem d116_237 : decode (byt 116) 237 = .ok (.iload 6, 2) := by decide +kernel
theorem d116_239 : decode (byt 116) 239 = .ok (.iadd, 1) := by decide +kernel
theorem d116_240 : decode (byt 116) 240 = .ok (.iaload, 1) := by decide +kernel
theorem d116_241 : decode (byt 116) 241 = .ok (.iastore, 1) := by decide +kernel
theorem d116_242 : decode (byt 116) 242 = .ok (.iconst 0, 1) := by decide +kernel
theorem d116_243 : decode (byt 116) 243 = .ok (.istore 8, 2) := by decide +kernel
theorem d116_245 : decode (byt 116) 245 = .ok (.iload 8, 2) := by decide +kernel
theorem d116_247 : decode (byt 116) 247 = .ok (.iload 5, 2) := by decide +kernel
theorem d116_249 : decode (byt 116) 249 = .ok (.if_icmp .ge 128, 3) := by decide +kernel
theorem d116_252 : decode (byt 116) 252 = .ok (.iconst 0, 1) := by decide +kernel
theorem d116_253 : decode (byt 116) 253 = .ok (.istore 9, 2) := by decide +kernel
theorem d116_255 : decode (byt 116) 255 = .ok (.iload 7, 2) := by decide +kernel
theorem d116_257 : decode (byt 116) 257 = .ok (.ifCond .eq 24, 3) := by decide +kernel
theorem d116_260 : decode (byt 116) 260 = .ok (.iload 8, 2) := by decide +kernel
theorem d116_262 : decode (byt 116) 262 = .ok (.iload 4, 2) := by decide +kernel
theorem d116_264 : decode (byt 116) 264 = .ok (.if_icmp .ge 17, 3) := by decide +kernel
theorem d116_267 : decode (byt 116) 267 = .ok (.aload_n 0, 1) := by decide +kernel
theorem d116_268 : decode (byt 116) 268 = .ok (.iload_n 1, 1) := by decide +kernel
theorem d116_269 : decode (byt 116) 269 = .ok (.iload 6, 2) := by decide +kernel
theorem d116_271 : decode (byt 116) 271 = .ok (.iload 8, 2) := by decide +kernel
theorem d116_273 : decode (byt 116) 273 = .ok (.invokevirtual 102, 3) := by decide +kernel
theorem d116_276 : decode (byt 116) 276 = .ok (.istore 9, 2) := by decide +kernel
theorem d116_278 : decode (byt 116) 278 = .ok (.goto 79, 3) := by decide +kernel
theorem d116_281 : decode (byt 116) 281 = .ok (.iload 7, 2) := by decide +kernel
theorem d116_283 : decode (byt 116) 283 = .ok (.ifCond .ne 30, 3) := by decide +kernel
theorem d116_286 : decode (byt 116) 286 = .ok (.iload 8, 2) := by decide +kernel
theorem d116_288 : decode (byt 116) 288 = .ok (.iload 4, 2) := by decide +kernel
theorem d116_290 : decode (byt 116) 290 = .ok (.if_icmp .lt 23, 3) := by decide +kernel
theorem d116_293 : decode (byt 116) 293 = .ok (.aload_n 0, 1) := by decide +kernel
theorem d116_294 : decode (byt 116) 294 = .ok (.iload_n 2, 1) := by decide +kernel
theorem d116_295 : decode (byt 116) 295 = .ok (.iload 6, 2) := by decide +kernel
theorem d116_297 : decode (byt 116) 297 = .ok (.iload 4, 2) := by decide +kernel
theorem d116_299 : decode (byt 116) 299 = .ok (.isub, 1) := by decide +kernel
theorem d116_300 : decode (byt 116) 300 = .ok (.iload 8, 2) := by decide +kernel
theorem d116_302 : decode (byt 116) 302 = .ok (.iload 4, 2) := by decide +kernel
theorem d116_304 : decode (byt 116) 304 = .ok (.isub, 1) := by decide +kernel
theorem d116_305 : decode (byt 116) 305 = .ok (.invokevirtual 102, 3) := by decide +kernel
theorem d116_308 : decode (byt 116) 308 = .ok (.istore 9, 2) := by decide +kernel
theorem d116_310 : decode (byt 116) 310 = .ok (.goto 47, 3) := by decide +kernel
theorem d116_313 : decode (byt 116) 313 = .ok (.iload 7, 2) := by decide +kernel
theorem d116_315 : decode (byt 116) 315 = .ok (.ifCond .ne 42, 3) := by decide +kernel
theorem d116_318 : decode (byt 116) 318 = .ok (.iload_n 3, 1) := by decide +kernel
theorem d116_319 : decode (byt 116) 319 = .ok (.ifCond .eq 38, 3) := by decide +kernel
theorem d116_322 : decode (byt 116) 322 = .ok (.aload_n 0, 1) := by decide +kernel
theorem d116_323 : decode (byt 116) 323 = .ok (.getfield 16, 3) := by decide +kernel
theorem d116_326 : decode (byt 116) 326 = .ok (.iload_n 1, 1) := by decide +kernel
theorem d116_327 : decode (byt 116) 327 = .ok (.iaload, 1) := by decide +kernel
theorem d116_328 : decode (byt 116) 328 = .ok (.aload_n 0, 1) := by decide +kernel
theorem d116_329 : decode (byt 116) 329 = .ok (.getfield 25, 3) := by decide +kernel
theorem d116_332 : decode (byt 116) 332 = .ok (.iconst 3, 1) := by decide +kernel
theorem d116_333 : decode (byt 116) 333 = .ok (.iload_n 2, 1) := by decide +kernel
theorem d116_334 : decode (byt 116) 334 = .ok (.imul, 1) := by decide +kernel
theorem d116_335 : decode (byt 116) 335 = .ok (.iload 6, 2) := by decide +kernel
theorem d116_337 : decode (byt 116) 337 = .ok (.iadd, 1) := by decide +kernel
theorem d116_338 : decode (byt 116) 338 = .ok (.iload 4, 2) := by decide +kernel
theorem d116_340 : decode (byt 116) 340 = .ok (.isub, 1) := by decide +kernel
theorem d116_341 : decode (byt 116) 341 = .ok (.iaload, 1) := by decide +kernel
theorem d116_342 : decode (byt 116) 342 = .ok (.imul, 1) := by decide +kernel
theorem d116_343 : decode (byt 116) 343 = .ok (.aload_n 0, 1) := by decide +kernel
theorem d116_344 : decode (byt 116) 344 = .ok (.getfield 28, 3) := by decide +kernel
theorem d116_347 : decode (byt 116) 347 = .ok (.iconst 3, 1) := by decide +kernel
theorem d116_348 : decode (byt 116) 348 = .ok (.iload_n 1, 1) := by decide +kernel
theorem d116_349 : decode (byt 116) 349 = .ok (.imul, 1) := by decide +kernel
theorem d116_350 : decode (byt 116) 350 = .ok (.iload 8, 2) := by decide +kernel
theorem d116_352 : decode (byt 116) 352 = .ok (.iadd, 1) := by decide +kernel
theorem d116_353 : decode (byt 116) 353 = .ok (.iaload, 1) := by decide +kernel
theorem d116_354 : decode (byt 116) 354 = .ok (.imul, 1) := by decide +kernel
theorem d116_355 : decode (byt 116) 355 = .ok (.istore 9, 2) := by decide +kernel
theorem d116_357 : decode (byt 116) 357 = .ok (.aload_n 0, 1) := by decide +kernel
theorem d116_358 : decode (byt 116) 358 = .ok (.getfield 31, 3) := by decide +kernel
theorem d116_361 : decode (byt 116) 361 = .ok (.iconst 3, 1) := by decide +kernel
theorem d116_362 : decode (byt 116) 362 = .ok (.iload 6, 2) := by decide +kernel
theorem d116_364 : decode (byt 116) 364 = .ok (.imul, 1) := by decide +kernel
theorem d116_365 : decode (byt 116) 365 = .ok (.iload 8, 2) := by decide +kernel
theorem d116_367 : decode (byt 116) 367 = .ok (.iadd, 1) := by decide +kernel
theorem d116_368 : decode (byt 116) 368 = .ok (.iload 9, 2) := by decide +kernel
theorem d116_370 : decode (byt 116) 370 = .ok (.iastore, 1) := by decide +kernel
theorem d116_371 : decode (byt 116) 371 = .ok (.iinc 8 1, 3) := by decide +kernel
theorem d116_374 : decode (byt 116) 374 = .ok (.goto (-129), 3) := by decide +kernel
theorem d116_377 : decode (byt 116) 377 = .ok (.iinc 6 1, 3) := by decide +kernel
theorem d116_380 : decode (byt 116) 380 = .ok (.goto (-292), 3) := by decide +kernel
theorem d116_383 : decode (byt 116) 383 = .ok (.aload_n 0, 1) := by decide +kernel
theorem d116_384 : decode (byt 116) 384 = .ok (.iconst 2, 1) := by decide +kernel
theorem d116_385 : decode (byt 116) 385 = .ok (.iload 5, 2) := by decide +kernel
theorem d116_387 : decode (byt 116) 387 = .ok (.aload_n 0, 1) := by decide +kernel
theorem d116_388 : decode (byt 116) 388 = .ok (.getfield 16, 3) := by decide +kernel
theorem d116_391 : decode (byt 116) 391 = .ok (.iload_n 1, 1) := by decide +kernel
theorem d116_392 : decode (byt 116) 392 = .ok (.iaload, 1) := by decide +kernel
theorem d116_393 : decode (byt 116) 393 = .ok (.iload_n 3, 1) := by decide +kernel
theorem d116_394 : decode (byt 116) 394 = .ok (.ifCond .eq 19, 3) := by decide +kernel
theorem d116_397 : decode (byt 116) 397 = .ok (.aload_n 0, 1) := by decide +kernel
theorem d116_398 : decode (byt 116) 398 = .ok (.getfield 19, 3) := by decide +kernel
theorem d116_401 : decode (byt 116) 401 = .ok (.iload_n 1, 1) := by decide +kernel
theorem d116_402 : decode (byt 116) 402 = .ok (.iaload, 1) := by decide +kernel
theorem d116_403 : decode (byt 116) 403 = .ok (.aload_n 0, 1) := by decide +kernel
theorem d116_404 : decode (byt 116) 404 = .ok (.getfield 19, 3) := by decide +kernel
theorem d116_407 : decode (byt 116) 407 = .ok (.iload_n 2, 1) := by decide +kernel
theorem d116_408 : decode (byt 116) 408 = .ok (.iaload, 1) := by decide +kernel
theorem d116_409 : decode (byt 116) 409 = .ok (.imul, 1) := by decide +kernel
theorem d116_410 : decode (byt 116) 410 = .ok (.goto 16, 3) := by decide +kernel
theorem d116_413 : decode (byt 116) 413 = .ok (.aload_n 0, 1) := by decide +kernel
theorem d116_414 : decode (byt 116) 414 = .ok (.getfield 19, 3) := by decide +kernel
theorem d116_417 : decode (byt 116) 417 = .ok (.iload_n 1, 1) := by decide +kernel
theorem d116_418 : decode (byt 116) 418 = .ok (.iaload, 1) := by decide +kernel
theorem d116_419 : decode (byt 116) 419 = .ok (.aload_n 0, 1) := by decide +kernel
theorem d116_420 : decode (byt 116) 420 = .ok (.getfield 19, 3) := by decide +kernel
theorem d116_423 : decode (byt 116) 423 = .ok (.iload_n 2, 1) := by decide +kernel
theorem d116_424 : decode (byt 116) 424 = .ok (.iaload, 1) := by decide +kernel
theorem d116_425 : decode (byt 116) 425 = .ok (.iadd, 1) := by decide +kernel
theorem d116_426 : decode (byt 116) 426 = .ok (.invokevirtual 121, 3) := by decide +kernel
theorem d116_429 : decode (byt 116) 429 = .ok (.ireturn, 1) := by decide +kernel
set_option maxRecDepth 20000 in
theorem S116_0 : (∀ (ls : Lo) (st : List Value) (h : Hp) (Q : Option Value → Hp → Prop)  (i : Nat), Wp 116 0 (some (.ref i) :: ls) (st) h Q ↔ Wp 116 1 (some (.ref i) :: ls) (.ref i :: st) h Q) ∧
  (∀ (ls : Lo) (st : List Value) (h : Hp) (Q : Option Value → Hp → Prop) (l0 : Option Value) (x : Int32), Wp 116 1 (l0 :: some (.int x) :: ls) (st) h Q ↔ Wp 116 2 (l0 :: some (.int x) :: ls) (.int x :: st) h Q) ∧
  (∀ (ls : Lo) (st : List Value) (n sl : Nat) (C Z : Nat → Nat) (I : Nat → Nat → Int32) (L : Nat → Nat → Int64) (R : Nat → Nat → Nat) (Q : Option Value → Hp → Prop) (x0 : Int32) (i : Nat), C i = 11 → (Wp 116 2 (ls) (.int x0 :: .ref i :: st) (n, sl, C, Z, I, L, R) Q ↔ (wsum st ≤ 8 ∧ Call 103 [some (.ref i), some (.int x0)] (n, sl, C, Z, I, L, R) 116 5 ls st Q))) ∧
  (∀ (ls : Lo) (st : List Value) (h : Hp) (Q : Option Value → Hp → Prop) (x : Int32), Wp 116 5 (ls) (.int x :: st) h Q ↔ Br 116 16 8 ls st h Q (x = 0)) ∧
  (∀ (ls : Lo) (st : List Value) (h : Hp) (Q : Option Value → Hp → Prop)  (i : Nat), Wp 116 8 (some (.ref i) :: ls) (st) h Q ↔ Wp 116 9 (some (.ref i) :: ls) (.ref i :: st) h Q) ∧
  (∀ (ls : Lo) (st : List Value) (h : Hp) (Q : Option Value → Hp → Prop) (l0 l1 : Option Value) (x : Int32), Wp 116 9 (l0 :: l1 :: some (.int x) :: ls) (st) h Q ↔ Wp 116 10 (l0 :: l1 :: some (.int x) :: ls) (.int x :: st) h Q) ∧
  (∀ (ls : Lo) (st : List Value) (n sl : Nat) (C Z : Nat → Nat) (I : Nat → Nat → Int32) (L : Nat → Nat → Int64) (R : Nat → Nat → Nat) (Q : Option Value → Hp → Prop) (x0 : Int32) (i : Nat), C i = 11 → (Wp 116 10 (ls) (.int x0 :: .ref i :: st) (n, sl, C, Z, I, L, R) Q ↔ (wsum st ≤ 8 ∧ Call 103 [some (.ref i), some (.int x0)] (n, sl, C, Z, I, L, R) 116 13 ls st Q))) ∧
  (∀ (ls : Lo) (st : List Value) (h : Hp) (Q : Option Value → Hp → Prop) (x : Int32), Wp 116 13 (ls) (.int x :: st) h Q ↔ Br 116 19 16 ls st h Q (¬ x = 0)) ∧
  (∀ (ls : Lo) (st : List Value) (h : Hp) (Q : Option Value → Hp → Prop), Wp 116 16 (ls) (st) h Q ↔ Wp 116 18 (ls) (.int (-2) :: st) h Q) ∧
  (∀ (ls : Lo) (h : Hp) (Q : Option Value → Hp → Prop) (x : Int32), Wp 116 18 (ls) ([.int x]) h Q ↔ Q (some (.int x)) h) ∧
  (∀ (ls : Lo) (st : List Value) (h : Hp) (Q : Option Value → Hp → Prop)  (i : Nat), Wp 116 19 (some (.ref i) :: ls) (st) h Q ↔ Wp 116 20 (some (.ref i) :: ls) (.ref i :: st) h Q) ∧
  (∀ (ls : Lo) (st : List Value) (n sl : Nat) (C Z : Nat → Nat) (I : Nat → Nat → Int32) (L : Nat → Nat → Int64) (R : Nat → Nat → Nat) (Q : Option Value → Hp → Prop) (i : Nat), Wp 116 20 (ls) (.ref i :: st) (n, sl, C, Z, I, L, R) Q ↔ (C i = 11 ∧ Wp 116 23 (ls) (.ref (R i 1) :: st) (n, sl, C, Z, I, L, R) Q)) ∧
  (∀ (ls : Lo) (st : List Value) (h : Hp) (Q : Option Value → Hp → Prop) (l0 : Option Value) (x : Int32), Wp 116 23 (l0 :: some (.int x) :: ls) (st) h Q ↔ Wp 116 24 (l0 :: some (.int x) :: ls) (.int x :: st) h Q) ∧
  (∀ (ls : Lo) (st : List Value) (n sl : Nat) (C Z : Nat → Nat) (I : Nat → Nat → Int32) (L : Nat → Nat → Int64) (R : Nat → Nat → Nat) (Q : Option Value → Hp → Prop) (i : Nat) (y : Int32), Wp 116 24 (ls) (.int y :: .ref i :: st) (n, sl, C, Z, I, L, R) Q ↔ ((inb y (Z i) = true ∧ C i = 21) ∧ Wp 116 25 (ls) (.int (I i (ix y)) :: st) (n, sl, C, Z, I, L, R) Q)) ∧
  (∀ (ls : Lo) (st : List Value) (h : Hp) (Q : Option Value → Hp → Prop), Wp 116 25 (ls) (st) h Q ↔ Wp 116 26 (ls) (.int (1) :: st) h Q) ∧
  (∀ (ls : Lo) (st : List Value) (h : Hp) (Q : Option Value → Hp → Prop) (x y : Int32), Wp 116 26 (ls) (.int y :: .int x :: st) h Q ↔ Br 116 54 29 ls st h Q (x = y)) ∧
  (∀ (ls : Lo) (st : List Value) (h : Hp) (Q : Option Value → Hp → Prop)  (i : Nat), Wp 116 29 (some (.ref i) :: ls) (st) h Q ↔ Wp 116 30 (some (.ref i) :: ls) (.ref i :: st) h Q) ∧
  (∀ (ls : Lo) (st : List Value) (n sl : Nat) (C Z : Nat → Nat) (I : Nat → Nat → Int32) (L : Nat → Nat → Int64) (R : Nat → Nat → Nat) (Q : Option Value → Hp → Prop) (i : Nat), Wp 116 30 (ls) (.ref i :: st) (n, sl, C, Z, I, L, R) Q ↔ (C i = 11 ∧ Wp 116 33 (ls) (.ref (R i 1) :: st) (n, sl, C, Z, I, L, R) Q)) ∧
  (∀ (ls : Lo) (st : List Value) (h : Hp) (Q : Option Value → Hp → Prop) (l0 l1 : Option Value) (x : Int32), Wp 116 33 (l0 :: l1 :: some (.int x) :: ls) (st) h Q ↔ Wp 116 34 (l0 :: l1 :: some (.int x) :: ls) (.int x :: st) h Q) ∧
  (∀ (ls : Lo) (st : List Value) (n sl : Nat) (C Z : Nat → Nat) (I : Nat → Nat → Int32) (L : Nat → Nat → Int64) (R : Nat → Nat → Nat) (Q : Option Value → Hp → Prop) (i : Nat) (y : Int32), Wp 116 34 (ls) (.int y :: .ref i :: st) (n, sl, C, Z, I, L, R) Q ↔ ((inb y (Z i) = true ∧ C i = 21) ∧ Wp 116 35 (ls) (.int (I i (ix y)) :: st) (n, sl, C, Z, I, L, R) Q)) ∧
  (∀ (ls : Lo) (st : List Value) (h : Hp) (Q : Option Value → Hp → Prop), Wp 116 35 (ls) (st) h Q ↔ Wp 116 36 (ls) (.int (1) :: st) h Q) ∧
  (∀ (ls : Lo) (st : List Value) (h : Hp) (Q : Option Value → Hp → Prop) (x y : Int32), Wp 116 36 (ls) (.int y :: .int x :: st) h Q ↔ Br 116 54 39 ls st h Q (x = y)) ∧
  (∀ (ls : Lo) (st : List Value) (h : Hp) (Q : Option Value → Hp → Prop)  (i : Nat), Wp 116 39 (some (.ref i) :: ls) (st) h Q ↔ Wp 116 40 (some (.ref i) :: ls) (.ref i :: st) h Q) ∧
  (∀ (ls : Lo) (st : List Value) (n sl : Nat) (C Z : Nat → Nat) (I : Nat → Nat → Int32) (L : Nat → Nat → Int64) (R : Nat → Nat → Nat) (Q : Option Value → Hp → Prop) (i : Nat), Wp 116 40 (ls) (.ref i :: st) (n, sl, C, Z, I, L, R) Q ↔ (C i = 11 ∧ Wp 116 43 (ls) (.ref (R i 3) :: st) (n, sl, C, Z, I, L, R) Q)) ∧
  (∀ (ls : Lo) (st : List Value) (h : Hp) (Q : Option Value → Hp → Prop) (l0 : Option Value) (x : Int32), Wp 116 43 (l0 :: some (.int x) :: ls) (st) h Q ↔ Wp 116 44 (l0 :: some (.int x) :: ls) (.int x :: st) h Q) := ⟨by intro ls st h Q i; exact e_aload_n d116_0 rfl,
  by intro ls st h Q l0 x; exact e_iload_n d116_1 rfl,
  by intro ls st n sl C Z I L R Q x0 i hh; exact e_iv (k2 := 103) (c := 11) (as := [.int x0]) d116_2 rfl (by decide) rfl rfl (by decide +kernel) (Nat.le_of_ble_eq_true rfl) rfl hh,
  by intro ls st h Q x; exact e_if d116_5 (by decide) c_eq,
  by intro ls st h Q i; exact e_aload_n d116_8 rfl,
  by intro ls st h Q l0 l1 x; exact e_iload_n d116_9 rfl,
  by intro ls st n sl C Z I L R Q x0 i hh; exact e_iv (k2 := 103) (c := 11) (as := [.int x0]) d116_10 rfl (by decide) rfl rfl (by decide +kernel) (Nat.le_of_ble_eq_true rfl) rfl hh,
  by intro ls st h Q x; exact e_if d116_13 (by decide) c_ne,
  by intro ls st h Q; exact e_bipush d116_16 rfl,
  by intros; exact e_rI (p := True) d116_18 rfl,
  by intro ls st h Q i; exact e_aload_n d116_19 rfl,
  by intro ls st n sl C Z I L R Q i; exact e_get (g := 10) (s := 1) (ty := 2) d116_20 rfl rfl (inG_ne (by decide)),
  by intro ls st h Q l0 x; exact e_iload_n d116_23 rfl,
  by intro ls st n sl C Z I L R Q i y; exact e_iald d116_24,
  by intro ls st h Q; exact e_iconst d116_25 rfl,
  by intro ls st h Q x y; exact e_ic d116_26 (by decide) c_eq,
  by intro ls st h Q i; exact e_aload_n d116_29 rfl,
  by intro ls st n sl C Z I L R Q i; exact e_get (g := 10) (s := 1) (ty := 2) d116_30 rfl rfl (inG_ne (by decide)),
  by intro ls st h Q l0 l1 x; exact e_iload_n d116_33 rfl,
  by intro ls st n sl C Z I L R Q i y; exact e_iald d116_34,
  by intro ls st h Q; exact e_iconst d116_35 rfl,
  by intro ls st h Q x y; exact e_ic d116_36 (by decide) c_eq,
  by intro ls st h Q i; exact e_aload_n d116_39 rfl,
  by intro ls st n sl C Z I L R Q i; exact e_get (g := 10) (s := 3) (ty := 2) d116_40 rfl rfl (inG_ne (by decide)),
  by intro ls st h Q l0 x; exact e_iload_n d116_43 rfl⟩
set_option maxRecDepth 20000 in
theorem S116_1 : (∀ (ls : Lo) (st : List Value) (n sl : Nat) (C Z : Nat → Nat) (I : Nat → Nat → Int32) (L : Nat → Nat → Int64) (R : Nat → Nat → Nat) (Q : Option Value → Hp → Prop) (i : Nat) (y : Int32), Wp 116 44 (ls) (.int y :: .ref i :: st) (n, sl, C, Z, I, L, R) Q ↔ ((inb y (Z i) = true ∧ C i = 21) ∧ Wp 116 45 (ls) (.int (I i (ix y)) :: st) (n, sl, C, Z, I, L, R) Q)) ∧
  (∀ (ls : Lo) (st : List Value) (h : Hp) (Q : Option Value → Hp → Prop)  (i : Nat), Wp 116 45 (some (.ref i) :: ls) (st) h Q ↔ Wp 116 46 (some (.ref i) :: ls) (.ref i :: st) h Q) ∧
  (∀ (ls : Lo) (st : List Value) (n sl : Nat) (C Z : Nat → Nat) (I : Nat → Nat → Int32) (L : Nat → Nat → Int64) (R : Nat → Nat → Nat) (Q : Option Value → Hp → Prop) (i : Nat), Wp 116 46 (ls) (.ref i :: st) (n, sl, C, Z, I, L, R) Q ↔ (C i = 11 ∧ Wp 116 49 (ls) (.ref (R i 3) :: st) (n, sl, C, Z, I, L, R) Q)) ∧
  (∀ (ls : Lo) (st : List Value) (h : Hp) (Q : Option Value → Hp → Prop) (l0 l1 : Option Value) (x : Int32), Wp 116 49 (l0 :: l1 :: some (.int x) :: ls) (st) h Q ↔ Wp 116 50 (l0 :: l1 :: some (.int x) :: ls) (.int x :: st) h Q) ∧
  (∀ (ls : Lo) (st : List Value) (n sl : Nat) (C Z : Nat → Nat) (I : Nat → Nat → Int32) (L : Nat → Nat → Int64) (R : Nat → Nat → Nat) (Q : Option Value → Hp → Prop) (i : Nat) (y : Int32), Wp 116 50 (ls) (.int y :: .ref i :: st) (n, sl, C, Z, I, L, R) Q ↔ ((inb y (Z i) = true ∧ C i = 21) ∧ Wp 116 51 (ls) (.int (I i (ix y)) :: st) (n, sl, C, Z, I, L, R) Q)) ∧
  (∀ (ls : Lo) (st : List Value) (h : Hp) (Q : Option Value → Hp → Prop) (x y : Int32), Wp 116 51 (ls) (.int y :: .int x :: st) h Q ↔ Br 116 57 54 ls st h Q (x = y)) ∧
  (∀ (ls : Lo) (st : List Value) (h : Hp) (Q : Option Value → Hp → Prop), Wp 116 54 (ls) (st) h Q ↔ Wp 116 56 (ls) (.int (-3) :: st) h Q) ∧
  (∀ (ls : Lo) (h : Hp) (Q : Option Value → Hp → Prop) (x : Int32), Wp 116 56 (ls) ([.int x]) h Q ↔ Q (some (.int x)) h) ∧
  (∀ (ls : Lo) (st : List Value) (h : Hp) (Q : Option Value → Hp → Prop)  (i : Nat), Wp 116 57 (some (.ref i) :: ls) (st) h Q ↔ Wp 116 58 (some (.ref i) :: ls) (.ref i :: st) h Q) ∧
  (∀ (ls : Lo) (st : List Value) (n sl : Nat) (C Z : Nat → Nat) (I : Nat → Nat → Int32) (L : Nat → Nat → Int64) (R : Nat → Nat → Nat) (Q : Option Value → Hp → Prop) (i : Nat), Wp 116 58 (ls) (.ref i :: st) (n, sl, C, Z, I, L, R) Q ↔ (C i = 11 ∧ Wp 116 61 (ls) (.ref (R i 2) :: st) (n, sl, C, Z, I, L, R) Q)) ∧
  (∀ (ls : Lo) (st : List Value) (h : Hp) (Q : Option Value → Hp → Prop) (l0 : Option Value) (x : Int32), Wp 116 61 (l0 :: some (.int x) :: ls) (st) h Q ↔ Wp 116 62 (l0 :: some (.int x) :: ls) (.int x :: st) h Q) ∧
  (∀ (ls : Lo) (st : List Value) (n sl : Nat) (C Z : Nat → Nat) (I : Nat → Nat → Int32) (L : Nat → Nat → Int64) (R : Nat → Nat → Nat) (Q : Option Value → Hp → Prop) (i : Nat) (y : Int32), Wp 116 62 (ls) (.int y :: .ref i :: st) (n, sl, C, Z, I, L, R) Q ↔ ((inb y (Z i) = true ∧ C i = 21) ∧ Wp 116 63 (ls) (.int (I i (ix y)) :: st) (n, sl, C, Z, I, L, R) Q)) ∧
  (∀ (ls : Lo) (st : List Value) (h : Hp) (Q : Option Value → Hp → Prop) (l0 l1 l2 l3 l4 : Option Value) (x : Int32), Wp 116 63 (l0 :: l1 :: l2 :: l3 :: l4 :: ls) (.int x :: st) h Q ↔ Wp 116 65 (l0 :: l1 :: l2 :: clr l3 :: some (.int x) :: ls) (st) h Q) ∧
  (∀ (ls : Lo) (st : List Value) (h : Hp) (Q : Option Value → Hp → Prop) (l0 l1 l2 l3 : Option Value) (x : Int32), Wp 116 65 (l0 :: l1 :: l2 :: l3 :: some (.int x) :: ls) (st) h Q ↔ Wp 116 67 (l0 :: l1 :: l2 :: l3 :: some (.int x) :: ls) (.int x :: st) h Q) ∧
  (∀ (ls : Lo) (st : List Value) (h : Hp) (Q : Option Value → Hp → Prop)  (i : Nat), Wp 116 67 (some (.ref i) :: ls) (st) h Q ↔ Wp 116 68 (some (.ref i) :: ls) (.ref i :: st) h Q) ∧
  (∀ (ls : Lo) (st : List Value) (n sl : Nat) (C Z : Nat → Nat) (I : Nat → Nat → Int32) (L : Nat → Nat → Int64) (R : Nat → Nat → Nat) (Q : Option Value → Hp → Prop) (i : Nat), Wp 116 68 (ls) (.ref i :: st) (n, sl, C, Z, I, L, R) Q ↔ (C i = 11 ∧ Wp 116 71 (ls) (.ref (R i 2) :: st) (n, sl, C, Z, I, L, R) Q)) ∧
  (∀ (ls : Lo) (st : List Value) (h : Hp) (Q : Option Value → Hp → Prop) (l0 l1 : Option Value) (x : Int32), Wp 116 71 (l0 :: l1 :: some (.int x) :: ls) (st) h Q ↔ Wp 116 72 (l0 :: l1 :: some (.int x) :: ls) (.int x :: st) h Q) ∧
  (∀ (ls : Lo) (st : List Value) (n sl : Nat) (C Z : Nat → Nat) (I : Nat → Nat → Int32) (L : Nat → Nat → Int64) (R : Nat → Nat → Nat) (Q : Option Value → Hp → Prop) (i : Nat) (y : Int32), Wp 116 72 (ls) (.int y :: .ref i :: st) (n, sl, C, Z, I, L, R) Q ↔ ((inb y (Z i) = true ∧ C i = 21) ∧ Wp 116 73 (ls) (.int (I i (ix y)) :: st) (n, sl, C, Z, I, L, R) Q)) ∧
  (∀ (ls : Lo) (st : List Value) (h : Hp) (Q : Option Value → Hp → Prop) (x y : Int32), Wp 116 73 (ls) (.int y :: .int x :: st) h Q ↔ Wp 116 74 (ls) (.int (x + y) :: st) h Q) ∧
  (∀ (ls : Lo) (st : List Value) (h : Hp) (Q : Option Value → Hp → Prop) (l0 l1 l2 l3 l4 l5 : Option Value) (x : Int32), Wp 116 74 (l0 :: l1 :: l2 :: l3 :: l4 :: l5 :: ls) (.int x :: st) h Q ↔ Wp 116 76 (l0 :: l1 :: l2 :: l3 :: clr l4 :: some (.int x) :: ls) (st) h Q) ∧
  (∀ (ls : Lo) (st : List Value) (h : Hp) (Q : Option Value → Hp → Prop) (l0 l1 l2 l3 l4 : Option Value) (x : Int32), Wp 116 76 (l0 :: l1 :: l2 :: l3 :: l4 :: some (.int x) :: ls) (st) h Q ↔ Wp 116 78 (l0 :: l1 :: l2 :: l3 :: l4 :: some (.int x) :: ls) (.int x :: st) h Q) ∧
  (∀ (ls : Lo) (st : List Value) (h : Hp) (Q : Option Value → Hp → Prop), Wp 116 78 (ls) (st) h Q ↔ Wp 116 79 (ls) (.int (3) :: st) h Q) ∧
  (∀ (ls : Lo) (st : List Value) (h : Hp) (Q : Option Value → Hp → Prop) (x y : Int32), Wp 116 79 (ls) (.int y :: .int x :: st) h Q ↔ Br 116 85 82 ls st h Q (x ≤ y)) ∧
  (∀ (ls : Lo) (st : List Value) (h : Hp) (Q : Option Value → Hp → Prop), Wp 116 82 (ls) (st) h Q ↔ Wp 116 84 (ls) (.int (-4) :: st) h Q) ∧
  (∀ (ls : Lo) (h : Hp) (Q : Option Value → Hp → Prop) (x : Int32), Wp 116 84 (ls) ([.int x]) h Q ↔ Q (some (.int x)) h) := ⟨by intro ls st n sl C Z I L R Q i y; exact e_iald d116_44,
  by intro ls st h Q i; exact e_aload_n d116_45 rfl,
  by intro ls st n sl C Z I L R Q i; exact e_get (g := 10) (s := 3) (ty := 2) d116_46 rfl rfl (inG_ne (by decide)),
  by intro ls st h Q l0 l1 x; exact e_iload_n d116_49 rfl,
  by intro ls st n sl C Z I L R Q i y; exact e_iald d116_50,
  by intro ls st h Q x y; exact e_ic d116_51 (by decide) c_eq,
  by intro ls st h Q; exact e_bipush d116_54 rfl,
  by intros; exact e_rI (p := True) d116_56 rfl,
  by intro ls st h Q i; exact e_aload_n d116_57 rfl,
  by intro ls st n sl C Z I L R Q i; exact e_get (g := 10) (s := 2) (ty := 2) d116_58 rfl rfl (inG_ne (by decide)),
  by intro ls st h Q l0 x; exact e_iload_n d116_61 rfl,
  by intro ls st n sl C Z I L R Q i y; exact e_iald d116_62,
  by intro ls st h Q l0 l1 l2 l3 l4 x; exact e_istore d116_63 rfl,
  by intro ls st h Q l0 l1 l2 l3 x; exact e_iload d116_65 rfl,
  by intro ls st h Q i; exact e_aload_n d116_67 rfl,
  by intro ls st n sl C Z I L R Q i; exact e_get (g := 10) (s := 2) (ty := 2) d116_68 rfl rfl (inG_ne (by decide)),
  by intro ls st h Q l0 l1 x; exact e_iload_n d116_71 rfl,
  by intro ls st n sl C Z I L R Q i y; exact e_iald d116_72,
  by intro ls st h Q x y; exact e_iadd d116_73,
  by intro ls st h Q l0 l1 l2 l3 l4 l5 x; exact e_istore d116_74 rfl,
  by intro ls st h Q l0 l1 l2 l3 l4 x; exact e_iload d116_76 rfl,
  by intro ls st h Q; exact e_iconst d116_78 rfl,
  by intro ls st h Q x y; exact e_ic d116_79 (by decide) c_le,
  by intro ls st h Q; exact e_bipush d116_82 rfl,
  by intros; exact e_rI (p := True) d116_84 rfl⟩
set_option maxRecDepth 20000 in
theorem S116_2 : (∀ (ls : Lo) (st : List Value) (h : Hp) (Q : Option Value → Hp → Prop), Wp 116 85 (ls) (st) h Q ↔ Wp 116 86 (ls) (.int (0) :: st) h Q) ∧
  (∀ (ls : Lo) (st : List Value) (h : Hp) (Q : Option Value → Hp → Prop) (l0 l1 l2 l3 l4 l5 l6 : Option Value) (x : Int32), Wp 116 86 (l0 :: l1 :: l2 :: l3 :: l4 :: l5 :: l6 :: ls) (.int x :: st) h Q ↔ Wp 116 88 (l0 :: l1 :: l2 :: l3 :: l4 :: clr l5 :: some (.int x) :: ls) (st) h Q) ∧
  (∀ (ls : Lo) (st : List Value) (h : Hp) (Q : Option Value → Hp → Prop) (l0 l1 l2 l3 l4 l5 : Option Value) (x : Int32), Wp 116 88 (l0 :: l1 :: l2 :: l3 :: l4 :: l5 :: some (.int x) :: ls) (st) h Q ↔ Wp 116 90 (l0 :: l1 :: l2 :: l3 :: l4 :: l5 :: some (.int x) :: ls) (.int x :: st) h Q) ∧
  (∀ (ls : Lo) (st : List Value) (h : Hp) (Q : Option Value → Hp → Prop) (l0 l1 l2 l3 l4 : Option Value) (x : Int32), Wp 116 90 (l0 :: l1 :: l2 :: l3 :: l4 :: some (.int x) :: ls) (st) h Q ↔ Wp 116 92 (l0 :: l1 :: l2 :: l3 :: l4 :: some (.int x) :: ls) (.int x :: st) h Q) ∧
  (∀ (ls : Lo) (st : List Value) (h : Hp) (Q : Option Value → Hp → Prop) (x y : Int32), Wp 116 92 (ls) (.int y :: .int x :: st) h Q ↔ Br 116 383 95 ls st h Q (y ≤ x)) ∧
  (∀ (ls : Lo) (st : List Value) (h : Hp) (Q : Option Value → Hp → Prop) (l0 l1 l2 l3 l4 l5 : Option Value) (x : Int32), Wp 116 95 (l0 :: l1 :: l2 :: l3 :: l4 :: l5 :: some (.int x) :: ls) (st) h Q ↔ Wp 116 97 (l0 :: l1 :: l2 :: l3 :: l4 :: l5 :: some (.int x) :: ls) (.int x :: st) h Q) ∧
  (∀ (ls : Lo) (st : List Value) (h : Hp) (Q : Option Value → Hp → Prop) (l0 l1 l2 l3 : Option Value) (x : Int32), Wp 116 97 (l0 :: l1 :: l2 :: l3 :: some (.int x) :: ls) (st) h Q ↔ Wp 116 99 (l0 :: l1 :: l2 :: l3 :: some (.int x) :: ls) (.int x :: st) h Q) ∧
  (∀ (ls : Lo) (st : List Value) (h : Hp) (Q : Option Value → Hp → Prop) (x y : Int32), Wp 116 99 (ls) (.int y :: .int x :: st) h Q ↔ Br 116 106 102 ls st h Q (y ≤ x)) ∧
  (∀ (ls : Lo) (st : List Value) (h : Hp) (Q : Option Value → Hp → Prop), Wp 116 102 (ls) (st) h Q ↔ Wp 116 103 (ls) (.int (1) :: st) h Q) ∧
  (∀ (ls : Lo) (st : List Value) (h : Hp) (Q : Option Value → Hp → Prop), Wp 116 103 (ls) (st) h Q ↔ Wp 116 107 (ls) (st) h Q) ∧
  (∀ (ls : Lo) (st : List Value) (h : Hp) (Q : Option Value → Hp → Prop), Wp 116 106 (ls) (st) h Q ↔ Wp 116 107 (ls) (.int (0) :: st) h Q) ∧
  (∀ (ls : Lo) (st : List Value) (h : Hp) (Q : Option Value → Hp → Prop) (l0 l1 l2 l3 l4 l5 l6 l7 : Option Value) (x : Int32), Wp 116 107 (l0 :: l1 :: l2 :: l3 :: l4 :: l5 :: l6 :: l7 :: ls) (.int x :: st) h Q ↔ Wp 116 109 (l0 :: l1 :: l2 :: l3 :: l4 :: l5 :: clr l6 :: some (.int x) :: ls) (st) h Q) ∧
  (∀ (ls : Lo) (st : List Value) (h : Hp) (Q : Option Value → Hp → Prop)  (i : Nat), Wp 116 109 (some (.ref i) :: ls) (st) h Q ↔ Wp 116 110 (some (.ref i) :: ls) (.ref i :: st) h Q) ∧
  (∀ (ls : Lo) (st : List Value) (n sl : Nat) (C Z : Nat → Nat) (I : Nat → Nat → Int32) (L : Nat → Nat → Int64) (R : Nat → Nat → Nat) (Q : Option Value → Hp → Prop) (i : Nat), Wp 116 110 (ls) (.ref i :: st) (n, sl, C, Z, I, L, R) Q ↔ (C i = 11 ∧ Wp 116 113 (ls) (.ref (R i 9) :: st) (n, sl, C, Z, I, L, R) Q)) ∧
  (∀ (ls : Lo) (st : List Value) (h : Hp) (Q : Option Value → Hp → Prop) (l0 l1 l2 l3 l4 l5 : Option Value) (x : Int32), Wp 116 113 (l0 :: l1 :: l2 :: l3 :: l4 :: l5 :: some (.int x) :: ls) (st) h Q ↔ Wp 116 115 (l0 :: l1 :: l2 :: l3 :: l4 :: l5 :: some (.int x) :: ls) (.int x :: st) h Q) ∧
  (∀ (ls : Lo) (st : List Value) (h : Hp) (Q : Option Value → Hp → Prop) (l0 l1 l2 l3 l4 l5 l6 : Option Value) (x : Int32), Wp 116 115 (l0 :: l1 :: l2 :: l3 :: l4 :: l5 :: l6 :: some (.int x) :: ls) (st) h Q ↔ Wp 116 117 (l0 :: l1 :: l2 :: l3 :: l4 :: l5 :: l6 :: some (.int x) :: ls) (.int x :: st) h Q) ∧
  (∀ (ls : Lo) (st : List Value) (h : Hp) (Q : Option Value → Hp → Prop) (x : Int32), Wp 116 117 (ls) (.int x :: st) h Q ↔ Br 116 134 120 ls st h Q (x = 0)) ∧
  (∀ (ls : Lo) (st : List Value) (h : Hp) (Q : Option Value → Hp → Prop)  (i : Nat), Wp 116 120 (some (.ref i) :: ls) (st) h Q ↔ Wp 116 121 (some (.ref i) :: ls) (.ref i :: st) h Q) ∧
  (∀ (ls : Lo) (st : List Value) (n sl : Nat) (C Z : Nat → Nat) (I : Nat → Nat → Int32) (L : Nat → Nat → Int64) (R : Nat → Nat → Nat) (Q : Option Value → Hp → Prop) (i : Nat), Wp 116 121 (ls) (.ref i :: st) (n, sl, C, Z, I, L, R) Q ↔ (C i = 11 ∧ Wp 116 124 (ls) (.ref (R i 6) :: st) (n, sl, C, Z, I, L, R) Q)) ∧
  (∀ (ls : Lo) (st : List Value) (h : Hp) (Q : Option Value → Hp → Prop), Wp 116 124 (ls) (st) h Q ↔ Wp 116 125 (ls) (.int (3) :: st) h Q) ∧
  (∀ (ls : Lo) (st : List Value) (h : Hp) (Q : Option Value → Hp → Prop) (l0 : Option Value) (x : Int32), Wp 116 125 (l0 :: some (.int x) :: ls) (st) h Q ↔ Wp 116 126 (l0 :: some (.int x) :: ls) (.int x :: st) h Q) ∧
  (∀ (ls : Lo) (st : List Value) (h : Hp) (Q : Option Value → Hp → Prop) (x y : Int32), Wp 116 126 (ls) (.int y :: .int x :: st) h Q ↔ Wp 116 127 (ls) (.int (x * y) :: st) h Q) ∧
  (∀ (ls : Lo) (st : List Value) (h : Hp) (Q : Option Value → Hp → Prop) (l0 l1 l2 l3 l4 l5 : Option Value) (x : Int32), Wp 116 127 (l0 :: l1 :: l2 :: l3 :: l4 :: l5 :: some (.int x) :: ls) (st) h Q ↔ Wp 116 129 (l0 :: l1 :: l2 :: l3 :: l4 :: l5 :: some (.int x) :: ls) (.int x :: st) h Q) ∧
  (∀ (ls : Lo) (st : List Value) (h : Hp) (Q : Option Value → Hp → Prop) (x y : Int32), Wp 116 129 (ls) (.int y :: .int x :: st) h Q ↔ Wp 116 130 (ls) (.int (x + y) :: st) h Q) ∧
  (∀ (ls : Lo) (st : List Value) (n sl : Nat) (C Z : Nat → Nat) (I : Nat → Nat → Int32) (L : Nat → Nat → Int64) (R : Nat → Nat → Nat) (Q : Option Value → Hp → Prop) (i : Nat) (y : Int32), Wp 116 130 (ls) (.int y :: .ref i :: st) (n, sl, C, Z, I, L, R) Q ↔ ((inb y (Z i) = true ∧ C i = 21) ∧ Wp 116 131 (ls) (.int (I i (ix y)) :: st) (n, sl, C, Z, I, L, R) Q)) := ⟨by intro ls st h Q; exact e_iconst d116_85 rfl,
  by intro ls st h Q l0 l1 l2 l3 l4 l5 l6 x; exact e_istore d116_86 rfl,
  by intro ls st h Q l0 l1 l2 l3 l4 l5 x; exact e_iload d116_88 rfl,
  by intro ls st h Q l0 l1 l2 l3 l4 x; exact e_iload d116_90 rfl,
  by intro ls st h Q x y; exact e_ic d116_92 (by decide) c_ge,
  by intro ls st h Q l0 l1 l2 l3 l4 l5 x; exact e_iload d116_95 rfl,
  by intro ls st h Q l0 l1 l2 l3 x; exact e_iload d116_97 rfl,
  by intro ls st h Q x y; exact e_ic d116_99 (by decide) c_ge,
  by intro ls st h Q; exact e_iconst d116_102 rfl,
  by intro ls st h Q; exact e_goto d116_103 (by decide),
  by intro ls st h Q; exact e_iconst d116_106 rfl,
  by intro ls st h Q l0 l1 l2 l3 l4 l5 l6 l7 x; exact e_istore d116_107 rfl,
  by intro ls st h Q i; exact e_aload_n d116_109 rfl,
  by intro ls st n sl C Z I L R Q i; exact e_get (g := 10) (s := 9) (ty := 2) d116_110 rfl rfl (inG_ne (by decide)),
  by intro ls st h Q l0 l1 l2 l3 l4 l5 x; exact e_iload d116_113 rfl,
  by intro ls st h Q l0 l1 l2 l3 l4 l5 l6 x; exact e_iload d116_115 rfl,
  by intro ls st h Q x; exact e_if d116_117 (by decide) c_eq,
  by intro ls st h Q i; exact e_aload_n d116_120 rfl,
  by intro ls st n sl C Z I L R Q i; exact e_get (g := 10) (s := 6) (ty := 2) d116_121 rfl rfl (inG_ne (by decide)),
  by intro ls st h Q; exact e_iconst d116_124 rfl,
  by intro ls st h Q l0 x; exact e_iload_n d116_125 rfl,
  by intro ls st h Q x y; exact e_imul d116_126,
  by intro ls st h Q l0 l1 l2 l3 l4 l5 x; exact e_iload d116_127 rfl,
  by intro ls st h Q x y; exact e_iadd d116_129,
  by intro ls st n sl C Z I L R Q i y; exact e_iald d116_130⟩
set_option maxRecDepth 20000 in
theorem S116_3 : (∀ (ls : Lo) (st : List Value) (h : Hp) (Q : Option Value → Hp → Prop), Wp 116 131 (ls) (st) h Q ↔ Wp 116 176 (ls) (st) h Q) ∧
  (∀ (ls : Lo) (st : List Value) (h : Hp) (Q : Option Value → Hp → Prop) (l0 l1 l2 : Option Value) (x : Int32), Wp 116 134 (l0 :: l1 :: l2 :: some (.int x) :: ls) (st) h Q ↔ Wp 116 135 (l0 :: l1 :: l2 :: some (.int x) :: ls) (.int x :: st) h Q) ∧
  (∀ (ls : Lo) (st : List Value) (h : Hp) (Q : Option Value → Hp → Prop) (x : Int32), Wp 116 135 (ls) (.int x :: st) h Q ↔ Br 116 162 138 ls st h Q (x = 0)) ∧
  (∀ (ls : Lo) (st : List Value) (h : Hp) (Q : Option Value → Hp → Prop)  (i : Nat), Wp 116 138 (some (.ref i) :: ls) (st) h Q ↔ Wp 116 139 (some (.ref i) :: ls) (.ref i :: st) h Q) ∧
  (∀ (ls : Lo) (st : List Value) (n sl : Nat) (C Z : Nat → Nat) (I : Nat → Nat → Int32) (L : Nat → Nat → Int64) (R : Nat → Nat → Nat) (Q : Option Value → Hp → Prop) (i : Nat), Wp 116 139 (ls) (.ref i :: st) (n, sl, C, Z, I, L, R) Q ↔ (C i = 11 ∧ Wp 116 142 (ls) (.ref (R i 6) :: st) (n, sl, C, Z, I, L, R) Q)) ∧
  (∀ (ls : Lo) (st : List Value) (h : Hp) (Q : Option Value → Hp → Prop), Wp 116 142 (ls) (st) h Q ↔ Wp 116 143 (ls) (.int (3) :: st) h Q) ∧
  (∀ (ls : Lo) (st : List Value) (h : Hp) (Q : Option Value → Hp → Prop) (l0 l1 : Option Value) (x : Int32), Wp 116 143 (l0 :: l1 :: some (.int x) :: ls) (st) h Q ↔ Wp 116 144 (l0 :: l1 :: some (.int x) :: ls) (.int x :: st) h Q) ∧
  (∀ (ls : Lo) (st : List Value) (h : Hp) (Q : Option Value → Hp → Prop) (x y : Int32), Wp 116 144 (ls) (.int y :: .int x :: st) h Q ↔ Wp 116 145 (ls) (.int (x * y) :: st) h Q) ∧
  (∀ (ls : Lo) (st : List Value) (h : Hp) (Q : Option Value → Hp → Prop) (l0 l1 l2 l3 l4 l5 : Option Value) (x : Int32), Wp 116 145 (l0 :: l1 :: l2 :: l3 :: l4 :: l5 :: some (.int x) :: ls) (st) h Q ↔ Wp 116 147 (l0 :: l1 :: l2 :: l3 :: l4 :: l5 :: some (.int x) :: ls) (.int x :: st) h Q) ∧
  (∀ (ls : Lo) (st : List Value) (h : Hp) (Q : Option Value → Hp → Prop) (x y : Int32), Wp 116 147 (ls) (.int y :: .int x :: st) h Q ↔ Wp 116 148 (ls) (.int (x + y) :: st) h Q) ∧
  (∀ (ls : Lo) (st : List Value) (h : Hp) (Q : Option Value → Hp → Prop) (l0 l1 l2 l3 : Option Value) (x : Int32), Wp 116 148 (l0 :: l1 :: l2 :: l3 :: some (.int x) :: ls) (st) h Q ↔ Wp 116 150 (l0 :: l1 :: l2 :: l3 :: some (.int x) :: ls) (.int x :: st) h Q) ∧
  (∀ (ls : Lo) (st : List Value) (h : Hp) (Q : Option Value → Hp → Prop) (x y : Int32), Wp 116 150 (ls) (.int y :: .int x :: st) h Q ↔ Wp 116 151 (ls) (.int (x - y) :: st) h Q) ∧
  (∀ (ls : Lo) (st : List Value) (n sl : Nat) (C Z : Nat → Nat) (I : Nat → Nat → Int32) (L : Nat → Nat → Int64) (R : Nat → Nat → Nat) (Q : Option Value → Hp → Prop) (i : Nat) (y : Int32), Wp 116 151 (ls) (.int y :: .ref i :: st) (n, sl, C, Z, I, L, R) Q ↔ ((inb y (Z i) = true ∧ C i = 21) ∧ Wp 116 152 (ls) (.int (I i (ix y)) :: st) (n, sl, C, Z, I, L, R) Q)) ∧
  (∀ (ls : Lo) (st : List Value) (h : Hp) (Q : Option Value → Hp → Prop)  (i : Nat), Wp 116 152 (some (.ref i) :: ls) (st) h Q ↔ Wp 116 153 (some (.ref i) :: ls) (.ref i :: st) h Q) ∧
  (∀ (ls : Lo) (st : List Value) (n sl : Nat) (C Z : Nat → Nat) (I : Nat → Nat → Int32) (L : Nat → Nat → Int64) (R : Nat → Nat → Nat) (Q : Option Value → Hp → Prop) (i : Nat), Wp 116 153 (ls) (.ref i :: st) (n, sl, C, Z, I, L, R) Q ↔ (C i = 11 ∧ Wp 116 156 (ls) (.ref (R i 4) :: st) (n, sl, C, Z, I, L, R) Q)) ∧
  (∀ (ls : Lo) (st : List Value) (h : Hp) (Q : Option Value → Hp → Prop) (l0 : Option Value) (x : Int32), Wp 116 156 (l0 :: some (.int x) :: ls) (st) h Q ↔ Wp 116 157 (l0 :: some (.int x) :: ls) (.int x :: st) h Q) ∧
  (∀ (ls : Lo) (st : List Value) (n sl : Nat) (C Z : Nat → Nat) (I : Nat → Nat → Int32) (L : Nat → Nat → Int64) (R : Nat → Nat → Nat) (Q : Option Value → Hp → Prop) (i : Nat) (y : Int32), Wp 116 157 (ls) (.int y :: .ref i :: st) (n, sl, C, Z, I, L, R) Q ↔ ((inb y (Z i) = true ∧ C i = 21) ∧ Wp 116 158 (ls) (.int (I i (ix y)) :: st) (n, sl, C, Z, I, L, R) Q)) ∧
  (∀ (ls : Lo) (st : List Value) (h : Hp) (Q : Option Value → Hp → Prop) (x y : Int32), Wp 116 158 (ls) (.int y :: .int x :: st) h Q ↔ Wp 116 159 (ls) (.int (x * y) :: st) h Q) ∧
  (∀ (ls : Lo) (st : List Value) (h : Hp) (Q : Option Value → Hp → Prop), Wp 116 159 (ls) (st) h Q ↔ Wp 116 176 (ls) (st) h Q) ∧
  (∀ (ls : Lo) (st : List Value) (h : Hp) (Q : Option Value → Hp → Prop)  (i : Nat), Wp 116 162 (some (.ref i) :: ls) (st) h Q ↔ Wp 116 163 (some (.ref i) :: ls) (.ref i :: st) h Q) ∧
  (∀ (ls : Lo) (st : List Value) (n sl : Nat) (C Z : Nat → Nat) (I : Nat → Nat → Int32) (L : Nat → Nat → Int64) (R : Nat → Nat → Nat) (Q : Option Value → Hp → Prop) (i : Nat), Wp 116 163 (ls) (.ref i :: st) (n, sl, C, Z, I, L, R) Q ↔ (C i = 11 ∧ Wp 116 166 (ls) (.ref (R i 6) :: st) (n, sl, C, Z, I, L, R) Q)) ∧
  (∀ (ls : Lo) (st : List Value) (h : Hp) (Q : Option Value → Hp → Prop), Wp 116 166 (ls) (st) h Q ↔ Wp 116 167 (ls) (.int (3) :: st) h Q) ∧
  (∀ (ls : Lo) (st : List Value) (h : Hp) (Q : Option Value → Hp → Prop) (l0 l1 : Option Value) (x : Int32), Wp 116 167 (l0 :: l1 :: some (.int x) :: ls) (st) h Q ↔ Wp 116 168 (l0 :: l1 :: some (.int x) :: ls) (.int x :: st) h Q) ∧
  (∀ (ls : Lo) (st : List Value) (h : Hp) (Q : Option Value → Hp → Prop) (x y : Int32), Wp 116 168 (ls) (.int y :: .int x :: st) h Q ↔ Wp 116 169 (ls) (.int (x * y) :: st) h Q) ∧
  (∀ (ls : Lo) (st : List Value) (h : Hp) (Q : Option Value → Hp → Prop) (l0 l1 l2 l3 l4 l5 : Option Value) (x : Int32), Wp 116 169 (l0 :: l1 :: l2 :: l3 :: l4 :: l5 :: some (.int x) :: ls) (st) h Q ↔ Wp 116 171 (l0 :: l1 :: l2 :: l3 :: l4 :: l5 :: some (.int x) :: ls) (.int x :: st) h Q) := ⟨by intro ls st h Q; exact e_goto d116_131 (by decide),
  by intro ls st h Q l0 l1 l2 x; exact e_iload_n d116_134 rfl,
  by intro ls st h Q x; exact e_if d116_135 (by decide) c_eq,
  by intro ls st h Q i; exact e_aload_n d116_138 rfl,
  by intro ls st n sl C Z I L R Q i; exact e_get (g := 10) (s := 6) (ty := 2) d116_139 rfl rfl (inG_ne (by decide)),
  by intro ls st h Q; exact e_iconst d116_142 rfl,
  by intro ls st h Q l0 l1 x; exact e_iload_n d116_143 rfl,
  by intro ls st h Q x y; exact e_imul d116_144,
  by intro ls st h Q l0 l1 l2 l3 l4 l5 x; exact e_iload d116_145 rfl,
  by intro ls st h Q x y; exact e_iadd d116_147,
  by intro ls st h Q l0 l1 l2 l3 x; exact e_iload d116_148 rfl,
  by intro ls st h Q x y; exact e_isub d116_150,
  by intro ls st n sl C Z I L R Q i y; exact e_iald d116_151,
  by intro ls st h Q i; exact e_aload_n d116_152 rfl,
  by intro ls st n sl C Z I L R Q i; exact e_get (g := 10) (s := 4) (ty := 2) d116_153 rfl rfl (inG_ne (by decide)),
  by intro ls st h Q l0 x; exact e_iload_n d116_156 rfl,
  by intro ls st n sl C Z I L R Q i y; exact e_iald d116_157,
  by intro ls st h Q x y; exact e_imul d116_158,
  by intro ls st h Q; exact e_goto d116_159 (by decide),
  by intro ls st h Q i; exact e_aload_n d116_162 rfl,
  by intro ls st n sl C Z I L R Q i; exact e_get (g := 10) (s := 6) (ty := 2) d116_163 rfl rfl (inG_ne (by decide)),
  by intro ls st h Q; exact e_iconst d116_166 rfl,
  by intro ls st h Q l0 l1 x; exact e_iload_n d116_167 rfl,
  by intro ls st h Q x y; exact e_imul d116_168,
  by intro ls st h Q l0 l1 l2 l3 l4 l5 x; exact e_iload d116_169 rfl⟩
set_option maxRecDepth 20000 in
theorem S116_4 : (∀ (ls : Lo) (st : List Value) (h : Hp) (Q : Option Value → Hp → Prop) (x y : Int32), Wp 116 171 (ls) (.int y :: .int x :: st) h Q ↔ Wp 116 172 (ls) (.int (x + y) :: st) h Q) ∧
  (∀ (ls : Lo) (st : List Value) (h : Hp) (Q : Option Value → Hp → Prop) (l0 l1 l2 l3 : Option Value) (x : Int32), Wp 116 172 (l0 :: l1 :: l2 :: l3 :: some (.int x) :: ls) (st) h Q ↔ Wp 116 174 (l0 :: l1 :: l2 :: l3 :: some (.int x) :: ls) (.int x :: st) h Q) ∧
  (∀ (ls : Lo) (st : List Value) (h : Hp) (Q : Option Value → Hp → Prop) (x y : Int32), Wp 116 174 (ls) (.int y :: .int x :: st) h Q ↔ Wp 116 175 (ls) (.int (x - y) :: st) h Q) ∧
  (∀ (ls : Lo) (st : List Value) (n sl : Nat) (C Z : Nat → Nat) (I : Nat → Nat → Int32) (L : Nat → Nat → Int64) (R : Nat → Nat → Nat) (Q : Option Value → Hp → Prop) (i : Nat) (y : Int32), Wp 116 175 (ls) (.int y :: .ref i :: st) (n, sl, C, Z, I, L, R) Q ↔ ((inb y (Z i) = true ∧ C i = 21) ∧ Wp 116 176 (ls) (.int (I i (ix y)) :: st) (n, sl, C, Z, I, L, R) Q)) ∧
  (∀ (ls : Lo) (st : List Value) (n sl : Nat) (C Z : Nat → Nat) (I : Nat → Nat → Int32) (L : Nat → Nat → Int64) (R : Nat → Nat → Nat) (Q : Option Value → Hp → Prop) (i : Nat) (x y : Int32), Wp 116 176 (ls) (.int x :: .int y :: .ref i :: st) (n, sl, C, Z, I, L, R) Q ↔ ((inb y (Z i) = true ∧ C i = 21) ∧ Wp 116 177 (ls) (st) (n, sl, C, Z, u2 I i (ix y) x, L, R) Q)) ∧
  (∀ (ls : Lo) (st : List Value) (h : Hp) (Q : Option Value → Hp → Prop)  (i : Nat), Wp 116 177 (some (.ref i) :: ls) (st) h Q ↔ Wp 116 178 (some (.ref i) :: ls) (.ref i :: st) h Q) ∧
  (∀ (ls : Lo) (st : List Value) (n sl : Nat) (C Z : Nat → Nat) (I : Nat → Nat → Int32) (L : Nat → Nat → Int64) (R : Nat → Nat → Nat) (Q : Option Value → Hp → Prop) (i : Nat), Wp 116 178 (ls) (.ref i :: st) (n, sl, C, Z, I, L, R) Q ↔ (C i = 11 ∧ Wp 116 181 (ls) (.ref (R i 10) :: st) (n, sl, C, Z, I, L, R) Q)) ∧
  (∀ (ls : Lo) (st : List Value) (h : Hp) (Q : Option Value → Hp → Prop) (l0 l1 l2 l3 l4 l5 : Option Value) (x : Int32), Wp 116 181 (l0 :: l1 :: l2 :: l3 :: l4 :: l5 :: some (.int x) :: ls) (st) h Q ↔ Wp 116 183 (l0 :: l1 :: l2 :: l3 :: l4 :: l5 :: some (.int x) :: ls) (.int x :: st) h Q) ∧
  (∀ (ls : Lo) (st : List Value) (h : Hp) (Q : Option Value → Hp → Prop) (l0 l1 l2 l3 l4 l5 l6 : Option Value) (x : Int32), Wp 116 183 (l0 :: l1 :: l2 :: l3 :: l4 :: l5 :: l6 :: some (.int x) :: ls) (st) h Q ↔ Wp 116 185 (l0 :: l1 :: l2 :: l3 :: l4 :: l5 :: l6 :: some (.int x) :: ls) (.int x :: st) h Q) ∧
  (∀ (ls : Lo) (st : List Value) (h : Hp) (Q : Option Value → Hp → Prop) (x : Int32), Wp 116 185 (ls) (.int x :: st) h Q ↔ Br 116 205 188 ls st h Q (¬ x = 0)) ∧
  (∀ (ls : Lo) (st : List Value) (h : Hp) (Q : Option Value → Hp → Prop)  (i : Nat), Wp 116 188 (some (.ref i) :: ls) (st) h Q ↔ Wp 116 189 (some (.ref i) :: ls) (.ref i :: st) h Q) ∧
  (∀ (ls : Lo) (st : List Value) (n sl : Nat) (C Z : Nat → Nat) (I : Nat → Nat → Int32) (L : Nat → Nat → Int64) (R : Nat → Nat → Nat) (Q : Option Value → Hp → Prop) (i : Nat), Wp 116 189 (ls) (.ref i :: st) (n, sl, C, Z, I, L, R) Q ↔ (C i = 11 ∧ Wp 116 192 (ls) (.ref (R i 7) :: st) (n, sl, C, Z, I, L, R) Q)) ∧
  (∀ (ls : Lo) (st : List Value) (h : Hp) (Q : Option Value → Hp → Prop), Wp 116 192 (ls) (st) h Q ↔ Wp 116 193 (ls) (.int (3) :: st) h Q) ∧
  (∀ (ls : Lo) (st : List Value) (h : Hp) (Q : Option Value → Hp → Prop) (l0 l1 : Option Value) (x : Int32), Wp 116 193 (l0 :: l1 :: some (.int x) :: ls) (st) h Q ↔ Wp 116 194 (l0 :: l1 :: some (.int x) :: ls) (.int x :: st) h Q) ∧
  (∀ (ls : Lo) (st : List Value) (h : Hp) (Q : Option Value → Hp → Prop) (x y : Int32), Wp 116 194 (ls) (.int y :: .int x :: st) h Q ↔ Wp 116 195 (ls) (.int (x * y) :: st) h Q) ∧
  (∀ (ls : Lo) (st : List Value) (h : Hp) (Q : Option Value → Hp → Prop) (l0 l1 l2 l3 l4 l5 : Option Value) (x : Int32), Wp 116 195 (l0 :: l1 :: l2 :: l3 :: l4 :: l5 :: some (.int x) :: ls) (st) h Q ↔ Wp 116 197 (l0 :: l1 :: l2 :: l3 :: l4 :: l5 :: some (.int x) :: ls) (.int x :: st) h Q) ∧
  (∀ (ls : Lo) (st : List Value) (h : Hp) (Q : Option Value → Hp → Prop) (x y : Int32), Wp 116 197 (ls) (.int y :: .int x :: st) h Q ↔ Wp 116 198 (ls) (.int (x + y) :: st) h Q) ∧
  (∀ (ls : Lo) (st : List Value) (h : Hp) (Q : Option Value → Hp → Prop) (l0 l1 l2 l3 : Option Value) (x : Int32), Wp 116 198 (l0 :: l1 :: l2 :: l3 :: some (.int x) :: ls) (st) h Q ↔ Wp 116 200 (l0 :: l1 :: l2 :: l3 :: some (.int x) :: ls) (.int x :: st) h Q) ∧
  (∀ (ls : Lo) (st : List Value) (h : Hp) (Q : Option Value → Hp → Prop) (x y : Int32), Wp 116 200 (ls) (.int y :: .int x :: st) h Q ↔ Wp 116 201 (ls) (.int (x - y) :: st) h Q) ∧
  (∀ (ls : Lo) (st : List Value) (n sl : Nat) (C Z : Nat → Nat) (I : Nat → Nat → Int32) (L : Nat → Nat → Int64) (R : Nat → Nat → Nat) (Q : Option Value → Hp → Prop) (i : Nat) (y : Int32), Wp 116 201 (ls) (.int y :: .ref i :: st) (n, sl, C, Z, I, L, R) Q ↔ ((inb y (Z i) = true ∧ C i = 21) ∧ Wp 116 202 (ls) (.int (I i (ix y)) :: st) (n, sl, C, Z, I, L, R) Q)) ∧
  (∀ (ls : Lo) (st : List Value) (h : Hp) (Q : Option Value → Hp → Prop), Wp 116 202 (ls) (st) h Q ↔ Wp 116 241 (ls) (st) h Q) ∧
  (∀ (ls : Lo) (st : List Value) (h : Hp) (Q : Option Value → Hp → Prop) (l0 l1 l2 : Option Value) (x : Int32), Wp 116 205 (l0 :: l1 :: l2 :: some (.int x) :: ls) (st) h Q ↔ Wp 116 206 (l0 :: l1 :: l2 :: some (.int x) :: ls) (.int x :: st) h Q) ∧
  (∀ (ls : Lo) (st : List Value) (h : Hp) (Q : Option Value → Hp → Prop) (x : Int32), Wp 116 206 (ls) (.int x :: st) h Q ↔ Br 116 230 209 ls st h Q (x = 0)) ∧
  (∀ (ls : Lo) (st : List Value) (h : Hp) (Q : Option Value → Hp → Prop)  (i : Nat), Wp 116 209 (some (.ref i) :: ls) (st) h Q ↔ Wp 116 210 (some (.ref i) :: ls) (.ref i :: st) h Q) ∧
  (∀ (ls : Lo) (st : List Value) (n sl : Nat) (C Z : Nat → Nat) (I : Nat → Nat → Int32) (L : Nat → Nat → Int64) (R : Nat → Nat → Nat) (Q : Option Value → Hp → Prop) (i : Nat), Wp 116 210 (ls) (.ref i :: st) (n, sl, C, Z, I, L, R) Q ↔ (C i = 11 ∧ Wp 116 213 (ls) (.ref (R i 4) :: st) (n, sl, C, Z, I, L, R) Q)) := ⟨by intro ls st h Q x y; exact e_iadd d116_171,
  by intro ls st h Q l0 l1 l2 l3 x; exact e_iload d116_172 rfl,
  by intro ls st h Q x y; exact e_isub d116_174,
  by intro ls st n sl C Z I L R Q i y; exact e_iald d116_175,
  by intro ls st n sl C Z I L R Q i x y; exact e_iast d116_176,
  by intro ls st h Q i; exact e_aload_n d116_177 rfl,
  by intro ls st n sl C Z I L R Q i; exact e_get (g := 10) (s := 10) (ty := 2) d116_178 rfl rfl (inG_ne (by decide)),
  by intro ls st h Q l0 l1 l2 l3 l4 l5 x; exact e_iload d116_181 rfl,
  by intro ls st h Q l0 l1 l2 l3 l4 l5 l6 x; exact e_iload d116_183 rfl,
  by intro ls st h Q x; exact e_if d116_185 (by decide) c_ne,
  by intro ls st h Q i; exact e_aload_n d116_188 rfl,
  by intro ls st n sl C Z I L R Q i; exact e_get (g := 10) (s := 7) (ty := 2) d116_189 rfl rfl (inG_ne (by decide)),
  by intro ls st h Q; exact e_iconst d116_192 rfl,
  by intro ls st h Q l0 l1 x; exact e_iload_n d116_193 rfl,
  by intro ls st h Q x y; exact e_imul d116_194,
  by intro ls st h Q l0 l1 l2 l3 l4 l5 x; exact e_iload d116_195 rfl,
  by intro ls st h Q x y; exact e_iadd d116_197,
  by intro ls st h Q l0 l1 l2 l3 x; exact e_iload d116_198 rfl,
  by intro ls st h Q x y; exact e_isub d116_200,
  by intro ls st n sl C Z I L R Q i y; exact e_iald d116_201,
  by intro ls st h Q; exact e_goto d116_202 (by decide),
  by intro ls st h Q l0 l1 l2 x; exact e_iload_n d116_205 rfl,
  by intro ls st h Q x; exact e_if d116_206 (by decide) c_eq,
  by intro ls st h Q i; exact e_aload_n d116_209 rfl,
  by intro ls st n sl C Z I L R Q i; exact e_get (g := 10) (s := 4) (ty := 2) d116_210 rfl rfl (inG_ne (by decide))⟩
set_option maxRecDepth 20000 in
theorem S116_5 : (∀ (ls : Lo) (st : List Value) (h : Hp) (Q : Option Value → Hp → Prop) (l0 l1 : Option Value) (x : Int32), Wp 116 213 (l0 :: l1 :: some (.int x) :: ls) (st) h Q ↔ Wp 116 214 (l0 :: l1 :: some (.int x) :: ls) (.int x :: st) h Q) ∧
  (∀ (ls : Lo) (st : List Value) (n sl : Nat) (C Z : Nat → Nat) (I : Nat → Nat → Int32) (L : Nat → Nat → Int64) (R : Nat → Nat → Nat) (Q : Option Value → Hp → Prop) (i : Nat) (y : Int32), Wp 116 214 (ls) (.int y :: .ref i :: st) (n, sl, C, Z, I, L, R) Q ↔ ((inb y (Z i) = true ∧ C i = 21) ∧ Wp 116 215 (ls) (.int (I i (ix y)) :: st) (n, sl, C, Z, I, L, R) Q)) ∧
  (∀ (ls : Lo) (st : List Value) (h : Hp) (Q : Option Value → Hp → Prop)  (i : Nat), Wp 116 215 (some (.ref i) :: ls) (st) h Q ↔ Wp 116 216 (some (.ref i) :: ls) (.ref i :: st) h Q) ∧
  (∀ (ls : Lo) (st : List Value) (n sl : Nat) (C Z : Nat → Nat) (I : Nat → Nat → Int32) (L : Nat → Nat → Int64) (R : Nat → Nat → Nat) (Q : Option Value → Hp → Prop) (i : Nat), Wp 116 216 (ls) (.ref i :: st) (n, sl, C, Z, I, L, R) Q ↔ (C i = 11 ∧ Wp 116 219 (ls) (.ref (R i 7) :: st) (n, sl, C, Z, I, L, R) Q)) ∧
  (∀ (ls : Lo) (st : List Value) (h : Hp) (Q : Option Value → Hp → Prop), Wp 116 219 (ls) (st) h Q ↔ Wp 116 220 (ls) (.int (3) :: st) h Q) ∧
  (∀ (ls : Lo) (st : List Value) (h : Hp) (Q : Option Value → Hp → Prop) (l0 : Option Value) (x : Int32), Wp 116 220 (l0 :: some (.int x) :: ls) (st) h Q ↔ Wp 116 221 (l0 :: some (.int x) :: ls) (.int x :: st) h Q) ∧
  (∀ (ls : Lo) (st : List Value) (h : Hp) (Q : Option Value → Hp → Prop) (x y : Int32), Wp 116 221 (ls) (.int y :: .int x :: st) h Q ↔ Wp 116 222 (ls) (.int (x * y) :: st) h Q) ∧
  (∀ (ls : Lo) (st : List Value) (h : Hp) (Q : Option Value → Hp → Prop) (l0 l1 l2 l3 l4 l5 : Option Value) (x : Int32), Wp 116 222 (l0 :: l1 :: l2 :: l3 :: l4 :: l5 :: some (.int x) :: ls) (st) h Q ↔ Wp 116 224 (l0 :: l1 :: l2 :: l3 :: l4 :: l5 :: some (.int x) :: ls) (.int x :: st) h Q) ∧
  (∀ (ls : Lo) (st : List Value) (h : Hp) (Q : Option Value → Hp → Prop) (x y : Int32), Wp 116 224 (ls) (.int y :: .int x :: st) h Q ↔ Wp 116 225 (ls) (.int (x + y) :: st) h Q) ∧
  (∀ (ls : Lo) (st : List Value) (n sl : Nat) (C Z : Nat → Nat) (I : Nat → Nat → Int32) (L : Nat → Nat → Int64) (R : Nat → Nat → Nat) (Q : Option Value → Hp → Prop) (i : Nat) (y : Int32), Wp 116 225 (ls) (.int y :: .ref i :: st) (n, sl, C, Z, I, L, R) Q ↔ ((inb y (Z i) = true ∧ C i = 21) ∧ Wp 116 226 (ls) (.int (I i (ix y)) :: st) (n, sl, C, Z, I, L, R) Q)) ∧
  (∀ (ls : Lo) (st : List Value) (h : Hp) (Q : Option Value → Hp → Prop) (x y : Int32), Wp 116 226 (ls) (.int y :: .int x :: st) h Q ↔ Wp 116 227 (ls) (.int (x * y) :: st) h Q) ∧
  (∀ (ls : Lo) (st : List Value) (h : Hp) (Q : Option Value → Hp → Prop), Wp 116 227 (ls) (st) h Q ↔ Wp 116 241 (ls) (st) h Q) ∧
  (∀ (ls : Lo) (st : List Value) (h : Hp) (Q : Option Value → Hp → Prop)  (i : Nat), Wp 116 230 (some (.ref i) :: ls) (st) h Q ↔ Wp 116 231 (some (.ref i) :: ls) (.ref i :: st) h Q) ∧
  (∀ (ls : Lo) (st : List Value) (n sl : Nat) (C Z : Nat → Nat) (I : Nat → Nat → Int32) (L : Nat → Nat → Int64) (R : Nat → Nat → Nat) (Q : Option Value → Hp → Prop) (i : Nat), Wp 116 231 (ls) (.ref i :: st) (n, sl, C, Z, I, L, R) Q ↔ (C i = 11 ∧ Wp 116 234 (ls) (.ref (R i 7) :: st) (n, sl, C, Z, I, L, R) Q)) ∧
  (∀ (ls : Lo) (st : List Value) (h : Hp) (Q : Option Value → Hp → Prop), Wp 116 234 (ls) (st) h Q ↔ Wp 116 235 (ls) (.int (3) :: st) h Q) ∧
  (∀ (ls : Lo) (st : List Value) (h : Hp) (Q : Option Value → Hp → Prop) (l0 : Option Value) (x : Int32), Wp 116 235 (l0 :: some (.int x) :: ls) (st) h Q ↔ Wp 116 236 (l0 :: some (.int x) :: ls) (.int x :: st) h Q) ∧
  (∀ (ls : Lo) (st : List Value) (h : Hp) (Q : Option Value → Hp → Prop) (x y : Int32), Wp 116 236 (ls) (.int y :: .int x :: st) h Q ↔ Wp 116 237 (ls) (.int (x * y) :: st) h Q) ∧
  (∀ (ls : Lo) (st : List Value) (h : Hp) (Q : Option Value → Hp → Prop) (l0 l1 l2 l3 l4 l5 : Option Value) (x : Int32), Wp 116 237 (l0 :: l1 :: l2 :: l3 :: l4 :: l5 :: some (.int x) :: ls) (st) h Q ↔ Wp 116 239 (l0 :: l1 :: l2 :: l3 :: l4 :: l5 :: some (.int x) :: ls) (.int x :: st) h Q) ∧
  (∀ (ls : Lo) (st : List Value) (h : Hp) (Q : Option Value → Hp → Prop) (x y : Int32), Wp 116 239 (ls) (.int y :: .int x :: st) h Q ↔ Wp 116 240 (ls) (.int (x + y) :: st) h Q) ∧
  (∀ (ls : Lo) (st : List Value) (n sl : Nat) (C Z : Nat → Nat) (I : Nat → Nat → Int32) (L : Nat → Nat → Int64) (R : Nat → Nat → Nat) (Q : Option Value → Hp → Prop) (i : Nat) (y : Int32), Wp 116 240 (ls) (.int y :: .ref i :: st) (n, sl, C, Z, I, L, R) Q ↔ ((inb y (Z i) = true ∧ C i = 21) ∧ Wp 116 241 (ls) (.int (I i (ix y)) :: st) (n, sl, C, Z, I, L, R) Q)) ∧
  (∀ (ls : Lo) (st : List Value) (n sl : Nat) (C Z : Nat → Nat) (I : Nat → Nat → Int32) (L : Nat → Nat → Int64) (R : Nat → Nat → Nat) (Q : Option Value → Hp → Prop) (i : Nat) (x y : Int32), Wp 116 241 (ls) (.int x :: .int y :: .ref i :: st) (n, sl, C, Z, I, L, R) Q ↔ ((inb y (Z i) = true ∧ C i = 21) ∧ Wp 116 242 (ls) (st) (n, sl, C, Z, u2 I i (ix y) x, L, R) Q)) ∧
  (∀ (ls : Lo) (st : List Value) (h : Hp) (Q : Option Value → Hp → Prop), Wp 116 242 (ls) (st) h Q ↔ Wp 116 243 (ls) (.int (0) :: st) h Q) ∧
  (∀ (ls : Lo) (st : List Value) (h : Hp) (Q : Option Value → Hp → Prop) (l0 l1 l2 l3 l4 l5 l6 l7 l8 : Option Value) (x : Int32), Wp 116 243 (l0 :: l1 :: l2 :: l3 :: l4 :: l5 :: l6 :: l7 :: l8 :: ls) (.int x :: st) h Q ↔ Wp 116 245 (l0 :: l1 :: l2 :: l3 :: l4 :: l5 :: l6 :: clr l7 :: some (.int x) :: ls) (st) h Q) ∧
  (∀ (ls : Lo) (st : List Value) (h : Hp) (Q : Option Value → Hp → Prop) (l0 l1 l2 l3 l4 l5 l6 l7 : Option Value) (x : Int32), Wp 116 245 (l0 :: l1 :: l2 :: l3 :: l4 :: l5 :: l6 :: l7 :: some (.int x) :: ls) (st) h Q ↔ Wp 116 247 (l0 :: l1 :: l2 :: l3 :: l4 :: l5 :: l6 :: l7 :: some (.int x) :: ls) (.int x :: st) h Q) ∧
  (∀ (ls : Lo) (st : List Value) (h : Hp) (Q : Option Value → Hp → Prop) (l0 l1 l2 l3 l4 : Option Value) (x : Int32), Wp 116 247 (l0 :: l1 :: l2 :: l3 :: l4 :: some (.int x) :: ls) (st) h Q ↔ Wp 116 249 (l0 :: l1 :: l2 :: l3 :: l4 :: some (.int x) :: ls) (.int x :: st) h Q) := ⟨by intro ls st h Q l0 l1 x; exact e_iload_n d116_213 rfl,
  by intro ls st n sl C Z I L R Q i y; exact e_iald d116_214,
  by intro ls st h Q i; exact e_aload_n d116_215 rfl,
  by intro ls st n sl C Z I L R Q i; exact e_get (g := 10) (s := 7) (ty := 2) d116_216 rfl rfl (inG_ne (by decide)),
  by intro ls st h Q; exact e_iconst d116_219 rfl,
  by intro ls st h Q l0 x; exact e_iload_n d116_220 rfl,
  by intro ls st h Q x y; exact e_imul d116_221,
  by intro ls st h Q l0 l1 l2 l3 l4 l5 x; exact e_iload d116_222 rfl,
  by intro ls st h Q x y; exact e_iadd d116_224,
  by intro ls st n sl C Z I L R Q i y; exact e_iald d116_225,
  by intro ls st h Q x y; exact e_imul d116_226,
  by intro ls st h Q; exact e_goto d116_227 (by decide),
  by intro ls st h Q i; exact e_aload_n d116_230 rfl,
  by intro ls st n sl C Z I L R Q i; exact e_get (g := 10) (s := 7) (ty := 2) d116_231 rfl rfl (inG_ne (by decide)),
  by intro ls st h Q; exact e_iconst d116_234 rfl,
  by intro ls st h Q l0 x; exact e_iload_n d116_235 rfl,
  by intro ls st h Q x y; exact e_imul d116_236,
  by intro ls st h Q l0 l1 l2 l3 l4 l5 x; exact e_iload d116_237 rfl,
  by intro ls st h Q x y; exact e_iadd d116_239,
  by intro ls st n sl C Z I L R Q i y; exact e_iald d116_240,
  by intro ls st n sl C Z I L R Q i x y; exact e_iast d116_241,
  by intro ls st h Q; exact e_iconst d116_242 rfl,
  by intro ls st h Q l0 l1 l2 l3 l4 l5 l6 l7 l8 x; exact e_istore d116_243 rfl,
  by intro ls st h Q l0 l1 l2 l3 l4 l5 l6 l7 x; exact e_iload d116_245 rfl,
  by intro ls st h Q l0 l1 l2 l3 l4 x; exact e_iload d116_247 rfl⟩
set_option maxRecDepth 20000 in
theorem S116_6 : (∀ (ls : Lo) (st : List Value) (h : Hp) (Q : Option Value → Hp → Prop) (x y : Int32), Wp 116 249 (ls) (.int y :: .int x :: st) h Q ↔ Br 116 377 252 ls st h Q (y ≤ x)) ∧
  (∀ (ls : Lo) (st : List Value) (h : Hp) (Q : Option Value → Hp → Prop), Wp 116 252 (ls) (st) h Q ↔ Wp 116 253 (ls) (.int (0) :: st) h Q) ∧
  (∀ (ls : Lo) (st : List Value) (h : Hp) (Q : Option Value → Hp → Prop) (l0 l1 l2 l3 l4 l5 l6 l7 l8 l9 : Option Value) (x : Int32), Wp 116 253 (l0 :: l1 :: l2 :: l3 :: l4 :: l5 :: l6 :: l7 :: l8 :: l9 :: ls) (.int x :: st) h Q ↔ Wp 116 255 (l0 :: l1 :: l2 :: l3 :: l4 :: l5 :: l6 :: l7 :: clr l8 :: some (.int x) :: ls) (st) h Q) ∧
  (∀ (ls : Lo) (st : List Value) (h : Hp) (Q : Option Value → Hp → Prop) (l0 l1 l2 l3 l4 l5 l6 : Option Value) (x : Int32), Wp 116 255 (l0 :: l1 :: l2 :: l3 :: l4 :: l5 :: l6 :: some (.int x) :: ls) (st) h Q ↔ Wp 116 257 (l0 :: l1 :: l2 :: l3 :: l4 :: l5 :: l6 :: some (.int x) :: ls) (.int x :: st) h Q) ∧
  (∀ (ls : Lo) (st : List Value) (h : Hp) (Q : Option Value → Hp → Prop) (x : Int32), Wp 116 257 (ls) (.int x :: st) h Q ↔ Br 116 281 260 ls st h Q (x = 0)) ∧
  (∀ (ls : Lo) (st : List Value) (h : Hp) (Q : Option Value → Hp → Prop) (l0 l1 l2 l3 l4 l5 l6 l7 : Option Value) (x : Int32), Wp 116 260 (l0 :: l1 :: l2 :: l3 :: l4 :: l5 :: l6 :: l7 :: some (.int x) :: ls) (st) h Q ↔ Wp 116 262 (l0 :: l1 :: l2 :: l3 :: l4 :: l5 :: l6 :: l7 :: some (.int x) :: ls) (.int x :: st) h Q) ∧
  (∀ (ls : Lo) (st : List Value) (h : Hp) (Q : Option Value → Hp → Prop) (l0 l1 l2 l3 : Option Value) (x : Int32), Wp 116 262 (l0 :: l1 :: l2 :: l3 :: some (.int x) :: ls) (st) h Q ↔ Wp 116 264 (l0 :: l1 :: l2 :: l3 :: some (.int x) :: ls) (.int x :: st) h Q) ∧
  (∀ (ls : Lo) (st : List Value) (h : Hp) (Q : Option Value → Hp → Prop) (x y : Int32), Wp 116 264 (ls) (.int y :: .int x :: st) h Q ↔ Br 116 281 267 ls st h Q (y ≤ x)) ∧
  (∀ (ls : Lo) (st : List Value) (h : Hp) (Q : Option Value → Hp → Prop)  (i : Nat), Wp 116 267 (some (.ref i) :: ls) (st) h Q ↔ Wp 116 268 (some (.ref i) :: ls) (.ref i :: st) h Q) ∧
  (∀ (ls : Lo) (st : List Value) (h : Hp) (Q : Option Value → Hp → Prop) (l0 : Option Value) (x : Int32), Wp 116 268 (l0 :: some (.int x) :: ls) (st) h Q ↔ Wp 116 269 (l0 :: some (.int x) :: ls) (.int x :: st) h Q) ∧
  (∀ (ls : Lo) (st : List Value) (h : Hp) (Q : Option Value → Hp → Prop) (l0 l1 l2 l3 l4 l5 : Option Value) (x : Int32), Wp 116 269 (l0 :: l1 :: l2 :: l3 :: l4 :: l5 :: some (.int x) :: ls) (st) h Q ↔ Wp 116 271 (l0 :: l1 :: l2 :: l3 :: l4 :: l5 :: some (.int x) :: ls) (.int x :: st) h Q) ∧
  (∀ (ls : Lo) (st : List Value) (h : Hp) (Q : Option Value → Hp → Prop) (l0 l1 l2 l3 l4 l5 l6 l7 : Option Value) (x : Int32), Wp 116 271 (l0 :: l1 :: l2 :: l3 :: l4 :: l5 :: l6 :: l7 :: some (.int x) :: ls) (st) h Q ↔ Wp 116 273 (l0 :: l1 :: l2 :: l3 :: l4 :: l5 :: l6 :: l7 :: some (.int x) :: ls) (.int x :: st) h Q) ∧
  (∀ (ls : Lo) (st : List Value) (n sl : Nat) (C Z : Nat → Nat) (I : Nat → Nat → Int32) (L : Nat → Nat → Int64) (R : Nat → Nat → Nat) (Q : Option Value → Hp → Prop) (x0 : Int32) (x1 : Int32) (x2 : Int32) (i : Nat), C i = 11 → (Wp 116 273 (ls) (.int x2 :: .int x1 :: .int x0 :: .ref i :: st) (n, sl, C, Z, I, L, R) Q ↔ (wsum st ≤ 8 ∧ Call 104 [some (.ref i), some (.int x0), some (.int x1), some (.int x2)] (n, sl, C, Z, I, L, R) 116 276 ls st Q))) ∧
  (∀ (ls : Lo) (st : List Value) (h : Hp) (Q : Option Value → Hp → Prop) (l0 l1 l2 l3 l4 l5 l6 l7 l8 l9 : Option Value) (x : Int32), Wp 116 276 (l0 :: l1 :: l2 :: l3 :: l4 :: l5 :: l6 :: l7 :: l8 :: l9 :: ls) (.int x :: st) h Q ↔ Wp 116 278 (l0 :: l1 :: l2 :: l3 :: l4 :: l5 :: l6 :: l7 :: clr l8 :: some (.int x) :: ls) (st) h Q) ∧
  (∀ (ls : Lo) (st : List Value) (h : Hp) (Q : Option Value → Hp → Prop), Wp 116 278 (ls) (st) h Q ↔ Wp 116 357 (ls) (st) h Q) ∧
  (∀ (ls : Lo) (st : List Value) (h : Hp) (Q : Option Value → Hp → Prop) (l0 l1 l2 l3 l4 l5 l6 : Option Value) (x : Int32), Wp 116 281 (l0 :: l1 :: l2 :: l3 :: l4 :: l5 :: l6 :: some (.int x) :: ls) (st) h Q ↔ Wp 116 283 (l0 :: l1 :: l2 :: l3 :: l4 :: l5 :: l6 :: some (.int x) :: ls) (.int x :: st) h Q) ∧
  (∀ (ls : Lo) (st : List Value) (h : Hp) (Q : Option Value → Hp → Prop) (x : Int32), Wp 116 283 (ls) (.int x :: st) h Q ↔ Br 116 313 286 ls st h Q (¬ x = 0)) ∧
  (∀ (ls : Lo) (st : List Value) (h : Hp) (Q : Option Value → Hp → Prop) (l0 l1 l2 l3 l4 l5 l6 l7 : Option Value) (x : Int32), Wp 116 286 (l0 :: l1 :: l2 :: l3 :: l4 :: l5 :: l6 :: l7 :: some (.int x) :: ls) (st) h Q ↔ Wp 116 288 (l0 :: l1 :: l2 :: l3 :: l4 :: l5 :: l6 :: l7 :: some (.int x) :: ls) (.int x :: st) h Q) ∧
  (∀ (ls : Lo) (st : List Value) (h : Hp) (Q : Option Value → Hp → Prop) (l0 l1 l2 l3 : Option Value) (x : Int32), Wp 116 288 (l0 :: l1 :: l2 :: l3 :: some (.int x) :: ls) (st) h Q ↔ Wp 116 290 (l0 :: l1 :: l2 :: l3 :: some (.int x) :: ls) (.int x :: st) h Q) ∧
  (∀ (ls : Lo) (st : List Value) (h : Hp) (Q : Option Value → Hp → Prop) (x y : Int32), Wp 116 290 (ls) (.int y :: .int x :: st) h Q ↔ Br 116 313 293 ls st h Q (x < y)) ∧
  (∀ (ls : Lo) (st : List Value) (h : Hp) (Q : Option Value → Hp → Prop)  (i : Nat), Wp 116 293 (some (.ref i) :: ls) (st) h Q ↔ Wp 116 294 (some (.ref i) :: ls) (.ref i :: st) h Q) ∧
  (∀ (ls : Lo) (st : List Value) (h : Hp) (Q : Option Value → Hp → Prop) (l0 l1 : Option Value) (x : Int32), Wp 116 294 (l0 :: l1 :: some (.int x) :: ls) (st) h Q ↔ Wp 116 295 (l0 :: l1 :: some (.int x) :: ls) (.int x :: st) h Q) ∧
  (∀ (ls : Lo) (st : List Value) (h : Hp) (Q : Option Value → Hp → Prop) (l0 l1 l2 l3 l4 l5 : Option Value) (x : Int32), Wp 116 295 (l0 :: l1 :: l2 :: l3 :: l4 :: l5 :: some (.int x) :: ls) (st) h Q ↔ Wp 116 297 (l0 :: l1 :: l2 :: l3 :: l4 :: l5 :: some (.int x) :: ls) (.int x :: st) h Q) ∧
  (∀ (ls : Lo) (st : List Value) (h : Hp) (Q : Option Value → Hp → Prop) (l0 l1 l2 l3 : Option Value) (x : Int32), Wp 116 297 (l0 :: l1 :: l2 :: l3 :: some (.int x) :: ls) (st) h Q ↔ Wp 116 299 (l0 :: l1 :: l2 :: l3 :: some (.int x) :: ls) (.int x :: st) h Q) ∧
  (∀ (ls : Lo) (st : List Value) (h : Hp) (Q : Option Value → Hp → Prop) (x y : Int32), Wp 116 299 (ls) (.int y :: .int x :: st) h Q ↔ Wp 116 300 (ls) (.int (x - y) :: st) h Q) := ⟨by intro ls st h Q x y; exact e_ic d116_249 (by decide) c_ge,
  by intro ls st h Q; exact e_iconst d116_252 rfl,
  by intro ls st h Q l0 l1 l2 l3 l4 l5 l6 l7 l8 l9 x; exact e_istore d116_253 rfl,
  by intro ls st h Q l0 l1 l2 l3 l4 l5 l6 x; exact e_iload d116_255 rfl,
  by intro ls st h Q x; exact e_if d116_257 (by decide) c_eq,
  by intro ls st h Q l0 l1 l2 l3 l4 l5 l6 l7 x; exact e_iload d116_260 rfl,
  by intro ls st h Q l0 l1 l2 l3 x; exact e_iload d116_262 rfl,
  by intro ls st h Q x y; exact e_ic d116_264 (by decide) c_ge,
  by intro ls st h Q i; exact e_aload_n d116_267 rfl,
  by intro ls st h Q l0 x; exact e_iload_n d116_268 rfl,
  by intro ls st h Q l0 l1 l2 l3 l4 l5 x; exact e_iload d116_269 rfl,
  by intro ls st h Q l0 l1 l2 l3 l4 l5 l6 l7 x; exact e_iload d116_271 rfl,
  by intro ls st n sl C Z I L R Q x0 x1 x2 i hh; exact e_iv (k2 := 104) (c := 11) (as := [.int x0, .int x1, .int x2]) d116_273 rfl (by decide) rfl rfl (by decide +kernel) (Nat.le_of_ble_eq_true rfl) rfl hh,
  by intro ls st h Q l0 l1 l2 l3 l4 l5 l6 l7 l8 l9 x; exact e_istore d116_276 rfl,
  by intro ls st h Q; exact e_goto d116_278 (by decide),
  by intro ls st h Q l0 l1 l2 l3 l4 l5 l6 x; exact e_iload d116_281 rfl,
  by intro ls st h Q x; exact e_if d116_283 (by decide) c_ne,
  by intro ls st h Q l0 l1 l2 l3 l4 l5 l6 l7 x; exact e_iload d116_286 rfl,
  by intro ls st h Q l0 l1 l2 l3 x; exact e_iload d116_288 rfl,
  by intro ls st h Q x y; exact e_ic d116_290 (by decide) c_lt,
  by intro ls st h Q i; exact e_aload_n d116_293 rfl,
  by intro ls st h Q l0 l1 x; exact e_iload_n d116_294 rfl,
  by intro ls st h Q l0 l1 l2 l3 l4 l5 x; exact e_iload d116_295 rfl,
  by intro ls st h Q l0 l1 l2 l3 x; exact e_iload d116_297 rfl,
  by intro ls st h Q x y; exact e_isub d116_299⟩
set_option maxRecDepth 20000 in
theorem S116_7 : (∀ (ls : Lo) (st : List Value) (h : Hp) (Q : Option Value → Hp → Prop) (l0 l1 l2 l3 l4 l5 l6 l7 : Option Value) (x : Int32), Wp 116 300 (l0 :: l1 :: l2 :: l3 :: l4 :: l5 :: l6 :: l7 :: some (.int x) :: ls) (st) h Q ↔ Wp 116 302 (l0 :: l1 :: l2 :: l3 :: l4 :: l5 :: l6 :: l7 :: some (.int x) :: ls) (.int x :: st) h Q) ∧
  (∀ (ls : Lo) (st : List Value) (h : Hp) (Q : Option Value → Hp → Prop) (l0 l1 l2 l3 : Option Value) (x : Int32), Wp 116 302 (l0 :: l1 :: l2 :: l3 :: some (.int x) :: ls) (st) h Q ↔ Wp 116 304 (l0 :: l1 :: l2 :: l3 :: some (.int x) :: ls) (.int x :: st) h Q) ∧
  (∀ (ls : Lo) (st : List Value) (h : Hp) (Q : Option Value → Hp → Prop) (x y : Int32), Wp 116 304 (ls) (.int y :: .int x :: st) h Q ↔ Wp 116 305 (ls) (.int (x - y) :: st) h Q) ∧
  (∀ (ls : Lo) (st : List Value) (n sl : Nat) (C Z : Nat → Nat) (I : Nat → Nat → Int32) (L : Nat → Nat → Int64) (R : Nat → Nat → Nat) (Q : Option Value → Hp → Prop) (x0 : Int32) (x1 : Int32) (x2 : Int32) (i : Nat), C i = 11 → (Wp 116 305 (ls) (.int x2 :: .int x1 :: .int x0 :: .ref i :: st) (n, sl, C, Z, I, L, R) Q ↔ (wsum st ≤ 8 ∧ Call 104 [some (.ref i), some (.int x0), some (.int x1), some (.int x2)] (n, sl, C, Z, I, L, R) 116 308 ls st Q))) ∧
  (∀ (ls : Lo) (st : List Value) (h : Hp) (Q : Option Value → Hp → Prop) (l0 l1 l2 l3 l4 l5 l6 l7 l8 l9 : Option Value) (x : Int32), Wp 116 308 (l0 :: l1 :: l2 :: l3 :: l4 :: l5 :: l6 :: l7 :: l8 :: l9 :: ls) (.int x :: st) h Q ↔ Wp 116 310 (l0 :: l1 :: l2 :: l3 :: l4 :: l5 :: l6 :: l7 :: clr l8 :: some (.int x) :: ls) (st) h Q) ∧
  (∀ (ls : Lo) (st : List Value) (h : Hp) (Q : Option Value → Hp → Prop), Wp 116 310 (ls) (st) h Q ↔ Wp 116 357 (ls) (st) h Q) ∧
  (∀ (ls : Lo) (st : List Value) (h : Hp) (Q : Option Value → Hp → Prop) (l0 l1 l2 l3 l4 l5 l6 : Option Value) (x : Int32), Wp 116 313 (l0 :: l1 :: l2 :: l3 :: l4 :: l5 :: l6 :: some (.int x) :: ls) (st) h Q ↔ Wp 116 315 (l0 :: l1 :: l2 :: l3 :: l4 :: l5 :: l6 :: some (.int x) :: ls) (.int x :: st) h Q) ∧
  (∀ (ls : Lo) (st : List Value) (h : Hp) (Q : Option Value → Hp → Prop) (x : Int32), Wp 116 315 (ls) (.int x :: st) h Q ↔ Br 116 357 318 ls st h Q (¬ x = 0)) ∧
  (∀ (ls : Lo) (st : List Value) (h : Hp) (Q : Option Value → Hp → Prop) (l0 l1 l2 : Option Value) (x : Int32), Wp 116 318 (l0 :: l1 :: l2 :: some (.int x) :: ls) (st) h Q ↔ Wp 116 319 (l0 :: l1 :: l2 :: some (.int x) :: ls) (.int x :: st) h Q) ∧
  (∀ (ls : Lo) (st : List Value) (h : Hp) (Q : Option Value → Hp → Prop) (x : Int32), Wp 116 319 (ls) (.int x :: st) h Q ↔ Br 116 357 322 ls st h Q (x = 0)) ∧
  (∀ (ls : Lo) (st : List Value) (h : Hp) (Q : Option Value → Hp → Prop)  (i : Nat), Wp 116 322 (some (.ref i) :: ls) (st) h Q ↔ Wp 116 323 (some (.ref i) :: ls) (.ref i :: st) h Q) ∧
  (∀ (ls : Lo) (st : List Value) (n sl : Nat) (C Z : Nat → Nat) (I : Nat → Nat → Int32) (L : Nat → Nat → Int64) (R : Nat → Nat → Nat) (Q : Option Value → Hp → Prop) (i : Nat), Wp 116 323 (ls) (.ref i :: st) (n, sl, C, Z, I, L, R) Q ↔ (C i = 11 ∧ Wp 116 326 (ls) (.ref (R i 3) :: st) (n, sl, C, Z, I, L, R) Q)) ∧
  (∀ (ls : Lo) (st : List Value) (h : Hp) (Q : Option Value → Hp → Prop) (l0 : Option Value) (x : Int32), Wp 116 326 (l0 :: some (.int x) :: ls) (st) h Q ↔ Wp 116 327 (l0 :: some (.int x) :: ls) (.int x :: st) h Q) ∧
  (∀ (ls : Lo) (st : List Value) (n sl : Nat) (C Z : Nat → Nat) (I : Nat → Nat → Int32) (L : Nat → Nat → Int64) (R : Nat → Nat → Nat) (Q : Option Value → Hp → Prop) (i : Nat) (y : Int32), Wp 116 327 (ls) (.int y :: .ref i :: st) (n, sl, C, Z, I, L, R) Q ↔ ((inb y (Z i) = true ∧ C i = 21) ∧ Wp 116 328 (ls) (.int (I i (ix y)) :: st) (n, sl, C, Z, I, L, R) Q)) ∧
  (∀ (ls : Lo) (st : List Value) (h : Hp) (Q : Option Value → Hp → Prop)  (i : Nat), Wp 116 328 (some (.ref i) :: ls) (st) h Q ↔ Wp 116 329 (some (.ref i) :: ls) (.ref i :: st) h Q) ∧
  (∀ (ls : Lo) (st : List Value) (n sl : Nat) (C Z : Nat → Nat) (I : Nat → Nat → Int32) (L : Nat → Nat → Int64) (R : Nat → Nat → Nat) (Q : Option Value → Hp → Prop) (i : Nat), Wp 116 329 (ls) (.ref i :: st) (n, sl, C, Z, I, L, R) Q ↔ (C i = 11 ∧ Wp 116 332 (ls) (.ref (R i 6) :: st) (n, sl, C, Z, I, L, R) Q)) ∧
  (∀ (ls : Lo) (st : List Value) (h : Hp) (Q : Option Value → Hp → Prop), Wp 116 332 (ls) (st) h Q ↔ Wp 116 333 (ls) (.int (3) :: st) h Q) ∧
  (∀ (ls : Lo) (st : List Value) (h : Hp) (Q : Option Value → Hp → Prop) (l0 l1 : Option Value) (x : Int32), Wp 116 333 (l0 :: l1 :: some (.int x) :: ls) (st) h Q ↔ Wp 116 334 (l0 :: l1 :: some (.int x) :: ls) (.int x :: st) h Q) ∧
  (∀ (ls : Lo) (st : List Value) (h : Hp) (Q : Option Value → Hp → Prop) (x y : Int32), Wp 116 334 (ls) (.int y :: .int x :: st) h Q ↔ Wp 116 335 (ls) (.int (x * y) :: st) h Q) ∧
  (∀ (ls : Lo) (st : List Value) (h : Hp) (Q : Option Value → Hp → Prop) (l0 l1 l2 l3 l4 l5 : Option Value) (x : Int32), Wp 116 335 (l0 :: l1 :: l2 :: l3 :: l4 :: l5 :: some (.int x) :: ls) (st) h Q ↔ Wp 116 337 (l0 :: l1 :: l2 :: l3 :: l4 :: l5 :: some (.int x) :: ls) (.int x :: st) h Q) ∧
  (∀ (ls : Lo) (st : List Value) (h : Hp) (Q : Option Value → Hp → Prop) (x y : Int32), Wp 116 337 (ls) (.int y :: .int x :: st) h Q ↔ Wp 116 338 (ls) (.int (x + y) :: st) h Q) ∧
  (∀ (ls : Lo) (st : List Value) (h : Hp) (Q : Option Value → Hp → Prop) (l0 l1 l2 l3 : Option Value) (x : Int32), Wp 116 338 (l0 :: l1 :: l2 :: l3 :: some (.int x) :: ls) (st) h Q ↔ Wp 116 340 (l0 :: l1 :: l2 :: l3 :: some (.int x) :: ls) (.int x :: st) h Q) ∧
  (∀ (ls : Lo) (st : List Value) (h : Hp) (Q : Option Value → Hp → Prop) (x y : Int32), Wp 116 340 (ls) (.int y :: .int x :: st) h Q ↔ Wp 116 341 (ls) (.int (x - y) :: st) h Q) ∧
  (∀ (ls : Lo) (st : List Value) (n sl : Nat) (C Z : Nat → Nat) (I : Nat → Nat → Int32) (L : Nat → Nat → Int64) (R : Nat → Nat → Nat) (Q : Option Value → Hp → Prop) (i : Nat) (y : Int32), Wp 116 341 (ls) (.int y :: .ref i :: st) (n, sl, C, Z, I, L, R) Q ↔ ((inb y (Z i) = true ∧ C i = 21) ∧ Wp 116 342 (ls) (.int (I i (ix y)) :: st) (n, sl, C, Z, I, L, R) Q)) ∧
  (∀ (ls : Lo) (st : List Value) (h : Hp) (Q : Option Value → Hp → Prop) (x y : Int32), Wp 116 342 (ls) (.int y :: .int x :: st) h Q ↔ Wp 116 343 (ls) (.int (x * y) :: st) h Q) := ⟨by intro ls st h Q l0 l1 l2 l3 l4 l5 l6 l7 x; exact e_iload d116_300 rfl,
  by intro ls st h Q l0 l1 l2 l3 x; exact e_iload d116_302 rfl,
  by intro ls st h Q x y; exact e_isub d116_304,
  by intro ls st n sl C Z I L R Q x0 x1 x2 i hh; exact e_iv (k2 := 104) (c := 11) (as := [.int x0, .int x1, .int x2]) d116_305 rfl (by decide) rfl rfl (by decide +kernel) (Nat.le_of_ble_eq_true rfl) rfl hh,
  by intro ls st h Q l0 l1 l2 l3 l4 l5 l6 l7 l8 l9 x; exact e_istore d116_308 rfl,
  by intro ls st h Q; exact e_goto d116_310 (by decide),
  by intro ls st h Q l0 l1 l2 l3 l4 l5 l6 x; exact e_iload d116_313 rfl,
  by intro ls st h Q x; exact e_if d116_315 (by decide) c_ne,
  by intro ls st h Q l0 l1 l2 x; exact e_iload_n d116_318 rfl,
  by intro ls st h Q x; exact e_if d116_319 (by decide) c_eq,
  by intro ls st h Q i; exact e_aload_n d116_322 rfl,
  by intro ls st n sl C Z I L R Q i; exact e_get (g := 10) (s := 3) (ty := 2) d116_323 rfl rfl (inG_ne (by decide)),
  by intro ls st h Q l0 x; exact e_iload_n d116_326 rfl,
  by intro ls st n sl C Z I L R Q i y; exact e_iald d116_327,
  by intro ls st h Q i; exact e_aload_n d116_328 rfl,
  by intro ls st n sl C Z I L R Q i; exact e_get (g := 10) (s := 6) (ty := 2) d116_329 rfl rfl (inG_ne (by decide)),
  by intro ls st h Q; exact e_iconst d116_332 rfl,
  by intro ls st h Q l0 l1 x; exact e_iload_n d116_333 rfl,
  by intro ls st h Q x y; exact e_imul d116_334,
  by intro ls st h Q l0 l1 l2 l3 l4 l5 x; exact e_iload d116_335 rfl,
  by intro ls st h Q x y; exact e_iadd d116_337,
  by intro ls st h Q l0 l1 l2 l3 x; exact e_iload d116_338 rfl,
  by intro ls st h Q x y; exact e_isub d116_340,
  by intro ls st n sl C Z I L R Q i y; exact e_iald d116_341,
  by intro ls st h Q x y; exact e_imul d116_342⟩
set_option maxRecDepth 20000 in
theorem S116_8 : (∀ (ls : Lo) (st : List Value) (h : Hp) (Q : Option Value → Hp → Prop)  (i : Nat), Wp 116 343 (some (.ref i) :: ls) (st) h Q ↔ Wp 116 344 (some (.ref i) :: ls) (.ref i :: st) h Q) ∧
  (∀ (ls : Lo) (st : List Value) (n sl : Nat) (C Z : Nat → Nat) (I : Nat → Nat → Int32) (L : Nat → Nat → Int64) (R : Nat → Nat → Nat) (Q : Option Value → Hp → Prop) (i : Nat), Wp 116 344 (ls) (.ref i :: st) (n, sl, C, Z, I, L, R) Q ↔ (C i = 11 ∧ Wp 116 347 (ls) (.ref (R i 7) :: st) (n, sl, C, Z, I, L, R) Q)) ∧
  (∀ (ls : Lo) (st : List Value) (h : Hp) (Q : Option Value → Hp → Prop), Wp 116 347 (ls) (st) h Q ↔ Wp 116 348 (ls) (.int (3) :: st) h Q) ∧
  (∀ (ls : Lo) (st : List Value) (h : Hp) (Q : Option Value → Hp → Prop) (l0 : Option Value) (x : Int32), Wp 116 348 (l0 :: some (.int x) :: ls) (st) h Q ↔ Wp 116 349 (l0 :: some (.int x) :: ls) (.int x :: st) h Q) ∧
  (∀ (ls : Lo) (st : List Value) (h : Hp) (Q : Option Value → Hp → Prop) (x y : Int32), Wp 116 349 (ls) (.int y :: .int x :: st) h Q ↔ Wp 116 350 (ls) (.int (x * y) :: st) h Q) ∧
  (∀ (ls : Lo) (st : List Value) (h : Hp) (Q : Option Value → Hp → Prop) (l0 l1 l2 l3 l4 l5 l6 l7 : Option Value) (x : Int32), Wp 116 350 (l0 :: l1 :: l2 :: l3 :: l4 :: l5 :: l6 :: l7 :: some (.int x) :: ls) (st) h Q ↔ Wp 116 352 (l0 :: l1 :: l2 :: l3 :: l4 :: l5 :: l6 :: l7 :: some (.int x) :: ls) (.int x :: st) h Q) ∧
  (∀ (ls : Lo) (st : List Value) (h : Hp) (Q : Option Value → Hp → Prop) (x y : Int32), Wp 116 352 (ls) (.int y :: .int x :: st) h Q ↔ Wp 116 353 (ls) (.int (x + y) :: st) h Q) ∧
  (∀ (ls : Lo) (st : List Value) (n sl : Nat) (C Z : Nat → Nat) (I : Nat → Nat → Int32) (L : Nat → Nat → Int64) (R : Nat → Nat → Nat) (Q : Option Value → Hp → Prop) (i : Nat) (y : Int32), Wp 116 353 (ls) (.int y :: .ref i :: st) (n, sl, C, Z, I, L, R) Q ↔ ((inb y (Z i) = true ∧ C i = 21) ∧ Wp 116 354 (ls) (.int (I i (ix y)) :: st) (n, sl, C, Z, I, L, R) Q)) ∧
  (∀ (ls : Lo) (st : List Value) (h : Hp) (Q : Option Value → Hp → Prop) (x y : Int32), Wp 116 354 (ls) (.int y :: .int x :: st) h Q ↔ Wp 116 355 (ls) (.int (x * y) :: st) h Q) ∧
  (∀ (ls : Lo) (st : List Value) (h : Hp) (Q : Option Value → Hp → Prop) (l0 l1 l2 l3 l4 l5 l6 l7 l8 l9 : Option Value) (x : Int32), Wp 116 355 (l0 :: l1 :: l2 :: l3 :: l4 :: l5 :: l6 :: l7 :: l8 :: l9 :: ls) (.int x :: st) h Q ↔ Wp 116 357 (l0 :: l1 :: l2 :: l3 :: l4 :: l5 :: l6 :: l7 :: clr l8 :: some (.int x) :: ls) (st) h Q) ∧
  (∀ (ls : Lo) (st : List Value) (h : Hp) (Q : Option Value → Hp → Prop)  (i : Nat), Wp 116 357 (some (.ref i) :: ls) (st) h Q ↔ Wp 116 358 (some (.ref i) :: ls) (.ref i :: st) h Q) ∧
  (∀ (ls : Lo) (st : List Value) (n sl : Nat) (C Z : Nat → Nat) (I : Nat → Nat → Int32) (L : Nat → Nat → Int64) (R : Nat → Nat → Nat) (Q : Option Value → Hp → Prop) (i : Nat), Wp 116 358 (ls) (.ref i :: st) (n, sl, C, Z, I, L, R) Q ↔ (C i = 11 ∧ Wp 116 361 (ls) (.ref (R i 8) :: st) (n, sl, C, Z, I, L, R) Q)) ∧
  (∀ (ls : Lo) (st : List Value) (h : Hp) (Q : Option Value → Hp → Prop), Wp 116 361 (ls) (st) h Q ↔ Wp 116 362 (ls) (.int (3) :: st) h Q) ∧
  (∀ (ls : Lo) (st : List Value) (h : Hp) (Q : Option Value → Hp → Prop) (l0 l1 l2 l3 l4 l5 : Option Value) (x : Int32), Wp 116 362 (l0 :: l1 :: l2 :: l3 :: l4 :: l5 :: some (.int x) :: ls) (st) h Q ↔ Wp 116 364 (l0 :: l1 :: l2 :: l3 :: l4 :: l5 :: some (.int x) :: ls) (.int x :: st) h Q) ∧
  (∀ (ls : Lo) (st : List Value) (h : Hp) (Q : Option Value → Hp → Prop) (x y : Int32), Wp 116 364 (ls) (.int y :: .int x :: st) h Q ↔ Wp 116 365 (ls) (.int (x * y) :: st) h Q) ∧
  (∀ (ls : Lo) (st : List Value) (h : Hp) (Q : Option Value → Hp → Prop) (l0 l1 l2 l3 l4 l5 l6 l7 : Option Value) (x : Int32), Wp 116 365 (l0 :: l1 :: l2 :: l3 :: l4 :: l5 :: l6 :: l7 :: some (.int x) :: ls) (st) h Q ↔ Wp 116 367 (l0 :: l1 :: l2 :: l3 :: l4 :: l5 :: l6 :: l7 :: some (.int x) :: ls) (.int x :: st) h Q) ∧
  (∀ (ls : Lo) (st : List Value) (h : Hp) (Q : Option Value → Hp → Prop) (x y : Int32), Wp 116 367 (ls) (.int y :: .int x :: st) h Q ↔ Wp 116 368 (ls) (.int (x + y) :: st) h Q) ∧
  (∀ (ls : Lo) (st : List Value) (h : Hp) (Q : Option Value → Hp → Prop) (l0 l1 l2 l3 l4 l5 l6 l7 l8 : Option Value) (x : Int32), Wp 116 368 (l0 :: l1 :: l2 :: l3 :: l4 :: l5 :: l6 :: l7 :: l8 :: some (.int x) :: ls) (st) h Q ↔ Wp 116 370 (l0 :: l1 :: l2 :: l3 :: l4 :: l5 :: l6 :: l7 :: l8 :: some (.int x) :: ls) (.int x :: st) h Q) ∧
  (∀ (ls : Lo) (st : List Value) (n sl : Nat) (C Z : Nat → Nat) (I : Nat → Nat → Int32) (L : Nat → Nat → Int64) (R : Nat → Nat → Nat) (Q : Option Value → Hp → Prop) (i : Nat) (x y : Int32), Wp 116 370 (ls) (.int x :: .int y :: .ref i :: st) (n, sl, C, Z, I, L, R) Q ↔ ((inb y (Z i) = true ∧ C i = 21) ∧ Wp 116 371 (ls) (st) (n, sl, C, Z, u2 I i (ix y) x, L, R) Q)) ∧
  (∀ (ls : Lo) (st : List Value) (h : Hp) (Q : Option Value → Hp → Prop) (l0 l1 l2 l3 l4 l5 l6 l7 : Option Value) (x : Int32), Wp 116 371 (l0 :: l1 :: l2 :: l3 :: l4 :: l5 :: l6 :: l7 :: some (.int x) :: ls) (st) h Q ↔ Wp 116 374 (l0 :: l1 :: l2 :: l3 :: l4 :: l5 :: l6 :: clr l7 :: some (.int (x + (1))) :: ls) (st) h Q) ∧
  (∀ (ls : Lo) (st : List Value) (h : Hp) (Q : Option Value → Hp → Prop), Wp 116 374 (ls) (st) h Q ↔ Wp 116 245 (ls) (st) h Q) ∧
  (∀ (ls : Lo) (st : List Value) (h : Hp) (Q : Option Value → Hp → Prop) (l0 l1 l2 l3 l4 l5 : Option Value) (x : Int32), Wp 116 377 (l0 :: l1 :: l2 :: l3 :: l4 :: l5 :: some (.int x) :: ls) (st) h Q ↔ Wp 116 380 (l0 :: l1 :: l2 :: l3 :: l4 :: clr l5 :: some (.int (x + (1))) :: ls) (st) h Q) ∧
  (∀ (ls : Lo) (st : List Value) (h : Hp) (Q : Option Value → Hp → Prop), Wp 116 380 (ls) (st) h Q ↔ Wp 116 88 (ls) (st) h Q) ∧
  (∀ (ls : Lo) (st : List Value) (h : Hp) (Q : Option Value → Hp → Prop)  (i : Nat), Wp 116 383 (some (.ref i) :: ls) (st) h Q ↔ Wp 116 384 (some (.ref i) :: ls) (.ref i :: st) h Q) ∧
  (∀ (ls : Lo) (st : List Value) (h : Hp) (Q : Option Value → Hp → Prop), Wp 116 384 (ls) (st) h Q ↔ Wp 116 385 (ls) (.int (2) :: st) h Q) := ⟨by intro ls st h Q i; exact e_aload_n d116_343 rfl,
  by intro ls st n sl C Z I L R Q i; exact e_get (g := 10) (s := 7) (ty := 2) d116_344 rfl rfl (inG_ne (by decide)),
  by intro ls st h Q; exact e_iconst d116_347 rfl,
  by intro ls st h Q l0 x; exact e_iload_n d116_348 rfl,
  by intro ls st h Q x y; exact e_imul d116_349,
  by intro ls st h Q l0 l1 l2 l3 l4 l5 l6 l7 x; exact e_iload d116_350 rfl,
  by intro ls st h Q x y; exact e_iadd d116_352,
  by intro ls st n sl C Z I L R Q i y; exact e_iald d116_353,
  by intro ls st h Q x y; exact e_imul d116_354,
  by intro ls st h Q l0 l1 l2 l3 l4 l5 l6 l7 l8 l9 x; exact e_istore d116_355 rfl,
  by intro ls st h Q i; exact e_aload_n d116_357 rfl,
  by intro ls st n sl C Z I L R Q i; exact e_get (g := 10) (s := 8) (ty := 2) d116_358 rfl rfl (inG_ne (by decide)),
  by intro ls st h Q; exact e_iconst d116_361 rfl,
  by intro ls st h Q l0 l1 l2 l3 l4 l5 x; exact e_iload d116_362 rfl,
  by intro ls st h Q x y; exact e_imul d116_364,
  by intro ls st h Q l0 l1 l2 l3 l4 l5 l6 l7 x; exact e_iload d116_365 rfl,
  by intro ls st h Q x y; exact e_iadd d116_367,
  by intro ls st h Q l0 l1 l2 l3 l4 l5 l6 l7 l8 x; exact e_iload d116_368 rfl,
  by intro ls st n sl C Z I L R Q i x y; exact e_iast d116_370,
  by intro ls st h Q l0 l1 l2 l3 l4 l5 l6 l7 x; exact e_iinc d116_371 rfl rfl rfl,
  by intro ls st h Q; exact e_goto d116_374 (by decide),
  by intro ls st h Q l0 l1 l2 l3 l4 l5 x; exact e_iinc d116_377 rfl rfl rfl,
  by intro ls st h Q; exact e_goto d116_380 (by decide),
  by intro ls st h Q i; exact e_aload_n d116_383 rfl,
  by intro ls st h Q; exact e_iconst d116_384 rfl⟩
set_option maxRecDepth 20000 in
theorem S116_9 : (∀ (ls : Lo) (st : List Value) (h : Hp) (Q : Option Value → Hp → Prop) (l0 l1 l2 l3 l4 : Option Value) (x : Int32), Wp 116 385 (l0 :: l1 :: l2 :: l3 :: l4 :: some (.int x) :: ls) (st) h Q ↔ Wp 116 387 (l0 :: l1 :: l2 :: l3 :: l4 :: some (.int x) :: ls) (.int x :: st) h Q) ∧
  (∀ (ls : Lo) (st : List Value) (h : Hp) (Q : Option Value → Hp → Prop)  (i : Nat), Wp 116 387 (some (.ref i) :: ls) (st) h Q ↔ Wp 116 388 (some (.ref i) :: ls) (.ref i :: st) h Q) ∧
  (∀ (ls : Lo) (st : List Value) (n sl : Nat) (C Z : Nat → Nat) (I : Nat → Nat → Int32) (L : Nat → Nat → Int64) (R : Nat → Nat → Nat) (Q : Option Value → Hp → Prop) (i : Nat), Wp 116 388 (ls) (.ref i :: st) (n, sl, C, Z, I, L, R) Q ↔ (C i = 11 ∧ Wp 116 391 (ls) (.ref (R i 3) :: st) (n, sl, C, Z, I, L, R) Q)) ∧
  (∀ (ls : Lo) (st : List Value) (h : Hp) (Q : Option Value → Hp → Prop) (l0 : Option Value) (x : Int32), Wp 116 391 (l0 :: some (.int x) :: ls) (st) h Q ↔ Wp 116 392 (l0 :: some (.int x) :: ls) (.int x :: st) h Q) ∧
  (∀ (ls : Lo) (st : List Value) (n sl : Nat) (C Z : Nat → Nat) (I : Nat → Nat → Int32) (L : Nat → Nat → Int64) (R : Nat → Nat → Nat) (Q : Option Value → Hp → Prop) (i : Nat) (y : Int32), Wp 116 392 (ls) (.int y :: .ref i :: st) (n, sl, C, Z, I, L, R) Q ↔ ((inb y (Z i) = true ∧ C i = 21) ∧ Wp 116 393 (ls) (.int (I i (ix y)) :: st) (n, sl, C, Z, I, L, R) Q)) ∧
  (∀ (ls : Lo) (st : List Value) (h : Hp) (Q : Option Value → Hp → Prop) (l0 l1 l2 : Option Value) (x : Int32), Wp 116 393 (l0 :: l1 :: l2 :: some (.int x) :: ls) (st) h Q ↔ Wp 116 394 (l0 :: l1 :: l2 :: some (.int x) :: ls) (.int x :: st) h Q) ∧
  (∀ (ls : Lo) (st : List Value) (h : Hp) (Q : Option Value → Hp → Prop) (x : Int32), Wp 116 394 (ls) (.int x :: st) h Q ↔ Br 116 413 397 ls st h Q (x = 0)) ∧
  (∀ (ls : Lo) (st : List Value) (h : Hp) (Q : Option Value → Hp → Prop)  (i : Nat), Wp 116 397 (some (.ref i) :: ls) (st) h Q ↔ Wp 116 398 (some (.ref i) :: ls) (.ref i :: st) h Q) ∧
  (∀ (ls : Lo) (st : List Value) (n sl : Nat) (C Z : Nat → Nat) (I : Nat → Nat → Int32) (L : Nat → Nat → Int64) (R : Nat → Nat → Nat) (Q : Option Value → Hp → Prop) (i : Nat), Wp 116 398 (ls) (.ref i :: st) (n, sl, C, Z, I, L, R) Q ↔ (C i = 11 ∧ Wp 116 401 (ls) (.ref (R i 4) :: st) (n, sl, C, Z, I, L, R) Q)) ∧
  (∀ (ls : Lo) (st : List Value) (h : Hp) (Q : Option Value → Hp → Prop) (l0 : Option Value) (x : Int32), Wp 116 401 (l0 :: some (.int x) :: ls) (st) h Q ↔ Wp 116 402 (l0 :: some (.int x) :: ls) (.int x :: st) h Q) ∧
  (∀ (ls : Lo) (st : List Value) (n sl : Nat) (C Z : Nat → Nat) (I : Nat → Nat → Int32) (L : Nat → Nat → Int64) (R : Nat → Nat → Nat) (Q : Option Value → Hp → Prop) (i : Nat) (y : Int32), Wp 116 402 (ls) (.int y :: .ref i :: st) (n, sl, C, Z, I, L, R) Q ↔ ((inb y (Z i) = true ∧ C i = 21) ∧ Wp 116 403 (ls) (.int (I i (ix y)) :: st) (n, sl, C, Z, I, L, R) Q)) ∧
  (∀ (ls : Lo) (st : List Value) (h : Hp) (Q : Option Value → Hp → Prop)  (i : Nat), Wp 116 403 (some (.ref i) :: ls) (st) h Q ↔ Wp 116 404 (some (.ref i) :: ls) (.ref i :: st) h Q) ∧
  (∀ (ls : Lo) (st : List Value) (n sl : Nat) (C Z : Nat → Nat) (I : Nat → Nat → Int32) (L : Nat → Nat → Int64) (R : Nat → Nat → Nat) (Q : Option Value → Hp → Prop) (i : Nat), Wp 116 404 (ls) (.ref i :: st) (n, sl, C, Z, I, L, R) Q ↔ (C i = 11 ∧ Wp 116 407 (ls) (.ref (R i 4) :: st) (n, sl, C, Z, I, L, R) Q)) ∧
  (∀ (ls : Lo) (st : List Value) (h : Hp) (Q : Option Value → Hp → Prop) (l0 l1 : Option Value) (x : Int32), Wp 116 407 (l0 :: l1 :: some (.int x) :: ls) (st) h Q ↔ Wp 116 408 (l0 :: l1 :: some (.int x) :: ls) (.int x :: st) h Q) ∧
  (∀ (ls : Lo) (st : List Value) (n sl : Nat) (C Z : Nat → Nat) (I : Nat → Nat → Int32) (L : Nat → Nat → Int64) (R : Nat → Nat → Nat) (Q : Option Value → Hp → Prop) (i : Nat) (y : Int32), Wp 116 408 (ls) (.int y :: .ref i :: st) (n, sl, C, Z, I, L, R) Q ↔ ((inb y (Z i) = true ∧ C i = 21) ∧ Wp 116 409 (ls) (.int (I i (ix y)) :: st) (n, sl, C, Z, I, L, R) Q)) ∧
  (∀ (ls : Lo) (st : List Value) (h : Hp) (Q : Option Value → Hp → Prop) (x y : Int32), Wp 116 409 (ls) (.int y :: .int x :: st) h Q ↔ Wp 116 410 (ls) (.int (x * y) :: st) h Q) ∧
  (∀ (ls : Lo) (st : List Value) (h : Hp) (Q : Option Value → Hp → Prop), Wp 116 410 (ls) (st) h Q ↔ Wp 116 426 (ls) (st) h Q) ∧
  (∀ (ls : Lo) (st : List Value) (h : Hp) (Q : Option Value → Hp → Prop)  (i : Nat), Wp 116 413 (some (.ref i) :: ls) (st) h Q ↔ Wp 116 414 (some (.ref i) :: ls) (.ref i :: st) h Q) ∧
  (∀ (ls : Lo) (st : List Value) (n sl : Nat) (C Z : Nat → Nat) (I : Nat → Nat → Int32) (L : Nat → Nat → Int64) (R : Nat → Nat → Nat) (Q : Option Value → Hp → Prop) (i : Nat), Wp 116 414 (ls) (.ref i :: st) (n, sl, C, Z, I, L, R) Q ↔ (C i = 11 ∧ Wp 116 417 (ls) (.ref (R i 4) :: st) (n, sl, C, Z, I, L, R) Q)) ∧
  (∀ (ls : Lo) (st : List Value) (h : Hp) (Q : Option Value → Hp → Prop) (l0 : Option Value) (x : Int32), Wp 116 417 (l0 :: some (.int x) :: ls) (st) h Q ↔ Wp 116 418 (l0 :: some (.int x) :: ls) (.int x :: st) h Q) ∧
  (∀ (ls : Lo) (st : List Value) (n sl : Nat) (C Z : Nat → Nat) (I : Nat → Nat → Int32) (L : Nat → Nat → Int64) (R : Nat → Nat → Nat) (Q : Option Value → Hp → Prop) (i : Nat) (y : Int32), Wp 116 418 (ls) (.int y :: .ref i :: st) (n, sl, C, Z, I, L, R) Q ↔ ((inb y (Z i) = true ∧ C i = 21) ∧ Wp 116 419 (ls) (.int (I i (ix y)) :: st) (n, sl, C, Z, I, L, R) Q)) ∧
  (∀ (ls : Lo) (st : List Value) (h : Hp) (Q : Option Value → Hp → Prop)  (i : Nat), Wp 116 419 (some (.ref i) :: ls) (st) h Q ↔ Wp 116 420 (some (.ref i) :: ls) (.ref i :: st) h Q) ∧
  (∀ (ls : Lo) (st : List Value) (n sl : Nat) (C Z : Nat → Nat) (I : Nat → Nat → Int32) (L : Nat → Nat → Int64) (R : Nat → Nat → Nat) (Q : Option Value → Hp → Prop) (i : Nat), Wp 116 420 (ls) (.ref i :: st) (n, sl, C, Z, I, L, R) Q ↔ (C i = 11 ∧ Wp 116 423 (ls) (.ref (R i 4) :: st) (n, sl, C, Z, I, L, R) Q)) ∧
  (∀ (ls : Lo) (st : List Value) (h : Hp) (Q : Option Value → Hp → Prop) (l0 l1 : Option Value) (x : Int32), Wp 116 423 (l0 :: l1 :: some (.int x) :: ls) (st) h Q ↔ Wp 116 424 (l0 :: l1 :: some (.int x) :: ls) (.int x :: st) h Q) ∧
  (∀ (ls : Lo) (st : List Value) (n sl : Nat) (C Z : Nat → Nat) (I : Nat → Nat → Int32) (L : Nat → Nat → Int64) (R : Nat → Nat → Nat) (Q : Option Value → Hp → Prop) (i : Nat) (y : Int32), Wp 116 424 (ls) (.int y :: .ref i :: st) (n, sl, C, Z, I, L, R) Q ↔ ((inb y (Z i) = true ∧ C i = 21) ∧ Wp 116 425 (ls) (.int (I i (ix y)) :: st) (n, sl, C, Z, I, L, R) Q)) := ⟨by intro ls st h Q l0 l1 l2 l3 l4 x; exact e_iload d116_385 rfl,
  by intro ls st h Q i; exact e_aload_n d116_387 rfl,
  by intro ls st n sl C Z I L R Q i; exact e_get (g := 10) (s := 3) (ty := 2) d116_388 rfl rfl (inG_ne (by decide)),
  by intro ls st h Q l0 x; exact e_iload_n d116_391 rfl,
  by intro ls st n sl C Z I L R Q i y; exact e_iald d116_392,
  by intro ls st h Q l0 l1 l2 x; exact e_iload_n d116_393 rfl,
  by intro ls st h Q x; exact e_if d116_394 (by decide) c_eq,
  by intro ls st h Q i; exact e_aload_n d116_397 rfl,
  by intro ls st n sl C Z I L R Q i; exact e_get (g := 10) (s := 4) (ty := 2) d116_398 rfl rfl (inG_ne (by decide)),
  by intro ls st h Q l0 x; exact e_iload_n d116_401 rfl,
  by intro ls st n sl C Z I L R Q i y; exact e_iald d116_402,
  by intro ls st h Q i; exact e_aload_n d116_403 rfl,
  by intro ls st n sl C Z I L R Q i; exact e_get (g := 10) (s := 4) (ty := 2) d116_404 rfl rfl (inG_ne (by decide)),
  by intro ls st h Q l0 l1 x; exact e_iload_n d116_407 rfl,
  by intro ls st n sl C Z I L R Q i y; exact e_iald d116_408,
  by intro ls st h Q x y; exact e_imul d116_409,
  by intro ls st h Q; exact e_goto d116_410 (by decide),
  by intro ls st h Q i; exact e_aload_n d116_413 rfl,
  by intro ls st n sl C Z I L R Q i; exact e_get (g := 10) (s := 4) (ty := 2) d116_414 rfl rfl (inG_ne (by decide)),
  by intro ls st h Q l0 x; exact e_iload_n d116_417 rfl,
  by intro ls st n sl C Z I L R Q i y; exact e_iald d116_418,
  by intro ls st h Q i; exact e_aload_n d116_419 rfl,
  by intro ls st n sl C Z I L R Q i; exact e_get (g := 10) (s := 4) (ty := 2) d116_420 rfl rfl (inG_ne (by decide)),
  by intro ls st h Q l0 l1 x; exact e_iload_n d116_423 rfl,
  by intro ls st n sl C Z I L R Q i y; exact e_iald d116_424⟩
set_option maxRecDepth 20000 in
theorem S116_10 : (∀ (ls : Lo) (st : List Value) (h : Hp) (Q : Option Value → Hp → Prop) (x y : Int32), Wp 116 425 (ls) (.int y :: .int x :: st) h Q ↔ Wp 116 426 (ls) (.int (x + y) :: st) h Q) ∧
  (∀ (ls : Lo) (st : List Value) (n sl : Nat) (C Z : Nat → Nat) (I : Nat → Nat → Int32) (L : Nat → Nat → Int64) (R : Nat → Nat → Nat) (Q : Option Value → Hp → Prop) (x0 : Int32) (x1 : Int32) (x2 : Int32) (x3 : Int32) (i : Nat), C i = 11 → (Wp 116 426 (ls) (.int x3 :: .int x2 :: .int x1 :: .int x0 :: .ref i :: st) (n, sl, C, Z, I, L, R) Q ↔ (wsum st ≤ 8 ∧ Call 115 [some (.ref i), some (.int x0), some (.int x1), some (.int x2), some (.int x3), none, none, none, none] (n, sl, C, Z, I, L, R) 116 429 ls st Q))) ∧
  (∀ (ls : Lo) (h : Hp) (Q : Option Value → Hp → Prop) (x : Int32), Wp 116 429 (ls) ([.int x]) h Q ↔ Q (some (.int x)) h) := ⟨by intro ls st h Q x y; exact e_iadd d116_425,
  by intro ls st n sl C Z I L R Q x0 x1 x2 x3 i hh; exact e_iv (k2 := 115) (c := 11) (as := [.int x0, .int x1, .int x2, .int x3]) d116_426 rfl (by decide) rfl rfl (by decide +kernel) (Nat.le_of_ble_eq_true rfl) rfl hh,
  by intros; exact e_rI (p := True) d116_429 rfl⟩
theorem d117_0 : decode (byt 117) 0 = .ok (.aload_n 0, 1) := by decide +kernel
theorem d117_1 : decode (byt 117) 1 = .ok (.iload_n 1, 1) := by decide +kernel
theorem d117_2 : decode (byt 117) 2 = .ok (.iload_n 2, 1) := by decide +kernel
theorem d117_3 : decode (byt 117) 3 = .ok (.iconst 1, 1) := by decide +kernel
theorem d117_4 : decode (byt 117) 4 = .ok (.invokevirtual 124, 3) := by decide +kernel
theorem d117_7 : decode (byt 117) 7 = .ok (.ireturn, 1) := by decide +kernel
set_option maxRecDepth 20000 in
theorem S117_0 : (∀ (ls : Lo) (st : List Value) (h : Hp) (Q : Option Value → Hp → Prop)  (i : Nat), Wp 117 0 (some (.ref i) :: ls) (st) h Q ↔ Wp 117 1 (some (.ref i) :: ls) (.ref i :: st) h Q) ∧
  (∀ (ls : Lo) (st : List Value) (h : Hp) (Q : Option Value → Hp → Prop) (l0 : Option Value) (x : Int32), Wp 117 1 (l0 :: some (.int x) :: ls) (st) h Q ↔ Wp 117 2 (l0 :: some (.int x) :: ls) (.int x :: st) h Q) ∧
  (∀ (ls : Lo) (st : List Value) (h : Hp) (Q : Option Value → Hp → Prop) (l0 l1 : Option Value) (x : Int32), Wp 117 2 (l0 :: l1 :: some (.int x) :: ls) (st) h Q ↔ Wp 117 3 (l0 :: l1 :: some (.int x) :: ls) (.int x :: st) h Q) ∧
  (∀ (ls : Lo) (st : List Value) (h : Hp) (Q : Option Value → Hp → Prop), Wp 117 3 (ls) (st) h Q ↔ Wp 117 4 (ls) (.int (1) :: st) h Q) ∧
  (∀ (ls : Lo) (st : List Value) (n sl : Nat) (C Z : Nat → Nat) (I : Nat → Nat → Int32) (L : Nat → Nat → Int64) (R : Nat → Nat → Nat) (Q : Option Value → Hp → Prop) (x0 : Int32) (x1 : Int32) (x2 : Int32) (i : Nat), C i = 11 → (Wp 117 4 (ls) (.int x2 :: .int x1 :: .int x0 :: .ref i :: st) (n, sl, C, Z, I, L, R) Q ↔ (wsum st ≤ 8 ∧ Call 116 [some (.ref i), some (.int x0), some (.int x1), some (.int x2), none, none, none, none, none, none] (n, sl, C, Z, I, L, R) 117 7 ls st Q))) ∧
  (∀ (ls : Lo) (h : Hp) (Q : Option Value → Hp → Prop) (x : Int32), Wp 117 7 (ls) ([.int x]) h Q ↔ Q (some (.int x)) h) := ⟨by intro ls st h Q i; exact e_aload_n d117_0 rfl,
  by intro ls st h Q l0 x; exact e_iload_n d117_1 rfl,
  by intro ls st h Q l0 l1 x; exact e_iload_n d117_2 rfl,
  by intro ls st h Q; exact e_iconst d117_3 rfl,
  by intro ls st n sl C Z I L R Q x0 x1 x2 i hh; exact e_iv (k2 := 116) (c := 11) (as := [.int x0, .int x1, .int x2]) d117_4 rfl (by decide) rfl rfl (by decide +kernel) (Nat.le_of_ble_eq_true rfl) rfl hh,
  by intros; exact e_rI (p := True) d117_7 rfl⟩
theorem d118_0 : decode (byt 118) 0 = .ok (.aload_n 0, 1) := by decide +kernel
theorem d118_1 : decode (byt 118) 1 = .ok (.iload_n 1, 1) := by decide +kernel
theorem d118_2 : decode (byt 118) 2 = .ok (.iload_n 2, 1) := by decide +kernel
theorem d118_3 : decode (byt 118) 3 = .ok (.iconst 0, 1) := by decide +kernel
theorem d118_4 : decode (byt 118) 4 = .ok (.invokevirtual 124, 3) := by decide +kernel
theorem d118_7 : decode (byt 118) 7 = .ok (.ireturn, 1) := by decide +kernel
set_option maxRecDepth 20000 in
theorem S118_0 : (∀ (ls : Lo) (st : List Value) (h : Hp) (Q : Option Value → Hp → Prop)  (i : Nat), Wp 118 0 (some (.ref i) :: ls) (st) h Q ↔ Wp 118 1 (some (.ref i) :: ls) (.ref i :: st) h Q) ∧
  (∀ (ls : Lo) (st : List Value) (h : Hp) (Q : Option Value → Hp → Prop) (l0 : Option Value) (x : Int32), Wp 118 1 (l0 :: some (.int x) :: ls) (st) h Q ↔ Wp 118 2 (l0 :: some (.int x) :: ls) (.int x :: st) h Q) ∧
  (∀ (ls : Lo) (st : List Value) (h : Hp) (Q : Option Value → Hp → Prop) (l0 l1 : Option Value) (x : Int32), Wp 118 2 (l0 :: l1 :: some (.int x) :: ls) (st) h Q ↔ Wp 118 3 (l0 :: l1 :: some (.int x) :: ls) (.int x :: st) h Q) ∧
  (∀ (ls : Lo) (st : List Value) (h : Hp) (Q : Option Value → Hp → Prop), Wp 118 3 (ls) (st) h Q ↔ Wp 118 4 (ls) (.int (0) :: st) h Q) ∧
  (∀ (ls : Lo) (st : List Value) (n sl : Nat) (C Z : Nat → Nat) (I : Nat → Nat → Int32) (L : Nat → Nat → Int64) (R : Nat → Nat → Nat) (Q : Option Value → Hp → Prop) (x0 : Int32) (x1 : Int32) (x2 : Int32) (i : Nat), C i = 11 → (Wp 118 4 (ls) (.int x2 :: .int x1 :: .int x0 :: .ref i :: st) (n, sl, C, Z, I, L, R) Q ↔ (wsum st ≤ 8 ∧ Call 116 [some (.ref i), some (.int x0), some (.int x1), some (.int x2), none, none, none, none, none, none] (n, sl, C, Z, I, L, R) 118 7 ls st Q))) ∧
  (∀ (ls : Lo) (h : Hp) (Q : Option Value → Hp → Prop) (x : Int32), Wp 118 7 (ls) ([.int x]) h Q ↔ Q (some (.int x)) h) := ⟨by intro ls st h Q i; exact e_aload_n d118_0 rfl,
  by intro ls st h Q l0 x; exact e_iload_n d118_1 rfl,
  by intro ls st h Q l0 l1 x; exact e_iload_n d118_2 rfl,
  by intro ls st h Q; exact e_iconst d118_3 rfl,
  by intro ls st n sl C Z I L R Q x0 x1 x2 i hh; exact e_iv (k2 := 116) (c := 11) (as := [.int x0, .int x1, .int x2]) d118_4 rfl (by decide) rfl rfl (by decide +kernel) (Nat.le_of_ble_eq_true rfl) rfl hh,
  by intros; exact e_rI (p := True) d118_7 rfl⟩
