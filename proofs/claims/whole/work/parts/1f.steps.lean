theorem d96_0 : decode (byt 96) 0 = .ok (.iconst 0, 1) := by decide +kernel
theorem d96_1 : decode (byt 96) 1 = .ok (.istore_n 2, 1) := by decide +kernel
theorem d96_2 : decode (byt 96) 2 = .ok (.iload_n 2, 1) := by decide +kernel
theorem d96_3 : decode (byt 96) 3 = .ok (.iconst 3, 1) := by decide +kernel
theorem d96_4 : decode (byt 96) 4 = .ok (.if_icmp .gt 56, 3) := by decide +kernel
theorem d96_7 : decode (byt 96) 7 = .ok (.aload_n 1, 1) := by decide +kernel
theorem d96_8 : decode (byt 96) 8 = .ok (.iload_n 2, 1) := by decide +kernel
theorem d96_9 : decode (byt 96) 9 = .ok (.invokevirtual 275, 3) := by decide +kernel
theorem d96_12 : decode (byt 96) 12 = .ok (.astore_n 3, 1) := by decide +kernel
theorem d96_13 : decode (byt 96) 13 = .ok (.aload_n 3, 1) := by decide +kernel
theorem d96_14 : decode (byt 96) 14 = .ok (.arraylength, 1) := by decide +kernel
theorem d96_15 : decode (byt 96) 15 = .ok (.istore 4, 2) := by decide +kernel
theorem d96_17 : decode (byt 96) 17 = .ok (.iconst 0, 1) := by decide +kernel
theorem d96_18 : decode (byt 96) 18 = .ok (.istore 5, 2) := by decide +kernel
theorem d96_20 : decode (byt 96) 20 = .ok (.iload 5, 2) := by decide +kernel
theorem d96_22 : decode (byt 96) 22 = .ok (.iload 4, 2) := by decide +kernel
theorem d96_24 : decode (byt 96) 24 = .ok (.if_icmp .ge 30, 3) := by decide +kernel
theorem d96_27 : decode (byt 96) 27 = .ok (.aload_n 3, 1) := by decide +kernel
theorem d96_28 : decode (byt 96) 28 = .ok (.iload 5, 2) := by decide +kernel
theorem d96_30 : decode (byt 96) 30 = .ok (.iaload, 1) := by decide +kernel
theorem d96_31 : decode (byt 96) 31 = .ok (.istore 6, 2) := by decide +kernel
theorem d96_33 : decode (byt 96) 33 = .ok (.iload 6, 2) := by decide +kernel
theorem d96_35 : decode (byt 96) 35 = .ok (.bipush (-12), 2) := by decide +kernel
theorem d96_37 : decode (byt 96) 37 = .ok (.bipush 12, 2) := by decide +kernel
theorem d96_39 : decode (byt 96) 39 = .ok (.invokestatic 66, 3) := by decide +kernel
theorem d96_42 : decode (byt 96) 42 = .ok (.ifCond .ne 6, 3) := by decide +kernel
theorem d96_45 : decode (byt 96) 45 = .ok (.bipush (-4), 2) := by decide +kernel
theorem d96_47 : decode (byt 96) 47 = .ok (.ireturn, 1) := by decide +kernel
theorem d96_48 : decode (byt 96) 48 = .ok (.iinc 5 1, 3) := by decide +kernel
theorem d96_51 : decode (byt 96) 51 = .ok (.goto (-31), 3) := by decide +kernel
theorem d96_54 : decode (byt 96) 54 = .ok (.iinc 2 1, 3) := by decide +kernel
theorem d96_57 : decode (byt 96) 57 = .ok (.goto (-55), 3) := by decide +kernel
theorem d96_60 : decode (byt 96) 60 = .ok (.aload_n 0, 1) := by decide +kernel
theorem d96_61 : decode (byt 96) 61 = .ok (.aload_n 1, 1) := by decide +kernel
theorem d96_62 : decode (byt 96) 62 = .ok (.invokevirtual 80, 3) := by decide +kernel
theorem d96_65 : decode (byt 96) 65 = .ok (.ireturn, 1) := by decide +kernel
set_option maxRecDepth 20000 in
theorem S96_0 : (∀ (ls : Lo) (st : List Value) (h : Hp) (Q : Option Value → Hp → Prop), Wp 96 0 (ls) (st) h Q ↔ Wp 96 1 (ls) (.int (0) :: st) h Q) ∧
  (∀ (ls : Lo) (st : List Value) (h : Hp) (Q : Option Value → Hp → Prop) (l0 l1 l2 : Option Value) (x : Int32), Wp 96 1 (l0 :: l1 :: l2 :: ls) (.int x :: st) h Q ↔ Wp 96 2 (l0 :: clr l1 :: some (.int x) :: ls) (st) h Q) ∧
  (∀ (ls : Lo) (st : List Value) (h : Hp) (Q : Option Value → Hp → Prop) (l0 l1 : Option Value) (x : Int32), Wp 96 2 (l0 :: l1 :: some (.int x) :: ls) (st) h Q ↔ Wp 96 3 (l0 :: l1 :: some (.int x) :: ls) (.int x :: st) h Q) ∧
  (∀ (ls : Lo) (st : List Value) (h : Hp) (Q : Option Value → Hp → Prop), Wp 96 3 (ls) (st) h Q ↔ Wp 96 4 (ls) (.int (3) :: st) h Q) ∧
  (∀ (ls : Lo) (st : List Value) (h : Hp) (Q : Option Value → Hp → Prop) (x y : Int32), Wp 96 4 (ls) (.int y :: .int x :: st) h Q ↔ Br 96 60 7 ls st h Q (y < x)) ∧
  (∀ (ls : Lo) (st : List Value) (h : Hp) (Q : Option Value → Hp → Prop) (l0 : Option Value) (i : Nat), Wp 96 7 (l0 :: some (.ref i) :: ls) (st) h Q ↔ Wp 96 8 (l0 :: some (.ref i) :: ls) (.ref i :: st) h Q) ∧
  (∀ (ls : Lo) (st : List Value) (h : Hp) (Q : Option Value → Hp → Prop) (l0 l1 : Option Value) (x : Int32), Wp 96 8 (l0 :: l1 :: some (.int x) :: ls) (st) h Q ↔ Wp 96 9 (l0 :: l1 :: some (.int x) :: ls) (.int x :: st) h Q) ∧
  (∀ (ls : Lo) (st : List Value) (n sl : Nat) (C Z : Nat → Nat) (I : Nat → Nat → Int32) (L : Nat → Nat → Int64) (R : Nat → Nat → Nat) (Q : Option Value → Hp → Prop) (x0 : Int32) (i : Nat), C i = 5 → (Wp 96 9 (ls) (.int x0 :: .ref i :: st) (n, sl, C, Z, I, L, R) Q ↔ (wsum st ≤ 8 ∧ Call 53 [some (.ref i), some (.int x0)] (n, sl, C, Z, I, L, R) 96 12 ls st Q))) ∧
  (∀ (ls : Lo) (st : List Value) (n sl : Nat) (C Z : Nat → Nat) (I : Nat → Nat → Int32) (L : Nat → Nat → Int64) (R : Nat → Nat → Nat) (Q : Option Value → Hp → Prop) (x0 : Int32) (i : Nat), C i = 6 → (Wp 96 9 (ls) (.int x0 :: .ref i :: st) (n, sl, C, Z, I, L, R) Q ↔ (wsum st ≤ 8 ∧ Call 53 [some (.ref i), some (.int x0)] (n, sl, C, Z, I, L, R) 96 12 ls st Q))) ∧
  (∀ (ls : Lo) (st : List Value) (h : Hp) (Q : Option Value → Hp → Prop) (l0 l1 l2 l3 : Option Value) (i : Nat), Wp 96 12 (l0 :: l1 :: l2 :: l3 :: ls) (.ref i :: st) h Q ↔ Wp 96 13 (l0 :: l1 :: clr l2 :: some (.ref i) :: ls) (st) h Q) ∧
  (∀ (ls : Lo) (st : List Value) (h : Hp) (Q : Option Value → Hp → Prop) (l0 l1 l2 : Option Value) (i : Nat), Wp 96 13 (l0 :: l1 :: l2 :: some (.ref i) :: ls) (st) h Q ↔ Wp 96 14 (l0 :: l1 :: l2 :: some (.ref i) :: ls) (.ref i :: st) h Q) ∧
  (∀ (ls : Lo) (st : List Value) (n sl : Nat) (C Z : Nat → Nat) (I : Nat → Nat → Int32) (L : Nat → Nat → Int64) (R : Nat → Nat → Nat) (Q : Option Value → Hp → Prop) (i : Nat), Wp 96 14 (ls) (.ref i :: st) (n, sl, C, Z, I, L, R) Q ↔ ((21 ≤ C i ∧ C i ≤ 25) ∧ Wp 96 15 (ls) (.int (Int32.ofNat (Z i)) :: st) (n, sl, C, Z, I, L, R) Q)) ∧
  (∀ (ls : Lo) (st : List Value) (h : Hp) (Q : Option Value → Hp → Prop) (l0 l1 l2 l3 l4 : Option Value) (x : Int32), Wp 96 15 (l0 :: l1 :: l2 :: l3 :: l4 :: ls) (.int x :: st) h Q ↔ Wp 96 17 (l0 :: l1 :: l2 :: clr l3 :: some (.int x) :: ls) (st) h Q) ∧
  (∀ (ls : Lo) (st : List Value) (h : Hp) (Q : Option Value → Hp → Prop), Wp 96 17 (ls) (st) h Q ↔ Wp 96 18 (ls) (.int (0) :: st) h Q) ∧
  (∀ (ls : Lo) (st : List Value) (h : Hp) (Q : Option Value → Hp → Prop) (l0 l1 l2 l3 l4 l5 : Option Value) (x : Int32), Wp 96 18 (l0 :: l1 :: l2 :: l3 :: l4 :: l5 :: ls) (.int x :: st) h Q ↔ Wp 96 20 (l0 :: l1 :: l2 :: l3 :: clr l4 :: some (.int x) :: ls) (st) h Q) ∧
  (∀ (ls : Lo) (st : List Value) (h : Hp) (Q : Option Value → Hp → Prop) (l0 l1 l2 l3 l4 : Option Value) (x : Int32), Wp 96 20 (l0 :: l1 :: l2 :: l3 :: l4 :: some (.int x) :: ls) (st) h Q ↔ Wp 96 22 (l0 :: l1 :: l2 :: l3 :: l4 :: some (.int x) :: ls) (.int x :: st) h Q) ∧
  (∀ (ls : Lo) (st : List Value) (h : Hp) (Q : Option Value → Hp → Prop) (l0 l1 l2 l3 : Option Value) (x : Int32), Wp 96 22 (l0 :: l1 :: l2 :: l3 :: some (.int x) :: ls) (st) h Q ↔ Wp 96 24 (l0 :: l1 :: l2 :: l3 :: some (.int x) :: ls) (.int x :: st) h Q) ∧
  (∀ (ls : Lo) (st : List Value) (h : Hp) (Q : Option Value → Hp → Prop) (x y : Int32), Wp 96 24 (ls) (.int y :: .int x :: st) h Q ↔ Br 96 54 27 ls st h Q (y ≤ x)) ∧
  (∀ (ls : Lo) (st : List Value) (h : Hp) (Q : Option Value → Hp → Prop) (l0 l1 l2 : Option Value) (i : Nat), Wp 96 27 (l0 :: l1 :: l2 :: some (.ref i) :: ls) (st) h Q ↔ Wp 96 28 (l0 :: l1 :: l2 :: some (.ref i) :: ls) (.ref i :: st) h Q) ∧
  (∀ (ls : Lo) (st : List Value) (h : Hp) (Q : Option Value → Hp → Prop) (l0 l1 l2 l3 l4 : Option Value) (x : Int32), Wp 96 28 (l0 :: l1 :: l2 :: l3 :: l4 :: some (.int x) :: ls) (st) h Q ↔ Wp 96 30 (l0 :: l1 :: l2 :: l3 :: l4 :: some (.int x) :: ls) (.int x :: st) h Q) ∧
  (∀ (ls : Lo) (st : List Value) (n sl : Nat) (C Z : Nat → Nat) (I : Nat → Nat → Int32) (L : Nat → Nat → Int64) (R : Nat → Nat → Nat) (Q : Option Value → Hp → Prop) (i : Nat) (y : Int32), Wp 96 30 (ls) (.int y :: .ref i :: st) (n, sl, C, Z, I, L, R) Q ↔ ((inb y (Z i) = true ∧ C i = 21) ∧ Wp 96 31 (ls) (.int (I i (ix y)) :: st) (n, sl, C, Z, I, L, R) Q)) ∧
  (∀ (ls : Lo) (st : List Value) (h : Hp) (Q : Option Value → Hp → Prop) (l0 l1 l2 l3 l4 l5 l6 : Option Value) (x : Int32), Wp 96 31 (l0 :: l1 :: l2 :: l3 :: l4 :: l5 :: l6 :: ls) (.int x :: st) h Q ↔ Wp 96 33 (l0 :: l1 :: l2 :: l3 :: l4 :: clr l5 :: some (.int x) :: ls) (st) h Q) ∧
  (∀ (ls : Lo) (st : List Value) (h : Hp) (Q : Option Value → Hp → Prop) (l0 l1 l2 l3 l4 l5 : Option Value) (x : Int32), Wp 96 33 (l0 :: l1 :: l2 :: l3 :: l4 :: l5 :: some (.int x) :: ls) (st) h Q ↔ Wp 96 35 (l0 :: l1 :: l2 :: l3 :: l4 :: l5 :: some (.int x) :: ls) (.int x :: st) h Q) ∧
  (∀ (ls : Lo) (st : List Value) (h : Hp) (Q : Option Value → Hp → Prop), Wp 96 35 (ls) (st) h Q ↔ Wp 96 37 (ls) (.int (-12) :: st) h Q) ∧
  (∀ (ls : Lo) (st : List Value) (h : Hp) (Q : Option Value → Hp → Prop), Wp 96 37 (ls) (st) h Q ↔ Wp 96 39 (ls) (.int (12) :: st) h Q) := ⟨by intro ls st h Q; exact e_iconst d96_0 rfl,
  by intro ls st h Q l0 l1 l2 x; exact e_istore_n d96_1 rfl,
  by intro ls st h Q l0 l1 x; exact e_iload_n d96_2 rfl,
  by intro ls st h Q; exact e_iconst d96_3 rfl,
  by intro ls st h Q x y; exact e_ic d96_4 (by decide) c_gt,
  by intro ls st h Q l0 i; exact e_aload_n d96_7 rfl,
  by intro ls st h Q l0 l1 x; exact e_iload_n d96_8 rfl,
  by intro ls st n sl C Z I L R Q x0 i hh; exact e_iv (k2 := 53) (c := 5) (as := [.int x0]) d96_9 rfl (by decide) rfl rfl (by decide +kernel) (Nat.le_of_ble_eq_true rfl) rfl hh,
  by intro ls st n sl C Z I L R Q x0 i hh; exact e_iv (k2 := 53) (c := 6) (as := [.int x0]) d96_9 rfl (by decide) rfl rfl (by decide +kernel) (Nat.le_of_ble_eq_true rfl) rfl hh,
  by intro ls st h Q l0 l1 l2 l3 i; exact e_astore_n d96_12 rfl,
  by intro ls st h Q l0 l1 l2 i; exact e_aload_n d96_13 rfl,
  by intro ls st n sl C Z I L R Q i; exact e_alen d96_14,
  by intro ls st h Q l0 l1 l2 l3 l4 x; exact e_istore d96_15 rfl,
  by intro ls st h Q; exact e_iconst d96_17 rfl,
  by intro ls st h Q l0 l1 l2 l3 l4 l5 x; exact e_istore d96_18 rfl,
  by intro ls st h Q l0 l1 l2 l3 l4 x; exact e_iload d96_20 rfl,
  by intro ls st h Q l0 l1 l2 l3 x; exact e_iload d96_22 rfl,
  by intro ls st h Q x y; exact e_ic d96_24 (by decide) c_ge,
  by intro ls st h Q l0 l1 l2 i; exact e_aload_n d96_27 rfl,
  by intro ls st h Q l0 l1 l2 l3 l4 x; exact e_iload d96_28 rfl,
  by intro ls st n sl C Z I L R Q i y; exact e_iald d96_30,
  by intro ls st h Q l0 l1 l2 l3 l4 l5 l6 x; exact e_istore d96_31 rfl,
  by intro ls st h Q l0 l1 l2 l3 l4 l5 x; exact e_iload d96_33 rfl,
  by intro ls st h Q; exact e_bipush d96_35 rfl,
  by intro ls st h Q; exact e_bipush d96_37 rfl⟩
set_option maxRecDepth 20000 in
theorem S96_1 : (∀ (ls : Lo) (st : List Value) (h : Hp) (Q : Option Value → Hp → Prop) (x0 : Int32) (x1 : Int32) (x2 : Int32), Wp 96 39 (ls) (.int x2 :: .int x1 :: .int x0 :: st) h Q ↔ (wsum st ≤ 8 ∧ Call 87 [some (.int x0), some (.int x1), some (.int x2)] h 96 42 ls st Q)) ∧
  (∀ (ls : Lo) (st : List Value) (h : Hp) (Q : Option Value → Hp → Prop) (x : Int32), Wp 96 42 (ls) (.int x :: st) h Q ↔ Br 96 48 45 ls st h Q (¬ x = 0)) ∧
  (∀ (ls : Lo) (st : List Value) (h : Hp) (Q : Option Value → Hp → Prop), Wp 96 45 (ls) (st) h Q ↔ Wp 96 47 (ls) (.int (-4) :: st) h Q) ∧
  (∀ (ls : Lo) (h : Hp) (Q : Option Value → Hp → Prop) (x : Int32), Wp 96 47 (ls) ([.int x]) h Q ↔ Q (some (.int x)) h) ∧
  (∀ (ls : Lo) (st : List Value) (h : Hp) (Q : Option Value → Hp → Prop) (l0 l1 l2 l3 l4 : Option Value) (x : Int32), Wp 96 48 (l0 :: l1 :: l2 :: l3 :: l4 :: some (.int x) :: ls) (st) h Q ↔ Wp 96 51 (l0 :: l1 :: l2 :: l3 :: clr l4 :: some (.int (x + (1))) :: ls) (st) h Q) ∧
  (∀ (ls : Lo) (st : List Value) (h : Hp) (Q : Option Value → Hp → Prop), Wp 96 51 (ls) (st) h Q ↔ Wp 96 20 (ls) (st) h Q) ∧
  (∀ (ls : Lo) (st : List Value) (h : Hp) (Q : Option Value → Hp → Prop) (l0 l1 : Option Value) (x : Int32), Wp 96 54 (l0 :: l1 :: some (.int x) :: ls) (st) h Q ↔ Wp 96 57 (l0 :: clr l1 :: some (.int (x + (1))) :: ls) (st) h Q) ∧
  (∀ (ls : Lo) (st : List Value) (h : Hp) (Q : Option Value → Hp → Prop), Wp 96 57 (ls) (st) h Q ↔ Wp 96 2 (ls) (st) h Q) ∧
  (∀ (ls : Lo) (st : List Value) (h : Hp) (Q : Option Value → Hp → Prop)  (i : Nat), Wp 96 60 (some (.ref i) :: ls) (st) h Q ↔ Wp 96 61 (some (.ref i) :: ls) (.ref i :: st) h Q) ∧
  (∀ (ls : Lo) (st : List Value) (h : Hp) (Q : Option Value → Hp → Prop) (l0 : Option Value) (i : Nat), Wp 96 61 (l0 :: some (.ref i) :: ls) (st) h Q ↔ Wp 96 62 (l0 :: some (.ref i) :: ls) (.ref i :: st) h Q) ∧
  (∀ (ls : Lo) (st : List Value) (n sl : Nat) (C Z : Nat → Nat) (I : Nat → Nat → Int32) (L : Nat → Nat → Int64) (R : Nat → Nat → Nat) (Q : Option Value → Hp → Prop) (x0 : Nat) (i : Nat), C i = 10 → (Wp 96 62 (ls) (.ref x0 :: .ref i :: st) (n, sl, C, Z, I, L, R) Q ↔ (wsum st ≤ 8 ∧ Call 95 [some (.ref i), some (.ref x0)] (n, sl, C, Z, I, L, R) 96 65 ls st Q))) ∧
  (∀ (ls : Lo) (h : Hp) (Q : Option Value → Hp → Prop) (x : Int32), Wp 96 65 (ls) ([.int x]) h Q ↔ Q (some (.int x)) h) := ⟨by intro ls st h Q x0 x1 x2; exact e_is (k2 := 87) (as := [.int x0, .int x1, .int x2]) d96_39 rfl (by decide) rfl rfl (by decide +kernel) (Nat.le_of_ble_eq_true rfl) rfl,
  by intro ls st h Q x; exact e_if d96_42 (by decide) c_ne,
  by intro ls st h Q; exact e_bipush d96_45 rfl,
  by intros; exact e_rI (p := True) d96_47 rfl,
  by intro ls st h Q l0 l1 l2 l3 l4 x; exact e_iinc d96_48 rfl rfl rfl,
  by intro ls st h Q; exact e_goto d96_51 (by decide),
  by intro ls st h Q l0 l1 x; exact e_iinc d96_54 rfl rfl rfl,
  by intro ls st h Q; exact e_goto d96_57 (by decide),
  by intro ls st h Q i; exact e_aload_n d96_60 rfl,
  by intro ls st h Q l0 i; exact e_aload_n d96_61 rfl,
  by intro ls st n sl C Z I L R Q x0 i hh; exact e_iv (k2 := 95) (c := 10) (as := [.ref x0]) d96_62 rfl (by decide) rfl rfl (by decide +kernel) (Nat.le_of_ble_eq_true rfl) rfl hh,
  by intros; exact e_rI (p := True) d96_65 rfl⟩
theorem d97_0 : decode (byt 97) 0 = .ok (.aload_n 0, 1) := by decide +kernel
theorem d97_1 : decode (byt 97) 1 = .ok (.iload_n 1, 1) := by decide +kernel
theorem d97_2 : decode (byt 97) 2 = .ok (.invokevirtual 84, 3) := by decide +kernel
theorem d97_5 : decode (byt 97) 5 = .ok (.astore 4, 2) := by decide +kernel
theorem d97_7 : decode (byt 97) 7 = .ok (.aload_n 0, 1) := by decide +kernel
theorem d97_8 : decode (byt 97) 8 = .ok (.iload_n 2, 1) := by decide +kernel
theorem d97_9 : decode (byt 97) 9 = .ok (.invokevirtual 84, 3) := by decide +kernel
theorem d97_12 : decode (byt 97) 12 = .ok (.astore 5, 2) := by decide +kernel
theorem d97_14 : decode (byt 97) 14 = .ok (.aload 4, 2) := by decide +kernel
theorem d97_16 : decode (byt 97) 16 = .ok (.ifnull 8, 3) := by decide +kernel
theorem d97_19 : decode (byt 97) 19 = .ok (.aload 5, 2) := by decide +kernel
theorem d97_21 : decode (byt 97) 21 = .ok (.ifnonnull 6, 3) := by decide +kernel
theorem d97_24 : decode (byt 97) 24 = .ok (.bipush (-2), 2) := by decide +kernel
theorem d97_26 : decode (byt 97) 26 = .ok (.ireturn, 1) := by decide +kernel
theorem d97_27 : decode (byt 97) 27 = .ok (.aload 4, 2) := by decide +kernel
theorem d97_29 : decode (byt 97) 29 = .ok (.instanceof 74, 3) := by decide +kernel
theorem d97_32 : decode (byt 97) 32 = .ok (.ifCond .ne 24, 3) := by decide +kernel
theorem d97_35 : decode (byt 97) 35 = .ok (.aload 5, 2) := by decide +kernel
theorem d97_37 : decode (byt 97) 37 = .ok (.instanceof 74, 3) := by decide +kernel
theorem d97_40 : decode (byt 97) 40 = .ok (.ifCond .ne 16, 3) := by decide +kernel
theorem d97_43 : decode (byt 97) 43 = .ok (.aload 4, 2) := by decide +kernel
theorem d97_45 : decode (byt 97) 45 = .ok (.getfield 109, 3) := by decide +kernel
theorem d97_48 : decode (byt 97) 48 = .ok (.aload 5, 2) := by decide +kernel
theorem d97_50 : decode (byt 97) 50 = .ok (.getfield 109, 3) := by decide +kernel
theorem d97_53 : decode (byt 97) 53 = .ok (.if_icmp .eq 6, 3) := by decide +kernel
theorem d97_56 : decode (byt 97) 56 = .ok (.bipush (-3), 2) := by decide +kernel
theorem d97_58 : decode (byt 97) 58 = .ok (.ireturn, 1) := by decide +kernel
theorem d97_59 : decode (byt 97) 59 = .ok (.aload 4, 2) := by decide +kernel
theorem d97_61 : decode (byt 97) 61 = .ok (.getfield 106, 3) := by decide +kernel
theorem d97_64 : decode (byt 97) 64 = .ok (.aload 5, 2) := by decide +kernel
theorem d97_66 : decode (byt 97) 66 = .ok (.getfield 106, 3) := by decide +kernel
theorem d97_69 : decode (byt 97) 69 = .ok (.iadd, 1) := by decide +kernel
theorem d97_70 : decode (byt 97) 70 = .ok (.istore 6, 2) := by decide +kernel
theorem d97_72 : decode (byt 97) 72 = .ok (.aload_n 0, 1) := by decide +kernel
theorem d97_73 : decode (byt 97) 73 = .ok (.invokevirtual 70, 3) := by decide +kernel
theorem d97_76 : decode (byt 97) 76 = .ok (.ifCond .ne 9, 3) := by decide +kernel
theorem d97_79 : decode (byt 97) 79 = .ok (.iload 6, 2) := by decide +kernel
theorem d97_81 : decode (byt 97) 81 = .ok (.iconst 3, 1) := by decide +kernel
theorem d97_82 : decode (byt 97) 82 = .ok (.if_icmp .le 6, 3) := by decide +kernel
theorem d97_85 : decode (byt 97) 85 = .ok (.bipush (-4), 2) := by decide +kernel
theorem d97_87 : decode (byt 97) 87 = .ok (.ireturn, 1) := by decide +kernel
theorem d97_88 : decode (byt 97) 88 = .ok (.new 92, 3) := by decide +kernel
theorem d97_91 : decode (byt 97) 91 = .ok (.dup, 1) := by decide +kernel
theorem d97_92 : decode (byt 97) 92 = .ok (.aload_n 0, 1) := by decide +kernel
theorem d97_93 : decode (byt 97) 93 = .ok (.getfield 15, 3) := by decide +kernel
theorem d97_96 : decode (byt 97) 96 = .ok (.iload 6, 2) := by decide +kernel
theorem d97_98 : decode (byt 97) 98 = .ok (.aload 4, 2) := by decide +kernel
theorem d97_100 : decode (byt 97) 100 = .ok (.getfield 109, 3) := by decide +kernel
theorem d97_103 : decode (byt 97) 103 = .ok (.invokespecial 112, 3) := by decide +kernel
theorem d97_106 : decode (byt 97) 106 = .ok (.astore 7, 2) := by decide +kernel
theorem d97_108 : decode (byt 97) 108 = .ok (.aload 7, 2) := by decide +kernel
theorem d97_110 : decode (byt 97) 110 = .ok (.iconst 0, 1) := by decide +kernel
theorem d97_111 : decode (byt 97) 111 = .ok (.aload 4, 2) := by decide +kernel
theorem d97_113 : decode (byt 97) 113 = .ok (.iconst 1, 1) := by decide +kernel
theorem d97_114 : decode (byt 97) 114 = .ok (.iload_n 3, 1) := by decide +kernel
theorem d97_115 : decode (byt 97) 115 = .ok (.ifCond .eq 13, 3) := by decide +kernel
theorem d97_118 : decode (byt 97) 118 = .ok (.aload 5, 2) := by decide +kernel
theorem d97_120 : decode (byt 97) 120 = .ok (.getfield 102, 3) := by decide +kernel
theorem d97_123 : decode (byt 97) 123 = .ok (.iconst 0, 1) := by decide +kernel
theorem d97_124 : decode (byt 97) 124 = .ok (.iaload, 1) := by decide +kernel
theorem d97_125 : decode (byt 97) 125 = .ok (.goto 4, 3) := by decide +kernel
theorem d97_128 : decode (byt 97) 128 = .ok (.iconst 1, 1) := by decide +kernel
theorem d97_129 : decode (byt 97) 129 = .ok (.invokestatic 276, 3) := by decide +kernel
theorem d97_132 : decode (byt 97) 132 = .ok (.aload 7, 2) := by decide +kernel
theorem d97_134 : decode (byt 97) 134 = .ok (.aload 4, 2) := by decide +kernel
theorem d97_136 : decode (byt 97) 136 = .ok (.getfield 106, 3) := by decide +kernel
theorem d97_139 : decode (byt 97) 139 = .ok (.aload 5, 2) := by decide +kernel
theorem d97_141 : decode (byt 97) 141 = .ok (.iload_n 3, 1) := by decide +kernel
theorem d97_142 : decode (byt 97) 142 = .ok (.ifCond .eq 13, 3) := by decide +kernel
theorem d97_145 : decode (byt 97) 145 = .ok (.aload 4, 2) := by decide +kernel
theorem d97_147 : decode (byt 97) 147 = .ok (.getfield 102, 3) := by decide +kernel
theorem d97_150 : decode (byt 97) 150 = .ok (.iconst 0, 1) := by decide +kernel
theorem d97_151 : decode (byt 97) 151 = .ok (.iaload, 1) := by decide +kernel
theorem d97_152 : decode (byt 97) 152 = .ok (.goto 4, 3) := by decide +kernel
theorem d97_155 : decode (byt 97) 155 = .ok (.iconst 1, 1) := by decide +kernel
theorem d97_156 : decode (byt 97) 156 = .ok (.iconst 1, 1) := by decide +kernel
theorem d97_157 : decode (byt 97) 157 = .ok (.invokestatic 276, 3) := by decide +kernel
theorem d97_160 : decode (byt 97) 160 = .ok (.iload_n 3, 1) := by decide +kernel
theorem d97_161 : decode (byt 97) 161 = .ok (.ifCond .eq 12, 3) := by decide +kernel
theorem d97_164 : decode (byt 97) 164 = .ok (.aload 7, 2) := by decide +kernel
theorem d97_166 : decode (byt 97) 166 = .ok (.aload 4, 2) := by decide +kernel
theorem d97_168 : decode (byt 97) 168 = .ok (.aload 5, 2) := by decide +kernel
theorem d97_170 : decode (byt 97) 170 = .ok (.invokestatic 280, 3) := by decide +kernel
theorem d97_173 : decode (byt 97) 173 = .ok (.aload 7, 2) := by decide +kernel
theorem d97_175 : decode (byt 97) 175 = .ok (.getfield 284, 3) := by decide +kernel
theorem d97_178 : decode (byt 97) 178 = .ok (.iconst 0, 1) := by decide +kernel
theorem d97_179 : decode (byt 97) 179 = .ok (.iload_n 3, 1) := by decide +kernel
theorem d97_180 : decode (byt 97) 180 = .ok (.ifCond .eq 21, 3) := by decide +kernel
theorem d97_183 : decode (byt 97) 183 = .ok (.aload 4, 2) := by decide +kernel
theorem d97_185 : decode (byt 97) 185 = .ok (.getfield 102, 3) := by decide +kernel
theorem d97_188 : decode (byt 97) 188 = .ok (.iconst 0, 1) := by decide +kernel
theorem d97_189 : decode (byt 97) 189 = .ok (.iaload, 1) := by decide +kernel
theorem d97_190 : decode (byt 97) 190 = .ok (.aload 5, 2) := by decide +kernel
theorem d97_192 : decode (byt 97) 192 = .ok (.getfield 102, 3) := by decide +kernel
theorem d97_195 : decode (byt 97) 195 = .ok (.iconst 0, 1) := by decide +kernel
theorem d97_196 : decode (byt 97) 196 = .ok (.iaload, 1) := by decide +kernel
theorem d97_197 : decode (byt 97) 197 = .ok (.imul, 1) := by decide +kernel
theorem d97_198 : decode (byt 97) 198 = .ok (.goto 18, 3) := by decide +kernel
theorem d97_201 : decode (byt 97) 201 = .ok (.aload 4, 2) := by decide +kernel
theorem d97_203 : decode (byt 97) 203 = .ok (.getfield 102, 3) := by decide +kernel
theorem d97_206 : decode (byt 97) 206 = .ok (.iconst 0, 1) := by decide +kernel
theorem d97_207 : decode (byt 97) 207 = .ok (.iaload, 1) := by decide +kernel
theorem d97_208 : decode (byt 97) 208 = .ok (.aload 5, 2) := by decide +kernel
theorem d97_210 : decode (byt 97) 210 = .ok (.getfield 102, 3) := by decide +kernel
theorem d97_213 : decode (byt 97) 213 = .ok (.iconst 0, 1) := by decide +kernel
theorem d97_214 : decode (byt 97) 214 = .ok (.iaload, 1) := by decide +kernel
theorem d97_215 : decode (byt 97) 215 = .ok (.iadd, 1) := by decide +kernel
theorem d97_216 : decode (byt 97) 216 = .ok (.iastore, 1) := by decide +kernel
theorem d97_217 : decode (byt 97) 217 = .ok (.aload_n 0, 1) := by decide +kernel
theorem d97_218 : decode (byt 97) 218 = .ok (.aload 7, 2) := by decide +kernel
theorem d97_220 : decode (byt 97) 220 = .ok (.invokevirtual 125, 3) := by decide +kernel
theorem d97_223 : decode (byt 97) 223 = .ok (.ireturn, 1) := by decide +kernel
set_option maxRecDepth 20000 in
theorem S97_0 : (∀ (ls : Lo) (st : List Value) (h : Hp) (Q : Option Value → Hp → Prop)  (i : Nat), Wp 97 0 (some (.ref i) :: ls) (st) h Q ↔ Wp 97 1 (some (.ref i) :: ls) (.ref i :: st) h Q) ∧
  (∀ (ls : Lo) (st : List Value) (h : Hp) (Q : Option Value → Hp → Prop) (l0 : Option Value) (x : Int32), Wp 97 1 (l0 :: some (.int x) :: ls) (st) h Q ↔ Wp 97 2 (l0 :: some (.int x) :: ls) (.int x :: st) h Q) ∧
  (∀ (ls : Lo) (st : List Value) (n sl : Nat) (C Z : Nat → Nat) (I : Nat → Nat → Int32) (L : Nat → Nat → Int64) (R : Nat → Nat → Nat) (Q : Option Value → Hp → Prop) (x0 : Int32) (i : Nat), C i = 10 → (Wp 97 2 (ls) (.int x0 :: .ref i :: st) (n, sl, C, Z, I, L, R) Q ↔ (wsum st ≤ 8 ∧ Call 92 [some (.ref i), some (.int x0)] (n, sl, C, Z, I, L, R) 97 5 ls st Q))) ∧
  (∀ (ls : Lo) (st : List Value) (h : Hp) (Q : Option Value → Hp → Prop) (l0 l1 l2 l3 l4 : Option Value) (i : Nat), Wp 97 5 (l0 :: l1 :: l2 :: l3 :: l4 :: ls) (.ref i :: st) h Q ↔ Wp 97 7 (l0 :: l1 :: l2 :: clr l3 :: some (.ref i) :: ls) (st) h Q) ∧
  (∀ (ls : Lo) (st : List Value) (h : Hp) (Q : Option Value → Hp → Prop)  (i : Nat), Wp 97 7 (some (.ref i) :: ls) (st) h Q ↔ Wp 97 8 (some (.ref i) :: ls) (.ref i :: st) h Q) ∧
  (∀ (ls : Lo) (st : List Value) (h : Hp) (Q : Option Value → Hp → Prop) (l0 l1 : Option Value) (x : Int32), Wp 97 8 (l0 :: l1 :: some (.int x) :: ls) (st) h Q ↔ Wp 97 9 (l0 :: l1 :: some (.int x) :: ls) (.int x :: st) h Q) ∧
  (∀ (ls : Lo) (st : List Value) (n sl : Nat) (C Z : Nat → Nat) (I : Nat → Nat → Int32) (L : Nat → Nat → Int64) (R : Nat → Nat → Nat) (Q : Option Value → Hp → Prop) (x0 : Int32) (i : Nat), C i = 10 → (Wp 97 9 (ls) (.int x0 :: .ref i :: st) (n, sl, C, Z, I, L, R) Q ↔ (wsum st ≤ 8 ∧ Call 92 [some (.ref i), some (.int x0)] (n, sl, C, Z, I, L, R) 97 12 ls st Q))) ∧
  (∀ (ls : Lo) (st : List Value) (h : Hp) (Q : Option Value → Hp → Prop) (l0 l1 l2 l3 l4 l5 : Option Value) (i : Nat), Wp 97 12 (l0 :: l1 :: l2 :: l3 :: l4 :: l5 :: ls) (.ref i :: st) h Q ↔ Wp 97 14 (l0 :: l1 :: l2 :: l3 :: clr l4 :: some (.ref i) :: ls) (st) h Q) ∧
  (∀ (ls : Lo) (st : List Value) (h : Hp) (Q : Option Value → Hp → Prop) (l0 l1 l2 l3 : Option Value) (i : Nat), Wp 97 14 (l0 :: l1 :: l2 :: l3 :: some (.ref i) :: ls) (st) h Q ↔ Wp 97 16 (l0 :: l1 :: l2 :: l3 :: some (.ref i) :: ls) (.ref i :: st) h Q) ∧
  (∀ (ls : Lo) (st : List Value) (h : Hp) (Q : Option Value → Hp → Prop) (i : Nat), Wp 97 16 (ls) (.ref i :: st) h Q ↔ Br 97 24 19 ls st h Q (i = 0)) ∧
  (∀ (ls : Lo) (st : List Value) (h : Hp) (Q : Option Value → Hp → Prop) (l0 l1 l2 l3 l4 : Option Value) (i : Nat), Wp 97 19 (l0 :: l1 :: l2 :: l3 :: l4 :: some (.ref i) :: ls) (st) h Q ↔ Wp 97 21 (l0 :: l1 :: l2 :: l3 :: l4 :: some (.ref i) :: ls) (.ref i :: st) h Q) ∧
  (∀ (ls : Lo) (st : List Value) (h : Hp) (Q : Option Value → Hp → Prop) (i : Nat), Wp 97 21 (ls) (.ref i :: st) h Q ↔ Br 97 27 24 ls st h Q (¬ i = 0)) ∧
  (∀ (ls : Lo) (st : List Value) (h : Hp) (Q : Option Value → Hp → Prop), Wp 97 24 (ls) (st) h Q ↔ Wp 97 26 (ls) (.int (-2) :: st) h Q) ∧
  (∀ (ls : Lo) (h : Hp) (Q : Option Value → Hp → Prop) (x : Int32), Wp 97 26 (ls) ([.int x]) h Q ↔ Q (some (.int x)) h) ∧
  (∀ (ls : Lo) (st : List Value) (h : Hp) (Q : Option Value → Hp → Prop) (l0 l1 l2 l3 : Option Value) (i : Nat), Wp 97 27 (l0 :: l1 :: l2 :: l3 :: some (.ref i) :: ls) (st) h Q ↔ Wp 97 29 (l0 :: l1 :: l2 :: l3 :: some (.ref i) :: ls) (.ref i :: st) h Q) ∧
  (∀ (ls : Lo) (st : List Value) (n sl : Nat) (C Z : Nat → Nat) (I : Nat → Nat → Int32) (L : Nat → Nat → Int64) (R : Nat → Nat → Nat) (Q : Option Value → Hp → Prop) (i : Nat), Wp 97 29 (ls) (.ref i :: st) (n, sl, C, Z, I, L, R) Q ↔ (inG 7 (C i) = true ∧ Wp 97 32 (ls) (.int (if isa (C i) 1 = true then 1 else 0) :: st) (n, sl, C, Z, I, L, R) Q)) ∧
  (∀ (ls : Lo) (st : List Value) (h : Hp) (Q : Option Value → Hp → Prop) (x : Int32), Wp 97 32 (ls) (.int x :: st) h Q ↔ Br 97 56 35 ls st h Q (¬ x = 0)) ∧
  (∀ (ls : Lo) (st : List Value) (h : Hp) (Q : Option Value → Hp → Prop) (l0 l1 l2 l3 l4 : Option Value) (i : Nat), Wp 97 35 (l0 :: l1 :: l2 :: l3 :: l4 :: some (.ref i) :: ls) (st) h Q ↔ Wp 97 37 (l0 :: l1 :: l2 :: l3 :: l4 :: some (.ref i) :: ls) (.ref i :: st) h Q) ∧
  (∀ (ls : Lo) (st : List Value) (n sl : Nat) (C Z : Nat → Nat) (I : Nat → Nat → Int32) (L : Nat → Nat → Int64) (R : Nat → Nat → Nat) (Q : Option Value → Hp → Prop) (i : Nat), Wp 97 37 (ls) (.ref i :: st) (n, sl, C, Z, I, L, R) Q ↔ (inG 7 (C i) = true ∧ Wp 97 40 (ls) (.int (if isa (C i) 1 = true then 1 else 0) :: st) (n, sl, C, Z, I, L, R) Q)) ∧
  (∀ (ls : Lo) (st : List Value) (h : Hp) (Q : Option Value → Hp → Prop) (x : Int32), Wp 97 40 (ls) (.int x :: st) h Q ↔ Br 97 56 43 ls st h Q (¬ x = 0)) ∧
  (∀ (ls : Lo) (st : List Value) (h : Hp) (Q : Option Value → Hp → Prop) (l0 l1 l2 l3 : Option Value) (i : Nat), Wp 97 43 (l0 :: l1 :: l2 :: l3 :: some (.ref i) :: ls) (st) h Q ↔ Wp 97 45 (l0 :: l1 :: l2 :: l3 :: some (.ref i) :: ls) (.ref i :: st) h Q) ∧
  (∀ (ls : Lo) (st : List Value) (n sl : Nat) (C Z : Nat → Nat) (I : Nat → Nat → Int32) (L : Nat → Nat → Int64) (R : Nat → Nat → Nat) (Q : Option Value → Hp → Prop) (i : Nat), Wp 97 45 (ls) (.ref i :: st) (n, sl, C, Z, I, L, R) Q ↔ (inG 7 (C i) = true ∧ Wp 97 48 (ls) (.int (I i 2) :: st) (n, sl, C, Z, I, L, R) Q)) ∧
  (∀ (ls : Lo) (st : List Value) (h : Hp) (Q : Option Value → Hp → Prop) (l0 l1 l2 l3 l4 : Option Value) (i : Nat), Wp 97 48 (l0 :: l1 :: l2 :: l3 :: l4 :: some (.ref i) :: ls) (st) h Q ↔ Wp 97 50 (l0 :: l1 :: l2 :: l3 :: l4 :: some (.ref i) :: ls) (.ref i :: st) h Q) ∧
  (∀ (ls : Lo) (st : List Value) (n sl : Nat) (C Z : Nat → Nat) (I : Nat → Nat → Int32) (L : Nat → Nat → Int64) (R : Nat → Nat → Nat) (Q : Option Value → Hp → Prop) (i : Nat), Wp 97 50 (ls) (.ref i :: st) (n, sl, C, Z, I, L, R) Q ↔ (inG 7 (C i) = true ∧ Wp 97 53 (ls) (.int (I i 2) :: st) (n, sl, C, Z, I, L, R) Q)) ∧
  (∀ (ls : Lo) (st : List Value) (h : Hp) (Q : Option Value → Hp → Prop) (x y : Int32), Wp 97 53 (ls) (.int y :: .int x :: st) h Q ↔ Br 97 59 56 ls st h Q (x = y)) := ⟨by intro ls st h Q i; exact e_aload_n d97_0 rfl,
  by intro ls st h Q l0 x; exact e_iload_n d97_1 rfl,
  by intro ls st n sl C Z I L R Q x0 i hh; exact e_iv (k2 := 92) (c := 10) (as := [.int x0]) d97_2 rfl (by decide) rfl rfl (by decide +kernel) (Nat.le_of_ble_eq_true rfl) rfl hh,
  by intro ls st h Q l0 l1 l2 l3 l4 i; exact e_astore d97_5 rfl,
  by intro ls st h Q i; exact e_aload_n d97_7 rfl,
  by intro ls st h Q l0 l1 x; exact e_iload_n d97_8 rfl,
  by intro ls st n sl C Z I L R Q x0 i hh; exact e_iv (k2 := 92) (c := 10) (as := [.int x0]) d97_9 rfl (by decide) rfl rfl (by decide +kernel) (Nat.le_of_ble_eq_true rfl) rfl hh,
  by intro ls st h Q l0 l1 l2 l3 l4 l5 i; exact e_astore d97_12 rfl,
  by intro ls st h Q l0 l1 l2 l3 i; exact e_aload d97_14 rfl,
  by intro ls st h Q i; exact e_ifnull d97_16 (by decide),
  by intro ls st h Q l0 l1 l2 l3 l4 i; exact e_aload d97_19 rfl,
  by intro ls st h Q i; exact e_ifnn d97_21 (by decide),
  by intro ls st h Q; exact e_bipush d97_24 rfl,
  by intros; exact e_rI (p := True) d97_26 rfl,
  by intro ls st h Q l0 l1 l2 l3 i; exact e_aload d97_27 rfl,
  by intro ls st n sl C Z I L R Q i; exact e_io (p := 294) (c := 1) d97_29 rfl (by decide),
  by intro ls st h Q x; exact e_if d97_32 (by decide) c_ne,
  by intro ls st h Q l0 l1 l2 l3 l4 i; exact e_aload d97_35 rfl,
  by intro ls st n sl C Z I L R Q i; exact e_io (p := 294) (c := 1) d97_37 rfl (by decide),
  by intro ls st h Q x; exact e_if d97_40 (by decide) c_ne,
  by intro ls st h Q l0 l1 l2 l3 i; exact e_aload d97_43 rfl,
  by intro ls st n sl C Z I L R Q i; exact e_get (g := 7) (s := 2) (ty := 0) d97_45 rfl rfl rfl,
  by intro ls st h Q l0 l1 l2 l3 l4 i; exact e_aload d97_48 rfl,
  by intro ls st n sl C Z I L R Q i; exact e_get (g := 7) (s := 2) (ty := 0) d97_50 rfl rfl rfl,
  by intro ls st h Q x y; exact e_ic d97_53 (by decide) c_eq⟩
set_option maxRecDepth 20000 in
theorem S97_1 : (∀ (ls : Lo) (st : List Value) (h : Hp) (Q : Option Value → Hp → Prop), Wp 97 56 (ls) (st) h Q ↔ Wp 97 58 (ls) (.int (-3) :: st) h Q) ∧
  (∀ (ls : Lo) (h : Hp) (Q : Option Value → Hp → Prop) (x : Int32), Wp 97 58 (ls) ([.int x]) h Q ↔ Q (some (.int x)) h) ∧
  (∀ (ls : Lo) (st : List Value) (h : Hp) (Q : Option Value → Hp → Prop) (l0 l1 l2 l3 : Option Value) (i : Nat), Wp 97 59 (l0 :: l1 :: l2 :: l3 :: some (.ref i) :: ls) (st) h Q ↔ Wp 97 61 (l0 :: l1 :: l2 :: l3 :: some (.ref i) :: ls) (.ref i :: st) h Q) ∧
  (∀ (ls : Lo) (st : List Value) (n sl : Nat) (C Z : Nat → Nat) (I : Nat → Nat → Int32) (L : Nat → Nat → Int64) (R : Nat → Nat → Nat) (Q : Option Value → Hp → Prop) (i : Nat), Wp 97 61 (ls) (.ref i :: st) (n, sl, C, Z, I, L, R) Q ↔ (inG 7 (C i) = true ∧ Wp 97 64 (ls) (.int (I i 1) :: st) (n, sl, C, Z, I, L, R) Q)) ∧
  (∀ (ls : Lo) (st : List Value) (h : Hp) (Q : Option Value → Hp → Prop) (l0 l1 l2 l3 l4 : Option Value) (i : Nat), Wp 97 64 (l0 :: l1 :: l2 :: l3 :: l4 :: some (.ref i) :: ls) (st) h Q ↔ Wp 97 66 (l0 :: l1 :: l2 :: l3 :: l4 :: some (.ref i) :: ls) (.ref i :: st) h Q) ∧
  (∀ (ls : Lo) (st : List Value) (n sl : Nat) (C Z : Nat → Nat) (I : Nat → Nat → Int32) (L : Nat → Nat → Int64) (R : Nat → Nat → Nat) (Q : Option Value → Hp → Prop) (i : Nat), Wp 97 66 (ls) (.ref i :: st) (n, sl, C, Z, I, L, R) Q ↔ (inG 7 (C i) = true ∧ Wp 97 69 (ls) (.int (I i 1) :: st) (n, sl, C, Z, I, L, R) Q)) ∧
  (∀ (ls : Lo) (st : List Value) (h : Hp) (Q : Option Value → Hp → Prop) (x y : Int32), Wp 97 69 (ls) (.int y :: .int x :: st) h Q ↔ Wp 97 70 (ls) (.int (x + y) :: st) h Q) ∧
  (∀ (ls : Lo) (st : List Value) (h : Hp) (Q : Option Value → Hp → Prop) (l0 l1 l2 l3 l4 l5 l6 : Option Value) (x : Int32), Wp 97 70 (l0 :: l1 :: l2 :: l3 :: l4 :: l5 :: l6 :: ls) (.int x :: st) h Q ↔ Wp 97 72 (l0 :: l1 :: l2 :: l3 :: l4 :: clr l5 :: some (.int x) :: ls) (st) h Q) ∧
  (∀ (ls : Lo) (st : List Value) (h : Hp) (Q : Option Value → Hp → Prop)  (i : Nat), Wp 97 72 (some (.ref i) :: ls) (st) h Q ↔ Wp 97 73 (some (.ref i) :: ls) (.ref i :: st) h Q) ∧
  (∀ (ls : Lo) (st : List Value) (n sl : Nat) (C Z : Nat → Nat) (I : Nat → Nat → Int32) (L : Nat → Nat → Int64) (R : Nat → Nat → Nat) (Q : Option Value → Hp → Prop)  (i : Nat), C i = 10 → (Wp 97 73 (ls) (.ref i :: st) (n, sl, C, Z, I, L, R) Q ↔ (wsum st ≤ 8 ∧ Call 91 [some (.ref i)] (n, sl, C, Z, I, L, R) 97 76 ls st Q))) ∧
  (∀ (ls : Lo) (st : List Value) (h : Hp) (Q : Option Value → Hp → Prop) (x : Int32), Wp 97 76 (ls) (.int x :: st) h Q ↔ Br 97 85 79 ls st h Q (¬ x = 0)) ∧
  (∀ (ls : Lo) (st : List Value) (h : Hp) (Q : Option Value → Hp → Prop) (l0 l1 l2 l3 l4 l5 : Option Value) (x : Int32), Wp 97 79 (l0 :: l1 :: l2 :: l3 :: l4 :: l5 :: some (.int x) :: ls) (st) h Q ↔ Wp 97 81 (l0 :: l1 :: l2 :: l3 :: l4 :: l5 :: some (.int x) :: ls) (.int x :: st) h Q) ∧
  (∀ (ls : Lo) (st : List Value) (h : Hp) (Q : Option Value → Hp → Prop), Wp 97 81 (ls) (st) h Q ↔ Wp 97 82 (ls) (.int (3) :: st) h Q) ∧
  (∀ (ls : Lo) (st : List Value) (h : Hp) (Q : Option Value → Hp → Prop) (x y : Int32), Wp 97 82 (ls) (.int y :: .int x :: st) h Q ↔ Br 97 88 85 ls st h Q (x ≤ y)) ∧
  (∀ (ls : Lo) (st : List Value) (h : Hp) (Q : Option Value → Hp → Prop), Wp 97 85 (ls) (st) h Q ↔ Wp 97 87 (ls) (.int (-4) :: st) h Q) ∧
  (∀ (ls : Lo) (h : Hp) (Q : Option Value → Hp → Prop) (x : Int32), Wp 97 87 (ls) ([.int x]) h Q ↔ Q (some (.int x)) h) ∧
  (∀ (ls : Lo) (st : List Value) (n sl : Nat) (C Z : Nat → Nat) (I : Nat → Nat → Int32) (L : Nat → Nat → Int64) (R : Nat → Nat → Nat) (Q : Option Value → Hp → Prop), Wp 97 88 (ls) (st) (n, sl, C, Z, I, L, R) Q ↔ Wp 97 91 (ls) (.ref (n + 1) :: st) (n + 1, sl + 7, va_up C (n + 1) 5, Z, va_up I (n + 1) (fun _ => 0), va_up L (n + 1) (fun _ => 0), va_up R (n + 1) (fun _ => 0)) Q) ∧
  (∀ (ls : Lo) (st : List Value) (h : Hp) (Q : Option Value → Hp → Prop) (x : Int32), Wp 97 91 (ls) (.int x :: st) h Q ↔ Wp 97 92 (ls) (.int x :: .int x :: st) h Q) ∧
  (∀ (ls : Lo) (st : List Value) (h : Hp) (Q : Option Value → Hp → Prop) (i : Nat), Wp 97 91 (ls) (.ref i :: st) h Q ↔ Wp 97 92 (ls) (.ref i :: .ref i :: st) h Q) ∧
  (∀ (ls : Lo) (st : List Value) (h : Hp) (Q : Option Value → Hp → Prop)  (i : Nat), Wp 97 92 (some (.ref i) :: ls) (st) h Q ↔ Wp 97 93 (some (.ref i) :: ls) (.ref i :: st) h Q) ∧
  (∀ (ls : Lo) (st : List Value) (n sl : Nat) (C Z : Nat → Nat) (I : Nat → Nat → Int32) (L : Nat → Nat → Int64) (R : Nat → Nat → Nat) (Q : Option Value → Hp → Prop) (i : Nat), Wp 97 93 (ls) (.ref i :: st) (n, sl, C, Z, I, L, R) Q ↔ (C i = 10 ∧ Wp 97 96 (ls) (.int (I i 1) :: st) (n, sl, C, Z, I, L, R) Q)) ∧
  (∀ (ls : Lo) (st : List Value) (h : Hp) (Q : Option Value → Hp → Prop) (l0 l1 l2 l3 l4 l5 : Option Value) (x : Int32), Wp 97 96 (l0 :: l1 :: l2 :: l3 :: l4 :: l5 :: some (.int x) :: ls) (st) h Q ↔ Wp 97 98 (l0 :: l1 :: l2 :: l3 :: l4 :: l5 :: some (.int x) :: ls) (.int x :: st) h Q) ∧
  (∀ (ls : Lo) (st : List Value) (h : Hp) (Q : Option Value → Hp → Prop) (l0 l1 l2 l3 : Option Value) (i : Nat), Wp 97 98 (l0 :: l1 :: l2 :: l3 :: some (.ref i) :: ls) (st) h Q ↔ Wp 97 100 (l0 :: l1 :: l2 :: l3 :: some (.ref i) :: ls) (.ref i :: st) h Q) ∧
  (∀ (ls : Lo) (st : List Value) (n sl : Nat) (C Z : Nat → Nat) (I : Nat → Nat → Int32) (L : Nat → Nat → Int64) (R : Nat → Nat → Nat) (Q : Option Value → Hp → Prop) (i : Nat), Wp 97 100 (ls) (.ref i :: st) (n, sl, C, Z, I, L, R) Q ↔ (inG 7 (C i) = true ∧ Wp 97 103 (ls) (.int (I i 2) :: st) (n, sl, C, Z, I, L, R) Q)) ∧
  (∀ (ls : Lo) (st : List Value) (h : Hp) (Q : Option Value → Hp → Prop) (x0 : Int32) (x1 : Int32) (x2 : Int32) (i : Nat), i ≠ 0 → (Wp 97 103 (ls) (.int x2 :: .int x1 :: .int x0 :: .ref i :: st) h Q ↔ (wsum st ≤ 8 ∧ Call 37 [some (.ref i), some (.int x0), some (.int x1), some (.int x2)] h 97 106 ls st Q))) := ⟨by intro ls st h Q; exact e_bipush d97_56 rfl,
  by intros; exact e_rI (p := True) d97_58 rfl,
  by intro ls st h Q l0 l1 l2 l3 i; exact e_aload d97_59 rfl,
  by intro ls st n sl C Z I L R Q i; exact e_get (g := 7) (s := 1) (ty := 0) d97_61 rfl rfl rfl,
  by intro ls st h Q l0 l1 l2 l3 l4 i; exact e_aload d97_64 rfl,
  by intro ls st n sl C Z I L R Q i; exact e_get (g := 7) (s := 1) (ty := 0) d97_66 rfl rfl rfl,
  by intro ls st h Q x y; exact e_iadd d97_69,
  by intro ls st h Q l0 l1 l2 l3 l4 l5 l6 x; exact e_istore d97_70 rfl,
  by intro ls st h Q i; exact e_aload_n d97_72 rfl,
  by intro ls st n sl C Z I L R Q i hh; exact e_iv (k2 := 91) (c := 10) (as := []) d97_73 rfl (by decide) rfl rfl (by decide +kernel) (Nat.le_of_ble_eq_true rfl) rfl hh,
  by intro ls st h Q x; exact e_if d97_76 (by decide) c_ne,
  by intro ls st h Q l0 l1 l2 l3 l4 l5 x; exact e_iload d97_79 rfl,
  by intro ls st h Q; exact e_iconst d97_81 rfl,
  by intro ls st h Q x y; exact e_ic d97_82 (by decide) c_le,
  by intro ls st h Q; exact e_bipush d97_85 rfl,
  by intros; exact e_rI (p := True) d97_87 rfl,
  by intro ls st n sl C Z I L R Q; exact e_new (p := 324) (c := 4) d97_88 rfl (by decide) rfl,
  by intro ls st h Q x; exact e_dupI d97_91,
  by intro ls st h Q i; exact e_dupR d97_91,
  by intro ls st h Q i; exact e_aload_n d97_92 rfl,
  by intro ls st n sl C Z I L R Q i; exact e_get (g := 9) (s := 1) (ty := 0) d97_93 rfl rfl (inG_ne (by decide)),
  by intro ls st h Q l0 l1 l2 l3 l4 l5 x; exact e_iload d97_96 rfl,
  by intro ls st h Q l0 l1 l2 l3 i; exact e_aload d97_98 rfl,
  by intro ls st n sl C Z I L R Q i; exact e_get (g := 7) (s := 2) (ty := 0) d97_100 rfl rfl rfl,
  by intro ls st h Q x0 x1 x2 i hh; exact e_ip (k2 := 37) (as := [.int x0, .int x1, .int x2]) d97_103 rfl (by decide) rfl rfl (by decide +kernel) (Nat.le_of_ble_eq_true rfl) rfl hh⟩
set_option maxRecDepth 20000 in
theorem S97_2 : (∀ (ls : Lo) (st : List Value) (h : Hp) (Q : Option Value → Hp → Prop) (l0 l1 l2 l3 l4 l5 l6 l7 : Option Value) (i : Nat), Wp 97 106 (l0 :: l1 :: l2 :: l3 :: l4 :: l5 :: l6 :: l7 :: ls) (.ref i :: st) h Q ↔ Wp 97 108 (l0 :: l1 :: l2 :: l3 :: l4 :: l5 :: clr l6 :: some (.ref i) :: ls) (st) h Q) ∧
  (∀ (ls : Lo) (st : List Value) (h : Hp) (Q : Option Value → Hp → Prop) (l0 l1 l2 l3 l4 l5 l6 : Option Value) (i : Nat), Wp 97 108 (l0 :: l1 :: l2 :: l3 :: l4 :: l5 :: l6 :: some (.ref i) :: ls) (st) h Q ↔ Wp 97 110 (l0 :: l1 :: l2 :: l3 :: l4 :: l5 :: l6 :: some (.ref i) :: ls) (.ref i :: st) h Q) ∧
  (∀ (ls : Lo) (st : List Value) (h : Hp) (Q : Option Value → Hp → Prop), Wp 97 110 (ls) (st) h Q ↔ Wp 97 111 (ls) (.int (0) :: st) h Q) ∧
  (∀ (ls : Lo) (st : List Value) (h : Hp) (Q : Option Value → Hp → Prop) (l0 l1 l2 l3 : Option Value) (i : Nat), Wp 97 111 (l0 :: l1 :: l2 :: l3 :: some (.ref i) :: ls) (st) h Q ↔ Wp 97 113 (l0 :: l1 :: l2 :: l3 :: some (.ref i) :: ls) (.ref i :: st) h Q) ∧
  (∀ (ls : Lo) (st : List Value) (h : Hp) (Q : Option Value → Hp → Prop), Wp 97 113 (ls) (st) h Q ↔ Wp 97 114 (ls) (.int (1) :: st) h Q) ∧
  (∀ (ls : Lo) (st : List Value) (h : Hp) (Q : Option Value → Hp → Prop) (l0 l1 l2 : Option Value) (x : Int32), Wp 97 114 (l0 :: l1 :: l2 :: some (.int x) :: ls) (st) h Q ↔ Wp 97 115 (l0 :: l1 :: l2 :: some (.int x) :: ls) (.int x :: st) h Q) ∧
  (∀ (ls : Lo) (st : List Value) (h : Hp) (Q : Option Value → Hp → Prop) (x : Int32), Wp 97 115 (ls) (.int x :: st) h Q ↔ Br 97 128 118 ls st h Q (x = 0)) ∧
  (∀ (ls : Lo) (st : List Value) (h : Hp) (Q : Option Value → Hp → Prop) (l0 l1 l2 l3 l4 : Option Value) (i : Nat), Wp 97 118 (l0 :: l1 :: l2 :: l3 :: l4 :: some (.ref i) :: ls) (st) h Q ↔ Wp 97 120 (l0 :: l1 :: l2 :: l3 :: l4 :: some (.ref i) :: ls) (.ref i :: st) h Q) ∧
  (∀ (ls : Lo) (st : List Value) (n sl : Nat) (C Z : Nat → Nat) (I : Nat → Nat → Int32) (L : Nat → Nat → Int64) (R : Nat → Nat → Nat) (Q : Option Value → Hp → Prop) (i : Nat), Wp 97 120 (ls) (.ref i :: st) (n, sl, C, Z, I, L, R) Q ↔ (inG 7 (C i) = true ∧ Wp 97 123 (ls) (.ref (R i 6) :: st) (n, sl, C, Z, I, L, R) Q)) ∧
  (∀ (ls : Lo) (st : List Value) (h : Hp) (Q : Option Value → Hp → Prop), Wp 97 123 (ls) (st) h Q ↔ Wp 97 124 (ls) (.int (0) :: st) h Q) ∧
  (∀ (ls : Lo) (st : List Value) (n sl : Nat) (C Z : Nat → Nat) (I : Nat → Nat → Int32) (L : Nat → Nat → Int64) (R : Nat → Nat → Nat) (Q : Option Value → Hp → Prop) (i : Nat) (y : Int32), Wp 97 124 (ls) (.int y :: .ref i :: st) (n, sl, C, Z, I, L, R) Q ↔ ((inb y (Z i) = true ∧ C i = 21) ∧ Wp 97 125 (ls) (.int (I i (ix y)) :: st) (n, sl, C, Z, I, L, R) Q)) ∧
  (∀ (ls : Lo) (st : List Value) (h : Hp) (Q : Option Value → Hp → Prop), Wp 97 125 (ls) (st) h Q ↔ Wp 97 129 (ls) (st) h Q) ∧
  (∀ (ls : Lo) (st : List Value) (h : Hp) (Q : Option Value → Hp → Prop), Wp 97 128 (ls) (st) h Q ↔ Wp 97 129 (ls) (.int (1) :: st) h Q) ∧
  (∀ (ls : Lo) (st : List Value) (h : Hp) (Q : Option Value → Hp → Prop) (x0 : Nat) (x1 : Int32) (x2 : Nat) (x3 : Int32) (x4 : Int32), Wp 97 129 (ls) (.int x4 :: .int x3 :: .ref x2 :: .int x1 :: .ref x0 :: st) h Q ↔ (wsum st ≤ 8 ∧ Call 98 [some (.ref x0), some (.int x1), some (.ref x2), some (.int x3), some (.int x4), none, none, none] h 97 132 ls st Q)) ∧
  (∀ (ls : Lo) (st : List Value) (h : Hp) (Q : Option Value → Hp → Prop) (l0 l1 l2 l3 l4 l5 l6 : Option Value) (i : Nat), Wp 97 132 (l0 :: l1 :: l2 :: l3 :: l4 :: l5 :: l6 :: some (.ref i) :: ls) (st) h Q ↔ Wp 97 134 (l0 :: l1 :: l2 :: l3 :: l4 :: l5 :: l6 :: some (.ref i) :: ls) (.ref i :: st) h Q) ∧
  (∀ (ls : Lo) (st : List Value) (h : Hp) (Q : Option Value → Hp → Prop) (l0 l1 l2 l3 : Option Value) (i : Nat), Wp 97 134 (l0 :: l1 :: l2 :: l3 :: some (.ref i) :: ls) (st) h Q ↔ Wp 97 136 (l0 :: l1 :: l2 :: l3 :: some (.ref i) :: ls) (.ref i :: st) h Q) ∧
  (∀ (ls : Lo) (st : List Value) (n sl : Nat) (C Z : Nat → Nat) (I : Nat → Nat → Int32) (L : Nat → Nat → Int64) (R : Nat → Nat → Nat) (Q : Option Value → Hp → Prop) (i : Nat), Wp 97 136 (ls) (.ref i :: st) (n, sl, C, Z, I, L, R) Q ↔ (inG 7 (C i) = true ∧ Wp 97 139 (ls) (.int (I i 1) :: st) (n, sl, C, Z, I, L, R) Q)) ∧
  (∀ (ls : Lo) (st : List Value) (h : Hp) (Q : Option Value → Hp → Prop) (l0 l1 l2 l3 l4 : Option Value) (i : Nat), Wp 97 139 (l0 :: l1 :: l2 :: l3 :: l4 :: some (.ref i) :: ls) (st) h Q ↔ Wp 97 141 (l0 :: l1 :: l2 :: l3 :: l4 :: some (.ref i) :: ls) (.ref i :: st) h Q) ∧
  (∀ (ls : Lo) (st : List Value) (h : Hp) (Q : Option Value → Hp → Prop) (l0 l1 l2 : Option Value) (x : Int32), Wp 97 141 (l0 :: l1 :: l2 :: some (.int x) :: ls) (st) h Q ↔ Wp 97 142 (l0 :: l1 :: l2 :: some (.int x) :: ls) (.int x :: st) h Q) ∧
  (∀ (ls : Lo) (st : List Value) (h : Hp) (Q : Option Value → Hp → Prop) (x : Int32), Wp 97 142 (ls) (.int x :: st) h Q ↔ Br 97 155 145 ls st h Q (x = 0)) ∧
  (∀ (ls : Lo) (st : List Value) (h : Hp) (Q : Option Value → Hp → Prop) (l0 l1 l2 l3 : Option Value) (i : Nat), Wp 97 145 (l0 :: l1 :: l2 :: l3 :: some (.ref i) :: ls) (st) h Q ↔ Wp 97 147 (l0 :: l1 :: l2 :: l3 :: some (.ref i) :: ls) (.ref i :: st) h Q) ∧
  (∀ (ls : Lo) (st : List Value) (n sl : Nat) (C Z : Nat → Nat) (I : Nat → Nat → Int32) (L : Nat → Nat → Int64) (R : Nat → Nat → Nat) (Q : Option Value → Hp → Prop) (i : Nat), Wp 97 147 (ls) (.ref i :: st) (n, sl, C, Z, I, L, R) Q ↔ (inG 7 (C i) = true ∧ Wp 97 150 (ls) (.ref (R i 6) :: st) (n, sl, C, Z, I, L, R) Q)) ∧
  (∀ (ls : Lo) (st : List Value) (h : Hp) (Q : Option Value → Hp → Prop), Wp 97 150 (ls) (st) h Q ↔ Wp 97 151 (ls) (.int (0) :: st) h Q) ∧
  (∀ (ls : Lo) (st : List Value) (n sl : Nat) (C Z : Nat → Nat) (I : Nat → Nat → Int32) (L : Nat → Nat → Int64) (R : Nat → Nat → Nat) (Q : Option Value → Hp → Prop) (i : Nat) (y : Int32), Wp 97 151 (ls) (.int y :: .ref i :: st) (n, sl, C, Z, I, L, R) Q ↔ ((inb y (Z i) = true ∧ C i = 21) ∧ Wp 97 152 (ls) (.int (I i (ix y)) :: st) (n, sl, C, Z, I, L, R) Q)) ∧
  (∀ (ls : Lo) (st : List Value) (h : Hp) (Q : Option Value → Hp → Prop), Wp 97 152 (ls) (st) h Q ↔ Wp 97 156 (ls) (st) h Q) := ⟨by intro ls st h Q l0 l1 l2 l3 l4 l5 l6 l7 i; exact e_astore d97_106 rfl,
  by intro ls st h Q l0 l1 l2 l3 l4 l5 l6 i; exact e_aload d97_108 rfl,
  by intro ls st h Q; exact e_iconst d97_110 rfl,
  by intro ls st h Q l0 l1 l2 l3 i; exact e_aload d97_111 rfl,
  by intro ls st h Q; exact e_iconst d97_113 rfl,
  by intro ls st h Q l0 l1 l2 x; exact e_iload_n d97_114 rfl,
  by intro ls st h Q x; exact e_if d97_115 (by decide) c_eq,
  by intro ls st h Q l0 l1 l2 l3 l4 i; exact e_aload d97_118 rfl,
  by intro ls st n sl C Z I L R Q i; exact e_get (g := 7) (s := 6) (ty := 2) d97_120 rfl rfl rfl,
  by intro ls st h Q; exact e_iconst d97_123 rfl,
  by intro ls st n sl C Z I L R Q i y; exact e_iald d97_124,
  by intro ls st h Q; exact e_goto d97_125 (by decide),
  by intro ls st h Q; exact e_iconst d97_128 rfl,
  by intro ls st h Q x0 x1 x2 x3 x4; exact e_is (k2 := 98) (as := [.ref x0, .int x1, .ref x2, .int x3, .int x4]) d97_129 rfl (by decide) rfl rfl (by decide +kernel) (Nat.le_of_ble_eq_true rfl) rfl,
  by intro ls st h Q l0 l1 l2 l3 l4 l5 l6 i; exact e_aload d97_132 rfl,
  by intro ls st h Q l0 l1 l2 l3 i; exact e_aload d97_134 rfl,
  by intro ls st n sl C Z I L R Q i; exact e_get (g := 7) (s := 1) (ty := 0) d97_136 rfl rfl rfl,
  by intro ls st h Q l0 l1 l2 l3 l4 i; exact e_aload d97_139 rfl,
  by intro ls st h Q l0 l1 l2 x; exact e_iload_n d97_141 rfl,
  by intro ls st h Q x; exact e_if d97_142 (by decide) c_eq,
  by intro ls st h Q l0 l1 l2 l3 i; exact e_aload d97_145 rfl,
  by intro ls st n sl C Z I L R Q i; exact e_get (g := 7) (s := 6) (ty := 2) d97_147 rfl rfl rfl,
  by intro ls st h Q; exact e_iconst d97_150 rfl,
  by intro ls st n sl C Z I L R Q i y; exact e_iald d97_151,
  by intro ls st h Q; exact e_goto d97_152 (by decide)⟩
set_option maxRecDepth 20000 in
theorem S97_3 : (∀ (ls : Lo) (st : List Value) (h : Hp) (Q : Option Value → Hp → Prop), Wp 97 155 (ls) (st) h Q ↔ Wp 97 156 (ls) (.int (1) :: st) h Q) ∧
  (∀ (ls : Lo) (st : List Value) (h : Hp) (Q : Option Value → Hp → Prop), Wp 97 156 (ls) (st) h Q ↔ Wp 97 157 (ls) (.int (1) :: st) h Q) ∧
  (∀ (ls : Lo) (st : List Value) (h : Hp) (Q : Option Value → Hp → Prop) (x0 : Nat) (x1 : Int32) (x2 : Nat) (x3 : Int32) (x4 : Int32), Wp 97 157 (ls) (.int x4 :: .int x3 :: .ref x2 :: .int x1 :: .ref x0 :: st) h Q ↔ (wsum st ≤ 8 ∧ Call 98 [some (.ref x0), some (.int x1), some (.ref x2), some (.int x3), some (.int x4), none, none, none] h 97 160 ls st Q)) ∧
  (∀ (ls : Lo) (st : List Value) (h : Hp) (Q : Option Value → Hp → Prop) (l0 l1 l2 : Option Value) (x : Int32), Wp 97 160 (l0 :: l1 :: l2 :: some (.int x) :: ls) (st) h Q ↔ Wp 97 161 (l0 :: l1 :: l2 :: some (.int x) :: ls) (.int x :: st) h Q) ∧
  (∀ (ls : Lo) (st : List Value) (h : Hp) (Q : Option Value → Hp → Prop) (x : Int32), Wp 97 161 (ls) (.int x :: st) h Q ↔ Br 97 173 164 ls st h Q (x = 0)) ∧
  (∀ (ls : Lo) (st : List Value) (h : Hp) (Q : Option Value → Hp → Prop) (l0 l1 l2 l3 l4 l5 l6 : Option Value) (i : Nat), Wp 97 164 (l0 :: l1 :: l2 :: l3 :: l4 :: l5 :: l6 :: some (.ref i) :: ls) (st) h Q ↔ Wp 97 166 (l0 :: l1 :: l2 :: l3 :: l4 :: l5 :: l6 :: some (.ref i) :: ls) (.ref i :: st) h Q) ∧
  (∀ (ls : Lo) (st : List Value) (h : Hp) (Q : Option Value → Hp → Prop) (l0 l1 l2 l3 : Option Value) (i : Nat), Wp 97 166 (l0 :: l1 :: l2 :: l3 :: some (.ref i) :: ls) (st) h Q ↔ Wp 97 168 (l0 :: l1 :: l2 :: l3 :: some (.ref i) :: ls) (.ref i :: st) h Q) ∧
  (∀ (ls : Lo) (st : List Value) (h : Hp) (Q : Option Value → Hp → Prop) (l0 l1 l2 l3 l4 : Option Value) (i : Nat), Wp 97 168 (l0 :: l1 :: l2 :: l3 :: l4 :: some (.ref i) :: ls) (st) h Q ↔ Wp 97 170 (l0 :: l1 :: l2 :: l3 :: l4 :: some (.ref i) :: ls) (.ref i :: st) h Q) ∧
  (∀ (ls : Lo) (st : List Value) (h : Hp) (Q : Option Value → Hp → Prop) (x0 : Nat) (x1 : Nat) (x2 : Nat), Wp 97 170 (ls) (.ref x2 :: .ref x1 :: .ref x0 :: st) h Q ↔ (wsum st ≤ 8 ∧ Call 99 [some (.ref x0), some (.ref x1), some (.ref x2), none, none] h 97 173 ls st Q)) ∧
  (∀ (ls : Lo) (st : List Value) (h : Hp) (Q : Option Value → Hp → Prop) (l0 l1 l2 l3 l4 l5 l6 : Option Value) (i : Nat), Wp 97 173 (l0 :: l1 :: l2 :: l3 :: l4 :: l5 :: l6 :: some (.ref i) :: ls) (st) h Q ↔ Wp 97 175 (l0 :: l1 :: l2 :: l3 :: l4 :: l5 :: l6 :: some (.ref i) :: ls) (.ref i :: st) h Q) ∧
  (∀ (ls : Lo) (st : List Value) (n sl : Nat) (C Z : Nat → Nat) (I : Nat → Nat → Int32) (L : Nat → Nat → Int64) (R : Nat → Nat → Nat) (Q : Option Value → Hp → Prop) (i : Nat), Wp 97 175 (ls) (.ref i :: st) (n, sl, C, Z, I, L, R) Q ↔ (inG 7 (C i) = true ∧ Wp 97 178 (ls) (.ref (R i 6) :: st) (n, sl, C, Z, I, L, R) Q)) ∧
  (∀ (ls : Lo) (st : List Value) (h : Hp) (Q : Option Value → Hp → Prop), Wp 97 178 (ls) (st) h Q ↔ Wp 97 179 (ls) (.int (0) :: st) h Q) ∧
  (∀ (ls : Lo) (st : List Value) (h : Hp) (Q : Option Value → Hp → Prop) (l0 l1 l2 : Option Value) (x : Int32), Wp 97 179 (l0 :: l1 :: l2 :: some (.int x) :: ls) (st) h Q ↔ Wp 97 180 (l0 :: l1 :: l2 :: some (.int x) :: ls) (.int x :: st) h Q) ∧
  (∀ (ls : Lo) (st : List Value) (h : Hp) (Q : Option Value → Hp → Prop) (x : Int32), Wp 97 180 (ls) (.int x :: st) h Q ↔ Br 97 201 183 ls st h Q (x = 0)) ∧
  (∀ (ls : Lo) (st : List Value) (h : Hp) (Q : Option Value → Hp → Prop) (l0 l1 l2 l3 : Option Value) (i : Nat), Wp 97 183 (l0 :: l1 :: l2 :: l3 :: some (.ref i) :: ls) (st) h Q ↔ Wp 97 185 (l0 :: l1 :: l2 :: l3 :: some (.ref i) :: ls) (.ref i :: st) h Q) ∧
  (∀ (ls : Lo) (st : List Value) (n sl : Nat) (C Z : Nat → Nat) (I : Nat → Nat → Int32) (L : Nat → Nat → Int64) (R : Nat → Nat → Nat) (Q : Option Value → Hp → Prop) (i : Nat), Wp 97 185 (ls) (.ref i :: st) (n, sl, C, Z, I, L, R) Q ↔ (inG 7 (C i) = true ∧ Wp 97 188 (ls) (.ref (R i 6) :: st) (n, sl, C, Z, I, L, R) Q)) ∧
  (∀ (ls : Lo) (st : List Value) (h : Hp) (Q : Option Value → Hp → Prop), Wp 97 188 (ls) (st) h Q ↔ Wp 97 189 (ls) (.int (0) :: st) h Q) ∧
  (∀ (ls : Lo) (st : List Value) (n sl : Nat) (C Z : Nat → Nat) (I : Nat → Nat → Int32) (L : Nat → Nat → Int64) (R : Nat → Nat → Nat) (Q : Option Value → Hp → Prop) (i : Nat) (y : Int32), Wp 97 189 (ls) (.int y :: .ref i :: st) (n, sl, C, Z, I, L, R) Q ↔ ((inb y (Z i) = true ∧ C i = 21) ∧ Wp 97 190 (ls) (.int (I i (ix y)) :: st) (n, sl, C, Z, I, L, R) Q)) ∧
  (∀ (ls : Lo) (st : List Value) (h : Hp) (Q : Option Value → Hp → Prop) (l0 l1 l2 l3 l4 : Option Value) (i : Nat), Wp 97 190 (l0 :: l1 :: l2 :: l3 :: l4 :: some (.ref i) :: ls) (st) h Q ↔ Wp 97 192 (l0 :: l1 :: l2 :: l3 :: l4 :: some (.ref i) :: ls) (.ref i :: st) h Q) ∧
  (∀ (ls : Lo) (st : List Value) (n sl : Nat) (C Z : Nat → Nat) (I : Nat → Nat → Int32) (L : Nat → Nat → Int64) (R : Nat → Nat → Nat) (Q : Option Value → Hp → Prop) (i : Nat), Wp 97 192 (ls) (.ref i :: st) (n, sl, C, Z, I, L, R) Q ↔ (inG 7 (C i) = true ∧ Wp 97 195 (ls) (.ref (R i 6) :: st) (n, sl, C, Z, I, L, R) Q)) ∧
  (∀ (ls : Lo) (st : List Value) (h : Hp) (Q : Option Value → Hp → Prop), Wp 97 195 (ls) (st) h Q ↔ Wp 97 196 (ls) (.int (0) :: st) h Q) ∧
  (∀ (ls : Lo) (st : List Value) (n sl : Nat) (C Z : Nat → Nat) (I : Nat → Nat → Int32) (L : Nat → Nat → Int64) (R : Nat → Nat → Nat) (Q : Option Value → Hp → Prop) (i : Nat) (y : Int32), Wp 97 196 (ls) (.int y :: .ref i :: st) (n, sl, C, Z, I, L, R) Q ↔ ((inb y (Z i) = true ∧ C i = 21) ∧ Wp 97 197 (ls) (.int (I i (ix y)) :: st) (n, sl, C, Z, I, L, R) Q)) ∧
  (∀ (ls : Lo) (st : List Value) (h : Hp) (Q : Option Value → Hp → Prop) (x y : Int32), Wp 97 197 (ls) (.int y :: .int x :: st) h Q ↔ Wp 97 198 (ls) (.int (x * y) :: st) h Q) ∧
  (∀ (ls : Lo) (st : List Value) (h : Hp) (Q : Option Value → Hp → Prop), Wp 97 198 (ls) (st) h Q ↔ Wp 97 216 (ls) (st) h Q) ∧
  (∀ (ls : Lo) (st : List Value) (h : Hp) (Q : Option Value → Hp → Prop) (l0 l1 l2 l3 : Option Value) (i : Nat), Wp 97 201 (l0 :: l1 :: l2 :: l3 :: some (.ref i) :: ls) (st) h Q ↔ Wp 97 203 (l0 :: l1 :: l2 :: l3 :: some (.ref i) :: ls) (.ref i :: st) h Q) := ⟨by intro ls st h Q; exact e_iconst d97_155 rfl,
  by intro ls st h Q; exact e_iconst d97_156 rfl,
  by intro ls st h Q x0 x1 x2 x3 x4; exact e_is (k2 := 98) (as := [.ref x0, .int x1, .ref x2, .int x3, .int x4]) d97_157 rfl (by decide) rfl rfl (by decide +kernel) (Nat.le_of_ble_eq_true rfl) rfl,
  by intro ls st h Q l0 l1 l2 x; exact e_iload_n d97_160 rfl,
  by intro ls st h Q x; exact e_if d97_161 (by decide) c_eq,
  by intro ls st h Q l0 l1 l2 l3 l4 l5 l6 i; exact e_aload d97_164 rfl,
  by intro ls st h Q l0 l1 l2 l3 i; exact e_aload d97_166 rfl,
  by intro ls st h Q l0 l1 l2 l3 l4 i; exact e_aload d97_168 rfl,
  by intro ls st h Q x0 x1 x2; exact e_is (k2 := 99) (as := [.ref x0, .ref x1, .ref x2]) d97_170 rfl (by decide) rfl rfl (by decide +kernel) (Nat.le_of_ble_eq_true rfl) rfl,
  by intro ls st h Q l0 l1 l2 l3 l4 l5 l6 i; exact e_aload d97_173 rfl,
  by intro ls st n sl C Z I L R Q i; exact e_get (g := 7) (s := 6) (ty := 2) d97_175 rfl rfl rfl,
  by intro ls st h Q; exact e_iconst d97_178 rfl,
  by intro ls st h Q l0 l1 l2 x; exact e_iload_n d97_179 rfl,
  by intro ls st h Q x; exact e_if d97_180 (by decide) c_eq,
  by intro ls st h Q l0 l1 l2 l3 i; exact e_aload d97_183 rfl,
  by intro ls st n sl C Z I L R Q i; exact e_get (g := 7) (s := 6) (ty := 2) d97_185 rfl rfl rfl,
  by intro ls st h Q; exact e_iconst d97_188 rfl,
  by intro ls st n sl C Z I L R Q i y; exact e_iald d97_189,
  by intro ls st h Q l0 l1 l2 l3 l4 i; exact e_aload d97_190 rfl,
  by intro ls st n sl C Z I L R Q i; exact e_get (g := 7) (s := 6) (ty := 2) d97_192 rfl rfl rfl,
  by intro ls st h Q; exact e_iconst d97_195 rfl,
  by intro ls st n sl C Z I L R Q i y; exact e_iald d97_196,
  by intro ls st h Q x y; exact e_imul d97_197,
  by intro ls st h Q; exact e_goto d97_198 (by decide),
  by intro ls st h Q l0 l1 l2 l3 i; exact e_aload d97_201 rfl⟩
set_option maxRecDepth 20000 in
theorem S97_4 : (∀ (ls : Lo) (st : List Value) (n sl : Nat) (C Z : Nat → Nat) (I : Nat → Nat → Int32) (L : Nat → Nat → Int64) (R : Nat → Nat → Nat) (Q : Option Value → Hp → Prop) (i : Nat), Wp 97 203 (ls) (.ref i :: st) (n, sl, C, Z, I, L, R) Q ↔ (inG 7 (C i) = true ∧ Wp 97 206 (ls) (.ref (R i 6) :: st) (n, sl, C, Z, I, L, R) Q)) ∧
  (∀ (ls : Lo) (st : List Value) (h : Hp) (Q : Option Value → Hp → Prop), Wp 97 206 (ls) (st) h Q ↔ Wp 97 207 (ls) (.int (0) :: st) h Q) ∧
  (∀ (ls : Lo) (st : List Value) (n sl : Nat) (C Z : Nat → Nat) (I : Nat → Nat → Int32) (L : Nat → Nat → Int64) (R : Nat → Nat → Nat) (Q : Option Value → Hp → Prop) (i : Nat) (y : Int32), Wp 97 207 (ls) (.int y :: .ref i :: st) (n, sl, C, Z, I, L, R) Q ↔ ((inb y (Z i) = true ∧ C i = 21) ∧ Wp 97 208 (ls) (.int (I i (ix y)) :: st) (n, sl, C, Z, I, L, R) Q)) ∧
  (∀ (ls : Lo) (st : List Value) (h : Hp) (Q : Option Value → Hp → Prop) (l0 l1 l2 l3 l4 : Option Value) (i : Nat), Wp 97 208 (l0 :: l1 :: l2 :: l3 :: l4 :: some (.ref i) :: ls) (st) h Q ↔ Wp 97 210 (l0 :: l1 :: l2 :: l3 :: l4 :: some (.ref i) :: ls) (.ref i :: st) h Q) ∧
  (∀ (ls : Lo) (st : List Value) (n sl : Nat) (C Z : Nat → Nat) (I : Nat → Nat → Int32) (L : Nat → Nat → Int64) (R : Nat → Nat → Nat) (Q : Option Value → Hp → Prop) (i : Nat), Wp 97 210 (ls) (.ref i :: st) (n, sl, C, Z, I, L, R) Q ↔ (inG 7 (C i) = true ∧ Wp 97 213 (ls) (.ref (R i 6) :: st) (n, sl, C, Z, I, L, R) Q)) ∧
  (∀ (ls : Lo) (st : List Value) (h : Hp) (Q : Option Value → Hp → Prop), Wp 97 213 (ls) (st) h Q ↔ Wp 97 214 (ls) (.int (0) :: st) h Q) ∧
  (∀ (ls : Lo) (st : List Value) (n sl : Nat) (C Z : Nat → Nat) (I : Nat → Nat → Int32) (L : Nat → Nat → Int64) (R : Nat → Nat → Nat) (Q : Option Value → Hp → Prop) (i : Nat) (y : Int32), Wp 97 214 (ls) (.int y :: .ref i :: st) (n, sl, C, Z, I, L, R) Q ↔ ((inb y (Z i) = true ∧ C i = 21) ∧ Wp 97 215 (ls) (.int (I i (ix y)) :: st) (n, sl, C, Z, I, L, R) Q)) ∧
  (∀ (ls : Lo) (st : List Value) (h : Hp) (Q : Option Value → Hp → Prop) (x y : Int32), Wp 97 215 (ls) (.int y :: .int x :: st) h Q ↔ Wp 97 216 (ls) (.int (x + y) :: st) h Q) ∧
  (∀ (ls : Lo) (st : List Value) (n sl : Nat) (C Z : Nat → Nat) (I : Nat → Nat → Int32) (L : Nat → Nat → Int64) (R : Nat → Nat → Nat) (Q : Option Value → Hp → Prop) (i : Nat) (x y : Int32), Wp 97 216 (ls) (.int x :: .int y :: .ref i :: st) (n, sl, C, Z, I, L, R) Q ↔ ((inb y (Z i) = true ∧ C i = 21) ∧ Wp 97 217 (ls) (st) (n, sl, C, Z, u2 I i (ix y) x, L, R) Q)) ∧
  (∀ (ls : Lo) (st : List Value) (h : Hp) (Q : Option Value → Hp → Prop)  (i : Nat), Wp 97 217 (some (.ref i) :: ls) (st) h Q ↔ Wp 97 218 (some (.ref i) :: ls) (.ref i :: st) h Q) ∧
  (∀ (ls : Lo) (st : List Value) (h : Hp) (Q : Option Value → Hp → Prop) (l0 l1 l2 l3 l4 l5 l6 : Option Value) (i : Nat), Wp 97 218 (l0 :: l1 :: l2 :: l3 :: l4 :: l5 :: l6 :: some (.ref i) :: ls) (st) h Q ↔ Wp 97 220 (l0 :: l1 :: l2 :: l3 :: l4 :: l5 :: l6 :: some (.ref i) :: ls) (.ref i :: st) h Q) ∧
  (∀ (ls : Lo) (st : List Value) (n sl : Nat) (C Z : Nat → Nat) (I : Nat → Nat → Int32) (L : Nat → Nat → Int64) (R : Nat → Nat → Nat) (Q : Option Value → Hp → Prop) (x0 : Nat) (i : Nat), C i = 10 → (Wp 97 220 (ls) (.ref x0 :: .ref i :: st) (n, sl, C, Z, I, L, R) Q ↔ (wsum st ≤ 8 ∧ Call 96 [some (.ref i), some (.ref x0), none, none, none, none, none] (n, sl, C, Z, I, L, R) 97 223 ls st Q))) ∧
  (∀ (ls : Lo) (h : Hp) (Q : Option Value → Hp → Prop) (x : Int32), Wp 97 223 (ls) ([.int x]) h Q ↔ Q (some (.int x)) h) := ⟨by intro ls st n sl C Z I L R Q i; exact e_get (g := 7) (s := 6) (ty := 2) d97_203 rfl rfl rfl,
  by intro ls st h Q; exact e_iconst d97_206 rfl,
  by intro ls st n sl C Z I L R Q i y; exact e_iald d97_207,
  by intro ls st h Q l0 l1 l2 l3 l4 i; exact e_aload d97_208 rfl,
  by intro ls st n sl C Z I L R Q i; exact e_get (g := 7) (s := 6) (ty := 2) d97_210 rfl rfl rfl,
  by intro ls st h Q; exact e_iconst d97_213 rfl,
  by intro ls st n sl C Z I L R Q i y; exact e_iald d97_214,
  by intro ls st h Q x y; exact e_iadd d97_215,
  by intro ls st n sl C Z I L R Q i x y; exact e_iast d97_216,
  by intro ls st h Q i; exact e_aload_n d97_217 rfl,
  by intro ls st h Q l0 l1 l2 l3 l4 l5 l6 i; exact e_aload d97_218 rfl,
  by intro ls st n sl C Z I L R Q x0 i hh; exact e_iv (k2 := 96) (c := 10) (as := [.ref x0]) d97_220 rfl (by decide) rfl rfl (by decide +kernel) (Nat.le_of_ble_eq_true rfl) rfl hh,
  by intros; exact e_rI (p := True) d97_223 rfl⟩
theorem d98_0 : decode (byt 98) 0 = .ok (.aload_n 2, 1) := by decide +kernel
theorem d98_1 : decode (byt 98) 1 = .ok (.getfield 106, 3) := by decide +kernel
theorem d98_4 : decode (byt 98) 4 = .ok (.iconst 3, 1) := by decide +kernel
theorem d98_5 : decode (byt 98) 5 = .ok (.iload_n 1, 1) := by decide +kernel
theorem d98_6 : decode (byt 98) 6 = .ok (.isub, 1) := by decide +kernel
theorem d98_7 : decode (byt 98) 7 = .ok (.invokestatic 220, 3) := by decide +kernel
theorem d98_10 : decode (byt 98) 10 = .ok (.istore 5, 2) := by decide +kernel
theorem d98_12 : decode (byt 98) 12 = .ok (.iconst 0, 1) := by decide +kernel
theorem d98_13 : decode (byt 98) 13 = .ok (.istore 6, 2) := by decide +kernel
theorem d98_15 : decode (byt 98) 15 = .ok (.iload 6, 2) := by decide +kernel
theorem d98_17 : decode (byt 98) 17 = .ok (.iload 5, 2) := by decide +kernel
theorem d98_19 : decode (byt 98) 19 = .ok (.if_icmp .ge 90, 3) := by decide +kernel
theorem d98_22 : decode (byt 98) 22 = .ok (.iconst 0, 1) := by decide +kernel
theorem d98_23 : decode (byt 98) 23 = .ok (.istore 7, 2) := by decide +kernel
theorem d98_25 : decode (byt 98) 25 = .ok (.iload 7, 2) := by decide +kernel
theorem d98_27 : decode (byt 98) 27 = .ok (.iload 5, 2) := by decide +kernel
theorem d98_29 : decode (byt 98) 29 = .ok (.if_icmp .ge 37, 3) := by decide +kernel
theorem d98_32 : decode (byt 98) 32 = .ok (.aload_n 0, 1) := by decide +kernel
theorem d98_33 : decode (byt 98) 33 = .ok (.getfield 113, 3) := by decide +kernel
theorem d98_36 : decode (byt 98) 36 = .ok (.iconst 3, 1) := by decide +kernel
theorem d98_37 : decode (byt 98) 37 = .ok (.iload_n 1, 1) := by decide +kernel
theorem d98_38 : decode (byt 98) 38 = .ok (.iload 6, 2) := by decide +kernel
theorem d98_40 : decode (byt 98) 40 = .ok (.iadd, 1) := by decide +kernel
theorem d98_41 : decode (byt 98) 41 = .ok (.imul, 1) := by decide +kernel
theorem d98_42 : decode (byt 98) 42 = .ok (.iload_n 1, 1) := by decide +kernel
theorem d98_43 : decode (byt 98) 43 = .ok (.iadd, 1) := by decide +kernel
theorem d98_44 : decode (byt 98) 44 = .ok (.iload 7, 2) := by decide +kernel
theorem d98_46 : decode (byt 98) 46 = .ok (.iadd, 1) := by decide +kernel
theorem d98_47 : decode (byt 98) 47 = .ok (.aload_n 2, 1) := by decide +kernel
theorem d98_48 : decode (byt 98) 48 = .ok (.getfield 116, 3) := by decide +kernel
theorem d98_51 : decode (byt 98) 51 = .ok (.iconst 3, 1) := by decide +kernel
theorem d98_52 : decode (byt 98) 52 = .ok (.iload 6, 2) := by decide +kernel
theorem d98_54 : decode (byt 98) 54 = .ok (.imul, 1) := by decide +kernel
theorem d98_55 : decode (byt 98) 55 = .ok (.iload 7, 2) := by decide +kernel
theorem d98_57 : decode (byt 98) 57 = .ok (.iadd, 1) := by decide +kernel
theorem d98_58 : decode (byt 98) 58 = .ok (.iaload, 1) := by decide +kernel
theorem d98_59 : decode (byt 98) 59 = .ok (.iastore, 1) := by decide +kernel
theorem d98_60 : decode (byt 98) 60 = .ok (.iinc 7 1, 3) := by decide +kernel
theorem d98_63 : decode (byt 98) 63 = .ok (.goto (-38), 3) := by decide +kernel
theorem d98_66 : decode (byt 98) 66 = .ok (.aload_n 0, 1) := by decide +kernel
theorem d98_67 : decode (byt 98) 67 = .ok (.getfield 123, 3) := by decide +kernel
theorem d98_70 : decode (byt 98) 70 = .ok (.iload_n 1, 1) := by decide +kernel
theorem d98_71 : decode (byt 98) 71 = .ok (.iload 6, 2) := by decide +kernel
theorem d98_73 : decode (byt 98) 73 = .ok (.iadd, 1) := by decide +kernel
theorem d98_74 : decode (byt 98) 74 = .ok (.aload_n 2, 1) := by decide +kernel
theorem d98_75 : decode (byt 98) 75 = .ok (.getfield 117, 3) := by decide +kernel
theorem d98_78 : decode (byt 98) 78 = .ok (.iload 6, 2) := by decide +kernel
theorem d98_80 : decode (byt 98) 80 = .ok (.iaload, 1) := by decide +kernel
theorem d98_81 : decode (byt 98) 81 = .ok (.iload_n 3, 1) := by decide +kernel
theorem d98_82 : decode (byt 98) 82 = .ok (.imul, 1) := by decide +kernel
theorem d98_83 : decode (byt 98) 83 = .ok (.iastore, 1) := by decide +kernel
theorem d98_84 : decode (byt 98) 84 = .ok (.aload_n 0, 1) := by decide +kernel
theorem d98_85 : decode (byt 98) 85 = .ok (.getfield 124, 3) := by decide +kernel
theorem d98_88 : decode (byt 98) 88 = .ok (.iload_n 1, 1) := by decide +kernel
theorem d98_89 : decode (byt 98) 89 = .ok (.iload 6, 2) := by decide +kernel
theorem d98_91 : decode (byt 98) 91 = .ok (.iadd, 1) := by decide +kernel
theorem d98_92 : decode (byt 98) 92 = .ok (.aload_n 2, 1) := by decide +kernel
theorem d98_93 : decode (byt 98) 93 = .ok (.getfield 120, 3) := by decide +kernel
theorem d98_96 : decode (byt 98) 96 = .ok (.iload 6, 2) := by decide +kernel
theorem d98_98 : decode (byt 98) 98 = .ok (.iaload, 1) := by decide +kernel
theorem d98_99 : decode (byt 98) 99 = .ok (.iload 4, 2) := by decide +kernel
theorem d98_101 : decode (byt 98) 101 = .ok (.imul, 1) := by decide +kernel
theorem d98_102 : decode (byt 98) 102 = .ok (.iastore, 1) := by decide +kernel
theorem d98_103 : decode (byt 98) 103 = .ok (.iinc 6 1, 3) := by decide +kernel
theorem d98_106 : decode (byt 98) 106 = .ok (.goto (-91), 3) := by decide +kernel
theorem d98_109 : decode (byt 98) 109 = .ok (.return_, 1) := by decide +kernel
set_option maxRecDepth 20000 in
theorem S98_0 : (∀ (ls : Lo) (st : List Value) (h : Hp) (Q : Option Value → Hp → Prop) (l0 l1 : Option Value) (i : Nat), Wp 98 0 (l0 :: l1 :: some (.ref i) :: ls) (st) h Q ↔ Wp 98 1 (l0 :: l1 :: some (.ref i) :: ls) (.ref i :: st) h Q) ∧
  (∀ (ls : Lo) (st : List Value) (n sl : Nat) (C Z : Nat → Nat) (I : Nat → Nat → Int32) (L : Nat → Nat → Int64) (R : Nat → Nat → Nat) (Q : Option Value → Hp → Prop) (i : Nat), Wp 98 1 (ls) (.ref i :: st) (n, sl, C, Z, I, L, R) Q ↔ (inG 7 (C i) = true ∧ Wp 98 4 (ls) (.int (I i 1) :: st) (n, sl, C, Z, I, L, R) Q)) ∧
  (∀ (ls : Lo) (st : List Value) (h : Hp) (Q : Option Value → Hp → Prop), Wp 98 4 (ls) (st) h Q ↔ Wp 98 5 (ls) (.int (3) :: st) h Q) ∧
  (∀ (ls : Lo) (st : List Value) (h : Hp) (Q : Option Value → Hp → Prop) (l0 : Option Value) (x : Int32), Wp 98 5 (l0 :: some (.int x) :: ls) (st) h Q ↔ Wp 98 6 (l0 :: some (.int x) :: ls) (.int x :: st) h Q) ∧
  (∀ (ls : Lo) (st : List Value) (h : Hp) (Q : Option Value → Hp → Prop) (x y : Int32), Wp 98 6 (ls) (.int y :: .int x :: st) h Q ↔ Wp 98 7 (ls) (.int (x - y) :: st) h Q) ∧
  (∀ (ls : Lo) (st : List Value) (h : Hp) (Q : Option Value → Hp → Prop) (x y : Int32), Wp 98 7 (ls) (.int y :: .int x :: st) h Q ↔ (wsum st ≤ 8 ∧ Wp 98 10 (ls) (.int (if y < x then y else x) :: st) h Q)) ∧
  (∀ (ls : Lo) (st : List Value) (h : Hp) (Q : Option Value → Hp → Prop) (l0 l1 l2 l3 l4 l5 : Option Value) (x : Int32), Wp 98 10 (l0 :: l1 :: l2 :: l3 :: l4 :: l5 :: ls) (.int x :: st) h Q ↔ Wp 98 12 (l0 :: l1 :: l2 :: l3 :: clr l4 :: some (.int x) :: ls) (st) h Q) ∧
  (∀ (ls : Lo) (st : List Value) (h : Hp) (Q : Option Value → Hp → Prop), Wp 98 12 (ls) (st) h Q ↔ Wp 98 13 (ls) (.int (0) :: st) h Q) ∧
  (∀ (ls : Lo) (st : List Value) (h : Hp) (Q : Option Value → Hp → Prop) (l0 l1 l2 l3 l4 l5 l6 : Option Value) (x : Int32), Wp 98 13 (l0 :: l1 :: l2 :: l3 :: l4 :: l5 :: l6 :: ls) (.int x :: st) h Q ↔ Wp 98 15 (l0 :: l1 :: l2 :: l3 :: l4 :: clr l5 :: some (.int x) :: ls) (st) h Q) ∧
  (∀ (ls : Lo) (st : List Value) (h : Hp) (Q : Option Value → Hp → Prop) (l0 l1 l2 l3 l4 l5 : Option Value) (x : Int32), Wp 98 15 (l0 :: l1 :: l2 :: l3 :: l4 :: l5 :: some (.int x) :: ls) (st) h Q ↔ Wp 98 17 (l0 :: l1 :: l2 :: l3 :: l4 :: l5 :: some (.int x) :: ls) (.int x :: st) h Q) ∧
  (∀ (ls : Lo) (st : List Value) (h : Hp) (Q : Option Value → Hp → Prop) (l0 l1 l2 l3 l4 : Option Value) (x : Int32), Wp 98 17 (l0 :: l1 :: l2 :: l3 :: l4 :: some (.int x) :: ls) (st) h Q ↔ Wp 98 19 (l0 :: l1 :: l2 :: l3 :: l4 :: some (.int x) :: ls) (.int x :: st) h Q) ∧
  (∀ (ls : Lo) (st : List Value) (h : Hp) (Q : Option Value → Hp → Prop) (x y : Int32), Wp 98 19 (ls) (.int y :: .int x :: st) h Q ↔ Br 98 109 22 ls st h Q (y ≤ x)) ∧
  (∀ (ls : Lo) (st : List Value) (h : Hp) (Q : Option Value → Hp → Prop), Wp 98 22 (ls) (st) h Q ↔ Wp 98 23 (ls) (.int (0) :: st) h Q) ∧
  (∀ (ls : Lo) (st : List Value) (h : Hp) (Q : Option Value → Hp → Prop) (l0 l1 l2 l3 l4 l5 l6 l7 : Option Value) (x : Int32), Wp 98 23 (l0 :: l1 :: l2 :: l3 :: l4 :: l5 :: l6 :: l7 :: ls) (.int x :: st) h Q ↔ Wp 98 25 (l0 :: l1 :: l2 :: l3 :: l4 :: l5 :: clr l6 :: some (.int x) :: ls) (st) h Q) ∧
  (∀ (ls : Lo) (st : List Value) (h : Hp) (Q : Option Value → Hp → Prop) (l0 l1 l2 l3 l4 l5 l6 : Option Value) (x : Int32), Wp 98 25 (l0 :: l1 :: l2 :: l3 :: l4 :: l5 :: l6 :: some (.int x) :: ls) (st) h Q ↔ Wp 98 27 (l0 :: l1 :: l2 :: l3 :: l4 :: l5 :: l6 :: some (.int x) :: ls) (.int x :: st) h Q) ∧
  (∀ (ls : Lo) (st : List Value) (h : Hp) (Q : Option Value → Hp → Prop) (l0 l1 l2 l3 l4 : Option Value) (x : Int32), Wp 98 27 (l0 :: l1 :: l2 :: l3 :: l4 :: some (.int x) :: ls) (st) h Q ↔ Wp 98 29 (l0 :: l1 :: l2 :: l3 :: l4 :: some (.int x) :: ls) (.int x :: st) h Q) ∧
  (∀ (ls : Lo) (st : List Value) (h : Hp) (Q : Option Value → Hp → Prop) (x y : Int32), Wp 98 29 (ls) (.int y :: .int x :: st) h Q ↔ Br 98 66 32 ls st h Q (y ≤ x)) ∧
  (∀ (ls : Lo) (st : List Value) (h : Hp) (Q : Option Value → Hp → Prop)  (i : Nat), Wp 98 32 (some (.ref i) :: ls) (st) h Q ↔ Wp 98 33 (some (.ref i) :: ls) (.ref i :: st) h Q) ∧
  (∀ (ls : Lo) (st : List Value) (n sl : Nat) (C Z : Nat → Nat) (I : Nat → Nat → Int32) (L : Nat → Nat → Int64) (R : Nat → Nat → Nat) (Q : Option Value → Hp → Prop) (i : Nat), Wp 98 33 (ls) (.ref i :: st) (n, sl, C, Z, I, L, R) Q ↔ (inG 7 (C i) = true ∧ Wp 98 36 (ls) (.ref (R i 3) :: st) (n, sl, C, Z, I, L, R) Q)) ∧
  (∀ (ls : Lo) (st : List Value) (h : Hp) (Q : Option Value → Hp → Prop), Wp 98 36 (ls) (st) h Q ↔ Wp 98 37 (ls) (.int (3) :: st) h Q) ∧
  (∀ (ls : Lo) (st : List Value) (h : Hp) (Q : Option Value → Hp → Prop) (l0 : Option Value) (x : Int32), Wp 98 37 (l0 :: some (.int x) :: ls) (st) h Q ↔ Wp 98 38 (l0 :: some (.int x) :: ls) (.int x :: st) h Q) ∧
  (∀ (ls : Lo) (st : List Value) (h : Hp) (Q : Option Value → Hp → Prop) (l0 l1 l2 l3 l4 l5 : Option Value) (x : Int32), Wp 98 38 (l0 :: l1 :: l2 :: l3 :: l4 :: l5 :: some (.int x) :: ls) (st) h Q ↔ Wp 98 40 (l0 :: l1 :: l2 :: l3 :: l4 :: l5 :: some (.int x) :: ls) (.int x :: st) h Q) ∧
  (∀ (ls : Lo) (st : List Value) (h : Hp) (Q : Option Value → Hp → Prop) (x y : Int32), Wp 98 40 (ls) (.int y :: .int x :: st) h Q ↔ Wp 98 41 (ls) (.int (x + y) :: st) h Q) ∧
  (∀ (ls : Lo) (st : List Value) (h : Hp) (Q : Option Value → Hp → Prop) (x y : Int32), Wp 98 41 (ls) (.int y :: .int x :: st) h Q ↔ Wp 98 42 (ls) (.int (x * y) :: st) h Q) ∧
  (∀ (ls : Lo) (st : List Value) (h : Hp) (Q : Option Value → Hp → Prop) (l0 : Option Value) (x : Int32), Wp 98 42 (l0 :: some (.int x) :: ls) (st) h Q ↔ Wp 98 43 (l0 :: some (.int x) :: ls) (.int x :: st) h Q) := ⟨by intro ls st h Q l0 l1 i; exact e_aload_n d98_0 rfl,
  by intro ls st n sl C Z I L R Q i; exact e_get (g := 7) (s := 1) (ty := 0) d98_1 rfl rfl rfl,
  by intro ls st h Q; exact e_iconst d98_4 rfl,
  by intro ls st h Q l0 x; exact e_iload_n d98_5 rfl,
  by intro ls st h Q x y; exact e_isub d98_6,
  by intro ls st h Q x y; exact e_min d98_7 rfl (by decide +kernel),
  by intro ls st h Q l0 l1 l2 l3 l4 l5 x; exact e_istore d98_10 rfl,
  by intro ls st h Q; exact e_iconst d98_12 rfl,
  by intro ls st h Q l0 l1 l2 l3 l4 l5 l6 x; exact e_istore d98_13 rfl,
  by intro ls st h Q l0 l1 l2 l3 l4 l5 x; exact e_iload d98_15 rfl,
  by intro ls st h Q l0 l1 l2 l3 l4 x; exact e_iload d98_17 rfl,
  by intro ls st h Q x y; exact e_ic d98_19 (by decide) c_ge,
  by intro ls st h Q; exact e_iconst d98_22 rfl,
  by intro ls st h Q l0 l1 l2 l3 l4 l5 l6 l7 x; exact e_istore d98_23 rfl,
  by intro ls st h Q l0 l1 l2 l3 l4 l5 l6 x; exact e_iload d98_25 rfl,
  by intro ls st h Q l0 l1 l2 l3 l4 x; exact e_iload d98_27 rfl,
  by intro ls st h Q x y; exact e_ic d98_29 (by decide) c_ge,
  by intro ls st h Q i; exact e_aload_n d98_32 rfl,
  by intro ls st n sl C Z I L R Q i; exact e_get (g := 7) (s := 3) (ty := 2) d98_33 rfl rfl rfl,
  by intro ls st h Q; exact e_iconst d98_36 rfl,
  by intro ls st h Q l0 x; exact e_iload_n d98_37 rfl,
  by intro ls st h Q l0 l1 l2 l3 l4 l5 x; exact e_iload d98_38 rfl,
  by intro ls st h Q x y; exact e_iadd d98_40,
  by intro ls st h Q x y; exact e_imul d98_41,
  by intro ls st h Q l0 x; exact e_iload_n d98_42 rfl⟩
set_option maxRecDepth 20000 in
theorem S98_1 : (∀ (ls : Lo) (st : List Value) (h : Hp) (Q : Option Value → Hp → Prop) (x y : Int32), Wp 98 43 (ls) (.int y :: .int x :: st) h Q ↔ Wp 98 44 (ls) (.int (x + y) :: st) h Q) ∧
  (∀ (ls : Lo) (st : List Value) (h : Hp) (Q : Option Value → Hp → Prop) (l0 l1 l2 l3 l4 l5 l6 : Option Value) (x : Int32), Wp 98 44 (l0 :: l1 :: l2 :: l3 :: l4 :: l5 :: l6 :: some (.int x) :: ls) (st) h Q ↔ Wp 98 46 (l0 :: l1 :: l2 :: l3 :: l4 :: l5 :: l6 :: some (.int x) :: ls) (.int x :: st) h Q) ∧
  (∀ (ls : Lo) (st : List Value) (h : Hp) (Q : Option Value → Hp → Prop) (x y : Int32), Wp 98 46 (ls) (.int y :: .int x :: st) h Q ↔ Wp 98 47 (ls) (.int (x + y) :: st) h Q) ∧
  (∀ (ls : Lo) (st : List Value) (h : Hp) (Q : Option Value → Hp → Prop) (l0 l1 : Option Value) (i : Nat), Wp 98 47 (l0 :: l1 :: some (.ref i) :: ls) (st) h Q ↔ Wp 98 48 (l0 :: l1 :: some (.ref i) :: ls) (.ref i :: st) h Q) ∧
  (∀ (ls : Lo) (st : List Value) (n sl : Nat) (C Z : Nat → Nat) (I : Nat → Nat → Int32) (L : Nat → Nat → Int64) (R : Nat → Nat → Nat) (Q : Option Value → Hp → Prop) (i : Nat), Wp 98 48 (ls) (.ref i :: st) (n, sl, C, Z, I, L, R) Q ↔ (inG 7 (C i) = true ∧ Wp 98 51 (ls) (.ref (R i 3) :: st) (n, sl, C, Z, I, L, R) Q)) ∧
  (∀ (ls : Lo) (st : List Value) (h : Hp) (Q : Option Value → Hp → Prop), Wp 98 51 (ls) (st) h Q ↔ Wp 98 52 (ls) (.int (3) :: st) h Q) ∧
  (∀ (ls : Lo) (st : List Value) (h : Hp) (Q : Option Value → Hp → Prop) (l0 l1 l2 l3 l4 l5 : Option Value) (x : Int32), Wp 98 52 (l0 :: l1 :: l2 :: l3 :: l4 :: l5 :: some (.int x) :: ls) (st) h Q ↔ Wp 98 54 (l0 :: l1 :: l2 :: l3 :: l4 :: l5 :: some (.int x) :: ls) (.int x :: st) h Q) ∧
  (∀ (ls : Lo) (st : List Value) (h : Hp) (Q : Option Value → Hp → Prop) (x y : Int32), Wp 98 54 (ls) (.int y :: .int x :: st) h Q ↔ Wp 98 55 (ls) (.int (x * y) :: st) h Q) ∧
  (∀ (ls : Lo) (st : List Value) (h : Hp) (Q : Option Value → Hp → Prop) (l0 l1 l2 l3 l4 l5 l6 : Option Value) (x : Int32), Wp 98 55 (l0 :: l1 :: l2 :: l3 :: l4 :: l5 :: l6 :: some (.int x) :: ls) (st) h Q ↔ Wp 98 57 (l0 :: l1 :: l2 :: l3 :: l4 :: l5 :: l6 :: some (.int x) :: ls) (.int x :: st) h Q) ∧
  (∀ (ls : Lo) (st : List Value) (h : Hp) (Q : Option Value → Hp → Prop) (x y : Int32), Wp 98 57 (ls) (.int y :: .int x :: st) h Q ↔ Wp 98 58 (ls) (.int (x + y) :: st) h Q) ∧
  (∀ (ls : Lo) (st : List Value) (n sl : Nat) (C Z : Nat → Nat) (I : Nat → Nat → Int32) (L : Nat → Nat → Int64) (R : Nat → Nat → Nat) (Q : Option Value → Hp → Prop) (i : Nat) (y : Int32), Wp 98 58 (ls) (.int y :: .ref i :: st) (n, sl, C, Z, I, L, R) Q ↔ ((inb y (Z i) = true ∧ C i = 21) ∧ Wp 98 59 (ls) (.int (I i (ix y)) :: st) (n, sl, C, Z, I, L, R) Q)) ∧
  (∀ (ls : Lo) (st : List Value) (n sl : Nat) (C Z : Nat → Nat) (I : Nat → Nat → Int32) (L : Nat → Nat → Int64) (R : Nat → Nat → Nat) (Q : Option Value → Hp → Prop) (i : Nat) (x y : Int32), Wp 98 59 (ls) (.int x :: .int y :: .ref i :: st) (n, sl, C, Z, I, L, R) Q ↔ ((inb y (Z i) = true ∧ C i = 21) ∧ Wp 98 60 (ls) (st) (n, sl, C, Z, u2 I i (ix y) x, L, R) Q)) ∧
  (∀ (ls : Lo) (st : List Value) (h : Hp) (Q : Option Value → Hp → Prop) (l0 l1 l2 l3 l4 l5 l6 : Option Value) (x : Int32), Wp 98 60 (l0 :: l1 :: l2 :: l3 :: l4 :: l5 :: l6 :: some (.int x) :: ls) (st) h Q ↔ Wp 98 63 (l0 :: l1 :: l2 :: l3 :: l4 :: l5 :: clr l6 :: some (.int (x + (1))) :: ls) (st) h Q) ∧
  (∀ (ls : Lo) (st : List Value) (h : Hp) (Q : Option Value → Hp → Prop), Wp 98 63 (ls) (st) h Q ↔ Wp 98 25 (ls) (st) h Q) ∧
  (∀ (ls : Lo) (st : List Value) (h : Hp) (Q : Option Value → Hp → Prop)  (i : Nat), Wp 98 66 (some (.ref i) :: ls) (st) h Q ↔ Wp 98 67 (some (.ref i) :: ls) (.ref i :: st) h Q) ∧
  (∀ (ls : Lo) (st : List Value) (n sl : Nat) (C Z : Nat → Nat) (I : Nat → Nat → Int32) (L : Nat → Nat → Int64) (R : Nat → Nat → Nat) (Q : Option Value → Hp → Prop) (i : Nat), Wp 98 67 (ls) (.ref i :: st) (n, sl, C, Z, I, L, R) Q ↔ (inG 7 (C i) = true ∧ Wp 98 70 (ls) (.ref (R i 4) :: st) (n, sl, C, Z, I, L, R) Q)) ∧
  (∀ (ls : Lo) (st : List Value) (h : Hp) (Q : Option Value → Hp → Prop) (l0 : Option Value) (x : Int32), Wp 98 70 (l0 :: some (.int x) :: ls) (st) h Q ↔ Wp 98 71 (l0 :: some (.int x) :: ls) (.int x :: st) h Q) ∧
  (∀ (ls : Lo) (st : List Value) (h : Hp) (Q : Option Value → Hp → Prop) (l0 l1 l2 l3 l4 l5 : Option Value) (x : Int32), Wp 98 71 (l0 :: l1 :: l2 :: l3 :: l4 :: l5 :: some (.int x) :: ls) (st) h Q ↔ Wp 98 73 (l0 :: l1 :: l2 :: l3 :: l4 :: l5 :: some (.int x) :: ls) (.int x :: st) h Q) ∧
  (∀ (ls : Lo) (st : List Value) (h : Hp) (Q : Option Value → Hp → Prop) (x y : Int32), Wp 98 73 (ls) (.int y :: .int x :: st) h Q ↔ Wp 98 74 (ls) (.int (x + y) :: st) h Q) ∧
  (∀ (ls : Lo) (st : List Value) (h : Hp) (Q : Option Value → Hp → Prop) (l0 l1 : Option Value) (i : Nat), Wp 98 74 (l0 :: l1 :: some (.ref i) :: ls) (st) h Q ↔ Wp 98 75 (l0 :: l1 :: some (.ref i) :: ls) (.ref i :: st) h Q) ∧
  (∀ (ls : Lo) (st : List Value) (n sl : Nat) (C Z : Nat → Nat) (I : Nat → Nat → Int32) (L : Nat → Nat → Int64) (R : Nat → Nat → Nat) (Q : Option Value → Hp → Prop) (i : Nat), Wp 98 75 (ls) (.ref i :: st) (n, sl, C, Z, I, L, R) Q ↔ (inG 7 (C i) = true ∧ Wp 98 78 (ls) (.ref (R i 4) :: st) (n, sl, C, Z, I, L, R) Q)) ∧
  (∀ (ls : Lo) (st : List Value) (h : Hp) (Q : Option Value → Hp → Prop) (l0 l1 l2 l3 l4 l5 : Option Value) (x : Int32), Wp 98 78 (l0 :: l1 :: l2 :: l3 :: l4 :: l5 :: some (.int x) :: ls) (st) h Q ↔ Wp 98 80 (l0 :: l1 :: l2 :: l3 :: l4 :: l5 :: some (.int x) :: ls) (.int x :: st) h Q) ∧
  (∀ (ls : Lo) (st : List Value) (n sl : Nat) (C Z : Nat → Nat) (I : Nat → Nat → Int32) (L : Nat → Nat → Int64) (R : Nat → Nat → Nat) (Q : Option Value → Hp → Prop) (i : Nat) (y : Int32), Wp 98 80 (ls) (.int y :: .ref i :: st) (n, sl, C, Z, I, L, R) Q ↔ ((inb y (Z i) = true ∧ C i = 21) ∧ Wp 98 81 (ls) (.int (I i (ix y)) :: st) (n, sl, C, Z, I, L, R) Q)) ∧
  (∀ (ls : Lo) (st : List Value) (h : Hp) (Q : Option Value → Hp → Prop) (l0 l1 l2 : Option Value) (x : Int32), Wp 98 81 (l0 :: l1 :: l2 :: some (.int x) :: ls) (st) h Q ↔ Wp 98 82 (l0 :: l1 :: l2 :: some (.int x) :: ls) (.int x :: st) h Q) ∧
  (∀ (ls : Lo) (st : List Value) (h : Hp) (Q : Option Value → Hp → Prop) (x y : Int32), Wp 98 82 (ls) (.int y :: .int x :: st) h Q ↔ Wp 98 83 (ls) (.int (x * y) :: st) h Q) := ⟨by intro ls st h Q x y; exact e_iadd d98_43,
  by intro ls st h Q l0 l1 l2 l3 l4 l5 l6 x; exact e_iload d98_44 rfl,
  by intro ls st h Q x y; exact e_iadd d98_46,
  by intro ls st h Q l0 l1 i; exact e_aload_n d98_47 rfl,
  by intro ls st n sl C Z I L R Q i; exact e_get (g := 7) (s := 3) (ty := 2) d98_48 rfl rfl rfl,
  by intro ls st h Q; exact e_iconst d98_51 rfl,
  by intro ls st h Q l0 l1 l2 l3 l4 l5 x; exact e_iload d98_52 rfl,
  by intro ls st h Q x y; exact e_imul d98_54,
  by intro ls st h Q l0 l1 l2 l3 l4 l5 l6 x; exact e_iload d98_55 rfl,
  by intro ls st h Q x y; exact e_iadd d98_57,
  by intro ls st n sl C Z I L R Q i y; exact e_iald d98_58,
  by intro ls st n sl C Z I L R Q i x y; exact e_iast d98_59,
  by intro ls st h Q l0 l1 l2 l3 l4 l5 l6 x; exact e_iinc d98_60 rfl rfl rfl,
  by intro ls st h Q; exact e_goto d98_63 (by decide),
  by intro ls st h Q i; exact e_aload_n d98_66 rfl,
  by intro ls st n sl C Z I L R Q i; exact e_get (g := 7) (s := 4) (ty := 2) d98_67 rfl rfl rfl,
  by intro ls st h Q l0 x; exact e_iload_n d98_70 rfl,
  by intro ls st h Q l0 l1 l2 l3 l4 l5 x; exact e_iload d98_71 rfl,
  by intro ls st h Q x y; exact e_iadd d98_73,
  by intro ls st h Q l0 l1 i; exact e_aload_n d98_74 rfl,
  by intro ls st n sl C Z I L R Q i; exact e_get (g := 7) (s := 4) (ty := 2) d98_75 rfl rfl rfl,
  by intro ls st h Q l0 l1 l2 l3 l4 l5 x; exact e_iload d98_78 rfl,
  by intro ls st n sl C Z I L R Q i y; exact e_iald d98_80,
  by intro ls st h Q l0 l1 l2 x; exact e_iload_n d98_81 rfl,
  by intro ls st h Q x y; exact e_imul d98_82⟩
set_option maxRecDepth 20000 in
theorem S98_2 : (∀ (ls : Lo) (st : List Value) (n sl : Nat) (C Z : Nat → Nat) (I : Nat → Nat → Int32) (L : Nat → Nat → Int64) (R : Nat → Nat → Nat) (Q : Option Value → Hp → Prop) (i : Nat) (x y : Int32), Wp 98 83 (ls) (.int x :: .int y :: .ref i :: st) (n, sl, C, Z, I, L, R) Q ↔ ((inb y (Z i) = true ∧ C i = 21) ∧ Wp 98 84 (ls) (st) (n, sl, C, Z, u2 I i (ix y) x, L, R) Q)) ∧
  (∀ (ls : Lo) (st : List Value) (h : Hp) (Q : Option Value → Hp → Prop)  (i : Nat), Wp 98 84 (some (.ref i) :: ls) (st) h Q ↔ Wp 98 85 (some (.ref i) :: ls) (.ref i :: st) h Q) ∧
  (∀ (ls : Lo) (st : List Value) (n sl : Nat) (C Z : Nat → Nat) (I : Nat → Nat → Int32) (L : Nat → Nat → Int64) (R : Nat → Nat → Nat) (Q : Option Value → Hp → Prop) (i : Nat), Wp 98 85 (ls) (.ref i :: st) (n, sl, C, Z, I, L, R) Q ↔ (inG 7 (C i) = true ∧ Wp 98 88 (ls) (.ref (R i 5) :: st) (n, sl, C, Z, I, L, R) Q)) ∧
  (∀ (ls : Lo) (st : List Value) (h : Hp) (Q : Option Value → Hp → Prop) (l0 : Option Value) (x : Int32), Wp 98 88 (l0 :: some (.int x) :: ls) (st) h Q ↔ Wp 98 89 (l0 :: some (.int x) :: ls) (.int x :: st) h Q) ∧
  (∀ (ls : Lo) (st : List Value) (h : Hp) (Q : Option Value → Hp → Prop) (l0 l1 l2 l3 l4 l5 : Option Value) (x : Int32), Wp 98 89 (l0 :: l1 :: l2 :: l3 :: l4 :: l5 :: some (.int x) :: ls) (st) h Q ↔ Wp 98 91 (l0 :: l1 :: l2 :: l3 :: l4 :: l5 :: some (.int x) :: ls) (.int x :: st) h Q) ∧
  (∀ (ls : Lo) (st : List Value) (h : Hp) (Q : Option Value → Hp → Prop) (x y : Int32), Wp 98 91 (ls) (.int y :: .int x :: st) h Q ↔ Wp 98 92 (ls) (.int (x + y) :: st) h Q) ∧
  (∀ (ls : Lo) (st : List Value) (h : Hp) (Q : Option Value → Hp → Prop) (l0 l1 : Option Value) (i : Nat), Wp 98 92 (l0 :: l1 :: some (.ref i) :: ls) (st) h Q ↔ Wp 98 93 (l0 :: l1 :: some (.ref i) :: ls) (.ref i :: st) h Q) ∧
  (∀ (ls : Lo) (st : List Value) (n sl : Nat) (C Z : Nat → Nat) (I : Nat → Nat → Int32) (L : Nat → Nat → Int64) (R : Nat → Nat → Nat) (Q : Option Value → Hp → Prop) (i : Nat), Wp 98 93 (ls) (.ref i :: st) (n, sl, C, Z, I, L, R) Q ↔ (inG 7 (C i) = true ∧ Wp 98 96 (ls) (.ref (R i 5) :: st) (n, sl, C, Z, I, L, R) Q)) ∧
  (∀ (ls : Lo) (st : List Value) (h : Hp) (Q : Option Value → Hp → Prop) (l0 l1 l2 l3 l4 l5 : Option Value) (x : Int32), Wp 98 96 (l0 :: l1 :: l2 :: l3 :: l4 :: l5 :: some (.int x) :: ls) (st) h Q ↔ Wp 98 98 (l0 :: l1 :: l2 :: l3 :: l4 :: l5 :: some (.int x) :: ls) (.int x :: st) h Q) ∧
  (∀ (ls : Lo) (st : List Value) (n sl : Nat) (C Z : Nat → Nat) (I : Nat → Nat → Int32) (L : Nat → Nat → Int64) (R : Nat → Nat → Nat) (Q : Option Value → Hp → Prop) (i : Nat) (y : Int32), Wp 98 98 (ls) (.int y :: .ref i :: st) (n, sl, C, Z, I, L, R) Q ↔ ((inb y (Z i) = true ∧ C i = 21) ∧ Wp 98 99 (ls) (.int (I i (ix y)) :: st) (n, sl, C, Z, I, L, R) Q)) ∧
  (∀ (ls : Lo) (st : List Value) (h : Hp) (Q : Option Value → Hp → Prop) (l0 l1 l2 l3 : Option Value) (x : Int32), Wp 98 99 (l0 :: l1 :: l2 :: l3 :: some (.int x) :: ls) (st) h Q ↔ Wp 98 101 (l0 :: l1 :: l2 :: l3 :: some (.int x) :: ls) (.int x :: st) h Q) ∧
  (∀ (ls : Lo) (st : List Value) (h : Hp) (Q : Option Value → Hp → Prop) (x y : Int32), Wp 98 101 (ls) (.int y :: .int x :: st) h Q ↔ Wp 98 102 (ls) (.int (x * y) :: st) h Q) ∧
  (∀ (ls : Lo) (st : List Value) (n sl : Nat) (C Z : Nat → Nat) (I : Nat → Nat → Int32) (L : Nat → Nat → Int64) (R : Nat → Nat → Nat) (Q : Option Value → Hp → Prop) (i : Nat) (x y : Int32), Wp 98 102 (ls) (.int x :: .int y :: .ref i :: st) (n, sl, C, Z, I, L, R) Q ↔ ((inb y (Z i) = true ∧ C i = 21) ∧ Wp 98 103 (ls) (st) (n, sl, C, Z, u2 I i (ix y) x, L, R) Q)) ∧
  (∀ (ls : Lo) (st : List Value) (h : Hp) (Q : Option Value → Hp → Prop) (l0 l1 l2 l3 l4 l5 : Option Value) (x : Int32), Wp 98 103 (l0 :: l1 :: l2 :: l3 :: l4 :: l5 :: some (.int x) :: ls) (st) h Q ↔ Wp 98 106 (l0 :: l1 :: l2 :: l3 :: l4 :: clr l5 :: some (.int (x + (1))) :: ls) (st) h Q) ∧
  (∀ (ls : Lo) (st : List Value) (h : Hp) (Q : Option Value → Hp → Prop), Wp 98 106 (ls) (st) h Q ↔ Wp 98 15 (ls) (st) h Q) ∧
  (∀ (ls : Lo) (h : Hp) (Q : Option Value → Hp → Prop), Wp 98 109 (ls) ([]) h Q ↔ Q none h) := ⟨by intro ls st n sl C Z I L R Q i x y; exact e_iast d98_83,
  by intro ls st h Q i; exact e_aload_n d98_84 rfl,
  by intro ls st n sl C Z I L R Q i; exact e_get (g := 7) (s := 5) (ty := 2) d98_85 rfl rfl rfl,
  by intro ls st h Q l0 x; exact e_iload_n d98_88 rfl,
  by intro ls st h Q l0 l1 l2 l3 l4 l5 x; exact e_iload d98_89 rfl,
  by intro ls st h Q x y; exact e_iadd d98_91,
  by intro ls st h Q l0 l1 i; exact e_aload_n d98_92 rfl,
  by intro ls st n sl C Z I L R Q i; exact e_get (g := 7) (s := 5) (ty := 2) d98_93 rfl rfl rfl,
  by intro ls st h Q l0 l1 l2 l3 l4 l5 x; exact e_iload d98_96 rfl,
  by intro ls st n sl C Z I L R Q i y; exact e_iald d98_98,
  by intro ls st h Q l0 l1 l2 l3 x; exact e_iload d98_99 rfl,
  by intro ls st h Q x y; exact e_imul d98_101,
  by intro ls st n sl C Z I L R Q i x y; exact e_iast d98_102,
  by intro ls st h Q l0 l1 l2 l3 l4 l5 x; exact e_iinc d98_103 rfl rfl rfl,
  by intro ls st h Q; exact e_goto d98_106 (by decide),
  by intros; exact e_rV d98_109 rfl⟩
theorem d99_0 : decode (byt 99) 0 = .ok (.aload_n 1, 1) := by decide +kernel
theorem d99_1 : decode (byt 99) 1 = .ok (.getfield 106, 3) := by decide +kernel
theorem d99_4 : decode (byt 99) 4 = .ok (.istore_n 3, 1) := by decide +kernel
theorem d99_5 : decode (byt 99) 5 = .ok (.iload_n 3, 1) := by decide +kernel
theorem d99_6 : decode (byt 99) 6 = .ok (.aload_n 0, 1) := by decide +kernel
theorem d99_7 : decode (byt 99) 7 = .ok (.getfield 285, 3) := by decide +kernel
theorem d99_10 : decode (byt 99) 10 = .ok (.if_icmp .ge 62, 3) := by decide +kernel
theorem d99_13 : decode (byt 99) 13 = .ok (.iconst 0, 1) := by decide +kernel
theorem d99_14 : decode (byt 99) 14 = .ok (.istore 4, 2) := by decide +kernel
theorem d99_16 : decode (byt 99) 16 = .ok (.iload 4, 2) := by decide +kernel
theorem d99_18 : decode (byt 99) 18 = .ok (.aload_n 1, 1) := by decide +kernel
theorem d99_19 : decode (byt 99) 19 = .ok (.getfield 106, 3) := by decide +kernel
theorem d99_22 : decode (byt 99) 22 = .ok (.if_icmp .ge 44, 3) := by decide +kernel
theorem d99_25 : decode (byt 99) 25 = .ok (.aload_n 0, 1) := by decide +kernel
theorem d99_26 : decode (byt 99) 26 = .ok (.getfield 113, 3) := by decide +kernel
theorem d99_29 : decode (byt 99) 29 = .ok (.iconst 3, 1) := by decide +kernel
theorem d99_30 : decode (byt 99) 30 = .ok (.iload_n 3, 1) := by decide +kernel
theorem d99_31 : decode (byt 99) 31 = .ok (.imul, 1) := by decide +kernel
theorem d99_32 : decode (byt 99) 32 = .ok (.iload 4, 2) := by decide +kernel
theorem d99_34 : decode (byt 99) 34 = .ok (.iadd, 1) := by decide +kernel
theorem d99_35 : decode (byt 99) 35 = .ok (.aload_n 1, 1) := by decide +kernel
theorem d99_36 : decode (byt 99) 36 = .ok (.getfield 109, 3) := by decide +kernel
theorem d99_39 : decode (byt 99) 39 = .ok (.aload_n 2, 1) := by decide +kernel
theorem d99_40 : decode (byt 99) 40 = .ok (.getfield 117, 3) := by decide +kernel
theorem d99_43 : decode (byt 99) 43 = .ok (.iload_n 3, 1) := by decide +kernel
theorem d99_44 : decode (byt 99) 44 = .ok (.aload_n 1, 1) := by decide +kernel
theorem d99_45 : decode (byt 99) 45 = .ok (.getfield 106, 3) := by decide +kernel
theorem d99_48 : decode (byt 99) 48 = .ok (.isub, 1) := by decide +kernel
theorem d99_49 : decode (byt 99) 49 = .ok (.iaload, 1) := by decide +kernel
theorem d99_50 : decode (byt 99) 50 = .ok (.imul, 1) := by decide +kernel
theorem d99_51 : decode (byt 99) 51 = .ok (.aload_n 1, 1) := by decide +kernel
theorem d99_52 : decode (byt 99) 52 = .ok (.getfield 120, 3) := by decide +kernel
theorem d99_55 : decode (byt 99) 55 = .ok (.iload 4, 2) := by decide +kernel
theorem d99_57 : decode (byt 99) 57 = .ok (.iaload, 1) := by decide +kernel
theorem d99_58 : decode (byt 99) 58 = .ok (.imul, 1) := by decide +kernel
theorem d99_59 : decode (byt 99) 59 = .ok (.iastore, 1) := by decide +kernel
theorem d99_60 : decode (byt 99) 60 = .ok (.iinc 4 1, 3) := by decide +kernel
theorem d99_63 : decode (byt 99) 63 = .ok (.goto (-47), 3) := by decide +kernel
theorem d99_66 : decode (byt 99) 66 = .ok (.iinc 3 1, 3) := by decide +kernel
theorem d99_69 : decode (byt 99) 69 = .ok (.goto (-64), 3) := by decide +kernel
theorem d99_72 : decode (byt 99) 72 = .ok (.return_, 1) := by decide +kernel
set_option maxRecDepth 20000 in
theorem S99_0 : (∀ (ls : Lo) (st : List Value) (h : Hp) (Q : Option Value → Hp → Prop) (l0 : Option Value) (i : Nat), Wp 99 0 (l0 :: some (.ref i) :: ls) (st) h Q ↔ Wp 99 1 (l0 :: some (.ref i) :: ls) (.ref i :: st) h Q) ∧
  (∀ (ls : Lo) (st : List Value) (n sl : Nat) (C Z : Nat → Nat) (I : Nat → Nat → Int32) (L : Nat → Nat → Int64) (R : Nat → Nat → Nat) (Q : Option Value → Hp → Prop) (i : Nat), Wp 99 1 (ls) (.ref i :: st) (n, sl, C, Z, I, L, R) Q ↔ (inG 7 (C i) = true ∧ Wp 99 4 (ls) (.int (I i 1) :: st) (n, sl, C, Z, I, L, R) Q)) ∧
  (∀ (ls : Lo) (st : List Value) (h : Hp) (Q : Option Value → Hp → Prop) (l0 l1 l2 l3 : Option Value) (x : Int32), Wp 99 4 (l0 :: l1 :: l2 :: l3 :: ls) (.int x :: st) h Q ↔ Wp 99 5 (l0 :: l1 :: clr l2 :: some (.int x) :: ls) (st) h Q) ∧
  (∀ (ls : Lo) (st : List Value) (h : Hp) (Q : Option Value → Hp → Prop) (l0 l1 l2 : Option Value) (x : Int32), Wp 99 5 (l0 :: l1 :: l2 :: some (.int x) :: ls) (st) h Q ↔ Wp 99 6 (l0 :: l1 :: l2 :: some (.int x) :: ls) (.int x :: st) h Q) ∧
  (∀ (ls : Lo) (st : List Value) (h : Hp) (Q : Option Value → Hp → Prop)  (i : Nat), Wp 99 6 (some (.ref i) :: ls) (st) h Q ↔ Wp 99 7 (some (.ref i) :: ls) (.ref i :: st) h Q) ∧
  (∀ (ls : Lo) (st : List Value) (n sl : Nat) (C Z : Nat → Nat) (I : Nat → Nat → Int32) (L : Nat → Nat → Int64) (R : Nat → Nat → Nat) (Q : Option Value → Hp → Prop) (i : Nat), Wp 99 7 (ls) (.ref i :: st) (n, sl, C, Z, I, L, R) Q ↔ (inG 7 (C i) = true ∧ Wp 99 10 (ls) (.int (I i 1) :: st) (n, sl, C, Z, I, L, R) Q)) ∧
  (∀ (ls : Lo) (st : List Value) (h : Hp) (Q : Option Value → Hp → Prop) (x y : Int32), Wp 99 10 (ls) (.int y :: .int x :: st) h Q ↔ Br 99 72 13 ls st h Q (y ≤ x)) ∧
  (∀ (ls : Lo) (st : List Value) (h : Hp) (Q : Option Value → Hp → Prop), Wp 99 13 (ls) (st) h Q ↔ Wp 99 14 (ls) (.int (0) :: st) h Q) ∧
  (∀ (ls : Lo) (st : List Value) (h : Hp) (Q : Option Value → Hp → Prop) (l0 l1 l2 l3 l4 : Option Value) (x : Int32), Wp 99 14 (l0 :: l1 :: l2 :: l3 :: l4 :: ls) (.int x :: st) h Q ↔ Wp 99 16 (l0 :: l1 :: l2 :: clr l3 :: some (.int x) :: ls) (st) h Q) ∧
  (∀ (ls : Lo) (st : List Value) (h : Hp) (Q : Option Value → Hp → Prop) (l0 l1 l2 l3 : Option Value) (x : Int32), Wp 99 16 (l0 :: l1 :: l2 :: l3 :: some (.int x) :: ls) (st) h Q ↔ Wp 99 18 (l0 :: l1 :: l2 :: l3 :: some (.int x) :: ls) (.int x :: st) h Q) ∧
  (∀ (ls : Lo) (st : List Value) (h : Hp) (Q : Option Value → Hp → Prop) (l0 : Option Value) (i : Nat), Wp 99 18 (l0 :: some (.ref i) :: ls) (st) h Q ↔ Wp 99 19 (l0 :: some (.ref i) :: ls) (.ref i :: st) h Q) ∧
  (∀ (ls : Lo) (st : List Value) (n sl : Nat) (C Z : Nat → Nat) (I : Nat → Nat → Int32) (L : Nat → Nat → Int64) (R : Nat → Nat → Nat) (Q : Option Value → Hp → Prop) (i : Nat), Wp 99 19 (ls) (.ref i :: st) (n, sl, C, Z, I, L, R) Q ↔ (inG 7 (C i) = true ∧ Wp 99 22 (ls) (.int (I i 1) :: st) (n, sl, C, Z, I, L, R) Q)) ∧
  (∀ (ls : Lo) (st : List Value) (h : Hp) (Q : Option Value → Hp → Prop) (x y : Int32), Wp 99 22 (ls) (.int y :: .int x :: st) h Q ↔ Br 99 66 25 ls st h Q (y ≤ x)) ∧
  (∀ (ls : Lo) (st : List Value) (h : Hp) (Q : Option Value → Hp → Prop)  (i : Nat), Wp 99 25 (some (.ref i) :: ls) (st) h Q ↔ Wp 99 26 (some (.ref i) :: ls) (.ref i :: st) h Q) ∧
  (∀ (ls : Lo) (st : List Value) (n sl : Nat) (C Z : Nat → Nat) (I : Nat → Nat → Int32) (L : Nat → Nat → Int64) (R : Nat → Nat → Nat) (Q : Option Value → Hp → Prop) (i : Nat), Wp 99 26 (ls) (.ref i :: st) (n, sl, C, Z, I, L, R) Q ↔ (inG 7 (C i) = true ∧ Wp 99 29 (ls) (.ref (R i 3) :: st) (n, sl, C, Z, I, L, R) Q)) ∧
  (∀ (ls : Lo) (st : List Value) (h : Hp) (Q : Option Value → Hp → Prop), Wp 99 29 (ls) (st) h Q ↔ Wp 99 30 (ls) (.int (3) :: st) h Q) ∧
  (∀ (ls : Lo) (st : List Value) (h : Hp) (Q : Option Value → Hp → Prop) (l0 l1 l2 : Option Value) (x : Int32), Wp 99 30 (l0 :: l1 :: l2 :: some (.int x) :: ls) (st) h Q ↔ Wp 99 31 (l0 :: l1 :: l2 :: some (.int x) :: ls) (.int x :: st) h Q) ∧
  (∀ (ls : Lo) (st : List Value) (h : Hp) (Q : Option Value → Hp → Prop) (x y : Int32), Wp 99 31 (ls) (.int y :: .int x :: st) h Q ↔ Wp 99 32 (ls) (.int (x * y) :: st) h Q) ∧
  (∀ (ls : Lo) (st : List Value) (h : Hp) (Q : Option Value → Hp → Prop) (l0 l1 l2 l3 : Option Value) (x : Int32), Wp 99 32 (l0 :: l1 :: l2 :: l3 :: some (.int x) :: ls) (st) h Q ↔ Wp 99 34 (l0 :: l1 :: l2 :: l3 :: some (.int x) :: ls) (.int x :: st) h Q) ∧
  (∀ (ls : Lo) (st : List Value) (h : Hp) (Q : Option Value → Hp → Prop) (x y : Int32), Wp 99 34 (ls) (.int y :: .int x :: st) h Q ↔ Wp 99 35 (ls) (.int (x + y) :: st) h Q) ∧
  (∀ (ls : Lo) (st : List Value) (h : Hp) (Q : Option Value → Hp → Prop) (l0 : Option Value) (i : Nat), Wp 99 35 (l0 :: some (.ref i) :: ls) (st) h Q ↔ Wp 99 36 (l0 :: some (.ref i) :: ls) (.ref i :: st) h Q) ∧
  (∀ (ls : Lo) (st : List Value) (n sl : Nat) (C Z : Nat → Nat) (I : Nat → Nat → Int32) (L : Nat → Nat → Int64) (R : Nat → Nat → Nat) (Q : Option Value → Hp → Prop) (i : Nat), Wp 99 36 (ls) (.ref i :: st) (n, sl, C, Z, I, L, R) Q ↔ (inG 7 (C i) = true ∧ Wp 99 39 (ls) (.int (I i 2) :: st) (n, sl, C, Z, I, L, R) Q)) ∧
  (∀ (ls : Lo) (st : List Value) (h : Hp) (Q : Option Value → Hp → Prop) (l0 l1 : Option Value) (i : Nat), Wp 99 39 (l0 :: l1 :: some (.ref i) :: ls) (st) h Q ↔ Wp 99 40 (l0 :: l1 :: some (.ref i) :: ls) (.ref i :: st) h Q) ∧
  (∀ (ls : Lo) (st : List Value) (n sl : Nat) (C Z : Nat → Nat) (I : Nat → Nat → Int32) (L : Nat → Nat → Int64) (R : Nat → Nat → Nat) (Q : Option Value → Hp → Prop) (i : Nat), Wp 99 40 (ls) (.ref i :: st) (n, sl, C, Z, I, L, R) Q ↔ (inG 7 (C i) = true ∧ Wp 99 43 (ls) (.ref (R i 4) :: st) (n, sl, C, Z, I, L, R) Q)) ∧
  (∀ (ls : Lo) (st : List Value) (h : Hp) (Q : Option Value → Hp → Prop) (l0 l1 l2 : Option Value) (x : Int32), Wp 99 43 (l0 :: l1 :: l2 :: some (.int x) :: ls) (st) h Q ↔ Wp 99 44 (l0 :: l1 :: l2 :: some (.int x) :: ls) (.int x :: st) h Q) := ⟨by intro ls st h Q l0 i; exact e_aload_n d99_0 rfl,
  by intro ls st n sl C Z I L R Q i; exact e_get (g := 7) (s := 1) (ty := 0) d99_1 rfl rfl rfl,
  by intro ls st h Q l0 l1 l2 l3 x; exact e_istore_n d99_4 rfl,
  by intro ls st h Q l0 l1 l2 x; exact e_iload_n d99_5 rfl,
  by intro ls st h Q i; exact e_aload_n d99_6 rfl,
  by intro ls st n sl C Z I L R Q i; exact e_get (g := 7) (s := 1) (ty := 0) d99_7 rfl rfl rfl,
  by intro ls st h Q x y; exact e_ic d99_10 (by decide) c_ge,
  by intro ls st h Q; exact e_iconst d99_13 rfl,
  by intro ls st h Q l0 l1 l2 l3 l4 x; exact e_istore d99_14 rfl,
  by intro ls st h Q l0 l1 l2 l3 x; exact e_iload d99_16 rfl,
  by intro ls st h Q l0 i; exact e_aload_n d99_18 rfl,
  by intro ls st n sl C Z I L R Q i; exact e_get (g := 7) (s := 1) (ty := 0) d99_19 rfl rfl rfl,
  by intro ls st h Q x y; exact e_ic d99_22 (by decide) c_ge,
  by intro ls st h Q i; exact e_aload_n d99_25 rfl,
  by intro ls st n sl C Z I L R Q i; exact e_get (g := 7) (s := 3) (ty := 2) d99_26 rfl rfl rfl,
  by intro ls st h Q; exact e_iconst d99_29 rfl,
  by intro ls st h Q l0 l1 l2 x; exact e_iload_n d99_30 rfl,
  by intro ls st h Q x y; exact e_imul d99_31,
  by intro ls st h Q l0 l1 l2 l3 x; exact e_iload d99_32 rfl,
  by intro ls st h Q x y; exact e_iadd d99_34,
  by intro ls st h Q l0 i; exact e_aload_n d99_35 rfl,
  by intro ls st n sl C Z I L R Q i; exact e_get (g := 7) (s := 2) (ty := 0) d99_36 rfl rfl rfl,
  by intro ls st h Q l0 l1 i; exact e_aload_n d99_39 rfl,
  by intro ls st n sl C Z I L R Q i; exact e_get (g := 7) (s := 4) (ty := 2) d99_40 rfl rfl rfl,
  by intro ls st h Q l0 l1 l2 x; exact e_iload_n d99_43 rfl⟩
set_option maxRecDepth 20000 in
theorem S99_1 : (∀ (ls : Lo) (st : List Value) (h : Hp) (Q : Option Value → Hp → Prop) (l0 : Option Value) (i : Nat), Wp 99 44 (l0 :: some (.ref i) :: ls) (st) h Q ↔ Wp 99 45 (l0 :: some (.ref i) :: ls) (.ref i :: st) h Q) ∧
  (∀ (ls : Lo) (st : List Value) (n sl : Nat) (C Z : Nat → Nat) (I : Nat → Nat → Int32) (L : Nat → Nat → Int64) (R : Nat → Nat → Nat) (Q : Option Value → Hp → Prop) (i : Nat), Wp 99 45 (ls) (.ref i :: st) (n, sl, C, Z, I, L, R) Q ↔ (inG 7 (C i) = true ∧ Wp 99 48 (ls) (.int (I i 1) :: st) (n, sl, C, Z, I, L, R) Q)) ∧
  (∀ (ls : Lo) (st : List Value) (h : Hp) (Q : Option Value → Hp → Prop) (x y : Int32), Wp 99 48 (ls) (.int y :: .int x :: st) h Q ↔ Wp 99 49 (ls) (.int (x - y) :: st) h Q) ∧
  (∀ (ls : Lo) (st : List Value) (n sl : Nat) (C Z : Nat → Nat) (I : Nat → Nat → Int32) (L : Nat → Nat → Int64) (R : Nat → Nat → Nat) (Q : Option Value → Hp → Prop) (i : Nat) (y : Int32), Wp 99 49 (ls) (.int y :: .ref i :: st) (n, sl, C, Z, I, L, R) Q ↔ ((inb y (Z i) = true ∧ C i = 21) ∧ Wp 99 50 (ls) (.int (I i (ix y)) :: st) (n, sl, C, Z, I, L, R) Q)) ∧
  (∀ (ls : Lo) (st : List Value) (h : Hp) (Q : Option Value → Hp → Prop) (x y : Int32), Wp 99 50 (ls) (.int y :: .int x :: st) h Q ↔ Wp 99 51 (ls) (.int (x * y) :: st) h Q) ∧
  (∀ (ls : Lo) (st : List Value) (h : Hp) (Q : Option Value → Hp → Prop) (l0 : Option Value) (i : Nat), Wp 99 51 (l0 :: some (.ref i) :: ls) (st) h Q ↔ Wp 99 52 (l0 :: some (.ref i) :: ls) (.ref i :: st) h Q) ∧
  (∀ (ls : Lo) (st : List Value) (n sl : Nat) (C Z : Nat → Nat) (I : Nat → Nat → Int32) (L : Nat → Nat → Int64) (R : Nat → Nat → Nat) (Q : Option Value → Hp → Prop) (i : Nat), Wp 99 52 (ls) (.ref i :: st) (n, sl, C, Z, I, L, R) Q ↔ (inG 7 (C i) = true ∧ Wp 99 55 (ls) (.ref (R i 5) :: st) (n, sl, C, Z, I, L, R) Q)) ∧
  (∀ (ls : Lo) (st : List Value) (h : Hp) (Q : Option Value → Hp → Prop) (l0 l1 l2 l3 : Option Value) (x : Int32), Wp 99 55 (l0 :: l1 :: l2 :: l3 :: some (.int x) :: ls) (st) h Q ↔ Wp 99 57 (l0 :: l1 :: l2 :: l3 :: some (.int x) :: ls) (.int x :: st) h Q) ∧
  (∀ (ls : Lo) (st : List Value) (n sl : Nat) (C Z : Nat → Nat) (I : Nat → Nat → Int32) (L : Nat → Nat → Int64) (R : Nat → Nat → Nat) (Q : Option Value → Hp → Prop) (i : Nat) (y : Int32), Wp 99 57 (ls) (.int y :: .ref i :: st) (n, sl, C, Z, I, L, R) Q ↔ ((inb y (Z i) = true ∧ C i = 21) ∧ Wp 99 58 (ls) (.int (I i (ix y)) :: st) (n, sl, C, Z, I, L, R) Q)) ∧
  (∀ (ls : Lo) (st : List Value) (h : Hp) (Q : Option Value → Hp → Prop) (x y : Int32), Wp 99 58 (ls) (.int y :: .int x :: st) h Q ↔ Wp 99 59 (ls) (.int (x * y) :: st) h Q) ∧
  (∀ (ls : Lo) (st : List Value) (n sl : Nat) (C Z : Nat → Nat) (I : Nat → Nat → Int32) (L : Nat → Nat → Int64) (R : Nat → Nat → Nat) (Q : Option Value → Hp → Prop) (i : Nat) (x y : Int32), Wp 99 59 (ls) (.int x :: .int y :: .ref i :: st) (n, sl, C, Z, I, L, R) Q ↔ ((inb y (Z i) = true ∧ C i = 21) ∧ Wp 99 60 (ls) (st) (n, sl, C, Z, u2 I i (ix y) x, L, R) Q)) ∧
  (∀ (ls : Lo) (st : List Value) (h : Hp) (Q : Option Value → Hp → Prop) (l0 l1 l2 l3 : Option Value) (x : Int32), Wp 99 60 (l0 :: l1 :: l2 :: l3 :: some (.int x) :: ls) (st) h Q ↔ Wp 99 63 (l0 :: l1 :: l2 :: clr l3 :: some (.int (x + (1))) :: ls) (st) h Q) ∧
  (∀ (ls : Lo) (st : List Value) (h : Hp) (Q : Option Value → Hp → Prop), Wp 99 63 (ls) (st) h Q ↔ Wp 99 16 (ls) (st) h Q) ∧
  (∀ (ls : Lo) (st : List Value) (h : Hp) (Q : Option Value → Hp → Prop) (l0 l1 l2 : Option Value) (x : Int32), Wp 99 66 (l0 :: l1 :: l2 :: some (.int x) :: ls) (st) h Q ↔ Wp 99 69 (l0 :: l1 :: clr l2 :: some (.int (x + (1))) :: ls) (st) h Q) ∧
  (∀ (ls : Lo) (st : List Value) (h : Hp) (Q : Option Value → Hp → Prop), Wp 99 69 (ls) (st) h Q ↔ Wp 99 5 (ls) (st) h Q) ∧
  (∀ (ls : Lo) (h : Hp) (Q : Option Value → Hp → Prop), Wp 99 72 (ls) ([]) h Q ↔ Q none h) := ⟨by intro ls st h Q l0 i; exact e_aload_n d99_44 rfl,
  by intro ls st n sl C Z I L R Q i; exact e_get (g := 7) (s := 1) (ty := 0) d99_45 rfl rfl rfl,
  by intro ls st h Q x y; exact e_isub d99_48,
  by intro ls st n sl C Z I L R Q i y; exact e_iald d99_49,
  by intro ls st h Q x y; exact e_imul d99_50,
  by intro ls st h Q l0 i; exact e_aload_n d99_51 rfl,
  by intro ls st n sl C Z I L R Q i; exact e_get (g := 7) (s := 5) (ty := 2) d99_52 rfl rfl rfl,
  by intro ls st h Q l0 l1 l2 l3 x; exact e_iload d99_55 rfl,
  by intro ls st n sl C Z I L R Q i y; exact e_iald d99_57,
  by intro ls st h Q x y; exact e_imul d99_58,
  by intro ls st n sl C Z I L R Q i x y; exact e_iast d99_59,
  by intro ls st h Q l0 l1 l2 l3 x; exact e_iinc d99_60 rfl rfl rfl,
  by intro ls st h Q; exact e_goto d99_63 (by decide),
  by intro ls st h Q l0 l1 l2 x; exact e_iinc d99_66 rfl rfl rfl,
  by intro ls st h Q; exact e_goto d99_69 (by decide),
  by intros; exact e_rV d99_72 rfl⟩
theorem d100_0 : decode (byt 100) 0 = .ok (.iconst 0, 1) := by decide +kernel
theorem d100_1 : decode (byt 100) 1 = .ok (.istore 5, 2) := by decide +kernel
theorem d100_3 : decode (byt 100) 3 = .ok (.iconst 0, 1) := by decide +kernel
theorem d100_4 : decode (byt 100) 4 = .ok (.istore 6, 2) := by decide +kernel
theorem d100_6 : decode (byt 100) 6 = .ok (.iload 6, 2) := by decide +kernel
theorem d100_8 : decode (byt 100) 8 = .ok (.aload_n 2, 1) := by decide +kernel
theorem d100_9 : decode (byt 100) 9 = .ok (.getfield 106, 3) := by decide +kernel
theorem d100_12 : decode (byt 100) 12 = .ok (.if_icmp .ge 51, 3) := by decide +kernel
theorem d100_15 : decode (byt 100) 15 = .ok (.iload 4, 2) := by decide +kernel
theorem d100_17 : decode (byt 100) 17 = .ok (.iload 6, 2) := by decide +kernel
theorem d100_19 : decode (byt 100) 19 = .ok (.ishr, 1) := by decide +kernel
theorem d100_20 : decode (byt 100) 20 = .ok (.iconst 1, 1) := by decide +kernel
theorem d100_21 : decode (byt 100) 21 = .ok (.iand, 1) := by decide +kernel
theorem d100_22 : decode (byt 100) 22 = .ok (.iconst 1, 1) := by decide +kernel
theorem d100_23 : decode (byt 100) 23 = .ok (.if_icmp .ne 34, 3) := by decide +kernel
theorem d100_26 : decode (byt 100) 26 = .ok (.iload 5, 2) := by decide +kernel
theorem d100_28 : decode (byt 100) 28 = .ok (.iconst 3, 1) := by decide +kernel
theorem d100_29 : decode (byt 100) 29 = .ok (.if_icmp .ge 28, 3) := by decide +kernel
theorem d100_32 : decode (byt 100) 32 = .ok (.aload_n 0, 1) := by decide +kernel
theorem d100_33 : decode (byt 100) 33 = .ok (.getfield 286, 3) := by decide +kernel
theorem d100_36 : decode (byt 100) 36 = .ok (.iconst 3, 1) := by decide +kernel
theorem d100_37 : decode (byt 100) 37 = .ok (.iload_n 1, 1) := by decide +kernel
theorem d100_38 : decode (byt 100) 38 = .ok (.imul, 1) := by decide +kernel
theorem d100_39 : decode (byt 100) 39 = .ok (.iload 5, 2) := by decide +kernel
theorem d100_41 : decode (byt 100) 41 = .ok (.iadd, 1) := by decide +kernel
theorem d100_42 : decode (byt 100) 42 = .ok (.aload_n 2, 1) := by decide +kernel
theorem d100_43 : decode (byt 100) 43 = .ok (.getfield 116, 3) := by decide +kernel
theorem d100_46 : decode (byt 100) 46 = .ok (.iconst 3, 1) := by decide +kernel
theorem d100_47 : decode (byt 100) 47 = .ok (.iload_n 3, 1) := by decide +kernel
theorem d100_48 : decode (byt 100) 48 = .ok (.imul, 1) := by decide +kernel
theorem d100_49 : decode (byt 100) 49 = .ok (.iload 6, 2) := by decide +kernel
theorem d100_51 : decode (byt 100) 51 = .ok (.iadd, 1) := by decide +kernel
theorem d100_52 : decode (byt 100) 52 = .ok (.iaload, 1) := by decide +kernel
theorem d100_53 : decode (byt 100) 53 = .ok (.iastore, 1) := by decide +kernel
theorem d100_54 : decode (byt 100) 54 = .ok (.iinc 5 1, 3) := by decide +kernel
theorem d100_57 : decode (byt 100) 57 = .ok (.iinc 6 1, 3) := by decide +kernel
theorem d100_60 : decode (byt 100) 60 = .ok (.goto (-54), 3) := by decide +kernel
theorem d100_63 : decode (byt 100) 63 = .ok (.aload_n 0, 1) := by decide +kernel
theorem d100_64 : decode (byt 100) 64 = .ok (.getfield 287, 3) := by decide +kernel
theorem d100_67 : decode (byt 100) 67 = .ok (.iload_n 1, 1) := by decide +kernel
theorem d100_68 : decode (byt 100) 68 = .ok (.aload_n 2, 1) := by decide +kernel
theorem d100_69 : decode (byt 100) 69 = .ok (.getfield 117, 3) := by decide +kernel
theorem d100_72 : decode (byt 100) 72 = .ok (.iload_n 3, 1) := by decide +kernel
theorem d100_73 : decode (byt 100) 73 = .ok (.iaload, 1) := by decide +kernel
theorem d100_74 : decode (byt 100) 74 = .ok (.iastore, 1) := by decide +kernel
theorem d100_75 : decode (byt 100) 75 = .ok (.aload_n 0, 1) := by decide +kernel
theorem d100_76 : decode (byt 100) 76 = .ok (.getfield 288, 3) := by decide +kernel
theorem d100_79 : decode (byt 100) 79 = .ok (.iload_n 1, 1) := by decide +kernel
theorem d100_80 : decode (byt 100) 80 = .ok (.aload_n 2, 1) := by decide +kernel
theorem d100_81 : decode (byt 100) 81 = .ok (.getfield 120, 3) := by decide +kernel
theorem d100_84 : decode (byt 100) 84 = .ok (.iload_n 3, 1) := by decide +kernel
theorem d100_85 : decode (byt 100) 85 = .ok (.iaload, 1) := by decide +kernel
theorem d100_86 : decode (byt 100) 86 = .ok (.iastore, 1) := by decide +kernel
theorem d100_87 : decode (byt 100) 87 = .ok (.return_, 1) := by decide +kernel
set_option maxRecDepth 20000 in
theorem S100_0 : (∀ (ls : Lo) (st : List Value) (h : Hp) (Q : Option Value → Hp → Prop), Wp 100 0 (ls) (st) h Q ↔ Wp 100 1 (ls) (.int (0) :: st) h Q) ∧
  (∀ (ls : Lo) (st : List Value) (h : Hp) (Q : Option Value → Hp → Prop) (l0 l1 l2 l3 l4 l5 : Option Value) (x : Int32), Wp 100 1 (l0 :: l1 :: l2 :: l3 :: l4 :: l5 :: ls) (.int x :: st) h Q ↔ Wp 100 3 (l0 :: l1 :: l2 :: l3 :: clr l4 :: some (.int x) :: ls) (st) h Q) ∧
  (∀ (ls : Lo) (st : List Value) (h : Hp) (Q : Option Value → Hp → Prop), Wp 100 3 (ls) (st) h Q ↔ Wp 100 4 (ls) (.int (0) :: st) h Q) ∧
  (∀ (ls : Lo) (st : List Value) (h : Hp) (Q : Option Value → Hp → Prop) (l0 l1 l2 l3 l4 l5 l6 : Option Value) (x : Int32), Wp 100 4 (l0 :: l1 :: l2 :: l3 :: l4 :: l5 :: l6 :: ls) (.int x :: st) h Q ↔ Wp 100 6 (l0 :: l1 :: l2 :: l3 :: l4 :: clr l5 :: some (.int x) :: ls) (st) h Q) ∧
  (∀ (ls : Lo) (st : List Value) (h : Hp) (Q : Option Value → Hp → Prop) (l0 l1 l2 l3 l4 l5 : Option Value) (x : Int32), Wp 100 6 (l0 :: l1 :: l2 :: l3 :: l4 :: l5 :: some (.int x) :: ls) (st) h Q ↔ Wp 100 8 (l0 :: l1 :: l2 :: l3 :: l4 :: l5 :: some (.int x) :: ls) (.int x :: st) h Q) ∧
  (∀ (ls : Lo) (st : List Value) (h : Hp) (Q : Option Value → Hp → Prop) (l0 l1 : Option Value) (i : Nat), Wp 100 8 (l0 :: l1 :: some (.ref i) :: ls) (st) h Q ↔ Wp 100 9 (l0 :: l1 :: some (.ref i) :: ls) (.ref i :: st) h Q) ∧
  (∀ (ls : Lo) (st : List Value) (n sl : Nat) (C Z : Nat → Nat) (I : Nat → Nat → Int32) (L : Nat → Nat → Int64) (R : Nat → Nat → Nat) (Q : Option Value → Hp → Prop) (i : Nat), Wp 100 9 (ls) (.ref i :: st) (n, sl, C, Z, I, L, R) Q ↔ (inG 7 (C i) = true ∧ Wp 100 12 (ls) (.int (I i 1) :: st) (n, sl, C, Z, I, L, R) Q)) ∧
  (∀ (ls : Lo) (st : List Value) (h : Hp) (Q : Option Value → Hp → Prop) (x y : Int32), Wp 100 12 (ls) (.int y :: .int x :: st) h Q ↔ Br 100 63 15 ls st h Q (y ≤ x)) ∧
  (∀ (ls : Lo) (st : List Value) (h : Hp) (Q : Option Value → Hp → Prop) (l0 l1 l2 l3 : Option Value) (x : Int32), Wp 100 15 (l0 :: l1 :: l2 :: l3 :: some (.int x) :: ls) (st) h Q ↔ Wp 100 17 (l0 :: l1 :: l2 :: l3 :: some (.int x) :: ls) (.int x :: st) h Q) ∧
  (∀ (ls : Lo) (st : List Value) (h : Hp) (Q : Option Value → Hp → Prop) (l0 l1 l2 l3 l4 l5 : Option Value) (x : Int32), Wp 100 17 (l0 :: l1 :: l2 :: l3 :: l4 :: l5 :: some (.int x) :: ls) (st) h Q ↔ Wp 100 19 (l0 :: l1 :: l2 :: l3 :: l4 :: l5 :: some (.int x) :: ls) (.int x :: st) h Q) ∧
  (∀ (ls : Lo) (st : List Value) (h : Hp) (Q : Option Value → Hp → Prop) (x y : Int32), Wp 100 19 (ls) (.int y :: .int x :: st) h Q ↔ Wp 100 20 (ls) (.int (x >>> (y &&& 31)) :: st) h Q) ∧
  (∀ (ls : Lo) (st : List Value) (h : Hp) (Q : Option Value → Hp → Prop), Wp 100 20 (ls) (st) h Q ↔ Wp 100 21 (ls) (.int (1) :: st) h Q) ∧
  (∀ (ls : Lo) (st : List Value) (h : Hp) (Q : Option Value → Hp → Prop) (x y : Int32), Wp 100 21 (ls) (.int y :: .int x :: st) h Q ↔ Wp 100 22 (ls) (.int (x &&& y) :: st) h Q) ∧
  (∀ (ls : Lo) (st : List Value) (h : Hp) (Q : Option Value → Hp → Prop), Wp 100 22 (ls) (st) h Q ↔ Wp 100 23 (ls) (.int (1) :: st) h Q) ∧
  (∀ (ls : Lo) (st : List Value) (h : Hp) (Q : Option Value → Hp → Prop) (x y : Int32), Wp 100 23 (ls) (.int y :: .int x :: st) h Q ↔ Br 100 57 26 ls st h Q (¬ x = y)) ∧
  (∀ (ls : Lo) (st : List Value) (h : Hp) (Q : Option Value → Hp → Prop) (l0 l1 l2 l3 l4 : Option Value) (x : Int32), Wp 100 26 (l0 :: l1 :: l2 :: l3 :: l4 :: some (.int x) :: ls) (st) h Q ↔ Wp 100 28 (l0 :: l1 :: l2 :: l3 :: l4 :: some (.int x) :: ls) (.int x :: st) h Q) ∧
  (∀ (ls : Lo) (st : List Value) (h : Hp) (Q : Option Value → Hp → Prop), Wp 100 28 (ls) (st) h Q ↔ Wp 100 29 (ls) (.int (3) :: st) h Q) ∧
  (∀ (ls : Lo) (st : List Value) (h : Hp) (Q : Option Value → Hp → Prop) (x y : Int32), Wp 100 29 (ls) (.int y :: .int x :: st) h Q ↔ Br 100 57 32 ls st h Q (y ≤ x)) ∧
  (∀ (ls : Lo) (st : List Value) (h : Hp) (Q : Option Value → Hp → Prop)  (i : Nat), Wp 100 32 (some (.ref i) :: ls) (st) h Q ↔ Wp 100 33 (some (.ref i) :: ls) (.ref i :: st) h Q) ∧
  (∀ (ls : Lo) (st : List Value) (n sl : Nat) (C Z : Nat → Nat) (I : Nat → Nat → Int32) (L : Nat → Nat → Int64) (R : Nat → Nat → Nat) (Q : Option Value → Hp → Prop) (i : Nat), Wp 100 33 (ls) (.ref i :: st) (n, sl, C, Z, I, L, R) Q ↔ (inG 7 (C i) = true ∧ Wp 100 36 (ls) (.ref (R i 3) :: st) (n, sl, C, Z, I, L, R) Q)) ∧
  (∀ (ls : Lo) (st : List Value) (h : Hp) (Q : Option Value → Hp → Prop), Wp 100 36 (ls) (st) h Q ↔ Wp 100 37 (ls) (.int (3) :: st) h Q) ∧
  (∀ (ls : Lo) (st : List Value) (h : Hp) (Q : Option Value → Hp → Prop) (l0 : Option Value) (x : Int32), Wp 100 37 (l0 :: some (.int x) :: ls) (st) h Q ↔ Wp 100 38 (l0 :: some (.int x) :: ls) (.int x :: st) h Q) ∧
  (∀ (ls : Lo) (st : List Value) (h : Hp) (Q : Option Value → Hp → Prop) (x y : Int32), Wp 100 38 (ls) (.int y :: .int x :: st) h Q ↔ Wp 100 39 (ls) (.int (x * y) :: st) h Q) ∧
  (∀ (ls : Lo) (st : List Value) (h : Hp) (Q : Option Value → Hp → Prop) (l0 l1 l2 l3 l4 : Option Value) (x : Int32), Wp 100 39 (l0 :: l1 :: l2 :: l3 :: l4 :: some (.int x) :: ls) (st) h Q ↔ Wp 100 41 (l0 :: l1 :: l2 :: l3 :: l4 :: some (.int x) :: ls) (.int x :: st) h Q) ∧
  (∀ (ls : Lo) (st : List Value) (h : Hp) (Q : Option Value → Hp → Prop) (x y : Int32), Wp 100 41 (ls) (.int y :: .int x :: st) h Q ↔ Wp 100 42 (ls) (.int (x + y) :: st) h Q) := ⟨by intro ls st h Q; exact e_iconst d100_0 rfl,
  by intro ls st h Q l0 l1 l2 l3 l4 l5 x; exact e_istore d100_1 rfl,
  by intro ls st h Q; exact e_iconst d100_3 rfl,
  by intro ls st h Q l0 l1 l2 l3 l4 l5 l6 x; exact e_istore d100_4 rfl,
  by intro ls st h Q l0 l1 l2 l3 l4 l5 x; exact e_iload d100_6 rfl,
  by intro ls st h Q l0 l1 i; exact e_aload_n d100_8 rfl,
  by intro ls st n sl C Z I L R Q i; exact e_get (g := 7) (s := 1) (ty := 0) d100_9 rfl rfl rfl,
  by intro ls st h Q x y; exact e_ic d100_12 (by decide) c_ge,
  by intro ls st h Q l0 l1 l2 l3 x; exact e_iload d100_15 rfl,
  by intro ls st h Q l0 l1 l2 l3 l4 l5 x; exact e_iload d100_17 rfl,
  by intro ls st h Q x y; exact e_ishr d100_19,
  by intro ls st h Q; exact e_iconst d100_20 rfl,
  by intro ls st h Q x y; exact e_iand d100_21,
  by intro ls st h Q; exact e_iconst d100_22 rfl,
  by intro ls st h Q x y; exact e_ic d100_23 (by decide) c_ne,
  by intro ls st h Q l0 l1 l2 l3 l4 x; exact e_iload d100_26 rfl,
  by intro ls st h Q; exact e_iconst d100_28 rfl,
  by intro ls st h Q x y; exact e_ic d100_29 (by decide) c_ge,
  by intro ls st h Q i; exact e_aload_n d100_32 rfl,
  by intro ls st n sl C Z I L R Q i; exact e_get (g := 7) (s := 3) (ty := 2) d100_33 rfl rfl rfl,
  by intro ls st h Q; exact e_iconst d100_36 rfl,
  by intro ls st h Q l0 x; exact e_iload_n d100_37 rfl,
  by intro ls st h Q x y; exact e_imul d100_38,
  by intro ls st h Q l0 l1 l2 l3 l4 x; exact e_iload d100_39 rfl,
  by intro ls st h Q x y; exact e_iadd d100_41⟩
set_option maxRecDepth 20000 in
theorem S100_1 : (∀ (ls : Lo) (st : List Value) (h : Hp) (Q : Option Value → Hp → Prop) (l0 l1 : Option Value) (i : Nat), Wp 100 42 (l0 :: l1 :: some (.ref i) :: ls) (st) h Q ↔ Wp 100 43 (l0 :: l1 :: some (.ref i) :: ls) (.ref i :: st) h Q) ∧
  (∀ (ls : Lo) (st : List Value) (n sl : Nat) (C Z : Nat → Nat) (I : Nat → Nat → Int32) (L : Nat → Nat → Int64) (R : Nat → Nat → Nat) (Q : Option Value → Hp → Prop) (i : Nat), Wp 100 43 (ls) (.ref i :: st) (n, sl, C, Z, I, L, R) Q ↔ (inG 7 (C i) = true ∧ Wp 100 46 (ls) (.ref (R i 3) :: st) (n, sl, C, Z, I, L, R) Q)) ∧
  (∀ (ls : Lo) (st : List Value) (h : Hp) (Q : Option Value → Hp → Prop), Wp 100 46 (ls) (st) h Q ↔ Wp 100 47 (ls) (.int (3) :: st) h Q) ∧
  (∀ (ls : Lo) (st : List Value) (h : Hp) (Q : Option Value → Hp → Prop) (l0 l1 l2 : Option Value) (x : Int32), Wp 100 47 (l0 :: l1 :: l2 :: some (.int x) :: ls) (st) h Q ↔ Wp 100 48 (l0 :: l1 :: l2 :: some (.int x) :: ls) (.int x :: st) h Q) ∧
  (∀ (ls : Lo) (st : List Value) (h : Hp) (Q : Option Value → Hp → Prop) (x y : Int32), Wp 100 48 (ls) (.int y :: .int x :: st) h Q ↔ Wp 100 49 (ls) (.int (x * y) :: st) h Q) ∧
  (∀ (ls : Lo) (st : List Value) (h : Hp) (Q : Option Value → Hp → Prop) (l0 l1 l2 l3 l4 l5 : Option Value) (x : Int32), Wp 100 49 (l0 :: l1 :: l2 :: l3 :: l4 :: l5 :: some (.int x) :: ls) (st) h Q ↔ Wp 100 51 (l0 :: l1 :: l2 :: l3 :: l4 :: l5 :: some (.int x) :: ls) (.int x :: st) h Q) ∧
  (∀ (ls : Lo) (st : List Value) (h : Hp) (Q : Option Value → Hp → Prop) (x y : Int32), Wp 100 51 (ls) (.int y :: .int x :: st) h Q ↔ Wp 100 52 (ls) (.int (x + y) :: st) h Q) ∧
  (∀ (ls : Lo) (st : List Value) (n sl : Nat) (C Z : Nat → Nat) (I : Nat → Nat → Int32) (L : Nat → Nat → Int64) (R : Nat → Nat → Nat) (Q : Option Value → Hp → Prop) (i : Nat) (y : Int32), Wp 100 52 (ls) (.int y :: .ref i :: st) (n, sl, C, Z, I, L, R) Q ↔ ((inb y (Z i) = true ∧ C i = 21) ∧ Wp 100 53 (ls) (.int (I i (ix y)) :: st) (n, sl, C, Z, I, L, R) Q)) ∧
  (∀ (ls : Lo) (st : List Value) (n sl : Nat) (C Z : Nat → Nat) (I : Nat → Nat → Int32) (L : Nat → Nat → Int64) (R : Nat → Nat → Nat) (Q : Option Value → Hp → Prop) (i : Nat) (x y : Int32), Wp 100 53 (ls) (.int x :: .int y :: .ref i :: st) (n, sl, C, Z, I, L, R) Q ↔ ((inb y (Z i) = true ∧ C i = 21) ∧ Wp 100 54 (ls) (st) (n, sl, C, Z, u2 I i (ix y) x, L, R) Q)) ∧
  (∀ (ls : Lo) (st : List Value) (h : Hp) (Q : Option Value → Hp → Prop) (l0 l1 l2 l3 l4 : Option Value) (x : Int32), Wp 100 54 (l0 :: l1 :: l2 :: l3 :: l4 :: some (.int x) :: ls) (st) h Q ↔ Wp 100 57 (l0 :: l1 :: l2 :: l3 :: clr l4 :: some (.int (x + (1))) :: ls) (st) h Q) ∧
  (∀ (ls : Lo) (st : List Value) (h : Hp) (Q : Option Value → Hp → Prop) (l0 l1 l2 l3 l4 l5 : Option Value) (x : Int32), Wp 100 57 (l0 :: l1 :: l2 :: l3 :: l4 :: l5 :: some (.int x) :: ls) (st) h Q ↔ Wp 100 60 (l0 :: l1 :: l2 :: l3 :: l4 :: clr l5 :: some (.int (x + (1))) :: ls) (st) h Q) ∧
  (∀ (ls : Lo) (st : List Value) (h : Hp) (Q : Option Value → Hp → Prop), Wp 100 60 (ls) (st) h Q ↔ Wp 100 6 (ls) (st) h Q) ∧
  (∀ (ls : Lo) (st : List Value) (h : Hp) (Q : Option Value → Hp → Prop)  (i : Nat), Wp 100 63 (some (.ref i) :: ls) (st) h Q ↔ Wp 100 64 (some (.ref i) :: ls) (.ref i :: st) h Q) ∧
  (∀ (ls : Lo) (st : List Value) (n sl : Nat) (C Z : Nat → Nat) (I : Nat → Nat → Int32) (L : Nat → Nat → Int64) (R : Nat → Nat → Nat) (Q : Option Value → Hp → Prop) (i : Nat), Wp 100 64 (ls) (.ref i :: st) (n, sl, C, Z, I, L, R) Q ↔ (inG 7 (C i) = true ∧ Wp 100 67 (ls) (.ref (R i 4) :: st) (n, sl, C, Z, I, L, R) Q)) ∧
  (∀ (ls : Lo) (st : List Value) (h : Hp) (Q : Option Value → Hp → Prop) (l0 : Option Value) (x : Int32), Wp 100 67 (l0 :: some (.int x) :: ls) (st) h Q ↔ Wp 100 68 (l0 :: some (.int x) :: ls) (.int x :: st) h Q) ∧
  (∀ (ls : Lo) (st : List Value) (h : Hp) (Q : Option Value → Hp → Prop) (l0 l1 : Option Value) (i : Nat), Wp 100 68 (l0 :: l1 :: some (.ref i) :: ls) (st) h Q ↔ Wp 100 69 (l0 :: l1 :: some (.ref i) :: ls) (.ref i :: st) h Q) ∧
  (∀ (ls : Lo) (st : List Value) (n sl : Nat) (C Z : Nat → Nat) (I : Nat → Nat → Int32) (L : Nat → Nat → Int64) (R : Nat → Nat → Nat) (Q : Option Value → Hp → Prop) (i : Nat), Wp 100 69 (ls) (.ref i :: st) (n, sl, C, Z, I, L, R) Q ↔ (inG 7 (C i) = true ∧ Wp 100 72 (ls) (.ref (R i 4) :: st) (n, sl, C, Z, I, L, R) Q)) ∧
  (∀ (ls : Lo) (st : List Value) (h : Hp) (Q : Option Value → Hp → Prop) (l0 l1 l2 : Option Value) (x : Int32), Wp 100 72 (l0 :: l1 :: l2 :: some (.int x) :: ls) (st) h Q ↔ Wp 100 73 (l0 :: l1 :: l2 :: some (.int x) :: ls) (.int x :: st) h Q) ∧
  (∀ (ls : Lo) (st : List Value) (n sl : Nat) (C Z : Nat → Nat) (I : Nat → Nat → Int32) (L : Nat → Nat → Int64) (R : Nat → Nat → Nat) (Q : Option Value → Hp → Prop) (i : Nat) (y : Int32), Wp 100 73 (ls) (.int y :: .ref i :: st) (n, sl, C, Z, I, L, R) Q ↔ ((inb y (Z i) = true ∧ C i = 21) ∧ Wp 100 74 (ls) (.int (I i (ix y)) :: st) (n, sl, C, Z, I, L, R) Q)) ∧
  (∀ (ls : Lo) (st : List Value) (n sl : Nat) (C Z : Nat → Nat) (I : Nat → Nat → Int32) (L : Nat → Nat → Int64) (R : Nat → Nat → Nat) (Q : Option Value → Hp → Prop) (i : Nat) (x y : Int32), Wp 100 74 (ls) (.int x :: .int y :: .ref i :: st) (n, sl, C, Z, I, L, R) Q ↔ ((inb y (Z i) = true ∧ C i = 21) ∧ Wp 100 75 (ls) (st) (n, sl, C, Z, u2 I i (ix y) x, L, R) Q)) ∧
  (∀ (ls : Lo) (st : List Value) (h : Hp) (Q : Option Value → Hp → Prop)  (i : Nat), Wp 100 75 (some (.ref i) :: ls) (st) h Q ↔ Wp 100 76 (some (.ref i) :: ls) (.ref i :: st) h Q) ∧
  (∀ (ls : Lo) (st : List Value) (n sl : Nat) (C Z : Nat → Nat) (I : Nat → Nat → Int32) (L : Nat → Nat → Int64) (R : Nat → Nat → Nat) (Q : Option Value → Hp → Prop) (i : Nat), Wp 100 76 (ls) (.ref i :: st) (n, sl, C, Z, I, L, R) Q ↔ (inG 7 (C i) = true ∧ Wp 100 79 (ls) (.ref (R i 5) :: st) (n, sl, C, Z, I, L, R) Q)) ∧
  (∀ (ls : Lo) (st : List Value) (h : Hp) (Q : Option Value → Hp → Prop) (l0 : Option Value) (x : Int32), Wp 100 79 (l0 :: some (.int x) :: ls) (st) h Q ↔ Wp 100 80 (l0 :: some (.int x) :: ls) (.int x :: st) h Q) ∧
  (∀ (ls : Lo) (st : List Value) (h : Hp) (Q : Option Value → Hp → Prop) (l0 l1 : Option Value) (i : Nat), Wp 100 80 (l0 :: l1 :: some (.ref i) :: ls) (st) h Q ↔ Wp 100 81 (l0 :: l1 :: some (.ref i) :: ls) (.ref i :: st) h Q) ∧
  (∀ (ls : Lo) (st : List Value) (n sl : Nat) (C Z : Nat → Nat) (I : Nat → Nat → Int32) (L : Nat → Nat → Int64) (R : Nat → Nat → Nat) (Q : Option Value → Hp → Prop) (i : Nat), Wp 100 81 (ls) (.ref i :: st) (n, sl, C, Z, I, L, R) Q ↔ (inG 7 (C i) = true ∧ Wp 100 84 (ls) (.ref (R i 5) :: st) (n, sl, C, Z, I, L, R) Q)) := ⟨by intro ls st h Q l0 l1 i; exact e_aload_n d100_42 rfl,
  by intro ls st n sl C Z I L R Q i; exact e_get (g := 7) (s := 3) (ty := 2) d100_43 rfl rfl rfl,
  by intro ls st h Q; exact e_iconst d100_46 rfl,
  by intro ls st h Q l0 l1 l2 x; exact e_iload_n d100_47 rfl,
  by intro ls st h Q x y; exact e_imul d100_48,
  by intro ls st h Q l0 l1 l2 l3 l4 l5 x; exact e_iload d100_49 rfl,
  by intro ls st h Q x y; exact e_iadd d100_51,
  by intro ls st n sl C Z I L R Q i y; exact e_iald d100_52,
  by intro ls st n sl C Z I L R Q i x y; exact e_iast d100_53,
  by intro ls st h Q l0 l1 l2 l3 l4 x; exact e_iinc d100_54 rfl rfl rfl,
  by intro ls st h Q l0 l1 l2 l3 l4 l5 x; exact e_iinc d100_57 rfl rfl rfl,
  by intro ls st h Q; exact e_goto d100_60 (by decide),
  by intro ls st h Q i; exact e_aload_n d100_63 rfl,
  by intro ls st n sl C Z I L R Q i; exact e_get (g := 7) (s := 4) (ty := 2) d100_64 rfl rfl rfl,
  by intro ls st h Q l0 x; exact e_iload_n d100_67 rfl,
  by intro ls st h Q l0 l1 i; exact e_aload_n d100_68 rfl,
  by intro ls st n sl C Z I L R Q i; exact e_get (g := 7) (s := 4) (ty := 2) d100_69 rfl rfl rfl,
  by intro ls st h Q l0 l1 l2 x; exact e_iload_n d100_72 rfl,
  by intro ls st n sl C Z I L R Q i y; exact e_iald d100_73,
  by intro ls st n sl C Z I L R Q i x y; exact e_iast d100_74,
  by intro ls st h Q i; exact e_aload_n d100_75 rfl,
  by intro ls st n sl C Z I L R Q i; exact e_get (g := 7) (s := 5) (ty := 2) d100_76 rfl rfl rfl,
  by intro ls st h Q l0 x; exact e_iload_n d100_79 rfl,
  by intro ls st h Q l0 l1 i; exact e_aload_n d100_80 rfl,
  by intro ls st n sl C Z I L R Q i; exact e_get (g := 7) (s := 5) (ty := 2) d100_81 rfl rfl rfl⟩
set_option maxRecDepth 20000 in
theorem S100_2 : (∀ (ls : Lo) (st : List Value) (h : Hp) (Q : Option Value → Hp → Prop) (l0 l1 l2 : Option Value) (x : Int32), Wp 100 84 (l0 :: l1 :: l2 :: some (.int x) :: ls) (st) h Q ↔ Wp 100 85 (l0 :: l1 :: l2 :: some (.int x) :: ls) (.int x :: st) h Q) ∧
  (∀ (ls : Lo) (st : List Value) (n sl : Nat) (C Z : Nat → Nat) (I : Nat → Nat → Int32) (L : Nat → Nat → Int64) (R : Nat → Nat → Nat) (Q : Option Value → Hp → Prop) (i : Nat) (y : Int32), Wp 100 85 (ls) (.int y :: .ref i :: st) (n, sl, C, Z, I, L, R) Q ↔ ((inb y (Z i) = true ∧ C i = 21) ∧ Wp 100 86 (ls) (.int (I i (ix y)) :: st) (n, sl, C, Z, I, L, R) Q)) ∧
  (∀ (ls : Lo) (st : List Value) (n sl : Nat) (C Z : Nat → Nat) (I : Nat → Nat → Int32) (L : Nat → Nat → Int64) (R : Nat → Nat → Nat) (Q : Option Value → Hp → Prop) (i : Nat) (x y : Int32), Wp 100 86 (ls) (.int x :: .int y :: .ref i :: st) (n, sl, C, Z, I, L, R) Q ↔ ((inb y (Z i) = true ∧ C i = 21) ∧ Wp 100 87 (ls) (st) (n, sl, C, Z, u2 I i (ix y) x, L, R) Q)) ∧
  (∀ (ls : Lo) (h : Hp) (Q : Option Value → Hp → Prop), Wp 100 87 (ls) ([]) h Q ↔ Q none h) := ⟨by intro ls st h Q l0 l1 l2 x; exact e_iload_n d100_84 rfl,
  by intro ls st n sl C Z I L R Q i y; exact e_iald d100_85,
  by intro ls st n sl C Z I L R Q i x y; exact e_iast d100_86,
  by intros; exact e_rV d100_87 rfl⟩
theorem d101_0 : decode (byt 101) 0 = .ok (.iconst 0, 1) := by decide +kernel
theorem d101_1 : decode (byt 101) 1 = .ok (.istore_n 3, 1) := by decide +kernel
theorem d101_2 : decode (byt 101) 2 = .ok (.aload_n 1, 1) := by decide +kernel
theorem d101_3 : decode (byt 101) 3 = .ok (.iload_n 3, 1) := by decide +kernel
theorem d101_4 : decode (byt 101) 4 = .ok (.iinc 3 1, 3) := by decide +kernel
theorem d101_7 : decode (byt 101) 7 = .ok (.aload_n 2, 1) := by decide +kernel
theorem d101_8 : decode (byt 101) 8 = .ok (.getfield 109, 3) := by decide +kernel
theorem d101_11 : decode (byt 101) 11 = .ok (.i2l, 1) := by decide +kernel
theorem d101_12 : decode (byt 101) 12 = .ok (.lastore, 1) := by decide +kernel
theorem d101_13 : decode (byt 101) 13 = .ok (.aload_n 2, 1) := by decide +kernel
theorem d101_14 : decode (byt 101) 14 = .ok (.getfield 106, 3) := by decide +kernel
theorem d101_17 : decode (byt 101) 17 = .ok (.iconst 2, 1) := by decide +kernel
theorem d101_18 : decode (byt 101) 18 = .ok (.invokestatic 220, 3) := by decide +kernel
theorem d101_21 : decode (byt 101) 21 = .ok (.istore 4, 2) := by decide +kernel
theorem d101_23 : decode (byt 101) 23 = .ok (.iconst 0, 1) := by decide +kernel
theorem d101_24 : decode (byt 101) 24 = .ok (.istore 5, 2) := by decide +kernel
theorem d101_26 : decode (byt 101) 26 = .ok (.iload 5, 2) := by decide +kernel
theorem d101_28 : decode (byt 101) 28 = .ok (.iload 4, 2) := by decide +kernel
theorem d101_30 : decode (byt 101) 30 = .ok (.if_icmp .ge 44, 3) := by decide +kernel
theorem d101_33 : decode (byt 101) 33 = .ok (.iconst 0, 1) := by decide +kernel
theorem d101_34 : decode (byt 101) 34 = .ok (.istore 6, 2) := by decide +kernel
theorem d101_36 : decode (byt 101) 36 = .ok (.iload 6, 2) := by decide +kernel
theorem d101_38 : decode (byt 101) 38 = .ok (.iload 4, 2) := by decide +kernel
theorem d101_40 : decode (byt 101) 40 = .ok (.if_icmp .ge 28, 3) := by decide +kernel
theorem d101_43 : decode (byt 101) 43 = .ok (.aload_n 1, 1) := by decide +kernel
theorem d101_44 : decode (byt 101) 44 = .ok (.iload_n 3, 1) := by decide +kernel
theorem d101_45 : decode (byt 101) 45 = .ok (.iinc 3 1, 3) := by decide +kernel
theorem d101_48 : decode (byt 101) 48 = .ok (.aload_n 2, 1) := by decide +kernel
theorem d101_49 : decode (byt 101) 49 = .ok (.getfield 116, 3) := by decide +kernel
theorem d101_52 : decode (byt 101) 52 = .ok (.iconst 3, 1) := by decide +kernel
theorem d101_53 : decode (byt 101) 53 = .ok (.iload 5, 2) := by decide +kernel
theorem d101_55 : decode (byt 101) 55 = .ok (.imul, 1) := by decide +kernel
theorem d101_56 : decode (byt 101) 56 = .ok (.iload 6, 2) := by decide +kernel
theorem d101_58 : decode (byt 101) 58 = .ok (.iadd, 1) := by decide +kernel
theorem d101_59 : decode (byt 101) 59 = .ok (.iaload, 1) := by decide +kernel
theorem d101_60 : decode (byt 101) 60 = .ok (.i2l, 1) := by decide +kernel
theorem d101_61 : decode (byt 101) 61 = .ok (.lastore, 1) := by decide +kernel
theorem d101_62 : decode (byt 101) 62 = .ok (.iinc 6 1, 3) := by decide +kernel
theorem d101_65 : decode (byt 101) 65 = .ok (.goto (-29), 3) := by decide +kernel
theorem d101_68 : decode (byt 101) 68 = .ok (.iinc 5 1, 3) := by decide +kernel
theorem d101_71 : decode (byt 101) 71 = .ok (.goto (-45), 3) := by decide +kernel
theorem d101_74 : decode (byt 101) 74 = .ok (.iconst 0, 1) := by decide +kernel
theorem d101_75 : decode (byt 101) 75 = .ok (.istore 5, 2) := by decide +kernel
theorem d101_77 : decode (byt 101) 77 = .ok (.iload 5, 2) := by decide +kernel
theorem d101_79 : decode (byt 101) 79 = .ok (.iload 4, 2) := by decide +kernel
theorem d101_81 : decode (byt 101) 81 = .ok (.iload 4, 2) := by decide +kernel
theorem d101_83 : decode (byt 101) 83 = .ok (.iconst 1, 1) := by decide +kernel
theorem d101_84 : decode (byt 101) 84 = .ok (.iadd, 1) := by decide +kernel
theorem d101_85 : decode (byt 101) 85 = .ok (.imul, 1) := by decide +kernel
theorem d101_86 : decode (byt 101) 86 = .ok (.iconst 2, 1) := by decide +kernel
theorem d101_87 : decode (byt 101) 87 = .ok (.idiv, 1) := by decide +kernel
theorem d101_88 : decode (byt 101) 88 = .ok (.if_icmp .ge 48, 3) := by decide +kernel
theorem d101_91 : decode (byt 101) 91 = .ok (.aload_n 0, 1) := by decide +kernel
theorem d101_92 : decode (byt 101) 92 = .ok (.getfield 55, 3) := by decide +kernel
theorem d101_95 : decode (byt 101) 95 = .ok (.aload_n 0, 1) := by decide +kernel
theorem d101_96 : decode (byt 101) 96 = .ok (.getfield 62, 3) := by decide +kernel
theorem d101_99 : decode (byt 101) 99 = .ok (.iload 5, 2) := by decide +kernel
theorem d101_101 : decode (byt 101) 101 = .ok (.invokevirtual 209, 3) := by decide +kernel
theorem d101_104 : decode (byt 101) 104 = .ok (.aload_n 1, 1) := by decide +kernel
theorem d101_105 : decode (byt 101) 105 = .ok (.iload_n 3, 1) := by decide +kernel
theorem d101_106 : decode (byt 101) 106 = .ok (.iinc 3 1, 3) := by decide +kernel
theorem d101_109 : decode (byt 101) 109 = .ok (.aload_n 0, 1) := by decide +kernel
theorem d101_110 : decode (byt 101) 110 = .ok (.getfield 62, 3) := by decide +kernel
theorem d101_113 : decode (byt 101) 113 = .ok (.getfield 289, 3) := by decide +kernel
theorem d101_116 : decode (byt 101) 116 = .ok (.lastore, 1) := by decide +kernel
theorem d101_117 : decode (byt 101) 117 = .ok (.aload_n 1, 1) := by decide +kernel
theorem d101_118 : decode (byt 101) 118 = .ok (.iload_n 3, 1) := by decide +kernel
theorem d101_119 : decode (byt 101) 119 = .ok (.iinc 3 1, 3) := by decide +kernel
theorem d101_122 : decode (byt 101) 122 = .ok (.aload_n 0, 1) := by decide +kernel
theorem d101_123 : decode (byt 101) 123 = .ok (.getfield 62, 3) := by decide +kernel
theorem d101_126 : decode (byt 101) 126 = .ok (.getfield 292, 3) := by decide +kernel
theorem d101_129 : decode (byt 101) 129 = .ok (.lastore, 1) := by decide +kernel
theorem d101_130 : decode (byt 101) 130 = .ok (.iinc 5 1, 3) := by decide +kernel
theorem d101_133 : decode (byt 101) 133 = .ok (.goto (-56), 3) := by decide +kernel
theorem d101_136 : decode (byt 101) 136 = .ok (.iload_n 3, 1) := by decide +kernel
theorem d101_137 : decode (byt 101) 137 = .ok (.ireturn, 1) := by decide +kernel
set_option maxRecDepth 20000 in
theorem S101_0 : (∀ (ls : Lo) (st : List Value) (h : Hp) (Q : Option Value → Hp → Prop), Wp 101 0 (ls) (st) h Q ↔ Wp 101 1 (ls) (.int (0) :: st) h Q) ∧
  (∀ (ls : Lo) (st : List Value) (h : Hp) (Q : Option Value → Hp → Prop) (l0 l1 l2 l3 : Option Value) (x : Int32), Wp 101 1 (l0 :: l1 :: l2 :: l3 :: ls) (.int x :: st) h Q ↔ Wp 101 2 (l0 :: l1 :: clr l2 :: some (.int x) :: ls) (st) h Q) ∧
  (∀ (ls : Lo) (st : List Value) (h : Hp) (Q : Option Value → Hp → Prop) (l0 : Option Value) (i : Nat), Wp 101 2 (l0 :: some (.ref i) :: ls) (st) h Q ↔ Wp 101 3 (l0 :: some (.ref i) :: ls) (.ref i :: st) h Q) ∧
  (∀ (ls : Lo) (st : List Value) (h : Hp) (Q : Option Value → Hp → Prop) (l0 l1 l2 : Option Value) (x : Int32), Wp 101 3 (l0 :: l1 :: l2 :: some (.int x) :: ls) (st) h Q ↔ Wp 101 4 (l0 :: l1 :: l2 :: some (.int x) :: ls) (.int x :: st) h Q) ∧
  (∀ (ls : Lo) (st : List Value) (h : Hp) (Q : Option Value → Hp → Prop) (l0 l1 l2 : Option Value) (x : Int32), Wp 101 4 (l0 :: l1 :: l2 :: some (.int x) :: ls) (st) h Q ↔ Wp 101 7 (l0 :: l1 :: clr l2 :: some (.int (x + (1))) :: ls) (st) h Q) ∧
  (∀ (ls : Lo) (st : List Value) (h : Hp) (Q : Option Value → Hp → Prop) (l0 l1 : Option Value) (i : Nat), Wp 101 7 (l0 :: l1 :: some (.ref i) :: ls) (st) h Q ↔ Wp 101 8 (l0 :: l1 :: some (.ref i) :: ls) (.ref i :: st) h Q) ∧
  (∀ (ls : Lo) (st : List Value) (n sl : Nat) (C Z : Nat → Nat) (I : Nat → Nat → Int32) (L : Nat → Nat → Int64) (R : Nat → Nat → Nat) (Q : Option Value → Hp → Prop) (i : Nat), Wp 101 8 (ls) (.ref i :: st) (n, sl, C, Z, I, L, R) Q ↔ (inG 7 (C i) = true ∧ Wp 101 11 (ls) (.int (I i 2) :: st) (n, sl, C, Z, I, L, R) Q)) ∧
  (∀ (ls : Lo) (st : List Value) (h : Hp) (Q : Option Value → Hp → Prop) (x : Int32), Wp 101 11 (ls) (.int x :: st) h Q ↔ Wp 101 12 (ls) (.long x.toInt64 :: st) h Q) ∧
  (∀ (ls : Lo) (st : List Value) (n sl : Nat) (C Z : Nat → Nat) (I : Nat → Nat → Int32) (L : Nat → Nat → Int64) (R : Nat → Nat → Nat) (Q : Option Value → Hp → Prop) (i : Nat) (y : Int32) (a : Int64), Wp 101 12 (ls) (.long a :: .int y :: .ref i :: st) (n, sl, C, Z, I, L, R) Q ↔ ((inb y (Z i) = true ∧ C i = 22) ∧ Wp 101 13 (ls) (st) (n, sl, C, Z, I, u2 L i (ix y) a, R) Q)) ∧
  (∀ (ls : Lo) (st : List Value) (h : Hp) (Q : Option Value → Hp → Prop) (l0 l1 : Option Value) (i : Nat), Wp 101 13 (l0 :: l1 :: some (.ref i) :: ls) (st) h Q ↔ Wp 101 14 (l0 :: l1 :: some (.ref i) :: ls) (.ref i :: st) h Q) ∧
  (∀ (ls : Lo) (st : List Value) (n sl : Nat) (C Z : Nat → Nat) (I : Nat → Nat → Int32) (L : Nat → Nat → Int64) (R : Nat → Nat → Nat) (Q : Option Value → Hp → Prop) (i : Nat), Wp 101 14 (ls) (.ref i :: st) (n, sl, C, Z, I, L, R) Q ↔ (inG 7 (C i) = true ∧ Wp 101 17 (ls) (.int (I i 1) :: st) (n, sl, C, Z, I, L, R) Q)) ∧
  (∀ (ls : Lo) (st : List Value) (h : Hp) (Q : Option Value → Hp → Prop), Wp 101 17 (ls) (st) h Q ↔ Wp 101 18 (ls) (.int (2) :: st) h Q) ∧
  (∀ (ls : Lo) (st : List Value) (h : Hp) (Q : Option Value → Hp → Prop) (x y : Int32), Wp 101 18 (ls) (.int y :: .int x :: st) h Q ↔ (wsum st ≤ 8 ∧ Wp 101 21 (ls) (.int (if y < x then y else x) :: st) h Q)) ∧
  (∀ (ls : Lo) (st : List Value) (h : Hp) (Q : Option Value → Hp → Prop) (l0 l1 l2 l3 l4 : Option Value) (x : Int32), Wp 101 21 (l0 :: l1 :: l2 :: l3 :: l4 :: ls) (.int x :: st) h Q ↔ Wp 101 23 (l0 :: l1 :: l2 :: clr l3 :: some (.int x) :: ls) (st) h Q) ∧
  (∀ (ls : Lo) (st : List Value) (h : Hp) (Q : Option Value → Hp → Prop), Wp 101 23 (ls) (st) h Q ↔ Wp 101 24 (ls) (.int (0) :: st) h Q) ∧
  (∀ (ls : Lo) (st : List Value) (h : Hp) (Q : Option Value → Hp → Prop) (l0 l1 l2 l3 l4 l5 : Option Value) (x : Int32), Wp 101 24 (l0 :: l1 :: l2 :: l3 :: l4 :: l5 :: ls) (.int x :: st) h Q ↔ Wp 101 26 (l0 :: l1 :: l2 :: l3 :: clr l4 :: some (.int x) :: ls) (st) h Q) ∧
  (∀ (ls : Lo) (st : List Value) (h : Hp) (Q : Option Value → Hp → Prop) (l0 l1 l2 l3 l4 : Option Value) (x : Int32), Wp 101 26 (l0 :: l1 :: l2 :: l3 :: l4 :: some (.int x) :: ls) (st) h Q ↔ Wp 101 28 (l0 :: l1 :: l2 :: l3 :: l4 :: some (.int x) :: ls) (.int x :: st) h Q) ∧
  (∀ (ls : Lo) (st : List Value) (h : Hp) (Q : Option Value → Hp → Prop) (l0 l1 l2 l3 : Option Value) (x : Int32), Wp 101 28 (l0 :: l1 :: l2 :: l3 :: some (.int x) :: ls) (st) h Q ↔ Wp 101 30 (l0 :: l1 :: l2 :: l3 :: some (.int x) :: ls) (.int x :: st) h Q) ∧
  (∀ (ls : Lo) (st : List Value) (h : Hp) (Q : Option Value → Hp → Prop) (x y : Int32), Wp 101 30 (ls) (.int y :: .int x :: st) h Q ↔ Br 101 74 33 ls st h Q (y ≤ x)) ∧
  (∀ (ls : Lo) (st : List Value) (h : Hp) (Q : Option Value → Hp → Prop), Wp 101 33 (ls) (st) h Q ↔ Wp 101 34 (ls) (.int (0) :: st) h Q) ∧
  (∀ (ls : Lo) (st : List Value) (h : Hp) (Q : Option Value → Hp → Prop) (l0 l1 l2 l3 l4 l5 l6 : Option Value) (x : Int32), Wp 101 34 (l0 :: l1 :: l2 :: l3 :: l4 :: l5 :: l6 :: ls) (.int x :: st) h Q ↔ Wp 101 36 (l0 :: l1 :: l2 :: l3 :: l4 :: clr l5 :: some (.int x) :: ls) (st) h Q) ∧
  (∀ (ls : Lo) (st : List Value) (h : Hp) (Q : Option Value → Hp → Prop) (l0 l1 l2 l3 l4 l5 : Option Value) (x : Int32), Wp 101 36 (l0 :: l1 :: l2 :: l3 :: l4 :: l5 :: some (.int x) :: ls) (st) h Q ↔ Wp 101 38 (l0 :: l1 :: l2 :: l3 :: l4 :: l5 :: some (.int x) :: ls) (.int x :: st) h Q) ∧
  (∀ (ls : Lo) (st : List Value) (h : Hp) (Q : Option Value → Hp → Prop) (l0 l1 l2 l3 : Option Value) (x : Int32), Wp 101 38 (l0 :: l1 :: l2 :: l3 :: some (.int x) :: ls) (st) h Q ↔ Wp 101 40 (l0 :: l1 :: l2 :: l3 :: some (.int x) :: ls) (.int x :: st) h Q) ∧
  (∀ (ls : Lo) (st : List Value) (h : Hp) (Q : Option Value → Hp → Prop) (x y : Int32), Wp 101 40 (ls) (.int y :: .int x :: st) h Q ↔ Br 101 68 43 ls st h Q (y ≤ x)) ∧
  (∀ (ls : Lo) (st : List Value) (h : Hp) (Q : Option Value → Hp → Prop) (l0 : Option Value) (i : Nat), Wp 101 43 (l0 :: some (.ref i) :: ls) (st) h Q ↔ Wp 101 44 (l0 :: some (.ref i) :: ls) (.ref i :: st) h Q) := ⟨by intro ls st h Q; exact e_iconst d101_0 rfl,
  by intro ls st h Q l0 l1 l2 l3 x; exact e_istore_n d101_1 rfl,
  by intro ls st h Q l0 i; exact e_aload_n d101_2 rfl,
  by intro ls st h Q l0 l1 l2 x; exact e_iload_n d101_3 rfl,
  by intro ls st h Q l0 l1 l2 x; exact e_iinc d101_4 rfl rfl rfl,
  by intro ls st h Q l0 l1 i; exact e_aload_n d101_7 rfl,
  by intro ls st n sl C Z I L R Q i; exact e_get (g := 7) (s := 2) (ty := 0) d101_8 rfl rfl rfl,
  by intro ls st h Q x; exact e_i2l d101_11,
  by intro ls st n sl C Z I L R Q i y a; exact e_last d101_12,
  by intro ls st h Q l0 l1 i; exact e_aload_n d101_13 rfl,
  by intro ls st n sl C Z I L R Q i; exact e_get (g := 7) (s := 1) (ty := 0) d101_14 rfl rfl rfl,
  by intro ls st h Q; exact e_iconst d101_17 rfl,
  by intro ls st h Q x y; exact e_min d101_18 rfl (by decide +kernel),
  by intro ls st h Q l0 l1 l2 l3 l4 x; exact e_istore d101_21 rfl,
  by intro ls st h Q; exact e_iconst d101_23 rfl,
  by intro ls st h Q l0 l1 l2 l3 l4 l5 x; exact e_istore d101_24 rfl,
  by intro ls st h Q l0 l1 l2 l3 l4 x; exact e_iload d101_26 rfl,
  by intro ls st h Q l0 l1 l2 l3 x; exact e_iload d101_28 rfl,
  by intro ls st h Q x y; exact e_ic d101_30 (by decide) c_ge,
  by intro ls st h Q; exact e_iconst d101_33 rfl,
  by intro ls st h Q l0 l1 l2 l3 l4 l5 l6 x; exact e_istore d101_34 rfl,
  by intro ls st h Q l0 l1 l2 l3 l4 l5 x; exact e_iload d101_36 rfl,
  by intro ls st h Q l0 l1 l2 l3 x; exact e_iload d101_38 rfl,
  by intro ls st h Q x y; exact e_ic d101_40 (by decide) c_ge,
  by intro ls st h Q l0 i; exact e_aload_n d101_43 rfl⟩
set_option maxRecDepth 20000 in
theorem S101_1 : (∀ (ls : Lo) (st : List Value) (h : Hp) (Q : Option Value → Hp → Prop) (l0 l1 l2 : Option Value) (x : Int32), Wp 101 44 (l0 :: l1 :: l2 :: some (.int x) :: ls) (st) h Q ↔ Wp 101 45 (l0 :: l1 :: l2 :: some (.int x) :: ls) (.int x :: st) h Q) ∧
  (∀ (ls : Lo) (st : List Value) (h : Hp) (Q : Option Value → Hp → Prop) (l0 l1 l2 : Option Value) (x : Int32), Wp 101 45 (l0 :: l1 :: l2 :: some (.int x) :: ls) (st) h Q ↔ Wp 101 48 (l0 :: l1 :: clr l2 :: some (.int (x + (1))) :: ls) (st) h Q) ∧
  (∀ (ls : Lo) (st : List Value) (h : Hp) (Q : Option Value → Hp → Prop) (l0 l1 : Option Value) (i : Nat), Wp 101 48 (l0 :: l1 :: some (.ref i) :: ls) (st) h Q ↔ Wp 101 49 (l0 :: l1 :: some (.ref i) :: ls) (.ref i :: st) h Q) ∧
  (∀ (ls : Lo) (st : List Value) (n sl : Nat) (C Z : Nat → Nat) (I : Nat → Nat → Int32) (L : Nat → Nat → Int64) (R : Nat → Nat → Nat) (Q : Option Value → Hp → Prop) (i : Nat), Wp 101 49 (ls) (.ref i :: st) (n, sl, C, Z, I, L, R) Q ↔ (inG 7 (C i) = true ∧ Wp 101 52 (ls) (.ref (R i 3) :: st) (n, sl, C, Z, I, L, R) Q)) ∧
  (∀ (ls : Lo) (st : List Value) (h : Hp) (Q : Option Value → Hp → Prop), Wp 101 52 (ls) (st) h Q ↔ Wp 101 53 (ls) (.int (3) :: st) h Q) ∧
  (∀ (ls : Lo) (st : List Value) (h : Hp) (Q : Option Value → Hp → Prop) (l0 l1 l2 l3 l4 : Option Value) (x : Int32), Wp 101 53 (l0 :: l1 :: l2 :: l3 :: l4 :: some (.int x) :: ls) (st) h Q ↔ Wp 101 55 (l0 :: l1 :: l2 :: l3 :: l4 :: some (.int x) :: ls) (.int x :: st) h Q) ∧
  (∀ (ls : Lo) (st : List Value) (h : Hp) (Q : Option Value → Hp → Prop) (x y : Int32), Wp 101 55 (ls) (.int y :: .int x :: st) h Q ↔ Wp 101 56 (ls) (.int (x * y) :: st) h Q) ∧
  (∀ (ls : Lo) (st : List Value) (h : Hp) (Q : Option Value → Hp → Prop) (l0 l1 l2 l3 l4 l5 : Option Value) (x : Int32), Wp 101 56 (l0 :: l1 :: l2 :: l3 :: l4 :: l5 :: some (.int x) :: ls) (st) h Q ↔ Wp 101 58 (l0 :: l1 :: l2 :: l3 :: l4 :: l5 :: some (.int x) :: ls) (.int x :: st) h Q) ∧
  (∀ (ls : Lo) (st : List Value) (h : Hp) (Q : Option Value → Hp → Prop) (x y : Int32), Wp 101 58 (ls) (.int y :: .int x :: st) h Q ↔ Wp 101 59 (ls) (.int (x + y) :: st) h Q) ∧
  (∀ (ls : Lo) (st : List Value) (n sl : Nat) (C Z : Nat → Nat) (I : Nat → Nat → Int32) (L : Nat → Nat → Int64) (R : Nat → Nat → Nat) (Q : Option Value → Hp → Prop) (i : Nat) (y : Int32), Wp 101 59 (ls) (.int y :: .ref i :: st) (n, sl, C, Z, I, L, R) Q ↔ ((inb y (Z i) = true ∧ C i = 21) ∧ Wp 101 60 (ls) (.int (I i (ix y)) :: st) (n, sl, C, Z, I, L, R) Q)) ∧
  (∀ (ls : Lo) (st : List Value) (h : Hp) (Q : Option Value → Hp → Prop) (x : Int32), Wp 101 60 (ls) (.int x :: st) h Q ↔ Wp 101 61 (ls) (.long x.toInt64 :: st) h Q) ∧
  (∀ (ls : Lo) (st : List Value) (n sl : Nat) (C Z : Nat → Nat) (I : Nat → Nat → Int32) (L : Nat → Nat → Int64) (R : Nat → Nat → Nat) (Q : Option Value → Hp → Prop) (i : Nat) (y : Int32) (a : Int64), Wp 101 61 (ls) (.long a :: .int y :: .ref i :: st) (n, sl, C, Z, I, L, R) Q ↔ ((inb y (Z i) = true ∧ C i = 22) ∧ Wp 101 62 (ls) (st) (n, sl, C, Z, I, u2 L i (ix y) a, R) Q)) ∧
  (∀ (ls : Lo) (st : List Value) (h : Hp) (Q : Option Value → Hp → Prop) (l0 l1 l2 l3 l4 l5 : Option Value) (x : Int32), Wp 101 62 (l0 :: l1 :: l2 :: l3 :: l4 :: l5 :: some (.int x) :: ls) (st) h Q ↔ Wp 101 65 (l0 :: l1 :: l2 :: l3 :: l4 :: clr l5 :: some (.int (x + (1))) :: ls) (st) h Q) ∧
  (∀ (ls : Lo) (st : List Value) (h : Hp) (Q : Option Value → Hp → Prop), Wp 101 65 (ls) (st) h Q ↔ Wp 101 36 (ls) (st) h Q) ∧
  (∀ (ls : Lo) (st : List Value) (h : Hp) (Q : Option Value → Hp → Prop) (l0 l1 l2 l3 l4 : Option Value) (x : Int32), Wp 101 68 (l0 :: l1 :: l2 :: l3 :: l4 :: some (.int x) :: ls) (st) h Q ↔ Wp 101 71 (l0 :: l1 :: l2 :: l3 :: clr l4 :: some (.int (x + (1))) :: ls) (st) h Q) ∧
  (∀ (ls : Lo) (st : List Value) (h : Hp) (Q : Option Value → Hp → Prop), Wp 101 71 (ls) (st) h Q ↔ Wp 101 26 (ls) (st) h Q) ∧
  (∀ (ls : Lo) (st : List Value) (h : Hp) (Q : Option Value → Hp → Prop), Wp 101 74 (ls) (st) h Q ↔ Wp 101 75 (ls) (.int (0) :: st) h Q) ∧
  (∀ (ls : Lo) (st : List Value) (h : Hp) (Q : Option Value → Hp → Prop) (l0 l1 l2 l3 l4 l5 : Option Value) (x : Int32), Wp 101 75 (l0 :: l1 :: l2 :: l3 :: l4 :: l5 :: ls) (.int x :: st) h Q ↔ Wp 101 77 (l0 :: l1 :: l2 :: l3 :: clr l4 :: some (.int x) :: ls) (st) h Q) ∧
  (∀ (ls : Lo) (st : List Value) (h : Hp) (Q : Option Value → Hp → Prop) (l0 l1 l2 l3 l4 : Option Value) (x : Int32), Wp 101 77 (l0 :: l1 :: l2 :: l3 :: l4 :: some (.int x) :: ls) (st) h Q ↔ Wp 101 79 (l0 :: l1 :: l2 :: l3 :: l4 :: some (.int x) :: ls) (.int x :: st) h Q) ∧
  (∀ (ls : Lo) (st : List Value) (h : Hp) (Q : Option Value → Hp → Prop) (l0 l1 l2 l3 : Option Value) (x : Int32), Wp 101 79 (l0 :: l1 :: l2 :: l3 :: some (.int x) :: ls) (st) h Q ↔ Wp 101 81 (l0 :: l1 :: l2 :: l3 :: some (.int x) :: ls) (.int x :: st) h Q) ∧
  (∀ (ls : Lo) (st : List Value) (h : Hp) (Q : Option Value → Hp → Prop) (l0 l1 l2 l3 : Option Value) (x : Int32), Wp 101 81 (l0 :: l1 :: l2 :: l3 :: some (.int x) :: ls) (st) h Q ↔ Wp 101 83 (l0 :: l1 :: l2 :: l3 :: some (.int x) :: ls) (.int x :: st) h Q) ∧
  (∀ (ls : Lo) (st : List Value) (h : Hp) (Q : Option Value → Hp → Prop), Wp 101 83 (ls) (st) h Q ↔ Wp 101 84 (ls) (.int (1) :: st) h Q) ∧
  (∀ (ls : Lo) (st : List Value) (h : Hp) (Q : Option Value → Hp → Prop) (x y : Int32), Wp 101 84 (ls) (.int y :: .int x :: st) h Q ↔ Wp 101 85 (ls) (.int (x + y) :: st) h Q) ∧
  (∀ (ls : Lo) (st : List Value) (h : Hp) (Q : Option Value → Hp → Prop) (x y : Int32), Wp 101 85 (ls) (.int y :: .int x :: st) h Q ↔ Wp 101 86 (ls) (.int (x * y) :: st) h Q) ∧
  (∀ (ls : Lo) (st : List Value) (h : Hp) (Q : Option Value → Hp → Prop), Wp 101 86 (ls) (st) h Q ↔ Wp 101 87 (ls) (.int (2) :: st) h Q) := ⟨by intro ls st h Q l0 l1 l2 x; exact e_iload_n d101_44 rfl,
  by intro ls st h Q l0 l1 l2 x; exact e_iinc d101_45 rfl rfl rfl,
  by intro ls st h Q l0 l1 i; exact e_aload_n d101_48 rfl,
  by intro ls st n sl C Z I L R Q i; exact e_get (g := 7) (s := 3) (ty := 2) d101_49 rfl rfl rfl,
  by intro ls st h Q; exact e_iconst d101_52 rfl,
  by intro ls st h Q l0 l1 l2 l3 l4 x; exact e_iload d101_53 rfl,
  by intro ls st h Q x y; exact e_imul d101_55,
  by intro ls st h Q l0 l1 l2 l3 l4 l5 x; exact e_iload d101_56 rfl,
  by intro ls st h Q x y; exact e_iadd d101_58,
  by intro ls st n sl C Z I L R Q i y; exact e_iald d101_59,
  by intro ls st h Q x; exact e_i2l d101_60,
  by intro ls st n sl C Z I L R Q i y a; exact e_last d101_61,
  by intro ls st h Q l0 l1 l2 l3 l4 l5 x; exact e_iinc d101_62 rfl rfl rfl,
  by intro ls st h Q; exact e_goto d101_65 (by decide),
  by intro ls st h Q l0 l1 l2 l3 l4 x; exact e_iinc d101_68 rfl rfl rfl,
  by intro ls st h Q; exact e_goto d101_71 (by decide),
  by intro ls st h Q; exact e_iconst d101_74 rfl,
  by intro ls st h Q l0 l1 l2 l3 l4 l5 x; exact e_istore d101_75 rfl,
  by intro ls st h Q l0 l1 l2 l3 l4 x; exact e_iload d101_77 rfl,
  by intro ls st h Q l0 l1 l2 l3 x; exact e_iload d101_79 rfl,
  by intro ls st h Q l0 l1 l2 l3 x; exact e_iload d101_81 rfl,
  by intro ls st h Q; exact e_iconst d101_83 rfl,
  by intro ls st h Q x y; exact e_iadd d101_84,
  by intro ls st h Q x y; exact e_imul d101_85,
  by intro ls st h Q; exact e_iconst d101_86 rfl⟩
set_option maxRecDepth 20000 in
theorem S101_2 : (∀ (ls : Lo) (st : List Value) (h : Hp) (Q : Option Value → Hp → Prop) (x y : Int32), Wp 101 87 (ls) (.int y :: .int x :: st) h Q ↔ (¬ y = 0 ∧ Wp 101 88 (ls) (.int (x / y) :: st) h Q)) ∧
  (∀ (ls : Lo) (st : List Value) (h : Hp) (Q : Option Value → Hp → Prop) (x y : Int32), Wp 101 88 (ls) (.int y :: .int x :: st) h Q ↔ Br 101 136 91 ls st h Q (y ≤ x)) ∧
  (∀ (ls : Lo) (st : List Value) (h : Hp) (Q : Option Value → Hp → Prop)  (i : Nat), Wp 101 91 (some (.ref i) :: ls) (st) h Q ↔ Wp 101 92 (some (.ref i) :: ls) (.ref i :: st) h Q) ∧
  (∀ (ls : Lo) (st : List Value) (n sl : Nat) (C Z : Nat → Nat) (I : Nat → Nat → Int32) (L : Nat → Nat → Int64) (R : Nat → Nat → Nat) (Q : Option Value → Hp → Prop) (i : Nat), Wp 101 92 (ls) (.ref i :: st) (n, sl, C, Z, I, L, R) Q ↔ (C i = 10 ∧ Wp 101 95 (ls) (.ref (R i 9) :: st) (n, sl, C, Z, I, L, R) Q)) ∧
  (∀ (ls : Lo) (st : List Value) (h : Hp) (Q : Option Value → Hp → Prop)  (i : Nat), Wp 101 95 (some (.ref i) :: ls) (st) h Q ↔ Wp 101 96 (some (.ref i) :: ls) (.ref i :: st) h Q) ∧
  (∀ (ls : Lo) (st : List Value) (n sl : Nat) (C Z : Nat → Nat) (I : Nat → Nat → Int32) (L : Nat → Nat → Int64) (R : Nat → Nat → Nat) (Q : Option Value → Hp → Prop) (i : Nat), Wp 101 96 (ls) (.ref i :: st) (n, sl, C, Z, I, L, R) Q ↔ (C i = 10 ∧ Wp 101 99 (ls) (.ref (R i 10) :: st) (n, sl, C, Z, I, L, R) Q)) ∧
  (∀ (ls : Lo) (st : List Value) (h : Hp) (Q : Option Value → Hp → Prop) (l0 l1 l2 l3 l4 : Option Value) (x : Int32), Wp 101 99 (l0 :: l1 :: l2 :: l3 :: l4 :: some (.int x) :: ls) (st) h Q ↔ Wp 101 101 (l0 :: l1 :: l2 :: l3 :: l4 :: some (.int x) :: ls) (.int x :: st) h Q) ∧
  (∀ (ls : Lo) (st : List Value) (n sl : Nat) (C Z : Nat → Nat) (I : Nat → Nat → Int32) (L : Nat → Nat → Int64) (R : Nat → Nat → Nat) (Q : Option Value → Hp → Prop) (x0 : Nat) (x1 : Int32) (i : Nat), C i = 1 → (Wp 101 101 (ls) (.int x1 :: .ref x0 :: .ref i :: st) (n, sl, C, Z, I, L, R) Q ↔ (wsum st ≤ 8 ∧ Call 7 [some (.ref i), some (.ref x0), some (.int x1)] (n, sl, C, Z, I, L, R) 101 104 ls st Q))) ∧
  (∀ (ls : Lo) (st : List Value) (h : Hp) (Q : Option Value → Hp → Prop) (l0 : Option Value) (i : Nat), Wp 101 104 (l0 :: some (.ref i) :: ls) (st) h Q ↔ Wp 101 105 (l0 :: some (.ref i) :: ls) (.ref i :: st) h Q) ∧
  (∀ (ls : Lo) (st : List Value) (h : Hp) (Q : Option Value → Hp → Prop) (l0 l1 l2 : Option Value) (x : Int32), Wp 101 105 (l0 :: l1 :: l2 :: some (.int x) :: ls) (st) h Q ↔ Wp 101 106 (l0 :: l1 :: l2 :: some (.int x) :: ls) (.int x :: st) h Q) ∧
  (∀ (ls : Lo) (st : List Value) (h : Hp) (Q : Option Value → Hp → Prop) (l0 l1 l2 : Option Value) (x : Int32), Wp 101 106 (l0 :: l1 :: l2 :: some (.int x) :: ls) (st) h Q ↔ Wp 101 109 (l0 :: l1 :: clr l2 :: some (.int (x + (1))) :: ls) (st) h Q) ∧
  (∀ (ls : Lo) (st : List Value) (h : Hp) (Q : Option Value → Hp → Prop)  (i : Nat), Wp 101 109 (some (.ref i) :: ls) (st) h Q ↔ Wp 101 110 (some (.ref i) :: ls) (.ref i :: st) h Q) ∧
  (∀ (ls : Lo) (st : List Value) (n sl : Nat) (C Z : Nat → Nat) (I : Nat → Nat → Int32) (L : Nat → Nat → Int64) (R : Nat → Nat → Nat) (Q : Option Value → Hp → Prop) (i : Nat), Wp 101 110 (ls) (.ref i :: st) (n, sl, C, Z, I, L, R) Q ↔ (C i = 10 ∧ Wp 101 113 (ls) (.ref (R i 10) :: st) (n, sl, C, Z, I, L, R) Q)) ∧
  (∀ (ls : Lo) (st : List Value) (n sl : Nat) (C Z : Nat → Nat) (I : Nat → Nat → Int32) (L : Nat → Nat → Int64) (R : Nat → Nat → Nat) (Q : Option Value → Hp → Prop) (i : Nat), Wp 101 113 (ls) (.ref i :: st) (n, sl, C, Z, I, L, R) Q ↔ (C i = 3 ∧ Wp 101 116 (ls) (.long (L i 0) :: st) (n, sl, C, Z, I, L, R) Q)) ∧
  (∀ (ls : Lo) (st : List Value) (n sl : Nat) (C Z : Nat → Nat) (I : Nat → Nat → Int32) (L : Nat → Nat → Int64) (R : Nat → Nat → Nat) (Q : Option Value → Hp → Prop) (i : Nat) (y : Int32) (a : Int64), Wp 101 116 (ls) (.long a :: .int y :: .ref i :: st) (n, sl, C, Z, I, L, R) Q ↔ ((inb y (Z i) = true ∧ C i = 22) ∧ Wp 101 117 (ls) (st) (n, sl, C, Z, I, u2 L i (ix y) a, R) Q)) ∧
  (∀ (ls : Lo) (st : List Value) (h : Hp) (Q : Option Value → Hp → Prop) (l0 : Option Value) (i : Nat), Wp 101 117 (l0 :: some (.ref i) :: ls) (st) h Q ↔ Wp 101 118 (l0 :: some (.ref i) :: ls) (.ref i :: st) h Q) ∧
  (∀ (ls : Lo) (st : List Value) (h : Hp) (Q : Option Value → Hp → Prop) (l0 l1 l2 : Option Value) (x : Int32), Wp 101 118 (l0 :: l1 :: l2 :: some (.int x) :: ls) (st) h Q ↔ Wp 101 119 (l0 :: l1 :: l2 :: some (.int x) :: ls) (.int x :: st) h Q) ∧
  (∀ (ls : Lo) (st : List Value) (h : Hp) (Q : Option Value → Hp → Prop) (l0 l1 l2 : Option Value) (x : Int32), Wp 101 119 (l0 :: l1 :: l2 :: some (.int x) :: ls) (st) h Q ↔ Wp 101 122 (l0 :: l1 :: clr l2 :: some (.int (x + (1))) :: ls) (st) h Q) ∧
  (∀ (ls : Lo) (st : List Value) (h : Hp) (Q : Option Value → Hp → Prop)  (i : Nat), Wp 101 122 (some (.ref i) :: ls) (st) h Q ↔ Wp 101 123 (some (.ref i) :: ls) (.ref i :: st) h Q) ∧
  (∀ (ls : Lo) (st : List Value) (n sl : Nat) (C Z : Nat → Nat) (I : Nat → Nat → Int32) (L : Nat → Nat → Int64) (R : Nat → Nat → Nat) (Q : Option Value → Hp → Prop) (i : Nat), Wp 101 123 (ls) (.ref i :: st) (n, sl, C, Z, I, L, R) Q ↔ (C i = 10 ∧ Wp 101 126 (ls) (.ref (R i 10) :: st) (n, sl, C, Z, I, L, R) Q)) ∧
  (∀ (ls : Lo) (st : List Value) (n sl : Nat) (C Z : Nat → Nat) (I : Nat → Nat → Int32) (L : Nat → Nat → Int64) (R : Nat → Nat → Nat) (Q : Option Value → Hp → Prop) (i : Nat), Wp 101 126 (ls) (.ref i :: st) (n, sl, C, Z, I, L, R) Q ↔ (C i = 3 ∧ Wp 101 129 (ls) (.long (L i 1) :: st) (n, sl, C, Z, I, L, R) Q)) ∧
  (∀ (ls : Lo) (st : List Value) (n sl : Nat) (C Z : Nat → Nat) (I : Nat → Nat → Int32) (L : Nat → Nat → Int64) (R : Nat → Nat → Nat) (Q : Option Value → Hp → Prop) (i : Nat) (y : Int32) (a : Int64), Wp 101 129 (ls) (.long a :: .int y :: .ref i :: st) (n, sl, C, Z, I, L, R) Q ↔ ((inb y (Z i) = true ∧ C i = 22) ∧ Wp 101 130 (ls) (st) (n, sl, C, Z, I, u2 L i (ix y) a, R) Q)) ∧
  (∀ (ls : Lo) (st : List Value) (h : Hp) (Q : Option Value → Hp → Prop) (l0 l1 l2 l3 l4 : Option Value) (x : Int32), Wp 101 130 (l0 :: l1 :: l2 :: l3 :: l4 :: some (.int x) :: ls) (st) h Q ↔ Wp 101 133 (l0 :: l1 :: l2 :: l3 :: clr l4 :: some (.int (x + (1))) :: ls) (st) h Q) ∧
  (∀ (ls : Lo) (st : List Value) (h : Hp) (Q : Option Value → Hp → Prop), Wp 101 133 (ls) (st) h Q ↔ Wp 101 77 (ls) (st) h Q) ∧
  (∀ (ls : Lo) (st : List Value) (h : Hp) (Q : Option Value → Hp → Prop) (l0 l1 l2 : Option Value) (x : Int32), Wp 101 136 (l0 :: l1 :: l2 :: some (.int x) :: ls) (st) h Q ↔ Wp 101 137 (l0 :: l1 :: l2 :: some (.int x) :: ls) (.int x :: st) h Q) := ⟨by intro ls st h Q x y; exact e_idiv d101_87,
  by intro ls st h Q x y; exact e_ic d101_88 (by decide) c_ge,
  by intro ls st h Q i; exact e_aload_n d101_91 rfl,
  by intro ls st n sl C Z I L R Q i; exact e_get (g := 9) (s := 9) (ty := 2) d101_92 rfl rfl (inG_ne (by decide)),
  by intro ls st h Q i; exact e_aload_n d101_95 rfl,
  by intro ls st n sl C Z I L R Q i; exact e_get (g := 9) (s := 10) (ty := 2) d101_96 rfl rfl (inG_ne (by decide)),
  by intro ls st h Q l0 l1 l2 l3 l4 x; exact e_iload d101_99 rfl,
  by intro ls st n sl C Z I L R Q x0 x1 i hh; exact e_iv (k2 := 7) (c := 1) (as := [.ref x0, .int x1]) d101_101 rfl (by decide) rfl rfl (by decide +kernel) (Nat.le_of_ble_eq_true rfl) rfl hh,
  by intro ls st h Q l0 i; exact e_aload_n d101_104 rfl,
  by intro ls st h Q l0 l1 l2 x; exact e_iload_n d101_105 rfl,
  by intro ls st h Q l0 l1 l2 x; exact e_iinc d101_106 rfl rfl rfl,
  by intro ls st h Q i; exact e_aload_n d101_109 rfl,
  by intro ls st n sl C Z I L R Q i; exact e_get (g := 9) (s := 10) (ty := 2) d101_110 rfl rfl (inG_ne (by decide)),
  by intro ls st n sl C Z I L R Q i; exact e_get (g := 2) (s := 0) (ty := 1) d101_113 rfl rfl (inG_ne (by decide)),
  by intro ls st n sl C Z I L R Q i y a; exact e_last d101_116,
  by intro ls st h Q l0 i; exact e_aload_n d101_117 rfl,
  by intro ls st h Q l0 l1 l2 x; exact e_iload_n d101_118 rfl,
  by intro ls st h Q l0 l1 l2 x; exact e_iinc d101_119 rfl rfl rfl,
  by intro ls st h Q i; exact e_aload_n d101_122 rfl,
  by intro ls st n sl C Z I L R Q i; exact e_get (g := 9) (s := 10) (ty := 2) d101_123 rfl rfl (inG_ne (by decide)),
  by intro ls st n sl C Z I L R Q i; exact e_get (g := 2) (s := 1) (ty := 1) d101_126 rfl rfl (inG_ne (by decide)),
  by intro ls st n sl C Z I L R Q i y a; exact e_last d101_129,
  by intro ls st h Q l0 l1 l2 l3 l4 x; exact e_iinc d101_130 rfl rfl rfl,
  by intro ls st h Q; exact e_goto d101_133 (by decide),
  by intro ls st h Q l0 l1 l2 x; exact e_iload_n d101_136 rfl⟩
theorem S101_3 : ∀ (ls : Lo) (h : Hp) (Q : Option Value → Hp → Prop) (x : Int32), Wp 101 137 (ls) ([.int x]) h Q ↔ Q (some (.int x)) h := by intros; exact e_rI (p := True) d101_137 rfl
theorem d102_0 : decode (byt 102) 0 = .ok (.aload_n 0, 1) := by decide +kernel
theorem d102_1 : decode (byt 102) 1 = .ok (.invokespecial 1, 3) := by decide +kernel
theorem d102_4 : decode (byt 102) 4 = .ok (.aload_n 0, 1) := by decide +kernel
theorem d102_5 : decode (byt 102) 5 = .ok (.bipush 12, 2) := by decide +kernel
theorem d102_7 : decode (byt 102) 7 = .ok (.newarray .int, 2) := by decide +kernel
theorem d102_9 : decode (byt 102) 9 = .ok (.putfield 7, 3) := by decide +kernel
theorem d102_12 : decode (byt 102) 12 = .ok (.aload_n 0, 1) := by decide +kernel
theorem d102_13 : decode (byt 102) 13 = .ok (.bipush 12, 2) := by decide +kernel
theorem d102_15 : decode (byt 102) 15 = .ok (.newarray .int, 2) := by decide +kernel
theorem d102_17 : decode (byt 102) 17 = .ok (.putfield 13, 3) := by decide +kernel
theorem d102_20 : decode (byt 102) 20 = .ok (.aload_n 0, 1) := by decide +kernel
theorem d102_21 : decode (byt 102) 21 = .ok (.bipush 12, 2) := by decide +kernel
theorem d102_23 : decode (byt 102) 23 = .ok (.newarray .int, 2) := by decide +kernel
theorem d102_25 : decode (byt 102) 25 = .ok (.putfield 16, 3) := by decide +kernel
theorem d102_28 : decode (byt 102) 28 = .ok (.aload_n 0, 1) := by decide +kernel
theorem d102_29 : decode (byt 102) 29 = .ok (.bipush 12, 2) := by decide +kernel
theorem d102_31 : decode (byt 102) 31 = .ok (.newarray .int, 2) := by decide +kernel
theorem d102_33 : decode (byt 102) 33 = .ok (.putfield 19, 3) := by decide +kernel
theorem d102_36 : decode (byt 102) 36 = .ok (.aload_n 0, 1) := by decide +kernel
theorem d102_37 : decode (byt 102) 37 = .ok (.bipush 108, 2) := by decide +kernel
theorem d102_39 : decode (byt 102) 39 = .ok (.newarray .int, 2) := by decide +kernel
theorem d102_41 : decode (byt 102) 41 = .ok (.putfield 22, 3) := by decide +kernel
theorem d102_44 : decode (byt 102) 44 = .ok (.aload_n 0, 1) := by decide +kernel
theorem d102_45 : decode (byt 102) 45 = .ok (.bipush 36, 2) := by decide +kernel
theorem d102_47 : decode (byt 102) 47 = .ok (.newarray .int, 2) := by decide +kernel
theorem d102_49 : decode (byt 102) 49 = .ok (.putfield 25, 3) := by decide +kernel
theorem d102_52 : decode (byt 102) 52 = .ok (.aload_n 0, 1) := by decide +kernel
theorem d102_53 : decode (byt 102) 53 = .ok (.bipush 36, 2) := by decide +kernel
theorem d102_55 : decode (byt 102) 55 = .ok (.newarray .int, 2) := by decide +kernel
theorem d102_57 : decode (byt 102) 57 = .ok (.putfield 28, 3) := by decide +kernel
theorem d102_60 : decode (byt 102) 60 = .ok (.aload_n 0, 1) := by decide +kernel
theorem d102_61 : decode (byt 102) 61 = .ok (.bipush 9, 2) := by decide +kernel
theorem d102_63 : decode (byt 102) 63 = .ok (.newarray .int, 2) := by decide +kernel
theorem d102_65 : decode (byt 102) 65 = .ok (.putfield 31, 3) := by decide +kernel
theorem d102_68 : decode (byt 102) 68 = .ok (.aload_n 0, 1) := by decide +kernel
theorem d102_69 : decode (byt 102) 69 = .ok (.iconst 3, 1) := by decide +kernel
theorem d102_70 : decode (byt 102) 70 = .ok (.newarray .int, 2) := by decide +kernel
theorem d102_72 : decode (byt 102) 72 = .ok (.putfield 34, 3) := by decide +kernel
theorem d102_75 : decode (byt 102) 75 = .ok (.aload_n 0, 1) := by decide +kernel
theorem d102_76 : decode (byt 102) 76 = .ok (.iconst 3, 1) := by decide +kernel
theorem d102_77 : decode (byt 102) 77 = .ok (.newarray .int, 2) := by decide +kernel
theorem d102_79 : decode (byt 102) 79 = .ok (.putfield 37, 3) := by decide +kernel
theorem d102_82 : decode (byt 102) 82 = .ok (.aload_n 0, 1) := by decide +kernel
theorem d102_83 : decode (byt 102) 83 = .ok (.bipush 12, 2) := by decide +kernel
theorem d102_85 : decode (byt 102) 85 = .ok (.newarray .long, 2) := by decide +kernel
theorem d102_87 : decode (byt 102) 87 = .ok (.putfield 40, 3) := by decide +kernel
theorem d102_90 : decode (byt 102) 90 = .ok (.aload_n 0, 1) := by decide +kernel
theorem d102_91 : decode (byt 102) 91 = .ok (.bipush 12, 2) := by decide +kernel
theorem d102_93 : decode (byt 102) 93 = .ok (.newarray .long, 2) := by decide +kernel
theorem d102_95 : decode (byt 102) 95 = .ok (.putfield 44, 3) := by decide +kernel
theorem d102_98 : decode (byt 102) 98 = .ok (.aload_n 0, 1) := by decide +kernel
theorem d102_99 : decode (byt 102) 99 = .ok (.iconst 4, 1) := by decide +kernel
theorem d102_100 : decode (byt 102) 100 = .ok (.newarray .int, 2) := by decide +kernel
theorem d102_102 : decode (byt 102) 102 = .ok (.putfield 47, 3) := by decide +kernel
theorem d102_105 : decode (byt 102) 105 = .ok (.aload_n 0, 1) := by decide +kernel
theorem d102_106 : decode (byt 102) 106 = .ok (.iconst 4, 1) := by decide +kernel
theorem d102_107 : decode (byt 102) 107 = .ok (.newarray .int, 2) := by decide +kernel
theorem d102_109 : decode (byt 102) 109 = .ok (.putfield 50, 3) := by decide +kernel
theorem d102_112 : decode (byt 102) 112 = .ok (.aload_n 0, 1) := by decide +kernel
theorem d102_113 : decode (byt 102) 113 = .ok (.sipush 160, 3) := by decide +kernel
theorem d102_116 : decode (byt 102) 116 = .ok (.newarray .long, 2) := by decide +kernel
theorem d102_118 : decode (byt 102) 118 = .ok (.putfield 53, 3) := by decide +kernel
theorem d102_121 : decode (byt 102) 121 = .ok (.aload_n 0, 1) := by decide +kernel
theorem d102_122 : decode (byt 102) 122 = .ok (.bipush 40, 2) := by decide +kernel
theorem d102_124 : decode (byt 102) 124 = .ok (.newarray .long, 2) := by decide +kernel
theorem d102_126 : decode (byt 102) 126 = .ok (.putfield 56, 3) := by decide +kernel
theorem d102_129 : decode (byt 102) 129 = .ok (.aload_n 0, 1) := by decide +kernel
theorem d102_130 : decode (byt 102) 130 = .ok (.bipush 40, 2) := by decide +kernel
theorem d102_132 : decode (byt 102) 132 = .ok (.newarray .int, 2) := by decide +kernel
theorem d102_134 : decode (byt 102) 134 = .ok (.putfield 59, 3) := by decide +kernel
theorem d102_137 : decode (byt 102) 137 = .ok (.aload_n 0, 1) := by decide +kernel
theorem d102_138 : decode (byt 102) 138 = .ok (.iconst 4, 1) := by decide +kernel
theorem d102_139 : decode (byt 102) 139 = .ok (.newarray .long, 2) := by decide +kernel
theorem d102_141 : decode (byt 102) 141 = .ok (.putfield 62, 3) := by decide +kernel
theorem d102_144 : decode (byt 102) 144 = .ok (.aload_n 0, 1) := by decide +kernel
theorem d102_145 : decode (byt 102) 145 = .ok (.iconst 5, 1) := by decide +kernel
theorem d102_146 : decode (byt 102) 146 = .ok (.newarray .long, 2) := by decide +kernel
theorem d102_148 : decode (byt 102) 148 = .ok (.putfield 65, 3) := by decide +kernel
theorem d102_151 : decode (byt 102) 151 = .ok (.aload_n 0, 1) := by decide +kernel
theorem d102_152 : decode (byt 102) 152 = .ok (.iconst 5, 1) := by decide +kernel
theorem d102_153 : decode (byt 102) 153 = .ok (.newarray .long, 2) := by decide +kernel
theorem d102_155 : decode (byt 102) 155 = .ok (.putfield 68, 3) := by decide +kernel
theorem d102_158 : decode (byt 102) 158 = .ok (.aload_n 0, 1) := by decide +kernel
theorem d102_159 : decode (byt 102) 159 = .ok (.bipush 12, 2) := by decide +kernel
theorem d102_161 : decode (byt 102) 161 = .ok (.newarray .long, 2) := by decide +kernel
theorem d102_163 : decode (byt 102) 163 = .ok (.putfield 71, 3) := by decide +kernel
theorem d102_166 : decode (byt 102) 166 = .ok (.aload_n 0, 1) := by decide +kernel
theorem d102_167 : decode (byt 102) 167 = .ok (.bipush 12, 2) := by decide +kernel
theorem d102_169 : decode (byt 102) 169 = .ok (.newarray .long, 2) := by decide +kernel
theorem d102_171 : decode (byt 102) 171 = .ok (.putfield 74, 3) := by decide +kernel
theorem d102_174 : decode (byt 102) 174 = .ok (.aload_n 0, 1) := by decide +kernel
theorem d102_175 : decode (byt 102) 175 = .ok (.iconst 3, 1) := by decide +kernel
theorem d102_176 : decode (byt 102) 176 = .ok (.newarray .long, 2) := by decide +kernel
theorem d102_178 : decode (byt 102) 178 = .ok (.putfield 77, 3) := by decide +kernel
theorem d102_181 : decode (byt 102) 181 = .ok (.aload_n 0, 1) := by decide +kernel
theorem d102_182 : decode (byt 102) 182 = .ok (.iconst 3, 1) := by decide +kernel
theorem d102_183 : decode (byt 102) 183 = .ok (.newarray .long, 2) := by decide +kernel
theorem d102_185 : decode (byt 102) 185 = .ok (.putfield 80, 3) := by decide +kernel
theorem d102_188 : decode (byt 102) 188 = .ok (.iconst 0, 1) := by decide +kernel
theorem d102_189 : decode (byt 102) 189 = .ok (.istore_n 1, 1) := by decide +kernel
theorem d102_190 : decode (byt 102) 190 = .ok (.iload_n 1, 1) := by decide +kernel
theorem d102_191 : decode (byt 102) 191 = .ok (.iconst 4, 1) := by decide +kernel
theorem d102_192 : decode (byt 102) 192 = .ok (.if_icmp .ge 16, 3) := by decide +kernel
theorem d102_195 : decode (byt 102) 195 = .ok (.aload_n 0, 1) := by decide +kernel
theorem d102_196 : decode (byt 102) 196 = .ok (.getfield 47, 3) := by decide +kernel
theorem d102_199 : decode (byt 102) 199 = .ok (.iload_n 1, 1) := by decide +kernel
theorem d102_200 : decode (byt 102) 200 = .ok (.iconst (-1), 1) := by decide +kernel
theorem d102_201 : decode (byt 102) 201 = .ok (.iastore, 1) := by decide +kernel
theorem d102_202 : decode (byt 102) 202 = .ok (.iinc 1 1, 3) := by decide +kernel
theorem d102_205 : decode (byt 102) 205 = .ok (.goto (-15), 3) := by decide +kernel
theorem d102_208 : decode (byt 102) 208 = .ok (.return_, 1) := by decide +kernel
set_option maxRecDepth 20000 in
theorem S102_0 : (∀ (ls : Lo) (st : List Value) (h : Hp) (Q : Option Value → Hp → Prop)  (i : Nat), Wp 102 0 (some (.ref i) :: ls) (st) h Q ↔ Wp 102 1 (some (.ref i) :: ls) (.ref i :: st) h Q) ∧
  (∀ (ls : Lo) (st : List Value) (h : Hp) (Q : Option Value → Hp → Prop) (i : Nat), Wp 102 1 (ls) (.ref i :: st) h Q ↔ ((wsum st ≤ 8 ∧ i ≠ 0) ∧ Wp 102 4 (ls) (st) h Q)) ∧
  (∀ (ls : Lo) (st : List Value) (h : Hp) (Q : Option Value → Hp → Prop)  (i : Nat), Wp 102 4 (some (.ref i) :: ls) (st) h Q ↔ Wp 102 5 (some (.ref i) :: ls) (.ref i :: st) h Q) ∧
  (∀ (ls : Lo) (st : List Value) (h : Hp) (Q : Option Value → Hp → Prop), Wp 102 5 (ls) (st) h Q ↔ Wp 102 7 (ls) (.int (12) :: st) h Q) ∧
  (∀ (ls : Lo) (st : List Value) (n sl : Nat) (C Z : Nat → Nat) (I : Nat → Nat → Int32) (L : Nat → Nat → Int64) (R : Nat → Nat → Nat) (Q : Option Value → Hp → Prop) (x : Int32), Wp 102 7 (ls) (.int x :: st) (n, sl, C, Z, I, L, R) Q ↔ ((¬ x < 0 ∧ ix x ≤ 1000) ∧ Wp 102 9 (ls) (.ref (n + 1) :: st) (n + 1, sl + ix x, va_up C (n + 1) 21, va_up Z (n + 1) (ix x), va_up I (n + 1) (fun _ => 0), va_up L (n + 1) (fun _ => 0), va_up R (n + 1) (fun _ => 0)) Q)) ∧
  (∀ (ls : Lo) (st : List Value) (n sl : Nat) (C Z : Nat → Nat) (I : Nat → Nat → Int32) (L : Nat → Nat → Int64) (R : Nat → Nat → Nat) (Q : Option Value → Hp → Prop) (i j : Nat), Wp 102 9 (ls) (.ref j :: .ref i :: st) (n, sl, C, Z, I, L, R) Q ↔ (C i = 11 ∧ Wp 102 12 (ls) (st) (n, sl, C, Z, I, L, u2 R i 1 j) Q)) ∧
  (∀ (ls : Lo) (st : List Value) (h : Hp) (Q : Option Value → Hp → Prop)  (i : Nat), Wp 102 12 (some (.ref i) :: ls) (st) h Q ↔ Wp 102 13 (some (.ref i) :: ls) (.ref i :: st) h Q) ∧
  (∀ (ls : Lo) (st : List Value) (h : Hp) (Q : Option Value → Hp → Prop), Wp 102 13 (ls) (st) h Q ↔ Wp 102 15 (ls) (.int (12) :: st) h Q) ∧
  (∀ (ls : Lo) (st : List Value) (n sl : Nat) (C Z : Nat → Nat) (I : Nat → Nat → Int32) (L : Nat → Nat → Int64) (R : Nat → Nat → Nat) (Q : Option Value → Hp → Prop) (x : Int32), Wp 102 15 (ls) (.int x :: st) (n, sl, C, Z, I, L, R) Q ↔ ((¬ x < 0 ∧ ix x ≤ 1000) ∧ Wp 102 17 (ls) (.ref (n + 1) :: st) (n + 1, sl + ix x, va_up C (n + 1) 21, va_up Z (n + 1) (ix x), va_up I (n + 1) (fun _ => 0), va_up L (n + 1) (fun _ => 0), va_up R (n + 1) (fun _ => 0)) Q)) ∧
  (∀ (ls : Lo) (st : List Value) (n sl : Nat) (C Z : Nat → Nat) (I : Nat → Nat → Int32) (L : Nat → Nat → Int64) (R : Nat → Nat → Nat) (Q : Option Value → Hp → Prop) (i j : Nat), Wp 102 17 (ls) (.ref j :: .ref i :: st) (n, sl, C, Z, I, L, R) Q ↔ (C i = 11 ∧ Wp 102 20 (ls) (st) (n, sl, C, Z, I, L, u2 R i 2 j) Q)) ∧
  (∀ (ls : Lo) (st : List Value) (h : Hp) (Q : Option Value → Hp → Prop)  (i : Nat), Wp 102 20 (some (.ref i) :: ls) (st) h Q ↔ Wp 102 21 (some (.ref i) :: ls) (.ref i :: st) h Q) ∧
  (∀ (ls : Lo) (st : List Value) (h : Hp) (Q : Option Value → Hp → Prop), Wp 102 21 (ls) (st) h Q ↔ Wp 102 23 (ls) (.int (12) :: st) h Q) ∧
  (∀ (ls : Lo) (st : List Value) (n sl : Nat) (C Z : Nat → Nat) (I : Nat → Nat → Int32) (L : Nat → Nat → Int64) (R : Nat → Nat → Nat) (Q : Option Value → Hp → Prop) (x : Int32), Wp 102 23 (ls) (.int x :: st) (n, sl, C, Z, I, L, R) Q ↔ ((¬ x < 0 ∧ ix x ≤ 1000) ∧ Wp 102 25 (ls) (.ref (n + 1) :: st) (n + 1, sl + ix x, va_up C (n + 1) 21, va_up Z (n + 1) (ix x), va_up I (n + 1) (fun _ => 0), va_up L (n + 1) (fun _ => 0), va_up R (n + 1) (fun _ => 0)) Q)) ∧
  (∀ (ls : Lo) (st : List Value) (n sl : Nat) (C Z : Nat → Nat) (I : Nat → Nat → Int32) (L : Nat → Nat → Int64) (R : Nat → Nat → Nat) (Q : Option Value → Hp → Prop) (i j : Nat), Wp 102 25 (ls) (.ref j :: .ref i :: st) (n, sl, C, Z, I, L, R) Q ↔ (C i = 11 ∧ Wp 102 28 (ls) (st) (n, sl, C, Z, I, L, u2 R i 3 j) Q)) ∧
  (∀ (ls : Lo) (st : List Value) (h : Hp) (Q : Option Value → Hp → Prop)  (i : Nat), Wp 102 28 (some (.ref i) :: ls) (st) h Q ↔ Wp 102 29 (some (.ref i) :: ls) (.ref i :: st) h Q) ∧
  (∀ (ls : Lo) (st : List Value) (h : Hp) (Q : Option Value → Hp → Prop), Wp 102 29 (ls) (st) h Q ↔ Wp 102 31 (ls) (.int (12) :: st) h Q) ∧
  (∀ (ls : Lo) (st : List Value) (n sl : Nat) (C Z : Nat → Nat) (I : Nat → Nat → Int32) (L : Nat → Nat → Int64) (R : Nat → Nat → Nat) (Q : Option Value → Hp → Prop) (x : Int32), Wp 102 31 (ls) (.int x :: st) (n, sl, C, Z, I, L, R) Q ↔ ((¬ x < 0 ∧ ix x ≤ 1000) ∧ Wp 102 33 (ls) (.ref (n + 1) :: st) (n + 1, sl + ix x, va_up C (n + 1) 21, va_up Z (n + 1) (ix x), va_up I (n + 1) (fun _ => 0), va_up L (n + 1) (fun _ => 0), va_up R (n + 1) (fun _ => 0)) Q)) ∧
  (∀ (ls : Lo) (st : List Value) (n sl : Nat) (C Z : Nat → Nat) (I : Nat → Nat → Int32) (L : Nat → Nat → Int64) (R : Nat → Nat → Nat) (Q : Option Value → Hp → Prop) (i j : Nat), Wp 102 33 (ls) (.ref j :: .ref i :: st) (n, sl, C, Z, I, L, R) Q ↔ (C i = 11 ∧ Wp 102 36 (ls) (st) (n, sl, C, Z, I, L, u2 R i 4 j) Q)) ∧
  (∀ (ls : Lo) (st : List Value) (h : Hp) (Q : Option Value → Hp → Prop)  (i : Nat), Wp 102 36 (some (.ref i) :: ls) (st) h Q ↔ Wp 102 37 (some (.ref i) :: ls) (.ref i :: st) h Q) ∧
  (∀ (ls : Lo) (st : List Value) (h : Hp) (Q : Option Value → Hp → Prop), Wp 102 37 (ls) (st) h Q ↔ Wp 102 39 (ls) (.int (108) :: st) h Q) ∧
  (∀ (ls : Lo) (st : List Value) (n sl : Nat) (C Z : Nat → Nat) (I : Nat → Nat → Int32) (L : Nat → Nat → Int64) (R : Nat → Nat → Nat) (Q : Option Value → Hp → Prop) (x : Int32), Wp 102 39 (ls) (.int x :: st) (n, sl, C, Z, I, L, R) Q ↔ ((¬ x < 0 ∧ ix x ≤ 1000) ∧ Wp 102 41 (ls) (.ref (n + 1) :: st) (n + 1, sl + ix x, va_up C (n + 1) 21, va_up Z (n + 1) (ix x), va_up I (n + 1) (fun _ => 0), va_up L (n + 1) (fun _ => 0), va_up R (n + 1) (fun _ => 0)) Q)) ∧
  (∀ (ls : Lo) (st : List Value) (n sl : Nat) (C Z : Nat → Nat) (I : Nat → Nat → Int32) (L : Nat → Nat → Int64) (R : Nat → Nat → Nat) (Q : Option Value → Hp → Prop) (i j : Nat), Wp 102 41 (ls) (.ref j :: .ref i :: st) (n, sl, C, Z, I, L, R) Q ↔ (C i = 11 ∧ Wp 102 44 (ls) (st) (n, sl, C, Z, I, L, u2 R i 5 j) Q)) ∧
  (∀ (ls : Lo) (st : List Value) (h : Hp) (Q : Option Value → Hp → Prop)  (i : Nat), Wp 102 44 (some (.ref i) :: ls) (st) h Q ↔ Wp 102 45 (some (.ref i) :: ls) (.ref i :: st) h Q) ∧
  (∀ (ls : Lo) (st : List Value) (h : Hp) (Q : Option Value → Hp → Prop), Wp 102 45 (ls) (st) h Q ↔ Wp 102 47 (ls) (.int (36) :: st) h Q) ∧
  (∀ (ls : Lo) (st : List Value) (n sl : Nat) (C Z : Nat → Nat) (I : Nat → Nat → Int32) (L : Nat → Nat → Int64) (R : Nat → Nat → Nat) (Q : Option Value → Hp → Prop) (x : Int32), Wp 102 47 (ls) (.int x :: st) (n, sl, C, Z, I, L, R) Q ↔ ((¬ x < 0 ∧ ix x ≤ 1000) ∧ Wp 102 49 (ls) (.ref (n + 1) :: st) (n + 1, sl + ix x, va_up C (n + 1) 21, va_up Z (n + 1) (ix x), va_up I (n + 1) (fun _ => 0), va_up L (n + 1) (fun _ => 0), va_up R (n + 1) (fun _ => 0)) Q)) := ⟨by intro ls st h Q i; exact e_aload_n d102_0 rfl,
  by intro ls st h Q i; exact e_oi (na := 0) d102_1 rfl (by decide +kernel),
  by intro ls st h Q i; exact e_aload_n d102_4 rfl,
  by intro ls st h Q; exact e_bipush d102_5 rfl,
  by intro ls st n sl C Z I L R Q x; exact e_newI d102_7,
  by intro ls st n sl C Z I L R Q i j; exact e_putR (g := 10) (s := 1) d102_9 rfl (Or.inr ⟨by decide +kernel, rfl, rfl⟩) (inG_ne (by decide)),
  by intro ls st h Q i; exact e_aload_n d102_12 rfl,
  by intro ls st h Q; exact e_bipush d102_13 rfl,
  by intro ls st n sl C Z I L R Q x; exact e_newI d102_15,
  by intro ls st n sl C Z I L R Q i j; exact e_putR (g := 10) (s := 2) d102_17 rfl (Or.inr ⟨by decide +kernel, rfl, rfl⟩) (inG_ne (by decide)),
  by intro ls st h Q i; exact e_aload_n d102_20 rfl,
  by intro ls st h Q; exact e_bipush d102_21 rfl,
  by intro ls st n sl C Z I L R Q x; exact e_newI d102_23,
  by intro ls st n sl C Z I L R Q i j; exact e_putR (g := 10) (s := 3) d102_25 rfl (Or.inr ⟨by decide +kernel, rfl, rfl⟩) (inG_ne (by decide)),
  by intro ls st h Q i; exact e_aload_n d102_28 rfl,
  by intro ls st h Q; exact e_bipush d102_29 rfl,
  by intro ls st n sl C Z I L R Q x; exact e_newI d102_31,
  by intro ls st n sl C Z I L R Q i j; exact e_putR (g := 10) (s := 4) d102_33 rfl (Or.inr ⟨by decide +kernel, rfl, rfl⟩) (inG_ne (by decide)),
  by intro ls st h Q i; exact e_aload_n d102_36 rfl,
  by intro ls st h Q; exact e_bipush d102_37 rfl,
  by intro ls st n sl C Z I L R Q x; exact e_newI d102_39,
  by intro ls st n sl C Z I L R Q i j; exact e_putR (g := 10) (s := 5) d102_41 rfl (Or.inr ⟨by decide +kernel, rfl, rfl⟩) (inG_ne (by decide)),
  by intro ls st h Q i; exact e_aload_n d102_44 rfl,
  by intro ls st h Q; exact e_bipush d102_45 rfl,
  by intro ls st n sl C Z I L R Q x; exact e_newI d102_47⟩
set_option maxRecDepth 20000 in
theorem S102_1 : (∀ (ls : Lo) (st : List Value) (n sl : Nat) (C Z : Nat → Nat) (I : Nat → Nat → Int32) (L : Nat → Nat → Int64) (R : Nat → Nat → Nat) (Q : Option Value → Hp → Prop) (i j : Nat), Wp 102 49 (ls) (.ref j :: .ref i :: st) (n, sl, C, Z, I, L, R) Q ↔ (C i = 11 ∧ Wp 102 52 (ls) (st) (n, sl, C, Z, I, L, u2 R i 6 j) Q)) ∧
  (∀ (ls : Lo) (st : List Value) (h : Hp) (Q : Option Value → Hp → Prop)  (i : Nat), Wp 102 52 (some (.ref i) :: ls) (st) h Q ↔ Wp 102 53 (some (.ref i) :: ls) (.ref i :: st) h Q) ∧
  (∀ (ls : Lo) (st : List Value) (h : Hp) (Q : Option Value → Hp → Prop), Wp 102 53 (ls) (st) h Q ↔ Wp 102 55 (ls) (.int (36) :: st) h Q) ∧
  (∀ (ls : Lo) (st : List Value) (n sl : Nat) (C Z : Nat → Nat) (I : Nat → Nat → Int32) (L : Nat → Nat → Int64) (R : Nat → Nat → Nat) (Q : Option Value → Hp → Prop) (x : Int32), Wp 102 55 (ls) (.int x :: st) (n, sl, C, Z, I, L, R) Q ↔ ((¬ x < 0 ∧ ix x ≤ 1000) ∧ Wp 102 57 (ls) (.ref (n + 1) :: st) (n + 1, sl + ix x, va_up C (n + 1) 21, va_up Z (n + 1) (ix x), va_up I (n + 1) (fun _ => 0), va_up L (n + 1) (fun _ => 0), va_up R (n + 1) (fun _ => 0)) Q)) ∧
  (∀ (ls : Lo) (st : List Value) (n sl : Nat) (C Z : Nat → Nat) (I : Nat → Nat → Int32) (L : Nat → Nat → Int64) (R : Nat → Nat → Nat) (Q : Option Value → Hp → Prop) (i j : Nat), Wp 102 57 (ls) (.ref j :: .ref i :: st) (n, sl, C, Z, I, L, R) Q ↔ (C i = 11 ∧ Wp 102 60 (ls) (st) (n, sl, C, Z, I, L, u2 R i 7 j) Q)) ∧
  (∀ (ls : Lo) (st : List Value) (h : Hp) (Q : Option Value → Hp → Prop)  (i : Nat), Wp 102 60 (some (.ref i) :: ls) (st) h Q ↔ Wp 102 61 (some (.ref i) :: ls) (.ref i :: st) h Q) ∧
  (∀ (ls : Lo) (st : List Value) (h : Hp) (Q : Option Value → Hp → Prop), Wp 102 61 (ls) (st) h Q ↔ Wp 102 63 (ls) (.int (9) :: st) h Q) ∧
  (∀ (ls : Lo) (st : List Value) (n sl : Nat) (C Z : Nat → Nat) (I : Nat → Nat → Int32) (L : Nat → Nat → Int64) (R : Nat → Nat → Nat) (Q : Option Value → Hp → Prop) (x : Int32), Wp 102 63 (ls) (.int x :: st) (n, sl, C, Z, I, L, R) Q ↔ ((¬ x < 0 ∧ ix x ≤ 1000) ∧ Wp 102 65 (ls) (.ref (n + 1) :: st) (n + 1, sl + ix x, va_up C (n + 1) 21, va_up Z (n + 1) (ix x), va_up I (n + 1) (fun _ => 0), va_up L (n + 1) (fun _ => 0), va_up R (n + 1) (fun _ => 0)) Q)) ∧
  (∀ (ls : Lo) (st : List Value) (n sl : Nat) (C Z : Nat → Nat) (I : Nat → Nat → Int32) (L : Nat → Nat → Int64) (R : Nat → Nat → Nat) (Q : Option Value → Hp → Prop) (i j : Nat), Wp 102 65 (ls) (.ref j :: .ref i :: st) (n, sl, C, Z, I, L, R) Q ↔ (C i = 11 ∧ Wp 102 68 (ls) (st) (n, sl, C, Z, I, L, u2 R i 8 j) Q)) ∧
  (∀ (ls : Lo) (st : List Value) (h : Hp) (Q : Option Value → Hp → Prop)  (i : Nat), Wp 102 68 (some (.ref i) :: ls) (st) h Q ↔ Wp 102 69 (some (.ref i) :: ls) (.ref i :: st) h Q) ∧
  (∀ (ls : Lo) (st : List Value) (h : Hp) (Q : Option Value → Hp → Prop), Wp 102 69 (ls) (st) h Q ↔ Wp 102 70 (ls) (.int (3) :: st) h Q) ∧
  (∀ (ls : Lo) (st : List Value) (n sl : Nat) (C Z : Nat → Nat) (I : Nat → Nat → Int32) (L : Nat → Nat → Int64) (R : Nat → Nat → Nat) (Q : Option Value → Hp → Prop) (x : Int32), Wp 102 70 (ls) (.int x :: st) (n, sl, C, Z, I, L, R) Q ↔ ((¬ x < 0 ∧ ix x ≤ 1000) ∧ Wp 102 72 (ls) (.ref (n + 1) :: st) (n + 1, sl + ix x, va_up C (n + 1) 21, va_up Z (n + 1) (ix x), va_up I (n + 1) (fun _ => 0), va_up L (n + 1) (fun _ => 0), va_up R (n + 1) (fun _ => 0)) Q)) ∧
  (∀ (ls : Lo) (st : List Value) (n sl : Nat) (C Z : Nat → Nat) (I : Nat → Nat → Int32) (L : Nat → Nat → Int64) (R : Nat → Nat → Nat) (Q : Option Value → Hp → Prop) (i j : Nat), Wp 102 72 (ls) (.ref j :: .ref i :: st) (n, sl, C, Z, I, L, R) Q ↔ (C i = 11 ∧ Wp 102 75 (ls) (st) (n, sl, C, Z, I, L, u2 R i 9 j) Q)) ∧
  (∀ (ls : Lo) (st : List Value) (h : Hp) (Q : Option Value → Hp → Prop)  (i : Nat), Wp 102 75 (some (.ref i) :: ls) (st) h Q ↔ Wp 102 76 (some (.ref i) :: ls) (.ref i :: st) h Q) ∧
  (∀ (ls : Lo) (st : List Value) (h : Hp) (Q : Option Value → Hp → Prop), Wp 102 76 (ls) (st) h Q ↔ Wp 102 77 (ls) (.int (3) :: st) h Q) ∧
  (∀ (ls : Lo) (st : List Value) (n sl : Nat) (C Z : Nat → Nat) (I : Nat → Nat → Int32) (L : Nat → Nat → Int64) (R : Nat → Nat → Nat) (Q : Option Value → Hp → Prop) (x : Int32), Wp 102 77 (ls) (.int x :: st) (n, sl, C, Z, I, L, R) Q ↔ ((¬ x < 0 ∧ ix x ≤ 1000) ∧ Wp 102 79 (ls) (.ref (n + 1) :: st) (n + 1, sl + ix x, va_up C (n + 1) 21, va_up Z (n + 1) (ix x), va_up I (n + 1) (fun _ => 0), va_up L (n + 1) (fun _ => 0), va_up R (n + 1) (fun _ => 0)) Q)) ∧
  (∀ (ls : Lo) (st : List Value) (n sl : Nat) (C Z : Nat → Nat) (I : Nat → Nat → Int32) (L : Nat → Nat → Int64) (R : Nat → Nat → Nat) (Q : Option Value → Hp → Prop) (i j : Nat), Wp 102 79 (ls) (.ref j :: .ref i :: st) (n, sl, C, Z, I, L, R) Q ↔ (C i = 11 ∧ Wp 102 82 (ls) (st) (n, sl, C, Z, I, L, u2 R i 10 j) Q)) ∧
  (∀ (ls : Lo) (st : List Value) (h : Hp) (Q : Option Value → Hp → Prop)  (i : Nat), Wp 102 82 (some (.ref i) :: ls) (st) h Q ↔ Wp 102 83 (some (.ref i) :: ls) (.ref i :: st) h Q) ∧
  (∀ (ls : Lo) (st : List Value) (h : Hp) (Q : Option Value → Hp → Prop), Wp 102 83 (ls) (st) h Q ↔ Wp 102 85 (ls) (.int (12) :: st) h Q) ∧
  (∀ (ls : Lo) (st : List Value) (n sl : Nat) (C Z : Nat → Nat) (I : Nat → Nat → Int32) (L : Nat → Nat → Int64) (R : Nat → Nat → Nat) (Q : Option Value → Hp → Prop) (x : Int32), Wp 102 85 (ls) (.int x :: st) (n, sl, C, Z, I, L, R) Q ↔ ((¬ x < 0 ∧ ix x ≤ 1000) ∧ Wp 102 87 (ls) (.ref (n + 1) :: st) (n + 1, sl + ix x, va_up C (n + 1) 22, va_up Z (n + 1) (ix x), va_up I (n + 1) (fun _ => 0), va_up L (n + 1) (fun _ => 0), va_up R (n + 1) (fun _ => 0)) Q)) ∧
  (∀ (ls : Lo) (st : List Value) (n sl : Nat) (C Z : Nat → Nat) (I : Nat → Nat → Int32) (L : Nat → Nat → Int64) (R : Nat → Nat → Nat) (Q : Option Value → Hp → Prop) (i j : Nat), Wp 102 87 (ls) (.ref j :: .ref i :: st) (n, sl, C, Z, I, L, R) Q ↔ (C i = 11 ∧ Wp 102 90 (ls) (st) (n, sl, C, Z, I, L, u2 R i 11 j) Q)) ∧
  (∀ (ls : Lo) (st : List Value) (h : Hp) (Q : Option Value → Hp → Prop)  (i : Nat), Wp 102 90 (some (.ref i) :: ls) (st) h Q ↔ Wp 102 91 (some (.ref i) :: ls) (.ref i :: st) h Q) ∧
  (∀ (ls : Lo) (st : List Value) (h : Hp) (Q : Option Value → Hp → Prop), Wp 102 91 (ls) (st) h Q ↔ Wp 102 93 (ls) (.int (12) :: st) h Q) ∧
  (∀ (ls : Lo) (st : List Value) (n sl : Nat) (C Z : Nat → Nat) (I : Nat → Nat → Int32) (L : Nat → Nat → Int64) (R : Nat → Nat → Nat) (Q : Option Value → Hp → Prop) (x : Int32), Wp 102 93 (ls) (.int x :: st) (n, sl, C, Z, I, L, R) Q ↔ ((¬ x < 0 ∧ ix x ≤ 1000) ∧ Wp 102 95 (ls) (.ref (n + 1) :: st) (n + 1, sl + ix x, va_up C (n + 1) 22, va_up Z (n + 1) (ix x), va_up I (n + 1) (fun _ => 0), va_up L (n + 1) (fun _ => 0), va_up R (n + 1) (fun _ => 0)) Q)) ∧
  (∀ (ls : Lo) (st : List Value) (n sl : Nat) (C Z : Nat → Nat) (I : Nat → Nat → Int32) (L : Nat → Nat → Int64) (R : Nat → Nat → Nat) (Q : Option Value → Hp → Prop) (i j : Nat), Wp 102 95 (ls) (.ref j :: .ref i :: st) (n, sl, C, Z, I, L, R) Q ↔ (C i = 11 ∧ Wp 102 98 (ls) (st) (n, sl, C, Z, I, L, u2 R i 12 j) Q)) := ⟨by intro ls st n sl C Z I L R Q i j; exact e_putR (g := 10) (s := 6) d102_49 rfl (Or.inr ⟨by decide +kernel, rfl, rfl⟩) (inG_ne (by decide)),
  by intro ls st h Q i; exact e_aload_n d102_52 rfl,
  by intro ls st h Q; exact e_bipush d102_53 rfl,
  by intro ls st n sl C Z I L R Q x; exact e_newI d102_55,
  by intro ls st n sl C Z I L R Q i j; exact e_putR (g := 10) (s := 7) d102_57 rfl (Or.inr ⟨by decide +kernel, rfl, rfl⟩) (inG_ne (by decide)),
  by intro ls st h Q i; exact e_aload_n d102_60 rfl,
  by intro ls st h Q; exact e_bipush d102_61 rfl,
  by intro ls st n sl C Z I L R Q x; exact e_newI d102_63,
  by intro ls st n sl C Z I L R Q i j; exact e_putR (g := 10) (s := 8) d102_65 rfl (Or.inr ⟨by decide +kernel, rfl, rfl⟩) (inG_ne (by decide)),
  by intro ls st h Q i; exact e_aload_n d102_68 rfl,
  by intro ls st h Q; exact e_iconst d102_69 rfl,
  by intro ls st n sl C Z I L R Q x; exact e_newI d102_70,
  by intro ls st n sl C Z I L R Q i j; exact e_putR (g := 10) (s := 9) d102_72 rfl (Or.inr ⟨by decide +kernel, rfl, rfl⟩) (inG_ne (by decide)),
  by intro ls st h Q i; exact e_aload_n d102_75 rfl,
  by intro ls st h Q; exact e_iconst d102_76 rfl,
  by intro ls st n sl C Z I L R Q x; exact e_newI d102_77,
  by intro ls st n sl C Z I L R Q i j; exact e_putR (g := 10) (s := 10) d102_79 rfl (Or.inr ⟨by decide +kernel, rfl, rfl⟩) (inG_ne (by decide)),
  by intro ls st h Q i; exact e_aload_n d102_82 rfl,
  by intro ls st h Q; exact e_bipush d102_83 rfl,
  by intro ls st n sl C Z I L R Q x; exact e_newL d102_85,
  by intro ls st n sl C Z I L R Q i j; exact e_putR (g := 10) (s := 11) d102_87 rfl (Or.inr ⟨by decide +kernel, rfl, rfl⟩) (inG_ne (by decide)),
  by intro ls st h Q i; exact e_aload_n d102_90 rfl,
  by intro ls st h Q; exact e_bipush d102_91 rfl,
  by intro ls st n sl C Z I L R Q x; exact e_newL d102_93,
  by intro ls st n sl C Z I L R Q i j; exact e_putR (g := 10) (s := 12) d102_95 rfl (Or.inr ⟨by decide +kernel, rfl, rfl⟩) (inG_ne (by decide))⟩
set_option maxRecDepth 20000 in
theorem S102_2 : (∀ (ls : Lo) (st : List Value) (h : Hp) (Q : Option Value → Hp → Prop)  (i : Nat), Wp 102 98 (some (.ref i) :: ls) (st) h Q ↔ Wp 102 99 (some (.ref i) :: ls) (.ref i :: st) h Q) ∧
  (∀ (ls : Lo) (st : List Value) (h : Hp) (Q : Option Value → Hp → Prop), Wp 102 99 (ls) (st) h Q ↔ Wp 102 100 (ls) (.int (4) :: st) h Q) ∧
  (∀ (ls : Lo) (st : List Value) (n sl : Nat) (C Z : Nat → Nat) (I : Nat → Nat → Int32) (L : Nat → Nat → Int64) (R : Nat → Nat → Nat) (Q : Option Value → Hp → Prop) (x : Int32), Wp 102 100 (ls) (.int x :: st) (n, sl, C, Z, I, L, R) Q ↔ ((¬ x < 0 ∧ ix x ≤ 1000) ∧ Wp 102 102 (ls) (.ref (n + 1) :: st) (n + 1, sl + ix x, va_up C (n + 1) 21, va_up Z (n + 1) (ix x), va_up I (n + 1) (fun _ => 0), va_up L (n + 1) (fun _ => 0), va_up R (n + 1) (fun _ => 0)) Q)) ∧
  (∀ (ls : Lo) (st : List Value) (n sl : Nat) (C Z : Nat → Nat) (I : Nat → Nat → Int32) (L : Nat → Nat → Int64) (R : Nat → Nat → Nat) (Q : Option Value → Hp → Prop) (i j : Nat), Wp 102 102 (ls) (.ref j :: .ref i :: st) (n, sl, C, Z, I, L, R) Q ↔ (C i = 11 ∧ Wp 102 105 (ls) (st) (n, sl, C, Z, I, L, u2 R i 15 j) Q)) ∧
  (∀ (ls : Lo) (st : List Value) (h : Hp) (Q : Option Value → Hp → Prop)  (i : Nat), Wp 102 105 (some (.ref i) :: ls) (st) h Q ↔ Wp 102 106 (some (.ref i) :: ls) (.ref i :: st) h Q) ∧
  (∀ (ls : Lo) (st : List Value) (h : Hp) (Q : Option Value → Hp → Prop), Wp 102 106 (ls) (st) h Q ↔ Wp 102 107 (ls) (.int (4) :: st) h Q) ∧
  (∀ (ls : Lo) (st : List Value) (n sl : Nat) (C Z : Nat → Nat) (I : Nat → Nat → Int32) (L : Nat → Nat → Int64) (R : Nat → Nat → Nat) (Q : Option Value → Hp → Prop) (x : Int32), Wp 102 107 (ls) (.int x :: st) (n, sl, C, Z, I, L, R) Q ↔ ((¬ x < 0 ∧ ix x ≤ 1000) ∧ Wp 102 109 (ls) (.ref (n + 1) :: st) (n + 1, sl + ix x, va_up C (n + 1) 21, va_up Z (n + 1) (ix x), va_up I (n + 1) (fun _ => 0), va_up L (n + 1) (fun _ => 0), va_up R (n + 1) (fun _ => 0)) Q)) ∧
  (∀ (ls : Lo) (st : List Value) (n sl : Nat) (C Z : Nat → Nat) (I : Nat → Nat → Int32) (L : Nat → Nat → Int64) (R : Nat → Nat → Nat) (Q : Option Value → Hp → Prop) (i j : Nat), Wp 102 109 (ls) (.ref j :: .ref i :: st) (n, sl, C, Z, I, L, R) Q ↔ (C i = 11 ∧ Wp 102 112 (ls) (st) (n, sl, C, Z, I, L, u2 R i 16 j) Q)) ∧
  (∀ (ls : Lo) (st : List Value) (h : Hp) (Q : Option Value → Hp → Prop)  (i : Nat), Wp 102 112 (some (.ref i) :: ls) (st) h Q ↔ Wp 102 113 (some (.ref i) :: ls) (.ref i :: st) h Q) ∧
  (∀ (ls : Lo) (st : List Value) (h : Hp) (Q : Option Value → Hp → Prop), Wp 102 113 (ls) (st) h Q ↔ Wp 102 116 (ls) (.int (160) :: st) h Q) ∧
  (∀ (ls : Lo) (st : List Value) (n sl : Nat) (C Z : Nat → Nat) (I : Nat → Nat → Int32) (L : Nat → Nat → Int64) (R : Nat → Nat → Nat) (Q : Option Value → Hp → Prop) (x : Int32), Wp 102 116 (ls) (.int x :: st) (n, sl, C, Z, I, L, R) Q ↔ ((¬ x < 0 ∧ ix x ≤ 1000) ∧ Wp 102 118 (ls) (.ref (n + 1) :: st) (n + 1, sl + ix x, va_up C (n + 1) 22, va_up Z (n + 1) (ix x), va_up I (n + 1) (fun _ => 0), va_up L (n + 1) (fun _ => 0), va_up R (n + 1) (fun _ => 0)) Q)) ∧
  (∀ (ls : Lo) (st : List Value) (n sl : Nat) (C Z : Nat → Nat) (I : Nat → Nat → Int32) (L : Nat → Nat → Int64) (R : Nat → Nat → Nat) (Q : Option Value → Hp → Prop) (i j : Nat), Wp 102 118 (ls) (.ref j :: .ref i :: st) (n, sl, C, Z, I, L, R) Q ↔ (C i = 11 ∧ Wp 102 121 (ls) (st) (n, sl, C, Z, I, L, u2 R i 17 j) Q)) ∧
  (∀ (ls : Lo) (st : List Value) (h : Hp) (Q : Option Value → Hp → Prop)  (i : Nat), Wp 102 121 (some (.ref i) :: ls) (st) h Q ↔ Wp 102 122 (some (.ref i) :: ls) (.ref i :: st) h Q) ∧
  (∀ (ls : Lo) (st : List Value) (h : Hp) (Q : Option Value → Hp → Prop), Wp 102 122 (ls) (st) h Q ↔ Wp 102 124 (ls) (.int (40) :: st) h Q) ∧
  (∀ (ls : Lo) (st : List Value) (n sl : Nat) (C Z : Nat → Nat) (I : Nat → Nat → Int32) (L : Nat → Nat → Int64) (R : Nat → Nat → Nat) (Q : Option Value → Hp → Prop) (x : Int32), Wp 102 124 (ls) (.int x :: st) (n, sl, C, Z, I, L, R) Q ↔ ((¬ x < 0 ∧ ix x ≤ 1000) ∧ Wp 102 126 (ls) (.ref (n + 1) :: st) (n + 1, sl + ix x, va_up C (n + 1) 22, va_up Z (n + 1) (ix x), va_up I (n + 1) (fun _ => 0), va_up L (n + 1) (fun _ => 0), va_up R (n + 1) (fun _ => 0)) Q)) ∧
  (∀ (ls : Lo) (st : List Value) (n sl : Nat) (C Z : Nat → Nat) (I : Nat → Nat → Int32) (L : Nat → Nat → Int64) (R : Nat → Nat → Nat) (Q : Option Value → Hp → Prop) (i j : Nat), Wp 102 126 (ls) (.ref j :: .ref i :: st) (n, sl, C, Z, I, L, R) Q ↔ (C i = 11 ∧ Wp 102 129 (ls) (st) (n, sl, C, Z, I, L, u2 R i 18 j) Q)) ∧
  (∀ (ls : Lo) (st : List Value) (h : Hp) (Q : Option Value → Hp → Prop)  (i : Nat), Wp 102 129 (some (.ref i) :: ls) (st) h Q ↔ Wp 102 130 (some (.ref i) :: ls) (.ref i :: st) h Q) ∧
  (∀ (ls : Lo) (st : List Value) (h : Hp) (Q : Option Value → Hp → Prop), Wp 102 130 (ls) (st) h Q ↔ Wp 102 132 (ls) (.int (40) :: st) h Q) ∧
  (∀ (ls : Lo) (st : List Value) (n sl : Nat) (C Z : Nat → Nat) (I : Nat → Nat → Int32) (L : Nat → Nat → Int64) (R : Nat → Nat → Nat) (Q : Option Value → Hp → Prop) (x : Int32), Wp 102 132 (ls) (.int x :: st) (n, sl, C, Z, I, L, R) Q ↔ ((¬ x < 0 ∧ ix x ≤ 1000) ∧ Wp 102 134 (ls) (.ref (n + 1) :: st) (n + 1, sl + ix x, va_up C (n + 1) 21, va_up Z (n + 1) (ix x), va_up I (n + 1) (fun _ => 0), va_up L (n + 1) (fun _ => 0), va_up R (n + 1) (fun _ => 0)) Q)) ∧
  (∀ (ls : Lo) (st : List Value) (n sl : Nat) (C Z : Nat → Nat) (I : Nat → Nat → Int32) (L : Nat → Nat → Int64) (R : Nat → Nat → Nat) (Q : Option Value → Hp → Prop) (i j : Nat), Wp 102 134 (ls) (.ref j :: .ref i :: st) (n, sl, C, Z, I, L, R) Q ↔ (C i = 11 ∧ Wp 102 137 (ls) (st) (n, sl, C, Z, I, L, u2 R i 19 j) Q)) ∧
  (∀ (ls : Lo) (st : List Value) (h : Hp) (Q : Option Value → Hp → Prop)  (i : Nat), Wp 102 137 (some (.ref i) :: ls) (st) h Q ↔ Wp 102 138 (some (.ref i) :: ls) (.ref i :: st) h Q) ∧
  (∀ (ls : Lo) (st : List Value) (h : Hp) (Q : Option Value → Hp → Prop), Wp 102 138 (ls) (st) h Q ↔ Wp 102 139 (ls) (.int (4) :: st) h Q) ∧
  (∀ (ls : Lo) (st : List Value) (n sl : Nat) (C Z : Nat → Nat) (I : Nat → Nat → Int32) (L : Nat → Nat → Int64) (R : Nat → Nat → Nat) (Q : Option Value → Hp → Prop) (x : Int32), Wp 102 139 (ls) (.int x :: st) (n, sl, C, Z, I, L, R) Q ↔ ((¬ x < 0 ∧ ix x ≤ 1000) ∧ Wp 102 141 (ls) (.ref (n + 1) :: st) (n + 1, sl + ix x, va_up C (n + 1) 22, va_up Z (n + 1) (ix x), va_up I (n + 1) (fun _ => 0), va_up L (n + 1) (fun _ => 0), va_up R (n + 1) (fun _ => 0)) Q)) ∧
  (∀ (ls : Lo) (st : List Value) (n sl : Nat) (C Z : Nat → Nat) (I : Nat → Nat → Int32) (L : Nat → Nat → Int64) (R : Nat → Nat → Nat) (Q : Option Value → Hp → Prop) (i j : Nat), Wp 102 141 (ls) (.ref j :: .ref i :: st) (n, sl, C, Z, I, L, R) Q ↔ (C i = 11 ∧ Wp 102 144 (ls) (st) (n, sl, C, Z, I, L, u2 R i 21 j) Q)) ∧
  (∀ (ls : Lo) (st : List Value) (h : Hp) (Q : Option Value → Hp → Prop)  (i : Nat), Wp 102 144 (some (.ref i) :: ls) (st) h Q ↔ Wp 102 145 (some (.ref i) :: ls) (.ref i :: st) h Q) := ⟨by intro ls st h Q i; exact e_aload_n d102_98 rfl,
  by intro ls st h Q; exact e_iconst d102_99 rfl,
  by intro ls st n sl C Z I L R Q x; exact e_newI d102_100,
  by intro ls st n sl C Z I L R Q i j; exact e_putR (g := 10) (s := 15) d102_102 rfl (Or.inr ⟨by decide +kernel, rfl, rfl⟩) (inG_ne (by decide)),
  by intro ls st h Q i; exact e_aload_n d102_105 rfl,
  by intro ls st h Q; exact e_iconst d102_106 rfl,
  by intro ls st n sl C Z I L R Q x; exact e_newI d102_107,
  by intro ls st n sl C Z I L R Q i j; exact e_putR (g := 10) (s := 16) d102_109 rfl (Or.inr ⟨by decide +kernel, rfl, rfl⟩) (inG_ne (by decide)),
  by intro ls st h Q i; exact e_aload_n d102_112 rfl,
  by intro ls st h Q; exact e_sipush d102_113 rfl,
  by intro ls st n sl C Z I L R Q x; exact e_newL d102_116,
  by intro ls st n sl C Z I L R Q i j; exact e_putR (g := 10) (s := 17) d102_118 rfl (Or.inr ⟨by decide +kernel, rfl, rfl⟩) (inG_ne (by decide)),
  by intro ls st h Q i; exact e_aload_n d102_121 rfl,
  by intro ls st h Q; exact e_bipush d102_122 rfl,
  by intro ls st n sl C Z I L R Q x; exact e_newL d102_124,
  by intro ls st n sl C Z I L R Q i j; exact e_putR (g := 10) (s := 18) d102_126 rfl (Or.inr ⟨by decide +kernel, rfl, rfl⟩) (inG_ne (by decide)),
  by intro ls st h Q i; exact e_aload_n d102_129 rfl,
  by intro ls st h Q; exact e_bipush d102_130 rfl,
  by intro ls st n sl C Z I L R Q x; exact e_newI d102_132,
  by intro ls st n sl C Z I L R Q i j; exact e_putR (g := 10) (s := 19) d102_134 rfl (Or.inr ⟨by decide +kernel, rfl, rfl⟩) (inG_ne (by decide)),
  by intro ls st h Q i; exact e_aload_n d102_137 rfl,
  by intro ls st h Q; exact e_iconst d102_138 rfl,
  by intro ls st n sl C Z I L R Q x; exact e_newL d102_139,
  by intro ls st n sl C Z I L R Q i j; exact e_putR (g := 10) (s := 21) d102_141 rfl (Or.inr ⟨by decide +kernel, rfl, rfl⟩) (inG_ne (by decide)),
  by intro ls st h Q i; exact e_aload_n d102_144 rfl⟩
set_option maxRecDepth 20000 in
theorem S102_3 : (∀ (ls : Lo) (st : List Value) (h : Hp) (Q : Option Value → Hp → Prop), Wp 102 145 (ls) (st) h Q ↔ Wp 102 146 (ls) (.int (5) :: st) h Q) ∧
  (∀ (ls : Lo) (st : List Value) (n sl : Nat) (C Z : Nat → Nat) (I : Nat → Nat → Int32) (L : Nat → Nat → Int64) (R : Nat → Nat → Nat) (Q : Option Value → Hp → Prop) (x : Int32), Wp 102 146 (ls) (.int x :: st) (n, sl, C, Z, I, L, R) Q ↔ ((¬ x < 0 ∧ ix x ≤ 1000) ∧ Wp 102 148 (ls) (.ref (n + 1) :: st) (n + 1, sl + ix x, va_up C (n + 1) 22, va_up Z (n + 1) (ix x), va_up I (n + 1) (fun _ => 0), va_up L (n + 1) (fun _ => 0), va_up R (n + 1) (fun _ => 0)) Q)) ∧
  (∀ (ls : Lo) (st : List Value) (n sl : Nat) (C Z : Nat → Nat) (I : Nat → Nat → Int32) (L : Nat → Nat → Int64) (R : Nat → Nat → Nat) (Q : Option Value → Hp → Prop) (i j : Nat), Wp 102 148 (ls) (.ref j :: .ref i :: st) (n, sl, C, Z, I, L, R) Q ↔ (C i = 11 ∧ Wp 102 151 (ls) (st) (n, sl, C, Z, I, L, u2 R i 22 j) Q)) ∧
  (∀ (ls : Lo) (st : List Value) (h : Hp) (Q : Option Value → Hp → Prop)  (i : Nat), Wp 102 151 (some (.ref i) :: ls) (st) h Q ↔ Wp 102 152 (some (.ref i) :: ls) (.ref i :: st) h Q) ∧
  (∀ (ls : Lo) (st : List Value) (h : Hp) (Q : Option Value → Hp → Prop), Wp 102 152 (ls) (st) h Q ↔ Wp 102 153 (ls) (.int (5) :: st) h Q) ∧
  (∀ (ls : Lo) (st : List Value) (n sl : Nat) (C Z : Nat → Nat) (I : Nat → Nat → Int32) (L : Nat → Nat → Int64) (R : Nat → Nat → Nat) (Q : Option Value → Hp → Prop) (x : Int32), Wp 102 153 (ls) (.int x :: st) (n, sl, C, Z, I, L, R) Q ↔ ((¬ x < 0 ∧ ix x ≤ 1000) ∧ Wp 102 155 (ls) (.ref (n + 1) :: st) (n + 1, sl + ix x, va_up C (n + 1) 22, va_up Z (n + 1) (ix x), va_up I (n + 1) (fun _ => 0), va_up L (n + 1) (fun _ => 0), va_up R (n + 1) (fun _ => 0)) Q)) ∧
  (∀ (ls : Lo) (st : List Value) (n sl : Nat) (C Z : Nat → Nat) (I : Nat → Nat → Int32) (L : Nat → Nat → Int64) (R : Nat → Nat → Nat) (Q : Option Value → Hp → Prop) (i j : Nat), Wp 102 155 (ls) (.ref j :: .ref i :: st) (n, sl, C, Z, I, L, R) Q ↔ (C i = 11 ∧ Wp 102 158 (ls) (st) (n, sl, C, Z, I, L, u2 R i 23 j) Q)) ∧
  (∀ (ls : Lo) (st : List Value) (h : Hp) (Q : Option Value → Hp → Prop)  (i : Nat), Wp 102 158 (some (.ref i) :: ls) (st) h Q ↔ Wp 102 159 (some (.ref i) :: ls) (.ref i :: st) h Q) ∧
  (∀ (ls : Lo) (st : List Value) (h : Hp) (Q : Option Value → Hp → Prop), Wp 102 159 (ls) (st) h Q ↔ Wp 102 161 (ls) (.int (12) :: st) h Q) ∧
  (∀ (ls : Lo) (st : List Value) (n sl : Nat) (C Z : Nat → Nat) (I : Nat → Nat → Int32) (L : Nat → Nat → Int64) (R : Nat → Nat → Nat) (Q : Option Value → Hp → Prop) (x : Int32), Wp 102 161 (ls) (.int x :: st) (n, sl, C, Z, I, L, R) Q ↔ ((¬ x < 0 ∧ ix x ≤ 1000) ∧ Wp 102 163 (ls) (.ref (n + 1) :: st) (n + 1, sl + ix x, va_up C (n + 1) 22, va_up Z (n + 1) (ix x), va_up I (n + 1) (fun _ => 0), va_up L (n + 1) (fun _ => 0), va_up R (n + 1) (fun _ => 0)) Q)) ∧
  (∀ (ls : Lo) (st : List Value) (n sl : Nat) (C Z : Nat → Nat) (I : Nat → Nat → Int32) (L : Nat → Nat → Int64) (R : Nat → Nat → Nat) (Q : Option Value → Hp → Prop) (i j : Nat), Wp 102 163 (ls) (.ref j :: .ref i :: st) (n, sl, C, Z, I, L, R) Q ↔ (C i = 11 ∧ Wp 102 166 (ls) (st) (n, sl, C, Z, I, L, u2 R i 24 j) Q)) ∧
  (∀ (ls : Lo) (st : List Value) (h : Hp) (Q : Option Value → Hp → Prop)  (i : Nat), Wp 102 166 (some (.ref i) :: ls) (st) h Q ↔ Wp 102 167 (some (.ref i) :: ls) (.ref i :: st) h Q) ∧
  (∀ (ls : Lo) (st : List Value) (h : Hp) (Q : Option Value → Hp → Prop), Wp 102 167 (ls) (st) h Q ↔ Wp 102 169 (ls) (.int (12) :: st) h Q) ∧
  (∀ (ls : Lo) (st : List Value) (n sl : Nat) (C Z : Nat → Nat) (I : Nat → Nat → Int32) (L : Nat → Nat → Int64) (R : Nat → Nat → Nat) (Q : Option Value → Hp → Prop) (x : Int32), Wp 102 169 (ls) (.int x :: st) (n, sl, C, Z, I, L, R) Q ↔ ((¬ x < 0 ∧ ix x ≤ 1000) ∧ Wp 102 171 (ls) (.ref (n + 1) :: st) (n + 1, sl + ix x, va_up C (n + 1) 22, va_up Z (n + 1) (ix x), va_up I (n + 1) (fun _ => 0), va_up L (n + 1) (fun _ => 0), va_up R (n + 1) (fun _ => 0)) Q)) ∧
  (∀ (ls : Lo) (st : List Value) (n sl : Nat) (C Z : Nat → Nat) (I : Nat → Nat → Int32) (L : Nat → Nat → Int64) (R : Nat → Nat → Nat) (Q : Option Value → Hp → Prop) (i j : Nat), Wp 102 171 (ls) (.ref j :: .ref i :: st) (n, sl, C, Z, I, L, R) Q ↔ (C i = 11 ∧ Wp 102 174 (ls) (st) (n, sl, C, Z, I, L, u2 R i 25 j) Q)) ∧
  (∀ (ls : Lo) (st : List Value) (h : Hp) (Q : Option Value → Hp → Prop)  (i : Nat), Wp 102 174 (some (.ref i) :: ls) (st) h Q ↔ Wp 102 175 (some (.ref i) :: ls) (.ref i :: st) h Q) ∧
  (∀ (ls : Lo) (st : List Value) (h : Hp) (Q : Option Value → Hp → Prop), Wp 102 175 (ls) (st) h Q ↔ Wp 102 176 (ls) (.int (3) :: st) h Q) ∧
  (∀ (ls : Lo) (st : List Value) (n sl : Nat) (C Z : Nat → Nat) (I : Nat → Nat → Int32) (L : Nat → Nat → Int64) (R : Nat → Nat → Nat) (Q : Option Value → Hp → Prop) (x : Int32), Wp 102 176 (ls) (.int x :: st) (n, sl, C, Z, I, L, R) Q ↔ ((¬ x < 0 ∧ ix x ≤ 1000) ∧ Wp 102 178 (ls) (.ref (n + 1) :: st) (n + 1, sl + ix x, va_up C (n + 1) 22, va_up Z (n + 1) (ix x), va_up I (n + 1) (fun _ => 0), va_up L (n + 1) (fun _ => 0), va_up R (n + 1) (fun _ => 0)) Q)) ∧
  (∀ (ls : Lo) (st : List Value) (n sl : Nat) (C Z : Nat → Nat) (I : Nat → Nat → Int32) (L : Nat → Nat → Int64) (R : Nat → Nat → Nat) (Q : Option Value → Hp → Prop) (i j : Nat), Wp 102 178 (ls) (.ref j :: .ref i :: st) (n, sl, C, Z, I, L, R) Q ↔ (C i = 11 ∧ Wp 102 181 (ls) (st) (n, sl, C, Z, I, L, u2 R i 26 j) Q)) ∧
  (∀ (ls : Lo) (st : List Value) (h : Hp) (Q : Option Value → Hp → Prop)  (i : Nat), Wp 102 181 (some (.ref i) :: ls) (st) h Q ↔ Wp 102 182 (some (.ref i) :: ls) (.ref i :: st) h Q) ∧
  (∀ (ls : Lo) (st : List Value) (h : Hp) (Q : Option Value → Hp → Prop), Wp 102 182 (ls) (st) h Q ↔ Wp 102 183 (ls) (.int (3) :: st) h Q) ∧
  (∀ (ls : Lo) (st : List Value) (n sl : Nat) (C Z : Nat → Nat) (I : Nat → Nat → Int32) (L : Nat → Nat → Int64) (R : Nat → Nat → Nat) (Q : Option Value → Hp → Prop) (x : Int32), Wp 102 183 (ls) (.int x :: st) (n, sl, C, Z, I, L, R) Q ↔ ((¬ x < 0 ∧ ix x ≤ 1000) ∧ Wp 102 185 (ls) (.ref (n + 1) :: st) (n + 1, sl + ix x, va_up C (n + 1) 22, va_up Z (n + 1) (ix x), va_up I (n + 1) (fun _ => 0), va_up L (n + 1) (fun _ => 0), va_up R (n + 1) (fun _ => 0)) Q)) ∧
  (∀ (ls : Lo) (st : List Value) (n sl : Nat) (C Z : Nat → Nat) (I : Nat → Nat → Int32) (L : Nat → Nat → Int64) (R : Nat → Nat → Nat) (Q : Option Value → Hp → Prop) (i j : Nat), Wp 102 185 (ls) (.ref j :: .ref i :: st) (n, sl, C, Z, I, L, R) Q ↔ (C i = 11 ∧ Wp 102 188 (ls) (st) (n, sl, C, Z, I, L, u2 R i 27 j) Q)) ∧
  (∀ (ls : Lo) (st : List Value) (h : Hp) (Q : Option Value → Hp → Prop), Wp 102 188 (ls) (st) h Q ↔ Wp 102 189 (ls) (.int (0) :: st) h Q) ∧
  (∀ (ls : Lo) (st : List Value) (h : Hp) (Q : Option Value → Hp → Prop) (l0 l1 : Option Value) (x : Int32), Wp 102 189 (l0 :: l1 :: ls) (.int x :: st) h Q ↔ Wp 102 190 (clr l0 :: some (.int x) :: ls) (st) h Q) := ⟨by intro ls st h Q; exact e_iconst d102_145 rfl,
  by intro ls st n sl C Z I L R Q x; exact e_newL d102_146,
  by intro ls st n sl C Z I L R Q i j; exact e_putR (g := 10) (s := 22) d102_148 rfl (Or.inr ⟨by decide +kernel, rfl, rfl⟩) (inG_ne (by decide)),
  by intro ls st h Q i; exact e_aload_n d102_151 rfl,
  by intro ls st h Q; exact e_iconst d102_152 rfl,
  by intro ls st n sl C Z I L R Q x; exact e_newL d102_153,
  by intro ls st n sl C Z I L R Q i j; exact e_putR (g := 10) (s := 23) d102_155 rfl (Or.inr ⟨by decide +kernel, rfl, rfl⟩) (inG_ne (by decide)),
  by intro ls st h Q i; exact e_aload_n d102_158 rfl,
  by intro ls st h Q; exact e_bipush d102_159 rfl,
  by intro ls st n sl C Z I L R Q x; exact e_newL d102_161,
  by intro ls st n sl C Z I L R Q i j; exact e_putR (g := 10) (s := 24) d102_163 rfl (Or.inr ⟨by decide +kernel, rfl, rfl⟩) (inG_ne (by decide)),
  by intro ls st h Q i; exact e_aload_n d102_166 rfl,
  by intro ls st h Q; exact e_bipush d102_167 rfl,
  by intro ls st n sl C Z I L R Q x; exact e_newL d102_169,
  by intro ls st n sl C Z I L R Q i j; exact e_putR (g := 10) (s := 25) d102_171 rfl (Or.inr ⟨by decide +kernel, rfl, rfl⟩) (inG_ne (by decide)),
  by intro ls st h Q i; exact e_aload_n d102_174 rfl,
  by intro ls st h Q; exact e_iconst d102_175 rfl,
  by intro ls st n sl C Z I L R Q x; exact e_newL d102_176,
  by intro ls st n sl C Z I L R Q i j; exact e_putR (g := 10) (s := 26) d102_178 rfl (Or.inr ⟨by decide +kernel, rfl, rfl⟩) (inG_ne (by decide)),
  by intro ls st h Q i; exact e_aload_n d102_181 rfl,
  by intro ls st h Q; exact e_iconst d102_182 rfl,
  by intro ls st n sl C Z I L R Q x; exact e_newL d102_183,
  by intro ls st n sl C Z I L R Q i j; exact e_putR (g := 10) (s := 27) d102_185 rfl (Or.inr ⟨by decide +kernel, rfl, rfl⟩) (inG_ne (by decide)),
  by intro ls st h Q; exact e_iconst d102_188 rfl,
  by intro ls st h Q l0 l1 x; exact e_istore_n d102_189 rfl⟩
set_option maxRecDepth 20000 in
theorem S102_4 : (∀ (ls : Lo) (st : List Value) (h : Hp) (Q : Option Value → Hp → Prop) (l0 : Option Value) (x : Int32), Wp 102 190 (l0 :: some (.int x) :: ls) (st) h Q ↔ Wp 102 191 (l0 :: some (.int x) :: ls) (.int x :: st) h Q) ∧
  (∀ (ls : Lo) (st : List Value) (h : Hp) (Q : Option Value → Hp → Prop), Wp 102 191 (ls) (st) h Q ↔ Wp 102 192 (ls) (.int (4) :: st) h Q) ∧
  (∀ (ls : Lo) (st : List Value) (h : Hp) (Q : Option Value → Hp → Prop) (x y : Int32), Wp 102 192 (ls) (.int y :: .int x :: st) h Q ↔ Br 102 208 195 ls st h Q (y ≤ x)) ∧
  (∀ (ls : Lo) (st : List Value) (h : Hp) (Q : Option Value → Hp → Prop)  (i : Nat), Wp 102 195 (some (.ref i) :: ls) (st) h Q ↔ Wp 102 196 (some (.ref i) :: ls) (.ref i :: st) h Q) ∧
  (∀ (ls : Lo) (st : List Value) (n sl : Nat) (C Z : Nat → Nat) (I : Nat → Nat → Int32) (L : Nat → Nat → Int64) (R : Nat → Nat → Nat) (Q : Option Value → Hp → Prop) (i : Nat), Wp 102 196 (ls) (.ref i :: st) (n, sl, C, Z, I, L, R) Q ↔ (C i = 11 ∧ Wp 102 199 (ls) (.ref (R i 15) :: st) (n, sl, C, Z, I, L, R) Q)) ∧
  (∀ (ls : Lo) (st : List Value) (h : Hp) (Q : Option Value → Hp → Prop) (l0 : Option Value) (x : Int32), Wp 102 199 (l0 :: some (.int x) :: ls) (st) h Q ↔ Wp 102 200 (l0 :: some (.int x) :: ls) (.int x :: st) h Q) ∧
  (∀ (ls : Lo) (st : List Value) (h : Hp) (Q : Option Value → Hp → Prop), Wp 102 200 (ls) (st) h Q ↔ Wp 102 201 (ls) (.int (-1) :: st) h Q) ∧
  (∀ (ls : Lo) (st : List Value) (n sl : Nat) (C Z : Nat → Nat) (I : Nat → Nat → Int32) (L : Nat → Nat → Int64) (R : Nat → Nat → Nat) (Q : Option Value → Hp → Prop) (i : Nat) (x y : Int32), Wp 102 201 (ls) (.int x :: .int y :: .ref i :: st) (n, sl, C, Z, I, L, R) Q ↔ ((inb y (Z i) = true ∧ C i = 21) ∧ Wp 102 202 (ls) (st) (n, sl, C, Z, u2 I i (ix y) x, L, R) Q)) ∧
  (∀ (ls : Lo) (st : List Value) (h : Hp) (Q : Option Value → Hp → Prop) (l0 : Option Value) (x : Int32), Wp 102 202 (l0 :: some (.int x) :: ls) (st) h Q ↔ Wp 102 205 (clr l0 :: some (.int (x + (1))) :: ls) (st) h Q) ∧
  (∀ (ls : Lo) (st : List Value) (h : Hp) (Q : Option Value → Hp → Prop), Wp 102 205 (ls) (st) h Q ↔ Wp 102 190 (ls) (st) h Q) ∧
  (∀ (ls : Lo) (h : Hp) (Q : Option Value → Hp → Prop), Wp 102 208 (ls) ([]) h Q ↔ Q none h) := ⟨by intro ls st h Q l0 x; exact e_iload_n d102_190 rfl,
  by intro ls st h Q; exact e_iconst d102_191 rfl,
  by intro ls st h Q x y; exact e_ic d102_192 (by decide) c_ge,
  by intro ls st h Q i; exact e_aload_n d102_195 rfl,
  by intro ls st n sl C Z I L R Q i; exact e_get (g := 10) (s := 15) (ty := 2) d102_196 rfl rfl (inG_ne (by decide)),
  by intro ls st h Q l0 x; exact e_iload_n d102_199 rfl,
  by intro ls st h Q; exact e_iconst d102_200 rfl,
  by intro ls st n sl C Z I L R Q i x y; exact e_iast d102_201,
  by intro ls st h Q l0 x; exact e_iinc d102_202 rfl rfl rfl,
  by intro ls st h Q; exact e_goto d102_205 (by decide),
  by intros; exact e_rV d102_208 rfl⟩
theorem d103_0 : decode (byt 103) 0 = .ok (.iload_n 1, 1) := by decide +kernel
theorem d103_1 : decode (byt 103) 1 = .ok (.ifCond .lt 15, 3) := by decide +kernel
theorem d103_4 : decode (byt 103) 4 = .ok (.iload_n 1, 1) := by decide +kernel
theorem d103_5 : decode (byt 103) 5 = .ok (.aload_n 0, 1) := by decide +kernel
theorem d103_6 : decode (byt 103) 6 = .ok (.getfield 83, 3) := by decide +kernel
theorem d103_9 : decode (byt 103) 9 = .ok (.if_icmp .ge 7, 3) := by decide +kernel
theorem d103_12 : decode (byt 103) 12 = .ok (.iconst 1, 1) := by decide +kernel
theorem d103_13 : decode (byt 103) 13 = .ok (.goto 4, 3) := by decide +kernel
theorem d103_16 : decode (byt 103) 16 = .ok (.iconst 0, 1) := by decide +kernel
theorem d103_17 : decode (byt 103) 17 = .ok (.ireturn, 1) := by decide +kernel
set_option maxRecDepth 20000 in
theorem S103_0 : (∀ (ls : Lo) (st : List Value) (h : Hp) (Q : Option Value → Hp → Prop) (l0 : Option Value) (x : Int32), Wp 103 0 (l0 :: some (.int x) :: ls) (st) h Q ↔ Wp 103 1 (l0 :: some (.int x) :: ls) (.int x :: st) h Q) ∧
  (∀ (ls : Lo) (st : List Value) (h : Hp) (Q : Option Value → Hp → Prop) (x : Int32), Wp 103 1 (ls) (.int x :: st) h Q ↔ Br 103 16 4 ls st h Q (x < 0)) ∧
  (∀ (ls : Lo) (st : List Value) (h : Hp) (Q : Option Value → Hp → Prop) (l0 : Option Value) (x : Int32), Wp 103 4 (l0 :: some (.int x) :: ls) (st) h Q ↔ Wp 103 5 (l0 :: some (.int x) :: ls) (.int x :: st) h Q) ∧
  (∀ (ls : Lo) (st : List Value) (h : Hp) (Q : Option Value → Hp → Prop)  (i : Nat), Wp 103 5 (some (.ref i) :: ls) (st) h Q ↔ Wp 103 6 (some (.ref i) :: ls) (.ref i :: st) h Q) ∧
  (∀ (ls : Lo) (st : List Value) (n sl : Nat) (C Z : Nat → Nat) (I : Nat → Nat → Int32) (L : Nat → Nat → Int64) (R : Nat → Nat → Nat) (Q : Option Value → Hp → Prop) (i : Nat), Wp 103 6 (ls) (.ref i :: st) (n, sl, C, Z, I, L, R) Q ↔ (C i = 11 ∧ Wp 103 9 (ls) (.int (I i 0) :: st) (n, sl, C, Z, I, L, R) Q)) ∧
  (∀ (ls : Lo) (st : List Value) (h : Hp) (Q : Option Value → Hp → Prop) (x y : Int32), Wp 103 9 (ls) (.int y :: .int x :: st) h Q ↔ Br 103 16 12 ls st h Q (y ≤ x)) ∧
  (∀ (ls : Lo) (st : List Value) (h : Hp) (Q : Option Value → Hp → Prop), Wp 103 12 (ls) (st) h Q ↔ Wp 103 13 (ls) (.int (1) :: st) h Q) ∧
  (∀ (ls : Lo) (st : List Value) (h : Hp) (Q : Option Value → Hp → Prop), Wp 103 13 (ls) (st) h Q ↔ Wp 103 17 (ls) (st) h Q) ∧
  (∀ (ls : Lo) (st : List Value) (h : Hp) (Q : Option Value → Hp → Prop), Wp 103 16 (ls) (st) h Q ↔ Wp 103 17 (ls) (.int (0) :: st) h Q) ∧
  (∀ (ls : Lo) (h : Hp) (Q : Option Value → Hp → Prop) (x : Int32), Wp 103 17 (ls) ([.int x]) h Q ↔ ((x = 0 ∨ x = 1) ∧ Q (some (.int x)) h)) := ⟨by intro ls st h Q l0 x; exact e_iload_n d103_0 rfl,
  by intro ls st h Q x; exact e_if d103_1 (by decide) c_lt,
  by intro ls st h Q l0 x; exact e_iload_n d103_4 rfl,
  by intro ls st h Q i; exact e_aload_n d103_5 rfl,
  by intro ls st n sl C Z I L R Q i; exact e_get (g := 10) (s := 0) (ty := 0) d103_6 rfl rfl (inG_ne (by decide)),
  by intro ls st h Q x y; exact e_ic d103_9 (by decide) c_ge,
  by intro ls st h Q; exact e_iconst d103_12 rfl,
  by intro ls st h Q; exact e_goto d103_13 (by decide),
  by intro ls st h Q; exact e_iconst d103_16 rfl,
  by intros; exact e_rZ d103_17 rfl⟩
theorem d104_0 : decode (byt 104) 0 = .ok (.aload_n 0, 1) := by decide +kernel
theorem d104_1 : decode (byt 104) 1 = .ok (.getfield 22, 3) := by decide +kernel
theorem d104_4 : decode (byt 104) 4 = .ok (.bipush 9, 2) := by decide +kernel
theorem d104_6 : decode (byt 104) 6 = .ok (.iload_n 1, 1) := by decide +kernel
theorem d104_7 : decode (byt 104) 7 = .ok (.imul, 1) := by decide +kernel
theorem d104_8 : decode (byt 104) 8 = .ok (.iconst 3, 1) := by decide +kernel
theorem d104_9 : decode (byt 104) 9 = .ok (.iload_n 2, 1) := by decide +kernel
theorem d104_10 : decode (byt 104) 10 = .ok (.imul, 1) := by decide +kernel
theorem d104_11 : decode (byt 104) 11 = .ok (.iadd, 1) := by decide +kernel
theorem d104_12 : decode (byt 104) 12 = .ok (.iload_n 3, 1) := by decide +kernel
theorem d104_13 : decode (byt 104) 13 = .ok (.iadd, 1) := by decide +kernel
theorem d104_14 : decode (byt 104) 14 = .ok (.iaload, 1) := by decide +kernel
theorem d104_15 : decode (byt 104) 15 = .ok (.ireturn, 1) := by decide +kernel
set_option maxRecDepth 20000 in
theorem S104_0 : (∀ (ls : Lo) (st : List Value) (h : Hp) (Q : Option Value → Hp → Prop)  (i : Nat), Wp 104 0 (some (.ref i) :: ls) (st) h Q ↔ Wp 104 1 (some (.ref i) :: ls) (.ref i :: st) h Q) ∧
  (∀ (ls : Lo) (st : List Value) (n sl : Nat) (C Z : Nat → Nat) (I : Nat → Nat → Int32) (L : Nat → Nat → Int64) (R : Nat → Nat → Nat) (Q : Option Value → Hp → Prop) (i : Nat), Wp 104 1 (ls) (.ref i :: st) (n, sl, C, Z, I, L, R) Q ↔ (C i = 11 ∧ Wp 104 4 (ls) (.ref (R i 5) :: st) (n, sl, C, Z, I, L, R) Q)) ∧
  (∀ (ls : Lo) (st : List Value) (h : Hp) (Q : Option Value → Hp → Prop), Wp 104 4 (ls) (st) h Q ↔ Wp 104 6 (ls) (.int (9) :: st) h Q) ∧
  (∀ (ls : Lo) (st : List Value) (h : Hp) (Q : Option Value → Hp → Prop) (l0 : Option Value) (x : Int32), Wp 104 6 (l0 :: some (.int x) :: ls) (st) h Q ↔ Wp 104 7 (l0 :: some (.int x) :: ls) (.int x :: st) h Q) ∧
  (∀ (ls : Lo) (st : List Value) (h : Hp) (Q : Option Value → Hp → Prop) (x y : Int32), Wp 104 7 (ls) (.int y :: .int x :: st) h Q ↔ Wp 104 8 (ls) (.int (x * y) :: st) h Q) ∧
  (∀ (ls : Lo) (st : List Value) (h : Hp) (Q : Option Value → Hp → Prop), Wp 104 8 (ls) (st) h Q ↔ Wp 104 9 (ls) (.int (3) :: st) h Q) ∧
  (∀ (ls : Lo) (st : List Value) (h : Hp) (Q : Option Value → Hp → Prop) (l0 l1 : Option Value) (x : Int32), Wp 104 9 (l0 :: l1 :: some (.int x) :: ls) (st) h Q ↔ Wp 104 10 (l0 :: l1 :: some (.int x) :: ls) (.int x :: st) h Q) ∧
  (∀ (ls : Lo) (st : List Value) (h : Hp) (Q : Option Value → Hp → Prop) (x y : Int32), Wp 104 10 (ls) (.int y :: .int x :: st) h Q ↔ Wp 104 11 (ls) (.int (x * y) :: st) h Q) ∧
  (∀ (ls : Lo) (st : List Value) (h : Hp) (Q : Option Value → Hp → Prop) (x y : Int32), Wp 104 11 (ls) (.int y :: .int x :: st) h Q ↔ Wp 104 12 (ls) (.int (x + y) :: st) h Q) ∧
  (∀ (ls : Lo) (st : List Value) (h : Hp) (Q : Option Value → Hp → Prop) (l0 l1 l2 : Option Value) (x : Int32), Wp 104 12 (l0 :: l1 :: l2 :: some (.int x) :: ls) (st) h Q ↔ Wp 104 13 (l0 :: l1 :: l2 :: some (.int x) :: ls) (.int x :: st) h Q) ∧
  (∀ (ls : Lo) (st : List Value) (h : Hp) (Q : Option Value → Hp → Prop) (x y : Int32), Wp 104 13 (ls) (.int y :: .int x :: st) h Q ↔ Wp 104 14 (ls) (.int (x + y) :: st) h Q) ∧
  (∀ (ls : Lo) (st : List Value) (n sl : Nat) (C Z : Nat → Nat) (I : Nat → Nat → Int32) (L : Nat → Nat → Int64) (R : Nat → Nat → Nat) (Q : Option Value → Hp → Prop) (i : Nat) (y : Int32), Wp 104 14 (ls) (.int y :: .ref i :: st) (n, sl, C, Z, I, L, R) Q ↔ ((inb y (Z i) = true ∧ C i = 21) ∧ Wp 104 15 (ls) (.int (I i (ix y)) :: st) (n, sl, C, Z, I, L, R) Q)) ∧
  (∀ (ls : Lo) (h : Hp) (Q : Option Value → Hp → Prop) (x : Int32), Wp 104 15 (ls) ([.int x]) h Q ↔ Q (some (.int x)) h) := ⟨by intro ls st h Q i; exact e_aload_n d104_0 rfl,
  by intro ls st n sl C Z I L R Q i; exact e_get (g := 10) (s := 5) (ty := 2) d104_1 rfl rfl (inG_ne (by decide)),
  by intro ls st h Q; exact e_bipush d104_4 rfl,
  by intro ls st h Q l0 x; exact e_iload_n d104_6 rfl,
  by intro ls st h Q x y; exact e_imul d104_7,
  by intro ls st h Q; exact e_iconst d104_8 rfl,
  by intro ls st h Q l0 l1 x; exact e_iload_n d104_9 rfl,
  by intro ls st h Q x y; exact e_imul d104_10,
  by intro ls st h Q x y; exact e_iadd d104_11,
  by intro ls st h Q l0 l1 l2 x; exact e_iload_n d104_12 rfl,
  by intro ls st h Q x y; exact e_iadd d104_13,
  by intro ls st n sl C Z I L R Q i y; exact e_iald d104_14,
  by intros; exact e_rI (p := True) d104_15 rfl⟩
theorem d105_0 : decode (byt 105) 0 = .ok (.lload_n 0, 1) := by decide +kernel
theorem d105_1 : decode (byt 105) 1 = .ok (.lconst 0, 1) := by decide +kernel
theorem d105_2 : decode (byt 105) 2 = .ok (.lcmp, 1) := by decide +kernel
theorem d105_3 : decode (byt 105) 3 = .ok (.ifCond .ge 8, 3) := by decide +kernel
theorem d105_6 : decode (byt 105) 6 = .ok (.lload_n 0, 1) := by decide +kernel
theorem d105_7 : decode (byt 105) 7 = .ok (.lneg, 1) := by decide +kernel
theorem d105_8 : decode (byt 105) 8 = .ok (.goto 4, 3) := by decide +kernel
theorem d105_11 : decode (byt 105) 11 = .ok (.lload_n 0, 1) := by decide +kernel
theorem d105_12 : decode (byt 105) 12 = .ok (.lstore 4, 2) := by decide +kernel
theorem d105_14 : decode (byt 105) 14 = .ok (.lload_n 2, 1) := by decide +kernel
theorem d105_15 : decode (byt 105) 15 = .ok (.lconst 0, 1) := by decide +kernel
theorem d105_16 : decode (byt 105) 16 = .ok (.lcmp, 1) := by decide +kernel
theorem d105_17 : decode (byt 105) 17 = .ok (.ifCond .ge 8, 3) := by decide +kernel
theorem d105_20 : decode (byt 105) 20 = .ok (.lload_n 2, 1) := by decide +kernel
theorem d105_21 : decode (byt 105) 21 = .ok (.lneg, 1) := by decide +kernel
theorem d105_22 : decode (byt 105) 22 = .ok (.goto 4, 3) := by decide +kernel
theorem d105_25 : decode (byt 105) 25 = .ok (.lload_n 2, 1) := by decide +kernel
theorem d105_26 : decode (byt 105) 26 = .ok (.lstore 6, 2) := by decide +kernel
theorem d105_28 : decode (byt 105) 28 = .ok (.lload 6, 2) := by decide +kernel
theorem d105_30 : decode (byt 105) 30 = .ok (.lconst 0, 1) := by decide +kernel
theorem d105_31 : decode (byt 105) 31 = .ok (.lcmp, 1) := by decide +kernel
theorem d105_32 : decode (byt 105) 32 = .ok (.ifCond .eq 21, 3) := by decide +kernel
theorem d105_35 : decode (byt 105) 35 = .ok (.lload 4, 2) := by decide +kernel
theorem d105_37 : decode (byt 105) 37 = .ok (.lload 6, 2) := by decide +kernel
theorem d105_39 : decode (byt 105) 39 = .ok (.lrem, 1) := by decide +kernel
theorem d105_40 : decode (byt 105) 40 = .ok (.lstore 8, 2) := by decide +kernel
theorem d105_42 : decode (byt 105) 42 = .ok (.lload 6, 2) := by decide +kernel
theorem d105_44 : decode (byt 105) 44 = .ok (.lstore 4, 2) := by decide +kernel
theorem d105_46 : decode (byt 105) 46 = .ok (.lload 8, 2) := by decide +kernel
theorem d105_48 : decode (byt 105) 48 = .ok (.lstore 6, 2) := by decide +kernel
theorem d105_50 : decode (byt 105) 50 = .ok (.goto (-22), 3) := by decide +kernel
theorem d105_53 : decode (byt 105) 53 = .ok (.lload 4, 2) := by decide +kernel
theorem d105_55 : decode (byt 105) 55 = .ok (.lreturn, 1) := by decide +kernel
set_option maxRecDepth 20000 in
theorem S105_0 : (∀ (ls : Lo) (st : List Value) (h : Hp) (Q : Option Value → Hp → Prop)  (a : Int64), Wp 105 0 (some (.long a) :: ls) (st) h Q ↔ Wp 105 1 (some (.long a) :: ls) (.long a :: st) h Q) ∧
  (∀ (ls : Lo) (st : List Value) (h : Hp) (Q : Option Value → Hp → Prop), Wp 105 1 (ls) (st) h Q ↔ Wp 105 2 (ls) (.long 0 :: st) h Q) ∧
  (∀ (ls : Lo) (st : List Value) (h : Hp) (Q : Option Value → Hp → Prop) (a b : Int64), Wp 105 2 (ls) (.long b :: .long a :: st) h Q ↔ Wp 105 3 (ls) (.int (lg_cmp a b) :: st) h Q) ∧
  (∀ (ls : Lo) (st : List Value) (h : Hp) (Q : Option Value → Hp → Prop) (x : Int32), Wp 105 3 (ls) (.int x :: st) h Q ↔ Br 105 11 6 ls st h Q (0 ≤ x)) ∧
  (∀ (ls : Lo) (st : List Value) (h : Hp) (Q : Option Value → Hp → Prop)  (a : Int64), Wp 105 6 (some (.long a) :: ls) (st) h Q ↔ Wp 105 7 (some (.long a) :: ls) (.long a :: st) h Q) ∧
  (∀ (ls : Lo) (st : List Value) (h : Hp) (Q : Option Value → Hp → Prop) (a : Int64), Wp 105 7 (ls) (.long a :: st) h Q ↔ Wp 105 8 (ls) (.long (-a) :: st) h Q) ∧
  (∀ (ls : Lo) (st : List Value) (h : Hp) (Q : Option Value → Hp → Prop), Wp 105 8 (ls) (st) h Q ↔ Wp 105 12 (ls) (st) h Q) ∧
  (∀ (ls : Lo) (st : List Value) (h : Hp) (Q : Option Value → Hp → Prop)  (a : Int64), Wp 105 11 (some (.long a) :: ls) (st) h Q ↔ Wp 105 12 (some (.long a) :: ls) (.long a :: st) h Q) ∧
  (∀ (ls : Lo) (st : List Value) (h : Hp) (Q : Option Value → Hp → Prop) (l0 l1 l2 l3 l4 l5 : Option Value) (a : Int64), Wp 105 12 (l0 :: l1 :: l2 :: l3 :: l4 :: l5 :: ls) (.long a :: st) h Q ↔ Wp 105 14 (l0 :: l1 :: l2 :: clr l3 :: some (.long a) :: none :: ls) (st) h Q) ∧
  (∀ (ls : Lo) (st : List Value) (h : Hp) (Q : Option Value → Hp → Prop) (l0 l1 : Option Value) (a : Int64), Wp 105 14 (l0 :: l1 :: some (.long a) :: ls) (st) h Q ↔ Wp 105 15 (l0 :: l1 :: some (.long a) :: ls) (.long a :: st) h Q) ∧
  (∀ (ls : Lo) (st : List Value) (h : Hp) (Q : Option Value → Hp → Prop), Wp 105 15 (ls) (st) h Q ↔ Wp 105 16 (ls) (.long 0 :: st) h Q) ∧
  (∀ (ls : Lo) (st : List Value) (h : Hp) (Q : Option Value → Hp → Prop) (a b : Int64), Wp 105 16 (ls) (.long b :: .long a :: st) h Q ↔ Wp 105 17 (ls) (.int (lg_cmp a b) :: st) h Q) ∧
  (∀ (ls : Lo) (st : List Value) (h : Hp) (Q : Option Value → Hp → Prop) (x : Int32), Wp 105 17 (ls) (.int x :: st) h Q ↔ Br 105 25 20 ls st h Q (0 ≤ x)) ∧
  (∀ (ls : Lo) (st : List Value) (h : Hp) (Q : Option Value → Hp → Prop) (l0 l1 : Option Value) (a : Int64), Wp 105 20 (l0 :: l1 :: some (.long a) :: ls) (st) h Q ↔ Wp 105 21 (l0 :: l1 :: some (.long a) :: ls) (.long a :: st) h Q) ∧
  (∀ (ls : Lo) (st : List Value) (h : Hp) (Q : Option Value → Hp → Prop) (a : Int64), Wp 105 21 (ls) (.long a :: st) h Q ↔ Wp 105 22 (ls) (.long (-a) :: st) h Q) ∧
  (∀ (ls : Lo) (st : List Value) (h : Hp) (Q : Option Value → Hp → Prop), Wp 105 22 (ls) (st) h Q ↔ Wp 105 26 (ls) (st) h Q) ∧
  (∀ (ls : Lo) (st : List Value) (h : Hp) (Q : Option Value → Hp → Prop) (l0 l1 : Option Value) (a : Int64), Wp 105 25 (l0 :: l1 :: some (.long a) :: ls) (st) h Q ↔ Wp 105 26 (l0 :: l1 :: some (.long a) :: ls) (.long a :: st) h Q) ∧
  (∀ (ls : Lo) (st : List Value) (h : Hp) (Q : Option Value → Hp → Prop) (l0 l1 l2 l3 l4 l5 l6 l7 : Option Value) (a : Int64), Wp 105 26 (l0 :: l1 :: l2 :: l3 :: l4 :: l5 :: l6 :: l7 :: ls) (.long a :: st) h Q ↔ Wp 105 28 (l0 :: l1 :: l2 :: l3 :: l4 :: clr l5 :: some (.long a) :: none :: ls) (st) h Q) ∧
  (∀ (ls : Lo) (st : List Value) (h : Hp) (Q : Option Value → Hp → Prop) (l0 l1 l2 l3 l4 l5 : Option Value) (a : Int64), Wp 105 28 (l0 :: l1 :: l2 :: l3 :: l4 :: l5 :: some (.long a) :: ls) (st) h Q ↔ Wp 105 30 (l0 :: l1 :: l2 :: l3 :: l4 :: l5 :: some (.long a) :: ls) (.long a :: st) h Q) ∧
  (∀ (ls : Lo) (st : List Value) (h : Hp) (Q : Option Value → Hp → Prop), Wp 105 30 (ls) (st) h Q ↔ Wp 105 31 (ls) (.long 0 :: st) h Q) ∧
  (∀ (ls : Lo) (st : List Value) (h : Hp) (Q : Option Value → Hp → Prop) (a b : Int64), Wp 105 31 (ls) (.long b :: .long a :: st) h Q ↔ Wp 105 32 (ls) (.int (lg_cmp a b) :: st) h Q) ∧
  (∀ (ls : Lo) (st : List Value) (h : Hp) (Q : Option Value → Hp → Prop) (x : Int32), Wp 105 32 (ls) (.int x :: st) h Q ↔ Br 105 53 35 ls st h Q (x = 0)) ∧
  (∀ (ls : Lo) (st : List Value) (h : Hp) (Q : Option Value → Hp → Prop) (l0 l1 l2 l3 : Option Value) (a : Int64), Wp 105 35 (l0 :: l1 :: l2 :: l3 :: some (.long a) :: ls) (st) h Q ↔ Wp 105 37 (l0 :: l1 :: l2 :: l3 :: some (.long a) :: ls) (.long a :: st) h Q) ∧
  (∀ (ls : Lo) (st : List Value) (h : Hp) (Q : Option Value → Hp → Prop) (l0 l1 l2 l3 l4 l5 : Option Value) (a : Int64), Wp 105 37 (l0 :: l1 :: l2 :: l3 :: l4 :: l5 :: some (.long a) :: ls) (st) h Q ↔ Wp 105 39 (l0 :: l1 :: l2 :: l3 :: l4 :: l5 :: some (.long a) :: ls) (.long a :: st) h Q) ∧
  (∀ (ls : Lo) (st : List Value) (h : Hp) (Q : Option Value → Hp → Prop) (a b : Int64), Wp 105 39 (ls) (.long b :: .long a :: st) h Q ↔ (¬ b = 0 ∧ Wp 105 40 (ls) (.long (a - a / b * b) :: st) h Q)) := ⟨by intro ls st h Q a; exact e_lload_n d105_0 rfl,
  by intro ls st h Q; exact e_lconst d105_1 rfl,
  by intro ls st h Q a b; exact e_lcmp d105_2,
  by intro ls st h Q x; exact e_if d105_3 (by decide) c_ge,
  by intro ls st h Q a; exact e_lload_n d105_6 rfl,
  by intro ls st h Q a; exact e_lneg d105_7,
  by intro ls st h Q; exact e_goto d105_8 (by decide),
  by intro ls st h Q a; exact e_lload_n d105_11 rfl,
  by intro ls st h Q l0 l1 l2 l3 l4 l5 a; exact e_lstore d105_12 rfl,
  by intro ls st h Q l0 l1 a; exact e_lload_n d105_14 rfl,
  by intro ls st h Q; exact e_lconst d105_15 rfl,
  by intro ls st h Q a b; exact e_lcmp d105_16,
  by intro ls st h Q x; exact e_if d105_17 (by decide) c_ge,
  by intro ls st h Q l0 l1 a; exact e_lload_n d105_20 rfl,
  by intro ls st h Q a; exact e_lneg d105_21,
  by intro ls st h Q; exact e_goto d105_22 (by decide),
  by intro ls st h Q l0 l1 a; exact e_lload_n d105_25 rfl,
  by intro ls st h Q l0 l1 l2 l3 l4 l5 l6 l7 a; exact e_lstore d105_26 rfl,
  by intro ls st h Q l0 l1 l2 l3 l4 l5 a; exact e_lload d105_28 rfl,
  by intro ls st h Q; exact e_lconst d105_30 rfl,
  by intro ls st h Q a b; exact e_lcmp d105_31,
  by intro ls st h Q x; exact e_if d105_32 (by decide) c_eq,
  by intro ls st h Q l0 l1 l2 l3 a; exact e_lload d105_35 rfl,
  by intro ls st h Q l0 l1 l2 l3 l4 l5 a; exact e_lload d105_37 rfl,
  by intro ls st h Q a b; exact e_lrem d105_39⟩
set_option maxRecDepth 20000 in
theorem S105_1 : (∀ (ls : Lo) (st : List Value) (h : Hp) (Q : Option Value → Hp → Prop) (l0 l1 l2 l3 l4 l5 l6 l7 l8 l9 : Option Value) (a : Int64), Wp 105 40 (l0 :: l1 :: l2 :: l3 :: l4 :: l5 :: l6 :: l7 :: l8 :: l9 :: ls) (.long a :: st) h Q ↔ Wp 105 42 (l0 :: l1 :: l2 :: l3 :: l4 :: l5 :: l6 :: clr l7 :: some (.long a) :: none :: ls) (st) h Q) ∧
  (∀ (ls : Lo) (st : List Value) (h : Hp) (Q : Option Value → Hp → Prop) (l0 l1 l2 l3 l4 l5 : Option Value) (a : Int64), Wp 105 42 (l0 :: l1 :: l2 :: l3 :: l4 :: l5 :: some (.long a) :: ls) (st) h Q ↔ Wp 105 44 (l0 :: l1 :: l2 :: l3 :: l4 :: l5 :: some (.long a) :: ls) (.long a :: st) h Q) ∧
  (∀ (ls : Lo) (st : List Value) (h : Hp) (Q : Option Value → Hp → Prop) (l0 l1 l2 l3 l4 l5 : Option Value) (a : Int64), Wp 105 44 (l0 :: l1 :: l2 :: l3 :: l4 :: l5 :: ls) (.long a :: st) h Q ↔ Wp 105 46 (l0 :: l1 :: l2 :: clr l3 :: some (.long a) :: none :: ls) (st) h Q) ∧
  (∀ (ls : Lo) (st : List Value) (h : Hp) (Q : Option Value → Hp → Prop) (l0 l1 l2 l3 l4 l5 l6 l7 : Option Value) (a : Int64), Wp 105 46 (l0 :: l1 :: l2 :: l3 :: l4 :: l5 :: l6 :: l7 :: some (.long a) :: ls) (st) h Q ↔ Wp 105 48 (l0 :: l1 :: l2 :: l3 :: l4 :: l5 :: l6 :: l7 :: some (.long a) :: ls) (.long a :: st) h Q) ∧
  (∀ (ls : Lo) (st : List Value) (h : Hp) (Q : Option Value → Hp → Prop) (l0 l1 l2 l3 l4 l5 l6 l7 : Option Value) (a : Int64), Wp 105 48 (l0 :: l1 :: l2 :: l3 :: l4 :: l5 :: l6 :: l7 :: ls) (.long a :: st) h Q ↔ Wp 105 50 (l0 :: l1 :: l2 :: l3 :: l4 :: clr l5 :: some (.long a) :: none :: ls) (st) h Q) ∧
  (∀ (ls : Lo) (st : List Value) (h : Hp) (Q : Option Value → Hp → Prop), Wp 105 50 (ls) (st) h Q ↔ Wp 105 28 (ls) (st) h Q) ∧
  (∀ (ls : Lo) (st : List Value) (h : Hp) (Q : Option Value → Hp → Prop) (l0 l1 l2 l3 : Option Value) (a : Int64), Wp 105 53 (l0 :: l1 :: l2 :: l3 :: some (.long a) :: ls) (st) h Q ↔ Wp 105 55 (l0 :: l1 :: l2 :: l3 :: some (.long a) :: ls) (.long a :: st) h Q) ∧
  (∀ (ls : Lo) (h : Hp) (Q : Option Value → Hp → Prop) (a : Int64), Wp 105 55 (ls) ([.long a]) h Q ↔ Q (some (.long a)) h) := ⟨by intro ls st h Q l0 l1 l2 l3 l4 l5 l6 l7 l8 l9 a; exact e_lstore d105_40 rfl,
  by intro ls st h Q l0 l1 l2 l3 l4 l5 a; exact e_lload d105_42 rfl,
  by intro ls st h Q l0 l1 l2 l3 l4 l5 a; exact e_lstore d105_44 rfl,
  by intro ls st h Q l0 l1 l2 l3 l4 l5 l6 l7 a; exact e_lload d105_46 rfl,
  by intro ls st h Q l0 l1 l2 l3 l4 l5 l6 l7 a; exact e_lstore d105_48 rfl,
  by intro ls st h Q; exact e_goto d105_50 (by decide),
  by intro ls st h Q l0 l1 l2 l3 a; exact e_lload d105_53 rfl,
  by intros; exact e_rL d105_55 rfl⟩
theorem d106_0 : decode (byt 106) 0 = .ok (.lload_n 1, 1) := by decide +kernel
theorem d106_1 : decode (byt 106) 1 = .ok (.lload_n 3, 1) := by decide +kernel
theorem d106_2 : decode (byt 106) 2 = .ok (.invokestatic 87, 3) := by decide +kernel
theorem d106_5 : decode (byt 106) 5 = .ok (.lstore 5, 2) := by decide +kernel
theorem d106_7 : decode (byt 106) 7 = .ok (.aload_n 0, 1) := by decide +kernel
theorem d106_8 : decode (byt 106) 8 = .ok (.lload_n 3, 1) := by decide +kernel
theorem d106_9 : decode (byt 106) 9 = .ok (.lconst 0, 1) := by decide +kernel
theorem d106_10 : decode (byt 106) 10 = .ok (.lcmp, 1) := by decide +kernel
theorem d106_11 : decode (byt 106) 11 = .ok (.ifCond .ge 11, 3) := by decide +kernel
theorem d106_14 : decode (byt 106) 14 = .ok (.lload_n 1, 1) := by decide +kernel
theorem d106_15 : decode (byt 106) 15 = .ok (.lneg, 1) := by decide +kernel
theorem d106_16 : decode (byt 106) 16 = .ok (.lload 5, 2) := by decide +kernel
theorem d106_18 : decode (byt 106) 18 = .ok (.ldiv, 1) := by decide +kernel
theorem d106_19 : decode (byt 106) 19 = .ok (.goto 7, 3) := by decide +kernel
theorem d106_22 : decode (byt 106) 22 = .ok (.lload_n 1, 1) := by decide +kernel
theorem d106_23 : decode (byt 106) 23 = .ok (.lload 5, 2) := by decide +kernel
theorem d106_25 : decode (byt 106) 25 = .ok (.ldiv, 1) := by decide +kernel
theorem d106_26 : decode (byt 106) 26 = .ok (.putfield 91, 3) := by decide +kernel
theorem d106_29 : decode (byt 106) 29 = .ok (.aload_n 0, 1) := by decide +kernel
theorem d106_30 : decode (byt 106) 30 = .ok (.lload_n 3, 1) := by decide +kernel
theorem d106_31 : decode (byt 106) 31 = .ok (.lconst 0, 1) := by decide +kernel
theorem d106_32 : decode (byt 106) 32 = .ok (.lcmp, 1) := by decide +kernel
theorem d106_33 : decode (byt 106) 33 = .ok (.ifCond .ge 11, 3) := by decide +kernel
theorem d106_36 : decode (byt 106) 36 = .ok (.lload_n 3, 1) := by decide +kernel
theorem d106_37 : decode (byt 106) 37 = .ok (.lneg, 1) := by decide +kernel
theorem d106_38 : decode (byt 106) 38 = .ok (.lload 5, 2) := by decide +kernel
theorem d106_40 : decode (byt 106) 40 = .ok (.ldiv, 1) := by decide +kernel
theorem d106_41 : decode (byt 106) 41 = .ok (.goto 7, 3) := by decide +kernel
theorem d106_44 : decode (byt 106) 44 = .ok (.lload_n 3, 1) := by decide +kernel
theorem d106_45 : decode (byt 106) 45 = .ok (.lload 5, 2) := by decide +kernel
theorem d106_47 : decode (byt 106) 47 = .ok (.ldiv, 1) := by decide +kernel
theorem d106_48 : decode (byt 106) 48 = .ok (.putfield 95, 3) := by decide +kernel
theorem d106_51 : decode (byt 106) 51 = .ok (.return_, 1) := by decide +kernel
set_option maxRecDepth 20000 in
theorem S106_0 : (∀ (ls : Lo) (st : List Value) (h : Hp) (Q : Option Value → Hp → Prop) (l0 : Option Value) (a : Int64), Wp 106 0 (l0 :: some (.long a) :: ls) (st) h Q ↔ Wp 106 1 (l0 :: some (.long a) :: ls) (.long a :: st) h Q) ∧
  (∀ (ls : Lo) (st : List Value) (h : Hp) (Q : Option Value → Hp → Prop) (l0 l1 l2 : Option Value) (a : Int64), Wp 106 1 (l0 :: l1 :: l2 :: some (.long a) :: ls) (st) h Q ↔ Wp 106 2 (l0 :: l1 :: l2 :: some (.long a) :: ls) (.long a :: st) h Q) ∧
  (∀ (ls : Lo) (st : List Value) (h : Hp) (Q : Option Value → Hp → Prop) (x0 : Int64) (x1 : Int64), Wp 106 2 (ls) (.long x1 :: .long x0 :: st) h Q ↔ (wsum st ≤ 8 ∧ Call 105 [some (.long x0), none, some (.long x1), none, none, none, none, none, none, none] h 106 5 ls st Q)) ∧
  (∀ (ls : Lo) (st : List Value) (h : Hp) (Q : Option Value → Hp → Prop) (l0 l1 l2 l3 l4 l5 l6 : Option Value) (a : Int64), Wp 106 5 (l0 :: l1 :: l2 :: l3 :: l4 :: l5 :: l6 :: ls) (.long a :: st) h Q ↔ Wp 106 7 (l0 :: l1 :: l2 :: l3 :: clr l4 :: some (.long a) :: none :: ls) (st) h Q) ∧
  (∀ (ls : Lo) (st : List Value) (h : Hp) (Q : Option Value → Hp → Prop)  (i : Nat), Wp 106 7 (some (.ref i) :: ls) (st) h Q ↔ Wp 106 8 (some (.ref i) :: ls) (.ref i :: st) h Q) ∧
  (∀ (ls : Lo) (st : List Value) (h : Hp) (Q : Option Value → Hp → Prop) (l0 l1 l2 : Option Value) (a : Int64), Wp 106 8 (l0 :: l1 :: l2 :: some (.long a) :: ls) (st) h Q ↔ Wp 106 9 (l0 :: l1 :: l2 :: some (.long a) :: ls) (.long a :: st) h Q) ∧
  (∀ (ls : Lo) (st : List Value) (h : Hp) (Q : Option Value → Hp → Prop), Wp 106 9 (ls) (st) h Q ↔ Wp 106 10 (ls) (.long 0 :: st) h Q) ∧
  (∀ (ls : Lo) (st : List Value) (h : Hp) (Q : Option Value → Hp → Prop) (a b : Int64), Wp 106 10 (ls) (.long b :: .long a :: st) h Q ↔ Wp 106 11 (ls) (.int (lg_cmp a b) :: st) h Q) ∧
  (∀ (ls : Lo) (st : List Value) (h : Hp) (Q : Option Value → Hp → Prop) (x : Int32), Wp 106 11 (ls) (.int x :: st) h Q ↔ Br 106 22 14 ls st h Q (0 ≤ x)) ∧
  (∀ (ls : Lo) (st : List Value) (h : Hp) (Q : Option Value → Hp → Prop) (l0 : Option Value) (a : Int64), Wp 106 14 (l0 :: some (.long a) :: ls) (st) h Q ↔ Wp 106 15 (l0 :: some (.long a) :: ls) (.long a :: st) h Q) ∧
  (∀ (ls : Lo) (st : List Value) (h : Hp) (Q : Option Value → Hp → Prop) (a : Int64), Wp 106 15 (ls) (.long a :: st) h Q ↔ Wp 106 16 (ls) (.long (-a) :: st) h Q) ∧
  (∀ (ls : Lo) (st : List Value) (h : Hp) (Q : Option Value → Hp → Prop) (l0 l1 l2 l3 l4 : Option Value) (a : Int64), Wp 106 16 (l0 :: l1 :: l2 :: l3 :: l4 :: some (.long a) :: ls) (st) h Q ↔ Wp 106 18 (l0 :: l1 :: l2 :: l3 :: l4 :: some (.long a) :: ls) (.long a :: st) h Q) ∧
  (∀ (ls : Lo) (st : List Value) (h : Hp) (Q : Option Value → Hp → Prop) (a b : Int64), Wp 106 18 (ls) (.long b :: .long a :: st) h Q ↔ (¬ b = 0 ∧ Wp 106 19 (ls) (.long (a / b) :: st) h Q)) ∧
  (∀ (ls : Lo) (st : List Value) (h : Hp) (Q : Option Value → Hp → Prop), Wp 106 19 (ls) (st) h Q ↔ Wp 106 26 (ls) (st) h Q) ∧
  (∀ (ls : Lo) (st : List Value) (h : Hp) (Q : Option Value → Hp → Prop) (l0 : Option Value) (a : Int64), Wp 106 22 (l0 :: some (.long a) :: ls) (st) h Q ↔ Wp 106 23 (l0 :: some (.long a) :: ls) (.long a :: st) h Q) ∧
  (∀ (ls : Lo) (st : List Value) (h : Hp) (Q : Option Value → Hp → Prop) (l0 l1 l2 l3 l4 : Option Value) (a : Int64), Wp 106 23 (l0 :: l1 :: l2 :: l3 :: l4 :: some (.long a) :: ls) (st) h Q ↔ Wp 106 25 (l0 :: l1 :: l2 :: l3 :: l4 :: some (.long a) :: ls) (.long a :: st) h Q) ∧
  (∀ (ls : Lo) (st : List Value) (h : Hp) (Q : Option Value → Hp → Prop) (a b : Int64), Wp 106 25 (ls) (.long b :: .long a :: st) h Q ↔ (¬ b = 0 ∧ Wp 106 26 (ls) (.long (a / b) :: st) h Q)) ∧
  (∀ (ls : Lo) (st : List Value) (n sl : Nat) (C Z : Nat → Nat) (I : Nat → Nat → Int32) (L : Nat → Nat → Int64) (R : Nat → Nat → Nat) (Q : Option Value → Hp → Prop) (i : Nat) (a : Int64), Wp 106 26 (ls) (.long a :: .ref i :: st) (n, sl, C, Z, I, L, R) Q ↔ (C i = 11 ∧ Wp 106 29 (ls) (st) (n, sl, C, Z, I, u2 L i 28 a, R) Q)) ∧
  (∀ (ls : Lo) (st : List Value) (h : Hp) (Q : Option Value → Hp → Prop)  (i : Nat), Wp 106 29 (some (.ref i) :: ls) (st) h Q ↔ Wp 106 30 (some (.ref i) :: ls) (.ref i :: st) h Q) ∧
  (∀ (ls : Lo) (st : List Value) (h : Hp) (Q : Option Value → Hp → Prop) (l0 l1 l2 : Option Value) (a : Int64), Wp 106 30 (l0 :: l1 :: l2 :: some (.long a) :: ls) (st) h Q ↔ Wp 106 31 (l0 :: l1 :: l2 :: some (.long a) :: ls) (.long a :: st) h Q) ∧
  (∀ (ls : Lo) (st : List Value) (h : Hp) (Q : Option Value → Hp → Prop), Wp 106 31 (ls) (st) h Q ↔ Wp 106 32 (ls) (.long 0 :: st) h Q) ∧
  (∀ (ls : Lo) (st : List Value) (h : Hp) (Q : Option Value → Hp → Prop) (a b : Int64), Wp 106 32 (ls) (.long b :: .long a :: st) h Q ↔ Wp 106 33 (ls) (.int (lg_cmp a b) :: st) h Q) ∧
  (∀ (ls : Lo) (st : List Value) (h : Hp) (Q : Option Value → Hp → Prop) (x : Int32), Wp 106 33 (ls) (.int x :: st) h Q ↔ Br 106 44 36 ls st h Q (0 ≤ x)) ∧
  (∀ (ls : Lo) (st : List Value) (h : Hp) (Q : Option Value → Hp → Prop) (l0 l1 l2 : Option Value) (a : Int64), Wp 106 36 (l0 :: l1 :: l2 :: some (.long a) :: ls) (st) h Q ↔ Wp 106 37 (l0 :: l1 :: l2 :: some (.long a) :: ls) (.long a :: st) h Q) ∧
  (∀ (ls : Lo) (st : List Value) (h : Hp) (Q : Option Value → Hp → Prop) (a : Int64), Wp 106 37 (ls) (.long a :: st) h Q ↔ Wp 106 38 (ls) (.long (-a) :: st) h Q) := ⟨by intro ls st h Q l0 a; exact e_lload_n d106_0 rfl,
  by intro ls st h Q l0 l1 l2 a; exact e_lload_n d106_1 rfl,
  by intro ls st h Q x0 x1; exact e_is (k2 := 105) (as := [.long x0, .long x1]) d106_2 rfl (by decide) rfl rfl (by decide +kernel) (Nat.le_of_ble_eq_true rfl) rfl,
  by intro ls st h Q l0 l1 l2 l3 l4 l5 l6 a; exact e_lstore d106_5 rfl,
  by intro ls st h Q i; exact e_aload_n d106_7 rfl,
  by intro ls st h Q l0 l1 l2 a; exact e_lload_n d106_8 rfl,
  by intro ls st h Q; exact e_lconst d106_9 rfl,
  by intro ls st h Q a b; exact e_lcmp d106_10,
  by intro ls st h Q x; exact e_if d106_11 (by decide) c_ge,
  by intro ls st h Q l0 a; exact e_lload_n d106_14 rfl,
  by intro ls st h Q a; exact e_lneg d106_15,
  by intro ls st h Q l0 l1 l2 l3 l4 a; exact e_lload d106_16 rfl,
  by intro ls st h Q a b; exact e_ldiv d106_18,
  by intro ls st h Q; exact e_goto d106_19 (by decide),
  by intro ls st h Q l0 a; exact e_lload_n d106_22 rfl,
  by intro ls st h Q l0 l1 l2 l3 l4 a; exact e_lload d106_23 rfl,
  by intro ls st h Q a b; exact e_ldiv d106_25,
  by intro ls st n sl C Z I L R Q i a; exact e_putL (g := 10) (s := 28) d106_26 rfl (Or.inl rfl) (inG_ne (by decide)),
  by intro ls st h Q i; exact e_aload_n d106_29 rfl,
  by intro ls st h Q l0 l1 l2 a; exact e_lload_n d106_30 rfl,
  by intro ls st h Q; exact e_lconst d106_31 rfl,
  by intro ls st h Q a b; exact e_lcmp d106_32,
  by intro ls st h Q x; exact e_if d106_33 (by decide) c_ge,
  by intro ls st h Q l0 l1 l2 a; exact e_lload_n d106_36 rfl,
  by intro ls st h Q a; exact e_lneg d106_37⟩
set_option maxRecDepth 20000 in
theorem S106_1 : (∀ (ls : Lo) (st : List Value) (h : Hp) (Q : Option Value → Hp → Prop) (l0 l1 l2 l3 l4 : Option Value) (a : Int64), Wp 106 38 (l0 :: l1 :: l2 :: l3 :: l4 :: some (.long a) :: ls) (st) h Q ↔ Wp 106 40 (l0 :: l1 :: l2 :: l3 :: l4 :: some (.long a) :: ls) (.long a :: st) h Q) ∧
  (∀ (ls : Lo) (st : List Value) (h : Hp) (Q : Option Value → Hp → Prop) (a b : Int64), Wp 106 40 (ls) (.long b :: .long a :: st) h Q ↔ (¬ b = 0 ∧ Wp 106 41 (ls) (.long (a / b) :: st) h Q)) ∧
  (∀ (ls : Lo) (st : List Value) (h : Hp) (Q : Option Value → Hp → Prop), Wp 106 41 (ls) (st) h Q ↔ Wp 106 48 (ls) (st) h Q) ∧
  (∀ (ls : Lo) (st : List Value) (h : Hp) (Q : Option Value → Hp → Prop) (l0 l1 l2 : Option Value) (a : Int64), Wp 106 44 (l0 :: l1 :: l2 :: some (.long a) :: ls) (st) h Q ↔ Wp 106 45 (l0 :: l1 :: l2 :: some (.long a) :: ls) (.long a :: st) h Q) ∧
  (∀ (ls : Lo) (st : List Value) (h : Hp) (Q : Option Value → Hp → Prop) (l0 l1 l2 l3 l4 : Option Value) (a : Int64), Wp 106 45 (l0 :: l1 :: l2 :: l3 :: l4 :: some (.long a) :: ls) (st) h Q ↔ Wp 106 47 (l0 :: l1 :: l2 :: l3 :: l4 :: some (.long a) :: ls) (.long a :: st) h Q) ∧
  (∀ (ls : Lo) (st : List Value) (h : Hp) (Q : Option Value → Hp → Prop) (a b : Int64), Wp 106 47 (ls) (.long b :: .long a :: st) h Q ↔ (¬ b = 0 ∧ Wp 106 48 (ls) (.long (a / b) :: st) h Q)) ∧
  (∀ (ls : Lo) (st : List Value) (n sl : Nat) (C Z : Nat → Nat) (I : Nat → Nat → Int32) (L : Nat → Nat → Int64) (R : Nat → Nat → Nat) (Q : Option Value → Hp → Prop) (i : Nat) (a : Int64), Wp 106 48 (ls) (.long a :: .ref i :: st) (n, sl, C, Z, I, L, R) Q ↔ (C i = 11 ∧ Wp 106 51 (ls) (st) (n, sl, C, Z, I, u2 L i 29 a, R) Q)) ∧
  (∀ (ls : Lo) (h : Hp) (Q : Option Value → Hp → Prop), Wp 106 51 (ls) ([]) h Q ↔ Q none h) := ⟨by intro ls st h Q l0 l1 l2 l3 l4 a; exact e_lload d106_38 rfl,
  by intro ls st h Q a b; exact e_ldiv d106_40,
  by intro ls st h Q; exact e_goto d106_41 (by decide),
  by intro ls st h Q l0 l1 l2 a; exact e_lload_n d106_44 rfl,
  by intro ls st h Q l0 l1 l2 l3 l4 a; exact e_lload d106_45 rfl,
  by intro ls st h Q a b; exact e_ldiv d106_47,
  by intro ls st n sl C Z I L R Q i a; exact e_putL (g := 10) (s := 29) d106_48 rfl (Or.inl rfl) (inG_ne (by decide)),
  by intros; exact e_rV d106_51 rfl⟩
theorem d107_0 : decode (byt 107) 0 = .ok (.iload_n 1, 1) := by decide +kernel
theorem d107_1 : decode (byt 107) 1 = .ok (.ifCond .ne 10, 3) := by decide +kernel
theorem d107_4 : decode (byt 107) 4 = .ok (.aload_n 0, 1) := by decide +kernel
theorem d107_5 : decode (byt 107) 5 = .ok (.getfield 91, 3) := by decide +kernel
theorem d107_8 : decode (byt 107) 8 = .ok (.goto 7, 3) := by decide +kernel
theorem d107_11 : decode (byt 107) 11 = .ok (.aload_n 0, 1) := by decide +kernel
theorem d107_12 : decode (byt 107) 12 = .ok (.getfield 95, 3) := by decide +kernel
theorem d107_15 : decode (byt 107) 15 = .ok (.lreturn, 1) := by decide +kernel
set_option maxRecDepth 20000 in
theorem S107_0 : (∀ (ls : Lo) (st : List Value) (h : Hp) (Q : Option Value → Hp → Prop) (l0 : Option Value) (x : Int32), Wp 107 0 (l0 :: some (.int x) :: ls) (st) h Q ↔ Wp 107 1 (l0 :: some (.int x) :: ls) (.int x :: st) h Q) ∧
  (∀ (ls : Lo) (st : List Value) (h : Hp) (Q : Option Value → Hp → Prop) (x : Int32), Wp 107 1 (ls) (.int x :: st) h Q ↔ Br 107 11 4 ls st h Q (¬ x = 0)) ∧
  (∀ (ls : Lo) (st : List Value) (h : Hp) (Q : Option Value → Hp → Prop)  (i : Nat), Wp 107 4 (some (.ref i) :: ls) (st) h Q ↔ Wp 107 5 (some (.ref i) :: ls) (.ref i :: st) h Q) ∧
  (∀ (ls : Lo) (st : List Value) (n sl : Nat) (C Z : Nat → Nat) (I : Nat → Nat → Int32) (L : Nat → Nat → Int64) (R : Nat → Nat → Nat) (Q : Option Value → Hp → Prop) (i : Nat), Wp 107 5 (ls) (.ref i :: st) (n, sl, C, Z, I, L, R) Q ↔ (C i = 11 ∧ Wp 107 8 (ls) (.long (L i 28) :: st) (n, sl, C, Z, I, L, R) Q)) ∧
  (∀ (ls : Lo) (st : List Value) (h : Hp) (Q : Option Value → Hp → Prop), Wp 107 8 (ls) (st) h Q ↔ Wp 107 15 (ls) (st) h Q) ∧
  (∀ (ls : Lo) (st : List Value) (h : Hp) (Q : Option Value → Hp → Prop)  (i : Nat), Wp 107 11 (some (.ref i) :: ls) (st) h Q ↔ Wp 107 12 (some (.ref i) :: ls) (.ref i :: st) h Q) ∧
  (∀ (ls : Lo) (st : List Value) (n sl : Nat) (C Z : Nat → Nat) (I : Nat → Nat → Int32) (L : Nat → Nat → Int64) (R : Nat → Nat → Nat) (Q : Option Value → Hp → Prop) (i : Nat), Wp 107 12 (ls) (.ref i :: st) (n, sl, C, Z, I, L, R) Q ↔ (C i = 11 ∧ Wp 107 15 (ls) (.long (L i 29) :: st) (n, sl, C, Z, I, L, R) Q)) ∧
  (∀ (ls : Lo) (h : Hp) (Q : Option Value → Hp → Prop) (a : Int64), Wp 107 15 (ls) ([.long a]) h Q ↔ Q (some (.long a)) h) := ⟨by intro ls st h Q l0 x; exact e_iload_n d107_0 rfl,
  by intro ls st h Q x; exact e_if d107_1 (by decide) c_ne,
  by intro ls st h Q i; exact e_aload_n d107_4 rfl,
  by intro ls st n sl C Z I L R Q i; exact e_get (g := 10) (s := 28) (ty := 1) d107_5 rfl rfl (inG_ne (by decide)),
  by intro ls st h Q; exact e_goto d107_8 (by decide),
  by intro ls st h Q i; exact e_aload_n d107_11 rfl,
  by intro ls st n sl C Z I L R Q i; exact e_get (g := 10) (s := 29) (ty := 1) d107_12 rfl rfl (inG_ne (by decide)),
  by intros; exact e_rL d107_15 rfl⟩
theorem d108_0 : decode (byt 108) 0 = .ok (.aload_n 0, 1) := by decide +kernel
theorem d108_1 : decode (byt 108) 1 = .ok (.dup, 1) := by decide +kernel
theorem d108_2 : decode (byt 108) 2 = .ok (.getfield 83, 3) := by decide +kernel
theorem d108_5 : decode (byt 108) 5 = .ok (.dup_x1, 1) := by decide +kernel
theorem d108_6 : decode (byt 108) 6 = .ok (.iconst 1, 1) := by decide +kernel
theorem d108_7 : decode (byt 108) 7 = .ok (.iadd, 1) := by decide +kernel
theorem d108_8 : decode (byt 108) 8 = .ok (.putfield 83, 3) := by decide +kernel
theorem d108_11 : decode (byt 108) 11 = .ok (.istore 4, 2) := by decide +kernel
theorem d108_13 : decode (byt 108) 13 = .ok (.aload_n 0, 1) := by decide +kernel
theorem d108_14 : decode (byt 108) 14 = .ok (.getfield 7, 3) := by decide +kernel
theorem d108_17 : decode (byt 108) 17 = .ok (.iload 4, 2) := by decide +kernel
theorem d108_19 : decode (byt 108) 19 = .ok (.iload_n 1, 1) := by decide +kernel
theorem d108_20 : decode (byt 108) 20 = .ok (.iastore, 1) := by decide +kernel
theorem d108_21 : decode (byt 108) 21 = .ok (.aload_n 0, 1) := by decide +kernel
theorem d108_22 : decode (byt 108) 22 = .ok (.getfield 13, 3) := by decide +kernel
theorem d108_25 : decode (byt 108) 25 = .ok (.iload 4, 2) := by decide +kernel
theorem d108_27 : decode (byt 108) 27 = .ok (.iload_n 2, 1) := by decide +kernel
theorem d108_28 : decode (byt 108) 28 = .ok (.iastore, 1) := by decide +kernel
theorem d108_29 : decode (byt 108) 29 = .ok (.aload_n 0, 1) := by decide +kernel
theorem d108_30 : decode (byt 108) 30 = .ok (.getfield 16, 3) := by decide +kernel
theorem d108_33 : decode (byt 108) 33 = .ok (.iload 4, 2) := by decide +kernel
theorem d108_35 : decode (byt 108) 35 = .ok (.iload_n 3, 1) := by decide +kernel
theorem d108_36 : decode (byt 108) 36 = .ok (.iastore, 1) := by decide +kernel
theorem d108_37 : decode (byt 108) 37 = .ok (.aload_n 0, 1) := by decide +kernel
theorem d108_38 : decode (byt 108) 38 = .ok (.getfield 19, 3) := by decide +kernel
theorem d108_41 : decode (byt 108) 41 = .ok (.iload 4, 2) := by decide +kernel
theorem d108_43 : decode (byt 108) 43 = .ok (.iconst 0, 1) := by decide +kernel
theorem d108_44 : decode (byt 108) 44 = .ok (.iastore, 1) := by decide +kernel
theorem d108_45 : decode (byt 108) 45 = .ok (.iconst 0, 1) := by decide +kernel
theorem d108_46 : decode (byt 108) 46 = .ok (.istore 5, 2) := by decide +kernel
theorem d108_48 : decode (byt 108) 48 = .ok (.iload 5, 2) := by decide +kernel
theorem d108_50 : decode (byt 108) 50 = .ok (.bipush 9, 2) := by decide +kernel
theorem d108_52 : decode (byt 108) 52 = .ok (.if_icmp .ge 23, 3) := by decide +kernel
theorem d108_55 : decode (byt 108) 55 = .ok (.aload_n 0, 1) := by decide +kernel
theorem d108_56 : decode (byt 108) 56 = .ok (.getfield 22, 3) := by decide +kernel
theorem d108_59 : decode (byt 108) 59 = .ok (.bipush 9, 2) := by decide +kernel
theorem d108_61 : decode (byt 108) 61 = .ok (.iload 4, 2) := by decide +kernel
theorem d108_63 : decode (byt 108) 63 = .ok (.imul, 1) := by decide +kernel
theorem d108_64 : decode (byt 108) 64 = .ok (.iload 5, 2) := by decide +kernel
theorem d108_66 : decode (byt 108) 66 = .ok (.iadd, 1) := by decide +kernel
theorem d108_67 : decode (byt 108) 67 = .ok (.iconst 0, 1) := by decide +kernel
theorem d108_68 : decode (byt 108) 68 = .ok (.iastore, 1) := by decide +kernel
theorem d108_69 : decode (byt 108) 69 = .ok (.iinc 5 1, 3) := by decide +kernel
theorem d108_72 : decode (byt 108) 72 = .ok (.goto (-24), 3) := by decide +kernel
theorem d108_75 : decode (byt 108) 75 = .ok (.iconst 0, 1) := by decide +kernel
theorem d108_76 : decode (byt 108) 76 = .ok (.istore 5, 2) := by decide +kernel
theorem d108_78 : decode (byt 108) 78 = .ok (.iload 5, 2) := by decide +kernel
theorem d108_80 : decode (byt 108) 80 = .ok (.iconst 3, 1) := by decide +kernel
theorem d108_81 : decode (byt 108) 81 = .ok (.if_icmp .ge 35, 3) := by decide +kernel
theorem d108_84 : decode (byt 108) 84 = .ok (.aload_n 0, 1) := by decide +kernel
theorem d108_85 : decode (byt 108) 85 = .ok (.getfield 25, 3) := by decide +kernel
theorem d108_88 : decode (byt 108) 88 = .ok (.iconst 3, 1) := by decide +kernel
theorem d108_89 : decode (byt 108) 89 = .ok (.iload 4, 2) := by decide +kernel
theorem d108_91 : decode (byt 108) 91 = .ok (.imul, 1) := by decide +kernel
theorem d108_92 : decode (byt 108) 92 = .ok (.iload 5, 2) := by decide +kernel
theorem d108_94 : decode (byt 108) 94 = .ok (.iadd, 1) := by decide +kernel
theorem d108_95 : decode (byt 108) 95 = .ok (.iconst 0, 1) := by decide +kernel
theorem d108_96 : decode (byt 108) 96 = .ok (.iastore, 1) := by decide +kernel
theorem d108_97 : decode (byt 108) 97 = .ok (.aload_n 0, 1) := by decide +kernel
theorem d108_98 : decode (byt 108) 98 = .ok (.getfield 28, 3) := by decide +kernel
theorem d108_101 : decode (byt 108) 101 = .ok (.iconst 3, 1) := by decide +kernel
theorem d108_102 : decode (byt 108) 102 = .ok (.iload 4, 2) := by decide +kernel
theorem d108_104 : decode (byt 108) 104 = .ok (.imul, 1) := by decide +kernel
theorem d108_105 : decode (byt 108) 105 = .ok (.iload 5, 2) := by decide +kernel
theorem d108_107 : decode (byt 108) 107 = .ok (.iadd, 1) := by decide +kernel
theorem d108_108 : decode (byt 108) 108 = .ok (.iconst 0, 1) := by decide +kernel
theorem d108_109 : decode (byt 108) 109 = .ok (.iastore, 1) := by decide +kernel
theorem d108_110 : decode (byt 108) 110 = .ok (.iinc 5 1, 3) := by decide +kernel
theorem d108_113 : decode (byt 108) 113 = .ok (.goto (-35), 3) := by decide +kernel
theorem d108_116 : decode (byt 108) 116 = .ok (.iload 4, 2) := by decide +kernel
theorem d108_118 : decode (byt 108) 118 = .ok (.ireturn, 1) := by decide +kernel
set_option maxRecDepth 20000 in
theorem S108_0 : (∀ (ls : Lo) (st : List Value) (h : Hp) (Q : Option Value → Hp → Prop)  (i : Nat), Wp 108 0 (some (.ref i) :: ls) (st) h Q ↔ Wp 108 1 (some (.ref i) :: ls) (.ref i :: st) h Q) ∧
  (∀ (ls : Lo) (st : List Value) (h : Hp) (Q : Option Value → Hp → Prop) (x : Int32), Wp 108 1 (ls) (.int x :: st) h Q ↔ Wp 108 2 (ls) (.int x :: .int x :: st) h Q) ∧
  (∀ (ls : Lo) (st : List Value) (h : Hp) (Q : Option Value → Hp → Prop) (i : Nat), Wp 108 1 (ls) (.ref i :: st) h Q ↔ Wp 108 2 (ls) (.ref i :: .ref i :: st) h Q) ∧
  (∀ (ls : Lo) (st : List Value) (n sl : Nat) (C Z : Nat → Nat) (I : Nat → Nat → Int32) (L : Nat → Nat → Int64) (R : Nat → Nat → Nat) (Q : Option Value → Hp → Prop) (i : Nat), Wp 108 2 (ls) (.ref i :: st) (n, sl, C, Z, I, L, R) Q ↔ (C i = 11 ∧ Wp 108 5 (ls) (.int (I i 0) :: st) (n, sl, C, Z, I, L, R) Q)) ∧
  (∀ (ls : Lo) (st : List Value) (h : Hp) (Q : Option Value → Hp → Prop) (x : Int32) (i : Nat), Wp 108 5 (ls) (.int x :: .ref i :: st) h Q ↔ Wp 108 6 (ls) (.int x :: .ref i :: .int x :: st) h Q) ∧
  (∀ (ls : Lo) (st : List Value) (h : Hp) (Q : Option Value → Hp → Prop), Wp 108 6 (ls) (st) h Q ↔ Wp 108 7 (ls) (.int (1) :: st) h Q) ∧
  (∀ (ls : Lo) (st : List Value) (h : Hp) (Q : Option Value → Hp → Prop) (x y : Int32), Wp 108 7 (ls) (.int y :: .int x :: st) h Q ↔ Wp 108 8 (ls) (.int (x + y) :: st) h Q) ∧
  (∀ (ls : Lo) (st : List Value) (n sl : Nat) (C Z : Nat → Nat) (I : Nat → Nat → Int32) (L : Nat → Nat → Int64) (R : Nat → Nat → Nat) (Q : Option Value → Hp → Prop) (i : Nat) (x : Int32), Wp 108 8 (ls) (.int x :: .ref i :: st) (n, sl, C, Z, I, L, R) Q ↔ (C i = 11 ∧ Wp 108 11 (ls) (st) (n, sl, C, Z, u2 I i 0 x, L, R) Q)) ∧
  (∀ (ls : Lo) (st : List Value) (h : Hp) (Q : Option Value → Hp → Prop) (l0 l1 l2 l3 l4 : Option Value) (x : Int32), Wp 108 11 (l0 :: l1 :: l2 :: l3 :: l4 :: ls) (.int x :: st) h Q ↔ Wp 108 13 (l0 :: l1 :: l2 :: clr l3 :: some (.int x) :: ls) (st) h Q) ∧
  (∀ (ls : Lo) (st : List Value) (h : Hp) (Q : Option Value → Hp → Prop)  (i : Nat), Wp 108 13 (some (.ref i) :: ls) (st) h Q ↔ Wp 108 14 (some (.ref i) :: ls) (.ref i :: st) h Q) ∧
  (∀ (ls : Lo) (st : List Value) (n sl : Nat) (C Z : Nat → Nat) (I : Nat → Nat → Int32) (L : Nat → Nat → Int64) (R : Nat → Nat → Nat) (Q : Option Value → Hp → Prop) (i : Nat), Wp 108 14 (ls) (.ref i :: st) (n, sl, C, Z, I, L, R) Q ↔ (C i = 11 ∧ Wp 108 17 (ls) (.ref (R i 1) :: st) (n, sl, C, Z, I, L, R) Q)) ∧
  (∀ (ls : Lo) (st : List Value) (h : Hp) (Q : Option Value → Hp → Prop) (l0 l1 l2 l3 : Option Value) (x : Int32), Wp 108 17 (l0 :: l1 :: l2 :: l3 :: some (.int x) :: ls) (st) h Q ↔ Wp 108 19 (l0 :: l1 :: l2 :: l3 :: some (.int x) :: ls) (.int x :: st) h Q) ∧
  (∀ (ls : Lo) (st : List Value) (h : Hp) (Q : Option Value → Hp → Prop) (l0 : Option Value) (x : Int32), Wp 108 19 (l0 :: some (.int x) :: ls) (st) h Q ↔ Wp 108 20 (l0 :: some (.int x) :: ls) (.int x :: st) h Q) ∧
  (∀ (ls : Lo) (st : List Value) (n sl : Nat) (C Z : Nat → Nat) (I : Nat → Nat → Int32) (L : Nat → Nat → Int64) (R : Nat → Nat → Nat) (Q : Option Value → Hp → Prop) (i : Nat) (x y : Int32), Wp 108 20 (ls) (.int x :: .int y :: .ref i :: st) (n, sl, C, Z, I, L, R) Q ↔ ((inb y (Z i) = true ∧ C i = 21) ∧ Wp 108 21 (ls) (st) (n, sl, C, Z, u2 I i (ix y) x, L, R) Q)) ∧
  (∀ (ls : Lo) (st : List Value) (h : Hp) (Q : Option Value → Hp → Prop)  (i : Nat), Wp 108 21 (some (.ref i) :: ls) (st) h Q ↔ Wp 108 22 (some (.ref i) :: ls) (.ref i :: st) h Q) ∧
  (∀ (ls : Lo) (st : List Value) (n sl : Nat) (C Z : Nat → Nat) (I : Nat → Nat → Int32) (L : Nat → Nat → Int64) (R : Nat → Nat → Nat) (Q : Option Value → Hp → Prop) (i : Nat), Wp 108 22 (ls) (.ref i :: st) (n, sl, C, Z, I, L, R) Q ↔ (C i = 11 ∧ Wp 108 25 (ls) (.ref (R i 2) :: st) (n, sl, C, Z, I, L, R) Q)) ∧
  (∀ (ls : Lo) (st : List Value) (h : Hp) (Q : Option Value → Hp → Prop) (l0 l1 l2 l3 : Option Value) (x : Int32), Wp 108 25 (l0 :: l1 :: l2 :: l3 :: some (.int x) :: ls) (st) h Q ↔ Wp 108 27 (l0 :: l1 :: l2 :: l3 :: some (.int x) :: ls) (.int x :: st) h Q) ∧
  (∀ (ls : Lo) (st : List Value) (h : Hp) (Q : Option Value → Hp → Prop) (l0 l1 : Option Value) (x : Int32), Wp 108 27 (l0 :: l1 :: some (.int x) :: ls) (st) h Q ↔ Wp 108 28 (l0 :: l1 :: some (.int x) :: ls) (.int x :: st) h Q) ∧
  (∀ (ls : Lo) (st : List Value) (n sl : Nat) (C Z : Nat → Nat) (I : Nat → Nat → Int32) (L : Nat → Nat → Int64) (R : Nat → Nat → Nat) (Q : Option Value → Hp → Prop) (i : Nat) (x y : Int32), Wp 108 28 (ls) (.int x :: .int y :: .ref i :: st) (n, sl, C, Z, I, L, R) Q ↔ ((inb y (Z i) = true ∧ C i = 21) ∧ Wp 108 29 (ls) (st) (n, sl, C, Z, u2 I i (ix y) x, L, R) Q)) ∧
  (∀ (ls : Lo) (st : List Value) (h : Hp) (Q : Option Value → Hp → Prop)  (i : Nat), Wp 108 29 (some (.ref i) :: ls) (st) h Q ↔ Wp 108 30 (some (.ref i) :: ls) (.ref i :: st) h Q) ∧
  (∀ (ls : Lo) (st : List Value) (n sl : Nat) (C Z : Nat → Nat) (I : Nat → Nat → Int32) (L : Nat → Nat → Int64) (R : Nat → Nat → Nat) (Q : Option Value → Hp → Prop) (i : Nat), Wp 108 30 (ls) (.ref i :: st) (n, sl, C, Z, I, L, R) Q ↔ (C i = 11 ∧ Wp 108 33 (ls) (.ref (R i 3) :: st) (n, sl, C, Z, I, L, R) Q)) ∧
  (∀ (ls : Lo) (st : List Value) (h : Hp) (Q : Option Value → Hp → Prop) (l0 l1 l2 l3 : Option Value) (x : Int32), Wp 108 33 (l0 :: l1 :: l2 :: l3 :: some (.int x) :: ls) (st) h Q ↔ Wp 108 35 (l0 :: l1 :: l2 :: l3 :: some (.int x) :: ls) (.int x :: st) h Q) ∧
  (∀ (ls : Lo) (st : List Value) (h : Hp) (Q : Option Value → Hp → Prop) (l0 l1 l2 : Option Value) (x : Int32), Wp 108 35 (l0 :: l1 :: l2 :: some (.int x) :: ls) (st) h Q ↔ Wp 108 36 (l0 :: l1 :: l2 :: some (.int x) :: ls) (.int x :: st) h Q) ∧
  (∀ (ls : Lo) (st : List Value) (n sl : Nat) (C Z : Nat → Nat) (I : Nat → Nat → Int32) (L : Nat → Nat → Int64) (R : Nat → Nat → Nat) (Q : Option Value → Hp → Prop) (i : Nat) (x y : Int32), Wp 108 36 (ls) (.int x :: .int y :: .ref i :: st) (n, sl, C, Z, I, L, R) Q ↔ ((inb y (Z i) = true ∧ C i = 21) ∧ Wp 108 37 (ls) (st) (n, sl, C, Z, u2 I i (ix y) x, L, R) Q)) ∧
  (∀ (ls : Lo) (st : List Value) (h : Hp) (Q : Option Value → Hp → Prop)  (i : Nat), Wp 108 37 (some (.ref i) :: ls) (st) h Q ↔ Wp 108 38 (some (.ref i) :: ls) (.ref i :: st) h Q) := ⟨by intro ls st h Q i; exact e_aload_n d108_0 rfl,
  by intro ls st h Q x; exact e_dupI d108_1,
  by intro ls st h Q i; exact e_dupR d108_1,
  by intro ls st n sl C Z I L R Q i; exact e_get (g := 10) (s := 0) (ty := 0) d108_2 rfl rfl (inG_ne (by decide)),
  by intro ls st h Q x i; exact e_dx1 d108_5,
  by intro ls st h Q; exact e_iconst d108_6 rfl,
  by intro ls st h Q x y; exact e_iadd d108_7,
  by intro ls st n sl C Z I L R Q i x; exact e_putI (g := 10) (s := 0) d108_8 rfl (Or.inl rfl) (inG_ne (by decide)),
  by intro ls st h Q l0 l1 l2 l3 l4 x; exact e_istore d108_11 rfl,
  by intro ls st h Q i; exact e_aload_n d108_13 rfl,
  by intro ls st n sl C Z I L R Q i; exact e_get (g := 10) (s := 1) (ty := 2) d108_14 rfl rfl (inG_ne (by decide)),
  by intro ls st h Q l0 l1 l2 l3 x; exact e_iload d108_17 rfl,
  by intro ls st h Q l0 x; exact e_iload_n d108_19 rfl,
  by intro ls st n sl C Z I L R Q i x y; exact e_iast d108_20,
  by intro ls st h Q i; exact e_aload_n d108_21 rfl,
  by intro ls st n sl C Z I L R Q i; exact e_get (g := 10) (s := 2) (ty := 2) d108_22 rfl rfl (inG_ne (by decide)),
  by intro ls st h Q l0 l1 l2 l3 x; exact e_iload d108_25 rfl,
  by intro ls st h Q l0 l1 x; exact e_iload_n d108_27 rfl,
  by intro ls st n sl C Z I L R Q i x y; exact e_iast d108_28,
  by intro ls st h Q i; exact e_aload_n d108_29 rfl,
  by intro ls st n sl C Z I L R Q i; exact e_get (g := 10) (s := 3) (ty := 2) d108_30 rfl rfl (inG_ne (by decide)),
  by intro ls st h Q l0 l1 l2 l3 x; exact e_iload d108_33 rfl,
  by intro ls st h Q l0 l1 l2 x; exact e_iload_n d108_35 rfl,
  by intro ls st n sl C Z I L R Q i x y; exact e_iast d108_36,
  by intro ls st h Q i; exact e_aload_n d108_37 rfl⟩
set_option maxRecDepth 20000 in
theorem S108_1 : (∀ (ls : Lo) (st : List Value) (n sl : Nat) (C Z : Nat → Nat) (I : Nat → Nat → Int32) (L : Nat → Nat → Int64) (R : Nat → Nat → Nat) (Q : Option Value → Hp → Prop) (i : Nat), Wp 108 38 (ls) (.ref i :: st) (n, sl, C, Z, I, L, R) Q ↔ (C i = 11 ∧ Wp 108 41 (ls) (.ref (R i 4) :: st) (n, sl, C, Z, I, L, R) Q)) ∧
  (∀ (ls : Lo) (st : List Value) (h : Hp) (Q : Option Value → Hp → Prop) (l0 l1 l2 l3 : Option Value) (x : Int32), Wp 108 41 (l0 :: l1 :: l2 :: l3 :: some (.int x) :: ls) (st) h Q ↔ Wp 108 43 (l0 :: l1 :: l2 :: l3 :: some (.int x) :: ls) (.int x :: st) h Q) ∧
  (∀ (ls : Lo) (st : List Value) (h : Hp) (Q : Option Value → Hp → Prop), Wp 108 43 (ls) (st) h Q ↔ Wp 108 44 (ls) (.int (0) :: st) h Q) ∧
  (∀ (ls : Lo) (st : List Value) (n sl : Nat) (C Z : Nat → Nat) (I : Nat → Nat → Int32) (L : Nat → Nat → Int64) (R : Nat → Nat → Nat) (Q : Option Value → Hp → Prop) (i : Nat) (x y : Int32), Wp 108 44 (ls) (.int x :: .int y :: .ref i :: st) (n, sl, C, Z, I, L, R) Q ↔ ((inb y (Z i) = true ∧ C i = 21) ∧ Wp 108 45 (ls) (st) (n, sl, C, Z, u2 I i (ix y) x, L, R) Q)) ∧
  (∀ (ls : Lo) (st : List Value) (h : Hp) (Q : Option Value → Hp → Prop), Wp 108 45 (ls) (st) h Q ↔ Wp 108 46 (ls) (.int (0) :: st) h Q) ∧
  (∀ (ls : Lo) (st : List Value) (h : Hp) (Q : Option Value → Hp → Prop) (l0 l1 l2 l3 l4 l5 : Option Value) (x : Int32), Wp 108 46 (l0 :: l1 :: l2 :: l3 :: l4 :: l5 :: ls) (.int x :: st) h Q ↔ Wp 108 48 (l0 :: l1 :: l2 :: l3 :: clr l4 :: some (.int x) :: ls) (st) h Q) ∧
  (∀ (ls : Lo) (st : List Value) (h : Hp) (Q : Option Value → Hp → Prop) (l0 l1 l2 l3 l4 : Option Value) (x : Int32), Wp 108 48 (l0 :: l1 :: l2 :: l3 :: l4 :: some (.int x) :: ls) (st) h Q ↔ Wp 108 50 (l0 :: l1 :: l2 :: l3 :: l4 :: some (.int x) :: ls) (.int x :: st) h Q) ∧
  (∀ (ls : Lo) (st : List Value) (h : Hp) (Q : Option Value → Hp → Prop), Wp 108 50 (ls) (st) h Q ↔ Wp 108 52 (ls) (.int (9) :: st) h Q) ∧
  (∀ (ls : Lo) (st : List Value) (h : Hp) (Q : Option Value → Hp → Prop) (x y : Int32), Wp 108 52 (ls) (.int y :: .int x :: st) h Q ↔ Br 108 75 55 ls st h Q (y ≤ x)) ∧
  (∀ (ls : Lo) (st : List Value) (h : Hp) (Q : Option Value → Hp → Prop)  (i : Nat), Wp 108 55 (some (.ref i) :: ls) (st) h Q ↔ Wp 108 56 (some (.ref i) :: ls) (.ref i :: st) h Q) ∧
  (∀ (ls : Lo) (st : List Value) (n sl : Nat) (C Z : Nat → Nat) (I : Nat → Nat → Int32) (L : Nat → Nat → Int64) (R : Nat → Nat → Nat) (Q : Option Value → Hp → Prop) (i : Nat), Wp 108 56 (ls) (.ref i :: st) (n, sl, C, Z, I, L, R) Q ↔ (C i = 11 ∧ Wp 108 59 (ls) (.ref (R i 5) :: st) (n, sl, C, Z, I, L, R) Q)) ∧
  (∀ (ls : Lo) (st : List Value) (h : Hp) (Q : Option Value → Hp → Prop), Wp 108 59 (ls) (st) h Q ↔ Wp 108 61 (ls) (.int (9) :: st) h Q) ∧
  (∀ (ls : Lo) (st : List Value) (h : Hp) (Q : Option Value → Hp → Prop) (l0 l1 l2 l3 : Option Value) (x : Int32), Wp 108 61 (l0 :: l1 :: l2 :: l3 :: some (.int x) :: ls) (st) h Q ↔ Wp 108 63 (l0 :: l1 :: l2 :: l3 :: some (.int x) :: ls) (.int x :: st) h Q) ∧
  (∀ (ls : Lo) (st : List Value) (h : Hp) (Q : Option Value → Hp → Prop) (x y : Int32), Wp 108 63 (ls) (.int y :: .int x :: st) h Q ↔ Wp 108 64 (ls) (.int (x * y) :: st) h Q) ∧
  (∀ (ls : Lo) (st : List Value) (h : Hp) (Q : Option Value → Hp → Prop) (l0 l1 l2 l3 l4 : Option Value) (x : Int32), Wp 108 64 (l0 :: l1 :: l2 :: l3 :: l4 :: some (.int x) :: ls) (st) h Q ↔ Wp 108 66 (l0 :: l1 :: l2 :: l3 :: l4 :: some (.int x) :: ls) (.int x :: st) h Q) ∧
  (∀ (ls : Lo) (st : List Value) (h : Hp) (Q : Option Value → Hp → Prop) (x y : Int32), Wp 108 66 (ls) (.int y :: .int x :: st) h Q ↔ Wp 108 67 (ls) (.int (x + y) :: st) h Q) ∧
  (∀ (ls : Lo) (st : List Value) (h : Hp) (Q : Option Value → Hp → Prop), Wp 108 67 (ls) (st) h Q ↔ Wp 108 68 (ls) (.int (0) :: st) h Q) ∧
  (∀ (ls : Lo) (st : List Value) (n sl : Nat) (C Z : Nat → Nat) (I : Nat → Nat → Int32) (L : Nat → Nat → Int64) (R : Nat → Nat → Nat) (Q : Option Value → Hp → Prop) (i : Nat) (x y : Int32), Wp 108 68 (ls) (.int x :: .int y :: .ref i :: st) (n, sl, C, Z, I, L, R) Q ↔ ((inb y (Z i) = true ∧ C i = 21) ∧ Wp 108 69 (ls) (st) (n, sl, C, Z, u2 I i (ix y) x, L, R) Q)) ∧
  (∀ (ls : Lo) (st : List Value) (h : Hp) (Q : Option Value → Hp → Prop) (l0 l1 l2 l3 l4 : Option Value) (x : Int32), Wp 108 69 (l0 :: l1 :: l2 :: l3 :: l4 :: some (.int x) :: ls) (st) h Q ↔ Wp 108 72 (l0 :: l1 :: l2 :: l3 :: clr l4 :: some (.int (x + (1))) :: ls) (st) h Q) ∧
  (∀ (ls : Lo) (st : List Value) (h : Hp) (Q : Option Value → Hp → Prop), Wp 108 72 (ls) (st) h Q ↔ Wp 108 48 (ls) (st) h Q) ∧
  (∀ (ls : Lo) (st : List Value) (h : Hp) (Q : Option Value → Hp → Prop), Wp 108 75 (ls) (st) h Q ↔ Wp 108 76 (ls) (.int (0) :: st) h Q) ∧
  (∀ (ls : Lo) (st : List Value) (h : Hp) (Q : Option Value → Hp → Prop) (l0 l1 l2 l3 l4 l5 : Option Value) (x : Int32), Wp 108 76 (l0 :: l1 :: l2 :: l3 :: l4 :: l5 :: ls) (.int x :: st) h Q ↔ Wp 108 78 (l0 :: l1 :: l2 :: l3 :: clr l4 :: some (.int x) :: ls) (st) h Q) ∧
  (∀ (ls : Lo) (st : List Value) (h : Hp) (Q : Option Value → Hp → Prop) (l0 l1 l2 l3 l4 : Option Value) (x : Int32), Wp 108 78 (l0 :: l1 :: l2 :: l3 :: l4 :: some (.int x) :: ls) (st) h Q ↔ Wp 108 80 (l0 :: l1 :: l2 :: l3 :: l4 :: some (.int x) :: ls) (.int x :: st) h Q) ∧
  (∀ (ls : Lo) (st : List Value) (h : Hp) (Q : Option Value → Hp → Prop), Wp 108 80 (ls) (st) h Q ↔ Wp 108 81 (ls) (.int (3) :: st) h Q) ∧
  (∀ (ls : Lo) (st : List Value) (h : Hp) (Q : Option Value → Hp → Prop) (x y : Int32), Wp 108 81 (ls) (.int y :: .int x :: st) h Q ↔ Br 108 116 84 ls st h Q (y ≤ x)) := ⟨by intro ls st n sl C Z I L R Q i; exact e_get (g := 10) (s := 4) (ty := 2) d108_38 rfl rfl (inG_ne (by decide)),
  by intro ls st h Q l0 l1 l2 l3 x; exact e_iload d108_41 rfl,
  by intro ls st h Q; exact e_iconst d108_43 rfl,
  by intro ls st n sl C Z I L R Q i x y; exact e_iast d108_44,
  by intro ls st h Q; exact e_iconst d108_45 rfl,
  by intro ls st h Q l0 l1 l2 l3 l4 l5 x; exact e_istore d108_46 rfl,
  by intro ls st h Q l0 l1 l2 l3 l4 x; exact e_iload d108_48 rfl,
  by intro ls st h Q; exact e_bipush d108_50 rfl,
  by intro ls st h Q x y; exact e_ic d108_52 (by decide) c_ge,
  by intro ls st h Q i; exact e_aload_n d108_55 rfl,
  by intro ls st n sl C Z I L R Q i; exact e_get (g := 10) (s := 5) (ty := 2) d108_56 rfl rfl (inG_ne (by decide)),
  by intro ls st h Q; exact e_bipush d108_59 rfl,
  by intro ls st h Q l0 l1 l2 l3 x; exact e_iload d108_61 rfl,
  by intro ls st h Q x y; exact e_imul d108_63,
  by intro ls st h Q l0 l1 l2 l3 l4 x; exact e_iload d108_64 rfl,
  by intro ls st h Q x y; exact e_iadd d108_66,
  by intro ls st h Q; exact e_iconst d108_67 rfl,
  by intro ls st n sl C Z I L R Q i x y; exact e_iast d108_68,
  by intro ls st h Q l0 l1 l2 l3 l4 x; exact e_iinc d108_69 rfl rfl rfl,
  by intro ls st h Q; exact e_goto d108_72 (by decide),
  by intro ls st h Q; exact e_iconst d108_75 rfl,
  by intro ls st h Q l0 l1 l2 l3 l4 l5 x; exact e_istore d108_76 rfl,
  by intro ls st h Q l0 l1 l2 l3 l4 x; exact e_iload d108_78 rfl,
  by intro ls st h Q; exact e_iconst d108_80 rfl,
  by intro ls st h Q x y; exact e_ic d108_81 (by decide) c_ge⟩
set_option maxRecDepth 20000 in
theorem S108_2 : (∀ (ls : Lo) (st : List Value) (h : Hp) (Q : Option Value → Hp → Prop)  (i : Nat), Wp 108 84 (some (.ref i) :: ls) (st) h Q ↔ Wp 108 85 (some (.ref i) :: ls) (.ref i :: st) h Q) ∧
  (∀ (ls : Lo) (st : List Value) (n sl : Nat) (C Z : Nat → Nat) (I : Nat → Nat → Int32) (L : Nat → Nat → Int64) (R : Nat → Nat → Nat) (Q : Option Value → Hp → Prop) (i : Nat), Wp 108 85 (ls) (.ref i :: st) (n, sl, C, Z, I, L, R) Q ↔ (C i = 11 ∧ Wp 108 88 (ls) (.ref (R i 6) :: st) (n, sl, C, Z, I, L, R) Q)) ∧
  (∀ (ls : Lo) (st : List Value) (h : Hp) (Q : Option Value → Hp → Prop), Wp 108 88 (ls) (st) h Q ↔ Wp 108 89 (ls) (.int (3) :: st) h Q) ∧
  (∀ (ls : Lo) (st : List Value) (h : Hp) (Q : Option Value → Hp → Prop) (l0 l1 l2 l3 : Option Value) (x : Int32), Wp 108 89 (l0 :: l1 :: l2 :: l3 :: some (.int x) :: ls) (st) h Q ↔ Wp 108 91 (l0 :: l1 :: l2 :: l3 :: some (.int x) :: ls) (.int x :: st) h Q) ∧
  (∀ (ls : Lo) (st : List Value) (h : Hp) (Q : Option Value → Hp → Prop) (x y : Int32), Wp 108 91 (ls) (.int y :: .int x :: st) h Q ↔ Wp 108 92 (ls) (.int (x * y) :: st) h Q) ∧
  (∀ (ls : Lo) (st : List Value) (h : Hp) (Q : Option Value → Hp → Prop) (l0 l1 l2 l3 l4 : Option Value) (x : Int32), Wp 108 92 (l0 :: l1 :: l2 :: l3 :: l4 :: some (.int x) :: ls) (st) h Q ↔ Wp 108 94 (l0 :: l1 :: l2 :: l3 :: l4 :: some (.int x) :: ls) (.int x :: st) h Q) ∧
  (∀ (ls : Lo) (st : List Value) (h : Hp) (Q : Option Value → Hp → Prop) (x y : Int32), Wp 108 94 (ls) (.int y :: .int x :: st) h Q ↔ Wp 108 95 (ls) (.int (x + y) :: st) h Q) ∧
  (∀ (ls : Lo) (st : List Value) (h : Hp) (Q : Option Value → Hp → Prop), Wp 108 95 (ls) (st) h Q ↔ Wp 108 96 (ls) (.int (0) :: st) h Q) ∧
  (∀ (ls : Lo) (st : List Value) (n sl : Nat) (C Z : Nat → Nat) (I : Nat → Nat → Int32) (L : Nat → Nat → Int64) (R : Nat → Nat → Nat) (Q : Option Value → Hp → Prop) (i : Nat) (x y : Int32), Wp 108 96 (ls) (.int x :: .int y :: .ref i :: st) (n, sl, C, Z, I, L, R) Q ↔ ((inb y (Z i) = true ∧ C i = 21) ∧ Wp 108 97 (ls) (st) (n, sl, C, Z, u2 I i (ix y) x, L, R) Q)) ∧
  (∀ (ls : Lo) (st : List Value) (h : Hp) (Q : Option Value → Hp → Prop)  (i : Nat), Wp 108 97 (some (.ref i) :: ls) (st) h Q ↔ Wp 108 98 (some (.ref i) :: ls) (.ref i :: st) h Q) ∧
  (∀ (ls : Lo) (st : List Value) (n sl : Nat) (C Z : Nat → Nat) (I : Nat → Nat → Int32) (L : Nat → Nat → Int64) (R : Nat → Nat → Nat) (Q : Option Value → Hp → Prop) (i : Nat), Wp 108 98 (ls) (.ref i :: st) (n, sl, C, Z, I, L, R) Q ↔ (C i = 11 ∧ Wp 108 101 (ls) (.ref (R i 7) :: st) (n, sl, C, Z, I, L, R) Q)) ∧
  (∀ (ls : Lo) (st : List Value) (h : Hp) (Q : Option Value → Hp → Prop), Wp 108 101 (ls) (st) h Q ↔ Wp 108 102 (ls) (.int (3) :: st) h Q) ∧
  (∀ (ls : Lo) (st : List Value) (h : Hp) (Q : Option Value → Hp → Prop) (l0 l1 l2 l3 : Option Value) (x : Int32), Wp 108 102 (l0 :: l1 :: l2 :: l3 :: some (.int x) :: ls) (st) h Q ↔ Wp 108 104 (l0 :: l1 :: l2 :: l3 :: some (.int x) :: ls) (.int x :: st) h Q) ∧
  (∀ (ls : Lo) (st : List Value) (h : Hp) (Q : Option Value → Hp → Prop) (x y : Int32), Wp 108 104 (ls) (.int y :: .int x :: st) h Q ↔ Wp 108 105 (ls) (.int (x * y) :: st) h Q) ∧
  (∀ (ls : Lo) (st : List Value) (h : Hp) (Q : Option Value → Hp → Prop) (l0 l1 l2 l3 l4 : Option Value) (x : Int32), Wp 108 105 (l0 :: l1 :: l2 :: l3 :: l4 :: some (.int x) :: ls) (st) h Q ↔ Wp 108 107 (l0 :: l1 :: l2 :: l3 :: l4 :: some (.int x) :: ls) (.int x :: st) h Q) ∧
  (∀ (ls : Lo) (st : List Value) (h : Hp) (Q : Option Value → Hp → Prop) (x y : Int32), Wp 108 107 (ls) (.int y :: .int x :: st) h Q ↔ Wp 108 108 (ls) (.int (x + y) :: st) h Q) ∧
  (∀ (ls : Lo) (st : List Value) (h : Hp) (Q : Option Value → Hp → Prop), Wp 108 108 (ls) (st) h Q ↔ Wp 108 109 (ls) (.int (0) :: st) h Q) ∧
  (∀ (ls : Lo) (st : List Value) (n sl : Nat) (C Z : Nat → Nat) (I : Nat → Nat → Int32) (L : Nat → Nat → Int64) (R : Nat → Nat → Nat) (Q : Option Value → Hp → Prop) (i : Nat) (x y : Int32), Wp 108 109 (ls) (.int x :: .int y :: .ref i :: st) (n, sl, C, Z, I, L, R) Q ↔ ((inb y (Z i) = true ∧ C i = 21) ∧ Wp 108 110 (ls) (st) (n, sl, C, Z, u2 I i (ix y) x, L, R) Q)) ∧
  (∀ (ls : Lo) (st : List Value) (h : Hp) (Q : Option Value → Hp → Prop) (l0 l1 l2 l3 l4 : Option Value) (x : Int32), Wp 108 110 (l0 :: l1 :: l2 :: l3 :: l4 :: some (.int x) :: ls) (st) h Q ↔ Wp 108 113 (l0 :: l1 :: l2 :: l3 :: clr l4 :: some (.int (x + (1))) :: ls) (st) h Q) ∧
  (∀ (ls : Lo) (st : List Value) (h : Hp) (Q : Option Value → Hp → Prop), Wp 108 113 (ls) (st) h Q ↔ Wp 108 78 (ls) (st) h Q) ∧
  (∀ (ls : Lo) (st : List Value) (h : Hp) (Q : Option Value → Hp → Prop) (l0 l1 l2 l3 : Option Value) (x : Int32), Wp 108 116 (l0 :: l1 :: l2 :: l3 :: some (.int x) :: ls) (st) h Q ↔ Wp 108 118 (l0 :: l1 :: l2 :: l3 :: some (.int x) :: ls) (.int x :: st) h Q) ∧
  (∀ (ls : Lo) (h : Hp) (Q : Option Value → Hp → Prop) (x : Int32), Wp 108 118 (ls) ([.int x]) h Q ↔ Q (some (.int x)) h) := ⟨by intro ls st h Q i; exact e_aload_n d108_84 rfl,
  by intro ls st n sl C Z I L R Q i; exact e_get (g := 10) (s := 6) (ty := 2) d108_85 rfl rfl (inG_ne (by decide)),
  by intro ls st h Q; exact e_iconst d108_88 rfl,
  by intro ls st h Q l0 l1 l2 l3 x; exact e_iload d108_89 rfl,
  by intro ls st h Q x y; exact e_imul d108_91,
  by intro ls st h Q l0 l1 l2 l3 l4 x; exact e_iload d108_92 rfl,
  by intro ls st h Q x y; exact e_iadd d108_94,
  by intro ls st h Q; exact e_iconst d108_95 rfl,
  by intro ls st n sl C Z I L R Q i x y; exact e_iast d108_96,
  by intro ls st h Q i; exact e_aload_n d108_97 rfl,
  by intro ls st n sl C Z I L R Q i; exact e_get (g := 10) (s := 7) (ty := 2) d108_98 rfl rfl (inG_ne (by decide)),
  by intro ls st h Q; exact e_iconst d108_101 rfl,
  by intro ls st h Q l0 l1 l2 l3 x; exact e_iload d108_102 rfl,
  by intro ls st h Q x y; exact e_imul d108_104,
  by intro ls st h Q l0 l1 l2 l3 l4 x; exact e_iload d108_105 rfl,
  by intro ls st h Q x y; exact e_iadd d108_107,
  by intro ls st h Q; exact e_iconst d108_108 rfl,
  by intro ls st n sl C Z I L R Q i x y; exact e_iast d108_109,
  by intro ls st h Q l0 l1 l2 l3 l4 x; exact e_iinc d108_110 rfl rfl rfl,
  by intro ls st h Q; exact e_goto d108_113 (by decide),
  by intro ls st h Q l0 l1 l2 l3 x; exact e_iload d108_116 rfl,
  by intros; exact e_rI (p := True) d108_118 rfl⟩
theorem d109_0 : decode (byt 109) 0 = .ok (.iload_n 1, 1) := by decide +kernel
theorem d109_1 : decode (byt 109) 1 = .ok (.ifCond .lt 32, 3) := by decide +kernel
theorem d109_4 : decode (byt 109) 4 = .ok (.iload_n 1, 1) := by decide +kernel
theorem d109_5 : decode (byt 109) 5 = .ok (.iconst 1, 1) := by decide +kernel
theorem d109_6 : decode (byt 109) 6 = .ok (.if_icmp .gt 27, 3) := by decide +kernel
theorem d109_9 : decode (byt 109) 9 = .ok (.iload_n 2, 1) := by decide +kernel
theorem d109_10 : decode (byt 109) 10 = .ok (.ifCond .lt 23, 3) := by decide +kernel
theorem d109_13 : decode (byt 109) 13 = .ok (.iload_n 2, 1) := by decide +kernel
theorem d109_14 : decode (byt 109) 14 = .ok (.iconst 3, 1) := by decide +kernel
theorem d109_15 : decode (byt 109) 15 = .ok (.if_icmp .gt 18, 3) := by decide +kernel
theorem d109_18 : decode (byt 109) 18 = .ok (.iload_n 3, 1) := by decide +kernel
theorem d109_19 : decode (byt 109) 19 = .ok (.iconst 1, 1) := by decide +kernel
theorem d109_20 : decode (byt 109) 20 = .ok (.if_icmp .eq 16, 3) := by decide +kernel
theorem d109_23 : decode (byt 109) 23 = .ok (.iload_n 3, 1) := by decide +kernel
theorem d109_24 : decode (byt 109) 24 = .ok (.iconst 2, 1) := by decide +kernel
theorem d109_25 : decode (byt 109) 25 = .ok (.if_icmp .eq 11, 3) := by decide +kernel
theorem d109_28 : decode (byt 109) 28 = .ok (.iload_n 3, 1) := by decide +kernel
theorem d109_29 : decode (byt 109) 29 = .ok (.iconst 4, 1) := by decide +kernel
theorem d109_30 : decode (byt 109) 30 = .ok (.if_icmp .eq 6, 3) := by decide +kernel
theorem d109_33 : decode (byt 109) 33 = .ok (.bipush (-2), 2) := by decide +kernel
theorem d109_35 : decode (byt 109) 35 = .ok (.ireturn, 1) := by decide +kernel
theorem d109_36 : decode (byt 109) 36 = .ok (.aload_n 0, 1) := by decide +kernel
theorem d109_37 : decode (byt 109) 37 = .ok (.getfield 83, 3) := by decide +kernel
theorem d109_40 : decode (byt 109) 40 = .ok (.bipush 12, 2) := by decide +kernel
theorem d109_42 : decode (byt 109) 42 = .ok (.if_icmp .ne 6, 3) := by decide +kernel
theorem d109_45 : decode (byt 109) 45 = .ok (.bipush (-4), 2) := by decide +kernel
theorem d109_47 : decode (byt 109) 47 = .ok (.ireturn, 1) := by decide +kernel
theorem d109_48 : decode (byt 109) 48 = .ok (.aload_n 0, 1) := by decide +kernel
theorem d109_49 : decode (byt 109) 49 = .ok (.iload_n 1, 1) := by decide +kernel
theorem d109_50 : decode (byt 109) 50 = .ok (.iload_n 2, 1) := by decide +kernel
theorem d109_51 : decode (byt 109) 51 = .ok (.iload_n 3, 1) := by decide +kernel
theorem d109_52 : decode (byt 109) 52 = .ok (.invokevirtual 98, 3) := by decide +kernel
theorem d109_55 : decode (byt 109) 55 = .ok (.ireturn, 1) := by decide +kernel
set_option maxRecDepth 20000 in
theorem S109_0 : (∀ (ls : Lo) (st : List Value) (h : Hp) (Q : Option Value → Hp → Prop) (l0 : Option Value) (x : Int32), Wp 109 0 (l0 :: some (.int x) :: ls) (st) h Q ↔ Wp 109 1 (l0 :: some (.int x) :: ls) (.int x :: st) h Q) ∧
  (∀ (ls : Lo) (st : List Value) (h : Hp) (Q : Option Value → Hp → Prop) (x : Int32), Wp 109 1 (ls) (.int x :: st) h Q ↔ Br 109 33 4 ls st h Q (x < 0)) ∧
  (∀ (ls : Lo) (st : List Value) (h : Hp) (Q : Option Value → Hp → Prop) (l0 : Option Value) (x : Int32), Wp 109 4 (l0 :: some (.int x) :: ls) (st) h Q ↔ Wp 109 5 (l0 :: some (.int x) :: ls) (.int x :: st) h Q) ∧
  (∀ (ls : Lo) (st : List Value) (h : Hp) (Q : Option Value → Hp → Prop), Wp 109 5 (ls) (st) h Q ↔ Wp 109 6 (ls) (.int (1) :: st) h Q) ∧
  (∀ (ls : Lo) (st : List Value) (h : Hp) (Q : Option Value → Hp → Prop) (x y : Int32), Wp 109 6 (ls) (.int y :: .int x :: st) h Q ↔ Br 109 33 9 ls st h Q (y < x)) ∧
  (∀ (ls : Lo) (st : List Value) (h : Hp) (Q : Option Value → Hp → Prop) (l0 l1 : Option Value) (x : Int32), Wp 109 9 (l0 :: l1 :: some (.int x) :: ls) (st) h Q ↔ Wp 109 10 (l0 :: l1 :: some (.int x) :: ls) (.int x :: st) h Q) ∧
  (∀ (ls : Lo) (st : List Value) (h : Hp) (Q : Option Value → Hp → Prop) (x : Int32), Wp 109 10 (ls) (.int x :: st) h Q ↔ Br 109 33 13 ls st h Q (x < 0)) ∧
  (∀ (ls : Lo) (st : List Value) (h : Hp) (Q : Option Value → Hp → Prop) (l0 l1 : Option Value) (x : Int32), Wp 109 13 (l0 :: l1 :: some (.int x) :: ls) (st) h Q ↔ Wp 109 14 (l0 :: l1 :: some (.int x) :: ls) (.int x :: st) h Q) ∧
  (∀ (ls : Lo) (st : List Value) (h : Hp) (Q : Option Value → Hp → Prop), Wp 109 14 (ls) (st) h Q ↔ Wp 109 15 (ls) (.int (3) :: st) h Q) ∧
  (∀ (ls : Lo) (st : List Value) (h : Hp) (Q : Option Value → Hp → Prop) (x y : Int32), Wp 109 15 (ls) (.int y :: .int x :: st) h Q ↔ Br 109 33 18 ls st h Q (y < x)) ∧
  (∀ (ls : Lo) (st : List Value) (h : Hp) (Q : Option Value → Hp → Prop) (l0 l1 l2 : Option Value) (x : Int32), Wp 109 18 (l0 :: l1 :: l2 :: some (.int x) :: ls) (st) h Q ↔ Wp 109 19 (l0 :: l1 :: l2 :: some (.int x) :: ls) (.int x :: st) h Q) ∧
  (∀ (ls : Lo) (st : List Value) (h : Hp) (Q : Option Value → Hp → Prop), Wp 109 19 (ls) (st) h Q ↔ Wp 109 20 (ls) (.int (1) :: st) h Q) ∧
  (∀ (ls : Lo) (st : List Value) (h : Hp) (Q : Option Value → Hp → Prop) (x y : Int32), Wp 109 20 (ls) (.int y :: .int x :: st) h Q ↔ Br 109 36 23 ls st h Q (x = y)) ∧
  (∀ (ls : Lo) (st : List Value) (h : Hp) (Q : Option Value → Hp → Prop) (l0 l1 l2 : Option Value) (x : Int32), Wp 109 23 (l0 :: l1 :: l2 :: some (.int x) :: ls) (st) h Q ↔ Wp 109 24 (l0 :: l1 :: l2 :: some (.int x) :: ls) (.int x :: st) h Q) ∧
  (∀ (ls : Lo) (st : List Value) (h : Hp) (Q : Option Value → Hp → Prop), Wp 109 24 (ls) (st) h Q ↔ Wp 109 25 (ls) (.int (2) :: st) h Q) ∧
  (∀ (ls : Lo) (st : List Value) (h : Hp) (Q : Option Value → Hp → Prop) (x y : Int32), Wp 109 25 (ls) (.int y :: .int x :: st) h Q ↔ Br 109 36 28 ls st h Q (x = y)) ∧
  (∀ (ls : Lo) (st : List Value) (h : Hp) (Q : Option Value → Hp → Prop) (l0 l1 l2 : Option Value) (x : Int32), Wp 109 28 (l0 :: l1 :: l2 :: some (.int x) :: ls) (st) h Q ↔ Wp 109 29 (l0 :: l1 :: l2 :: some (.int x) :: ls) (.int x :: st) h Q) ∧
  (∀ (ls : Lo) (st : List Value) (h : Hp) (Q : Option Value → Hp → Prop), Wp 109 29 (ls) (st) h Q ↔ Wp 109 30 (ls) (.int (4) :: st) h Q) ∧
  (∀ (ls : Lo) (st : List Value) (h : Hp) (Q : Option Value → Hp → Prop) (x y : Int32), Wp 109 30 (ls) (.int y :: .int x :: st) h Q ↔ Br 109 36 33 ls st h Q (x = y)) ∧
  (∀ (ls : Lo) (st : List Value) (h : Hp) (Q : Option Value → Hp → Prop), Wp 109 33 (ls) (st) h Q ↔ Wp 109 35 (ls) (.int (-2) :: st) h Q) ∧
  (∀ (ls : Lo) (h : Hp) (Q : Option Value → Hp → Prop) (x : Int32), Wp 109 35 (ls) ([.int x]) h Q ↔ Q (some (.int x)) h) ∧
  (∀ (ls : Lo) (st : List Value) (h : Hp) (Q : Option Value → Hp → Prop)  (i : Nat), Wp 109 36 (some (.ref i) :: ls) (st) h Q ↔ Wp 109 37 (some (.ref i) :: ls) (.ref i :: st) h Q) ∧
  (∀ (ls : Lo) (st : List Value) (n sl : Nat) (C Z : Nat → Nat) (I : Nat → Nat → Int32) (L : Nat → Nat → Int64) (R : Nat → Nat → Nat) (Q : Option Value → Hp → Prop) (i : Nat), Wp 109 37 (ls) (.ref i :: st) (n, sl, C, Z, I, L, R) Q ↔ (C i = 11 ∧ Wp 109 40 (ls) (.int (I i 0) :: st) (n, sl, C, Z, I, L, R) Q)) ∧
  (∀ (ls : Lo) (st : List Value) (h : Hp) (Q : Option Value → Hp → Prop), Wp 109 40 (ls) (st) h Q ↔ Wp 109 42 (ls) (.int (12) :: st) h Q) ∧
  (∀ (ls : Lo) (st : List Value) (h : Hp) (Q : Option Value → Hp → Prop) (x y : Int32), Wp 109 42 (ls) (.int y :: .int x :: st) h Q ↔ Br 109 48 45 ls st h Q (¬ x = y)) := ⟨by intro ls st h Q l0 x; exact e_iload_n d109_0 rfl,
  by intro ls st h Q x; exact e_if d109_1 (by decide) c_lt,
  by intro ls st h Q l0 x; exact e_iload_n d109_4 rfl,
  by intro ls st h Q; exact e_iconst d109_5 rfl,
  by intro ls st h Q x y; exact e_ic d109_6 (by decide) c_gt,
  by intro ls st h Q l0 l1 x; exact e_iload_n d109_9 rfl,
  by intro ls st h Q x; exact e_if d109_10 (by decide) c_lt,
  by intro ls st h Q l0 l1 x; exact e_iload_n d109_13 rfl,
  by intro ls st h Q; exact e_iconst d109_14 rfl,
  by intro ls st h Q x y; exact e_ic d109_15 (by decide) c_gt,
  by intro ls st h Q l0 l1 l2 x; exact e_iload_n d109_18 rfl,
  by intro ls st h Q; exact e_iconst d109_19 rfl,
  by intro ls st h Q x y; exact e_ic d109_20 (by decide) c_eq,
  by intro ls st h Q l0 l1 l2 x; exact e_iload_n d109_23 rfl,
  by intro ls st h Q; exact e_iconst d109_24 rfl,
  by intro ls st h Q x y; exact e_ic d109_25 (by decide) c_eq,
  by intro ls st h Q l0 l1 l2 x; exact e_iload_n d109_28 rfl,
  by intro ls st h Q; exact e_iconst d109_29 rfl,
  by intro ls st h Q x y; exact e_ic d109_30 (by decide) c_eq,
  by intro ls st h Q; exact e_bipush d109_33 rfl,
  by intros; exact e_rI (p := True) d109_35 rfl,
  by intro ls st h Q i; exact e_aload_n d109_36 rfl,
  by intro ls st n sl C Z I L R Q i; exact e_get (g := 10) (s := 0) (ty := 0) d109_37 rfl rfl (inG_ne (by decide)),
  by intro ls st h Q; exact e_bipush d109_40 rfl,
  by intro ls st h Q x y; exact e_ic d109_42 (by decide) c_ne⟩
set_option maxRecDepth 20000 in
theorem S109_1 : (∀ (ls : Lo) (st : List Value) (h : Hp) (Q : Option Value → Hp → Prop), Wp 109 45 (ls) (st) h Q ↔ Wp 109 47 (ls) (.int (-4) :: st) h Q) ∧
  (∀ (ls : Lo) (h : Hp) (Q : Option Value → Hp → Prop) (x : Int32), Wp 109 47 (ls) ([.int x]) h Q ↔ Q (some (.int x)) h) ∧
  (∀ (ls : Lo) (st : List Value) (h : Hp) (Q : Option Value → Hp → Prop)  (i : Nat), Wp 109 48 (some (.ref i) :: ls) (st) h Q ↔ Wp 109 49 (some (.ref i) :: ls) (.ref i :: st) h Q) ∧
  (∀ (ls : Lo) (st : List Value) (h : Hp) (Q : Option Value → Hp → Prop) (l0 : Option Value) (x : Int32), Wp 109 49 (l0 :: some (.int x) :: ls) (st) h Q ↔ Wp 109 50 (l0 :: some (.int x) :: ls) (.int x :: st) h Q) ∧
  (∀ (ls : Lo) (st : List Value) (h : Hp) (Q : Option Value → Hp → Prop) (l0 l1 : Option Value) (x : Int32), Wp 109 50 (l0 :: l1 :: some (.int x) :: ls) (st) h Q ↔ Wp 109 51 (l0 :: l1 :: some (.int x) :: ls) (.int x :: st) h Q) ∧
  (∀ (ls : Lo) (st : List Value) (h : Hp) (Q : Option Value → Hp → Prop) (l0 l1 l2 : Option Value) (x : Int32), Wp 109 51 (l0 :: l1 :: l2 :: some (.int x) :: ls) (st) h Q ↔ Wp 109 52 (l0 :: l1 :: l2 :: some (.int x) :: ls) (.int x :: st) h Q) ∧
  (∀ (ls : Lo) (st : List Value) (n sl : Nat) (C Z : Nat → Nat) (I : Nat → Nat → Int32) (L : Nat → Nat → Int64) (R : Nat → Nat → Nat) (Q : Option Value → Hp → Prop) (x0 : Int32) (x1 : Int32) (x2 : Int32) (i : Nat), C i = 11 → (Wp 109 52 (ls) (.int x2 :: .int x1 :: .int x0 :: .ref i :: st) (n, sl, C, Z, I, L, R) Q ↔ (wsum st ≤ 8 ∧ Call 108 [some (.ref i), some (.int x0), some (.int x1), some (.int x2), none, none] (n, sl, C, Z, I, L, R) 109 55 ls st Q))) ∧
  (∀ (ls : Lo) (h : Hp) (Q : Option Value → Hp → Prop) (x : Int32), Wp 109 55 (ls) ([.int x]) h Q ↔ Q (some (.int x)) h) := ⟨by intro ls st h Q; exact e_bipush d109_45 rfl,
  by intros; exact e_rI (p := True) d109_47 rfl,
  by intro ls st h Q i; exact e_aload_n d109_48 rfl,
  by intro ls st h Q l0 x; exact e_iload_n d109_49 rfl,
  by intro ls st h Q l0 l1 x; exact e_iload_n d109_50 rfl,
  by intro ls st h Q l0 l1 l2 x; exact e_iload_n d109_51 rfl,
  by intro ls st n sl C Z I L R Q x0 x1 x2 i hh; exact e_iv (k2 := 108) (c := 11) (as := [.int x0, .int x1, .int x2]) d109_52 rfl (by decide) rfl rfl (by decide +kernel) (Nat.le_of_ble_eq_true rfl) rfl hh,
  by intros; exact e_rI (p := True) d109_55 rfl⟩
