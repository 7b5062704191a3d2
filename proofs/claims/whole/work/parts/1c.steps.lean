theorem d35_0 : decode (byt 35) 0 = .ok (.aload_n 0, 1) := by decide +kernel
theorem d35_1 : decode (byt 35) 1 = .ok (.getfield 22, 3) := by decide +kernel
theorem d35_4 : decode (byt 35) 4 = .ok (.iconst 0, 1) := by decide +kernel
theorem d35_5 : decode (byt 35) 5 = .ok (.aaload, 1) := by decide +kernel
theorem d35_6 : decode (byt 35) 6 = .ok (.astore_n 2, 1) := by decide +kernel
theorem d35_7 : decode (byt 35) 7 = .ok (.aload_n 0, 1) := by decide +kernel
theorem d35_8 : decode (byt 35) 8 = .ok (.getfield 22, 3) := by decide +kernel
theorem d35_11 : decode (byt 35) 11 = .ok (.iconst 1, 1) := by decide +kernel
theorem d35_12 : decode (byt 35) 12 = .ok (.aaload, 1) := by decide +kernel
theorem d35_13 : decode (byt 35) 13 = .ok (.astore_n 3, 1) := by decide +kernel
theorem d35_14 : decode (byt 35) 14 = .ok (.aload_n 0, 1) := by decide +kernel
theorem d35_15 : decode (byt 35) 15 = .ok (.getfield 14, 3) := by decide +kernel
theorem d35_18 : decode (byt 35) 18 = .ok (.getfield 81, 3) := by decide +kernel
theorem d35_21 : decode (byt 35) 21 = .ok (.iconst 3, 1) := by decide +kernel
theorem d35_22 : decode (byt 35) 22 = .ok (.if_icmp .ne 7, 3) := by decide +kernel
theorem d35_25 : decode (byt 35) 25 = .ok (.iconst 1, 1) := by decide +kernel
theorem d35_26 : decode (byt 35) 26 = .ok (.goto 4, 3) := by decide +kernel
theorem d35_29 : decode (byt 35) 29 = .ok (.iconst 0, 1) := by decide +kernel
theorem d35_30 : decode (byt 35) 30 = .ok (.istore 4, 2) := by decide +kernel
theorem d35_32 : decode (byt 35) 32 = .ok (.aload_n 0, 1) := by decide +kernel
theorem d35_33 : decode (byt 35) 33 = .ok (.getfield 14, 3) := by decide +kernel
theorem d35_36 : decode (byt 35) 36 = .ok (.getfield 81, 3) := by decide +kernel
theorem d35_39 : decode (byt 35) 39 = .ok (.iconst 2, 1) := by decide +kernel
theorem d35_40 : decode (byt 35) 40 = .ok (.if_icmp .ne 7, 3) := by decide +kernel
theorem d35_43 : decode (byt 35) 43 = .ok (.iconst 1, 1) := by decide +kernel
theorem d35_44 : decode (byt 35) 44 = .ok (.goto 4, 3) := by decide +kernel
theorem d35_47 : decode (byt 35) 47 = .ok (.iconst 0, 1) := by decide +kernel
theorem d35_48 : decode (byt 35) 48 = .ok (.istore 5, 2) := by decide +kernel
theorem d35_50 : decode (byt 35) 50 = .ok (.aload_n 1, 1) := by decide +kernel
theorem d35_51 : decode (byt 35) 51 = .ok (.iconst 0, 1) := by decide +kernel
theorem d35_52 : decode (byt 35) 52 = .ok (.iload 4, 2) := by decide +kernel
theorem d35_54 : decode (byt 35) 54 = .ok (.ifCond .eq 21, 3) := by decide +kernel
theorem d35_57 : decode (byt 35) 57 = .ok (.aload_n 2, 1) := by decide +kernel
theorem d35_58 : decode (byt 35) 58 = .ok (.iconst 1, 1) := by decide +kernel
theorem d35_59 : decode (byt 35) 59 = .ok (.laload, 1) := by decide +kernel
theorem d35_60 : decode (byt 35) 60 = .ok (.aload_n 3, 1) := by decide +kernel
theorem d35_61 : decode (byt 35) 61 = .ok (.iconst 2, 1) := by decide +kernel
theorem d35_62 : decode (byt 35) 62 = .ok (.laload, 1) := by decide +kernel
theorem d35_63 : decode (byt 35) 63 = .ok (.lmul, 1) := by decide +kernel
theorem d35_64 : decode (byt 35) 64 = .ok (.aload_n 2, 1) := by decide +kernel
theorem d35_65 : decode (byt 35) 65 = .ok (.iconst 2, 1) := by decide +kernel
theorem d35_66 : decode (byt 35) 66 = .ok (.laload, 1) := by decide +kernel
theorem d35_67 : decode (byt 35) 67 = .ok (.aload_n 3, 1) := by decide +kernel
theorem d35_68 : decode (byt 35) 68 = .ok (.iconst 1, 1) := by decide +kernel
theorem d35_69 : decode (byt 35) 69 = .ok (.laload, 1) := by decide +kernel
theorem d35_70 : decode (byt 35) 70 = .ok (.lmul, 1) := by decide +kernel
theorem d35_71 : decode (byt 35) 71 = .ok (.lsub, 1) := by decide +kernel
theorem d35_72 : decode (byt 35) 72 = .ok (.goto 16, 3) := by decide +kernel
theorem d35_75 : decode (byt 35) 75 = .ok (.iload 5, 2) := by decide +kernel
theorem d35_77 : decode (byt 35) 77 = .ok (.ifCond .eq 10, 3) := by decide +kernel
theorem d35_80 : decode (byt 35) 80 = .ok (.aload_n 2, 1) := by decide +kernel
theorem d35_81 : decode (byt 35) 81 = .ok (.iconst 1, 1) := by decide +kernel
theorem d35_82 : decode (byt 35) 82 = .ok (.laload, 1) := by decide +kernel
theorem d35_83 : decode (byt 35) 83 = .ok (.lneg, 1) := by decide +kernel
theorem d35_84 : decode (byt 35) 84 = .ok (.goto 4, 3) := by decide +kernel
theorem d35_87 : decode (byt 35) 87 = .ok (.lconst 1, 1) := by decide +kernel
theorem d35_88 : decode (byt 35) 88 = .ok (.lastore, 1) := by decide +kernel
theorem d35_89 : decode (byt 35) 89 = .ok (.aload_n 1, 1) := by decide +kernel
theorem d35_90 : decode (byt 35) 90 = .ok (.iconst 1, 1) := by decide +kernel
theorem d35_91 : decode (byt 35) 91 = .ok (.iload 4, 2) := by decide +kernel
theorem d35_93 : decode (byt 35) 93 = .ok (.ifCond .eq 21, 3) := by decide +kernel
theorem d35_96 : decode (byt 35) 96 = .ok (.aload_n 2, 1) := by decide +kernel
theorem d35_97 : decode (byt 35) 97 = .ok (.iconst 2, 1) := by decide +kernel
theorem d35_98 : decode (byt 35) 98 = .ok (.laload, 1) := by decide +kernel
theorem d35_99 : decode (byt 35) 99 = .ok (.aload_n 3, 1) := by decide +kernel
theorem d35_100 : decode (byt 35) 100 = .ok (.iconst 0, 1) := by decide +kernel
theorem d35_101 : decode (byt 35) 101 = .ok (.laload, 1) := by decide +kernel
theorem d35_102 : decode (byt 35) 102 = .ok (.lmul, 1) := by decide +kernel
theorem d35_103 : decode (byt 35) 103 = .ok (.aload_n 2, 1) := by decide +kernel
theorem d35_104 : decode (byt 35) 104 = .ok (.iconst 0, 1) := by decide +kernel
theorem d35_105 : decode (byt 35) 105 = .ok (.laload, 1) := by decide +kernel
theorem d35_106 : decode (byt 35) 106 = .ok (.aload_n 3, 1) := by decide +kernel
theorem d35_107 : decode (byt 35) 107 = .ok (.iconst 2, 1) := by decide +kernel
theorem d35_108 : decode (byt 35) 108 = .ok (.laload, 1) := by decide +kernel
theorem d35_109 : decode (byt 35) 109 = .ok (.lmul, 1) := by decide +kernel
theorem d35_110 : decode (byt 35) 110 = .ok (.lsub, 1) := by decide +kernel
theorem d35_111 : decode (byt 35) 111 = .ok (.goto 15, 3) := by decide +kernel
theorem d35_114 : decode (byt 35) 114 = .ok (.iload 5, 2) := by decide +kernel
theorem d35_116 : decode (byt 35) 116 = .ok (.ifCond .eq 9, 3) := by decide +kernel
theorem d35_119 : decode (byt 35) 119 = .ok (.aload_n 2, 1) := by decide +kernel
theorem d35_120 : decode (byt 35) 120 = .ok (.iconst 0, 1) := by decide +kernel
theorem d35_121 : decode (byt 35) 121 = .ok (.laload, 1) := by decide +kernel
theorem d35_122 : decode (byt 35) 122 = .ok (.goto 4, 3) := by decide +kernel
theorem d35_125 : decode (byt 35) 125 = .ok (.lconst 0, 1) := by decide +kernel
theorem d35_126 : decode (byt 35) 126 = .ok (.lastore, 1) := by decide +kernel
theorem d35_127 : decode (byt 35) 127 = .ok (.aload_n 1, 1) := by decide +kernel
theorem d35_128 : decode (byt 35) 128 = .ok (.iconst 2, 1) := by decide +kernel
theorem d35_129 : decode (byt 35) 129 = .ok (.iload 4, 2) := by decide +kernel
theorem d35_131 : decode (byt 35) 131 = .ok (.ifCond .eq 21, 3) := by decide +kernel
theorem d35_134 : decode (byt 35) 134 = .ok (.aload_n 2, 1) := by decide +kernel
theorem d35_135 : decode (byt 35) 135 = .ok (.iconst 0, 1) := by decide +kernel
theorem d35_136 : decode (byt 35) 136 = .ok (.laload, 1) := by decide +kernel
theorem d35_137 : decode (byt 35) 137 = .ok (.aload_n 3, 1) := by decide +kernel
theorem d35_138 : decode (byt 35) 138 = .ok (.iconst 1, 1) := by decide +kernel
theorem d35_139 : decode (byt 35) 139 = .ok (.laload, 1) := by decide +kernel
theorem d35_140 : decode (byt 35) 140 = .ok (.lmul, 1) := by decide +kernel
theorem d35_141 : decode (byt 35) 141 = .ok (.aload_n 2, 1) := by decide +kernel
theorem d35_142 : decode (byt 35) 142 = .ok (.iconst 1, 1) := by decide +kernel
theorem d35_143 : decode (byt 35) 143 = .ok (.laload, 1) := by decide +kernel
theorem d35_144 : decode (byt 35) 144 = .ok (.aload_n 3, 1) := by decide +kernel
theorem d35_145 : decode (byt 35) 145 = .ok (.iconst 0, 1) := by decide +kernel
theorem d35_146 : decode (byt 35) 146 = .ok (.laload, 1) := by decide +kernel
theorem d35_147 : decode (byt 35) 147 = .ok (.lmul, 1) := by decide +kernel
theorem d35_148 : decode (byt 35) 148 = .ok (.lsub, 1) := by decide +kernel
theorem d35_149 : decode (byt 35) 149 = .ok (.goto 4, 3) := by decide +kernel
theorem d35_152 : decode (byt 35) 152 = .ok (.lconst 0, 1) := by decide +kernel
theorem d35_153 : decode (byt 35) 153 = .ok (.lastore, 1) := by decide +kernel
theorem d35_154 : decode (byt 35) 154 = .ok (.return_, 1) := by decide +kernel
set_option maxRecDepth 20000 in
theorem S35_0 : (∀ (ls : Lo) (st : List Value) (h : Hp) (Q : Option Value → Hp → Prop)  (i : Nat), Wp 35 0 (some (.ref i) :: ls) (st) h Q ↔ Wp 35 1 (some (.ref i) :: ls) (.ref i :: st) h Q) ∧
  (∀ (ls : Lo) (st : List Value) (n sl : Nat) (C Z : Nat → Nat) (I : Nat → Nat → Int32) (L : Nat → Nat → Int64) (R : Nat → Nat → Nat) (Q : Option Value → Hp → Prop) (i : Nat), Wp 35 1 (ls) (.ref i :: st) (n, sl, C, Z, I, L, R) Q ↔ (C i = 4 ∧ Wp 35 4 (ls) (.ref (R i 1) :: st) (n, sl, C, Z, I, L, R) Q)) ∧
  (∀ (ls : Lo) (st : List Value) (h : Hp) (Q : Option Value → Hp → Prop), Wp 35 4 (ls) (st) h Q ↔ Wp 35 5 (ls) (.int (0) :: st) h Q) ∧
  (∀ (ls : Lo) (st : List Value) (n sl : Nat) (C Z : Nat → Nat) (I : Nat → Nat → Int32) (L : Nat → Nat → Int64) (R : Nat → Nat → Nat) (Q : Option Value → Hp → Prop) (i : Nat) (y : Int32), Wp 35 5 (ls) (.int y :: .ref i :: st) (n, sl, C, Z, I, L, R) Q ↔ ((inb y (Z i) = true ∧ (C i = 23 ∨ C i = 24 ∨ C i = 25)) ∧ Wp 35 6 (ls) (.ref (R i (ix y)) :: st) (n, sl, C, Z, I, L, R) Q)) ∧
  (∀ (ls : Lo) (st : List Value) (h : Hp) (Q : Option Value → Hp → Prop) (l0 l1 l2 : Option Value) (i : Nat), Wp 35 6 (l0 :: l1 :: l2 :: ls) (.ref i :: st) h Q ↔ Wp 35 7 (l0 :: clr l1 :: some (.ref i) :: ls) (st) h Q) ∧
  (∀ (ls : Lo) (st : List Value) (h : Hp) (Q : Option Value → Hp → Prop)  (i : Nat), Wp 35 7 (some (.ref i) :: ls) (st) h Q ↔ Wp 35 8 (some (.ref i) :: ls) (.ref i :: st) h Q) ∧
  (∀ (ls : Lo) (st : List Value) (n sl : Nat) (C Z : Nat → Nat) (I : Nat → Nat → Int32) (L : Nat → Nat → Int64) (R : Nat → Nat → Nat) (Q : Option Value → Hp → Prop) (i : Nat), Wp 35 8 (ls) (.ref i :: st) (n, sl, C, Z, I, L, R) Q ↔ (C i = 4 ∧ Wp 35 11 (ls) (.ref (R i 1) :: st) (n, sl, C, Z, I, L, R) Q)) ∧
  (∀ (ls : Lo) (st : List Value) (h : Hp) (Q : Option Value → Hp → Prop), Wp 35 11 (ls) (st) h Q ↔ Wp 35 12 (ls) (.int (1) :: st) h Q) ∧
  (∀ (ls : Lo) (st : List Value) (n sl : Nat) (C Z : Nat → Nat) (I : Nat → Nat → Int32) (L : Nat → Nat → Int64) (R : Nat → Nat → Nat) (Q : Option Value → Hp → Prop) (i : Nat) (y : Int32), Wp 35 12 (ls) (.int y :: .ref i :: st) (n, sl, C, Z, I, L, R) Q ↔ ((inb y (Z i) = true ∧ (C i = 23 ∨ C i = 24 ∨ C i = 25)) ∧ Wp 35 13 (ls) (.ref (R i (ix y)) :: st) (n, sl, C, Z, I, L, R) Q)) ∧
  (∀ (ls : Lo) (st : List Value) (h : Hp) (Q : Option Value → Hp → Prop) (l0 l1 l2 l3 : Option Value) (i : Nat), Wp 35 13 (l0 :: l1 :: l2 :: l3 :: ls) (.ref i :: st) h Q ↔ Wp 35 14 (l0 :: l1 :: clr l2 :: some (.ref i) :: ls) (st) h Q) ∧
  (∀ (ls : Lo) (st : List Value) (h : Hp) (Q : Option Value → Hp → Prop)  (i : Nat), Wp 35 14 (some (.ref i) :: ls) (st) h Q ↔ Wp 35 15 (some (.ref i) :: ls) (.ref i :: st) h Q) ∧
  (∀ (ls : Lo) (st : List Value) (n sl : Nat) (C Z : Nat → Nat) (I : Nat → Nat → Int32) (L : Nat → Nat → Int64) (R : Nat → Nat → Nat) (Q : Option Value → Hp → Prop) (i : Nat), Wp 35 15 (ls) (.ref i :: st) (n, sl, C, Z, I, L, R) Q ↔ (C i = 4 ∧ Wp 35 18 (ls) (.ref (R i 0) :: st) (n, sl, C, Z, I, L, R) Q)) ∧
  (∀ (ls : Lo) (st : List Value) (n sl : Nat) (C Z : Nat → Nat) (I : Nat → Nat → Int32) (L : Nat → Nat → Int64) (R : Nat → Nat → Nat) (Q : Option Value → Hp → Prop) (i : Nat), Wp 35 18 (ls) (.ref i :: st) (n, sl, C, Z, I, L, R) Q ↔ (inG 7 (C i) = true ∧ Wp 35 21 (ls) (.int (I i 1) :: st) (n, sl, C, Z, I, L, R) Q)) ∧
  (∀ (ls : Lo) (st : List Value) (h : Hp) (Q : Option Value → Hp → Prop), Wp 35 21 (ls) (st) h Q ↔ Wp 35 22 (ls) (.int (3) :: st) h Q) ∧
  (∀ (ls : Lo) (st : List Value) (h : Hp) (Q : Option Value → Hp → Prop) (x y : Int32), Wp 35 22 (ls) (.int y :: .int x :: st) h Q ↔ Br 35 29 25 ls st h Q (¬ x = y)) ∧
  (∀ (ls : Lo) (st : List Value) (h : Hp) (Q : Option Value → Hp → Prop), Wp 35 25 (ls) (st) h Q ↔ Wp 35 26 (ls) (.int (1) :: st) h Q) ∧
  (∀ (ls : Lo) (st : List Value) (h : Hp) (Q : Option Value → Hp → Prop), Wp 35 26 (ls) (st) h Q ↔ Wp 35 30 (ls) (st) h Q) ∧
  (∀ (ls : Lo) (st : List Value) (h : Hp) (Q : Option Value → Hp → Prop), Wp 35 29 (ls) (st) h Q ↔ Wp 35 30 (ls) (.int (0) :: st) h Q) ∧
  (∀ (ls : Lo) (st : List Value) (h : Hp) (Q : Option Value → Hp → Prop) (l0 l1 l2 l3 l4 : Option Value) (x : Int32), Wp 35 30 (l0 :: l1 :: l2 :: l3 :: l4 :: ls) (.int x :: st) h Q ↔ Wp 35 32 (l0 :: l1 :: l2 :: clr l3 :: some (.int x) :: ls) (st) h Q) ∧
  (∀ (ls : Lo) (st : List Value) (h : Hp) (Q : Option Value → Hp → Prop)  (i : Nat), Wp 35 32 (some (.ref i) :: ls) (st) h Q ↔ Wp 35 33 (some (.ref i) :: ls) (.ref i :: st) h Q) ∧
  (∀ (ls : Lo) (st : List Value) (n sl : Nat) (C Z : Nat → Nat) (I : Nat → Nat → Int32) (L : Nat → Nat → Int64) (R : Nat → Nat → Nat) (Q : Option Value → Hp → Prop) (i : Nat), Wp 35 33 (ls) (.ref i :: st) (n, sl, C, Z, I, L, R) Q ↔ (C i = 4 ∧ Wp 35 36 (ls) (.ref (R i 0) :: st) (n, sl, C, Z, I, L, R) Q)) ∧
  (∀ (ls : Lo) (st : List Value) (n sl : Nat) (C Z : Nat → Nat) (I : Nat → Nat → Int32) (L : Nat → Nat → Int64) (R : Nat → Nat → Nat) (Q : Option Value → Hp → Prop) (i : Nat), Wp 35 36 (ls) (.ref i :: st) (n, sl, C, Z, I, L, R) Q ↔ (inG 7 (C i) = true ∧ Wp 35 39 (ls) (.int (I i 1) :: st) (n, sl, C, Z, I, L, R) Q)) ∧
  (∀ (ls : Lo) (st : List Value) (h : Hp) (Q : Option Value → Hp → Prop), Wp 35 39 (ls) (st) h Q ↔ Wp 35 40 (ls) (.int (2) :: st) h Q) ∧
  (∀ (ls : Lo) (st : List Value) (h : Hp) (Q : Option Value → Hp → Prop) (x y : Int32), Wp 35 40 (ls) (.int y :: .int x :: st) h Q ↔ Br 35 47 43 ls st h Q (¬ x = y)) ∧
  (∀ (ls : Lo) (st : List Value) (h : Hp) (Q : Option Value → Hp → Prop), Wp 35 43 (ls) (st) h Q ↔ Wp 35 44 (ls) (.int (1) :: st) h Q) := ⟨by intro ls st h Q i; exact e_aload_n d35_0 rfl,
  by intro ls st n sl C Z I L R Q i; exact e_get (g := 3) (s := 1) (ty := 2) d35_1 rfl rfl (inG_ne (by decide)),
  by intro ls st h Q; exact e_iconst d35_4 rfl,
  by intro ls st n sl C Z I L R Q i y; exact e_aald d35_5,
  by intro ls st h Q l0 l1 l2 i; exact e_astore_n d35_6 rfl,
  by intro ls st h Q i; exact e_aload_n d35_7 rfl,
  by intro ls st n sl C Z I L R Q i; exact e_get (g := 3) (s := 1) (ty := 2) d35_8 rfl rfl (inG_ne (by decide)),
  by intro ls st h Q; exact e_iconst d35_11 rfl,
  by intro ls st n sl C Z I L R Q i y; exact e_aald d35_12,
  by intro ls st h Q l0 l1 l2 l3 i; exact e_astore_n d35_13 rfl,
  by intro ls st h Q i; exact e_aload_n d35_14 rfl,
  by intro ls st n sl C Z I L R Q i; exact e_get (g := 3) (s := 0) (ty := 2) d35_15 rfl rfl (inG_ne (by decide)),
  by intro ls st n sl C Z I L R Q i; exact e_get (g := 7) (s := 1) (ty := 0) d35_18 rfl rfl rfl,
  by intro ls st h Q; exact e_iconst d35_21 rfl,
  by intro ls st h Q x y; exact e_ic d35_22 (by decide) c_ne,
  by intro ls st h Q; exact e_iconst d35_25 rfl,
  by intro ls st h Q; exact e_goto d35_26 (by decide),
  by intro ls st h Q; exact e_iconst d35_29 rfl,
  by intro ls st h Q l0 l1 l2 l3 l4 x; exact e_istore d35_30 rfl,
  by intro ls st h Q i; exact e_aload_n d35_32 rfl,
  by intro ls st n sl C Z I L R Q i; exact e_get (g := 3) (s := 0) (ty := 2) d35_33 rfl rfl (inG_ne (by decide)),
  by intro ls st n sl C Z I L R Q i; exact e_get (g := 7) (s := 1) (ty := 0) d35_36 rfl rfl rfl,
  by intro ls st h Q; exact e_iconst d35_39 rfl,
  by intro ls st h Q x y; exact e_ic d35_40 (by decide) c_ne,
  by intro ls st h Q; exact e_iconst d35_43 rfl⟩
set_option maxRecDepth 20000 in
theorem S35_1 : (∀ (ls : Lo) (st : List Value) (h : Hp) (Q : Option Value → Hp → Prop), Wp 35 44 (ls) (st) h Q ↔ Wp 35 48 (ls) (st) h Q) ∧
  (∀ (ls : Lo) (st : List Value) (h : Hp) (Q : Option Value → Hp → Prop), Wp 35 47 (ls) (st) h Q ↔ Wp 35 48 (ls) (.int (0) :: st) h Q) ∧
  (∀ (ls : Lo) (st : List Value) (h : Hp) (Q : Option Value → Hp → Prop) (l0 l1 l2 l3 l4 l5 : Option Value) (x : Int32), Wp 35 48 (l0 :: l1 :: l2 :: l3 :: l4 :: l5 :: ls) (.int x :: st) h Q ↔ Wp 35 50 (l0 :: l1 :: l2 :: l3 :: clr l4 :: some (.int x) :: ls) (st) h Q) ∧
  (∀ (ls : Lo) (st : List Value) (h : Hp) (Q : Option Value → Hp → Prop) (l0 : Option Value) (i : Nat), Wp 35 50 (l0 :: some (.ref i) :: ls) (st) h Q ↔ Wp 35 51 (l0 :: some (.ref i) :: ls) (.ref i :: st) h Q) ∧
  (∀ (ls : Lo) (st : List Value) (h : Hp) (Q : Option Value → Hp → Prop), Wp 35 51 (ls) (st) h Q ↔ Wp 35 52 (ls) (.int (0) :: st) h Q) ∧
  (∀ (ls : Lo) (st : List Value) (h : Hp) (Q : Option Value → Hp → Prop) (l0 l1 l2 l3 : Option Value) (x : Int32), Wp 35 52 (l0 :: l1 :: l2 :: l3 :: some (.int x) :: ls) (st) h Q ↔ Wp 35 54 (l0 :: l1 :: l2 :: l3 :: some (.int x) :: ls) (.int x :: st) h Q) ∧
  (∀ (ls : Lo) (st : List Value) (h : Hp) (Q : Option Value → Hp → Prop) (x : Int32), Wp 35 54 (ls) (.int x :: st) h Q ↔ Br 35 75 57 ls st h Q (x = 0)) ∧
  (∀ (ls : Lo) (st : List Value) (h : Hp) (Q : Option Value → Hp → Prop) (l0 l1 : Option Value) (i : Nat), Wp 35 57 (l0 :: l1 :: some (.ref i) :: ls) (st) h Q ↔ Wp 35 58 (l0 :: l1 :: some (.ref i) :: ls) (.ref i :: st) h Q) ∧
  (∀ (ls : Lo) (st : List Value) (h : Hp) (Q : Option Value → Hp → Prop), Wp 35 58 (ls) (st) h Q ↔ Wp 35 59 (ls) (.int (1) :: st) h Q) ∧
  (∀ (ls : Lo) (st : List Value) (n sl : Nat) (C Z : Nat → Nat) (I : Nat → Nat → Int32) (L : Nat → Nat → Int64) (R : Nat → Nat → Nat) (Q : Option Value → Hp → Prop) (i : Nat) (y : Int32), Wp 35 59 (ls) (.int y :: .ref i :: st) (n, sl, C, Z, I, L, R) Q ↔ ((inb y (Z i) = true ∧ C i = 22) ∧ Wp 35 60 (ls) (.long (L i (ix y)) :: st) (n, sl, C, Z, I, L, R) Q)) ∧
  (∀ (ls : Lo) (st : List Value) (h : Hp) (Q : Option Value → Hp → Prop) (l0 l1 l2 : Option Value) (i : Nat), Wp 35 60 (l0 :: l1 :: l2 :: some (.ref i) :: ls) (st) h Q ↔ Wp 35 61 (l0 :: l1 :: l2 :: some (.ref i) :: ls) (.ref i :: st) h Q) ∧
  (∀ (ls : Lo) (st : List Value) (h : Hp) (Q : Option Value → Hp → Prop), Wp 35 61 (ls) (st) h Q ↔ Wp 35 62 (ls) (.int (2) :: st) h Q) ∧
  (∀ (ls : Lo) (st : List Value) (n sl : Nat) (C Z : Nat → Nat) (I : Nat → Nat → Int32) (L : Nat → Nat → Int64) (R : Nat → Nat → Nat) (Q : Option Value → Hp → Prop) (i : Nat) (y : Int32), Wp 35 62 (ls) (.int y :: .ref i :: st) (n, sl, C, Z, I, L, R) Q ↔ ((inb y (Z i) = true ∧ C i = 22) ∧ Wp 35 63 (ls) (.long (L i (ix y)) :: st) (n, sl, C, Z, I, L, R) Q)) ∧
  (∀ (ls : Lo) (st : List Value) (h : Hp) (Q : Option Value → Hp → Prop) (a b : Int64), Wp 35 63 (ls) (.long b :: .long a :: st) h Q ↔ Wp 35 64 (ls) (.long (a * b) :: st) h Q) ∧
  (∀ (ls : Lo) (st : List Value) (h : Hp) (Q : Option Value → Hp → Prop) (l0 l1 : Option Value) (i : Nat), Wp 35 64 (l0 :: l1 :: some (.ref i) :: ls) (st) h Q ↔ Wp 35 65 (l0 :: l1 :: some (.ref i) :: ls) (.ref i :: st) h Q) ∧
  (∀ (ls : Lo) (st : List Value) (h : Hp) (Q : Option Value → Hp → Prop), Wp 35 65 (ls) (st) h Q ↔ Wp 35 66 (ls) (.int (2) :: st) h Q) ∧
  (∀ (ls : Lo) (st : List Value) (n sl : Nat) (C Z : Nat → Nat) (I : Nat → Nat → Int32) (L : Nat → Nat → Int64) (R : Nat → Nat → Nat) (Q : Option Value → Hp → Prop) (i : Nat) (y : Int32), Wp 35 66 (ls) (.int y :: .ref i :: st) (n, sl, C, Z, I, L, R) Q ↔ ((inb y (Z i) = true ∧ C i = 22) ∧ Wp 35 67 (ls) (.long (L i (ix y)) :: st) (n, sl, C, Z, I, L, R) Q)) ∧
  (∀ (ls : Lo) (st : List Value) (h : Hp) (Q : Option Value → Hp → Prop) (l0 l1 l2 : Option Value) (i : Nat), Wp 35 67 (l0 :: l1 :: l2 :: some (.ref i) :: ls) (st) h Q ↔ Wp 35 68 (l0 :: l1 :: l2 :: some (.ref i) :: ls) (.ref i :: st) h Q) ∧
  (∀ (ls : Lo) (st : List Value) (h : Hp) (Q : Option Value → Hp → Prop), Wp 35 68 (ls) (st) h Q ↔ Wp 35 69 (ls) (.int (1) :: st) h Q) ∧
  (∀ (ls : Lo) (st : List Value) (n sl : Nat) (C Z : Nat → Nat) (I : Nat → Nat → Int32) (L : Nat → Nat → Int64) (R : Nat → Nat → Nat) (Q : Option Value → Hp → Prop) (i : Nat) (y : Int32), Wp 35 69 (ls) (.int y :: .ref i :: st) (n, sl, C, Z, I, L, R) Q ↔ ((inb y (Z i) = true ∧ C i = 22) ∧ Wp 35 70 (ls) (.long (L i (ix y)) :: st) (n, sl, C, Z, I, L, R) Q)) ∧
  (∀ (ls : Lo) (st : List Value) (h : Hp) (Q : Option Value → Hp → Prop) (a b : Int64), Wp 35 70 (ls) (.long b :: .long a :: st) h Q ↔ Wp 35 71 (ls) (.long (a * b) :: st) h Q) ∧
  (∀ (ls : Lo) (st : List Value) (h : Hp) (Q : Option Value → Hp → Prop) (a b : Int64), Wp 35 71 (ls) (.long b :: .long a :: st) h Q ↔ Wp 35 72 (ls) (.long (a - b) :: st) h Q) ∧
  (∀ (ls : Lo) (st : List Value) (h : Hp) (Q : Option Value → Hp → Prop), Wp 35 72 (ls) (st) h Q ↔ Wp 35 88 (ls) (st) h Q) ∧
  (∀ (ls : Lo) (st : List Value) (h : Hp) (Q : Option Value → Hp → Prop) (l0 l1 l2 l3 l4 : Option Value) (x : Int32), Wp 35 75 (l0 :: l1 :: l2 :: l3 :: l4 :: some (.int x) :: ls) (st) h Q ↔ Wp 35 77 (l0 :: l1 :: l2 :: l3 :: l4 :: some (.int x) :: ls) (.int x :: st) h Q) ∧
  (∀ (ls : Lo) (st : List Value) (h : Hp) (Q : Option Value → Hp → Prop) (x : Int32), Wp 35 77 (ls) (.int x :: st) h Q ↔ Br 35 87 80 ls st h Q (x = 0)) := ⟨by intro ls st h Q; exact e_goto d35_44 (by decide),
  by intro ls st h Q; exact e_iconst d35_47 rfl,
  by intro ls st h Q l0 l1 l2 l3 l4 l5 x; exact e_istore d35_48 rfl,
  by intro ls st h Q l0 i; exact e_aload_n d35_50 rfl,
  by intro ls st h Q; exact e_iconst d35_51 rfl,
  by intro ls st h Q l0 l1 l2 l3 x; exact e_iload d35_52 rfl,
  by intro ls st h Q x; exact e_if d35_54 (by decide) c_eq,
  by intro ls st h Q l0 l1 i; exact e_aload_n d35_57 rfl,
  by intro ls st h Q; exact e_iconst d35_58 rfl,
  by intro ls st n sl C Z I L R Q i y; exact e_lald d35_59,
  by intro ls st h Q l0 l1 l2 i; exact e_aload_n d35_60 rfl,
  by intro ls st h Q; exact e_iconst d35_61 rfl,
  by intro ls st n sl C Z I L R Q i y; exact e_lald d35_62,
  by intro ls st h Q a b; exact e_lmul d35_63,
  by intro ls st h Q l0 l1 i; exact e_aload_n d35_64 rfl,
  by intro ls st h Q; exact e_iconst d35_65 rfl,
  by intro ls st n sl C Z I L R Q i y; exact e_lald d35_66,
  by intro ls st h Q l0 l1 l2 i; exact e_aload_n d35_67 rfl,
  by intro ls st h Q; exact e_iconst d35_68 rfl,
  by intro ls st n sl C Z I L R Q i y; exact e_lald d35_69,
  by intro ls st h Q a b; exact e_lmul d35_70,
  by intro ls st h Q a b; exact e_lsub d35_71,
  by intro ls st h Q; exact e_goto d35_72 (by decide),
  by intro ls st h Q l0 l1 l2 l3 l4 x; exact e_iload d35_75 rfl,
  by intro ls st h Q x; exact e_if d35_77 (by decide) c_eq⟩
set_option maxRecDepth 20000 in
theorem S35_2 : (∀ (ls : Lo) (st : List Value) (h : Hp) (Q : Option Value → Hp → Prop) (l0 l1 : Option Value) (i : Nat), Wp 35 80 (l0 :: l1 :: some (.ref i) :: ls) (st) h Q ↔ Wp 35 81 (l0 :: l1 :: some (.ref i) :: ls) (.ref i :: st) h Q) ∧
  (∀ (ls : Lo) (st : List Value) (h : Hp) (Q : Option Value → Hp → Prop), Wp 35 81 (ls) (st) h Q ↔ Wp 35 82 (ls) (.int (1) :: st) h Q) ∧
  (∀ (ls : Lo) (st : List Value) (n sl : Nat) (C Z : Nat → Nat) (I : Nat → Nat → Int32) (L : Nat → Nat → Int64) (R : Nat → Nat → Nat) (Q : Option Value → Hp → Prop) (i : Nat) (y : Int32), Wp 35 82 (ls) (.int y :: .ref i :: st) (n, sl, C, Z, I, L, R) Q ↔ ((inb y (Z i) = true ∧ C i = 22) ∧ Wp 35 83 (ls) (.long (L i (ix y)) :: st) (n, sl, C, Z, I, L, R) Q)) ∧
  (∀ (ls : Lo) (st : List Value) (h : Hp) (Q : Option Value → Hp → Prop) (a : Int64), Wp 35 83 (ls) (.long a :: st) h Q ↔ Wp 35 84 (ls) (.long (-a) :: st) h Q) ∧
  (∀ (ls : Lo) (st : List Value) (h : Hp) (Q : Option Value → Hp → Prop), Wp 35 84 (ls) (st) h Q ↔ Wp 35 88 (ls) (st) h Q) ∧
  (∀ (ls : Lo) (st : List Value) (h : Hp) (Q : Option Value → Hp → Prop), Wp 35 87 (ls) (st) h Q ↔ Wp 35 88 (ls) (.long 1 :: st) h Q) ∧
  (∀ (ls : Lo) (st : List Value) (n sl : Nat) (C Z : Nat → Nat) (I : Nat → Nat → Int32) (L : Nat → Nat → Int64) (R : Nat → Nat → Nat) (Q : Option Value → Hp → Prop) (i : Nat) (y : Int32) (a : Int64), Wp 35 88 (ls) (.long a :: .int y :: .ref i :: st) (n, sl, C, Z, I, L, R) Q ↔ ((inb y (Z i) = true ∧ C i = 22) ∧ Wp 35 89 (ls) (st) (n, sl, C, Z, I, u2 L i (ix y) a, R) Q)) ∧
  (∀ (ls : Lo) (st : List Value) (h : Hp) (Q : Option Value → Hp → Prop) (l0 : Option Value) (i : Nat), Wp 35 89 (l0 :: some (.ref i) :: ls) (st) h Q ↔ Wp 35 90 (l0 :: some (.ref i) :: ls) (.ref i :: st) h Q) ∧
  (∀ (ls : Lo) (st : List Value) (h : Hp) (Q : Option Value → Hp → Prop), Wp 35 90 (ls) (st) h Q ↔ Wp 35 91 (ls) (.int (1) :: st) h Q) ∧
  (∀ (ls : Lo) (st : List Value) (h : Hp) (Q : Option Value → Hp → Prop) (l0 l1 l2 l3 : Option Value) (x : Int32), Wp 35 91 (l0 :: l1 :: l2 :: l3 :: some (.int x) :: ls) (st) h Q ↔ Wp 35 93 (l0 :: l1 :: l2 :: l3 :: some (.int x) :: ls) (.int x :: st) h Q) ∧
  (∀ (ls : Lo) (st : List Value) (h : Hp) (Q : Option Value → Hp → Prop) (x : Int32), Wp 35 93 (ls) (.int x :: st) h Q ↔ Br 35 114 96 ls st h Q (x = 0)) ∧
  (∀ (ls : Lo) (st : List Value) (h : Hp) (Q : Option Value → Hp → Prop) (l0 l1 : Option Value) (i : Nat), Wp 35 96 (l0 :: l1 :: some (.ref i) :: ls) (st) h Q ↔ Wp 35 97 (l0 :: l1 :: some (.ref i) :: ls) (.ref i :: st) h Q) ∧
  (∀ (ls : Lo) (st : List Value) (h : Hp) (Q : Option Value → Hp → Prop), Wp 35 97 (ls) (st) h Q ↔ Wp 35 98 (ls) (.int (2) :: st) h Q) ∧
  (∀ (ls : Lo) (st : List Value) (n sl : Nat) (C Z : Nat → Nat) (I : Nat → Nat → Int32) (L : Nat → Nat → Int64) (R : Nat → Nat → Nat) (Q : Option Value → Hp → Prop) (i : Nat) (y : Int32), Wp 35 98 (ls) (.int y :: .ref i :: st) (n, sl, C, Z, I, L, R) Q ↔ ((inb y (Z i) = true ∧ C i = 22) ∧ Wp 35 99 (ls) (.long (L i (ix y)) :: st) (n, sl, C, Z, I, L, R) Q)) ∧
  (∀ (ls : Lo) (st : List Value) (h : Hp) (Q : Option Value → Hp → Prop) (l0 l1 l2 : Option Value) (i : Nat), Wp 35 99 (l0 :: l1 :: l2 :: some (.ref i) :: ls) (st) h Q ↔ Wp 35 100 (l0 :: l1 :: l2 :: some (.ref i) :: ls) (.ref i :: st) h Q) ∧
  (∀ (ls : Lo) (st : List Value) (h : Hp) (Q : Option Value → Hp → Prop), Wp 35 100 (ls) (st) h Q ↔ Wp 35 101 (ls) (.int (0) :: st) h Q) ∧
  (∀ (ls : Lo) (st : List Value) (n sl : Nat) (C Z : Nat → Nat) (I : Nat → Nat → Int32) (L : Nat → Nat → Int64) (R : Nat → Nat → Nat) (Q : Option Value → Hp → Prop) (i : Nat) (y : Int32), Wp 35 101 (ls) (.int y :: .ref i :: st) (n, sl, C, Z, I, L, R) Q ↔ ((inb y (Z i) = true ∧ C i = 22) ∧ Wp 35 102 (ls) (.long (L i (ix y)) :: st) (n, sl, C, Z, I, L, R) Q)) ∧
  (∀ (ls : Lo) (st : List Value) (h : Hp) (Q : Option Value → Hp → Prop) (a b : Int64), Wp 35 102 (ls) (.long b :: .long a :: st) h Q ↔ Wp 35 103 (ls) (.long (a * b) :: st) h Q) ∧
  (∀ (ls : Lo) (st : List Value) (h : Hp) (Q : Option Value → Hp → Prop) (l0 l1 : Option Value) (i : Nat), Wp 35 103 (l0 :: l1 :: some (.ref i) :: ls) (st) h Q ↔ Wp 35 104 (l0 :: l1 :: some (.ref i) :: ls) (.ref i :: st) h Q) ∧
  (∀ (ls : Lo) (st : List Value) (h : Hp) (Q : Option Value → Hp → Prop), Wp 35 104 (ls) (st) h Q ↔ Wp 35 105 (ls) (.int (0) :: st) h Q) ∧
  (∀ (ls : Lo) (st : List Value) (n sl : Nat) (C Z : Nat → Nat) (I : Nat → Nat → Int32) (L : Nat → Nat → Int64) (R : Nat → Nat → Nat) (Q : Option Value → Hp → Prop) (i : Nat) (y : Int32), Wp 35 105 (ls) (.int y :: .ref i :: st) (n, sl, C, Z, I, L, R) Q ↔ ((inb y (Z i) = true ∧ C i = 22) ∧ Wp 35 106 (ls) (.long (L i (ix y)) :: st) (n, sl, C, Z, I, L, R) Q)) ∧
  (∀ (ls : Lo) (st : List Value) (h : Hp) (Q : Option Value → Hp → Prop) (l0 l1 l2 : Option Value) (i : Nat), Wp 35 106 (l0 :: l1 :: l2 :: some (.ref i) :: ls) (st) h Q ↔ Wp 35 107 (l0 :: l1 :: l2 :: some (.ref i) :: ls) (.ref i :: st) h Q) ∧
  (∀ (ls : Lo) (st : List Value) (h : Hp) (Q : Option Value → Hp → Prop), Wp 35 107 (ls) (st) h Q ↔ Wp 35 108 (ls) (.int (2) :: st) h Q) ∧
  (∀ (ls : Lo) (st : List Value) (n sl : Nat) (C Z : Nat → Nat) (I : Nat → Nat → Int32) (L : Nat → Nat → Int64) (R : Nat → Nat → Nat) (Q : Option Value → Hp → Prop) (i : Nat) (y : Int32), Wp 35 108 (ls) (.int y :: .ref i :: st) (n, sl, C, Z, I, L, R) Q ↔ ((inb y (Z i) = true ∧ C i = 22) ∧ Wp 35 109 (ls) (.long (L i (ix y)) :: st) (n, sl, C, Z, I, L, R) Q)) ∧
  (∀ (ls : Lo) (st : List Value) (h : Hp) (Q : Option Value → Hp → Prop) (a b : Int64), Wp 35 109 (ls) (.long b :: .long a :: st) h Q ↔ Wp 35 110 (ls) (.long (a * b) :: st) h Q) := ⟨by intro ls st h Q l0 l1 i; exact e_aload_n d35_80 rfl,
  by intro ls st h Q; exact e_iconst d35_81 rfl,
  by intro ls st n sl C Z I L R Q i y; exact e_lald d35_82,
  by intro ls st h Q a; exact e_lneg d35_83,
  by intro ls st h Q; exact e_goto d35_84 (by decide),
  by intro ls st h Q; exact e_lconst d35_87 rfl,
  by intro ls st n sl C Z I L R Q i y a; exact e_last d35_88,
  by intro ls st h Q l0 i; exact e_aload_n d35_89 rfl,
  by intro ls st h Q; exact e_iconst d35_90 rfl,
  by intro ls st h Q l0 l1 l2 l3 x; exact e_iload d35_91 rfl,
  by intro ls st h Q x; exact e_if d35_93 (by decide) c_eq,
  by intro ls st h Q l0 l1 i; exact e_aload_n d35_96 rfl,
  by intro ls st h Q; exact e_iconst d35_97 rfl,
  by intro ls st n sl C Z I L R Q i y; exact e_lald d35_98,
  by intro ls st h Q l0 l1 l2 i; exact e_aload_n d35_99 rfl,
  by intro ls st h Q; exact e_iconst d35_100 rfl,
  by intro ls st n sl C Z I L R Q i y; exact e_lald d35_101,
  by intro ls st h Q a b; exact e_lmul d35_102,
  by intro ls st h Q l0 l1 i; exact e_aload_n d35_103 rfl,
  by intro ls st h Q; exact e_iconst d35_104 rfl,
  by intro ls st n sl C Z I L R Q i y; exact e_lald d35_105,
  by intro ls st h Q l0 l1 l2 i; exact e_aload_n d35_106 rfl,
  by intro ls st h Q; exact e_iconst d35_107 rfl,
  by intro ls st n sl C Z I L R Q i y; exact e_lald d35_108,
  by intro ls st h Q a b; exact e_lmul d35_109⟩
set_option maxRecDepth 20000 in
theorem S35_3 : (∀ (ls : Lo) (st : List Value) (h : Hp) (Q : Option Value → Hp → Prop) (a b : Int64), Wp 35 110 (ls) (.long b :: .long a :: st) h Q ↔ Wp 35 111 (ls) (.long (a - b) :: st) h Q) ∧
  (∀ (ls : Lo) (st : List Value) (h : Hp) (Q : Option Value → Hp → Prop), Wp 35 111 (ls) (st) h Q ↔ Wp 35 126 (ls) (st) h Q) ∧
  (∀ (ls : Lo) (st : List Value) (h : Hp) (Q : Option Value → Hp → Prop) (l0 l1 l2 l3 l4 : Option Value) (x : Int32), Wp 35 114 (l0 :: l1 :: l2 :: l3 :: l4 :: some (.int x) :: ls) (st) h Q ↔ Wp 35 116 (l0 :: l1 :: l2 :: l3 :: l4 :: some (.int x) :: ls) (.int x :: st) h Q) ∧
  (∀ (ls : Lo) (st : List Value) (h : Hp) (Q : Option Value → Hp → Prop) (x : Int32), Wp 35 116 (ls) (.int x :: st) h Q ↔ Br 35 125 119 ls st h Q (x = 0)) ∧
  (∀ (ls : Lo) (st : List Value) (h : Hp) (Q : Option Value → Hp → Prop) (l0 l1 : Option Value) (i : Nat), Wp 35 119 (l0 :: l1 :: some (.ref i) :: ls) (st) h Q ↔ Wp 35 120 (l0 :: l1 :: some (.ref i) :: ls) (.ref i :: st) h Q) ∧
  (∀ (ls : Lo) (st : List Value) (h : Hp) (Q : Option Value → Hp → Prop), Wp 35 120 (ls) (st) h Q ↔ Wp 35 121 (ls) (.int (0) :: st) h Q) ∧
  (∀ (ls : Lo) (st : List Value) (n sl : Nat) (C Z : Nat → Nat) (I : Nat → Nat → Int32) (L : Nat → Nat → Int64) (R : Nat → Nat → Nat) (Q : Option Value → Hp → Prop) (i : Nat) (y : Int32), Wp 35 121 (ls) (.int y :: .ref i :: st) (n, sl, C, Z, I, L, R) Q ↔ ((inb y (Z i) = true ∧ C i = 22) ∧ Wp 35 122 (ls) (.long (L i (ix y)) :: st) (n, sl, C, Z, I, L, R) Q)) ∧
  (∀ (ls : Lo) (st : List Value) (h : Hp) (Q : Option Value → Hp → Prop), Wp 35 122 (ls) (st) h Q ↔ Wp 35 126 (ls) (st) h Q) ∧
  (∀ (ls : Lo) (st : List Value) (h : Hp) (Q : Option Value → Hp → Prop), Wp 35 125 (ls) (st) h Q ↔ Wp 35 126 (ls) (.long 0 :: st) h Q) ∧
  (∀ (ls : Lo) (st : List Value) (n sl : Nat) (C Z : Nat → Nat) (I : Nat → Nat → Int32) (L : Nat → Nat → Int64) (R : Nat → Nat → Nat) (Q : Option Value → Hp → Prop) (i : Nat) (y : Int32) (a : Int64), Wp 35 126 (ls) (.long a :: .int y :: .ref i :: st) (n, sl, C, Z, I, L, R) Q ↔ ((inb y (Z i) = true ∧ C i = 22) ∧ Wp 35 127 (ls) (st) (n, sl, C, Z, I, u2 L i (ix y) a, R) Q)) ∧
  (∀ (ls : Lo) (st : List Value) (h : Hp) (Q : Option Value → Hp → Prop) (l0 : Option Value) (i : Nat), Wp 35 127 (l0 :: some (.ref i) :: ls) (st) h Q ↔ Wp 35 128 (l0 :: some (.ref i) :: ls) (.ref i :: st) h Q) ∧
  (∀ (ls : Lo) (st : List Value) (h : Hp) (Q : Option Value → Hp → Prop), Wp 35 128 (ls) (st) h Q ↔ Wp 35 129 (ls) (.int (2) :: st) h Q) ∧
  (∀ (ls : Lo) (st : List Value) (h : Hp) (Q : Option Value → Hp → Prop) (l0 l1 l2 l3 : Option Value) (x : Int32), Wp 35 129 (l0 :: l1 :: l2 :: l3 :: some (.int x) :: ls) (st) h Q ↔ Wp 35 131 (l0 :: l1 :: l2 :: l3 :: some (.int x) :: ls) (.int x :: st) h Q) ∧
  (∀ (ls : Lo) (st : List Value) (h : Hp) (Q : Option Value → Hp → Prop) (x : Int32), Wp 35 131 (ls) (.int x :: st) h Q ↔ Br 35 152 134 ls st h Q (x = 0)) ∧
  (∀ (ls : Lo) (st : List Value) (h : Hp) (Q : Option Value → Hp → Prop) (l0 l1 : Option Value) (i : Nat), Wp 35 134 (l0 :: l1 :: some (.ref i) :: ls) (st) h Q ↔ Wp 35 135 (l0 :: l1 :: some (.ref i) :: ls) (.ref i :: st) h Q) ∧
  (∀ (ls : Lo) (st : List Value) (h : Hp) (Q : Option Value → Hp → Prop), Wp 35 135 (ls) (st) h Q ↔ Wp 35 136 (ls) (.int (0) :: st) h Q) ∧
  (∀ (ls : Lo) (st : List Value) (n sl : Nat) (C Z : Nat → Nat) (I : Nat → Nat → Int32) (L : Nat → Nat → Int64) (R : Nat → Nat → Nat) (Q : Option Value → Hp → Prop) (i : Nat) (y : Int32), Wp 35 136 (ls) (.int y :: .ref i :: st) (n, sl, C, Z, I, L, R) Q ↔ ((inb y (Z i) = true ∧ C i = 22) ∧ Wp 35 137 (ls) (.long (L i (ix y)) :: st) (n, sl, C, Z, I, L, R) Q)) ∧
  (∀ (ls : Lo) (st : List Value) (h : Hp) (Q : Option Value → Hp → Prop) (l0 l1 l2 : Option Value) (i : Nat), Wp 35 137 (l0 :: l1 :: l2 :: some (.ref i) :: ls) (st) h Q ↔ Wp 35 138 (l0 :: l1 :: l2 :: some (.ref i) :: ls) (.ref i :: st) h Q) ∧
  (∀ (ls : Lo) (st : List Value) (h : Hp) (Q : Option Value → Hp → Prop), Wp 35 138 (ls) (st) h Q ↔ Wp 35 139 (ls) (.int (1) :: st) h Q) ∧
  (∀ (ls : Lo) (st : List Value) (n sl : Nat) (C Z : Nat → Nat) (I : Nat → Nat → Int32) (L : Nat → Nat → Int64) (R : Nat → Nat → Nat) (Q : Option Value → Hp → Prop) (i : Nat) (y : Int32), Wp 35 139 (ls) (.int y :: .ref i :: st) (n, sl, C, Z, I, L, R) Q ↔ ((inb y (Z i) = true ∧ C i = 22) ∧ Wp 35 140 (ls) (.long (L i (ix y)) :: st) (n, sl, C, Z, I, L, R) Q)) ∧
  (∀ (ls : Lo) (st : List Value) (h : Hp) (Q : Option Value → Hp → Prop) (a b : Int64), Wp 35 140 (ls) (.long b :: .long a :: st) h Q ↔ Wp 35 141 (ls) (.long (a * b) :: st) h Q) ∧
  (∀ (ls : Lo) (st : List Value) (h : Hp) (Q : Option Value → Hp → Prop) (l0 l1 : Option Value) (i : Nat), Wp 35 141 (l0 :: l1 :: some (.ref i) :: ls) (st) h Q ↔ Wp 35 142 (l0 :: l1 :: some (.ref i) :: ls) (.ref i :: st) h Q) ∧
  (∀ (ls : Lo) (st : List Value) (h : Hp) (Q : Option Value → Hp → Prop), Wp 35 142 (ls) (st) h Q ↔ Wp 35 143 (ls) (.int (1) :: st) h Q) ∧
  (∀ (ls : Lo) (st : List Value) (n sl : Nat) (C Z : Nat → Nat) (I : Nat → Nat → Int32) (L : Nat → Nat → Int64) (R : Nat → Nat → Nat) (Q : Option Value → Hp → Prop) (i : Nat) (y : Int32), Wp 35 143 (ls) (.int y :: .ref i :: st) (n, sl, C, Z, I, L, R) Q ↔ ((inb y (Z i) = true ∧ C i = 22) ∧ Wp 35 144 (ls) (.long (L i (ix y)) :: st) (n, sl, C, Z, I, L, R) Q)) ∧
  (∀ (ls : Lo) (st : List Value) (h : Hp) (Q : Option Value → Hp → Prop) (l0 l1 l2 : Option Value) (i : Nat), Wp 35 144 (l0 :: l1 :: l2 :: some (.ref i) :: ls) (st) h Q ↔ Wp 35 145 (l0 :: l1 :: l2 :: some (.ref i) :: ls) (.ref i :: st) h Q) := ⟨by intro ls st h Q a b; exact e_lsub d35_110,
  by intro ls st h Q; exact e_goto d35_111 (by decide),
  by intro ls st h Q l0 l1 l2 l3 l4 x; exact e_iload d35_114 rfl,
  by intro ls st h Q x; exact e_if d35_116 (by decide) c_eq,
  by intro ls st h Q l0 l1 i; exact e_aload_n d35_119 rfl,
  by intro ls st h Q; exact e_iconst d35_120 rfl,
  by intro ls st n sl C Z I L R Q i y; exact e_lald d35_121,
  by intro ls st h Q; exact e_goto d35_122 (by decide),
  by intro ls st h Q; exact e_lconst d35_125 rfl,
  by intro ls st n sl C Z I L R Q i y a; exact e_last d35_126,
  by intro ls st h Q l0 i; exact e_aload_n d35_127 rfl,
  by intro ls st h Q; exact e_iconst d35_128 rfl,
  by intro ls st h Q l0 l1 l2 l3 x; exact e_iload d35_129 rfl,
  by intro ls st h Q x; exact e_if d35_131 (by decide) c_eq,
  by intro ls st h Q l0 l1 i; exact e_aload_n d35_134 rfl,
  by intro ls st h Q; exact e_iconst d35_135 rfl,
  by intro ls st n sl C Z I L R Q i y; exact e_lald d35_136,
  by intro ls st h Q l0 l1 l2 i; exact e_aload_n d35_137 rfl,
  by intro ls st h Q; exact e_iconst d35_138 rfl,
  by intro ls st n sl C Z I L R Q i y; exact e_lald d35_139,
  by intro ls st h Q a b; exact e_lmul d35_140,
  by intro ls st h Q l0 l1 i; exact e_aload_n d35_141 rfl,
  by intro ls st h Q; exact e_iconst d35_142 rfl,
  by intro ls st n sl C Z I L R Q i y; exact e_lald d35_143,
  by intro ls st h Q l0 l1 l2 i; exact e_aload_n d35_144 rfl⟩
set_option maxRecDepth 20000 in
theorem S35_4 : (∀ (ls : Lo) (st : List Value) (h : Hp) (Q : Option Value → Hp → Prop), Wp 35 145 (ls) (st) h Q ↔ Wp 35 146 (ls) (.int (0) :: st) h Q) ∧
  (∀ (ls : Lo) (st : List Value) (n sl : Nat) (C Z : Nat → Nat) (I : Nat → Nat → Int32) (L : Nat → Nat → Int64) (R : Nat → Nat → Nat) (Q : Option Value → Hp → Prop) (i : Nat) (y : Int32), Wp 35 146 (ls) (.int y :: .ref i :: st) (n, sl, C, Z, I, L, R) Q ↔ ((inb y (Z i) = true ∧ C i = 22) ∧ Wp 35 147 (ls) (.long (L i (ix y)) :: st) (n, sl, C, Z, I, L, R) Q)) ∧
  (∀ (ls : Lo) (st : List Value) (h : Hp) (Q : Option Value → Hp → Prop) (a b : Int64), Wp 35 147 (ls) (.long b :: .long a :: st) h Q ↔ Wp 35 148 (ls) (.long (a * b) :: st) h Q) ∧
  (∀ (ls : Lo) (st : List Value) (h : Hp) (Q : Option Value → Hp → Prop) (a b : Int64), Wp 35 148 (ls) (.long b :: .long a :: st) h Q ↔ Wp 35 149 (ls) (.long (a - b) :: st) h Q) ∧
  (∀ (ls : Lo) (st : List Value) (h : Hp) (Q : Option Value → Hp → Prop), Wp 35 149 (ls) (st) h Q ↔ Wp 35 153 (ls) (st) h Q) ∧
  (∀ (ls : Lo) (st : List Value) (h : Hp) (Q : Option Value → Hp → Prop), Wp 35 152 (ls) (st) h Q ↔ Wp 35 153 (ls) (.long 0 :: st) h Q) ∧
  (∀ (ls : Lo) (st : List Value) (n sl : Nat) (C Z : Nat → Nat) (I : Nat → Nat → Int32) (L : Nat → Nat → Int64) (R : Nat → Nat → Nat) (Q : Option Value → Hp → Prop) (i : Nat) (y : Int32) (a : Int64), Wp 35 153 (ls) (.long a :: .int y :: .ref i :: st) (n, sl, C, Z, I, L, R) Q ↔ ((inb y (Z i) = true ∧ C i = 22) ∧ Wp 35 154 (ls) (st) (n, sl, C, Z, I, u2 L i (ix y) a, R) Q)) ∧
  (∀ (ls : Lo) (h : Hp) (Q : Option Value → Hp → Prop), Wp 35 154 (ls) ([]) h Q ↔ Q none h) := ⟨by intro ls st h Q; exact e_iconst d35_145 rfl,
  by intro ls st n sl C Z I L R Q i y; exact e_lald d35_146,
  by intro ls st h Q a b; exact e_lmul d35_147,
  by intro ls st h Q a b; exact e_lsub d35_148,
  by intro ls st h Q; exact e_goto d35_149 (by decide),
  by intro ls st h Q; exact e_lconst d35_152 rfl,
  by intro ls st n sl C Z I L R Q i y a; exact e_last d35_153,
  by intros; exact e_rV d35_154 rfl⟩
theorem d36_0 : decode (byt 36) 0 = .ok (.aload_n 0, 1) := by decide +kernel
theorem d36_1 : decode (byt 36) 1 = .ok (.getfield 41, 3) := by decide +kernel
theorem d36_4 : decode (byt 36) 4 = .ok (.iconst 0, 1) := by decide +kernel
theorem d36_5 : decode (byt 36) 5 = .ok (.aload_n 0, 1) := by decide +kernel
theorem d36_6 : decode (byt 36) 6 = .ok (.getfield 14, 3) := by decide +kernel
theorem d36_9 : decode (byt 36) 9 = .ok (.getfield 81, 3) := by decide +kernel
theorem d36_12 : decode (byt 36) 12 = .ok (.ifCond .le 8, 3) := by decide +kernel
theorem d36_15 : decode (byt 36) 15 = .ok (.iload_n 1, 1) := by decide +kernel
theorem d36_16 : decode (byt 36) 16 = .ok (.i2l, 1) := by decide +kernel
theorem d36_17 : decode (byt 36) 17 = .ok (.goto 4, 3) := by decide +kernel
theorem d36_20 : decode (byt 36) 20 = .ok (.lconst 0, 1) := by decide +kernel
theorem d36_21 : decode (byt 36) 21 = .ok (.lastore, 1) := by decide +kernel
theorem d36_22 : decode (byt 36) 22 = .ok (.aload_n 0, 1) := by decide +kernel
theorem d36_23 : decode (byt 36) 23 = .ok (.getfield 41, 3) := by decide +kernel
theorem d36_26 : decode (byt 36) 26 = .ok (.iconst 1, 1) := by decide +kernel
theorem d36_27 : decode (byt 36) 27 = .ok (.aload_n 0, 1) := by decide +kernel
theorem d36_28 : decode (byt 36) 28 = .ok (.getfield 14, 3) := by decide +kernel
theorem d36_31 : decode (byt 36) 31 = .ok (.getfield 81, 3) := by decide +kernel
theorem d36_34 : decode (byt 36) 34 = .ok (.iconst 1, 1) := by decide +kernel
theorem d36_35 : decode (byt 36) 35 = .ok (.if_icmp .le 8, 3) := by decide +kernel
theorem d36_38 : decode (byt 36) 38 = .ok (.iload_n 2, 1) := by decide +kernel
theorem d36_39 : decode (byt 36) 39 = .ok (.i2l, 1) := by decide +kernel
theorem d36_40 : decode (byt 36) 40 = .ok (.goto 4, 3) := by decide +kernel
theorem d36_43 : decode (byt 36) 43 = .ok (.lconst 0, 1) := by decide +kernel
theorem d36_44 : decode (byt 36) 44 = .ok (.lastore, 1) := by decide +kernel
theorem d36_45 : decode (byt 36) 45 = .ok (.aload_n 0, 1) := by decide +kernel
theorem d36_46 : decode (byt 36) 46 = .ok (.getfield 41, 3) := by decide +kernel
theorem d36_49 : decode (byt 36) 49 = .ok (.iconst 2, 1) := by decide +kernel
theorem d36_50 : decode (byt 36) 50 = .ok (.aload_n 0, 1) := by decide +kernel
theorem d36_51 : decode (byt 36) 51 = .ok (.getfield 14, 3) := by decide +kernel
theorem d36_54 : decode (byt 36) 54 = .ok (.getfield 81, 3) := by decide +kernel
theorem d36_57 : decode (byt 36) 57 = .ok (.iconst 2, 1) := by decide +kernel
theorem d36_58 : decode (byt 36) 58 = .ok (.if_icmp .le 8, 3) := by decide +kernel
theorem d36_61 : decode (byt 36) 61 = .ok (.iload_n 3, 1) := by decide +kernel
theorem d36_62 : decode (byt 36) 62 = .ok (.i2l, 1) := by decide +kernel
theorem d36_63 : decode (byt 36) 63 = .ok (.goto 4, 3) := by decide +kernel
theorem d36_66 : decode (byt 36) 66 = .ok (.lconst 0, 1) := by decide +kernel
theorem d36_67 : decode (byt 36) 67 = .ok (.lastore, 1) := by decide +kernel
theorem d36_68 : decode (byt 36) 68 = .ok (.iconst 0, 1) := by decide +kernel
theorem d36_69 : decode (byt 36) 69 = .ok (.istore 4, 2) := by decide +kernel
theorem d36_71 : decode (byt 36) 71 = .ok (.iload 4, 2) := by decide +kernel
theorem d36_73 : decode (byt 36) 73 = .ok (.aload_n 0, 1) := by decide +kernel
theorem d36_74 : decode (byt 36) 74 = .ok (.getfield 14, 3) := by decide +kernel
theorem d36_77 : decode (byt 36) 77 = .ok (.getfield 81, 3) := by decide +kernel
theorem d36_80 : decode (byt 36) 80 = .ok (.if_icmp .gt 98, 3) := by decide +kernel
theorem d36_83 : decode (byt 36) 83 = .ok (.aload_n 0, 1) := by decide +kernel
theorem d36_84 : decode (byt 36) 84 = .ok (.getfield 41, 3) := by decide +kernel
theorem d36_87 : decode (byt 36) 87 = .ok (.iconst 0, 1) := by decide +kernel
theorem d36_88 : decode (byt 36) 88 = .ok (.aload_n 0, 1) := by decide +kernel
theorem d36_89 : decode (byt 36) 89 = .ok (.getfield 32, 3) := by decide +kernel
theorem d36_92 : decode (byt 36) 92 = .ok (.iload 4, 2) := by decide +kernel
theorem d36_94 : decode (byt 36) 94 = .ok (.aaload, 1) := by decide +kernel
theorem d36_95 : decode (byt 36) 95 = .ok (.iconst 0, 1) := by decide +kernel
theorem d36_96 : decode (byt 36) 96 = .ok (.iconst 3, 1) := by decide +kernel
theorem d36_97 : decode (byt 36) 97 = .ok (.invokestatic 113, 3) := by decide +kernel
theorem d36_100 : decode (byt 36) 100 = .ok (.aload_n 0, 1) := by decide +kernel
theorem d36_101 : decode (byt 36) 101 = .ok (.getfield 32, 3) := by decide +kernel
theorem d36_104 : decode (byt 36) 104 = .ok (.iload 4, 2) := by decide +kernel
theorem d36_106 : decode (byt 36) 106 = .ok (.iconst 1, 1) := by decide +kernel
theorem d36_107 : decode (byt 36) 107 = .ok (.iadd, 1) := by decide +kernel
theorem d36_108 : decode (byt 36) 108 = .ok (.invokestatic 119, 3) := by decide +kernel
theorem d36_111 : decode (byt 36) 111 = .ok (.aload_n 0, 1) := by decide +kernel
theorem d36_112 : decode (byt 36) 112 = .ok (.getfield 32, 3) := by decide +kernel
theorem d36_115 : decode (byt 36) 115 = .ok (.iload 4, 2) := by decide +kernel
theorem d36_117 : decode (byt 36) 117 = .ok (.invokestatic 119, 3) := by decide +kernel
theorem d36_120 : decode (byt 36) 120 = .ok (.if_icmp .ne 6, 3) := by decide +kernel
theorem d36_123 : decode (byt 36) 123 = .ok (.iload 4, 2) := by decide +kernel
theorem d36_125 : decode (byt 36) 125 = .ok (.ireturn, 1) := by decide +kernel
theorem d36_126 : decode (byt 36) 126 = .ok (.aload_n 0, 1) := by decide +kernel
theorem d36_127 : decode (byt 36) 127 = .ok (.getfield 22, 3) := by decide +kernel
theorem d36_130 : decode (byt 36) 130 = .ok (.iload 4, 2) := by decide +kernel
theorem d36_132 : decode (byt 36) 132 = .ok (.aaload, 1) := by decide +kernel
theorem d36_133 : decode (byt 36) 133 = .ok (.iconst 0, 1) := by decide +kernel
theorem d36_134 : decode (byt 36) 134 = .ok (.aload_n 0, 1) := by decide +kernel
theorem d36_135 : decode (byt 36) 135 = .ok (.getfield 32, 3) := by decide +kernel
theorem d36_138 : decode (byt 36) 138 = .ok (.iload 4, 2) := by decide +kernel
theorem d36_140 : decode (byt 36) 140 = .ok (.aaload, 1) := by decide +kernel
theorem d36_141 : decode (byt 36) 141 = .ok (.iconst 0, 1) := by decide +kernel
theorem d36_142 : decode (byt 36) 142 = .ok (.iconst 3, 1) := by decide +kernel
theorem d36_143 : decode (byt 36) 143 = .ok (.invokestatic 113, 3) := by decide +kernel
theorem d36_146 : decode (byt 36) 146 = .ok (.aload_n 0, 1) := by decide +kernel
theorem d36_147 : decode (byt 36) 147 = .ok (.aload_n 0, 1) := by decide +kernel
theorem d36_148 : decode (byt 36) 148 = .ok (.getfield 44, 3) := by decide +kernel
theorem d36_151 : decode (byt 36) 151 = .ok (.aload_n 0, 1) := by decide +kernel
theorem d36_152 : decode (byt 36) 152 = .ok (.getfield 41, 3) := by decide +kernel
theorem d36_155 : decode (byt 36) 155 = .ok (.invokevirtual 54, 3) := by decide +kernel
theorem d36_158 : decode (byt 36) 158 = .ok (.aload_n 0, 1) := by decide +kernel
theorem d36_159 : decode (byt 36) 159 = .ok (.getfield 44, 3) := by decide +kernel
theorem d36_162 : decode (byt 36) 162 = .ok (.iconst 0, 1) := by decide +kernel
theorem d36_163 : decode (byt 36) 163 = .ok (.aload_n 0, 1) := by decide +kernel
theorem d36_164 : decode (byt 36) 164 = .ok (.getfield 41, 3) := by decide +kernel
theorem d36_167 : decode (byt 36) 167 = .ok (.iconst 0, 1) := by decide +kernel
theorem d36_168 : decode (byt 36) 168 = .ok (.iconst 3, 1) := by decide +kernel
theorem d36_169 : decode (byt 36) 169 = .ok (.invokestatic 113, 3) := by decide +kernel
theorem d36_172 : decode (byt 36) 172 = .ok (.iinc 4 1, 3) := by decide +kernel
theorem d36_175 : decode (byt 36) 175 = .ok (.goto (-104), 3) := by decide +kernel
theorem d36_178 : decode (byt 36) 178 = .ok (.iconst (-1), 1) := by decide +kernel
theorem d36_179 : decode (byt 36) 179 = .ok (.ireturn, 1) := by decide +kernel
set_option maxRecDepth 20000 in
theorem S36_0 : (∀ (ls : Lo) (st : List Value) (h : Hp) (Q : Option Value → Hp → Prop)  (i : Nat), Wp 36 0 (some (.ref i) :: ls) (st) h Q ↔ Wp 36 1 (some (.ref i) :: ls) (.ref i :: st) h Q) ∧
  (∀ (ls : Lo) (st : List Value) (n sl : Nat) (C Z : Nat → Nat) (I : Nat → Nat → Int32) (L : Nat → Nat → Int64) (R : Nat → Nat → Nat) (Q : Option Value → Hp → Prop) (i : Nat), Wp 36 1 (ls) (.ref i :: st) (n, sl, C, Z, I, L, R) Q ↔ (C i = 4 ∧ Wp 36 4 (ls) (.ref (R i 7) :: st) (n, sl, C, Z, I, L, R) Q)) ∧
  (∀ (ls : Lo) (st : List Value) (h : Hp) (Q : Option Value → Hp → Prop), Wp 36 4 (ls) (st) h Q ↔ Wp 36 5 (ls) (.int (0) :: st) h Q) ∧
  (∀ (ls : Lo) (st : List Value) (h : Hp) (Q : Option Value → Hp → Prop)  (i : Nat), Wp 36 5 (some (.ref i) :: ls) (st) h Q ↔ Wp 36 6 (some (.ref i) :: ls) (.ref i :: st) h Q) ∧
  (∀ (ls : Lo) (st : List Value) (n sl : Nat) (C Z : Nat → Nat) (I : Nat → Nat → Int32) (L : Nat → Nat → Int64) (R : Nat → Nat → Nat) (Q : Option Value → Hp → Prop) (i : Nat), Wp 36 6 (ls) (.ref i :: st) (n, sl, C, Z, I, L, R) Q ↔ (C i = 4 ∧ Wp 36 9 (ls) (.ref (R i 0) :: st) (n, sl, C, Z, I, L, R) Q)) ∧
  (∀ (ls : Lo) (st : List Value) (n sl : Nat) (C Z : Nat → Nat) (I : Nat → Nat → Int32) (L : Nat → Nat → Int64) (R : Nat → Nat → Nat) (Q : Option Value → Hp → Prop) (i : Nat), Wp 36 9 (ls) (.ref i :: st) (n, sl, C, Z, I, L, R) Q ↔ (inG 7 (C i) = true ∧ Wp 36 12 (ls) (.int (I i 1) :: st) (n, sl, C, Z, I, L, R) Q)) ∧
  (∀ (ls : Lo) (st : List Value) (h : Hp) (Q : Option Value → Hp → Prop) (x : Int32), Wp 36 12 (ls) (.int x :: st) h Q ↔ Br 36 20 15 ls st h Q (x ≤ 0)) ∧
  (∀ (ls : Lo) (st : List Value) (h : Hp) (Q : Option Value → Hp → Prop) (l0 : Option Value) (x : Int32), Wp 36 15 (l0 :: some (.int x) :: ls) (st) h Q ↔ Wp 36 16 (l0 :: some (.int x) :: ls) (.int x :: st) h Q) ∧
  (∀ (ls : Lo) (st : List Value) (h : Hp) (Q : Option Value → Hp → Prop) (x : Int32), Wp 36 16 (ls) (.int x :: st) h Q ↔ Wp 36 17 (ls) (.long x.toInt64 :: st) h Q) ∧
  (∀ (ls : Lo) (st : List Value) (h : Hp) (Q : Option Value → Hp → Prop), Wp 36 17 (ls) (st) h Q ↔ Wp 36 21 (ls) (st) h Q) ∧
  (∀ (ls : Lo) (st : List Value) (h : Hp) (Q : Option Value → Hp → Prop), Wp 36 20 (ls) (st) h Q ↔ Wp 36 21 (ls) (.long 0 :: st) h Q) ∧
  (∀ (ls : Lo) (st : List Value) (n sl : Nat) (C Z : Nat → Nat) (I : Nat → Nat → Int32) (L : Nat → Nat → Int64) (R : Nat → Nat → Nat) (Q : Option Value → Hp → Prop) (i : Nat) (y : Int32) (a : Int64), Wp 36 21 (ls) (.long a :: .int y :: .ref i :: st) (n, sl, C, Z, I, L, R) Q ↔ ((inb y (Z i) = true ∧ C i = 22) ∧ Wp 36 22 (ls) (st) (n, sl, C, Z, I, u2 L i (ix y) a, R) Q)) ∧
  (∀ (ls : Lo) (st : List Value) (h : Hp) (Q : Option Value → Hp → Prop)  (i : Nat), Wp 36 22 (some (.ref i) :: ls) (st) h Q ↔ Wp 36 23 (some (.ref i) :: ls) (.ref i :: st) h Q) ∧
  (∀ (ls : Lo) (st : List Value) (n sl : Nat) (C Z : Nat → Nat) (I : Nat → Nat → Int32) (L : Nat → Nat → Int64) (R : Nat → Nat → Nat) (Q : Option Value → Hp → Prop) (i : Nat), Wp 36 23 (ls) (.ref i :: st) (n, sl, C, Z, I, L, R) Q ↔ (C i = 4 ∧ Wp 36 26 (ls) (.ref (R i 7) :: st) (n, sl, C, Z, I, L, R) Q)) ∧
  (∀ (ls : Lo) (st : List Value) (h : Hp) (Q : Option Value → Hp → Prop), Wp 36 26 (ls) (st) h Q ↔ Wp 36 27 (ls) (.int (1) :: st) h Q) ∧
  (∀ (ls : Lo) (st : List Value) (h : Hp) (Q : Option Value → Hp → Prop)  (i : Nat), Wp 36 27 (some (.ref i) :: ls) (st) h Q ↔ Wp 36 28 (some (.ref i) :: ls) (.ref i :: st) h Q) ∧
  (∀ (ls : Lo) (st : List Value) (n sl : Nat) (C Z : Nat → Nat) (I : Nat → Nat → Int32) (L : Nat → Nat → Int64) (R : Nat → Nat → Nat) (Q : Option Value → Hp → Prop) (i : Nat), Wp 36 28 (ls) (.ref i :: st) (n, sl, C, Z, I, L, R) Q ↔ (C i = 4 ∧ Wp 36 31 (ls) (.ref (R i 0) :: st) (n, sl, C, Z, I, L, R) Q)) ∧
  (∀ (ls : Lo) (st : List Value) (n sl : Nat) (C Z : Nat → Nat) (I : Nat → Nat → Int32) (L : Nat → Nat → Int64) (R : Nat → Nat → Nat) (Q : Option Value → Hp → Prop) (i : Nat), Wp 36 31 (ls) (.ref i :: st) (n, sl, C, Z, I, L, R) Q ↔ (inG 7 (C i) = true ∧ Wp 36 34 (ls) (.int (I i 1) :: st) (n, sl, C, Z, I, L, R) Q)) ∧
  (∀ (ls : Lo) (st : List Value) (h : Hp) (Q : Option Value → Hp → Prop), Wp 36 34 (ls) (st) h Q ↔ Wp 36 35 (ls) (.int (1) :: st) h Q) ∧
  (∀ (ls : Lo) (st : List Value) (h : Hp) (Q : Option Value → Hp → Prop) (x y : Int32), Wp 36 35 (ls) (.int y :: .int x :: st) h Q ↔ Br 36 43 38 ls st h Q (x ≤ y)) ∧
  (∀ (ls : Lo) (st : List Value) (h : Hp) (Q : Option Value → Hp → Prop) (l0 l1 : Option Value) (x : Int32), Wp 36 38 (l0 :: l1 :: some (.int x) :: ls) (st) h Q ↔ Wp 36 39 (l0 :: l1 :: some (.int x) :: ls) (.int x :: st) h Q) ∧
  (∀ (ls : Lo) (st : List Value) (h : Hp) (Q : Option Value → Hp → Prop) (x : Int32), Wp 36 39 (ls) (.int x :: st) h Q ↔ Wp 36 40 (ls) (.long x.toInt64 :: st) h Q) ∧
  (∀ (ls : Lo) (st : List Value) (h : Hp) (Q : Option Value → Hp → Prop), Wp 36 40 (ls) (st) h Q ↔ Wp 36 44 (ls) (st) h Q) ∧
  (∀ (ls : Lo) (st : List Value) (h : Hp) (Q : Option Value → Hp → Prop), Wp 36 43 (ls) (st) h Q ↔ Wp 36 44 (ls) (.long 0 :: st) h Q) ∧
  (∀ (ls : Lo) (st : List Value) (n sl : Nat) (C Z : Nat → Nat) (I : Nat → Nat → Int32) (L : Nat → Nat → Int64) (R : Nat → Nat → Nat) (Q : Option Value → Hp → Prop) (i : Nat) (y : Int32) (a : Int64), Wp 36 44 (ls) (.long a :: .int y :: .ref i :: st) (n, sl, C, Z, I, L, R) Q ↔ ((inb y (Z i) = true ∧ C i = 22) ∧ Wp 36 45 (ls) (st) (n, sl, C, Z, I, u2 L i (ix y) a, R) Q)) := ⟨by intro ls st h Q i; exact e_aload_n d36_0 rfl,
  by intro ls st n sl C Z I L R Q i; exact e_get (g := 3) (s := 7) (ty := 2) d36_1 rfl rfl (inG_ne (by decide)),
  by intro ls st h Q; exact e_iconst d36_4 rfl,
  by intro ls st h Q i; exact e_aload_n d36_5 rfl,
  by intro ls st n sl C Z I L R Q i; exact e_get (g := 3) (s := 0) (ty := 2) d36_6 rfl rfl (inG_ne (by decide)),
  by intro ls st n sl C Z I L R Q i; exact e_get (g := 7) (s := 1) (ty := 0) d36_9 rfl rfl rfl,
  by intro ls st h Q x; exact e_if d36_12 (by decide) c_le,
  by intro ls st h Q l0 x; exact e_iload_n d36_15 rfl,
  by intro ls st h Q x; exact e_i2l d36_16,
  by intro ls st h Q; exact e_goto d36_17 (by decide),
  by intro ls st h Q; exact e_lconst d36_20 rfl,
  by intro ls st n sl C Z I L R Q i y a; exact e_last d36_21,
  by intro ls st h Q i; exact e_aload_n d36_22 rfl,
  by intro ls st n sl C Z I L R Q i; exact e_get (g := 3) (s := 7) (ty := 2) d36_23 rfl rfl (inG_ne (by decide)),
  by intro ls st h Q; exact e_iconst d36_26 rfl,
  by intro ls st h Q i; exact e_aload_n d36_27 rfl,
  by intro ls st n sl C Z I L R Q i; exact e_get (g := 3) (s := 0) (ty := 2) d36_28 rfl rfl (inG_ne (by decide)),
  by intro ls st n sl C Z I L R Q i; exact e_get (g := 7) (s := 1) (ty := 0) d36_31 rfl rfl rfl,
  by intro ls st h Q; exact e_iconst d36_34 rfl,
  by intro ls st h Q x y; exact e_ic d36_35 (by decide) c_le,
  by intro ls st h Q l0 l1 x; exact e_iload_n d36_38 rfl,
  by intro ls st h Q x; exact e_i2l d36_39,
  by intro ls st h Q; exact e_goto d36_40 (by decide),
  by intro ls st h Q; exact e_lconst d36_43 rfl,
  by intro ls st n sl C Z I L R Q i y a; exact e_last d36_44⟩
set_option maxRecDepth 20000 in
theorem S36_1 : (∀ (ls : Lo) (st : List Value) (h : Hp) (Q : Option Value → Hp → Prop)  (i : Nat), Wp 36 45 (some (.ref i) :: ls) (st) h Q ↔ Wp 36 46 (some (.ref i) :: ls) (.ref i :: st) h Q) ∧
  (∀ (ls : Lo) (st : List Value) (n sl : Nat) (C Z : Nat → Nat) (I : Nat → Nat → Int32) (L : Nat → Nat → Int64) (R : Nat → Nat → Nat) (Q : Option Value → Hp → Prop) (i : Nat), Wp 36 46 (ls) (.ref i :: st) (n, sl, C, Z, I, L, R) Q ↔ (C i = 4 ∧ Wp 36 49 (ls) (.ref (R i 7) :: st) (n, sl, C, Z, I, L, R) Q)) ∧
  (∀ (ls : Lo) (st : List Value) (h : Hp) (Q : Option Value → Hp → Prop), Wp 36 49 (ls) (st) h Q ↔ Wp 36 50 (ls) (.int (2) :: st) h Q) ∧
  (∀ (ls : Lo) (st : List Value) (h : Hp) (Q : Option Value → Hp → Prop)  (i : Nat), Wp 36 50 (some (.ref i) :: ls) (st) h Q ↔ Wp 36 51 (some (.ref i) :: ls) (.ref i :: st) h Q) ∧
  (∀ (ls : Lo) (st : List Value) (n sl : Nat) (C Z : Nat → Nat) (I : Nat → Nat → Int32) (L : Nat → Nat → Int64) (R : Nat → Nat → Nat) (Q : Option Value → Hp → Prop) (i : Nat), Wp 36 51 (ls) (.ref i :: st) (n, sl, C, Z, I, L, R) Q ↔ (C i = 4 ∧ Wp 36 54 (ls) (.ref (R i 0) :: st) (n, sl, C, Z, I, L, R) Q)) ∧
  (∀ (ls : Lo) (st : List Value) (n sl : Nat) (C Z : Nat → Nat) (I : Nat → Nat → Int32) (L : Nat → Nat → Int64) (R : Nat → Nat → Nat) (Q : Option Value → Hp → Prop) (i : Nat), Wp 36 54 (ls) (.ref i :: st) (n, sl, C, Z, I, L, R) Q ↔ (inG 7 (C i) = true ∧ Wp 36 57 (ls) (.int (I i 1) :: st) (n, sl, C, Z, I, L, R) Q)) ∧
  (∀ (ls : Lo) (st : List Value) (h : Hp) (Q : Option Value → Hp → Prop), Wp 36 57 (ls) (st) h Q ↔ Wp 36 58 (ls) (.int (2) :: st) h Q) ∧
  (∀ (ls : Lo) (st : List Value) (h : Hp) (Q : Option Value → Hp → Prop) (x y : Int32), Wp 36 58 (ls) (.int y :: .int x :: st) h Q ↔ Br 36 66 61 ls st h Q (x ≤ y)) ∧
  (∀ (ls : Lo) (st : List Value) (h : Hp) (Q : Option Value → Hp → Prop) (l0 l1 l2 : Option Value) (x : Int32), Wp 36 61 (l0 :: l1 :: l2 :: some (.int x) :: ls) (st) h Q ↔ Wp 36 62 (l0 :: l1 :: l2 :: some (.int x) :: ls) (.int x :: st) h Q) ∧
  (∀ (ls : Lo) (st : List Value) (h : Hp) (Q : Option Value → Hp → Prop) (x : Int32), Wp 36 62 (ls) (.int x :: st) h Q ↔ Wp 36 63 (ls) (.long x.toInt64 :: st) h Q) ∧
  (∀ (ls : Lo) (st : List Value) (h : Hp) (Q : Option Value → Hp → Prop), Wp 36 63 (ls) (st) h Q ↔ Wp 36 67 (ls) (st) h Q) ∧
  (∀ (ls : Lo) (st : List Value) (h : Hp) (Q : Option Value → Hp → Prop), Wp 36 66 (ls) (st) h Q ↔ Wp 36 67 (ls) (.long 0 :: st) h Q) ∧
  (∀ (ls : Lo) (st : List Value) (n sl : Nat) (C Z : Nat → Nat) (I : Nat → Nat → Int32) (L : Nat → Nat → Int64) (R : Nat → Nat → Nat) (Q : Option Value → Hp → Prop) (i : Nat) (y : Int32) (a : Int64), Wp 36 67 (ls) (.long a :: .int y :: .ref i :: st) (n, sl, C, Z, I, L, R) Q ↔ ((inb y (Z i) = true ∧ C i = 22) ∧ Wp 36 68 (ls) (st) (n, sl, C, Z, I, u2 L i (ix y) a, R) Q)) ∧
  (∀ (ls : Lo) (st : List Value) (h : Hp) (Q : Option Value → Hp → Prop), Wp 36 68 (ls) (st) h Q ↔ Wp 36 69 (ls) (.int (0) :: st) h Q) ∧
  (∀ (ls : Lo) (st : List Value) (h : Hp) (Q : Option Value → Hp → Prop) (l0 l1 l2 l3 l4 : Option Value) (x : Int32), Wp 36 69 (l0 :: l1 :: l2 :: l3 :: l4 :: ls) (.int x :: st) h Q ↔ Wp 36 71 (l0 :: l1 :: l2 :: clr l3 :: some (.int x) :: ls) (st) h Q) ∧
  (∀ (ls : Lo) (st : List Value) (h : Hp) (Q : Option Value → Hp → Prop) (l0 l1 l2 l3 : Option Value) (x : Int32), Wp 36 71 (l0 :: l1 :: l2 :: l3 :: some (.int x) :: ls) (st) h Q ↔ Wp 36 73 (l0 :: l1 :: l2 :: l3 :: some (.int x) :: ls) (.int x :: st) h Q) ∧
  (∀ (ls : Lo) (st : List Value) (h : Hp) (Q : Option Value → Hp → Prop)  (i : Nat), Wp 36 73 (some (.ref i) :: ls) (st) h Q ↔ Wp 36 74 (some (.ref i) :: ls) (.ref i :: st) h Q) ∧
  (∀ (ls : Lo) (st : List Value) (n sl : Nat) (C Z : Nat → Nat) (I : Nat → Nat → Int32) (L : Nat → Nat → Int64) (R : Nat → Nat → Nat) (Q : Option Value → Hp → Prop) (i : Nat), Wp 36 74 (ls) (.ref i :: st) (n, sl, C, Z, I, L, R) Q ↔ (C i = 4 ∧ Wp 36 77 (ls) (.ref (R i 0) :: st) (n, sl, C, Z, I, L, R) Q)) ∧
  (∀ (ls : Lo) (st : List Value) (n sl : Nat) (C Z : Nat → Nat) (I : Nat → Nat → Int32) (L : Nat → Nat → Int64) (R : Nat → Nat → Nat) (Q : Option Value → Hp → Prop) (i : Nat), Wp 36 77 (ls) (.ref i :: st) (n, sl, C, Z, I, L, R) Q ↔ (inG 7 (C i) = true ∧ Wp 36 80 (ls) (.int (I i 1) :: st) (n, sl, C, Z, I, L, R) Q)) ∧
  (∀ (ls : Lo) (st : List Value) (h : Hp) (Q : Option Value → Hp → Prop) (x y : Int32), Wp 36 80 (ls) (.int y :: .int x :: st) h Q ↔ Br 36 178 83 ls st h Q (y < x)) ∧
  (∀ (ls : Lo) (st : List Value) (h : Hp) (Q : Option Value → Hp → Prop)  (i : Nat), Wp 36 83 (some (.ref i) :: ls) (st) h Q ↔ Wp 36 84 (some (.ref i) :: ls) (.ref i :: st) h Q) ∧
  (∀ (ls : Lo) (st : List Value) (n sl : Nat) (C Z : Nat → Nat) (I : Nat → Nat → Int32) (L : Nat → Nat → Int64) (R : Nat → Nat → Nat) (Q : Option Value → Hp → Prop) (i : Nat), Wp 36 84 (ls) (.ref i :: st) (n, sl, C, Z, I, L, R) Q ↔ (C i = 4 ∧ Wp 36 87 (ls) (.ref (R i 7) :: st) (n, sl, C, Z, I, L, R) Q)) ∧
  (∀ (ls : Lo) (st : List Value) (h : Hp) (Q : Option Value → Hp → Prop), Wp 36 87 (ls) (st) h Q ↔ Wp 36 88 (ls) (.int (0) :: st) h Q) ∧
  (∀ (ls : Lo) (st : List Value) (h : Hp) (Q : Option Value → Hp → Prop)  (i : Nat), Wp 36 88 (some (.ref i) :: ls) (st) h Q ↔ Wp 36 89 (some (.ref i) :: ls) (.ref i :: st) h Q) ∧
  (∀ (ls : Lo) (st : List Value) (n sl : Nat) (C Z : Nat → Nat) (I : Nat → Nat → Int32) (L : Nat → Nat → Int64) (R : Nat → Nat → Nat) (Q : Option Value → Hp → Prop) (i : Nat), Wp 36 89 (ls) (.ref i :: st) (n, sl, C, Z, I, L, R) Q ↔ (C i = 4 ∧ Wp 36 92 (ls) (.ref (R i 4) :: st) (n, sl, C, Z, I, L, R) Q)) := ⟨by intro ls st h Q i; exact e_aload_n d36_45 rfl,
  by intro ls st n sl C Z I L R Q i; exact e_get (g := 3) (s := 7) (ty := 2) d36_46 rfl rfl (inG_ne (by decide)),
  by intro ls st h Q; exact e_iconst d36_49 rfl,
  by intro ls st h Q i; exact e_aload_n d36_50 rfl,
  by intro ls st n sl C Z I L R Q i; exact e_get (g := 3) (s := 0) (ty := 2) d36_51 rfl rfl (inG_ne (by decide)),
  by intro ls st n sl C Z I L R Q i; exact e_get (g := 7) (s := 1) (ty := 0) d36_54 rfl rfl rfl,
  by intro ls st h Q; exact e_iconst d36_57 rfl,
  by intro ls st h Q x y; exact e_ic d36_58 (by decide) c_le,
  by intro ls st h Q l0 l1 l2 x; exact e_iload_n d36_61 rfl,
  by intro ls st h Q x; exact e_i2l d36_62,
  by intro ls st h Q; exact e_goto d36_63 (by decide),
  by intro ls st h Q; exact e_lconst d36_66 rfl,
  by intro ls st n sl C Z I L R Q i y a; exact e_last d36_67,
  by intro ls st h Q; exact e_iconst d36_68 rfl,
  by intro ls st h Q l0 l1 l2 l3 l4 x; exact e_istore d36_69 rfl,
  by intro ls st h Q l0 l1 l2 l3 x; exact e_iload d36_71 rfl,
  by intro ls st h Q i; exact e_aload_n d36_73 rfl,
  by intro ls st n sl C Z I L R Q i; exact e_get (g := 3) (s := 0) (ty := 2) d36_74 rfl rfl (inG_ne (by decide)),
  by intro ls st n sl C Z I L R Q i; exact e_get (g := 7) (s := 1) (ty := 0) d36_77 rfl rfl rfl,
  by intro ls st h Q x y; exact e_ic d36_80 (by decide) c_gt,
  by intro ls st h Q i; exact e_aload_n d36_83 rfl,
  by intro ls st n sl C Z I L R Q i; exact e_get (g := 3) (s := 7) (ty := 2) d36_84 rfl rfl (inG_ne (by decide)),
  by intro ls st h Q; exact e_iconst d36_87 rfl,
  by intro ls st h Q i; exact e_aload_n d36_88 rfl,
  by intro ls st n sl C Z I L R Q i; exact e_get (g := 3) (s := 4) (ty := 2) d36_89 rfl rfl (inG_ne (by decide))⟩
set_option maxRecDepth 20000 in
theorem S36_2 : (∀ (ls : Lo) (st : List Value) (h : Hp) (Q : Option Value → Hp → Prop) (l0 l1 l2 l3 : Option Value) (x : Int32), Wp 36 92 (l0 :: l1 :: l2 :: l3 :: some (.int x) :: ls) (st) h Q ↔ Wp 36 94 (l0 :: l1 :: l2 :: l3 :: some (.int x) :: ls) (.int x :: st) h Q) ∧
  (∀ (ls : Lo) (st : List Value) (n sl : Nat) (C Z : Nat → Nat) (I : Nat → Nat → Int32) (L : Nat → Nat → Int64) (R : Nat → Nat → Nat) (Q : Option Value → Hp → Prop) (i : Nat) (y : Int32), Wp 36 94 (ls) (.int y :: .ref i :: st) (n, sl, C, Z, I, L, R) Q ↔ ((inb y (Z i) = true ∧ (C i = 23 ∨ C i = 24 ∨ C i = 25)) ∧ Wp 36 95 (ls) (.ref (R i (ix y)) :: st) (n, sl, C, Z, I, L, R) Q)) ∧
  (∀ (ls : Lo) (st : List Value) (h : Hp) (Q : Option Value → Hp → Prop), Wp 36 95 (ls) (st) h Q ↔ Wp 36 96 (ls) (.int (0) :: st) h Q) ∧
  (∀ (ls : Lo) (st : List Value) (h : Hp) (Q : Option Value → Hp → Prop), Wp 36 96 (ls) (st) h Q ↔ Wp 36 97 (ls) (.int (3) :: st) h Q) ∧
  (∀ (ls : Lo) (st : List Value) (n sl : Nat) (C Z : Nat → Nat) (I : Nat → Nat → Int32) (L : Nat → Nat → Int64) (R : Nat → Nat → Nat) (Q : Option Value → Hp → Prop) (i j : Nat) (x y v : Int32), Wp 36 97 (ls) (.int v :: .int y :: .ref j :: .int x :: .ref i :: st) (n, sl, C, Z, I, L, R) Q ↔ ((wsum st ≤ 8 ∧ C i = 22 ∧ C j = 22 ∧ ¬ x < 0 ∧ ¬ y < 0 ∧ ¬ v < 0 ∧ ix x + ix v ≤ Z i ∧ ix y + ix v ≤ Z j) ∧ Wp 36 100 (ls) (st) (n, sl, C, Z, I, va_up L j (va_cpy (L i) (L j) (ix x) (ix y) (ix v)), R) Q)) ∧
  (∀ (ls : Lo) (st : List Value) (h : Hp) (Q : Option Value → Hp → Prop)  (i : Nat), Wp 36 100 (some (.ref i) :: ls) (st) h Q ↔ Wp 36 101 (some (.ref i) :: ls) (.ref i :: st) h Q) ∧
  (∀ (ls : Lo) (st : List Value) (n sl : Nat) (C Z : Nat → Nat) (I : Nat → Nat → Int32) (L : Nat → Nat → Int64) (R : Nat → Nat → Nat) (Q : Option Value → Hp → Prop) (i : Nat), Wp 36 101 (ls) (.ref i :: st) (n, sl, C, Z, I, L, R) Q ↔ (C i = 4 ∧ Wp 36 104 (ls) (.ref (R i 4) :: st) (n, sl, C, Z, I, L, R) Q)) ∧
  (∀ (ls : Lo) (st : List Value) (h : Hp) (Q : Option Value → Hp → Prop) (l0 l1 l2 l3 : Option Value) (x : Int32), Wp 36 104 (l0 :: l1 :: l2 :: l3 :: some (.int x) :: ls) (st) h Q ↔ Wp 36 106 (l0 :: l1 :: l2 :: l3 :: some (.int x) :: ls) (.int x :: st) h Q) ∧
  (∀ (ls : Lo) (st : List Value) (h : Hp) (Q : Option Value → Hp → Prop), Wp 36 106 (ls) (st) h Q ↔ Wp 36 107 (ls) (.int (1) :: st) h Q) ∧
  (∀ (ls : Lo) (st : List Value) (h : Hp) (Q : Option Value → Hp → Prop) (x y : Int32), Wp 36 107 (ls) (.int y :: .int x :: st) h Q ↔ Wp 36 108 (ls) (.int (x + y) :: st) h Q) ∧
  (∀ (ls : Lo) (st : List Value) (h : Hp) (Q : Option Value → Hp → Prop) (x0 : Nat) (x1 : Int32), Wp 36 108 (ls) (.int x1 :: .ref x0 :: st) h Q ↔ (wsum st ≤ 8 ∧ Call 44 [some (.ref x0), some (.int x1), none, none, none, none] h 36 111 ls st Q)) ∧
  (∀ (ls : Lo) (st : List Value) (h : Hp) (Q : Option Value → Hp → Prop)  (i : Nat), Wp 36 111 (some (.ref i) :: ls) (st) h Q ↔ Wp 36 112 (some (.ref i) :: ls) (.ref i :: st) h Q) ∧
  (∀ (ls : Lo) (st : List Value) (n sl : Nat) (C Z : Nat → Nat) (I : Nat → Nat → Int32) (L : Nat → Nat → Int64) (R : Nat → Nat → Nat) (Q : Option Value → Hp → Prop) (i : Nat), Wp 36 112 (ls) (.ref i :: st) (n, sl, C, Z, I, L, R) Q ↔ (C i = 4 ∧ Wp 36 115 (ls) (.ref (R i 4) :: st) (n, sl, C, Z, I, L, R) Q)) ∧
  (∀ (ls : Lo) (st : List Value) (h : Hp) (Q : Option Value → Hp → Prop) (l0 l1 l2 l3 : Option Value) (x : Int32), Wp 36 115 (l0 :: l1 :: l2 :: l3 :: some (.int x) :: ls) (st) h Q ↔ Wp 36 117 (l0 :: l1 :: l2 :: l3 :: some (.int x) :: ls) (.int x :: st) h Q) ∧
  (∀ (ls : Lo) (st : List Value) (h : Hp) (Q : Option Value → Hp → Prop) (x0 : Nat) (x1 : Int32), Wp 36 117 (ls) (.int x1 :: .ref x0 :: st) h Q ↔ (wsum st ≤ 8 ∧ Call 44 [some (.ref x0), some (.int x1), none, none, none, none] h 36 120 ls st Q)) ∧
  (∀ (ls : Lo) (st : List Value) (h : Hp) (Q : Option Value → Hp → Prop) (x y : Int32), Wp 36 120 (ls) (.int y :: .int x :: st) h Q ↔ Br 36 126 123 ls st h Q (¬ x = y)) ∧
  (∀ (ls : Lo) (st : List Value) (h : Hp) (Q : Option Value → Hp → Prop) (l0 l1 l2 l3 : Option Value) (x : Int32), Wp 36 123 (l0 :: l1 :: l2 :: l3 :: some (.int x) :: ls) (st) h Q ↔ Wp 36 125 (l0 :: l1 :: l2 :: l3 :: some (.int x) :: ls) (.int x :: st) h Q) ∧
  (∀ (ls : Lo) (h : Hp) (Q : Option Value → Hp → Prop) (x : Int32), Wp 36 125 (ls) ([.int x]) h Q ↔ Q (some (.int x)) h) ∧
  (∀ (ls : Lo) (st : List Value) (h : Hp) (Q : Option Value → Hp → Prop)  (i : Nat), Wp 36 126 (some (.ref i) :: ls) (st) h Q ↔ Wp 36 127 (some (.ref i) :: ls) (.ref i :: st) h Q) ∧
  (∀ (ls : Lo) (st : List Value) (n sl : Nat) (C Z : Nat → Nat) (I : Nat → Nat → Int32) (L : Nat → Nat → Int64) (R : Nat → Nat → Nat) (Q : Option Value → Hp → Prop) (i : Nat), Wp 36 127 (ls) (.ref i :: st) (n, sl, C, Z, I, L, R) Q ↔ (C i = 4 ∧ Wp 36 130 (ls) (.ref (R i 1) :: st) (n, sl, C, Z, I, L, R) Q)) ∧
  (∀ (ls : Lo) (st : List Value) (h : Hp) (Q : Option Value → Hp → Prop) (l0 l1 l2 l3 : Option Value) (x : Int32), Wp 36 130 (l0 :: l1 :: l2 :: l3 :: some (.int x) :: ls) (st) h Q ↔ Wp 36 132 (l0 :: l1 :: l2 :: l3 :: some (.int x) :: ls) (.int x :: st) h Q) ∧
  (∀ (ls : Lo) (st : List Value) (n sl : Nat) (C Z : Nat → Nat) (I : Nat → Nat → Int32) (L : Nat → Nat → Int64) (R : Nat → Nat → Nat) (Q : Option Value → Hp → Prop) (i : Nat) (y : Int32), Wp 36 132 (ls) (.int y :: .ref i :: st) (n, sl, C, Z, I, L, R) Q ↔ ((inb y (Z i) = true ∧ (C i = 23 ∨ C i = 24 ∨ C i = 25)) ∧ Wp 36 133 (ls) (.ref (R i (ix y)) :: st) (n, sl, C, Z, I, L, R) Q)) ∧
  (∀ (ls : Lo) (st : List Value) (h : Hp) (Q : Option Value → Hp → Prop), Wp 36 133 (ls) (st) h Q ↔ Wp 36 134 (ls) (.int (0) :: st) h Q) ∧
  (∀ (ls : Lo) (st : List Value) (h : Hp) (Q : Option Value → Hp → Prop)  (i : Nat), Wp 36 134 (some (.ref i) :: ls) (st) h Q ↔ Wp 36 135 (some (.ref i) :: ls) (.ref i :: st) h Q) ∧
  (∀ (ls : Lo) (st : List Value) (n sl : Nat) (C Z : Nat → Nat) (I : Nat → Nat → Int32) (L : Nat → Nat → Int64) (R : Nat → Nat → Nat) (Q : Option Value → Hp → Prop) (i : Nat), Wp 36 135 (ls) (.ref i :: st) (n, sl, C, Z, I, L, R) Q ↔ (C i = 4 ∧ Wp 36 138 (ls) (.ref (R i 4) :: st) (n, sl, C, Z, I, L, R) Q)) := ⟨by intro ls st h Q l0 l1 l2 l3 x; exact e_iload d36_92 rfl,
  by intro ls st n sl C Z I L R Q i y; exact e_aald d36_94,
  by intro ls st h Q; exact e_iconst d36_95 rfl,
  by intro ls st h Q; exact e_iconst d36_96 rfl,
  by intro ls st n sl C Z I L R Q i j x y v; exact e_cpy d36_97 rfl (by decide +kernel),
  by intro ls st h Q i; exact e_aload_n d36_100 rfl,
  by intro ls st n sl C Z I L R Q i; exact e_get (g := 3) (s := 4) (ty := 2) d36_101 rfl rfl (inG_ne (by decide)),
  by intro ls st h Q l0 l1 l2 l3 x; exact e_iload d36_104 rfl,
  by intro ls st h Q; exact e_iconst d36_106 rfl,
  by intro ls st h Q x y; exact e_iadd d36_107,
  by intro ls st h Q x0 x1; exact e_is (k2 := 44) (as := [.ref x0, .int x1]) d36_108 rfl (by decide) rfl rfl (by decide +kernel) (Nat.le_of_ble_eq_true rfl) rfl,
  by intro ls st h Q i; exact e_aload_n d36_111 rfl,
  by intro ls st n sl C Z I L R Q i; exact e_get (g := 3) (s := 4) (ty := 2) d36_112 rfl rfl (inG_ne (by decide)),
  by intro ls st h Q l0 l1 l2 l3 x; exact e_iload d36_115 rfl,
  by intro ls st h Q x0 x1; exact e_is (k2 := 44) (as := [.ref x0, .int x1]) d36_117 rfl (by decide) rfl rfl (by decide +kernel) (Nat.le_of_ble_eq_true rfl) rfl,
  by intro ls st h Q x y; exact e_ic d36_120 (by decide) c_ne,
  by intro ls st h Q l0 l1 l2 l3 x; exact e_iload d36_123 rfl,
  by intros; exact e_rI (p := True) d36_125 rfl,
  by intro ls st h Q i; exact e_aload_n d36_126 rfl,
  by intro ls st n sl C Z I L R Q i; exact e_get (g := 3) (s := 1) (ty := 2) d36_127 rfl rfl (inG_ne (by decide)),
  by intro ls st h Q l0 l1 l2 l3 x; exact e_iload d36_130 rfl,
  by intro ls st n sl C Z I L R Q i y; exact e_aald d36_132,
  by intro ls st h Q; exact e_iconst d36_133 rfl,
  by intro ls st h Q i; exact e_aload_n d36_134 rfl,
  by intro ls st n sl C Z I L R Q i; exact e_get (g := 3) (s := 4) (ty := 2) d36_135 rfl rfl (inG_ne (by decide))⟩
set_option maxRecDepth 20000 in
theorem S36_3 : (∀ (ls : Lo) (st : List Value) (h : Hp) (Q : Option Value → Hp → Prop) (l0 l1 l2 l3 : Option Value) (x : Int32), Wp 36 138 (l0 :: l1 :: l2 :: l3 :: some (.int x) :: ls) (st) h Q ↔ Wp 36 140 (l0 :: l1 :: l2 :: l3 :: some (.int x) :: ls) (.int x :: st) h Q) ∧
  (∀ (ls : Lo) (st : List Value) (n sl : Nat) (C Z : Nat → Nat) (I : Nat → Nat → Int32) (L : Nat → Nat → Int64) (R : Nat → Nat → Nat) (Q : Option Value → Hp → Prop) (i : Nat) (y : Int32), Wp 36 140 (ls) (.int y :: .ref i :: st) (n, sl, C, Z, I, L, R) Q ↔ ((inb y (Z i) = true ∧ (C i = 23 ∨ C i = 24 ∨ C i = 25)) ∧ Wp 36 141 (ls) (.ref (R i (ix y)) :: st) (n, sl, C, Z, I, L, R) Q)) ∧
  (∀ (ls : Lo) (st : List Value) (h : Hp) (Q : Option Value → Hp → Prop), Wp 36 141 (ls) (st) h Q ↔ Wp 36 142 (ls) (.int (0) :: st) h Q) ∧
  (∀ (ls : Lo) (st : List Value) (h : Hp) (Q : Option Value → Hp → Prop), Wp 36 142 (ls) (st) h Q ↔ Wp 36 143 (ls) (.int (3) :: st) h Q) ∧
  (∀ (ls : Lo) (st : List Value) (n sl : Nat) (C Z : Nat → Nat) (I : Nat → Nat → Int32) (L : Nat → Nat → Int64) (R : Nat → Nat → Nat) (Q : Option Value → Hp → Prop) (i j : Nat) (x y v : Int32), Wp 36 143 (ls) (.int v :: .int y :: .ref j :: .int x :: .ref i :: st) (n, sl, C, Z, I, L, R) Q ↔ ((wsum st ≤ 8 ∧ C i = 22 ∧ C j = 22 ∧ ¬ x < 0 ∧ ¬ y < 0 ∧ ¬ v < 0 ∧ ix x + ix v ≤ Z i ∧ ix y + ix v ≤ Z j) ∧ Wp 36 146 (ls) (st) (n, sl, C, Z, I, va_up L j (va_cpy (L i) (L j) (ix x) (ix y) (ix v)), R) Q)) ∧
  (∀ (ls : Lo) (st : List Value) (h : Hp) (Q : Option Value → Hp → Prop)  (i : Nat), Wp 36 146 (some (.ref i) :: ls) (st) h Q ↔ Wp 36 147 (some (.ref i) :: ls) (.ref i :: st) h Q) ∧
  (∀ (ls : Lo) (st : List Value) (h : Hp) (Q : Option Value → Hp → Prop)  (i : Nat), Wp 36 147 (some (.ref i) :: ls) (st) h Q ↔ Wp 36 148 (some (.ref i) :: ls) (.ref i :: st) h Q) ∧
  (∀ (ls : Lo) (st : List Value) (n sl : Nat) (C Z : Nat → Nat) (I : Nat → Nat → Int32) (L : Nat → Nat → Int64) (R : Nat → Nat → Nat) (Q : Option Value → Hp → Prop) (i : Nat), Wp 36 148 (ls) (.ref i :: st) (n, sl, C, Z, I, L, R) Q ↔ (C i = 4 ∧ Wp 36 151 (ls) (.ref (R i 8) :: st) (n, sl, C, Z, I, L, R) Q)) ∧
  (∀ (ls : Lo) (st : List Value) (h : Hp) (Q : Option Value → Hp → Prop)  (i : Nat), Wp 36 151 (some (.ref i) :: ls) (st) h Q ↔ Wp 36 152 (some (.ref i) :: ls) (.ref i :: st) h Q) ∧
  (∀ (ls : Lo) (st : List Value) (n sl : Nat) (C Z : Nat → Nat) (I : Nat → Nat → Int32) (L : Nat → Nat → Int64) (R : Nat → Nat → Nat) (Q : Option Value → Hp → Prop) (i : Nat), Wp 36 152 (ls) (.ref i :: st) (n, sl, C, Z, I, L, R) Q ↔ (C i = 4 ∧ Wp 36 155 (ls) (.ref (R i 7) :: st) (n, sl, C, Z, I, L, R) Q)) ∧
  (∀ (ls : Lo) (st : List Value) (n sl : Nat) (C Z : Nat → Nat) (I : Nat → Nat → Int32) (L : Nat → Nat → Int64) (R : Nat → Nat → Nat) (Q : Option Value → Hp → Prop) (x0 : Nat) (x1 : Nat) (i : Nat), C i = 4 → (Wp 36 155 (ls) (.ref x1 :: .ref x0 :: .ref i :: st) (n, sl, C, Z, I, L, R) Q ↔ (wsum st ≤ 8 ∧ Call 18 [some (.ref i), some (.ref x0), some (.ref x1), none, none, none, none] (n, sl, C, Z, I, L, R) 36 158 ls st Q))) ∧
  (∀ (ls : Lo) (st : List Value) (h : Hp) (Q : Option Value → Hp → Prop)  (i : Nat), Wp 36 158 (some (.ref i) :: ls) (st) h Q ↔ Wp 36 159 (some (.ref i) :: ls) (.ref i :: st) h Q) ∧
  (∀ (ls : Lo) (st : List Value) (n sl : Nat) (C Z : Nat → Nat) (I : Nat → Nat → Int32) (L : Nat → Nat → Int64) (R : Nat → Nat → Nat) (Q : Option Value → Hp → Prop) (i : Nat), Wp 36 159 (ls) (.ref i :: st) (n, sl, C, Z, I, L, R) Q ↔ (C i = 4 ∧ Wp 36 162 (ls) (.ref (R i 8) :: st) (n, sl, C, Z, I, L, R) Q)) ∧
  (∀ (ls : Lo) (st : List Value) (h : Hp) (Q : Option Value → Hp → Prop), Wp 36 162 (ls) (st) h Q ↔ Wp 36 163 (ls) (.int (0) :: st) h Q) ∧
  (∀ (ls : Lo) (st : List Value) (h : Hp) (Q : Option Value → Hp → Prop)  (i : Nat), Wp 36 163 (some (.ref i) :: ls) (st) h Q ↔ Wp 36 164 (some (.ref i) :: ls) (.ref i :: st) h Q) ∧
  (∀ (ls : Lo) (st : List Value) (n sl : Nat) (C Z : Nat → Nat) (I : Nat → Nat → Int32) (L : Nat → Nat → Int64) (R : Nat → Nat → Nat) (Q : Option Value → Hp → Prop) (i : Nat), Wp 36 164 (ls) (.ref i :: st) (n, sl, C, Z, I, L, R) Q ↔ (C i = 4 ∧ Wp 36 167 (ls) (.ref (R i 7) :: st) (n, sl, C, Z, I, L, R) Q)) ∧
  (∀ (ls : Lo) (st : List Value) (h : Hp) (Q : Option Value → Hp → Prop), Wp 36 167 (ls) (st) h Q ↔ Wp 36 168 (ls) (.int (0) :: st) h Q) ∧
  (∀ (ls : Lo) (st : List Value) (h : Hp) (Q : Option Value → Hp → Prop), Wp 36 168 (ls) (st) h Q ↔ Wp 36 169 (ls) (.int (3) :: st) h Q) ∧
  (∀ (ls : Lo) (st : List Value) (n sl : Nat) (C Z : Nat → Nat) (I : Nat → Nat → Int32) (L : Nat → Nat → Int64) (R : Nat → Nat → Nat) (Q : Option Value → Hp → Prop) (i j : Nat) (x y v : Int32), Wp 36 169 (ls) (.int v :: .int y :: .ref j :: .int x :: .ref i :: st) (n, sl, C, Z, I, L, R) Q ↔ ((wsum st ≤ 8 ∧ C i = 22 ∧ C j = 22 ∧ ¬ x < 0 ∧ ¬ y < 0 ∧ ¬ v < 0 ∧ ix x + ix v ≤ Z i ∧ ix y + ix v ≤ Z j) ∧ Wp 36 172 (ls) (st) (n, sl, C, Z, I, va_up L j (va_cpy (L i) (L j) (ix x) (ix y) (ix v)), R) Q)) ∧
  (∀ (ls : Lo) (st : List Value) (h : Hp) (Q : Option Value → Hp → Prop) (l0 l1 l2 l3 : Option Value) (x : Int32), Wp 36 172 (l0 :: l1 :: l2 :: l3 :: some (.int x) :: ls) (st) h Q ↔ Wp 36 175 (l0 :: l1 :: l2 :: clr l3 :: some (.int (x + (1))) :: ls) (st) h Q) ∧
  (∀ (ls : Lo) (st : List Value) (h : Hp) (Q : Option Value → Hp → Prop), Wp 36 175 (ls) (st) h Q ↔ Wp 36 71 (ls) (st) h Q) ∧
  (∀ (ls : Lo) (st : List Value) (h : Hp) (Q : Option Value → Hp → Prop), Wp 36 178 (ls) (st) h Q ↔ Wp 36 179 (ls) (.int (-1) :: st) h Q) ∧
  (∀ (ls : Lo) (h : Hp) (Q : Option Value → Hp → Prop) (x : Int32), Wp 36 179 (ls) ([.int x]) h Q ↔ Q (some (.int x)) h) := ⟨by intro ls st h Q l0 l1 l2 l3 x; exact e_iload d36_138 rfl,
  by intro ls st n sl C Z I L R Q i y; exact e_aald d36_140,
  by intro ls st h Q; exact e_iconst d36_141 rfl,
  by intro ls st h Q; exact e_iconst d36_142 rfl,
  by intro ls st n sl C Z I L R Q i j x y v; exact e_cpy d36_143 rfl (by decide +kernel),
  by intro ls st h Q i; exact e_aload_n d36_146 rfl,
  by intro ls st h Q i; exact e_aload_n d36_147 rfl,
  by intro ls st n sl C Z I L R Q i; exact e_get (g := 3) (s := 8) (ty := 2) d36_148 rfl rfl (inG_ne (by decide)),
  by intro ls st h Q i; exact e_aload_n d36_151 rfl,
  by intro ls st n sl C Z I L R Q i; exact e_get (g := 3) (s := 7) (ty := 2) d36_152 rfl rfl (inG_ne (by decide)),
  by intro ls st n sl C Z I L R Q x0 x1 i hh; exact e_iv (k2 := 18) (c := 4) (as := [.ref x0, .ref x1]) d36_155 rfl (by decide) rfl rfl (by decide +kernel) (Nat.le_of_ble_eq_true rfl) rfl hh,
  by intro ls st h Q i; exact e_aload_n d36_158 rfl,
  by intro ls st n sl C Z I L R Q i; exact e_get (g := 3) (s := 8) (ty := 2) d36_159 rfl rfl (inG_ne (by decide)),
  by intro ls st h Q; exact e_iconst d36_162 rfl,
  by intro ls st h Q i; exact e_aload_n d36_163 rfl,
  by intro ls st n sl C Z I L R Q i; exact e_get (g := 3) (s := 7) (ty := 2) d36_164 rfl rfl (inG_ne (by decide)),
  by intro ls st h Q; exact e_iconst d36_167 rfl,
  by intro ls st h Q; exact e_iconst d36_168 rfl,
  by intro ls st n sl C Z I L R Q i j x y v; exact e_cpy d36_169 rfl (by decide +kernel),
  by intro ls st h Q l0 l1 l2 l3 x; exact e_iinc d36_172 rfl rfl rfl,
  by intro ls st h Q; exact e_goto d36_175 (by decide),
  by intro ls st h Q; exact e_iconst d36_178 rfl,
  by intros; exact e_rI (p := True) d36_179 rfl⟩
theorem d37_0 : decode (byt 37) 0 = .ok (.aload_n 0, 1) := by decide +kernel
theorem d37_1 : decode (byt 37) 1 = .ok (.iload_n 1, 1) := by decide +kernel
theorem d37_2 : decode (byt 37) 2 = .ok (.iload_n 2, 1) := by decide +kernel
theorem d37_3 : decode (byt 37) 3 = .ok (.iload_n 3, 1) := by decide +kernel
theorem d37_4 : decode (byt 37) 4 = .ok (.invokespecial 3, 3) := by decide +kernel
theorem d37_7 : decode (byt 37) 7 = .ok (.return_, 1) := by decide +kernel
set_option maxRecDepth 20000 in
theorem S37_0 : (∀ (ls : Lo) (st : List Value) (h : Hp) (Q : Option Value → Hp → Prop)  (i : Nat), Wp 37 0 (some (.ref i) :: ls) (st) h Q ↔ Wp 37 1 (some (.ref i) :: ls) (.ref i :: st) h Q) ∧
  (∀ (ls : Lo) (st : List Value) (h : Hp) (Q : Option Value → Hp → Prop) (l0 : Option Value) (x : Int32), Wp 37 1 (l0 :: some (.int x) :: ls) (st) h Q ↔ Wp 37 2 (l0 :: some (.int x) :: ls) (.int x :: st) h Q) ∧
  (∀ (ls : Lo) (st : List Value) (h : Hp) (Q : Option Value → Hp → Prop) (l0 l1 : Option Value) (x : Int32), Wp 37 2 (l0 :: l1 :: some (.int x) :: ls) (st) h Q ↔ Wp 37 3 (l0 :: l1 :: some (.int x) :: ls) (.int x :: st) h Q) ∧
  (∀ (ls : Lo) (st : List Value) (h : Hp) (Q : Option Value → Hp → Prop) (l0 l1 l2 : Option Value) (x : Int32), Wp 37 3 (l0 :: l1 :: l2 :: some (.int x) :: ls) (st) h Q ↔ Wp 37 4 (l0 :: l1 :: l2 :: some (.int x) :: ls) (.int x :: st) h Q) ∧
  (∀ (ls : Lo) (st : List Value) (h : Hp) (Q : Option Value → Hp → Prop) (x0 : Int32) (x1 : Int32) (x2 : Int32) (i : Nat), i ≠ 0 → (Wp 37 4 (ls) (.int x2 :: .int x1 :: .int x0 :: .ref i :: st) h Q ↔ (wsum st ≤ 8 ∧ Call 51 [some (.ref i), some (.int x0), some (.int x1), some (.int x2)] h 37 7 ls st Q))) ∧
  (∀ (ls : Lo) (h : Hp) (Q : Option Value → Hp → Prop), Wp 37 7 (ls) ([]) h Q ↔ Q none h) := ⟨by intro ls st h Q i; exact e_aload_n d37_0 rfl,
  by intro ls st h Q l0 x; exact e_iload_n d37_1 rfl,
  by intro ls st h Q l0 l1 x; exact e_iload_n d37_2 rfl,
  by intro ls st h Q l0 l1 l2 x; exact e_iload_n d37_3 rfl,
  by intro ls st h Q x0 x1 x2 i hh; exact e_ip (k2 := 51) (as := [.int x0, .int x1, .int x2]) d37_4 rfl (by decide) rfl rfl (by decide +kernel) (Nat.le_of_ble_eq_true rfl) rfl hh,
  by intros; exact e_rV d37_7 rfl⟩
theorem d38_0 : decode (byt 38) 0 = .ok (.iconst 2, 1) := by decide +kernel
theorem d38_1 : decode (byt 38) 1 = .ok (.ireturn, 1) := by decide +kernel
set_option maxRecDepth 20000 in
theorem S38_0 : (∀ (ls : Lo) (st : List Value) (h : Hp) (Q : Option Value → Hp → Prop), Wp 38 0 (ls) (st) h Q ↔ Wp 38 1 (ls) (.int (2) :: st) h Q) ∧
  (∀ (ls : Lo) (h : Hp) (Q : Option Value → Hp → Prop) (x : Int32), Wp 38 1 (ls) ([.int x]) h Q ↔ Q (some (.int x)) h) := ⟨by intro ls st h Q; exact e_iconst d38_0 rfl,
  by intros; exact e_rI (p := True) d38_1 rfl⟩
theorem d39_0 : decode (byt 39) 0 = .ok (.aload_n 2, 1) := by decide +kernel
theorem d39_1 : decode (byt 39) 1 = .ok (.getfield 9, 3) := by decide +kernel
theorem d39_4 : decode (byt 39) 4 = .ok (.bipush 40, 2) := by decide +kernel
theorem d39_6 : decode (byt 39) 6 = .ok (.if_icmp .ge 14, 3) := by decide +kernel
theorem d39_9 : decode (byt 39) 9 = .ok (.aload_n 2, 1) := by decide +kernel
theorem d39_10 : decode (byt 39) 10 = .ok (.getfield 15, 3) := by decide +kernel
theorem d39_13 : decode (byt 39) 13 = .ok (.aload_n 2, 1) := by decide +kernel
theorem d39_14 : decode (byt 39) 14 = .ok (.getfield 9, 3) := by decide +kernel
theorem d39_17 : decode (byt 39) 17 = .ok (.bipush 30, 2) := by decide +kernel
theorem d39_19 : decode (byt 39) 19 = .ok (.iastore, 1) := by decide +kernel
theorem d39_20 : decode (byt 39) 20 = .ok (.aload_n 2, 1) := by decide +kernel
theorem d39_21 : decode (byt 39) 21 = .ok (.dup, 1) := by decide +kernel
theorem d39_22 : decode (byt 39) 22 = .ok (.getfield 9, 3) := by decide +kernel
theorem d39_25 : decode (byt 39) 25 = .ok (.iconst 1, 1) := by decide +kernel
theorem d39_26 : decode (byt 39) 26 = .ok (.iadd, 1) := by decide +kernel
theorem d39_27 : decode (byt 39) 27 = .ok (.putfield 9, 3) := by decide +kernel
theorem d39_30 : decode (byt 39) 30 = .ok (.aload_n 0, 1) := by decide +kernel
theorem d39_31 : decode (byt 39) 31 = .ok (.iload_n 1, 1) := by decide +kernel
theorem d39_32 : decode (byt 39) 32 = .ok (.aload_n 2, 1) := by decide +kernel
theorem d39_33 : decode (byt 39) 33 = .ok (.invokespecial 19, 3) := by decide +kernel
theorem d39_36 : decode (byt 39) 36 = .ok (.iconst 3, 1) := by decide +kernel
theorem d39_37 : decode (byt 39) 37 = .ok (.imul, 1) := by decide +kernel
theorem d39_38 : decode (byt 39) 38 = .ok (.ireturn, 1) := by decide +kernel
set_option maxRecDepth 20000 in
theorem S39_0 : (∀ (ls : Lo) (st : List Value) (h : Hp) (Q : Option Value → Hp → Prop) (l0 l1 : Option Value) (i : Nat), Wp 39 0 (l0 :: l1 :: some (.ref i) :: ls) (st) h Q ↔ Wp 39 1 (l0 :: l1 :: some (.ref i) :: ls) (.ref i :: st) h Q) ∧
  (∀ (ls : Lo) (st : List Value) (n sl : Nat) (C Z : Nat → Nat) (I : Nat → Nat → Int32) (L : Nat → Nat → Int64) (R : Nat → Nat → Nat) (Q : Option Value → Hp → Prop) (i : Nat), Wp 39 1 (ls) (.ref i :: st) (n, sl, C, Z, I, L, R) Q ↔ (C i = 9 ∧ Wp 39 4 (ls) (.int (I i 1) :: st) (n, sl, C, Z, I, L, R) Q)) ∧
  (∀ (ls : Lo) (st : List Value) (h : Hp) (Q : Option Value → Hp → Prop), Wp 39 4 (ls) (st) h Q ↔ Wp 39 6 (ls) (.int (40) :: st) h Q) ∧
  (∀ (ls : Lo) (st : List Value) (h : Hp) (Q : Option Value → Hp → Prop) (x y : Int32), Wp 39 6 (ls) (.int y :: .int x :: st) h Q ↔ Br 39 20 9 ls st h Q (y ≤ x)) ∧
  (∀ (ls : Lo) (st : List Value) (h : Hp) (Q : Option Value → Hp → Prop) (l0 l1 : Option Value) (i : Nat), Wp 39 9 (l0 :: l1 :: some (.ref i) :: ls) (st) h Q ↔ Wp 39 10 (l0 :: l1 :: some (.ref i) :: ls) (.ref i :: st) h Q) ∧
  (∀ (ls : Lo) (st : List Value) (n sl : Nat) (C Z : Nat → Nat) (I : Nat → Nat → Int32) (L : Nat → Nat → Int64) (R : Nat → Nat → Nat) (Q : Option Value → Hp → Prop) (i : Nat), Wp 39 10 (ls) (.ref i :: st) (n, sl, C, Z, I, L, R) Q ↔ (C i = 9 ∧ Wp 39 13 (ls) (.ref (R i 0) :: st) (n, sl, C, Z, I, L, R) Q)) ∧
  (∀ (ls : Lo) (st : List Value) (h : Hp) (Q : Option Value → Hp → Prop) (l0 l1 : Option Value) (i : Nat), Wp 39 13 (l0 :: l1 :: some (.ref i) :: ls) (st) h Q ↔ Wp 39 14 (l0 :: l1 :: some (.ref i) :: ls) (.ref i :: st) h Q) ∧
  (∀ (ls : Lo) (st : List Value) (n sl : Nat) (C Z : Nat → Nat) (I : Nat → Nat → Int32) (L : Nat → Nat → Int64) (R : Nat → Nat → Nat) (Q : Option Value → Hp → Prop) (i : Nat), Wp 39 14 (ls) (.ref i :: st) (n, sl, C, Z, I, L, R) Q ↔ (C i = 9 ∧ Wp 39 17 (ls) (.int (I i 1) :: st) (n, sl, C, Z, I, L, R) Q)) ∧
  (∀ (ls : Lo) (st : List Value) (h : Hp) (Q : Option Value → Hp → Prop), Wp 39 17 (ls) (st) h Q ↔ Wp 39 19 (ls) (.int (30) :: st) h Q) ∧
  (∀ (ls : Lo) (st : List Value) (n sl : Nat) (C Z : Nat → Nat) (I : Nat → Nat → Int32) (L : Nat → Nat → Int64) (R : Nat → Nat → Nat) (Q : Option Value → Hp → Prop) (i : Nat) (x y : Int32), Wp 39 19 (ls) (.int x :: .int y :: .ref i :: st) (n, sl, C, Z, I, L, R) Q ↔ ((inb y (Z i) = true ∧ C i = 21) ∧ Wp 39 20 (ls) (st) (n, sl, C, Z, u2 I i (ix y) x, L, R) Q)) ∧
  (∀ (ls : Lo) (st : List Value) (h : Hp) (Q : Option Value → Hp → Prop) (l0 l1 : Option Value) (i : Nat), Wp 39 20 (l0 :: l1 :: some (.ref i) :: ls) (st) h Q ↔ Wp 39 21 (l0 :: l1 :: some (.ref i) :: ls) (.ref i :: st) h Q) ∧
  (∀ (ls : Lo) (st : List Value) (h : Hp) (Q : Option Value → Hp → Prop) (x : Int32), Wp 39 21 (ls) (.int x :: st) h Q ↔ Wp 39 22 (ls) (.int x :: .int x :: st) h Q) ∧
  (∀ (ls : Lo) (st : List Value) (h : Hp) (Q : Option Value → Hp → Prop) (i : Nat), Wp 39 21 (ls) (.ref i :: st) h Q ↔ Wp 39 22 (ls) (.ref i :: .ref i :: st) h Q) ∧
  (∀ (ls : Lo) (st : List Value) (n sl : Nat) (C Z : Nat → Nat) (I : Nat → Nat → Int32) (L : Nat → Nat → Int64) (R : Nat → Nat → Nat) (Q : Option Value → Hp → Prop) (i : Nat), Wp 39 22 (ls) (.ref i :: st) (n, sl, C, Z, I, L, R) Q ↔ (C i = 9 ∧ Wp 39 25 (ls) (.int (I i 1) :: st) (n, sl, C, Z, I, L, R) Q)) ∧
  (∀ (ls : Lo) (st : List Value) (h : Hp) (Q : Option Value → Hp → Prop), Wp 39 25 (ls) (st) h Q ↔ Wp 39 26 (ls) (.int (1) :: st) h Q) ∧
  (∀ (ls : Lo) (st : List Value) (h : Hp) (Q : Option Value → Hp → Prop) (x y : Int32), Wp 39 26 (ls) (.int y :: .int x :: st) h Q ↔ Wp 39 27 (ls) (.int (x + y) :: st) h Q) ∧
  (∀ (ls : Lo) (st : List Value) (n sl : Nat) (C Z : Nat → Nat) (I : Nat → Nat → Int32) (L : Nat → Nat → Int64) (R : Nat → Nat → Nat) (Q : Option Value → Hp → Prop) (i : Nat) (x : Int32), Wp 39 27 (ls) (.int x :: .ref i :: st) (n, sl, C, Z, I, L, R) Q ↔ (C i = 9 ∧ Wp 39 30 (ls) (st) (n, sl, C, Z, u2 I i 1 x, L, R) Q)) ∧
  (∀ (ls : Lo) (st : List Value) (h : Hp) (Q : Option Value → Hp → Prop)  (i : Nat), Wp 39 30 (some (.ref i) :: ls) (st) h Q ↔ Wp 39 31 (some (.ref i) :: ls) (.ref i :: st) h Q) ∧
  (∀ (ls : Lo) (st : List Value) (h : Hp) (Q : Option Value → Hp → Prop) (l0 : Option Value) (x : Int32), Wp 39 31 (l0 :: some (.int x) :: ls) (st) h Q ↔ Wp 39 32 (l0 :: some (.int x) :: ls) (.int x :: st) h Q) ∧
  (∀ (ls : Lo) (st : List Value) (h : Hp) (Q : Option Value → Hp → Prop) (l0 l1 : Option Value) (i : Nat), Wp 39 32 (l0 :: l1 :: some (.ref i) :: ls) (st) h Q ↔ Wp 39 33 (l0 :: l1 :: some (.ref i) :: ls) (.ref i :: st) h Q) ∧
  (∀ (ls : Lo) (st : List Value) (n sl : Nat) (C Z : Nat → Nat) (I : Nat → Nat → Int32) (L : Nat → Nat → Int64) (R : Nat → Nat → Nat) (Q : Option Value → Hp → Prop) (x0 : Int32) (x1 : Nat) (i : Nat), inG 7 (C i) = true → (Wp 39 33 (ls) (.ref x1 :: .int x0 :: .ref i :: st) (n, sl, C, Z, I, L, R) Q ↔ (wsum st ≤ 8 ∧ Call 55 [some (.ref i), some (.int x0), some (.ref x1)] (n, sl, C, Z, I, L, R) 39 36 ls st Q))) ∧
  (∀ (ls : Lo) (st : List Value) (h : Hp) (Q : Option Value → Hp → Prop), Wp 39 36 (ls) (st) h Q ↔ Wp 39 37 (ls) (.int (3) :: st) h Q) ∧
  (∀ (ls : Lo) (st : List Value) (h : Hp) (Q : Option Value → Hp → Prop) (x y : Int32), Wp 39 37 (ls) (.int y :: .int x :: st) h Q ↔ Wp 39 38 (ls) (.int (x * y) :: st) h Q) ∧
  (∀ (ls : Lo) (h : Hp) (Q : Option Value → Hp → Prop) (x : Int32), Wp 39 38 (ls) ([.int x]) h Q ↔ Q (some (.int x)) h) := ⟨by intro ls st h Q l0 l1 i; exact e_aload_n d39_0 rfl,
  by intro ls st n sl C Z I L R Q i; exact e_get (g := 8) (s := 1) (ty := 0) d39_1 rfl rfl (inG_ne (by decide)),
  by intro ls st h Q; exact e_bipush d39_4 rfl,
  by intro ls st h Q x y; exact e_ic d39_6 (by decide) c_ge,
  by intro ls st h Q l0 l1 i; exact e_aload_n d39_9 rfl,
  by intro ls st n sl C Z I L R Q i; exact e_get (g := 8) (s := 0) (ty := 2) d39_10 rfl rfl (inG_ne (by decide)),
  by intro ls st h Q l0 l1 i; exact e_aload_n d39_13 rfl,
  by intro ls st n sl C Z I L R Q i; exact e_get (g := 8) (s := 1) (ty := 0) d39_14 rfl rfl (inG_ne (by decide)),
  by intro ls st h Q; exact e_bipush d39_17 rfl,
  by intro ls st n sl C Z I L R Q i x y; exact e_iast d39_19,
  by intro ls st h Q l0 l1 i; exact e_aload_n d39_20 rfl,
  by intro ls st h Q x; exact e_dupI d39_21,
  by intro ls st h Q i; exact e_dupR d39_21,
  by intro ls st n sl C Z I L R Q i; exact e_get (g := 8) (s := 1) (ty := 0) d39_22 rfl rfl (inG_ne (by decide)),
  by intro ls st h Q; exact e_iconst d39_25 rfl,
  by intro ls st h Q x y; exact e_iadd d39_26,
  by intro ls st n sl C Z I L R Q i x; exact e_putI (g := 8) (s := 1) d39_27 rfl (Or.inl rfl) (inG_ne (by decide)),
  by intro ls st h Q i; exact e_aload_n d39_30 rfl,
  by intro ls st h Q l0 x; exact e_iload_n d39_31 rfl,
  by intro ls st h Q l0 l1 i; exact e_aload_n d39_32 rfl,
  by intro ls st n sl C Z I L R Q x0 x1 i hh; exact e_isu (k2 := 55) (as := [.int x0, .ref x1]) d39_33 rfl (by decide) rfl rfl (by decide +kernel) (Nat.le_of_ble_eq_true rfl) rfl hh,
  by intro ls st h Q; exact e_iconst d39_36 rfl,
  by intro ls st h Q x y; exact e_imul d39_37,
  by intros; exact e_rI (p := True) d39_38 rfl⟩
theorem d40_0 : decode (byt 40) 0 = .ok (.aload_n 2, 1) := by decide +kernel
theorem d40_1 : decode (byt 40) 1 = .ok (.getfield 9, 3) := by decide +kernel
theorem d40_4 : decode (byt 40) 4 = .ok (.bipush 40, 2) := by decide +kernel
theorem d40_6 : decode (byt 40) 6 = .ok (.if_icmp .ge 14, 3) := by decide +kernel
theorem d40_9 : decode (byt 40) 9 = .ok (.aload_n 2, 1) := by decide +kernel
theorem d40_10 : decode (byt 40) 10 = .ok (.getfield 15, 3) := by decide +kernel
theorem d40_13 : decode (byt 40) 13 = .ok (.aload_n 2, 1) := by decide +kernel
theorem d40_14 : decode (byt 40) 14 = .ok (.getfield 9, 3) := by decide +kernel
theorem d40_17 : decode (byt 40) 17 = .ok (.bipush 31, 2) := by decide +kernel
theorem d40_19 : decode (byt 40) 19 = .ok (.iastore, 1) := by decide +kernel
theorem d40_20 : decode (byt 40) 20 = .ok (.aload_n 2, 1) := by decide +kernel
theorem d40_21 : decode (byt 40) 21 = .ok (.dup, 1) := by decide +kernel
theorem d40_22 : decode (byt 40) 22 = .ok (.getfield 9, 3) := by decide +kernel
theorem d40_25 : decode (byt 40) 25 = .ok (.iconst 1, 1) := by decide +kernel
theorem d40_26 : decode (byt 40) 26 = .ok (.iadd, 1) := by decide +kernel
theorem d40_27 : decode (byt 40) 27 = .ok (.putfield 9, 3) := by decide +kernel
theorem d40_30 : decode (byt 40) 30 = .ok (.aload_n 0, 1) := by decide +kernel
theorem d40_31 : decode (byt 40) 31 = .ok (.iload_n 1, 1) := by decide +kernel
theorem d40_32 : decode (byt 40) 32 = .ok (.iconst 1, 1) := by decide +kernel
theorem d40_33 : decode (byt 40) 33 = .ok (.isub, 1) := by decide +kernel
theorem d40_34 : decode (byt 40) 34 = .ok (.aload_n 2, 1) := by decide +kernel
theorem d40_35 : decode (byt 40) 35 = .ok (.invokespecial 23, 3) := by decide +kernel
theorem d40_38 : decode (byt 40) 38 = .ok (.ireturn, 1) := by decide +kernel
set_option maxRecDepth 20000 in
theorem S40_0 : (∀ (ls : Lo) (st : List Value) (h : Hp) (Q : Option Value → Hp → Prop) (l0 l1 : Option Value) (i : Nat), Wp 40 0 (l0 :: l1 :: some (.ref i) :: ls) (st) h Q ↔ Wp 40 1 (l0 :: l1 :: some (.ref i) :: ls) (.ref i :: st) h Q) ∧
  (∀ (ls : Lo) (st : List Value) (n sl : Nat) (C Z : Nat → Nat) (I : Nat → Nat → Int32) (L : Nat → Nat → Int64) (R : Nat → Nat → Nat) (Q : Option Value → Hp → Prop) (i : Nat), Wp 40 1 (ls) (.ref i :: st) (n, sl, C, Z, I, L, R) Q ↔ (C i = 9 ∧ Wp 40 4 (ls) (.int (I i 1) :: st) (n, sl, C, Z, I, L, R) Q)) ∧
  (∀ (ls : Lo) (st : List Value) (h : Hp) (Q : Option Value → Hp → Prop), Wp 40 4 (ls) (st) h Q ↔ Wp 40 6 (ls) (.int (40) :: st) h Q) ∧
  (∀ (ls : Lo) (st : List Value) (h : Hp) (Q : Option Value → Hp → Prop) (x y : Int32), Wp 40 6 (ls) (.int y :: .int x :: st) h Q ↔ Br 40 20 9 ls st h Q (y ≤ x)) ∧
  (∀ (ls : Lo) (st : List Value) (h : Hp) (Q : Option Value → Hp → Prop) (l0 l1 : Option Value) (i : Nat), Wp 40 9 (l0 :: l1 :: some (.ref i) :: ls) (st) h Q ↔ Wp 40 10 (l0 :: l1 :: some (.ref i) :: ls) (.ref i :: st) h Q) ∧
  (∀ (ls : Lo) (st : List Value) (n sl : Nat) (C Z : Nat → Nat) (I : Nat → Nat → Int32) (L : Nat → Nat → Int64) (R : Nat → Nat → Nat) (Q : Option Value → Hp → Prop) (i : Nat), Wp 40 10 (ls) (.ref i :: st) (n, sl, C, Z, I, L, R) Q ↔ (C i = 9 ∧ Wp 40 13 (ls) (.ref (R i 0) :: st) (n, sl, C, Z, I, L, R) Q)) ∧
  (∀ (ls : Lo) (st : List Value) (h : Hp) (Q : Option Value → Hp → Prop) (l0 l1 : Option Value) (i : Nat), Wp 40 13 (l0 :: l1 :: some (.ref i) :: ls) (st) h Q ↔ Wp 40 14 (l0 :: l1 :: some (.ref i) :: ls) (.ref i :: st) h Q) ∧
  (∀ (ls : Lo) (st : List Value) (n sl : Nat) (C Z : Nat → Nat) (I : Nat → Nat → Int32) (L : Nat → Nat → Int64) (R : Nat → Nat → Nat) (Q : Option Value → Hp → Prop) (i : Nat), Wp 40 14 (ls) (.ref i :: st) (n, sl, C, Z, I, L, R) Q ↔ (C i = 9 ∧ Wp 40 17 (ls) (.int (I i 1) :: st) (n, sl, C, Z, I, L, R) Q)) ∧
  (∀ (ls : Lo) (st : List Value) (h : Hp) (Q : Option Value → Hp → Prop), Wp 40 17 (ls) (st) h Q ↔ Wp 40 19 (ls) (.int (31) :: st) h Q) ∧
  (∀ (ls : Lo) (st : List Value) (n sl : Nat) (C Z : Nat → Nat) (I : Nat → Nat → Int32) (L : Nat → Nat → Int64) (R : Nat → Nat → Nat) (Q : Option Value → Hp → Prop) (i : Nat) (x y : Int32), Wp 40 19 (ls) (.int x :: .int y :: .ref i :: st) (n, sl, C, Z, I, L, R) Q ↔ ((inb y (Z i) = true ∧ C i = 21) ∧ Wp 40 20 (ls) (st) (n, sl, C, Z, u2 I i (ix y) x, L, R) Q)) ∧
  (∀ (ls : Lo) (st : List Value) (h : Hp) (Q : Option Value → Hp → Prop) (l0 l1 : Option Value) (i : Nat), Wp 40 20 (l0 :: l1 :: some (.ref i) :: ls) (st) h Q ↔ Wp 40 21 (l0 :: l1 :: some (.ref i) :: ls) (.ref i :: st) h Q) ∧
  (∀ (ls : Lo) (st : List Value) (h : Hp) (Q : Option Value → Hp → Prop) (x : Int32), Wp 40 21 (ls) (.int x :: st) h Q ↔ Wp 40 22 (ls) (.int x :: .int x :: st) h Q) ∧
  (∀ (ls : Lo) (st : List Value) (h : Hp) (Q : Option Value → Hp → Prop) (i : Nat), Wp 40 21 (ls) (.ref i :: st) h Q ↔ Wp 40 22 (ls) (.ref i :: .ref i :: st) h Q) ∧
  (∀ (ls : Lo) (st : List Value) (n sl : Nat) (C Z : Nat → Nat) (I : Nat → Nat → Int32) (L : Nat → Nat → Int64) (R : Nat → Nat → Nat) (Q : Option Value → Hp → Prop) (i : Nat), Wp 40 22 (ls) (.ref i :: st) (n, sl, C, Z, I, L, R) Q ↔ (C i = 9 ∧ Wp 40 25 (ls) (.int (I i 1) :: st) (n, sl, C, Z, I, L, R) Q)) ∧
  (∀ (ls : Lo) (st : List Value) (h : Hp) (Q : Option Value → Hp → Prop), Wp 40 25 (ls) (st) h Q ↔ Wp 40 26 (ls) (.int (1) :: st) h Q) ∧
  (∀ (ls : Lo) (st : List Value) (h : Hp) (Q : Option Value → Hp → Prop) (x y : Int32), Wp 40 26 (ls) (.int y :: .int x :: st) h Q ↔ Wp 40 27 (ls) (.int (x + y) :: st) h Q) ∧
  (∀ (ls : Lo) (st : List Value) (n sl : Nat) (C Z : Nat → Nat) (I : Nat → Nat → Int32) (L : Nat → Nat → Int64) (R : Nat → Nat → Nat) (Q : Option Value → Hp → Prop) (i : Nat) (x : Int32), Wp 40 27 (ls) (.int x :: .ref i :: st) (n, sl, C, Z, I, L, R) Q ↔ (C i = 9 ∧ Wp 40 30 (ls) (st) (n, sl, C, Z, u2 I i 1 x, L, R) Q)) ∧
  (∀ (ls : Lo) (st : List Value) (h : Hp) (Q : Option Value → Hp → Prop)  (i : Nat), Wp 40 30 (some (.ref i) :: ls) (st) h Q ↔ Wp 40 31 (some (.ref i) :: ls) (.ref i :: st) h Q) ∧
  (∀ (ls : Lo) (st : List Value) (h : Hp) (Q : Option Value → Hp → Prop) (l0 : Option Value) (x : Int32), Wp 40 31 (l0 :: some (.int x) :: ls) (st) h Q ↔ Wp 40 32 (l0 :: some (.int x) :: ls) (.int x :: st) h Q) ∧
  (∀ (ls : Lo) (st : List Value) (h : Hp) (Q : Option Value → Hp → Prop), Wp 40 32 (ls) (st) h Q ↔ Wp 40 33 (ls) (.int (1) :: st) h Q) ∧
  (∀ (ls : Lo) (st : List Value) (h : Hp) (Q : Option Value → Hp → Prop) (x y : Int32), Wp 40 33 (ls) (.int y :: .int x :: st) h Q ↔ Wp 40 34 (ls) (.int (x - y) :: st) h Q) ∧
  (∀ (ls : Lo) (st : List Value) (h : Hp) (Q : Option Value → Hp → Prop) (l0 l1 : Option Value) (i : Nat), Wp 40 34 (l0 :: l1 :: some (.ref i) :: ls) (st) h Q ↔ Wp 40 35 (l0 :: l1 :: some (.ref i) :: ls) (.ref i :: st) h Q) ∧
  (∀ (ls : Lo) (st : List Value) (n sl : Nat) (C Z : Nat → Nat) (I : Nat → Nat → Int32) (L : Nat → Nat → Int64) (R : Nat → Nat → Nat) (Q : Option Value → Hp → Prop) (x0 : Int32) (x1 : Nat) (i : Nat), inG 7 (C i) = true → (Wp 40 35 (ls) (.ref x1 :: .int x0 :: .ref i :: st) (n, sl, C, Z, I, L, R) Q ↔ (wsum st ≤ 8 ∧ Call 56 [some (.ref i), some (.int x0), some (.ref x1)] (n, sl, C, Z, I, L, R) 40 38 ls st Q))) ∧
  (∀ (ls : Lo) (h : Hp) (Q : Option Value → Hp → Prop) (x : Int32), Wp 40 38 (ls) ([.int x]) h Q ↔ Q (some (.int x)) h) := ⟨by intro ls st h Q l0 l1 i; exact e_aload_n d40_0 rfl,
  by intro ls st n sl C Z I L R Q i; exact e_get (g := 8) (s := 1) (ty := 0) d40_1 rfl rfl (inG_ne (by decide)),
  by intro ls st h Q; exact e_bipush d40_4 rfl,
  by intro ls st h Q x y; exact e_ic d40_6 (by decide) c_ge,
  by intro ls st h Q l0 l1 i; exact e_aload_n d40_9 rfl,
  by intro ls st n sl C Z I L R Q i; exact e_get (g := 8) (s := 0) (ty := 2) d40_10 rfl rfl (inG_ne (by decide)),
  by intro ls st h Q l0 l1 i; exact e_aload_n d40_13 rfl,
  by intro ls st n sl C Z I L R Q i; exact e_get (g := 8) (s := 1) (ty := 0) d40_14 rfl rfl (inG_ne (by decide)),
  by intro ls st h Q; exact e_bipush d40_17 rfl,
  by intro ls st n sl C Z I L R Q i x y; exact e_iast d40_19,
  by intro ls st h Q l0 l1 i; exact e_aload_n d40_20 rfl,
  by intro ls st h Q x; exact e_dupI d40_21,
  by intro ls st h Q i; exact e_dupR d40_21,
  by intro ls st n sl C Z I L R Q i; exact e_get (g := 8) (s := 1) (ty := 0) d40_22 rfl rfl (inG_ne (by decide)),
  by intro ls st h Q; exact e_iconst d40_25 rfl,
  by intro ls st h Q x y; exact e_iadd d40_26,
  by intro ls st n sl C Z I L R Q i x; exact e_putI (g := 8) (s := 1) d40_27 rfl (Or.inl rfl) (inG_ne (by decide)),
  by intro ls st h Q i; exact e_aload_n d40_30 rfl,
  by intro ls st h Q l0 x; exact e_iload_n d40_31 rfl,
  by intro ls st h Q; exact e_iconst d40_32 rfl,
  by intro ls st h Q x y; exact e_isub d40_33,
  by intro ls st h Q l0 l1 i; exact e_aload_n d40_34 rfl,
  by intro ls st n sl C Z I L R Q x0 x1 i hh; exact e_isu (k2 := 56) (as := [.int x0, .ref x1]) d40_35 rfl (by decide) rfl rfl (by decide +kernel) (Nat.le_of_ble_eq_true rfl) rfl hh,
  by intros; exact e_rI (p := True) d40_38 rfl⟩
theorem d41_0 : decode (byt 41) 0 = .ok (.aload_n 0, 1) := by decide +kernel
theorem d41_1 : decode (byt 41) 1 = .ok (.iconst 0, 1) := by decide +kernel
theorem d41_2 : decode (byt 41) 2 = .ok (.laload, 1) := by decide +kernel
theorem d41_3 : decode (byt 41) 3 = .ok (.aload_n 1, 1) := by decide +kernel
theorem d41_4 : decode (byt 41) 4 = .ok (.iconst 1, 1) := by decide +kernel
theorem d41_5 : decode (byt 41) 5 = .ok (.laload, 1) := by decide +kernel
theorem d41_6 : decode (byt 41) 6 = .ok (.aload_n 2, 1) := by decide +kernel
theorem d41_7 : decode (byt 41) 7 = .ok (.iconst 2, 1) := by decide +kernel
theorem d41_8 : decode (byt 41) 8 = .ok (.laload, 1) := by decide +kernel
theorem d41_9 : decode (byt 41) 9 = .ok (.lmul, 1) := by decide +kernel
theorem d41_10 : decode (byt 41) 10 = .ok (.aload_n 1, 1) := by decide +kernel
theorem d41_11 : decode (byt 41) 11 = .ok (.iconst 2, 1) := by decide +kernel
theorem d41_12 : decode (byt 41) 12 = .ok (.laload, 1) := by decide +kernel
theorem d41_13 : decode (byt 41) 13 = .ok (.aload_n 2, 1) := by decide +kernel
theorem d41_14 : decode (byt 41) 14 = .ok (.iconst 1, 1) := by decide +kernel
theorem d41_15 : decode (byt 41) 15 = .ok (.laload, 1) := by decide +kernel
theorem d41_16 : decode (byt 41) 16 = .ok (.lmul, 1) := by decide +kernel
theorem d41_17 : decode (byt 41) 17 = .ok (.lsub, 1) := by decide +kernel
theorem d41_18 : decode (byt 41) 18 = .ok (.lmul, 1) := by decide +kernel
theorem d41_19 : decode (byt 41) 19 = .ok (.aload_n 0, 1) := by decide +kernel
theorem d41_20 : decode (byt 41) 20 = .ok (.iconst 1, 1) := by decide +kernel
theorem d41_21 : decode (byt 41) 21 = .ok (.laload, 1) := by decide +kernel
theorem d41_22 : decode (byt 41) 22 = .ok (.aload_n 1, 1) := by decide +kernel
theorem d41_23 : decode (byt 41) 23 = .ok (.iconst 0, 1) := by decide +kernel
theorem d41_24 : decode (byt 41) 24 = .ok (.laload, 1) := by decide +kernel
theorem d41_25 : decode (byt 41) 25 = .ok (.aload_n 2, 1) := by decide +kernel
theorem d41_26 : decode (byt 41) 26 = .ok (.iconst 2, 1) := by decide +kernel
theorem d41_27 : decode (byt 41) 27 = .ok (.laload, 1) := by decide +kernel
theorem d41_28 : decode (byt 41) 28 = .ok (.lmul, 1) := by decide +kernel
theorem d41_29 : decode (byt 41) 29 = .ok (.aload_n 1, 1) := by decide +kernel
theorem d41_30 : decode (byt 41) 30 = .ok (.iconst 2, 1) := by decide +kernel
theorem d41_31 : decode (byt 41) 31 = .ok (.laload, 1) := by decide +kernel
theorem d41_32 : decode (byt 41) 32 = .ok (.aload_n 2, 1) := by decide +kernel
theorem d41_33 : decode (byt 41) 33 = .ok (.iconst 0, 1) := by decide +kernel
theorem d41_34 : decode (byt 41) 34 = .ok (.laload, 1) := by decide +kernel
theorem d41_35 : decode (byt 41) 35 = .ok (.lmul, 1) := by decide +kernel
theorem d41_36 : decode (byt 41) 36 = .ok (.lsub, 1) := by decide +kernel
theorem d41_37 : decode (byt 41) 37 = .ok (.lmul, 1) := by decide +kernel
theorem d41_38 : decode (byt 41) 38 = .ok (.lsub, 1) := by decide +kernel
theorem d41_39 : decode (byt 41) 39 = .ok (.aload_n 0, 1) := by decide +kernel
theorem d41_40 : decode (byt 41) 40 = .ok (.iconst 2, 1) := by decide +kernel
theorem d41_41 : decode (byt 41) 41 = .ok (.laload, 1) := by decide +kernel
theorem d41_42 : decode (byt 41) 42 = .ok (.aload_n 1, 1) := by decide +kernel
theorem d41_43 : decode (byt 41) 43 = .ok (.iconst 0, 1) := by decide +kernel
theorem d41_44 : decode (byt 41) 44 = .ok (.laload, 1) := by decide +kernel
theorem d41_45 : decode (byt 41) 45 = .ok (.aload_n 2, 1) := by decide +kernel
theorem d41_46 : decode (byt 41) 46 = .ok (.iconst 1, 1) := by decide +kernel
theorem d41_47 : decode (byt 41) 47 = .ok (.laload, 1) := by decide +kernel
theorem d41_48 : decode (byt 41) 48 = .ok (.lmul, 1) := by decide +kernel
theorem d41_49 : decode (byt 41) 49 = .ok (.aload_n 1, 1) := by decide +kernel
theorem d41_50 : decode (byt 41) 50 = .ok (.iconst 1, 1) := by decide +kernel
theorem d41_51 : decode (byt 41) 51 = .ok (.laload, 1) := by decide +kernel
theorem d41_52 : decode (byt 41) 52 = .ok (.aload_n 2, 1) := by decide +kernel
theorem d41_53 : decode (byt 41) 53 = .ok (.iconst 0, 1) := by decide +kernel
theorem d41_54 : decode (byt 41) 54 = .ok (.laload, 1) := by decide +kernel
theorem d41_55 : decode (byt 41) 55 = .ok (.lmul, 1) := by decide +kernel
theorem d41_56 : decode (byt 41) 56 = .ok (.lsub, 1) := by decide +kernel
theorem d41_57 : decode (byt 41) 57 = .ok (.lmul, 1) := by decide +kernel
theorem d41_58 : decode (byt 41) 58 = .ok (.ladd, 1) := by decide +kernel
theorem d41_59 : decode (byt 41) 59 = .ok (.lreturn, 1) := by decide +kernel
set_option maxRecDepth 20000 in
theorem S41_0 : (∀ (ls : Lo) (st : List Value) (h : Hp) (Q : Option Value → Hp → Prop)  (i : Nat), Wp 41 0 (some (.ref i) :: ls) (st) h Q ↔ Wp 41 1 (some (.ref i) :: ls) (.ref i :: st) h Q) ∧
  (∀ (ls : Lo) (st : List Value) (h : Hp) (Q : Option Value → Hp → Prop), Wp 41 1 (ls) (st) h Q ↔ Wp 41 2 (ls) (.int (0) :: st) h Q) ∧
  (∀ (ls : Lo) (st : List Value) (n sl : Nat) (C Z : Nat → Nat) (I : Nat → Nat → Int32) (L : Nat → Nat → Int64) (R : Nat → Nat → Nat) (Q : Option Value → Hp → Prop) (i : Nat) (y : Int32), Wp 41 2 (ls) (.int y :: .ref i :: st) (n, sl, C, Z, I, L, R) Q ↔ ((inb y (Z i) = true ∧ C i = 22) ∧ Wp 41 3 (ls) (.long (L i (ix y)) :: st) (n, sl, C, Z, I, L, R) Q)) ∧
  (∀ (ls : Lo) (st : List Value) (h : Hp) (Q : Option Value → Hp → Prop) (l0 : Option Value) (i : Nat), Wp 41 3 (l0 :: some (.ref i) :: ls) (st) h Q ↔ Wp 41 4 (l0 :: some (.ref i) :: ls) (.ref i :: st) h Q) ∧
  (∀ (ls : Lo) (st : List Value) (h : Hp) (Q : Option Value → Hp → Prop), Wp 41 4 (ls) (st) h Q ↔ Wp 41 5 (ls) (.int (1) :: st) h Q) ∧
  (∀ (ls : Lo) (st : List Value) (n sl : Nat) (C Z : Nat → Nat) (I : Nat → Nat → Int32) (L : Nat → Nat → Int64) (R : Nat → Nat → Nat) (Q : Option Value → Hp → Prop) (i : Nat) (y : Int32), Wp 41 5 (ls) (.int y :: .ref i :: st) (n, sl, C, Z, I, L, R) Q ↔ ((inb y (Z i) = true ∧ C i = 22) ∧ Wp 41 6 (ls) (.long (L i (ix y)) :: st) (n, sl, C, Z, I, L, R) Q)) ∧
  (∀ (ls : Lo) (st : List Value) (h : Hp) (Q : Option Value → Hp → Prop) (l0 l1 : Option Value) (i : Nat), Wp 41 6 (l0 :: l1 :: some (.ref i) :: ls) (st) h Q ↔ Wp 41 7 (l0 :: l1 :: some (.ref i) :: ls) (.ref i :: st) h Q) ∧
  (∀ (ls : Lo) (st : List Value) (h : Hp) (Q : Option Value → Hp → Prop), Wp 41 7 (ls) (st) h Q ↔ Wp 41 8 (ls) (.int (2) :: st) h Q) ∧
  (∀ (ls : Lo) (st : List Value) (n sl : Nat) (C Z : Nat → Nat) (I : Nat → Nat → Int32) (L : Nat → Nat → Int64) (R : Nat → Nat → Nat) (Q : Option Value → Hp → Prop) (i : Nat) (y : Int32), Wp 41 8 (ls) (.int y :: .ref i :: st) (n, sl, C, Z, I, L, R) Q ↔ ((inb y (Z i) = true ∧ C i = 22) ∧ Wp 41 9 (ls) (.long (L i (ix y)) :: st) (n, sl, C, Z, I, L, R) Q)) ∧
  (∀ (ls : Lo) (st : List Value) (h : Hp) (Q : Option Value → Hp → Prop) (a b : Int64), Wp 41 9 (ls) (.long b :: .long a :: st) h Q ↔ Wp 41 10 (ls) (.long (a * b) :: st) h Q) ∧
  (∀ (ls : Lo) (st : List Value) (h : Hp) (Q : Option Value → Hp → Prop) (l0 : Option Value) (i : Nat), Wp 41 10 (l0 :: some (.ref i) :: ls) (st) h Q ↔ Wp 41 11 (l0 :: some (.ref i) :: ls) (.ref i :: st) h Q) ∧
  (∀ (ls : Lo) (st : List Value) (h : Hp) (Q : Option Value → Hp → Prop), Wp 41 11 (ls) (st) h Q ↔ Wp 41 12 (ls) (.int (2) :: st) h Q) ∧
  (∀ (ls : Lo) (st : List Value) (n sl : Nat) (C Z : Nat → Nat) (I : Nat → Nat → Int32) (L : Nat → Nat → Int64) (R : Nat → Nat → Nat) (Q : Option Value → Hp → Prop) (i : Nat) (y : Int32), Wp 41 12 (ls) (.int y :: .ref i :: st) (n, sl, C, Z, I, L, R) Q ↔ ((inb y (Z i) = true ∧ C i = 22) ∧ Wp 41 13 (ls) (.long (L i (ix y)) :: st) (n, sl, C, Z, I, L, R) Q)) ∧
  (∀ (ls : Lo) (st : List Value) (h : Hp) (Q : Option Value → Hp → Prop) (l0 l1 : Option Value) (i : Nat), Wp 41 13 (l0 :: l1 :: some (.ref i) :: ls) (st) h Q ↔ Wp 41 14 (l0 :: l1 :: some (.ref i) :: ls) (.ref i :: st) h Q) ∧
  (∀ (ls : Lo) (st : List Value) (h : Hp) (Q : Option Value → Hp → Prop), Wp 41 14 (ls) (st) h Q ↔ Wp 41 15 (ls) (.int (1) :: st) h Q) ∧
  (∀ (ls : Lo) (st : List Value) (n sl : Nat) (C Z : Nat → Nat) (I : Nat → Nat → Int32) (L : Nat → Nat → Int64) (R : Nat → Nat → Nat) (Q : Option Value → Hp → Prop) (i : Nat) (y : Int32), Wp 41 15 (ls) (.int y :: .ref i :: st) (n, sl, C, Z, I, L, R) Q ↔ ((inb y (Z i) = true ∧ C i = 22) ∧ Wp 41 16 (ls) (.long (L i (ix y)) :: st) (n, sl, C, Z, I, L, R) Q)) ∧
  (∀ (ls : Lo) (st : List Value) (h : Hp) (Q : Option Value → Hp → Prop) (a b : Int64), Wp 41 16 (ls) (.long b :: .long a :: st) h Q ↔ Wp 41 17 (ls) (.long (a * b) :: st) h Q) ∧
  (∀ (ls : Lo) (st : List Value) (h : Hp) (Q : Option Value → Hp → Prop) (a b : Int64), Wp 41 17 (ls) (.long b :: .long a :: st) h Q ↔ Wp 41 18 (ls) (.long (a - b) :: st) h Q) ∧
  (∀ (ls : Lo) (st : List Value) (h : Hp) (Q : Option Value → Hp → Prop) (a b : Int64), Wp 41 18 (ls) (.long b :: .long a :: st) h Q ↔ Wp 41 19 (ls) (.long (a * b) :: st) h Q) ∧
  (∀ (ls : Lo) (st : List Value) (h : Hp) (Q : Option Value → Hp → Prop)  (i : Nat), Wp 41 19 (some (.ref i) :: ls) (st) h Q ↔ Wp 41 20 (some (.ref i) :: ls) (.ref i :: st) h Q) ∧
  (∀ (ls : Lo) (st : List Value) (h : Hp) (Q : Option Value → Hp → Prop), Wp 41 20 (ls) (st) h Q ↔ Wp 41 21 (ls) (.int (1) :: st) h Q) ∧
  (∀ (ls : Lo) (st : List Value) (n sl : Nat) (C Z : Nat → Nat) (I : Nat → Nat → Int32) (L : Nat → Nat → Int64) (R : Nat → Nat → Nat) (Q : Option Value → Hp → Prop) (i : Nat) (y : Int32), Wp 41 21 (ls) (.int y :: .ref i :: st) (n, sl, C, Z, I, L, R) Q ↔ ((inb y (Z i) = true ∧ C i = 22) ∧ Wp 41 22 (ls) (.long (L i (ix y)) :: st) (n, sl, C, Z, I, L, R) Q)) ∧
  (∀ (ls : Lo) (st : List Value) (h : Hp) (Q : Option Value → Hp → Prop) (l0 : Option Value) (i : Nat), Wp 41 22 (l0 :: some (.ref i) :: ls) (st) h Q ↔ Wp 41 23 (l0 :: some (.ref i) :: ls) (.ref i :: st) h Q) ∧
  (∀ (ls : Lo) (st : List Value) (h : Hp) (Q : Option Value → Hp → Prop), Wp 41 23 (ls) (st) h Q ↔ Wp 41 24 (ls) (.int (0) :: st) h Q) ∧
  (∀ (ls : Lo) (st : List Value) (n sl : Nat) (C Z : Nat → Nat) (I : Nat → Nat → Int32) (L : Nat → Nat → Int64) (R : Nat → Nat → Nat) (Q : Option Value → Hp → Prop) (i : Nat) (y : Int32), Wp 41 24 (ls) (.int y :: .ref i :: st) (n, sl, C, Z, I, L, R) Q ↔ ((inb y (Z i) = true ∧ C i = 22) ∧ Wp 41 25 (ls) (.long (L i (ix y)) :: st) (n, sl, C, Z, I, L, R) Q)) := ⟨by intro ls st h Q i; exact e_aload_n d41_0 rfl,
  by intro ls st h Q; exact e_iconst d41_1 rfl,
  by intro ls st n sl C Z I L R Q i y; exact e_lald d41_2,
  by intro ls st h Q l0 i; exact e_aload_n d41_3 rfl,
  by intro ls st h Q; exact e_iconst d41_4 rfl,
  by intro ls st n sl C Z I L R Q i y; exact e_lald d41_5,
  by intro ls st h Q l0 l1 i; exact e_aload_n d41_6 rfl,
  by intro ls st h Q; exact e_iconst d41_7 rfl,
  by intro ls st n sl C Z I L R Q i y; exact e_lald d41_8,
  by intro ls st h Q a b; exact e_lmul d41_9,
  by intro ls st h Q l0 i; exact e_aload_n d41_10 rfl,
  by intro ls st h Q; exact e_iconst d41_11 rfl,
  by intro ls st n sl C Z I L R Q i y; exact e_lald d41_12,
  by intro ls st h Q l0 l1 i; exact e_aload_n d41_13 rfl,
  by intro ls st h Q; exact e_iconst d41_14 rfl,
  by intro ls st n sl C Z I L R Q i y; exact e_lald d41_15,
  by intro ls st h Q a b; exact e_lmul d41_16,
  by intro ls st h Q a b; exact e_lsub d41_17,
  by intro ls st h Q a b; exact e_lmul d41_18,
  by intro ls st h Q i; exact e_aload_n d41_19 rfl,
  by intro ls st h Q; exact e_iconst d41_20 rfl,
  by intro ls st n sl C Z I L R Q i y; exact e_lald d41_21,
  by intro ls st h Q l0 i; exact e_aload_n d41_22 rfl,
  by intro ls st h Q; exact e_iconst d41_23 rfl,
  by intro ls st n sl C Z I L R Q i y; exact e_lald d41_24⟩
set_option maxRecDepth 20000 in
theorem S41_1 : (∀ (ls : Lo) (st : List Value) (h : Hp) (Q : Option Value → Hp → Prop) (l0 l1 : Option Value) (i : Nat), Wp 41 25 (l0 :: l1 :: some (.ref i) :: ls) (st) h Q ↔ Wp 41 26 (l0 :: l1 :: some (.ref i) :: ls) (.ref i :: st) h Q) ∧
  (∀ (ls : Lo) (st : List Value) (h : Hp) (Q : Option Value → Hp → Prop), Wp 41 26 (ls) (st) h Q ↔ Wp 41 27 (ls) (.int (2) :: st) h Q) ∧
  (∀ (ls : Lo) (st : List Value) (n sl : Nat) (C Z : Nat → Nat) (I : Nat → Nat → Int32) (L : Nat → Nat → Int64) (R : Nat → Nat → Nat) (Q : Option Value → Hp → Prop) (i : Nat) (y : Int32), Wp 41 27 (ls) (.int y :: .ref i :: st) (n, sl, C, Z, I, L, R) Q ↔ ((inb y (Z i) = true ∧ C i = 22) ∧ Wp 41 28 (ls) (.long (L i (ix y)) :: st) (n, sl, C, Z, I, L, R) Q)) ∧
  (∀ (ls : Lo) (st : List Value) (h : Hp) (Q : Option Value → Hp → Prop) (a b : Int64), Wp 41 28 (ls) (.long b :: .long a :: st) h Q ↔ Wp 41 29 (ls) (.long (a * b) :: st) h Q) ∧
  (∀ (ls : Lo) (st : List Value) (h : Hp) (Q : Option Value → Hp → Prop) (l0 : Option Value) (i : Nat), Wp 41 29 (l0 :: some (.ref i) :: ls) (st) h Q ↔ Wp 41 30 (l0 :: some (.ref i) :: ls) (.ref i :: st) h Q) ∧
  (∀ (ls : Lo) (st : List Value) (h : Hp) (Q : Option Value → Hp → Prop), Wp 41 30 (ls) (st) h Q ↔ Wp 41 31 (ls) (.int (2) :: st) h Q) ∧
  (∀ (ls : Lo) (st : List Value) (n sl : Nat) (C Z : Nat → Nat) (I : Nat → Nat → Int32) (L : Nat → Nat → Int64) (R : Nat → Nat → Nat) (Q : Option Value → Hp → Prop) (i : Nat) (y : Int32), Wp 41 31 (ls) (.int y :: .ref i :: st) (n, sl, C, Z, I, L, R) Q ↔ ((inb y (Z i) = true ∧ C i = 22) ∧ Wp 41 32 (ls) (.long (L i (ix y)) :: st) (n, sl, C, Z, I, L, R) Q)) ∧
  (∀ (ls : Lo) (st : List Value) (h : Hp) (Q : Option Value → Hp → Prop) (l0 l1 : Option Value) (i : Nat), Wp 41 32 (l0 :: l1 :: some (.ref i) :: ls) (st) h Q ↔ Wp 41 33 (l0 :: l1 :: some (.ref i) :: ls) (.ref i :: st) h Q) ∧
  (∀ (ls : Lo) (st : List Value) (h : Hp) (Q : Option Value → Hp → Prop), Wp 41 33 (ls) (st) h Q ↔ Wp 41 34 (ls) (.int (0) :: st) h Q) ∧
  (∀ (ls : Lo) (st : List Value) (n sl : Nat) (C Z : Nat → Nat) (I : Nat → Nat → Int32) (L : Nat → Nat → Int64) (R : Nat → Nat → Nat) (Q : Option Value → Hp → Prop) (i : Nat) (y : Int32), Wp 41 34 (ls) (.int y :: .ref i :: st) (n, sl, C, Z, I, L, R) Q ↔ ((inb y (Z i) = true ∧ C i = 22) ∧ Wp 41 35 (ls) (.long (L i (ix y)) :: st) (n, sl, C, Z, I, L, R) Q)) ∧
  (∀ (ls : Lo) (st : List Value) (h : Hp) (Q : Option Value → Hp → Prop) (a b : Int64), Wp 41 35 (ls) (.long b :: .long a :: st) h Q ↔ Wp 41 36 (ls) (.long (a * b) :: st) h Q) ∧
  (∀ (ls : Lo) (st : List Value) (h : Hp) (Q : Option Value → Hp → Prop) (a b : Int64), Wp 41 36 (ls) (.long b :: .long a :: st) h Q ↔ Wp 41 37 (ls) (.long (a - b) :: st) h Q) ∧
  (∀ (ls : Lo) (st : List Value) (h : Hp) (Q : Option Value → Hp → Prop) (a b : Int64), Wp 41 37 (ls) (.long b :: .long a :: st) h Q ↔ Wp 41 38 (ls) (.long (a * b) :: st) h Q) ∧
  (∀ (ls : Lo) (st : List Value) (h : Hp) (Q : Option Value → Hp → Prop) (a b : Int64), Wp 41 38 (ls) (.long b :: .long a :: st) h Q ↔ Wp 41 39 (ls) (.long (a - b) :: st) h Q) ∧
  (∀ (ls : Lo) (st : List Value) (h : Hp) (Q : Option Value → Hp → Prop)  (i : Nat), Wp 41 39 (some (.ref i) :: ls) (st) h Q ↔ Wp 41 40 (some (.ref i) :: ls) (.ref i :: st) h Q) ∧
  (∀ (ls : Lo) (st : List Value) (h : Hp) (Q : Option Value → Hp → Prop), Wp 41 40 (ls) (st) h Q ↔ Wp 41 41 (ls) (.int (2) :: st) h Q) ∧
  (∀ (ls : Lo) (st : List Value) (n sl : Nat) (C Z : Nat → Nat) (I : Nat → Nat → Int32) (L : Nat → Nat → Int64) (R : Nat → Nat → Nat) (Q : Option Value → Hp → Prop) (i : Nat) (y : Int32), Wp 41 41 (ls) (.int y :: .ref i :: st) (n, sl, C, Z, I, L, R) Q ↔ ((inb y (Z i) = true ∧ C i = 22) ∧ Wp 41 42 (ls) (.long (L i (ix y)) :: st) (n, sl, C, Z, I, L, R) Q)) ∧
  (∀ (ls : Lo) (st : List Value) (h : Hp) (Q : Option Value → Hp → Prop) (l0 : Option Value) (i : Nat), Wp 41 42 (l0 :: some (.ref i) :: ls) (st) h Q ↔ Wp 41 43 (l0 :: some (.ref i) :: ls) (.ref i :: st) h Q) ∧
  (∀ (ls : Lo) (st : List Value) (h : Hp) (Q : Option Value → Hp → Prop), Wp 41 43 (ls) (st) h Q ↔ Wp 41 44 (ls) (.int (0) :: st) h Q) ∧
  (∀ (ls : Lo) (st : List Value) (n sl : Nat) (C Z : Nat → Nat) (I : Nat → Nat → Int32) (L : Nat → Nat → Int64) (R : Nat → Nat → Nat) (Q : Option Value → Hp → Prop) (i : Nat) (y : Int32), Wp 41 44 (ls) (.int y :: .ref i :: st) (n, sl, C, Z, I, L, R) Q ↔ ((inb y (Z i) = true ∧ C i = 22) ∧ Wp 41 45 (ls) (.long (L i (ix y)) :: st) (n, sl, C, Z, I, L, R) Q)) ∧
  (∀ (ls : Lo) (st : List Value) (h : Hp) (Q : Option Value → Hp → Prop) (l0 l1 : Option Value) (i : Nat), Wp 41 45 (l0 :: l1 :: some (.ref i) :: ls) (st) h Q ↔ Wp 41 46 (l0 :: l1 :: some (.ref i) :: ls) (.ref i :: st) h Q) ∧
  (∀ (ls : Lo) (st : List Value) (h : Hp) (Q : Option Value → Hp → Prop), Wp 41 46 (ls) (st) h Q ↔ Wp 41 47 (ls) (.int (1) :: st) h Q) ∧
  (∀ (ls : Lo) (st : List Value) (n sl : Nat) (C Z : Nat → Nat) (I : Nat → Nat → Int32) (L : Nat → Nat → Int64) (R : Nat → Nat → Nat) (Q : Option Value → Hp → Prop) (i : Nat) (y : Int32), Wp 41 47 (ls) (.int y :: .ref i :: st) (n, sl, C, Z, I, L, R) Q ↔ ((inb y (Z i) = true ∧ C i = 22) ∧ Wp 41 48 (ls) (.long (L i (ix y)) :: st) (n, sl, C, Z, I, L, R) Q)) ∧
  (∀ (ls : Lo) (st : List Value) (h : Hp) (Q : Option Value → Hp → Prop) (a b : Int64), Wp 41 48 (ls) (.long b :: .long a :: st) h Q ↔ Wp 41 49 (ls) (.long (a * b) :: st) h Q) ∧
  (∀ (ls : Lo) (st : List Value) (h : Hp) (Q : Option Value → Hp → Prop) (l0 : Option Value) (i : Nat), Wp 41 49 (l0 :: some (.ref i) :: ls) (st) h Q ↔ Wp 41 50 (l0 :: some (.ref i) :: ls) (.ref i :: st) h Q) := ⟨by intro ls st h Q l0 l1 i; exact e_aload_n d41_25 rfl,
  by intro ls st h Q; exact e_iconst d41_26 rfl,
  by intro ls st n sl C Z I L R Q i y; exact e_lald d41_27,
  by intro ls st h Q a b; exact e_lmul d41_28,
  by intro ls st h Q l0 i; exact e_aload_n d41_29 rfl,
  by intro ls st h Q; exact e_iconst d41_30 rfl,
  by intro ls st n sl C Z I L R Q i y; exact e_lald d41_31,
  by intro ls st h Q l0 l1 i; exact e_aload_n d41_32 rfl,
  by intro ls st h Q; exact e_iconst d41_33 rfl,
  by intro ls st n sl C Z I L R Q i y; exact e_lald d41_34,
  by intro ls st h Q a b; exact e_lmul d41_35,
  by intro ls st h Q a b; exact e_lsub d41_36,
  by intro ls st h Q a b; exact e_lmul d41_37,
  by intro ls st h Q a b; exact e_lsub d41_38,
  by intro ls st h Q i; exact e_aload_n d41_39 rfl,
  by intro ls st h Q; exact e_iconst d41_40 rfl,
  by intro ls st n sl C Z I L R Q i y; exact e_lald d41_41,
  by intro ls st h Q l0 i; exact e_aload_n d41_42 rfl,
  by intro ls st h Q; exact e_iconst d41_43 rfl,
  by intro ls st n sl C Z I L R Q i y; exact e_lald d41_44,
  by intro ls st h Q l0 l1 i; exact e_aload_n d41_45 rfl,
  by intro ls st h Q; exact e_iconst d41_46 rfl,
  by intro ls st n sl C Z I L R Q i y; exact e_lald d41_47,
  by intro ls st h Q a b; exact e_lmul d41_48,
  by intro ls st h Q l0 i; exact e_aload_n d41_49 rfl⟩
set_option maxRecDepth 20000 in
theorem S41_2 : (∀ (ls : Lo) (st : List Value) (h : Hp) (Q : Option Value → Hp → Prop), Wp 41 50 (ls) (st) h Q ↔ Wp 41 51 (ls) (.int (1) :: st) h Q) ∧
  (∀ (ls : Lo) (st : List Value) (n sl : Nat) (C Z : Nat → Nat) (I : Nat → Nat → Int32) (L : Nat → Nat → Int64) (R : Nat → Nat → Nat) (Q : Option Value → Hp → Prop) (i : Nat) (y : Int32), Wp 41 51 (ls) (.int y :: .ref i :: st) (n, sl, C, Z, I, L, R) Q ↔ ((inb y (Z i) = true ∧ C i = 22) ∧ Wp 41 52 (ls) (.long (L i (ix y)) :: st) (n, sl, C, Z, I, L, R) Q)) ∧
  (∀ (ls : Lo) (st : List Value) (h : Hp) (Q : Option Value → Hp → Prop) (l0 l1 : Option Value) (i : Nat), Wp 41 52 (l0 :: l1 :: some (.ref i) :: ls) (st) h Q ↔ Wp 41 53 (l0 :: l1 :: some (.ref i) :: ls) (.ref i :: st) h Q) ∧
  (∀ (ls : Lo) (st : List Value) (h : Hp) (Q : Option Value → Hp → Prop), Wp 41 53 (ls) (st) h Q ↔ Wp 41 54 (ls) (.int (0) :: st) h Q) ∧
  (∀ (ls : Lo) (st : List Value) (n sl : Nat) (C Z : Nat → Nat) (I : Nat → Nat → Int32) (L : Nat → Nat → Int64) (R : Nat → Nat → Nat) (Q : Option Value → Hp → Prop) (i : Nat) (y : Int32), Wp 41 54 (ls) (.int y :: .ref i :: st) (n, sl, C, Z, I, L, R) Q ↔ ((inb y (Z i) = true ∧ C i = 22) ∧ Wp 41 55 (ls) (.long (L i (ix y)) :: st) (n, sl, C, Z, I, L, R) Q)) ∧
  (∀ (ls : Lo) (st : List Value) (h : Hp) (Q : Option Value → Hp → Prop) (a b : Int64), Wp 41 55 (ls) (.long b :: .long a :: st) h Q ↔ Wp 41 56 (ls) (.long (a * b) :: st) h Q) ∧
  (∀ (ls : Lo) (st : List Value) (h : Hp) (Q : Option Value → Hp → Prop) (a b : Int64), Wp 41 56 (ls) (.long b :: .long a :: st) h Q ↔ Wp 41 57 (ls) (.long (a - b) :: st) h Q) ∧
  (∀ (ls : Lo) (st : List Value) (h : Hp) (Q : Option Value → Hp → Prop) (a b : Int64), Wp 41 57 (ls) (.long b :: .long a :: st) h Q ↔ Wp 41 58 (ls) (.long (a * b) :: st) h Q) ∧
  (∀ (ls : Lo) (st : List Value) (h : Hp) (Q : Option Value → Hp → Prop) (a b : Int64), Wp 41 58 (ls) (.long b :: .long a :: st) h Q ↔ Wp 41 59 (ls) (.long (a + b) :: st) h Q) ∧
  (∀ (ls : Lo) (h : Hp) (Q : Option Value → Hp → Prop) (a : Int64), Wp 41 59 (ls) ([.long a]) h Q ↔ Q (some (.long a)) h) := ⟨by intro ls st h Q; exact e_iconst d41_50 rfl,
  by intro ls st n sl C Z I L R Q i y; exact e_lald d41_51,
  by intro ls st h Q l0 l1 i; exact e_aload_n d41_52 rfl,
  by intro ls st h Q; exact e_iconst d41_53 rfl,
  by intro ls st n sl C Z I L R Q i y; exact e_lald d41_54,
  by intro ls st h Q a b; exact e_lmul d41_55,
  by intro ls st h Q a b; exact e_lsub d41_56,
  by intro ls st h Q a b; exact e_lmul d41_57,
  by intro ls st h Q a b; exact e_ladd d41_58,
  by intros; exact e_rL d41_59 rfl⟩
theorem d42_0 : decode (byt 42) 0 = .ok (.aload_n 0, 1) := by decide +kernel
theorem d42_1 : decode (byt 42) 1 = .ok (.iconst 0, 1) := by decide +kernel
theorem d42_2 : decode (byt 42) 2 = .ok (.laload, 1) := by decide +kernel
theorem d42_3 : decode (byt 42) 3 = .ok (.aload_n 1, 1) := by decide +kernel
theorem d42_4 : decode (byt 42) 4 = .ok (.iconst 1, 1) := by decide +kernel
theorem d42_5 : decode (byt 42) 5 = .ok (.laload, 1) := by decide +kernel
theorem d42_6 : decode (byt 42) 6 = .ok (.lmul, 1) := by decide +kernel
theorem d42_7 : decode (byt 42) 7 = .ok (.aload_n 0, 1) := by decide +kernel
theorem d42_8 : decode (byt 42) 8 = .ok (.iconst 1, 1) := by decide +kernel
theorem d42_9 : decode (byt 42) 9 = .ok (.laload, 1) := by decide +kernel
theorem d42_10 : decode (byt 42) 10 = .ok (.aload_n 1, 1) := by decide +kernel
theorem d42_11 : decode (byt 42) 11 = .ok (.iconst 0, 1) := by decide +kernel
theorem d42_12 : decode (byt 42) 12 = .ok (.laload, 1) := by decide +kernel
theorem d42_13 : decode (byt 42) 13 = .ok (.lmul, 1) := by decide +kernel
theorem d42_14 : decode (byt 42) 14 = .ok (.lcmp, 1) := by decide +kernel
theorem d42_15 : decode (byt 42) 15 = .ok (.ifCond .ne 39, 3) := by decide +kernel
theorem d42_18 : decode (byt 42) 18 = .ok (.aload_n 0, 1) := by decide +kernel
theorem d42_19 : decode (byt 42) 19 = .ok (.iconst 0, 1) := by decide +kernel
theorem d42_20 : decode (byt 42) 20 = .ok (.laload, 1) := by decide +kernel
theorem d42_21 : decode (byt 42) 21 = .ok (.aload_n 1, 1) := by decide +kernel
theorem d42_22 : decode (byt 42) 22 = .ok (.iconst 2, 1) := by decide +kernel
theorem d42_23 : decode (byt 42) 23 = .ok (.laload, 1) := by decide +kernel
theorem d42_24 : decode (byt 42) 24 = .ok (.lmul, 1) := by decide +kernel
theorem d42_25 : decode (byt 42) 25 = .ok (.aload_n 0, 1) := by decide +kernel
theorem d42_26 : decode (byt 42) 26 = .ok (.iconst 2, 1) := by decide +kernel
theorem d42_27 : decode (byt 42) 27 = .ok (.laload, 1) := by decide +kernel
theorem d42_28 : decode (byt 42) 28 = .ok (.aload_n 1, 1) := by decide +kernel
theorem d42_29 : decode (byt 42) 29 = .ok (.iconst 0, 1) := by decide +kernel
theorem d42_30 : decode (byt 42) 30 = .ok (.laload, 1) := by decide +kernel
theorem d42_31 : decode (byt 42) 31 = .ok (.lmul, 1) := by decide +kernel
theorem d42_32 : decode (byt 42) 32 = .ok (.lcmp, 1) := by decide +kernel
theorem d42_33 : decode (byt 42) 33 = .ok (.ifCond .ne 21, 3) := by decide +kernel
theorem d42_36 : decode (byt 42) 36 = .ok (.aload_n 0, 1) := by decide +kernel
theorem d42_37 : decode (byt 42) 37 = .ok (.iconst 1, 1) := by decide +kernel
theorem d42_38 : decode (byt 42) 38 = .ok (.laload, 1) := by decide +kernel
theorem d42_39 : decode (byt 42) 39 = .ok (.aload_n 1, 1) := by decide +kernel
theorem d42_40 : decode (byt 42) 40 = .ok (.iconst 2, 1) := by decide +kernel
theorem d42_41 : decode (byt 42) 41 = .ok (.laload, 1) := by decide +kernel
theorem d42_42 : decode (byt 42) 42 = .ok (.lmul, 1) := by decide +kernel
theorem d42_43 : decode (byt 42) 43 = .ok (.aload_n 0, 1) := by decide +kernel
theorem d42_44 : decode (byt 42) 44 = .ok (.iconst 2, 1) := by decide +kernel
theorem d42_45 : decode (byt 42) 45 = .ok (.laload, 1) := by decide +kernel
theorem d42_46 : decode (byt 42) 46 = .ok (.aload_n 1, 1) := by decide +kernel
theorem d42_47 : decode (byt 42) 47 = .ok (.iconst 1, 1) := by decide +kernel
theorem d42_48 : decode (byt 42) 48 = .ok (.laload, 1) := by decide +kernel
theorem d42_49 : decode (byt 42) 49 = .ok (.lmul, 1) := by decide +kernel
theorem d42_50 : decode (byt 42) 50 = .ok (.lcmp, 1) := by decide +kernel
theorem d42_51 : decode (byt 42) 51 = .ok (.ifCond .eq 7, 3) := by decide +kernel
theorem d42_54 : decode (byt 42) 54 = .ok (.iconst 1, 1) := by decide +kernel
theorem d42_55 : decode (byt 42) 55 = .ok (.goto 4, 3) := by decide +kernel
theorem d42_58 : decode (byt 42) 58 = .ok (.iconst 0, 1) := by decide +kernel
theorem d42_59 : decode (byt 42) 59 = .ok (.ireturn, 1) := by decide +kernel
set_option maxRecDepth 20000 in
theorem S42_0 : (∀ (ls : Lo) (st : List Value) (h : Hp) (Q : Option Value → Hp → Prop)  (i : Nat), Wp 42 0 (some (.ref i) :: ls) (st) h Q ↔ Wp 42 1 (some (.ref i) :: ls) (.ref i :: st) h Q) ∧
  (∀ (ls : Lo) (st : List Value) (h : Hp) (Q : Option Value → Hp → Prop), Wp 42 1 (ls) (st) h Q ↔ Wp 42 2 (ls) (.int (0) :: st) h Q) ∧
  (∀ (ls : Lo) (st : List Value) (n sl : Nat) (C Z : Nat → Nat) (I : Nat → Nat → Int32) (L : Nat → Nat → Int64) (R : Nat → Nat → Nat) (Q : Option Value → Hp → Prop) (i : Nat) (y : Int32), Wp 42 2 (ls) (.int y :: .ref i :: st) (n, sl, C, Z, I, L, R) Q ↔ ((inb y (Z i) = true ∧ C i = 22) ∧ Wp 42 3 (ls) (.long (L i (ix y)) :: st) (n, sl, C, Z, I, L, R) Q)) ∧
  (∀ (ls : Lo) (st : List Value) (h : Hp) (Q : Option Value → Hp → Prop) (l0 : Option Value) (i : Nat), Wp 42 3 (l0 :: some (.ref i) :: ls) (st) h Q ↔ Wp 42 4 (l0 :: some (.ref i) :: ls) (.ref i :: st) h Q) ∧
  (∀ (ls : Lo) (st : List Value) (h : Hp) (Q : Option Value → Hp → Prop), Wp 42 4 (ls) (st) h Q ↔ Wp 42 5 (ls) (.int (1) :: st) h Q) ∧
  (∀ (ls : Lo) (st : List Value) (n sl : Nat) (C Z : Nat → Nat) (I : Nat → Nat → Int32) (L : Nat → Nat → Int64) (R : Nat → Nat → Nat) (Q : Option Value → Hp → Prop) (i : Nat) (y : Int32), Wp 42 5 (ls) (.int y :: .ref i :: st) (n, sl, C, Z, I, L, R) Q ↔ ((inb y (Z i) = true ∧ C i = 22) ∧ Wp 42 6 (ls) (.long (L i (ix y)) :: st) (n, sl, C, Z, I, L, R) Q)) ∧
  (∀ (ls : Lo) (st : List Value) (h : Hp) (Q : Option Value → Hp → Prop) (a b : Int64), Wp 42 6 (ls) (.long b :: .long a :: st) h Q ↔ Wp 42 7 (ls) (.long (a * b) :: st) h Q) ∧
  (∀ (ls : Lo) (st : List Value) (h : Hp) (Q : Option Value → Hp → Prop)  (i : Nat), Wp 42 7 (some (.ref i) :: ls) (st) h Q ↔ Wp 42 8 (some (.ref i) :: ls) (.ref i :: st) h Q) ∧
  (∀ (ls : Lo) (st : List Value) (h : Hp) (Q : Option Value → Hp → Prop), Wp 42 8 (ls) (st) h Q ↔ Wp 42 9 (ls) (.int (1) :: st) h Q) ∧
  (∀ (ls : Lo) (st : List Value) (n sl : Nat) (C Z : Nat → Nat) (I : Nat → Nat → Int32) (L : Nat → Nat → Int64) (R : Nat → Nat → Nat) (Q : Option Value → Hp → Prop) (i : Nat) (y : Int32), Wp 42 9 (ls) (.int y :: .ref i :: st) (n, sl, C, Z, I, L, R) Q ↔ ((inb y (Z i) = true ∧ C i = 22) ∧ Wp 42 10 (ls) (.long (L i (ix y)) :: st) (n, sl, C, Z, I, L, R) Q)) ∧
  (∀ (ls : Lo) (st : List Value) (h : Hp) (Q : Option Value → Hp → Prop) (l0 : Option Value) (i : Nat), Wp 42 10 (l0 :: some (.ref i) :: ls) (st) h Q ↔ Wp 42 11 (l0 :: some (.ref i) :: ls) (.ref i :: st) h Q) ∧
  (∀ (ls : Lo) (st : List Value) (h : Hp) (Q : Option Value → Hp → Prop), Wp 42 11 (ls) (st) h Q ↔ Wp 42 12 (ls) (.int (0) :: st) h Q) ∧
  (∀ (ls : Lo) (st : List Value) (n sl : Nat) (C Z : Nat → Nat) (I : Nat → Nat → Int32) (L : Nat → Nat → Int64) (R : Nat → Nat → Nat) (Q : Option Value → Hp → Prop) (i : Nat) (y : Int32), Wp 42 12 (ls) (.int y :: .ref i :: st) (n, sl, C, Z, I, L, R) Q ↔ ((inb y (Z i) = true ∧ C i = 22) ∧ Wp 42 13 (ls) (.long (L i (ix y)) :: st) (n, sl, C, Z, I, L, R) Q)) ∧
  (∀ (ls : Lo) (st : List Value) (h : Hp) (Q : Option Value → Hp → Prop) (a b : Int64), Wp 42 13 (ls) (.long b :: .long a :: st) h Q ↔ Wp 42 14 (ls) (.long (a * b) :: st) h Q) ∧
  (∀ (ls : Lo) (st : List Value) (h : Hp) (Q : Option Value → Hp → Prop) (a b : Int64), Wp 42 14 (ls) (.long b :: .long a :: st) h Q ↔ Wp 42 15 (ls) (.int (lg_cmp a b) :: st) h Q) ∧
  (∀ (ls : Lo) (st : List Value) (h : Hp) (Q : Option Value → Hp → Prop) (x : Int32), Wp 42 15 (ls) (.int x :: st) h Q ↔ Br 42 54 18 ls st h Q (¬ x = 0)) ∧
  (∀ (ls : Lo) (st : List Value) (h : Hp) (Q : Option Value → Hp → Prop)  (i : Nat), Wp 42 18 (some (.ref i) :: ls) (st) h Q ↔ Wp 42 19 (some (.ref i) :: ls) (.ref i :: st) h Q) ∧
  (∀ (ls : Lo) (st : List Value) (h : Hp) (Q : Option Value → Hp → Prop), Wp 42 19 (ls) (st) h Q ↔ Wp 42 20 (ls) (.int (0) :: st) h Q) ∧
  (∀ (ls : Lo) (st : List Value) (n sl : Nat) (C Z : Nat → Nat) (I : Nat → Nat → Int32) (L : Nat → Nat → Int64) (R : Nat → Nat → Nat) (Q : Option Value → Hp → Prop) (i : Nat) (y : Int32), Wp 42 20 (ls) (.int y :: .ref i :: st) (n, sl, C, Z, I, L, R) Q ↔ ((inb y (Z i) = true ∧ C i = 22) ∧ Wp 42 21 (ls) (.long (L i (ix y)) :: st) (n, sl, C, Z, I, L, R) Q)) ∧
  (∀ (ls : Lo) (st : List Value) (h : Hp) (Q : Option Value → Hp → Prop) (l0 : Option Value) (i : Nat), Wp 42 21 (l0 :: some (.ref i) :: ls) (st) h Q ↔ Wp 42 22 (l0 :: some (.ref i) :: ls) (.ref i :: st) h Q) ∧
  (∀ (ls : Lo) (st : List Value) (h : Hp) (Q : Option Value → Hp → Prop), Wp 42 22 (ls) (st) h Q ↔ Wp 42 23 (ls) (.int (2) :: st) h Q) ∧
  (∀ (ls : Lo) (st : List Value) (n sl : Nat) (C Z : Nat → Nat) (I : Nat → Nat → Int32) (L : Nat → Nat → Int64) (R : Nat → Nat → Nat) (Q : Option Value → Hp → Prop) (i : Nat) (y : Int32), Wp 42 23 (ls) (.int y :: .ref i :: st) (n, sl, C, Z, I, L, R) Q ↔ ((inb y (Z i) = true ∧ C i = 22) ∧ Wp 42 24 (ls) (.long (L i (ix y)) :: st) (n, sl, C, Z, I, L, R) Q)) ∧
  (∀ (ls : Lo) (st : List Value) (h : Hp) (Q : Option Value → Hp → Prop) (a b : Int64), Wp 42 24 (ls) (.long b :: .long a :: st) h Q ↔ Wp 42 25 (ls) (.long (a * b) :: st) h Q) ∧
  (∀ (ls : Lo) (st : List Value) (h : Hp) (Q : Option Value → Hp → Prop)  (i : Nat), Wp 42 25 (some (.ref i) :: ls) (st) h Q ↔ Wp 42 26 (some (.ref i) :: ls) (.ref i :: st) h Q) ∧
  (∀ (ls : Lo) (st : List Value) (h : Hp) (Q : Option Value → Hp → Prop), Wp 42 26 (ls) (st) h Q ↔ Wp 42 27 (ls) (.int (2) :: st) h Q) := ⟨by intro ls st h Q i; exact e_aload_n d42_0 rfl,
  by intro ls st h Q; exact e_iconst d42_1 rfl,
  by intro ls st n sl C Z I L R Q i y; exact e_lald d42_2,
  by intro ls st h Q l0 i; exact e_aload_n d42_3 rfl,
  by intro ls st h Q; exact e_iconst d42_4 rfl,
  by intro ls st n sl C Z I L R Q i y; exact e_lald d42_5,
  by intro ls st h Q a b; exact e_lmul d42_6,
  by intro ls st h Q i; exact e_aload_n d42_7 rfl,
  by intro ls st h Q; exact e_iconst d42_8 rfl,
  by intro ls st n sl C Z I L R Q i y; exact e_lald d42_9,
  by intro ls st h Q l0 i; exact e_aload_n d42_10 rfl,
  by intro ls st h Q; exact e_iconst d42_11 rfl,
  by intro ls st n sl C Z I L R Q i y; exact e_lald d42_12,
  by intro ls st h Q a b; exact e_lmul d42_13,
  by intro ls st h Q a b; exact e_lcmp d42_14,
  by intro ls st h Q x; exact e_if d42_15 (by decide) c_ne,
  by intro ls st h Q i; exact e_aload_n d42_18 rfl,
  by intro ls st h Q; exact e_iconst d42_19 rfl,
  by intro ls st n sl C Z I L R Q i y; exact e_lald d42_20,
  by intro ls st h Q l0 i; exact e_aload_n d42_21 rfl,
  by intro ls st h Q; exact e_iconst d42_22 rfl,
  by intro ls st n sl C Z I L R Q i y; exact e_lald d42_23,
  by intro ls st h Q a b; exact e_lmul d42_24,
  by intro ls st h Q i; exact e_aload_n d42_25 rfl,
  by intro ls st h Q; exact e_iconst d42_26 rfl⟩
set_option maxRecDepth 20000 in
theorem S42_1 : (∀ (ls : Lo) (st : List Value) (n sl : Nat) (C Z : Nat → Nat) (I : Nat → Nat → Int32) (L : Nat → Nat → Int64) (R : Nat → Nat → Nat) (Q : Option Value → Hp → Prop) (i : Nat) (y : Int32), Wp 42 27 (ls) (.int y :: .ref i :: st) (n, sl, C, Z, I, L, R) Q ↔ ((inb y (Z i) = true ∧ C i = 22) ∧ Wp 42 28 (ls) (.long (L i (ix y)) :: st) (n, sl, C, Z, I, L, R) Q)) ∧
  (∀ (ls : Lo) (st : List Value) (h : Hp) (Q : Option Value → Hp → Prop) (l0 : Option Value) (i : Nat), Wp 42 28 (l0 :: some (.ref i) :: ls) (st) h Q ↔ Wp 42 29 (l0 :: some (.ref i) :: ls) (.ref i :: st) h Q) ∧
  (∀ (ls : Lo) (st : List Value) (h : Hp) (Q : Option Value → Hp → Prop), Wp 42 29 (ls) (st) h Q ↔ Wp 42 30 (ls) (.int (0) :: st) h Q) ∧
  (∀ (ls : Lo) (st : List Value) (n sl : Nat) (C Z : Nat → Nat) (I : Nat → Nat → Int32) (L : Nat → Nat → Int64) (R : Nat → Nat → Nat) (Q : Option Value → Hp → Prop) (i : Nat) (y : Int32), Wp 42 30 (ls) (.int y :: .ref i :: st) (n, sl, C, Z, I, L, R) Q ↔ ((inb y (Z i) = true ∧ C i = 22) ∧ Wp 42 31 (ls) (.long (L i (ix y)) :: st) (n, sl, C, Z, I, L, R) Q)) ∧
  (∀ (ls : Lo) (st : List Value) (h : Hp) (Q : Option Value → Hp → Prop) (a b : Int64), Wp 42 31 (ls) (.long b :: .long a :: st) h Q ↔ Wp 42 32 (ls) (.long (a * b) :: st) h Q) ∧
  (∀ (ls : Lo) (st : List Value) (h : Hp) (Q : Option Value → Hp → Prop) (a b : Int64), Wp 42 32 (ls) (.long b :: .long a :: st) h Q ↔ Wp 42 33 (ls) (.int (lg_cmp a b) :: st) h Q) ∧
  (∀ (ls : Lo) (st : List Value) (h : Hp) (Q : Option Value → Hp → Prop) (x : Int32), Wp 42 33 (ls) (.int x :: st) h Q ↔ Br 42 54 36 ls st h Q (¬ x = 0)) ∧
  (∀ (ls : Lo) (st : List Value) (h : Hp) (Q : Option Value → Hp → Prop)  (i : Nat), Wp 42 36 (some (.ref i) :: ls) (st) h Q ↔ Wp 42 37 (some (.ref i) :: ls) (.ref i :: st) h Q) ∧
  (∀ (ls : Lo) (st : List Value) (h : Hp) (Q : Option Value → Hp → Prop), Wp 42 37 (ls) (st) h Q ↔ Wp 42 38 (ls) (.int (1) :: st) h Q) ∧
  (∀ (ls : Lo) (st : List Value) (n sl : Nat) (C Z : Nat → Nat) (I : Nat → Nat → Int32) (L : Nat → Nat → Int64) (R : Nat → Nat → Nat) (Q : Option Value → Hp → Prop) (i : Nat) (y : Int32), Wp 42 38 (ls) (.int y :: .ref i :: st) (n, sl, C, Z, I, L, R) Q ↔ ((inb y (Z i) = true ∧ C i = 22) ∧ Wp 42 39 (ls) (.long (L i (ix y)) :: st) (n, sl, C, Z, I, L, R) Q)) ∧
  (∀ (ls : Lo) (st : List Value) (h : Hp) (Q : Option Value → Hp → Prop) (l0 : Option Value) (i : Nat), Wp 42 39 (l0 :: some (.ref i) :: ls) (st) h Q ↔ Wp 42 40 (l0 :: some (.ref i) :: ls) (.ref i :: st) h Q) ∧
  (∀ (ls : Lo) (st : List Value) (h : Hp) (Q : Option Value → Hp → Prop), Wp 42 40 (ls) (st) h Q ↔ Wp 42 41 (ls) (.int (2) :: st) h Q) ∧
  (∀ (ls : Lo) (st : List Value) (n sl : Nat) (C Z : Nat → Nat) (I : Nat → Nat → Int32) (L : Nat → Nat → Int64) (R : Nat → Nat → Nat) (Q : Option Value → Hp → Prop) (i : Nat) (y : Int32), Wp 42 41 (ls) (.int y :: .ref i :: st) (n, sl, C, Z, I, L, R) Q ↔ ((inb y (Z i) = true ∧ C i = 22) ∧ Wp 42 42 (ls) (.long (L i (ix y)) :: st) (n, sl, C, Z, I, L, R) Q)) ∧
  (∀ (ls : Lo) (st : List Value) (h : Hp) (Q : Option Value → Hp → Prop) (a b : Int64), Wp 42 42 (ls) (.long b :: .long a :: st) h Q ↔ Wp 42 43 (ls) (.long (a * b) :: st) h Q) ∧
  (∀ (ls : Lo) (st : List Value) (h : Hp) (Q : Option Value → Hp → Prop)  (i : Nat), Wp 42 43 (some (.ref i) :: ls) (st) h Q ↔ Wp 42 44 (some (.ref i) :: ls) (.ref i :: st) h Q) ∧
  (∀ (ls : Lo) (st : List Value) (h : Hp) (Q : Option Value → Hp → Prop), Wp 42 44 (ls) (st) h Q ↔ Wp 42 45 (ls) (.int (2) :: st) h Q) ∧
  (∀ (ls : Lo) (st : List Value) (n sl : Nat) (C Z : Nat → Nat) (I : Nat → Nat → Int32) (L : Nat → Nat → Int64) (R : Nat → Nat → Nat) (Q : Option Value → Hp → Prop) (i : Nat) (y : Int32), Wp 42 45 (ls) (.int y :: .ref i :: st) (n, sl, C, Z, I, L, R) Q ↔ ((inb y (Z i) = true ∧ C i = 22) ∧ Wp 42 46 (ls) (.long (L i (ix y)) :: st) (n, sl, C, Z, I, L, R) Q)) ∧
  (∀ (ls : Lo) (st : List Value) (h : Hp) (Q : Option Value → Hp → Prop) (l0 : Option Value) (i : Nat), Wp 42 46 (l0 :: some (.ref i) :: ls) (st) h Q ↔ Wp 42 47 (l0 :: some (.ref i) :: ls) (.ref i :: st) h Q) ∧
  (∀ (ls : Lo) (st : List Value) (h : Hp) (Q : Option Value → Hp → Prop), Wp 42 47 (ls) (st) h Q ↔ Wp 42 48 (ls) (.int (1) :: st) h Q) ∧
  (∀ (ls : Lo) (st : List Value) (n sl : Nat) (C Z : Nat → Nat) (I : Nat → Nat → Int32) (L : Nat → Nat → Int64) (R : Nat → Nat → Nat) (Q : Option Value → Hp → Prop) (i : Nat) (y : Int32), Wp 42 48 (ls) (.int y :: .ref i :: st) (n, sl, C, Z, I, L, R) Q ↔ ((inb y (Z i) = true ∧ C i = 22) ∧ Wp 42 49 (ls) (.long (L i (ix y)) :: st) (n, sl, C, Z, I, L, R) Q)) ∧
  (∀ (ls : Lo) (st : List Value) (h : Hp) (Q : Option Value → Hp → Prop) (a b : Int64), Wp 42 49 (ls) (.long b :: .long a :: st) h Q ↔ Wp 42 50 (ls) (.long (a * b) :: st) h Q) ∧
  (∀ (ls : Lo) (st : List Value) (h : Hp) (Q : Option Value → Hp → Prop) (a b : Int64), Wp 42 50 (ls) (.long b :: .long a :: st) h Q ↔ Wp 42 51 (ls) (.int (lg_cmp a b) :: st) h Q) ∧
  (∀ (ls : Lo) (st : List Value) (h : Hp) (Q : Option Value → Hp → Prop) (x : Int32), Wp 42 51 (ls) (.int x :: st) h Q ↔ Br 42 58 54 ls st h Q (x = 0)) ∧
  (∀ (ls : Lo) (st : List Value) (h : Hp) (Q : Option Value → Hp → Prop), Wp 42 54 (ls) (st) h Q ↔ Wp 42 55 (ls) (.int (1) :: st) h Q) ∧
  (∀ (ls : Lo) (st : List Value) (h : Hp) (Q : Option Value → Hp → Prop), Wp 42 55 (ls) (st) h Q ↔ Wp 42 59 (ls) (st) h Q) := ⟨by intro ls st n sl C Z I L R Q i y; exact e_lald d42_27,
  by intro ls st h Q l0 i; exact e_aload_n d42_28 rfl,
  by intro ls st h Q; exact e_iconst d42_29 rfl,
  by intro ls st n sl C Z I L R Q i y; exact e_lald d42_30,
  by intro ls st h Q a b; exact e_lmul d42_31,
  by intro ls st h Q a b; exact e_lcmp d42_32,
  by intro ls st h Q x; exact e_if d42_33 (by decide) c_ne,
  by intro ls st h Q i; exact e_aload_n d42_36 rfl,
  by intro ls st h Q; exact e_iconst d42_37 rfl,
  by intro ls st n sl C Z I L R Q i y; exact e_lald d42_38,
  by intro ls st h Q l0 i; exact e_aload_n d42_39 rfl,
  by intro ls st h Q; exact e_iconst d42_40 rfl,
  by intro ls st n sl C Z I L R Q i y; exact e_lald d42_41,
  by intro ls st h Q a b; exact e_lmul d42_42,
  by intro ls st h Q i; exact e_aload_n d42_43 rfl,
  by intro ls st h Q; exact e_iconst d42_44 rfl,
  by intro ls st n sl C Z I L R Q i y; exact e_lald d42_45,
  by intro ls st h Q l0 i; exact e_aload_n d42_46 rfl,
  by intro ls st h Q; exact e_iconst d42_47 rfl,
  by intro ls st n sl C Z I L R Q i y; exact e_lald d42_48,
  by intro ls st h Q a b; exact e_lmul d42_49,
  by intro ls st h Q a b; exact e_lcmp d42_50,
  by intro ls st h Q x; exact e_if d42_51 (by decide) c_eq,
  by intro ls st h Q; exact e_iconst d42_54 rfl,
  by intro ls st h Q; exact e_goto d42_55 (by decide)⟩
set_option maxRecDepth 20000 in
theorem S42_2 : (∀ (ls : Lo) (st : List Value) (h : Hp) (Q : Option Value → Hp → Prop), Wp 42 58 (ls) (st) h Q ↔ Wp 42 59 (ls) (.int (0) :: st) h Q) ∧
  (∀ (ls : Lo) (h : Hp) (Q : Option Value → Hp → Prop) (x : Int32), Wp 42 59 (ls) ([.int x]) h Q ↔ ((x = 0 ∨ x = 1) ∧ Q (some (.int x)) h)) := ⟨by intro ls st h Q; exact e_iconst d42_58 rfl,
  by intros; exact e_rZ d42_59 rfl⟩
theorem d43_0 : decode (byt 43) 0 = .ok (.aload_n 0, 1) := by decide +kernel
theorem d43_1 : decode (byt 43) 1 = .ok (.iconst 0, 1) := by decide +kernel
theorem d43_2 : decode (byt 43) 2 = .ok (.laload, 1) := by decide +kernel
theorem d43_3 : decode (byt 43) 3 = .ok (.lconst 0, 1) := by decide +kernel
theorem d43_4 : decode (byt 43) 4 = .ok (.lcmp, 1) := by decide +kernel
theorem d43_5 : decode (byt 43) 5 = .ok (.ifCond .ne 19, 3) := by decide +kernel
theorem d43_8 : decode (byt 43) 8 = .ok (.aload_n 0, 1) := by decide +kernel
theorem d43_9 : decode (byt 43) 9 = .ok (.iconst 1, 1) := by decide +kernel
theorem d43_10 : decode (byt 43) 10 = .ok (.laload, 1) := by decide +kernel
theorem d43_11 : decode (byt 43) 11 = .ok (.lconst 0, 1) := by decide +kernel
theorem d43_12 : decode (byt 43) 12 = .ok (.lcmp, 1) := by decide +kernel
theorem d43_13 : decode (byt 43) 13 = .ok (.ifCond .ne 11, 3) := by decide +kernel
theorem d43_16 : decode (byt 43) 16 = .ok (.aload_n 0, 1) := by decide +kernel
theorem d43_17 : decode (byt 43) 17 = .ok (.iconst 2, 1) := by decide +kernel
theorem d43_18 : decode (byt 43) 18 = .ok (.laload, 1) := by decide +kernel
theorem d43_19 : decode (byt 43) 19 = .ok (.lconst 0, 1) := by decide +kernel
theorem d43_20 : decode (byt 43) 20 = .ok (.lcmp, 1) := by decide +kernel
theorem d43_21 : decode (byt 43) 21 = .ok (.ifCond .eq 7, 3) := by decide +kernel
theorem d43_24 : decode (byt 43) 24 = .ok (.iconst 1, 1) := by decide +kernel
theorem d43_25 : decode (byt 43) 25 = .ok (.goto 4, 3) := by decide +kernel
theorem d43_28 : decode (byt 43) 28 = .ok (.iconst 0, 1) := by decide +kernel
theorem d43_29 : decode (byt 43) 29 = .ok (.ireturn, 1) := by decide +kernel
set_option maxRecDepth 20000 in
theorem S43_0 : (∀ (ls : Lo) (st : List Value) (h : Hp) (Q : Option Value → Hp → Prop)  (i : Nat), Wp 43 0 (some (.ref i) :: ls) (st) h Q ↔ Wp 43 1 (some (.ref i) :: ls) (.ref i :: st) h Q) ∧
  (∀ (ls : Lo) (st : List Value) (h : Hp) (Q : Option Value → Hp → Prop), Wp 43 1 (ls) (st) h Q ↔ Wp 43 2 (ls) (.int (0) :: st) h Q) ∧
  (∀ (ls : Lo) (st : List Value) (n sl : Nat) (C Z : Nat → Nat) (I : Nat → Nat → Int32) (L : Nat → Nat → Int64) (R : Nat → Nat → Nat) (Q : Option Value → Hp → Prop) (i : Nat) (y : Int32), Wp 43 2 (ls) (.int y :: .ref i :: st) (n, sl, C, Z, I, L, R) Q ↔ ((inb y (Z i) = true ∧ C i = 22) ∧ Wp 43 3 (ls) (.long (L i (ix y)) :: st) (n, sl, C, Z, I, L, R) Q)) ∧
  (∀ (ls : Lo) (st : List Value) (h : Hp) (Q : Option Value → Hp → Prop), Wp 43 3 (ls) (st) h Q ↔ Wp 43 4 (ls) (.long 0 :: st) h Q) ∧
  (∀ (ls : Lo) (st : List Value) (h : Hp) (Q : Option Value → Hp → Prop) (a b : Int64), Wp 43 4 (ls) (.long b :: .long a :: st) h Q ↔ Wp 43 5 (ls) (.int (lg_cmp a b) :: st) h Q) ∧
  (∀ (ls : Lo) (st : List Value) (h : Hp) (Q : Option Value → Hp → Prop) (x : Int32), Wp 43 5 (ls) (.int x :: st) h Q ↔ Br 43 24 8 ls st h Q (¬ x = 0)) ∧
  (∀ (ls : Lo) (st : List Value) (h : Hp) (Q : Option Value → Hp → Prop)  (i : Nat), Wp 43 8 (some (.ref i) :: ls) (st) h Q ↔ Wp 43 9 (some (.ref i) :: ls) (.ref i :: st) h Q) ∧
  (∀ (ls : Lo) (st : List Value) (h : Hp) (Q : Option Value → Hp → Prop), Wp 43 9 (ls) (st) h Q ↔ Wp 43 10 (ls) (.int (1) :: st) h Q) ∧
  (∀ (ls : Lo) (st : List Value) (n sl : Nat) (C Z : Nat → Nat) (I : Nat → Nat → Int32) (L : Nat → Nat → Int64) (R : Nat → Nat → Nat) (Q : Option Value → Hp → Prop) (i : Nat) (y : Int32), Wp 43 10 (ls) (.int y :: .ref i :: st) (n, sl, C, Z, I, L, R) Q ↔ ((inb y (Z i) = true ∧ C i = 22) ∧ Wp 43 11 (ls) (.long (L i (ix y)) :: st) (n, sl, C, Z, I, L, R) Q)) ∧
  (∀ (ls : Lo) (st : List Value) (h : Hp) (Q : Option Value → Hp → Prop), Wp 43 11 (ls) (st) h Q ↔ Wp 43 12 (ls) (.long 0 :: st) h Q) ∧
  (∀ (ls : Lo) (st : List Value) (h : Hp) (Q : Option Value → Hp → Prop) (a b : Int64), Wp 43 12 (ls) (.long b :: .long a :: st) h Q ↔ Wp 43 13 (ls) (.int (lg_cmp a b) :: st) h Q) ∧
  (∀ (ls : Lo) (st : List Value) (h : Hp) (Q : Option Value → Hp → Prop) (x : Int32), Wp 43 13 (ls) (.int x :: st) h Q ↔ Br 43 24 16 ls st h Q (¬ x = 0)) ∧
  (∀ (ls : Lo) (st : List Value) (h : Hp) (Q : Option Value → Hp → Prop)  (i : Nat), Wp 43 16 (some (.ref i) :: ls) (st) h Q ↔ Wp 43 17 (some (.ref i) :: ls) (.ref i :: st) h Q) ∧
  (∀ (ls : Lo) (st : List Value) (h : Hp) (Q : Option Value → Hp → Prop), Wp 43 17 (ls) (st) h Q ↔ Wp 43 18 (ls) (.int (2) :: st) h Q) ∧
  (∀ (ls : Lo) (st : List Value) (n sl : Nat) (C Z : Nat → Nat) (I : Nat → Nat → Int32) (L : Nat → Nat → Int64) (R : Nat → Nat → Nat) (Q : Option Value → Hp → Prop) (i : Nat) (y : Int32), Wp 43 18 (ls) (.int y :: .ref i :: st) (n, sl, C, Z, I, L, R) Q ↔ ((inb y (Z i) = true ∧ C i = 22) ∧ Wp 43 19 (ls) (.long (L i (ix y)) :: st) (n, sl, C, Z, I, L, R) Q)) ∧
  (∀ (ls : Lo) (st : List Value) (h : Hp) (Q : Option Value → Hp → Prop), Wp 43 19 (ls) (st) h Q ↔ Wp 43 20 (ls) (.long 0 :: st) h Q) ∧
  (∀ (ls : Lo) (st : List Value) (h : Hp) (Q : Option Value → Hp → Prop) (a b : Int64), Wp 43 20 (ls) (.long b :: .long a :: st) h Q ↔ Wp 43 21 (ls) (.int (lg_cmp a b) :: st) h Q) ∧
  (∀ (ls : Lo) (st : List Value) (h : Hp) (Q : Option Value → Hp → Prop) (x : Int32), Wp 43 21 (ls) (.int x :: st) h Q ↔ Br 43 28 24 ls st h Q (x = 0)) ∧
  (∀ (ls : Lo) (st : List Value) (h : Hp) (Q : Option Value → Hp → Prop), Wp 43 24 (ls) (st) h Q ↔ Wp 43 25 (ls) (.int (1) :: st) h Q) ∧
  (∀ (ls : Lo) (st : List Value) (h : Hp) (Q : Option Value → Hp → Prop), Wp 43 25 (ls) (st) h Q ↔ Wp 43 29 (ls) (st) h Q) ∧
  (∀ (ls : Lo) (st : List Value) (h : Hp) (Q : Option Value → Hp → Prop), Wp 43 28 (ls) (st) h Q ↔ Wp 43 29 (ls) (.int (0) :: st) h Q) ∧
  (∀ (ls : Lo) (h : Hp) (Q : Option Value → Hp → Prop) (x : Int32), Wp 43 29 (ls) ([.int x]) h Q ↔ ((x = 0 ∨ x = 1) ∧ Q (some (.int x)) h)) := ⟨by intro ls st h Q i; exact e_aload_n d43_0 rfl,
  by intro ls st h Q; exact e_iconst d43_1 rfl,
  by intro ls st n sl C Z I L R Q i y; exact e_lald d43_2,
  by intro ls st h Q; exact e_lconst d43_3 rfl,
  by intro ls st h Q a b; exact e_lcmp d43_4,
  by intro ls st h Q x; exact e_if d43_5 (by decide) c_ne,
  by intro ls st h Q i; exact e_aload_n d43_8 rfl,
  by intro ls st h Q; exact e_iconst d43_9 rfl,
  by intro ls st n sl C Z I L R Q i y; exact e_lald d43_10,
  by intro ls st h Q; exact e_lconst d43_11 rfl,
  by intro ls st h Q a b; exact e_lcmp d43_12,
  by intro ls st h Q x; exact e_if d43_13 (by decide) c_ne,
  by intro ls st h Q i; exact e_aload_n d43_16 rfl,
  by intro ls st h Q; exact e_iconst d43_17 rfl,
  by intro ls st n sl C Z I L R Q i y; exact e_lald d43_18,
  by intro ls st h Q; exact e_lconst d43_19 rfl,
  by intro ls st h Q a b; exact e_lcmp d43_20,
  by intro ls st h Q x; exact e_if d43_21 (by decide) c_eq,
  by intro ls st h Q; exact e_iconst d43_24 rfl,
  by intro ls st h Q; exact e_goto d43_25 (by decide),
  by intro ls st h Q; exact e_iconst d43_28 rfl,
  by intros; exact e_rZ d43_29 rfl⟩
theorem d44_0 : decode (byt 44) 0 = .ok (.iconst 0, 1) := by decide +kernel
theorem d44_1 : decode (byt 44) 1 = .ok (.istore_n 2, 1) := by decide +kernel
theorem d44_2 : decode (byt 44) 2 = .ok (.iconst 0, 1) := by decide +kernel
theorem d44_3 : decode (byt 44) 3 = .ok (.istore_n 3, 1) := by decide +kernel
theorem d44_4 : decode (byt 44) 4 = .ok (.iload_n 3, 1) := by decide +kernel
theorem d44_5 : decode (byt 44) 5 = .ok (.iload_n 1, 1) := by decide +kernel
theorem d44_6 : decode (byt 44) 6 = .ok (.if_icmp .ge 95, 3) := by decide +kernel
theorem d44_9 : decode (byt 44) 9 = .ok (.aload_n 0, 1) := by decide +kernel
theorem d44_10 : decode (byt 44) 10 = .ok (.iload_n 3, 1) := by decide +kernel
theorem d44_11 : decode (byt 44) 11 = .ok (.aaload, 1) := by decide +kernel
theorem d44_12 : decode (byt 44) 12 = .ok (.invokestatic 7, 3) := by decide +kernel
theorem d44_15 : decode (byt 44) 15 = .ok (.ifCond .eq 9, 3) := by decide +kernel
theorem d44_18 : decode (byt 44) 18 = .ok (.iload_n 2, 1) := by decide +kernel
theorem d44_19 : decode (byt 44) 19 = .ok (.iconst 1, 1) := by decide +kernel
theorem d44_20 : decode (byt 44) 20 = .ok (.invokestatic 13, 3) := by decide +kernel
theorem d44_23 : decode (byt 44) 23 = .ok (.istore_n 2, 1) := by decide +kernel
theorem d44_24 : decode (byt 44) 24 = .ok (.iconst 0, 1) := by decide +kernel
theorem d44_25 : decode (byt 44) 25 = .ok (.istore 4, 2) := by decide +kernel
theorem d44_27 : decode (byt 44) 27 = .ok (.iload 4, 2) := by decide +kernel
theorem d44_29 : decode (byt 44) 29 = .ok (.iload_n 3, 1) := by decide +kernel
theorem d44_30 : decode (byt 44) 30 = .ok (.if_icmp .ge 65, 3) := by decide +kernel
theorem d44_33 : decode (byt 44) 33 = .ok (.aload_n 0, 1) := by decide +kernel
theorem d44_34 : decode (byt 44) 34 = .ok (.iload_n 3, 1) := by decide +kernel
theorem d44_35 : decode (byt 44) 35 = .ok (.aaload, 1) := by decide +kernel
theorem d44_36 : decode (byt 44) 36 = .ok (.aload_n 0, 1) := by decide +kernel
theorem d44_37 : decode (byt 44) 37 = .ok (.iload 4, 2) := by decide +kernel
theorem d44_39 : decode (byt 44) 39 = .ok (.aaload, 1) := by decide +kernel
theorem d44_40 : decode (byt 44) 40 = .ok (.invokestatic 19, 3) := by decide +kernel
theorem d44_43 : decode (byt 44) 43 = .ok (.ifCond .eq 9, 3) := by decide +kernel
theorem d44_46 : decode (byt 44) 46 = .ok (.iload_n 2, 1) := by decide +kernel
theorem d44_47 : decode (byt 44) 47 = .ok (.iconst 2, 1) := by decide +kernel
theorem d44_48 : decode (byt 44) 48 = .ok (.invokestatic 13, 3) := by decide +kernel
theorem d44_51 : decode (byt 44) 51 = .ok (.istore_n 2, 1) := by decide +kernel
theorem d44_52 : decode (byt 44) 52 = .ok (.iconst 0, 1) := by decide +kernel
theorem d44_53 : decode (byt 44) 53 = .ok (.istore 5, 2) := by decide +kernel
theorem d44_55 : decode (byt 44) 55 = .ok (.iload 5, 2) := by decide +kernel
theorem d44_57 : decode (byt 44) 57 = .ok (.iload 4, 2) := by decide +kernel
theorem d44_59 : decode (byt 44) 59 = .ok (.if_icmp .ge 30, 3) := by decide +kernel
theorem d44_62 : decode (byt 44) 62 = .ok (.aload_n 0, 1) := by decide +kernel
theorem d44_63 : decode (byt 44) 63 = .ok (.iload_n 3, 1) := by decide +kernel
theorem d44_64 : decode (byt 44) 64 = .ok (.aaload, 1) := by decide +kernel
theorem d44_65 : decode (byt 44) 65 = .ok (.aload_n 0, 1) := by decide +kernel
theorem d44_66 : decode (byt 44) 66 = .ok (.iload 4, 2) := by decide +kernel
theorem d44_68 : decode (byt 44) 68 = .ok (.aaload, 1) := by decide +kernel
theorem d44_69 : decode (byt 44) 69 = .ok (.aload_n 0, 1) := by decide +kernel
theorem d44_70 : decode (byt 44) 70 = .ok (.iload 5, 2) := by decide +kernel
theorem d44_72 : decode (byt 44) 72 = .ok (.aaload, 1) := by decide +kernel
theorem d44_73 : decode (byt 44) 73 = .ok (.invokestatic 23, 3) := by decide +kernel
theorem d44_76 : decode (byt 44) 76 = .ok (.lconst 0, 1) := by decide +kernel
theorem d44_77 : decode (byt 44) 77 = .ok (.lcmp, 1) := by decide +kernel
theorem d44_78 : decode (byt 44) 78 = .ok (.ifCond .eq 5, 3) := by decide +kernel
theorem d44_81 : decode (byt 44) 81 = .ok (.iconst 3, 1) := by decide +kernel
theorem d44_82 : decode (byt 44) 82 = .ok (.ireturn, 1) := by decide +kernel
theorem d44_83 : decode (byt 44) 83 = .ok (.iinc 5 1, 3) := by decide +kernel
theorem d44_86 : decode (byt 44) 86 = .ok (.goto (-31), 3) := by decide +kernel
theorem d44_89 : decode (byt 44) 89 = .ok (.iinc 4 1, 3) := by decide +kernel
theorem d44_92 : decode (byt 44) 92 = .ok (.goto (-65), 3) := by decide +kernel
theorem d44_95 : decode (byt 44) 95 = .ok (.iinc 3 1, 3) := by decide +kernel
theorem d44_98 : decode (byt 44) 98 = .ok (.goto (-94), 3) := by decide +kernel
theorem d44_101 : decode (byt 44) 101 = .ok (.iload_n 2, 1) := by decide +kernel
theorem d44_102 : decode (byt 44) 102 = .ok (.ireturn, 1) := by decide +kernel
set_option maxRecDepth 20000 in
theorem S44_0 : (∀ (ls : Lo) (st : List Value) (h : Hp) (Q : Option Value → Hp → Prop), Wp 44 0 (ls) (st) h Q ↔ Wp 44 1 (ls) (.int (0) :: st) h Q) ∧
  (∀ (ls : Lo) (st : List Value) (h : Hp) (Q : Option Value → Hp → Prop) (l0 l1 l2 : Option Value) (x : Int32), Wp 44 1 (l0 :: l1 :: l2 :: ls) (.int x :: st) h Q ↔ Wp 44 2 (l0 :: clr l1 :: some (.int x) :: ls) (st) h Q) ∧
  (∀ (ls : Lo) (st : List Value) (h : Hp) (Q : Option Value → Hp → Prop), Wp 44 2 (ls) (st) h Q ↔ Wp 44 3 (ls) (.int (0) :: st) h Q) ∧
  (∀ (ls : Lo) (st : List Value) (h : Hp) (Q : Option Value → Hp → Prop) (l0 l1 l2 l3 : Option Value) (x : Int32), Wp 44 3 (l0 :: l1 :: l2 :: l3 :: ls) (.int x :: st) h Q ↔ Wp 44 4 (l0 :: l1 :: clr l2 :: some (.int x) :: ls) (st) h Q) ∧
  (∀ (ls : Lo) (st : List Value) (h : Hp) (Q : Option Value → Hp → Prop) (l0 l1 l2 : Option Value) (x : Int32), Wp 44 4 (l0 :: l1 :: l2 :: some (.int x) :: ls) (st) h Q ↔ Wp 44 5 (l0 :: l1 :: l2 :: some (.int x) :: ls) (.int x :: st) h Q) ∧
  (∀ (ls : Lo) (st : List Value) (h : Hp) (Q : Option Value → Hp → Prop) (l0 : Option Value) (x : Int32), Wp 44 5 (l0 :: some (.int x) :: ls) (st) h Q ↔ Wp 44 6 (l0 :: some (.int x) :: ls) (.int x :: st) h Q) ∧
  (∀ (ls : Lo) (st : List Value) (h : Hp) (Q : Option Value → Hp → Prop) (x y : Int32), Wp 44 6 (ls) (.int y :: .int x :: st) h Q ↔ Br 44 101 9 ls st h Q (y ≤ x)) ∧
  (∀ (ls : Lo) (st : List Value) (h : Hp) (Q : Option Value → Hp → Prop)  (i : Nat), Wp 44 9 (some (.ref i) :: ls) (st) h Q ↔ Wp 44 10 (some (.ref i) :: ls) (.ref i :: st) h Q) ∧
  (∀ (ls : Lo) (st : List Value) (h : Hp) (Q : Option Value → Hp → Prop) (l0 l1 l2 : Option Value) (x : Int32), Wp 44 10 (l0 :: l1 :: l2 :: some (.int x) :: ls) (st) h Q ↔ Wp 44 11 (l0 :: l1 :: l2 :: some (.int x) :: ls) (.int x :: st) h Q) ∧
  (∀ (ls : Lo) (st : List Value) (n sl : Nat) (C Z : Nat → Nat) (I : Nat → Nat → Int32) (L : Nat → Nat → Int64) (R : Nat → Nat → Nat) (Q : Option Value → Hp → Prop) (i : Nat) (y : Int32), Wp 44 11 (ls) (.int y :: .ref i :: st) (n, sl, C, Z, I, L, R) Q ↔ ((inb y (Z i) = true ∧ (C i = 23 ∨ C i = 24 ∨ C i = 25)) ∧ Wp 44 12 (ls) (.ref (R i (ix y)) :: st) (n, sl, C, Z, I, L, R) Q)) ∧
  (∀ (ls : Lo) (st : List Value) (h : Hp) (Q : Option Value → Hp → Prop) (x0 : Nat), Wp 44 12 (ls) (.ref x0 :: st) h Q ↔ (wsum st ≤ 8 ∧ Call 43 [some (.ref x0)] h 44 15 ls st Q)) ∧
  (∀ (ls : Lo) (st : List Value) (h : Hp) (Q : Option Value → Hp → Prop) (x : Int32), Wp 44 15 (ls) (.int x :: st) h Q ↔ Br 44 24 18 ls st h Q (x = 0)) ∧
  (∀ (ls : Lo) (st : List Value) (h : Hp) (Q : Option Value → Hp → Prop) (l0 l1 : Option Value) (x : Int32), Wp 44 18 (l0 :: l1 :: some (.int x) :: ls) (st) h Q ↔ Wp 44 19 (l0 :: l1 :: some (.int x) :: ls) (.int x :: st) h Q) ∧
  (∀ (ls : Lo) (st : List Value) (h : Hp) (Q : Option Value → Hp → Prop), Wp 44 19 (ls) (st) h Q ↔ Wp 44 20 (ls) (.int (1) :: st) h Q) ∧
  (∀ (ls : Lo) (st : List Value) (h : Hp) (Q : Option Value → Hp → Prop) (x y : Int32), Wp 44 20 (ls) (.int y :: .int x :: st) h Q ↔ (wsum st ≤ 8 ∧ Wp 44 23 (ls) (.int (if x < y then y else x) :: st) h Q)) ∧
  (∀ (ls : Lo) (st : List Value) (h : Hp) (Q : Option Value → Hp → Prop) (l0 l1 l2 : Option Value) (x : Int32), Wp 44 23 (l0 :: l1 :: l2 :: ls) (.int x :: st) h Q ↔ Wp 44 24 (l0 :: clr l1 :: some (.int x) :: ls) (st) h Q) ∧
  (∀ (ls : Lo) (st : List Value) (h : Hp) (Q : Option Value → Hp → Prop), Wp 44 24 (ls) (st) h Q ↔ Wp 44 25 (ls) (.int (0) :: st) h Q) ∧
  (∀ (ls : Lo) (st : List Value) (h : Hp) (Q : Option Value → Hp → Prop) (l0 l1 l2 l3 l4 : Option Value) (x : Int32), Wp 44 25 (l0 :: l1 :: l2 :: l3 :: l4 :: ls) (.int x :: st) h Q ↔ Wp 44 27 (l0 :: l1 :: l2 :: clr l3 :: some (.int x) :: ls) (st) h Q) ∧
  (∀ (ls : Lo) (st : List Value) (h : Hp) (Q : Option Value → Hp → Prop) (l0 l1 l2 l3 : Option Value) (x : Int32), Wp 44 27 (l0 :: l1 :: l2 :: l3 :: some (.int x) :: ls) (st) h Q ↔ Wp 44 29 (l0 :: l1 :: l2 :: l3 :: some (.int x) :: ls) (.int x :: st) h Q) ∧
  (∀ (ls : Lo) (st : List Value) (h : Hp) (Q : Option Value → Hp → Prop) (l0 l1 l2 : Option Value) (x : Int32), Wp 44 29 (l0 :: l1 :: l2 :: some (.int x) :: ls) (st) h Q ↔ Wp 44 30 (l0 :: l1 :: l2 :: some (.int x) :: ls) (.int x :: st) h Q) ∧
  (∀ (ls : Lo) (st : List Value) (h : Hp) (Q : Option Value → Hp → Prop) (x y : Int32), Wp 44 30 (ls) (.int y :: .int x :: st) h Q ↔ Br 44 95 33 ls st h Q (y ≤ x)) ∧
  (∀ (ls : Lo) (st : List Value) (h : Hp) (Q : Option Value → Hp → Prop)  (i : Nat), Wp 44 33 (some (.ref i) :: ls) (st) h Q ↔ Wp 44 34 (some (.ref i) :: ls) (.ref i :: st) h Q) ∧
  (∀ (ls : Lo) (st : List Value) (h : Hp) (Q : Option Value → Hp → Prop) (l0 l1 l2 : Option Value) (x : Int32), Wp 44 34 (l0 :: l1 :: l2 :: some (.int x) :: ls) (st) h Q ↔ Wp 44 35 (l0 :: l1 :: l2 :: some (.int x) :: ls) (.int x :: st) h Q) ∧
  (∀ (ls : Lo) (st : List Value) (n sl : Nat) (C Z : Nat → Nat) (I : Nat → Nat → Int32) (L : Nat → Nat → Int64) (R : Nat → Nat → Nat) (Q : Option Value → Hp → Prop) (i : Nat) (y : Int32), Wp 44 35 (ls) (.int y :: .ref i :: st) (n, sl, C, Z, I, L, R) Q ↔ ((inb y (Z i) = true ∧ (C i = 23 ∨ C i = 24 ∨ C i = 25)) ∧ Wp 44 36 (ls) (.ref (R i (ix y)) :: st) (n, sl, C, Z, I, L, R) Q)) ∧
  (∀ (ls : Lo) (st : List Value) (h : Hp) (Q : Option Value → Hp → Prop)  (i : Nat), Wp 44 36 (some (.ref i) :: ls) (st) h Q ↔ Wp 44 37 (some (.ref i) :: ls) (.ref i :: st) h Q) := ⟨by intro ls st h Q; exact e_iconst d44_0 rfl,
  by intro ls st h Q l0 l1 l2 x; exact e_istore_n d44_1 rfl,
  by intro ls st h Q; exact e_iconst d44_2 rfl,
  by intro ls st h Q l0 l1 l2 l3 x; exact e_istore_n d44_3 rfl,
  by intro ls st h Q l0 l1 l2 x; exact e_iload_n d44_4 rfl,
  by intro ls st h Q l0 x; exact e_iload_n d44_5 rfl,
  by intro ls st h Q x y; exact e_ic d44_6 (by decide) c_ge,
  by intro ls st h Q i; exact e_aload_n d44_9 rfl,
  by intro ls st h Q l0 l1 l2 x; exact e_iload_n d44_10 rfl,
  by intro ls st n sl C Z I L R Q i y; exact e_aald d44_11,
  by intro ls st h Q x0; exact e_is (k2 := 43) (as := [.ref x0]) d44_12 rfl (by decide) rfl rfl (by decide +kernel) (Nat.le_of_ble_eq_true rfl) rfl,
  by intro ls st h Q x; exact e_if d44_15 (by decide) c_eq,
  by intro ls st h Q l0 l1 x; exact e_iload_n d44_18 rfl,
  by intro ls st h Q; exact e_iconst d44_19 rfl,
  by intro ls st h Q x y; exact e_max d44_20 rfl (by decide +kernel),
  by intro ls st h Q l0 l1 l2 x; exact e_istore_n d44_23 rfl,
  by intro ls st h Q; exact e_iconst d44_24 rfl,
  by intro ls st h Q l0 l1 l2 l3 l4 x; exact e_istore d44_25 rfl,
  by intro ls st h Q l0 l1 l2 l3 x; exact e_iload d44_27 rfl,
  by intro ls st h Q l0 l1 l2 x; exact e_iload_n d44_29 rfl,
  by intro ls st h Q x y; exact e_ic d44_30 (by decide) c_ge,
  by intro ls st h Q i; exact e_aload_n d44_33 rfl,
  by intro ls st h Q l0 l1 l2 x; exact e_iload_n d44_34 rfl,
  by intro ls st n sl C Z I L R Q i y; exact e_aald d44_35,
  by intro ls st h Q i; exact e_aload_n d44_36 rfl⟩
set_option maxRecDepth 20000 in
theorem S44_1 : (∀ (ls : Lo) (st : List Value) (h : Hp) (Q : Option Value → Hp → Prop) (l0 l1 l2 l3 : Option Value) (x : Int32), Wp 44 37 (l0 :: l1 :: l2 :: l3 :: some (.int x) :: ls) (st) h Q ↔ Wp 44 39 (l0 :: l1 :: l2 :: l3 :: some (.int x) :: ls) (.int x :: st) h Q) ∧
  (∀ (ls : Lo) (st : List Value) (n sl : Nat) (C Z : Nat → Nat) (I : Nat → Nat → Int32) (L : Nat → Nat → Int64) (R : Nat → Nat → Nat) (Q : Option Value → Hp → Prop) (i : Nat) (y : Int32), Wp 44 39 (ls) (.int y :: .ref i :: st) (n, sl, C, Z, I, L, R) Q ↔ ((inb y (Z i) = true ∧ (C i = 23 ∨ C i = 24 ∨ C i = 25)) ∧ Wp 44 40 (ls) (.ref (R i (ix y)) :: st) (n, sl, C, Z, I, L, R) Q)) ∧
  (∀ (ls : Lo) (st : List Value) (h : Hp) (Q : Option Value → Hp → Prop) (x0 : Nat) (x1 : Nat), Wp 44 40 (ls) (.ref x1 :: .ref x0 :: st) h Q ↔ (wsum st ≤ 8 ∧ Call 42 [some (.ref x0), some (.ref x1)] h 44 43 ls st Q)) ∧
  (∀ (ls : Lo) (st : List Value) (h : Hp) (Q : Option Value → Hp → Prop) (x : Int32), Wp 44 43 (ls) (.int x :: st) h Q ↔ Br 44 52 46 ls st h Q (x = 0)) ∧
  (∀ (ls : Lo) (st : List Value) (h : Hp) (Q : Option Value → Hp → Prop) (l0 l1 : Option Value) (x : Int32), Wp 44 46 (l0 :: l1 :: some (.int x) :: ls) (st) h Q ↔ Wp 44 47 (l0 :: l1 :: some (.int x) :: ls) (.int x :: st) h Q) ∧
  (∀ (ls : Lo) (st : List Value) (h : Hp) (Q : Option Value → Hp → Prop), Wp 44 47 (ls) (st) h Q ↔ Wp 44 48 (ls) (.int (2) :: st) h Q) ∧
  (∀ (ls : Lo) (st : List Value) (h : Hp) (Q : Option Value → Hp → Prop) (x y : Int32), Wp 44 48 (ls) (.int y :: .int x :: st) h Q ↔ (wsum st ≤ 8 ∧ Wp 44 51 (ls) (.int (if x < y then y else x) :: st) h Q)) ∧
  (∀ (ls : Lo) (st : List Value) (h : Hp) (Q : Option Value → Hp → Prop) (l0 l1 l2 : Option Value) (x : Int32), Wp 44 51 (l0 :: l1 :: l2 :: ls) (.int x :: st) h Q ↔ Wp 44 52 (l0 :: clr l1 :: some (.int x) :: ls) (st) h Q) ∧
  (∀ (ls : Lo) (st : List Value) (h : Hp) (Q : Option Value → Hp → Prop), Wp 44 52 (ls) (st) h Q ↔ Wp 44 53 (ls) (.int (0) :: st) h Q) ∧
  (∀ (ls : Lo) (st : List Value) (h : Hp) (Q : Option Value → Hp → Prop) (l0 l1 l2 l3 l4 l5 : Option Value) (x : Int32), Wp 44 53 (l0 :: l1 :: l2 :: l3 :: l4 :: l5 :: ls) (.int x :: st) h Q ↔ Wp 44 55 (l0 :: l1 :: l2 :: l3 :: clr l4 :: some (.int x) :: ls) (st) h Q) ∧
  (∀ (ls : Lo) (st : List Value) (h : Hp) (Q : Option Value → Hp → Prop) (l0 l1 l2 l3 l4 : Option Value) (x : Int32), Wp 44 55 (l0 :: l1 :: l2 :: l3 :: l4 :: some (.int x) :: ls) (st) h Q ↔ Wp 44 57 (l0 :: l1 :: l2 :: l3 :: l4 :: some (.int x) :: ls) (.int x :: st) h Q) ∧
  (∀ (ls : Lo) (st : List Value) (h : Hp) (Q : Option Value → Hp → Prop) (l0 l1 l2 l3 : Option Value) (x : Int32), Wp 44 57 (l0 :: l1 :: l2 :: l3 :: some (.int x) :: ls) (st) h Q ↔ Wp 44 59 (l0 :: l1 :: l2 :: l3 :: some (.int x) :: ls) (.int x :: st) h Q) ∧
  (∀ (ls : Lo) (st : List Value) (h : Hp) (Q : Option Value → Hp → Prop) (x y : Int32), Wp 44 59 (ls) (.int y :: .int x :: st) h Q ↔ Br 44 89 62 ls st h Q (y ≤ x)) ∧
  (∀ (ls : Lo) (st : List Value) (h : Hp) (Q : Option Value → Hp → Prop)  (i : Nat), Wp 44 62 (some (.ref i) :: ls) (st) h Q ↔ Wp 44 63 (some (.ref i) :: ls) (.ref i :: st) h Q) ∧
  (∀ (ls : Lo) (st : List Value) (h : Hp) (Q : Option Value → Hp → Prop) (l0 l1 l2 : Option Value) (x : Int32), Wp 44 63 (l0 :: l1 :: l2 :: some (.int x) :: ls) (st) h Q ↔ Wp 44 64 (l0 :: l1 :: l2 :: some (.int x) :: ls) (.int x :: st) h Q) ∧
  (∀ (ls : Lo) (st : List Value) (n sl : Nat) (C Z : Nat → Nat) (I : Nat → Nat → Int32) (L : Nat → Nat → Int64) (R : Nat → Nat → Nat) (Q : Option Value → Hp → Prop) (i : Nat) (y : Int32), Wp 44 64 (ls) (.int y :: .ref i :: st) (n, sl, C, Z, I, L, R) Q ↔ ((inb y (Z i) = true ∧ (C i = 23 ∨ C i = 24 ∨ C i = 25)) ∧ Wp 44 65 (ls) (.ref (R i (ix y)) :: st) (n, sl, C, Z, I, L, R) Q)) ∧
  (∀ (ls : Lo) (st : List Value) (h : Hp) (Q : Option Value → Hp → Prop)  (i : Nat), Wp 44 65 (some (.ref i) :: ls) (st) h Q ↔ Wp 44 66 (some (.ref i) :: ls) (.ref i :: st) h Q) ∧
  (∀ (ls : Lo) (st : List Value) (h : Hp) (Q : Option Value → Hp → Prop) (l0 l1 l2 l3 : Option Value) (x : Int32), Wp 44 66 (l0 :: l1 :: l2 :: l3 :: some (.int x) :: ls) (st) h Q ↔ Wp 44 68 (l0 :: l1 :: l2 :: l3 :: some (.int x) :: ls) (.int x :: st) h Q) ∧
  (∀ (ls : Lo) (st : List Value) (n sl : Nat) (C Z : Nat → Nat) (I : Nat → Nat → Int32) (L : Nat → Nat → Int64) (R : Nat → Nat → Nat) (Q : Option Value → Hp → Prop) (i : Nat) (y : Int32), Wp 44 68 (ls) (.int y :: .ref i :: st) (n, sl, C, Z, I, L, R) Q ↔ ((inb y (Z i) = true ∧ (C i = 23 ∨ C i = 24 ∨ C i = 25)) ∧ Wp 44 69 (ls) (.ref (R i (ix y)) :: st) (n, sl, C, Z, I, L, R) Q)) ∧
  (∀ (ls : Lo) (st : List Value) (h : Hp) (Q : Option Value → Hp → Prop)  (i : Nat), Wp 44 69 (some (.ref i) :: ls) (st) h Q ↔ Wp 44 70 (some (.ref i) :: ls) (.ref i :: st) h Q) ∧
  (∀ (ls : Lo) (st : List Value) (h : Hp) (Q : Option Value → Hp → Prop) (l0 l1 l2 l3 l4 : Option Value) (x : Int32), Wp 44 70 (l0 :: l1 :: l2 :: l3 :: l4 :: some (.int x) :: ls) (st) h Q ↔ Wp 44 72 (l0 :: l1 :: l2 :: l3 :: l4 :: some (.int x) :: ls) (.int x :: st) h Q) ∧
  (∀ (ls : Lo) (st : List Value) (n sl : Nat) (C Z : Nat → Nat) (I : Nat → Nat → Int32) (L : Nat → Nat → Int64) (R : Nat → Nat → Nat) (Q : Option Value → Hp → Prop) (i : Nat) (y : Int32), Wp 44 72 (ls) (.int y :: .ref i :: st) (n, sl, C, Z, I, L, R) Q ↔ ((inb y (Z i) = true ∧ (C i = 23 ∨ C i = 24 ∨ C i = 25)) ∧ Wp 44 73 (ls) (.ref (R i (ix y)) :: st) (n, sl, C, Z, I, L, R) Q)) ∧
  (∀ (ls : Lo) (st : List Value) (h : Hp) (Q : Option Value → Hp → Prop) (x0 : Nat) (x1 : Nat) (x2 : Nat), Wp 44 73 (ls) (.ref x2 :: .ref x1 :: .ref x0 :: st) h Q ↔ (wsum st ≤ 8 ∧ Call 41 [some (.ref x0), some (.ref x1), some (.ref x2)] h 44 76 ls st Q)) ∧
  (∀ (ls : Lo) (st : List Value) (h : Hp) (Q : Option Value → Hp → Prop), Wp 44 76 (ls) (st) h Q ↔ Wp 44 77 (ls) (.long 0 :: st) h Q) ∧
  (∀ (ls : Lo) (st : List Value) (h : Hp) (Q : Option Value → Hp → Prop) (a b : Int64), Wp 44 77 (ls) (.long b :: .long a :: st) h Q ↔ Wp 44 78 (ls) (.int (lg_cmp a b) :: st) h Q) := ⟨by intro ls st h Q l0 l1 l2 l3 x; exact e_iload d44_37 rfl,
  by intro ls st n sl C Z I L R Q i y; exact e_aald d44_39,
  by intro ls st h Q x0 x1; exact e_is (k2 := 42) (as := [.ref x0, .ref x1]) d44_40 rfl (by decide) rfl rfl (by decide +kernel) (Nat.le_of_ble_eq_true rfl) rfl,
  by intro ls st h Q x; exact e_if d44_43 (by decide) c_eq,
  by intro ls st h Q l0 l1 x; exact e_iload_n d44_46 rfl,
  by intro ls st h Q; exact e_iconst d44_47 rfl,
  by intro ls st h Q x y; exact e_max d44_48 rfl (by decide +kernel),
  by intro ls st h Q l0 l1 l2 x; exact e_istore_n d44_51 rfl,
  by intro ls st h Q; exact e_iconst d44_52 rfl,
  by intro ls st h Q l0 l1 l2 l3 l4 l5 x; exact e_istore d44_53 rfl,
  by intro ls st h Q l0 l1 l2 l3 l4 x; exact e_iload d44_55 rfl,
  by intro ls st h Q l0 l1 l2 l3 x; exact e_iload d44_57 rfl,
  by intro ls st h Q x y; exact e_ic d44_59 (by decide) c_ge,
  by intro ls st h Q i; exact e_aload_n d44_62 rfl,
  by intro ls st h Q l0 l1 l2 x; exact e_iload_n d44_63 rfl,
  by intro ls st n sl C Z I L R Q i y; exact e_aald d44_64,
  by intro ls st h Q i; exact e_aload_n d44_65 rfl,
  by intro ls st h Q l0 l1 l2 l3 x; exact e_iload d44_66 rfl,
  by intro ls st n sl C Z I L R Q i y; exact e_aald d44_68,
  by intro ls st h Q i; exact e_aload_n d44_69 rfl,
  by intro ls st h Q l0 l1 l2 l3 l4 x; exact e_iload d44_70 rfl,
  by intro ls st n sl C Z I L R Q i y; exact e_aald d44_72,
  by intro ls st h Q x0 x1 x2; exact e_is (k2 := 41) (as := [.ref x0, .ref x1, .ref x2]) d44_73 rfl (by decide) rfl rfl (by decide +kernel) (Nat.le_of_ble_eq_true rfl) rfl,
  by intro ls st h Q; exact e_lconst d44_76 rfl,
  by intro ls st h Q a b; exact e_lcmp d44_77⟩
set_option maxRecDepth 20000 in
theorem S44_2 : (∀ (ls : Lo) (st : List Value) (h : Hp) (Q : Option Value → Hp → Prop) (x : Int32), Wp 44 78 (ls) (.int x :: st) h Q ↔ Br 44 83 81 ls st h Q (x = 0)) ∧
  (∀ (ls : Lo) (st : List Value) (h : Hp) (Q : Option Value → Hp → Prop), Wp 44 81 (ls) (st) h Q ↔ Wp 44 82 (ls) (.int (3) :: st) h Q) ∧
  (∀ (ls : Lo) (h : Hp) (Q : Option Value → Hp → Prop) (x : Int32), Wp 44 82 (ls) ([.int x]) h Q ↔ Q (some (.int x)) h) ∧
  (∀ (ls : Lo) (st : List Value) (h : Hp) (Q : Option Value → Hp → Prop) (l0 l1 l2 l3 l4 : Option Value) (x : Int32), Wp 44 83 (l0 :: l1 :: l2 :: l3 :: l4 :: some (.int x) :: ls) (st) h Q ↔ Wp 44 86 (l0 :: l1 :: l2 :: l3 :: clr l4 :: some (.int (x + (1))) :: ls) (st) h Q) ∧
  (∀ (ls : Lo) (st : List Value) (h : Hp) (Q : Option Value → Hp → Prop), Wp 44 86 (ls) (st) h Q ↔ Wp 44 55 (ls) (st) h Q) ∧
  (∀ (ls : Lo) (st : List Value) (h : Hp) (Q : Option Value → Hp → Prop) (l0 l1 l2 l3 : Option Value) (x : Int32), Wp 44 89 (l0 :: l1 :: l2 :: l3 :: some (.int x) :: ls) (st) h Q ↔ Wp 44 92 (l0 :: l1 :: l2 :: clr l3 :: some (.int (x + (1))) :: ls) (st) h Q) ∧
  (∀ (ls : Lo) (st : List Value) (h : Hp) (Q : Option Value → Hp → Prop), Wp 44 92 (ls) (st) h Q ↔ Wp 44 27 (ls) (st) h Q) ∧
  (∀ (ls : Lo) (st : List Value) (h : Hp) (Q : Option Value → Hp → Prop) (l0 l1 l2 : Option Value) (x : Int32), Wp 44 95 (l0 :: l1 :: l2 :: some (.int x) :: ls) (st) h Q ↔ Wp 44 98 (l0 :: l1 :: clr l2 :: some (.int (x + (1))) :: ls) (st) h Q) ∧
  (∀ (ls : Lo) (st : List Value) (h : Hp) (Q : Option Value → Hp → Prop), Wp 44 98 (ls) (st) h Q ↔ Wp 44 4 (ls) (st) h Q) ∧
  (∀ (ls : Lo) (st : List Value) (h : Hp) (Q : Option Value → Hp → Prop) (l0 l1 : Option Value) (x : Int32), Wp 44 101 (l0 :: l1 :: some (.int x) :: ls) (st) h Q ↔ Wp 44 102 (l0 :: l1 :: some (.int x) :: ls) (.int x :: st) h Q) ∧
  (∀ (ls : Lo) (h : Hp) (Q : Option Value → Hp → Prop) (x : Int32), Wp 44 102 (ls) ([.int x]) h Q ↔ Q (some (.int x)) h) := ⟨by intro ls st h Q x; exact e_if d44_78 (by decide) c_eq,
  by intro ls st h Q; exact e_iconst d44_81 rfl,
  by intros; exact e_rI (p := True) d44_82 rfl,
  by intro ls st h Q l0 l1 l2 l3 l4 x; exact e_iinc d44_83 rfl rfl rfl,
  by intro ls st h Q; exact e_goto d44_86 (by decide),
  by intro ls st h Q l0 l1 l2 l3 x; exact e_iinc d44_89 rfl rfl rfl,
  by intro ls st h Q; exact e_goto d44_92 (by decide),
  by intro ls st h Q l0 l1 l2 x; exact e_iinc d44_95 rfl rfl rfl,
  by intro ls st h Q; exact e_goto d44_98 (by decide),
  by intro ls st h Q l0 l1 x; exact e_iload_n d44_101 rfl,
  by intros; exact e_rI (p := True) d44_102 rfl⟩
theorem d45_0 : decode (byt 45) 0 = .ok (.aload_n 0, 1) := by decide +kernel
theorem d45_1 : decode (byt 45) 1 = .ok (.iload_n 1, 1) := by decide +kernel
theorem d45_2 : decode (byt 45) 2 = .ok (.iload_n 2, 1) := by decide +kernel
theorem d45_3 : decode (byt 45) 3 = .ok (.iload_n 3, 1) := by decide +kernel
theorem d45_4 : decode (byt 45) 4 = .ok (.invokespecial 3, 3) := by decide +kernel
theorem d45_7 : decode (byt 45) 7 = .ok (.return_, 1) := by decide +kernel
set_option maxRecDepth 20000 in
theorem S45_0 : (∀ (ls : Lo) (st : List Value) (h : Hp) (Q : Option Value → Hp → Prop)  (i : Nat), Wp 45 0 (some (.ref i) :: ls) (st) h Q ↔ Wp 45 1 (some (.ref i) :: ls) (.ref i :: st) h Q) ∧
  (∀ (ls : Lo) (st : List Value) (h : Hp) (Q : Option Value → Hp → Prop) (l0 : Option Value) (x : Int32), Wp 45 1 (l0 :: some (.int x) :: ls) (st) h Q ↔ Wp 45 2 (l0 :: some (.int x) :: ls) (.int x :: st) h Q) ∧
  (∀ (ls : Lo) (st : List Value) (h : Hp) (Q : Option Value → Hp → Prop) (l0 l1 : Option Value) (x : Int32), Wp 45 2 (l0 :: l1 :: some (.int x) :: ls) (st) h Q ↔ Wp 45 3 (l0 :: l1 :: some (.int x) :: ls) (.int x :: st) h Q) ∧
  (∀ (ls : Lo) (st : List Value) (h : Hp) (Q : Option Value → Hp → Prop) (l0 l1 l2 : Option Value) (x : Int32), Wp 45 3 (l0 :: l1 :: l2 :: some (.int x) :: ls) (st) h Q ↔ Wp 45 4 (l0 :: l1 :: l2 :: some (.int x) :: ls) (.int x :: st) h Q) ∧
  (∀ (ls : Lo) (st : List Value) (h : Hp) (Q : Option Value → Hp → Prop) (x0 : Int32) (x1 : Int32) (x2 : Int32) (i : Nat), i ≠ 0 → (Wp 45 4 (ls) (.int x2 :: .int x1 :: .int x0 :: .ref i :: st) h Q ↔ (wsum st ≤ 8 ∧ Call 37 [some (.ref i), some (.int x0), some (.int x1), some (.int x2)] h 45 7 ls st Q))) ∧
  (∀ (ls : Lo) (h : Hp) (Q : Option Value → Hp → Prop), Wp 45 7 (ls) ([]) h Q ↔ Q none h) := ⟨by intro ls st h Q i; exact e_aload_n d45_0 rfl,
  by intro ls st h Q l0 x; exact e_iload_n d45_1 rfl,
  by intro ls st h Q l0 l1 x; exact e_iload_n d45_2 rfl,
  by intro ls st h Q l0 l1 l2 x; exact e_iload_n d45_3 rfl,
  by intro ls st h Q x0 x1 x2 i hh; exact e_ip (k2 := 37) (as := [.int x0, .int x1, .int x2]) d45_4 rfl (by decide) rfl rfl (by decide +kernel) (Nat.le_of_ble_eq_true rfl) rfl hh,
  by intros; exact e_rV d45_7 rfl⟩
theorem d46_0 : decode (byt 46) 0 = .ok (.iconst 3, 1) := by decide +kernel
theorem d46_1 : decode (byt 46) 1 = .ok (.ireturn, 1) := by decide +kernel
set_option maxRecDepth 20000 in
theorem S46_0 : (∀ (ls : Lo) (st : List Value) (h : Hp) (Q : Option Value → Hp → Prop), Wp 46 0 (ls) (st) h Q ↔ Wp 46 1 (ls) (.int (3) :: st) h Q) ∧
  (∀ (ls : Lo) (h : Hp) (Q : Option Value → Hp → Prop) (x : Int32), Wp 46 1 (ls) ([.int x]) h Q ↔ Q (some (.int x)) h) := ⟨by intro ls st h Q; exact e_iconst d46_0 rfl,
  by intros; exact e_rI (p := True) d46_1 rfl⟩
theorem d47_0 : decode (byt 47) 0 = .ok (.aload_n 2, 1) := by decide +kernel
theorem d47_1 : decode (byt 47) 1 = .ok (.getfield 9, 3) := by decide +kernel
theorem d47_4 : decode (byt 47) 4 = .ok (.bipush 40, 2) := by decide +kernel
theorem d47_6 : decode (byt 47) 6 = .ok (.if_icmp .ge 14, 3) := by decide +kernel
theorem d47_9 : decode (byt 47) 9 = .ok (.aload_n 2, 1) := by decide +kernel
theorem d47_10 : decode (byt 47) 10 = .ok (.getfield 15, 3) := by decide +kernel
theorem d47_13 : decode (byt 47) 13 = .ok (.aload_n 2, 1) := by decide +kernel
theorem d47_14 : decode (byt 47) 14 = .ok (.getfield 9, 3) := by decide +kernel
theorem d47_17 : decode (byt 47) 17 = .ok (.bipush 40, 2) := by decide +kernel
theorem d47_19 : decode (byt 47) 19 = .ok (.iastore, 1) := by decide +kernel
theorem d47_20 : decode (byt 47) 20 = .ok (.aload_n 2, 1) := by decide +kernel
theorem d47_21 : decode (byt 47) 21 = .ok (.dup, 1) := by decide +kernel
theorem d47_22 : decode (byt 47) 22 = .ok (.getfield 9, 3) := by decide +kernel
theorem d47_25 : decode (byt 47) 25 = .ok (.iconst 1, 1) := by decide +kernel
theorem d47_26 : decode (byt 47) 26 = .ok (.iadd, 1) := by decide +kernel
theorem d47_27 : decode (byt 47) 27 = .ok (.putfield 9, 3) := by decide +kernel
theorem d47_30 : decode (byt 47) 30 = .ok (.aload_n 0, 1) := by decide +kernel
theorem d47_31 : decode (byt 47) 31 = .ok (.iload_n 1, 1) := by decide +kernel
theorem d47_32 : decode (byt 47) 32 = .ok (.aload_n 2, 1) := by decide +kernel
theorem d47_33 : decode (byt 47) 33 = .ok (.invokespecial 19, 3) := by decide +kernel
theorem d47_36 : decode (byt 47) 36 = .ok (.aload_n 0, 1) := by decide +kernel
theorem d47_37 : decode (byt 47) 37 = .ok (.getfield 23, 3) := by decide +kernel
theorem d47_40 : decode (byt 47) 40 = .ok (.ixor, 1) := by decide +kernel
theorem d47_41 : decode (byt 47) 41 = .ok (.ireturn, 1) := by decide +kernel
set_option maxRecDepth 20000 in
theorem S47_0 : (∀ (ls : Lo) (st : List Value) (h : Hp) (Q : Option Value → Hp → Prop) (l0 l1 : Option Value) (i : Nat), Wp 47 0 (l0 :: l1 :: some (.ref i) :: ls) (st) h Q ↔ Wp 47 1 (l0 :: l1 :: some (.ref i) :: ls) (.ref i :: st) h Q) ∧
  (∀ (ls : Lo) (st : List Value) (n sl : Nat) (C Z : Nat → Nat) (I : Nat → Nat → Int32) (L : Nat → Nat → Int64) (R : Nat → Nat → Nat) (Q : Option Value → Hp → Prop) (i : Nat), Wp 47 1 (ls) (.ref i :: st) (n, sl, C, Z, I, L, R) Q ↔ (C i = 9 ∧ Wp 47 4 (ls) (.int (I i 1) :: st) (n, sl, C, Z, I, L, R) Q)) ∧
  (∀ (ls : Lo) (st : List Value) (h : Hp) (Q : Option Value → Hp → Prop), Wp 47 4 (ls) (st) h Q ↔ Wp 47 6 (ls) (.int (40) :: st) h Q) ∧
  (∀ (ls : Lo) (st : List Value) (h : Hp) (Q : Option Value → Hp → Prop) (x y : Int32), Wp 47 6 (ls) (.int y :: .int x :: st) h Q ↔ Br 47 20 9 ls st h Q (y ≤ x)) ∧
  (∀ (ls : Lo) (st : List Value) (h : Hp) (Q : Option Value → Hp → Prop) (l0 l1 : Option Value) (i : Nat), Wp 47 9 (l0 :: l1 :: some (.ref i) :: ls) (st) h Q ↔ Wp 47 10 (l0 :: l1 :: some (.ref i) :: ls) (.ref i :: st) h Q) ∧
  (∀ (ls : Lo) (st : List Value) (n sl : Nat) (C Z : Nat → Nat) (I : Nat → Nat → Int32) (L : Nat → Nat → Int64) (R : Nat → Nat → Nat) (Q : Option Value → Hp → Prop) (i : Nat), Wp 47 10 (ls) (.ref i :: st) (n, sl, C, Z, I, L, R) Q ↔ (C i = 9 ∧ Wp 47 13 (ls) (.ref (R i 0) :: st) (n, sl, C, Z, I, L, R) Q)) ∧
  (∀ (ls : Lo) (st : List Value) (h : Hp) (Q : Option Value → Hp → Prop) (l0 l1 : Option Value) (i : Nat), Wp 47 13 (l0 :: l1 :: some (.ref i) :: ls) (st) h Q ↔ Wp 47 14 (l0 :: l1 :: some (.ref i) :: ls) (.ref i :: st) h Q) ∧
  (∀ (ls : Lo) (st : List Value) (n sl : Nat) (C Z : Nat → Nat) (I : Nat → Nat → Int32) (L : Nat → Nat → Int64) (R : Nat → Nat → Nat) (Q : Option Value → Hp → Prop) (i : Nat), Wp 47 14 (ls) (.ref i :: st) (n, sl, C, Z, I, L, R) Q ↔ (C i = 9 ∧ Wp 47 17 (ls) (.int (I i 1) :: st) (n, sl, C, Z, I, L, R) Q)) ∧
  (∀ (ls : Lo) (st : List Value) (h : Hp) (Q : Option Value → Hp → Prop), Wp 47 17 (ls) (st) h Q ↔ Wp 47 19 (ls) (.int (40) :: st) h Q) ∧
  (∀ (ls : Lo) (st : List Value) (n sl : Nat) (C Z : Nat → Nat) (I : Nat → Nat → Int32) (L : Nat → Nat → Int64) (R : Nat → Nat → Nat) (Q : Option Value → Hp → Prop) (i : Nat) (x y : Int32), Wp 47 19 (ls) (.int x :: .int y :: .ref i :: st) (n, sl, C, Z, I, L, R) Q ↔ ((inb y (Z i) = true ∧ C i = 21) ∧ Wp 47 20 (ls) (st) (n, sl, C, Z, u2 I i (ix y) x, L, R) Q)) ∧
  (∀ (ls : Lo) (st : List Value) (h : Hp) (Q : Option Value → Hp → Prop) (l0 l1 : Option Value) (i : Nat), Wp 47 20 (l0 :: l1 :: some (.ref i) :: ls) (st) h Q ↔ Wp 47 21 (l0 :: l1 :: some (.ref i) :: ls) (.ref i :: st) h Q) ∧
  (∀ (ls : Lo) (st : List Value) (h : Hp) (Q : Option Value → Hp → Prop) (x : Int32), Wp 47 21 (ls) (.int x :: st) h Q ↔ Wp 47 22 (ls) (.int x :: .int x :: st) h Q) ∧
  (∀ (ls : Lo) (st : List Value) (h : Hp) (Q : Option Value → Hp → Prop) (i : Nat), Wp 47 21 (ls) (.ref i :: st) h Q ↔ Wp 47 22 (ls) (.ref i :: .ref i :: st) h Q) ∧
  (∀ (ls : Lo) (st : List Value) (n sl : Nat) (C Z : Nat → Nat) (I : Nat → Nat → Int32) (L : Nat → Nat → Int64) (R : Nat → Nat → Nat) (Q : Option Value → Hp → Prop) (i : Nat), Wp 47 22 (ls) (.ref i :: st) (n, sl, C, Z, I, L, R) Q ↔ (C i = 9 ∧ Wp 47 25 (ls) (.int (I i 1) :: st) (n, sl, C, Z, I, L, R) Q)) ∧
  (∀ (ls : Lo) (st : List Value) (h : Hp) (Q : Option Value → Hp → Prop), Wp 47 25 (ls) (st) h Q ↔ Wp 47 26 (ls) (.int (1) :: st) h Q) ∧
  (∀ (ls : Lo) (st : List Value) (h : Hp) (Q : Option Value → Hp → Prop) (x y : Int32), Wp 47 26 (ls) (.int y :: .int x :: st) h Q ↔ Wp 47 27 (ls) (.int (x + y) :: st) h Q) ∧
  (∀ (ls : Lo) (st : List Value) (n sl : Nat) (C Z : Nat → Nat) (I : Nat → Nat → Int32) (L : Nat → Nat → Int64) (R : Nat → Nat → Nat) (Q : Option Value → Hp → Prop) (i : Nat) (x : Int32), Wp 47 27 (ls) (.int x :: .ref i :: st) (n, sl, C, Z, I, L, R) Q ↔ (C i = 9 ∧ Wp 47 30 (ls) (st) (n, sl, C, Z, u2 I i 1 x, L, R) Q)) ∧
  (∀ (ls : Lo) (st : List Value) (h : Hp) (Q : Option Value → Hp → Prop)  (i : Nat), Wp 47 30 (some (.ref i) :: ls) (st) h Q ↔ Wp 47 31 (some (.ref i) :: ls) (.ref i :: st) h Q) ∧
  (∀ (ls : Lo) (st : List Value) (h : Hp) (Q : Option Value → Hp → Prop) (l0 : Option Value) (x : Int32), Wp 47 31 (l0 :: some (.int x) :: ls) (st) h Q ↔ Wp 47 32 (l0 :: some (.int x) :: ls) (.int x :: st) h Q) ∧
  (∀ (ls : Lo) (st : List Value) (h : Hp) (Q : Option Value → Hp → Prop) (l0 l1 : Option Value) (i : Nat), Wp 47 32 (l0 :: l1 :: some (.ref i) :: ls) (st) h Q ↔ Wp 47 33 (l0 :: l1 :: some (.ref i) :: ls) (.ref i :: st) h Q) ∧
  (∀ (ls : Lo) (st : List Value) (n sl : Nat) (C Z : Nat → Nat) (I : Nat → Nat → Int32) (L : Nat → Nat → Int64) (R : Nat → Nat → Nat) (Q : Option Value → Hp → Prop) (x0 : Int32) (x1 : Nat) (i : Nat), inG 7 (C i) = true → (Wp 47 33 (ls) (.ref x1 :: .int x0 :: .ref i :: st) (n, sl, C, Z, I, L, R) Q ↔ (wsum st ≤ 8 ∧ Call 54 [some (.ref i), some (.int x0), some (.ref x1)] (n, sl, C, Z, I, L, R) 47 36 ls st Q))) ∧
  (∀ (ls : Lo) (st : List Value) (h : Hp) (Q : Option Value → Hp → Prop)  (i : Nat), Wp 47 36 (some (.ref i) :: ls) (st) h Q ↔ Wp 47 37 (some (.ref i) :: ls) (.ref i :: st) h Q) ∧
  (∀ (ls : Lo) (st : List Value) (n sl : Nat) (C Z : Nat → Nat) (I : Nat → Nat → Int32) (L : Nat → Nat → Int64) (R : Nat → Nat → Nat) (Q : Option Value → Hp → Prop) (i : Nat), Wp 47 37 (ls) (.ref i :: st) (n, sl, C, Z, I, L, R) Q ↔ (inG 7 (C i) = true ∧ Wp 47 40 (ls) (.int (I i 0) :: st) (n, sl, C, Z, I, L, R) Q)) ∧
  (∀ (ls : Lo) (st : List Value) (h : Hp) (Q : Option Value → Hp → Prop) (x y : Int32), Wp 47 40 (ls) (.int y :: .int x :: st) h Q ↔ Wp 47 41 (ls) (.int (x ^^^ y) :: st) h Q) ∧
  (∀ (ls : Lo) (h : Hp) (Q : Option Value → Hp → Prop) (x : Int32), Wp 47 41 (ls) ([.int x]) h Q ↔ Q (some (.int x)) h) := ⟨by intro ls st h Q l0 l1 i; exact e_aload_n d47_0 rfl,
  by intro ls st n sl C Z I L R Q i; exact e_get (g := 8) (s := 1) (ty := 0) d47_1 rfl rfl (inG_ne (by decide)),
  by intro ls st h Q; exact e_bipush d47_4 rfl,
  by intro ls st h Q x y; exact e_ic d47_6 (by decide) c_ge,
  by intro ls st h Q l0 l1 i; exact e_aload_n d47_9 rfl,
  by intro ls st n sl C Z I L R Q i; exact e_get (g := 8) (s := 0) (ty := 2) d47_10 rfl rfl (inG_ne (by decide)),
  by intro ls st h Q l0 l1 i; exact e_aload_n d47_13 rfl,
  by intro ls st n sl C Z I L R Q i; exact e_get (g := 8) (s := 1) (ty := 0) d47_14 rfl rfl (inG_ne (by decide)),
  by intro ls st h Q; exact e_bipush d47_17 rfl,
  by intro ls st n sl C Z I L R Q i x y; exact e_iast d47_19,
  by intro ls st h Q l0 l1 i; exact e_aload_n d47_20 rfl,
  by intro ls st h Q x; exact e_dupI d47_21,
  by intro ls st h Q i; exact e_dupR d47_21,
  by intro ls st n sl C Z I L R Q i; exact e_get (g := 8) (s := 1) (ty := 0) d47_22 rfl rfl (inG_ne (by decide)),
  by intro ls st h Q; exact e_iconst d47_25 rfl,
  by intro ls st h Q x y; exact e_iadd d47_26,
  by intro ls st n sl C Z I L R Q i x; exact e_putI (g := 8) (s := 1) d47_27 rfl (Or.inl rfl) (inG_ne (by decide)),
  by intro ls st h Q i; exact e_aload_n d47_30 rfl,
  by intro ls st h Q l0 x; exact e_iload_n d47_31 rfl,
  by intro ls st h Q l0 l1 i; exact e_aload_n d47_32 rfl,
  by intro ls st n sl C Z I L R Q x0 x1 i hh; exact e_isu (k2 := 54) (as := [.int x0, .ref x1]) d47_33 rfl (by decide) rfl rfl (by decide +kernel) (Nat.le_of_ble_eq_true rfl) rfl hh,
  by intro ls st h Q i; exact e_aload_n d47_36 rfl,
  by intro ls st n sl C Z I L R Q i; exact e_get (g := 7) (s := 0) (ty := 0) d47_37 rfl rfl rfl,
  by intro ls st h Q x y; exact e_ixor d47_40,
  by intros; exact e_rI (p := True) d47_41 rfl⟩
theorem d48_0 : decode (byt 48) 0 = .ok (.aload_n 2, 1) := by decide +kernel
theorem d48_1 : decode (byt 48) 1 = .ok (.getfield 9, 3) := by decide +kernel
theorem d48_4 : decode (byt 48) 4 = .ok (.bipush 40, 2) := by decide +kernel
theorem d48_6 : decode (byt 48) 6 = .ok (.if_icmp .ge 14, 3) := by decide +kernel
theorem d48_9 : decode (byt 48) 9 = .ok (.aload_n 2, 1) := by decide +kernel
theorem d48_10 : decode (byt 48) 10 = .ok (.getfield 15, 3) := by decide +kernel
theorem d48_13 : decode (byt 48) 13 = .ok (.aload_n 2, 1) := by decide +kernel
theorem d48_14 : decode (byt 48) 14 = .ok (.getfield 9, 3) := by decide +kernel
theorem d48_17 : decode (byt 48) 17 = .ok (.bipush 41, 2) := by decide +kernel
theorem d48_19 : decode (byt 48) 19 = .ok (.iastore, 1) := by decide +kernel
theorem d48_20 : decode (byt 48) 20 = .ok (.aload_n 2, 1) := by decide +kernel
theorem d48_21 : decode (byt 48) 21 = .ok (.dup, 1) := by decide +kernel
theorem d48_22 : decode (byt 48) 22 = .ok (.getfield 9, 3) := by decide +kernel
theorem d48_25 : decode (byt 48) 25 = .ok (.iconst 1, 1) := by decide +kernel
theorem d48_26 : decode (byt 48) 26 = .ok (.iadd, 1) := by decide +kernel
theorem d48_27 : decode (byt 48) 27 = .ok (.putfield 9, 3) := by decide +kernel
theorem d48_30 : decode (byt 48) 30 = .ok (.aload_n 0, 1) := by decide +kernel
theorem d48_31 : decode (byt 48) 31 = .ok (.iload_n 1, 1) := by decide +kernel
theorem d48_32 : decode (byt 48) 32 = .ok (.aload_n 2, 1) := by decide +kernel
theorem d48_33 : decode (byt 48) 33 = .ok (.invokevirtual 28, 3) := by decide +kernel
theorem d48_36 : decode (byt 48) 36 = .ok (.aload_n 0, 1) := by decide +kernel
theorem d48_37 : decode (byt 48) 37 = .ok (.iload_n 1, 1) := by decide +kernel
theorem d48_38 : decode (byt 48) 38 = .ok (.aload_n 2, 1) := by decide +kernel
theorem d48_39 : decode (byt 48) 39 = .ok (.invokespecial 31, 3) := by decide +kernel
theorem d48_42 : decode (byt 48) 42 = .ok (.iadd, 1) := by decide +kernel
theorem d48_43 : decode (byt 48) 43 = .ok (.ireturn, 1) := by decide +kernel
set_option maxRecDepth 20000 in
theorem S48_0 : (∀ (ls : Lo) (st : List Value) (h : Hp) (Q : Option Value → Hp → Prop) (l0 l1 : Option Value) (i : Nat), Wp 48 0 (l0 :: l1 :: some (.ref i) :: ls) (st) h Q ↔ Wp 48 1 (l0 :: l1 :: some (.ref i) :: ls) (.ref i :: st) h Q) ∧
  (∀ (ls : Lo) (st : List Value) (n sl : Nat) (C Z : Nat → Nat) (I : Nat → Nat → Int32) (L : Nat → Nat → Int64) (R : Nat → Nat → Nat) (Q : Option Value → Hp → Prop) (i : Nat), Wp 48 1 (ls) (.ref i :: st) (n, sl, C, Z, I, L, R) Q ↔ (C i = 9 ∧ Wp 48 4 (ls) (.int (I i 1) :: st) (n, sl, C, Z, I, L, R) Q)) ∧
  (∀ (ls : Lo) (st : List Value) (h : Hp) (Q : Option Value → Hp → Prop), Wp 48 4 (ls) (st) h Q ↔ Wp 48 6 (ls) (.int (40) :: st) h Q) ∧
  (∀ (ls : Lo) (st : List Value) (h : Hp) (Q : Option Value → Hp → Prop) (x y : Int32), Wp 48 6 (ls) (.int y :: .int x :: st) h Q ↔ Br 48 20 9 ls st h Q (y ≤ x)) ∧
  (∀ (ls : Lo) (st : List Value) (h : Hp) (Q : Option Value → Hp → Prop) (l0 l1 : Option Value) (i : Nat), Wp 48 9 (l0 :: l1 :: some (.ref i) :: ls) (st) h Q ↔ Wp 48 10 (l0 :: l1 :: some (.ref i) :: ls) (.ref i :: st) h Q) ∧
  (∀ (ls : Lo) (st : List Value) (n sl : Nat) (C Z : Nat → Nat) (I : Nat → Nat → Int32) (L : Nat → Nat → Int64) (R : Nat → Nat → Nat) (Q : Option Value → Hp → Prop) (i : Nat), Wp 48 10 (ls) (.ref i :: st) (n, sl, C, Z, I, L, R) Q ↔ (C i = 9 ∧ Wp 48 13 (ls) (.ref (R i 0) :: st) (n, sl, C, Z, I, L, R) Q)) ∧
  (∀ (ls : Lo) (st : List Value) (h : Hp) (Q : Option Value → Hp → Prop) (l0 l1 : Option Value) (i : Nat), Wp 48 13 (l0 :: l1 :: some (.ref i) :: ls) (st) h Q ↔ Wp 48 14 (l0 :: l1 :: some (.ref i) :: ls) (.ref i :: st) h Q) ∧
  (∀ (ls : Lo) (st : List Value) (n sl : Nat) (C Z : Nat → Nat) (I : Nat → Nat → Int32) (L : Nat → Nat → Int64) (R : Nat → Nat → Nat) (Q : Option Value → Hp → Prop) (i : Nat), Wp 48 14 (ls) (.ref i :: st) (n, sl, C, Z, I, L, R) Q ↔ (C i = 9 ∧ Wp 48 17 (ls) (.int (I i 1) :: st) (n, sl, C, Z, I, L, R) Q)) ∧
  (∀ (ls : Lo) (st : List Value) (h : Hp) (Q : Option Value → Hp → Prop), Wp 48 17 (ls) (st) h Q ↔ Wp 48 19 (ls) (.int (41) :: st) h Q) ∧
  (∀ (ls : Lo) (st : List Value) (n sl : Nat) (C Z : Nat → Nat) (I : Nat → Nat → Int32) (L : Nat → Nat → Int64) (R : Nat → Nat → Nat) (Q : Option Value → Hp → Prop) (i : Nat) (x y : Int32), Wp 48 19 (ls) (.int x :: .int y :: .ref i :: st) (n, sl, C, Z, I, L, R) Q ↔ ((inb y (Z i) = true ∧ C i = 21) ∧ Wp 48 20 (ls) (st) (n, sl, C, Z, u2 I i (ix y) x, L, R) Q)) ∧
  (∀ (ls : Lo) (st : List Value) (h : Hp) (Q : Option Value → Hp → Prop) (l0 l1 : Option Value) (i : Nat), Wp 48 20 (l0 :: l1 :: some (.ref i) :: ls) (st) h Q ↔ Wp 48 21 (l0 :: l1 :: some (.ref i) :: ls) (.ref i :: st) h Q) ∧
  (∀ (ls : Lo) (st : List Value) (h : Hp) (Q : Option Value → Hp → Prop) (x : Int32), Wp 48 21 (ls) (.int x :: st) h Q ↔ Wp 48 22 (ls) (.int x :: .int x :: st) h Q) ∧
  (∀ (ls : Lo) (st : List Value) (h : Hp) (Q : Option Value → Hp → Prop) (i : Nat), Wp 48 21 (ls) (.ref i :: st) h Q ↔ Wp 48 22 (ls) (.ref i :: .ref i :: st) h Q) ∧
  (∀ (ls : Lo) (st : List Value) (n sl : Nat) (C Z : Nat → Nat) (I : Nat → Nat → Int32) (L : Nat → Nat → Int64) (R : Nat → Nat → Nat) (Q : Option Value → Hp → Prop) (i : Nat), Wp 48 22 (ls) (.ref i :: st) (n, sl, C, Z, I, L, R) Q ↔ (C i = 9 ∧ Wp 48 25 (ls) (.int (I i 1) :: st) (n, sl, C, Z, I, L, R) Q)) ∧
  (∀ (ls : Lo) (st : List Value) (h : Hp) (Q : Option Value → Hp → Prop), Wp 48 25 (ls) (st) h Q ↔ Wp 48 26 (ls) (.int (1) :: st) h Q) ∧
  (∀ (ls : Lo) (st : List Value) (h : Hp) (Q : Option Value → Hp → Prop) (x y : Int32), Wp 48 26 (ls) (.int y :: .int x :: st) h Q ↔ Wp 48 27 (ls) (.int (x + y) :: st) h Q) ∧
  (∀ (ls : Lo) (st : List Value) (n sl : Nat) (C Z : Nat → Nat) (I : Nat → Nat → Int32) (L : Nat → Nat → Int64) (R : Nat → Nat → Nat) (Q : Option Value → Hp → Prop) (i : Nat) (x : Int32), Wp 48 27 (ls) (.int x :: .ref i :: st) (n, sl, C, Z, I, L, R) Q ↔ (C i = 9 ∧ Wp 48 30 (ls) (st) (n, sl, C, Z, u2 I i 1 x, L, R) Q)) ∧
  (∀ (ls : Lo) (st : List Value) (h : Hp) (Q : Option Value → Hp → Prop)  (i : Nat), Wp 48 30 (some (.ref i) :: ls) (st) h Q ↔ Wp 48 31 (some (.ref i) :: ls) (.ref i :: st) h Q) ∧
  (∀ (ls : Lo) (st : List Value) (h : Hp) (Q : Option Value → Hp → Prop) (l0 : Option Value) (x : Int32), Wp 48 31 (l0 :: some (.int x) :: ls) (st) h Q ↔ Wp 48 32 (l0 :: some (.int x) :: ls) (.int x :: st) h Q) ∧
  (∀ (ls : Lo) (st : List Value) (h : Hp) (Q : Option Value → Hp → Prop) (l0 l1 : Option Value) (i : Nat), Wp 48 32 (l0 :: l1 :: some (.ref i) :: ls) (st) h Q ↔ Wp 48 33 (l0 :: l1 :: some (.ref i) :: ls) (.ref i :: st) h Q) ∧
  (∀ (ls : Lo) (st : List Value) (n sl : Nat) (C Z : Nat → Nat) (I : Nat → Nat → Int32) (L : Nat → Nat → Int64) (R : Nat → Nat → Nat) (Q : Option Value → Hp → Prop) (x0 : Int32) (x1 : Nat) (i : Nat), C i = 6 → (Wp 48 33 (ls) (.ref x1 :: .int x0 :: .ref i :: st) (n, sl, C, Z, I, L, R) Q ↔ (wsum st ≤ 8 ∧ Call 39 [some (.ref i), some (.int x0), some (.ref x1)] (n, sl, C, Z, I, L, R) 48 36 ls st Q))) ∧
  (∀ (ls : Lo) (st : List Value) (h : Hp) (Q : Option Value → Hp → Prop)  (i : Nat), Wp 48 36 (some (.ref i) :: ls) (st) h Q ↔ Wp 48 37 (some (.ref i) :: ls) (.ref i :: st) h Q) ∧
  (∀ (ls : Lo) (st : List Value) (h : Hp) (Q : Option Value → Hp → Prop) (l0 : Option Value) (x : Int32), Wp 48 37 (l0 :: some (.int x) :: ls) (st) h Q ↔ Wp 48 38 (l0 :: some (.int x) :: ls) (.int x :: st) h Q) ∧
  (∀ (ls : Lo) (st : List Value) (h : Hp) (Q : Option Value → Hp → Prop) (l0 l1 : Option Value) (i : Nat), Wp 48 38 (l0 :: l1 :: some (.ref i) :: ls) (st) h Q ↔ Wp 48 39 (l0 :: l1 :: some (.ref i) :: ls) (.ref i :: st) h Q) ∧
  (∀ (ls : Lo) (st : List Value) (n sl : Nat) (C Z : Nat → Nat) (I : Nat → Nat → Int32) (L : Nat → Nat → Int64) (R : Nat → Nat → Nat) (Q : Option Value → Hp → Prop) (x0 : Int32) (x1 : Nat) (i : Nat), inG 7 (C i) = true → (Wp 48 39 (ls) (.ref x1 :: .int x0 :: .ref i :: st) (n, sl, C, Z, I, L, R) Q ↔ (wsum st ≤ 8 ∧ Call 40 [some (.ref i), some (.int x0), some (.ref x1)] (n, sl, C, Z, I, L, R) 48 42 ls st Q))) := ⟨by intro ls st h Q l0 l1 i; exact e_aload_n d48_0 rfl,
  by intro ls st n sl C Z I L R Q i; exact e_get (g := 8) (s := 1) (ty := 0) d48_1 rfl rfl (inG_ne (by decide)),
  by intro ls st h Q; exact e_bipush d48_4 rfl,
  by intro ls st h Q x y; exact e_ic d48_6 (by decide) c_ge,
  by intro ls st h Q l0 l1 i; exact e_aload_n d48_9 rfl,
  by intro ls st n sl C Z I L R Q i; exact e_get (g := 8) (s := 0) (ty := 2) d48_10 rfl rfl (inG_ne (by decide)),
  by intro ls st h Q l0 l1 i; exact e_aload_n d48_13 rfl,
  by intro ls st n sl C Z I L R Q i; exact e_get (g := 8) (s := 1) (ty := 0) d48_14 rfl rfl (inG_ne (by decide)),
  by intro ls st h Q; exact e_bipush d48_17 rfl,
  by intro ls st n sl C Z I L R Q i x y; exact e_iast d48_19,
  by intro ls st h Q l0 l1 i; exact e_aload_n d48_20 rfl,
  by intro ls st h Q x; exact e_dupI d48_21,
  by intro ls st h Q i; exact e_dupR d48_21,
  by intro ls st n sl C Z I L R Q i; exact e_get (g := 8) (s := 1) (ty := 0) d48_22 rfl rfl (inG_ne (by decide)),
  by intro ls st h Q; exact e_iconst d48_25 rfl,
  by intro ls st h Q x y; exact e_iadd d48_26,
  by intro ls st n sl C Z I L R Q i x; exact e_putI (g := 8) (s := 1) d48_27 rfl (Or.inl rfl) (inG_ne (by decide)),
  by intro ls st h Q i; exact e_aload_n d48_30 rfl,
  by intro ls st h Q l0 x; exact e_iload_n d48_31 rfl,
  by intro ls st h Q l0 l1 i; exact e_aload_n d48_32 rfl,
  by intro ls st n sl C Z I L R Q x0 x1 i hh; exact e_iv (k2 := 39) (c := 6) (as := [.int x0, .ref x1]) d48_33 rfl (by decide) rfl rfl (by decide +kernel) (Nat.le_of_ble_eq_true rfl) rfl hh,
  by intro ls st h Q i; exact e_aload_n d48_36 rfl,
  by intro ls st h Q l0 x; exact e_iload_n d48_37 rfl,
  by intro ls st h Q l0 l1 i; exact e_aload_n d48_38 rfl,
  by intro ls st n sl C Z I L R Q x0 x1 i hh; exact e_isu (k2 := 40) (as := [.int x0, .ref x1]) d48_39 rfl (by decide) rfl rfl (by decide +kernel) (Nat.le_of_ble_eq_true rfl) rfl hh⟩
set_option maxRecDepth 20000 in
theorem S48_1 : (∀ (ls : Lo) (st : List Value) (h : Hp) (Q : Option Value → Hp → Prop) (x y : Int32), Wp 48 42 (ls) (.int y :: .int x :: st) h Q ↔ Wp 48 43 (ls) (.int (x + y) :: st) h Q) ∧
  (∀ (ls : Lo) (h : Hp) (Q : Option Value → Hp → Prop) (x : Int32), Wp 48 43 (ls) ([.int x]) h Q ↔ Q (some (.int x)) h) := ⟨by intro ls st h Q x y; exact e_iadd d48_42,
  by intros; exact e_rI (p := True) d48_43 rfl⟩
theorem d49_0 : decode (byt 49) 0 = .ok (.aload_n 0, 1) := by decide +kernel
theorem d49_1 : decode (byt 49) 1 = .ok (.invokespecial 1, 3) := by decide +kernel
theorem d49_4 : decode (byt 49) 4 = .ok (.aload_n 0, 1) := by decide +kernel
theorem d49_5 : decode (byt 49) 5 = .ok (.iload_n 1, 1) := by decide +kernel
theorem d49_6 : decode (byt 49) 6 = .ok (.putfield 7, 3) := by decide +kernel
theorem d49_9 : decode (byt 49) 9 = .ok (.aload_n 0, 1) := by decide +kernel
theorem d49_10 : decode (byt 49) 10 = .ok (.iload_n 2, 1) := by decide +kernel
theorem d49_11 : decode (byt 49) 11 = .ok (.iconst 0, 1) := by decide +kernel
theorem d49_12 : decode (byt 49) 12 = .ok (.invokestatic 13, 3) := by decide +kernel
theorem d49_15 : decode (byt 49) 15 = .ok (.newarray .long, 2) := by decide +kernel
theorem d49_17 : decode (byt 49) 17 = .ok (.putfield 19, 3) := by decide +kernel
theorem d49_20 : decode (byt 49) 20 = .ok (.return_, 1) := by decide +kernel
set_option maxRecDepth 20000 in
theorem S49_0 : (∀ (ls : Lo) (st : List Value) (h : Hp) (Q : Option Value → Hp → Prop)  (i : Nat), Wp 49 0 (some (.ref i) :: ls) (st) h Q ↔ Wp 49 1 (some (.ref i) :: ls) (.ref i :: st) h Q) ∧
  (∀ (ls : Lo) (st : List Value) (h : Hp) (Q : Option Value → Hp → Prop) (i : Nat), Wp 49 1 (ls) (.ref i :: st) h Q ↔ ((wsum st ≤ 8 ∧ i ≠ 0) ∧ Wp 49 4 (ls) (st) h Q)) ∧
  (∀ (ls : Lo) (st : List Value) (h : Hp) (Q : Option Value → Hp → Prop)  (i : Nat), Wp 49 4 (some (.ref i) :: ls) (st) h Q ↔ Wp 49 5 (some (.ref i) :: ls) (.ref i :: st) h Q) ∧
  (∀ (ls : Lo) (st : List Value) (h : Hp) (Q : Option Value → Hp → Prop) (l0 : Option Value) (x : Int32), Wp 49 5 (l0 :: some (.int x) :: ls) (st) h Q ↔ Wp 49 6 (l0 :: some (.int x) :: ls) (.int x :: st) h Q) ∧
  (∀ (ls : Lo) (st : List Value) (n sl : Nat) (C Z : Nat → Nat) (I : Nat → Nat → Int32) (L : Nat → Nat → Int64) (R : Nat → Nat → Nat) (Q : Option Value → Hp → Prop) (i : Nat) (x : Int32), Wp 49 6 (ls) (.int x :: .ref i :: st) (n, sl, C, Z, I, L, R) Q ↔ (C i = 7 ∧ Wp 49 9 (ls) (st) (n, sl, C, Z, u2 I i 0 x, L, R) Q)) ∧
  (∀ (ls : Lo) (st : List Value) (h : Hp) (Q : Option Value → Hp → Prop)  (i : Nat), Wp 49 9 (some (.ref i) :: ls) (st) h Q ↔ Wp 49 10 (some (.ref i) :: ls) (.ref i :: st) h Q) ∧
  (∀ (ls : Lo) (st : List Value) (h : Hp) (Q : Option Value → Hp → Prop) (l0 l1 : Option Value) (x : Int32), Wp 49 10 (l0 :: l1 :: some (.int x) :: ls) (st) h Q ↔ Wp 49 11 (l0 :: l1 :: some (.int x) :: ls) (.int x :: st) h Q) ∧
  (∀ (ls : Lo) (st : List Value) (h : Hp) (Q : Option Value → Hp → Prop), Wp 49 11 (ls) (st) h Q ↔ Wp 49 12 (ls) (.int (0) :: st) h Q) ∧
  (∀ (ls : Lo) (st : List Value) (h : Hp) (Q : Option Value → Hp → Prop) (x y : Int32), Wp 49 12 (ls) (.int y :: .int x :: st) h Q ↔ (wsum st ≤ 8 ∧ Wp 49 15 (ls) (.int (if x < y then y else x) :: st) h Q)) ∧
  (∀ (ls : Lo) (st : List Value) (n sl : Nat) (C Z : Nat → Nat) (I : Nat → Nat → Int32) (L : Nat → Nat → Int64) (R : Nat → Nat → Nat) (Q : Option Value → Hp → Prop) (x : Int32), Wp 49 15 (ls) (.int x :: st) (n, sl, C, Z, I, L, R) Q ↔ ((¬ x < 0 ∧ ix x ≤ 1000) ∧ Wp 49 17 (ls) (.ref (n + 1) :: st) (n + 1, sl + ix x, va_up C (n + 1) 22, va_up Z (n + 1) (ix x), va_up I (n + 1) (fun _ => 0), va_up L (n + 1) (fun _ => 0), va_up R (n + 1) (fun _ => 0)) Q)) ∧
  (∀ (ls : Lo) (st : List Value) (n sl : Nat) (C Z : Nat → Nat) (I : Nat → Nat → Int32) (L : Nat → Nat → Int64) (R : Nat → Nat → Nat) (Q : Option Value → Hp → Prop) (i j : Nat), Wp 49 17 (ls) (.ref j :: .ref i :: st) (n, sl, C, Z, I, L, R) Q ↔ (C i = 7 ∧ Wp 49 20 (ls) (st) (n, sl, C, Z, I, L, u2 R i 1 j) Q)) ∧
  (∀ (ls : Lo) (h : Hp) (Q : Option Value → Hp → Prop), Wp 49 20 (ls) ([]) h Q ↔ Q none h) := ⟨by intro ls st h Q i; exact e_aload_n d49_0 rfl,
  by intro ls st h Q i; exact e_oi (na := 0) d49_1 rfl (by decide +kernel),
  by intro ls st h Q i; exact e_aload_n d49_4 rfl,
  by intro ls st h Q l0 x; exact e_iload_n d49_5 rfl,
  by intro ls st n sl C Z I L R Q i x; exact e_putI (g := 6) (s := 0) d49_6 rfl (Or.inr ⟨by decide +kernel, rfl, rfl⟩) (inG_ne (by decide)),
  by intro ls st h Q i; exact e_aload_n d49_9 rfl,
  by intro ls st h Q l0 l1 x; exact e_iload_n d49_10 rfl,
  by intro ls st h Q; exact e_iconst d49_11 rfl,
  by intro ls st h Q x y; exact e_max d49_12 rfl (by decide +kernel),
  by intro ls st n sl C Z I L R Q x; exact e_newL d49_15,
  by intro ls st n sl C Z I L R Q i j; exact e_putR (g := 6) (s := 1) d49_17 rfl (Or.inr ⟨by decide +kernel, rfl, rfl⟩) (inG_ne (by decide)),
  by intros; exact e_rV d49_20 rfl⟩
theorem d50_0 : decode (byt 50) 0 = .ok (.iload_n 1, 1) := by decide +kernel
theorem d50_1 : decode (byt 50) 1 = .ok (.ifCond .lt 26, 3) := by decide +kernel
theorem d50_4 : decode (byt 50) 4 = .ok (.iload_n 2, 1) := by decide +kernel
theorem d50_5 : decode (byt 50) 5 = .ok (.ifCond .lt 22, 3) := by decide +kernel
theorem d50_8 : decode (byt 50) 8 = .ok (.iload_n 1, 1) := by decide +kernel
theorem d50_9 : decode (byt 50) 9 = .ok (.i2l, 1) := by decide +kernel
theorem d50_10 : decode (byt 50) 10 = .ok (.iload_n 2, 1) := by decide +kernel
theorem d50_11 : decode (byt 50) 11 = .ok (.i2l, 1) := by decide +kernel
theorem d50_12 : decode (byt 50) 12 = .ok (.ladd, 1) := by decide +kernel
theorem d50_13 : decode (byt 50) 13 = .ok (.aload_n 0, 1) := by decide +kernel
theorem d50_14 : decode (byt 50) 14 = .ok (.getfield 19, 3) := by decide +kernel
theorem d50_17 : decode (byt 50) 17 = .ok (.arraylength, 1) := by decide +kernel
theorem d50_18 : decode (byt 50) 18 = .ok (.i2l, 1) := by decide +kernel
theorem d50_19 : decode (byt 50) 19 = .ok (.lcmp, 1) := by decide +kernel
theorem d50_20 : decode (byt 50) 20 = .ok (.ifCond .gt 7, 3) := by decide +kernel
theorem d50_23 : decode (byt 50) 23 = .ok (.iconst 1, 1) := by decide +kernel
theorem d50_24 : decode (byt 50) 24 = .ok (.goto 4, 3) := by decide +kernel
theorem d50_27 : decode (byt 50) 27 = .ok (.iconst 0, 1) := by decide +kernel
theorem d50_28 : decode (byt 50) 28 = .ok (.ireturn, 1) := by decide +kernel
set_option maxRecDepth 20000 in
theorem S50_0 : (∀ (ls : Lo) (st : List Value) (h : Hp) (Q : Option Value → Hp → Prop) (l0 : Option Value) (x : Int32), Wp 50 0 (l0 :: some (.int x) :: ls) (st) h Q ↔ Wp 50 1 (l0 :: some (.int x) :: ls) (.int x :: st) h Q) ∧
  (∀ (ls : Lo) (st : List Value) (h : Hp) (Q : Option Value → Hp → Prop) (x : Int32), Wp 50 1 (ls) (.int x :: st) h Q ↔ Br 50 27 4 ls st h Q (x < 0)) ∧
  (∀ (ls : Lo) (st : List Value) (h : Hp) (Q : Option Value → Hp → Prop) (l0 l1 : Option Value) (x : Int32), Wp 50 4 (l0 :: l1 :: some (.int x) :: ls) (st) h Q ↔ Wp 50 5 (l0 :: l1 :: some (.int x) :: ls) (.int x :: st) h Q) ∧
  (∀ (ls : Lo) (st : List Value) (h : Hp) (Q : Option Value → Hp → Prop) (x : Int32), Wp 50 5 (ls) (.int x :: st) h Q ↔ Br 50 27 8 ls st h Q (x < 0)) ∧
  (∀ (ls : Lo) (st : List Value) (h : Hp) (Q : Option Value → Hp → Prop) (l0 : Option Value) (x : Int32), Wp 50 8 (l0 :: some (.int x) :: ls) (st) h Q ↔ Wp 50 9 (l0 :: some (.int x) :: ls) (.int x :: st) h Q) ∧
  (∀ (ls : Lo) (st : List Value) (h : Hp) (Q : Option Value → Hp → Prop) (x : Int32), Wp 50 9 (ls) (.int x :: st) h Q ↔ Wp 50 10 (ls) (.long x.toInt64 :: st) h Q) ∧
  (∀ (ls : Lo) (st : List Value) (h : Hp) (Q : Option Value → Hp → Prop) (l0 l1 : Option Value) (x : Int32), Wp 50 10 (l0 :: l1 :: some (.int x) :: ls) (st) h Q ↔ Wp 50 11 (l0 :: l1 :: some (.int x) :: ls) (.int x :: st) h Q) ∧
  (∀ (ls : Lo) (st : List Value) (h : Hp) (Q : Option Value → Hp → Prop) (x : Int32), Wp 50 11 (ls) (.int x :: st) h Q ↔ Wp 50 12 (ls) (.long x.toInt64 :: st) h Q) ∧
  (∀ (ls : Lo) (st : List Value) (h : Hp) (Q : Option Value → Hp → Prop) (a b : Int64), Wp 50 12 (ls) (.long b :: .long a :: st) h Q ↔ Wp 50 13 (ls) (.long (a + b) :: st) h Q) ∧
  (∀ (ls : Lo) (st : List Value) (h : Hp) (Q : Option Value → Hp → Prop)  (i : Nat), Wp 50 13 (some (.ref i) :: ls) (st) h Q ↔ Wp 50 14 (some (.ref i) :: ls) (.ref i :: st) h Q) ∧
  (∀ (ls : Lo) (st : List Value) (n sl : Nat) (C Z : Nat → Nat) (I : Nat → Nat → Int32) (L : Nat → Nat → Int64) (R : Nat → Nat → Nat) (Q : Option Value → Hp → Prop) (i : Nat), Wp 50 14 (ls) (.ref i :: st) (n, sl, C, Z, I, L, R) Q ↔ (C i = 7 ∧ Wp 50 17 (ls) (.ref (R i 1) :: st) (n, sl, C, Z, I, L, R) Q)) ∧
  (∀ (ls : Lo) (st : List Value) (n sl : Nat) (C Z : Nat → Nat) (I : Nat → Nat → Int32) (L : Nat → Nat → Int64) (R : Nat → Nat → Nat) (Q : Option Value → Hp → Prop) (i : Nat), Wp 50 17 (ls) (.ref i :: st) (n, sl, C, Z, I, L, R) Q ↔ ((21 ≤ C i ∧ C i ≤ 25) ∧ Wp 50 18 (ls) (.int (Int32.ofNat (Z i)) :: st) (n, sl, C, Z, I, L, R) Q)) ∧
  (∀ (ls : Lo) (st : List Value) (h : Hp) (Q : Option Value → Hp → Prop) (x : Int32), Wp 50 18 (ls) (.int x :: st) h Q ↔ Wp 50 19 (ls) (.long x.toInt64 :: st) h Q) ∧
  (∀ (ls : Lo) (st : List Value) (h : Hp) (Q : Option Value → Hp → Prop) (a b : Int64), Wp 50 19 (ls) (.long b :: .long a :: st) h Q ↔ Wp 50 20 (ls) (.int (lg_cmp a b) :: st) h Q) ∧
  (∀ (ls : Lo) (st : List Value) (h : Hp) (Q : Option Value → Hp → Prop) (x : Int32), Wp 50 20 (ls) (.int x :: st) h Q ↔ Br 50 27 23 ls st h Q (0 < x)) ∧
  (∀ (ls : Lo) (st : List Value) (h : Hp) (Q : Option Value → Hp → Prop), Wp 50 23 (ls) (st) h Q ↔ Wp 50 24 (ls) (.int (1) :: st) h Q) ∧
  (∀ (ls : Lo) (st : List Value) (h : Hp) (Q : Option Value → Hp → Prop), Wp 50 24 (ls) (st) h Q ↔ Wp 50 28 (ls) (st) h Q) ∧
  (∀ (ls : Lo) (st : List Value) (h : Hp) (Q : Option Value → Hp → Prop), Wp 50 27 (ls) (st) h Q ↔ Wp 50 28 (ls) (.int (0) :: st) h Q) ∧
  (∀ (ls : Lo) (h : Hp) (Q : Option Value → Hp → Prop) (x : Int32), Wp 50 28 (ls) ([.int x]) h Q ↔ ((x = 0 ∨ x = 1) ∧ Q (some (.int x)) h)) := ⟨by intro ls st h Q l0 x; exact e_iload_n d50_0 rfl,
  by intro ls st h Q x; exact e_if d50_1 (by decide) c_lt,
  by intro ls st h Q l0 l1 x; exact e_iload_n d50_4 rfl,
  by intro ls st h Q x; exact e_if d50_5 (by decide) c_lt,
  by intro ls st h Q l0 x; exact e_iload_n d50_8 rfl,
  by intro ls st h Q x; exact e_i2l d50_9,
  by intro ls st h Q l0 l1 x; exact e_iload_n d50_10 rfl,
  by intro ls st h Q x; exact e_i2l d50_11,
  by intro ls st h Q a b; exact e_ladd d50_12,
  by intro ls st h Q i; exact e_aload_n d50_13 rfl,
  by intro ls st n sl C Z I L R Q i; exact e_get (g := 6) (s := 1) (ty := 2) d50_14 rfl rfl (inG_ne (by decide)),
  by intro ls st n sl C Z I L R Q i; exact e_alen d50_17,
  by intro ls st h Q x; exact e_i2l d50_18,
  by intro ls st h Q a b; exact e_lcmp d50_19,
  by intro ls st h Q x; exact e_if d50_20 (by decide) c_gt,
  by intro ls st h Q; exact e_iconst d50_23 rfl,
  by intro ls st h Q; exact e_goto d50_24 (by decide),
  by intro ls st h Q; exact e_iconst d50_27 rfl,
  by intros; exact e_rZ d50_28 rfl⟩
theorem d51_0 : decode (byt 51) 0 = .ok (.aload_n 0, 1) := by decide +kernel
theorem d51_1 : decode (byt 51) 1 = .ok (.invokespecial 3, 3) := by decide +kernel
theorem d51_4 : decode (byt 51) 4 = .ok (.aload_n 0, 1) := by decide +kernel
theorem d51_5 : decode (byt 51) 5 = .ok (.bipush 9, 2) := by decide +kernel
theorem d51_7 : decode (byt 51) 7 = .ok (.newarray .int, 2) := by decide +kernel
theorem d51_9 : decode (byt 51) 9 = .ok (.putfield 9, 3) := by decide +kernel
theorem d51_12 : decode (byt 51) 12 = .ok (.aload_n 0, 1) := by decide +kernel
theorem d51_13 : decode (byt 51) 13 = .ok (.iconst 3, 1) := by decide +kernel
theorem d51_14 : decode (byt 51) 14 = .ok (.newarray .int, 2) := by decide +kernel
theorem d51_16 : decode (byt 51) 16 = .ok (.putfield 15, 3) := by decide +kernel
theorem d51_19 : decode (byt 51) 19 = .ok (.aload_n 0, 1) := by decide +kernel
theorem d51_20 : decode (byt 51) 20 = .ok (.iconst 3, 1) := by decide +kernel
theorem d51_21 : decode (byt 51) 21 = .ok (.newarray .int, 2) := by decide +kernel
theorem d51_23 : decode (byt 51) 23 = .ok (.putfield 18, 3) := by decide +kernel
theorem d51_26 : decode (byt 51) 26 = .ok (.aload_n 0, 1) := by decide +kernel
theorem d51_27 : decode (byt 51) 27 = .ok (.iconst 1, 1) := by decide +kernel
theorem d51_28 : decode (byt 51) 28 = .ok (.newarray .int, 2) := by decide +kernel
theorem d51_30 : decode (byt 51) 30 = .ok (.putfield 21, 3) := by decide +kernel
theorem d51_33 : decode (byt 51) 33 = .ok (.aload_n 0, 1) := by decide +kernel
theorem d51_34 : decode (byt 51) 34 = .ok (.iload_n 1, 1) := by decide +kernel
theorem d51_35 : decode (byt 51) 35 = .ok (.putfield 24, 3) := by decide +kernel
theorem d51_38 : decode (byt 51) 38 = .ok (.aload_n 0, 1) := by decide +kernel
theorem d51_39 : decode (byt 51) 39 = .ok (.iload_n 2, 1) := by decide +kernel
theorem d51_40 : decode (byt 51) 40 = .ok (.putfield 28, 3) := by decide +kernel
theorem d51_43 : decode (byt 51) 43 = .ok (.aload_n 0, 1) := by decide +kernel
theorem d51_44 : decode (byt 51) 44 = .ok (.iload_n 3, 1) := by decide +kernel
theorem d51_45 : decode (byt 51) 45 = .ok (.putfield 31, 3) := by decide +kernel
theorem d51_48 : decode (byt 51) 48 = .ok (.return_, 1) := by decide +kernel
set_option maxRecDepth 20000 in
theorem S51_0 : (∀ (ls : Lo) (st : List Value) (h : Hp) (Q : Option Value → Hp → Prop)  (i : Nat), Wp 51 0 (some (.ref i) :: ls) (st) h Q ↔ Wp 51 1 (some (.ref i) :: ls) (.ref i :: st) h Q) ∧
  (∀ (ls : Lo) (st : List Value) (h : Hp) (Q : Option Value → Hp → Prop) (i : Nat), Wp 51 1 (ls) (.ref i :: st) h Q ↔ ((wsum st ≤ 8 ∧ i ≠ 0) ∧ Wp 51 4 (ls) (st) h Q)) ∧
  (∀ (ls : Lo) (st : List Value) (h : Hp) (Q : Option Value → Hp → Prop)  (i : Nat), Wp 51 4 (some (.ref i) :: ls) (st) h Q ↔ Wp 51 5 (some (.ref i) :: ls) (.ref i :: st) h Q) ∧
  (∀ (ls : Lo) (st : List Value) (h : Hp) (Q : Option Value → Hp → Prop), Wp 51 5 (ls) (st) h Q ↔ Wp 51 7 (ls) (.int (9) :: st) h Q) ∧
  (∀ (ls : Lo) (st : List Value) (n sl : Nat) (C Z : Nat → Nat) (I : Nat → Nat → Int32) (L : Nat → Nat → Int64) (R : Nat → Nat → Nat) (Q : Option Value → Hp → Prop) (x : Int32), Wp 51 7 (ls) (.int x :: st) (n, sl, C, Z, I, L, R) Q ↔ ((¬ x < 0 ∧ ix x ≤ 1000) ∧ Wp 51 9 (ls) (.ref (n + 1) :: st) (n + 1, sl + ix x, va_up C (n + 1) 21, va_up Z (n + 1) (ix x), va_up I (n + 1) (fun _ => 0), va_up L (n + 1) (fun _ => 0), va_up R (n + 1) (fun _ => 0)) Q)) ∧
  (∀ (ls : Lo) (st : List Value) (n sl : Nat) (C Z : Nat → Nat) (I : Nat → Nat → Int32) (L : Nat → Nat → Int64) (R : Nat → Nat → Nat) (Q : Option Value → Hp → Prop) (i j : Nat), Wp 51 9 (ls) (.ref j :: .ref i :: st) (n, sl, C, Z, I, L, R) Q ↔ (inG 7 (C i) = true ∧ Wp 51 12 (ls) (st) (n, sl, C, Z, I, L, u2 R i 3 j) Q)) ∧
  (∀ (ls : Lo) (st : List Value) (h : Hp) (Q : Option Value → Hp → Prop)  (i : Nat), Wp 51 12 (some (.ref i) :: ls) (st) h Q ↔ Wp 51 13 (some (.ref i) :: ls) (.ref i :: st) h Q) ∧
  (∀ (ls : Lo) (st : List Value) (h : Hp) (Q : Option Value → Hp → Prop), Wp 51 13 (ls) (st) h Q ↔ Wp 51 14 (ls) (.int (3) :: st) h Q) ∧
  (∀ (ls : Lo) (st : List Value) (n sl : Nat) (C Z : Nat → Nat) (I : Nat → Nat → Int32) (L : Nat → Nat → Int64) (R : Nat → Nat → Nat) (Q : Option Value → Hp → Prop) (x : Int32), Wp 51 14 (ls) (.int x :: st) (n, sl, C, Z, I, L, R) Q ↔ ((¬ x < 0 ∧ ix x ≤ 1000) ∧ Wp 51 16 (ls) (.ref (n + 1) :: st) (n + 1, sl + ix x, va_up C (n + 1) 21, va_up Z (n + 1) (ix x), va_up I (n + 1) (fun _ => 0), va_up L (n + 1) (fun _ => 0), va_up R (n + 1) (fun _ => 0)) Q)) ∧
  (∀ (ls : Lo) (st : List Value) (n sl : Nat) (C Z : Nat → Nat) (I : Nat → Nat → Int32) (L : Nat → Nat → Int64) (R : Nat → Nat → Nat) (Q : Option Value → Hp → Prop) (i j : Nat), Wp 51 16 (ls) (.ref j :: .ref i :: st) (n, sl, C, Z, I, L, R) Q ↔ (inG 7 (C i) = true ∧ Wp 51 19 (ls) (st) (n, sl, C, Z, I, L, u2 R i 4 j) Q)) ∧
  (∀ (ls : Lo) (st : List Value) (h : Hp) (Q : Option Value → Hp → Prop)  (i : Nat), Wp 51 19 (some (.ref i) :: ls) (st) h Q ↔ Wp 51 20 (some (.ref i) :: ls) (.ref i :: st) h Q) ∧
  (∀ (ls : Lo) (st : List Value) (h : Hp) (Q : Option Value → Hp → Prop), Wp 51 20 (ls) (st) h Q ↔ Wp 51 21 (ls) (.int (3) :: st) h Q) ∧
  (∀ (ls : Lo) (st : List Value) (n sl : Nat) (C Z : Nat → Nat) (I : Nat → Nat → Int32) (L : Nat → Nat → Int64) (R : Nat → Nat → Nat) (Q : Option Value → Hp → Prop) (x : Int32), Wp 51 21 (ls) (.int x :: st) (n, sl, C, Z, I, L, R) Q ↔ ((¬ x < 0 ∧ ix x ≤ 1000) ∧ Wp 51 23 (ls) (.ref (n + 1) :: st) (n + 1, sl + ix x, va_up C (n + 1) 21, va_up Z (n + 1) (ix x), va_up I (n + 1) (fun _ => 0), va_up L (n + 1) (fun _ => 0), va_up R (n + 1) (fun _ => 0)) Q)) ∧
  (∀ (ls : Lo) (st : List Value) (n sl : Nat) (C Z : Nat → Nat) (I : Nat → Nat → Int32) (L : Nat → Nat → Int64) (R : Nat → Nat → Nat) (Q : Option Value → Hp → Prop) (i j : Nat), Wp 51 23 (ls) (.ref j :: .ref i :: st) (n, sl, C, Z, I, L, R) Q ↔ (inG 7 (C i) = true ∧ Wp 51 26 (ls) (st) (n, sl, C, Z, I, L, u2 R i 5 j) Q)) ∧
  (∀ (ls : Lo) (st : List Value) (h : Hp) (Q : Option Value → Hp → Prop)  (i : Nat), Wp 51 26 (some (.ref i) :: ls) (st) h Q ↔ Wp 51 27 (some (.ref i) :: ls) (.ref i :: st) h Q) ∧
  (∀ (ls : Lo) (st : List Value) (h : Hp) (Q : Option Value → Hp → Prop), Wp 51 27 (ls) (st) h Q ↔ Wp 51 28 (ls) (.int (1) :: st) h Q) ∧
  (∀ (ls : Lo) (st : List Value) (n sl : Nat) (C Z : Nat → Nat) (I : Nat → Nat → Int32) (L : Nat → Nat → Int64) (R : Nat → Nat → Nat) (Q : Option Value → Hp → Prop) (x : Int32), Wp 51 28 (ls) (.int x :: st) (n, sl, C, Z, I, L, R) Q ↔ ((¬ x < 0 ∧ ix x ≤ 1000) ∧ Wp 51 30 (ls) (.ref (n + 1) :: st) (n + 1, sl + ix x, va_up C (n + 1) 21, va_up Z (n + 1) (ix x), va_up I (n + 1) (fun _ => 0), va_up L (n + 1) (fun _ => 0), va_up R (n + 1) (fun _ => 0)) Q)) ∧
  (∀ (ls : Lo) (st : List Value) (n sl : Nat) (C Z : Nat → Nat) (I : Nat → Nat → Int32) (L : Nat → Nat → Int64) (R : Nat → Nat → Nat) (Q : Option Value → Hp → Prop) (i j : Nat), Wp 51 30 (ls) (.ref j :: .ref i :: st) (n, sl, C, Z, I, L, R) Q ↔ (inG 7 (C i) = true ∧ Wp 51 33 (ls) (st) (n, sl, C, Z, I, L, u2 R i 6 j) Q)) ∧
  (∀ (ls : Lo) (st : List Value) (h : Hp) (Q : Option Value → Hp → Prop)  (i : Nat), Wp 51 33 (some (.ref i) :: ls) (st) h Q ↔ Wp 51 34 (some (.ref i) :: ls) (.ref i :: st) h Q) ∧
  (∀ (ls : Lo) (st : List Value) (h : Hp) (Q : Option Value → Hp → Prop) (l0 : Option Value) (x : Int32), Wp 51 34 (l0 :: some (.int x) :: ls) (st) h Q ↔ Wp 51 35 (l0 :: some (.int x) :: ls) (.int x :: st) h Q) ∧
  (∀ (ls : Lo) (st : List Value) (n sl : Nat) (C Z : Nat → Nat) (I : Nat → Nat → Int32) (L : Nat → Nat → Int64) (R : Nat → Nat → Nat) (Q : Option Value → Hp → Prop) (i : Nat) (x : Int32), Wp 51 35 (ls) (.int x :: .ref i :: st) (n, sl, C, Z, I, L, R) Q ↔ (inG 7 (C i) = true ∧ Wp 51 38 (ls) (st) (n, sl, C, Z, u2 I i 0 x, L, R) Q)) ∧
  (∀ (ls : Lo) (st : List Value) (h : Hp) (Q : Option Value → Hp → Prop)  (i : Nat), Wp 51 38 (some (.ref i) :: ls) (st) h Q ↔ Wp 51 39 (some (.ref i) :: ls) (.ref i :: st) h Q) ∧
  (∀ (ls : Lo) (st : List Value) (h : Hp) (Q : Option Value → Hp → Prop) (l0 l1 : Option Value) (x : Int32), Wp 51 39 (l0 :: l1 :: some (.int x) :: ls) (st) h Q ↔ Wp 51 40 (l0 :: l1 :: some (.int x) :: ls) (.int x :: st) h Q) ∧
  (∀ (ls : Lo) (st : List Value) (n sl : Nat) (C Z : Nat → Nat) (I : Nat → Nat → Int32) (L : Nat → Nat → Int64) (R : Nat → Nat → Nat) (Q : Option Value → Hp → Prop) (i : Nat) (x : Int32), Wp 51 40 (ls) (.int x :: .ref i :: st) (n, sl, C, Z, I, L, R) Q ↔ (inG 7 (C i) = true ∧ Wp 51 43 (ls) (st) (n, sl, C, Z, u2 I i 1 x, L, R) Q)) ∧
  (∀ (ls : Lo) (st : List Value) (h : Hp) (Q : Option Value → Hp → Prop)  (i : Nat), Wp 51 43 (some (.ref i) :: ls) (st) h Q ↔ Wp 51 44 (some (.ref i) :: ls) (.ref i :: st) h Q) := ⟨by intro ls st h Q i; exact e_aload_n d51_0 rfl,
  by intro ls st h Q i; exact e_oi (na := 0) d51_1 rfl (by decide +kernel),
  by intro ls st h Q i; exact e_aload_n d51_4 rfl,
  by intro ls st h Q; exact e_bipush d51_5 rfl,
  by intro ls st n sl C Z I L R Q x; exact e_newI d51_7,
  by intro ls st n sl C Z I L R Q i j; exact e_putR (g := 7) (s := 3) d51_9 rfl (Or.inr ⟨by decide +kernel, rfl, rfl⟩) rfl,
  by intro ls st h Q i; exact e_aload_n d51_12 rfl,
  by intro ls st h Q; exact e_iconst d51_13 rfl,
  by intro ls st n sl C Z I L R Q x; exact e_newI d51_14,
  by intro ls st n sl C Z I L R Q i j; exact e_putR (g := 7) (s := 4) d51_16 rfl (Or.inr ⟨by decide +kernel, rfl, rfl⟩) rfl,
  by intro ls st h Q i; exact e_aload_n d51_19 rfl,
  by intro ls st h Q; exact e_iconst d51_20 rfl,
  by intro ls st n sl C Z I L R Q x; exact e_newI d51_21,
  by intro ls st n sl C Z I L R Q i j; exact e_putR (g := 7) (s := 5) d51_23 rfl (Or.inr ⟨by decide +kernel, rfl, rfl⟩) rfl,
  by intro ls st h Q i; exact e_aload_n d51_26 rfl,
  by intro ls st h Q; exact e_iconst d51_27 rfl,
  by intro ls st n sl C Z I L R Q x; exact e_newI d51_28,
  by intro ls st n sl C Z I L R Q i j; exact e_putR (g := 7) (s := 6) d51_30 rfl (Or.inr ⟨by decide +kernel, rfl, rfl⟩) rfl,
  by intro ls st h Q i; exact e_aload_n d51_33 rfl,
  by intro ls st h Q l0 x; exact e_iload_n d51_34 rfl,
  by intro ls st n sl C Z I L R Q i x; exact e_putI (g := 7) (s := 0) d51_35 rfl (Or.inr ⟨by decide +kernel, rfl, rfl⟩) rfl,
  by intro ls st h Q i; exact e_aload_n d51_38 rfl,
  by intro ls st h Q l0 l1 x; exact e_iload_n d51_39 rfl,
  by intro ls st n sl C Z I L R Q i x; exact e_putI (g := 7) (s := 1) d51_40 rfl (Or.inr ⟨by decide +kernel, rfl, rfl⟩) rfl,
  by intro ls st h Q i; exact e_aload_n d51_43 rfl⟩
set_option maxRecDepth 20000 in
theorem S51_1 : (∀ (ls : Lo) (st : List Value) (h : Hp) (Q : Option Value → Hp → Prop) (l0 l1 l2 : Option Value) (x : Int32), Wp 51 44 (l0 :: l1 :: l2 :: some (.int x) :: ls) (st) h Q ↔ Wp 51 45 (l0 :: l1 :: l2 :: some (.int x) :: ls) (.int x :: st) h Q) ∧
  (∀ (ls : Lo) (st : List Value) (n sl : Nat) (C Z : Nat → Nat) (I : Nat → Nat → Int32) (L : Nat → Nat → Int64) (R : Nat → Nat → Nat) (Q : Option Value → Hp → Prop) (i : Nat) (x : Int32), Wp 51 45 (ls) (.int x :: .ref i :: st) (n, sl, C, Z, I, L, R) Q ↔ (inG 7 (C i) = true ∧ Wp 51 48 (ls) (st) (n, sl, C, Z, u2 I i 2 x, L, R) Q)) ∧
  (∀ (ls : Lo) (h : Hp) (Q : Option Value → Hp → Prop), Wp 51 48 (ls) ([]) h Q ↔ Q none h) := ⟨by intro ls st h Q l0 l1 l2 x; exact e_iload_n d51_44 rfl,
  by intro ls st n sl C Z I L R Q i x; exact e_putI (g := 7) (s := 2) d51_45 rfl (Or.inr ⟨by decide +kernel, rfl, rfl⟩) rfl,
  by intros; exact e_rV d51_48 rfl⟩
theorem d52_0 : decode (byt 52) 0 = .ok (.iconst 0, 1) := by decide +kernel
theorem d52_1 : decode (byt 52) 1 = .ok (.ireturn, 1) := by decide +kernel
set_option maxRecDepth 20000 in
theorem S52_0 : (∀ (ls : Lo) (st : List Value) (h : Hp) (Q : Option Value → Hp → Prop), Wp 52 0 (ls) (st) h Q ↔ Wp 52 1 (ls) (.int (0) :: st) h Q) ∧
  (∀ (ls : Lo) (h : Hp) (Q : Option Value → Hp → Prop) (x : Int32), Wp 52 1 (ls) ([.int x]) h Q ↔ Q (some (.int x)) h) := ⟨by intro ls st h Q; exact e_iconst d52_0 rfl,
  by intros; exact e_rI (p := True) d52_1 rfl⟩
theorem d53_0 : decode (byt 53) 0 = .ok (.iload_n 1, 1) := by decide +kernel
theorem d53_1 : decode (byt 53) 1 = .ok (.tableswitch 42 0 2 #[27, 32, 37], 27) := by decide +kernel
theorem d53_28 : decode (byt 53) 28 = .ok (.aload_n 0, 1) := by decide +kernel
theorem d53_29 : decode (byt 53) 29 = .ok (.getfield 9, 3) := by decide +kernel
theorem d53_32 : decode (byt 53) 32 = .ok (.areturn, 1) := by decide +kernel
theorem d53_33 : decode (byt 53) 33 = .ok (.aload_n 0, 1) := by decide +kernel
theorem d53_34 : decode (byt 53) 34 = .ok (.getfield 15, 3) := by decide +kernel
theorem d53_37 : decode (byt 53) 37 = .ok (.areturn, 1) := by decide +kernel
theorem d53_38 : decode (byt 53) 38 = .ok (.aload_n 0, 1) := by decide +kernel
theorem d53_39 : decode (byt 53) 39 = .ok (.getfield 18, 3) := by decide +kernel
theorem d53_42 : decode (byt 53) 42 = .ok (.areturn, 1) := by decide +kernel
theorem d53_43 : decode (byt 53) 43 = .ok (.aload_n 0, 1) := by decide +kernel
theorem d53_44 : decode (byt 53) 44 = .ok (.getfield 21, 3) := by decide +kernel
theorem d53_47 : decode (byt 53) 47 = .ok (.areturn, 1) := by decide +kernel
set_option maxRecDepth 20000 in
theorem S53_0 : (∀ (ls : Lo) (st : List Value) (h : Hp) (Q : Option Value → Hp → Prop) (l0 : Option Value) (x : Int32), Wp 53 0 (l0 :: some (.int x) :: ls) (st) h Q ↔ Wp 53 1 (l0 :: some (.int x) :: ls) (.int x :: st) h Q) ∧
  (∀ (ls : Lo) (st : List Value) (h : Hp) (Q : Option Value → Hp → Prop) (x : Int32), Wp 53 1 ls (.int x :: st) h Q ↔ Wp 53 (if x = 0 then 28 else if x = 1 then 33 else if x = 2 then 38 else 43) ls st h Q) ∧
  (∀ (ls : Lo) (st : List Value) (h : Hp) (Q : Option Value → Hp → Prop)  (i : Nat), Wp 53 28 (some (.ref i) :: ls) (st) h Q ↔ Wp 53 29 (some (.ref i) :: ls) (.ref i :: st) h Q) ∧
  (∀ (ls : Lo) (st : List Value) (n sl : Nat) (C Z : Nat → Nat) (I : Nat → Nat → Int32) (L : Nat → Nat → Int64) (R : Nat → Nat → Nat) (Q : Option Value → Hp → Prop) (i : Nat), Wp 53 29 (ls) (.ref i :: st) (n, sl, C, Z, I, L, R) Q ↔ (inG 7 (C i) = true ∧ Wp 53 32 (ls) (.ref (R i 3) :: st) (n, sl, C, Z, I, L, R) Q)) ∧
  (∀ (ls : Lo) (h : Hp) (Q : Option Value → Hp → Prop) (i : Nat), Wp 53 32 (ls) ([.ref i]) h Q ↔ Q (some (.ref i)) h) ∧
  (∀ (ls : Lo) (st : List Value) (h : Hp) (Q : Option Value → Hp → Prop)  (i : Nat), Wp 53 33 (some (.ref i) :: ls) (st) h Q ↔ Wp 53 34 (some (.ref i) :: ls) (.ref i :: st) h Q) ∧
  (∀ (ls : Lo) (st : List Value) (n sl : Nat) (C Z : Nat → Nat) (I : Nat → Nat → Int32) (L : Nat → Nat → Int64) (R : Nat → Nat → Nat) (Q : Option Value → Hp → Prop) (i : Nat), Wp 53 34 (ls) (.ref i :: st) (n, sl, C, Z, I, L, R) Q ↔ (inG 7 (C i) = true ∧ Wp 53 37 (ls) (.ref (R i 4) :: st) (n, sl, C, Z, I, L, R) Q)) ∧
  (∀ (ls : Lo) (h : Hp) (Q : Option Value → Hp → Prop) (i : Nat), Wp 53 37 (ls) ([.ref i]) h Q ↔ Q (some (.ref i)) h) ∧
  (∀ (ls : Lo) (st : List Value) (h : Hp) (Q : Option Value → Hp → Prop)  (i : Nat), Wp 53 38 (some (.ref i) :: ls) (st) h Q ↔ Wp 53 39 (some (.ref i) :: ls) (.ref i :: st) h Q) ∧
  (∀ (ls : Lo) (st : List Value) (n sl : Nat) (C Z : Nat → Nat) (I : Nat → Nat → Int32) (L : Nat → Nat → Int64) (R : Nat → Nat → Nat) (Q : Option Value → Hp → Prop) (i : Nat), Wp 53 39 (ls) (.ref i :: st) (n, sl, C, Z, I, L, R) Q ↔ (inG 7 (C i) = true ∧ Wp 53 42 (ls) (.ref (R i 5) :: st) (n, sl, C, Z, I, L, R) Q)) ∧
  (∀ (ls : Lo) (h : Hp) (Q : Option Value → Hp → Prop) (i : Nat), Wp 53 42 (ls) ([.ref i]) h Q ↔ Q (some (.ref i)) h) ∧
  (∀ (ls : Lo) (st : List Value) (h : Hp) (Q : Option Value → Hp → Prop)  (i : Nat), Wp 53 43 (some (.ref i) :: ls) (st) h Q ↔ Wp 53 44 (some (.ref i) :: ls) (.ref i :: st) h Q) ∧
  (∀ (ls : Lo) (st : List Value) (n sl : Nat) (C Z : Nat → Nat) (I : Nat → Nat → Int32) (L : Nat → Nat → Int64) (R : Nat → Nat → Nat) (Q : Option Value → Hp → Prop) (i : Nat), Wp 53 44 (ls) (.ref i :: st) (n, sl, C, Z, I, L, R) Q ↔ (inG 7 (C i) = true ∧ Wp 53 47 (ls) (.ref (R i 6) :: st) (n, sl, C, Z, I, L, R) Q)) ∧
  (∀ (ls : Lo) (h : Hp) (Q : Option Value → Hp → Prop) (i : Nat), Wp 53 47 (ls) ([.ref i]) h Q ↔ Q (some (.ref i)) h) := ⟨by intro ls st h Q l0 x; exact e_iload_n d53_0 rfl,
  by
    intro ls st h Q x
    refine e_ts d53_1 ?_
    by_cases h0 : x = 0
    · subst h0; rfl
    by_cases h1 : x = 1
    · subst h1; rfl
    by_cases h2 : x = 2
    · subst h2; rfl
    rw [if_neg h0, if_neg h1, if_neg h2]
    exact ts_out_jmp (n := 2) (t := 43) (fun j hj => by
      match j, hj with
      | 0, _ => exact h0
      | 1, _ => exact h1
      | 2, _ => exact h2
      ) (by decide) rfl,
  by intro ls st h Q i; exact e_aload_n d53_28 rfl,
  by intro ls st n sl C Z I L R Q i; exact e_get (g := 7) (s := 3) (ty := 2) d53_29 rfl rfl rfl,
  by intros; exact e_rR d53_32 (Or.inr rfl),
  by intro ls st h Q i; exact e_aload_n d53_33 rfl,
  by intro ls st n sl C Z I L R Q i; exact e_get (g := 7) (s := 4) (ty := 2) d53_34 rfl rfl rfl,
  by intros; exact e_rR d53_37 (Or.inr rfl),
  by intro ls st h Q i; exact e_aload_n d53_38 rfl,
  by intro ls st n sl C Z I L R Q i; exact e_get (g := 7) (s := 5) (ty := 2) d53_39 rfl rfl rfl,
  by intros; exact e_rR d53_42 (Or.inr rfl),
  by intro ls st h Q i; exact e_aload_n d53_43 rfl,
  by intro ls st n sl C Z I L R Q i; exact e_get (g := 7) (s := 6) (ty := 2) d53_44 rfl rfl rfl,
  by intros; exact e_rR d53_47 (Or.inr rfl)⟩
theorem d54_0 : decode (byt 54) 0 = .ok (.aload_n 2, 1) := by decide +kernel
theorem d54_1 : decode (byt 54) 1 = .ok (.getfield 34, 3) := by decide +kernel
theorem d54_4 : decode (byt 54) 4 = .ok (.bipush 40, 2) := by decide +kernel
theorem d54_6 : decode (byt 54) 6 = .ok (.if_icmp .ge 14, 3) := by decide +kernel
theorem d54_9 : decode (byt 54) 9 = .ok (.aload_n 2, 1) := by decide +kernel
theorem d54_10 : decode (byt 54) 10 = .ok (.getfield 39, 3) := by decide +kernel
theorem d54_13 : decode (byt 54) 13 = .ok (.aload_n 2, 1) := by decide +kernel
theorem d54_14 : decode (byt 54) 14 = .ok (.getfield 34, 3) := by decide +kernel
theorem d54_17 : decode (byt 54) 17 = .ok (.bipush 10, 2) := by decide +kernel
theorem d54_19 : decode (byt 54) 19 = .ok (.iastore, 1) := by decide +kernel
theorem d54_20 : decode (byt 54) 20 = .ok (.aload_n 2, 1) := by decide +kernel
theorem d54_21 : decode (byt 54) 21 = .ok (.dup, 1) := by decide +kernel
theorem d54_22 : decode (byt 54) 22 = .ok (.getfield 34, 3) := by decide +kernel
theorem d54_25 : decode (byt 54) 25 = .ok (.iconst 1, 1) := by decide +kernel
theorem d54_26 : decode (byt 54) 26 = .ok (.iadd, 1) := by decide +kernel
theorem d54_27 : decode (byt 54) 27 = .ok (.putfield 34, 3) := by decide +kernel
theorem d54_30 : decode (byt 54) 30 = .ok (.iload_n 1, 1) := by decide +kernel
theorem d54_31 : decode (byt 54) 31 = .ok (.iconst 2, 1) := by decide +kernel
theorem d54_32 : decode (byt 54) 32 = .ok (.imul, 1) := by decide +kernel
theorem d54_33 : decode (byt 54) 33 = .ok (.aload_n 0, 1) := by decide +kernel
theorem d54_34 : decode (byt 54) 34 = .ok (.getfield 28, 3) := by decide +kernel
theorem d54_37 : decode (byt 54) 37 = .ok (.iadd, 1) := by decide +kernel
theorem d54_38 : decode (byt 54) 38 = .ok (.ireturn, 1) := by decide +kernel
set_option maxRecDepth 20000 in
theorem S54_0 : (∀ (ls : Lo) (st : List Value) (h : Hp) (Q : Option Value → Hp → Prop) (l0 l1 : Option Value) (i : Nat), Wp 54 0 (l0 :: l1 :: some (.ref i) :: ls) (st) h Q ↔ Wp 54 1 (l0 :: l1 :: some (.ref i) :: ls) (.ref i :: st) h Q) ∧
  (∀ (ls : Lo) (st : List Value) (n sl : Nat) (C Z : Nat → Nat) (I : Nat → Nat → Int32) (L : Nat → Nat → Int64) (R : Nat → Nat → Nat) (Q : Option Value → Hp → Prop) (i : Nat), Wp 54 1 (ls) (.ref i :: st) (n, sl, C, Z, I, L, R) Q ↔ (C i = 9 ∧ Wp 54 4 (ls) (.int (I i 1) :: st) (n, sl, C, Z, I, L, R) Q)) ∧
  (∀ (ls : Lo) (st : List Value) (h : Hp) (Q : Option Value → Hp → Prop), Wp 54 4 (ls) (st) h Q ↔ Wp 54 6 (ls) (.int (40) :: st) h Q) ∧
  (∀ (ls : Lo) (st : List Value) (h : Hp) (Q : Option Value → Hp → Prop) (x y : Int32), Wp 54 6 (ls) (.int y :: .int x :: st) h Q ↔ Br 54 20 9 ls st h Q (y ≤ x)) ∧
  (∀ (ls : Lo) (st : List Value) (h : Hp) (Q : Option Value → Hp → Prop) (l0 l1 : Option Value) (i : Nat), Wp 54 9 (l0 :: l1 :: some (.ref i) :: ls) (st) h Q ↔ Wp 54 10 (l0 :: l1 :: some (.ref i) :: ls) (.ref i :: st) h Q) ∧
  (∀ (ls : Lo) (st : List Value) (n sl : Nat) (C Z : Nat → Nat) (I : Nat → Nat → Int32) (L : Nat → Nat → Int64) (R : Nat → Nat → Nat) (Q : Option Value → Hp → Prop) (i : Nat), Wp 54 10 (ls) (.ref i :: st) (n, sl, C, Z, I, L, R) Q ↔ (C i = 9 ∧ Wp 54 13 (ls) (.ref (R i 0) :: st) (n, sl, C, Z, I, L, R) Q)) ∧
  (∀ (ls : Lo) (st : List Value) (h : Hp) (Q : Option Value → Hp → Prop) (l0 l1 : Option Value) (i : Nat), Wp 54 13 (l0 :: l1 :: some (.ref i) :: ls) (st) h Q ↔ Wp 54 14 (l0 :: l1 :: some (.ref i) :: ls) (.ref i :: st) h Q) ∧
  (∀ (ls : Lo) (st : List Value) (n sl : Nat) (C Z : Nat → Nat) (I : Nat → Nat → Int32) (L : Nat → Nat → Int64) (R : Nat → Nat → Nat) (Q : Option Value → Hp → Prop) (i : Nat), Wp 54 14 (ls) (.ref i :: st) (n, sl, C, Z, I, L, R) Q ↔ (C i = 9 ∧ Wp 54 17 (ls) (.int (I i 1) :: st) (n, sl, C, Z, I, L, R) Q)) ∧
  (∀ (ls : Lo) (st : List Value) (h : Hp) (Q : Option Value → Hp → Prop), Wp 54 17 (ls) (st) h Q ↔ Wp 54 19 (ls) (.int (10) :: st) h Q) ∧
  (∀ (ls : Lo) (st : List Value) (n sl : Nat) (C Z : Nat → Nat) (I : Nat → Nat → Int32) (L : Nat → Nat → Int64) (R : Nat → Nat → Nat) (Q : Option Value → Hp → Prop) (i : Nat) (x y : Int32), Wp 54 19 (ls) (.int x :: .int y :: .ref i :: st) (n, sl, C, Z, I, L, R) Q ↔ ((inb y (Z i) = true ∧ C i = 21) ∧ Wp 54 20 (ls) (st) (n, sl, C, Z, u2 I i (ix y) x, L, R) Q)) ∧
  (∀ (ls : Lo) (st : List Value) (h : Hp) (Q : Option Value → Hp → Prop) (l0 l1 : Option Value) (i : Nat), Wp 54 20 (l0 :: l1 :: some (.ref i) :: ls) (st) h Q ↔ Wp 54 21 (l0 :: l1 :: some (.ref i) :: ls) (.ref i :: st) h Q) ∧
  (∀ (ls : Lo) (st : List Value) (h : Hp) (Q : Option Value → Hp → Prop) (x : Int32), Wp 54 21 (ls) (.int x :: st) h Q ↔ Wp 54 22 (ls) (.int x :: .int x :: st) h Q) ∧
  (∀ (ls : Lo) (st : List Value) (h : Hp) (Q : Option Value → Hp → Prop) (i : Nat), Wp 54 21 (ls) (.ref i :: st) h Q ↔ Wp 54 22 (ls) (.ref i :: .ref i :: st) h Q) ∧
  (∀ (ls : Lo) (st : List Value) (n sl : Nat) (C Z : Nat → Nat) (I : Nat → Nat → Int32) (L : Nat → Nat → Int64) (R : Nat → Nat → Nat) (Q : Option Value → Hp → Prop) (i : Nat), Wp 54 22 (ls) (.ref i :: st) (n, sl, C, Z, I, L, R) Q ↔ (C i = 9 ∧ Wp 54 25 (ls) (.int (I i 1) :: st) (n, sl, C, Z, I, L, R) Q)) ∧
  (∀ (ls : Lo) (st : List Value) (h : Hp) (Q : Option Value → Hp → Prop), Wp 54 25 (ls) (st) h Q ↔ Wp 54 26 (ls) (.int (1) :: st) h Q) ∧
  (∀ (ls : Lo) (st : List Value) (h : Hp) (Q : Option Value → Hp → Prop) (x y : Int32), Wp 54 26 (ls) (.int y :: .int x :: st) h Q ↔ Wp 54 27 (ls) (.int (x + y) :: st) h Q) ∧
  (∀ (ls : Lo) (st : List Value) (n sl : Nat) (C Z : Nat → Nat) (I : Nat → Nat → Int32) (L : Nat → Nat → Int64) (R : Nat → Nat → Nat) (Q : Option Value → Hp → Prop) (i : Nat) (x : Int32), Wp 54 27 (ls) (.int x :: .ref i :: st) (n, sl, C, Z, I, L, R) Q ↔ (C i = 9 ∧ Wp 54 30 (ls) (st) (n, sl, C, Z, u2 I i 1 x, L, R) Q)) ∧
  (∀ (ls : Lo) (st : List Value) (h : Hp) (Q : Option Value → Hp → Prop) (l0 : Option Value) (x : Int32), Wp 54 30 (l0 :: some (.int x) :: ls) (st) h Q ↔ Wp 54 31 (l0 :: some (.int x) :: ls) (.int x :: st) h Q) ∧
  (∀ (ls : Lo) (st : List Value) (h : Hp) (Q : Option Value → Hp → Prop), Wp 54 31 (ls) (st) h Q ↔ Wp 54 32 (ls) (.int (2) :: st) h Q) ∧
  (∀ (ls : Lo) (st : List Value) (h : Hp) (Q : Option Value → Hp → Prop) (x y : Int32), Wp 54 32 (ls) (.int y :: .int x :: st) h Q ↔ Wp 54 33 (ls) (.int (x * y) :: st) h Q) ∧
  (∀ (ls : Lo) (st : List Value) (h : Hp) (Q : Option Value → Hp → Prop)  (i : Nat), Wp 54 33 (some (.ref i) :: ls) (st) h Q ↔ Wp 54 34 (some (.ref i) :: ls) (.ref i :: st) h Q) ∧
  (∀ (ls : Lo) (st : List Value) (n sl : Nat) (C Z : Nat → Nat) (I : Nat → Nat → Int32) (L : Nat → Nat → Int64) (R : Nat → Nat → Nat) (Q : Option Value → Hp → Prop) (i : Nat), Wp 54 34 (ls) (.ref i :: st) (n, sl, C, Z, I, L, R) Q ↔ (inG 7 (C i) = true ∧ Wp 54 37 (ls) (.int (I i 1) :: st) (n, sl, C, Z, I, L, R) Q)) ∧
  (∀ (ls : Lo) (st : List Value) (h : Hp) (Q : Option Value → Hp → Prop) (x y : Int32), Wp 54 37 (ls) (.int y :: .int x :: st) h Q ↔ Wp 54 38 (ls) (.int (x + y) :: st) h Q) ∧
  (∀ (ls : Lo) (h : Hp) (Q : Option Value → Hp → Prop) (x : Int32), Wp 54 38 (ls) ([.int x]) h Q ↔ Q (some (.int x)) h) := ⟨by intro ls st h Q l0 l1 i; exact e_aload_n d54_0 rfl,
  by intro ls st n sl C Z I L R Q i; exact e_get (g := 8) (s := 1) (ty := 0) d54_1 rfl rfl (inG_ne (by decide)),
  by intro ls st h Q; exact e_bipush d54_4 rfl,
  by intro ls st h Q x y; exact e_ic d54_6 (by decide) c_ge,
  by intro ls st h Q l0 l1 i; exact e_aload_n d54_9 rfl,
  by intro ls st n sl C Z I L R Q i; exact e_get (g := 8) (s := 0) (ty := 2) d54_10 rfl rfl (inG_ne (by decide)),
  by intro ls st h Q l0 l1 i; exact e_aload_n d54_13 rfl,
  by intro ls st n sl C Z I L R Q i; exact e_get (g := 8) (s := 1) (ty := 0) d54_14 rfl rfl (inG_ne (by decide)),
  by intro ls st h Q; exact e_bipush d54_17 rfl,
  by intro ls st n sl C Z I L R Q i x y; exact e_iast d54_19,
  by intro ls st h Q l0 l1 i; exact e_aload_n d54_20 rfl,
  by intro ls st h Q x; exact e_dupI d54_21,
  by intro ls st h Q i; exact e_dupR d54_21,
  by intro ls st n sl C Z I L R Q i; exact e_get (g := 8) (s := 1) (ty := 0) d54_22 rfl rfl (inG_ne (by decide)),
  by intro ls st h Q; exact e_iconst d54_25 rfl,
  by intro ls st h Q x y; exact e_iadd d54_26,
  by intro ls st n sl C Z I L R Q i x; exact e_putI (g := 8) (s := 1) d54_27 rfl (Or.inl rfl) (inG_ne (by decide)),
  by intro ls st h Q l0 x; exact e_iload_n d54_30 rfl,
  by intro ls st h Q; exact e_iconst d54_31 rfl,
  by intro ls st h Q x y; exact e_imul d54_32,
  by intro ls st h Q i; exact e_aload_n d54_33 rfl,
  by intro ls st n sl C Z I L R Q i; exact e_get (g := 7) (s := 1) (ty := 0) d54_34 rfl rfl rfl,
  by intro ls st h Q x y; exact e_iadd d54_37,
  by intros; exact e_rI (p := True) d54_38 rfl⟩
theorem d55_0 : decode (byt 55) 0 = .ok (.aload_n 2, 1) := by decide +kernel
theorem d55_1 : decode (byt 55) 1 = .ok (.getfield 34, 3) := by decide +kernel
theorem d55_4 : decode (byt 55) 4 = .ok (.bipush 40, 2) := by decide +kernel
theorem d55_6 : decode (byt 55) 6 = .ok (.if_icmp .ge 14, 3) := by decide +kernel
theorem d55_9 : decode (byt 55) 9 = .ok (.aload_n 2, 1) := by decide +kernel
theorem d55_10 : decode (byt 55) 10 = .ok (.getfield 39, 3) := by decide +kernel
theorem d55_13 : decode (byt 55) 13 = .ok (.aload_n 2, 1) := by decide +kernel
theorem d55_14 : decode (byt 55) 14 = .ok (.getfield 34, 3) := by decide +kernel
theorem d55_17 : decode (byt 55) 17 = .ok (.bipush 11, 2) := by decide +kernel
theorem d55_19 : decode (byt 55) 19 = .ok (.iastore, 1) := by decide +kernel
theorem d55_20 : decode (byt 55) 20 = .ok (.aload_n 2, 1) := by decide +kernel
theorem d55_21 : decode (byt 55) 21 = .ok (.dup, 1) := by decide +kernel
theorem d55_22 : decode (byt 55) 22 = .ok (.getfield 34, 3) := by decide +kernel
theorem d55_25 : decode (byt 55) 25 = .ok (.iconst 1, 1) := by decide +kernel
theorem d55_26 : decode (byt 55) 26 = .ok (.iadd, 1) := by decide +kernel
theorem d55_27 : decode (byt 55) 27 = .ok (.putfield 34, 3) := by decide +kernel
theorem d55_30 : decode (byt 55) 30 = .ok (.aload_n 0, 1) := by decide +kernel
theorem d55_31 : decode (byt 55) 31 = .ok (.iload_n 1, 1) := by decide +kernel
theorem d55_32 : decode (byt 55) 32 = .ok (.aload_n 2, 1) := by decide +kernel
theorem d55_33 : decode (byt 55) 33 = .ok (.invokevirtual 42, 3) := by decide +kernel
theorem d55_36 : decode (byt 55) 36 = .ok (.aload_n 0, 1) := by decide +kernel
theorem d55_37 : decode (byt 55) 37 = .ok (.getfield 24, 3) := by decide +kernel
theorem d55_40 : decode (byt 55) 40 = .ok (.isub, 1) := by decide +kernel
theorem d55_41 : decode (byt 55) 41 = .ok (.ireturn, 1) := by decide +kernel
set_option maxRecDepth 20000 in
theorem S55_0 : (∀ (ls : Lo) (st : List Value) (h : Hp) (Q : Option Value → Hp → Prop) (l0 l1 : Option Value) (i : Nat), Wp 55 0 (l0 :: l1 :: some (.ref i) :: ls) (st) h Q ↔ Wp 55 1 (l0 :: l1 :: some (.ref i) :: ls) (.ref i :: st) h Q) ∧
  (∀ (ls : Lo) (st : List Value) (n sl : Nat) (C Z : Nat → Nat) (I : Nat → Nat → Int32) (L : Nat → Nat → Int64) (R : Nat → Nat → Nat) (Q : Option Value → Hp → Prop) (i : Nat), Wp 55 1 (ls) (.ref i :: st) (n, sl, C, Z, I, L, R) Q ↔ (C i = 9 ∧ Wp 55 4 (ls) (.int (I i 1) :: st) (n, sl, C, Z, I, L, R) Q)) ∧
  (∀ (ls : Lo) (st : List Value) (h : Hp) (Q : Option Value → Hp → Prop), Wp 55 4 (ls) (st) h Q ↔ Wp 55 6 (ls) (.int (40) :: st) h Q) ∧
  (∀ (ls : Lo) (st : List Value) (h : Hp) (Q : Option Value → Hp → Prop) (x y : Int32), Wp 55 6 (ls) (.int y :: .int x :: st) h Q ↔ Br 55 20 9 ls st h Q (y ≤ x)) ∧
  (∀ (ls : Lo) (st : List Value) (h : Hp) (Q : Option Value → Hp → Prop) (l0 l1 : Option Value) (i : Nat), Wp 55 9 (l0 :: l1 :: some (.ref i) :: ls) (st) h Q ↔ Wp 55 10 (l0 :: l1 :: some (.ref i) :: ls) (.ref i :: st) h Q) ∧
  (∀ (ls : Lo) (st : List Value) (n sl : Nat) (C Z : Nat → Nat) (I : Nat → Nat → Int32) (L : Nat → Nat → Int64) (R : Nat → Nat → Nat) (Q : Option Value → Hp → Prop) (i : Nat), Wp 55 10 (ls) (.ref i :: st) (n, sl, C, Z, I, L, R) Q ↔ (C i = 9 ∧ Wp 55 13 (ls) (.ref (R i 0) :: st) (n, sl, C, Z, I, L, R) Q)) ∧
  (∀ (ls : Lo) (st : List Value) (h : Hp) (Q : Option Value → Hp → Prop) (l0 l1 : Option Value) (i : Nat), Wp 55 13 (l0 :: l1 :: some (.ref i) :: ls) (st) h Q ↔ Wp 55 14 (l0 :: l1 :: some (.ref i) :: ls) (.ref i :: st) h Q) ∧
  (∀ (ls : Lo) (st : List Value) (n sl : Nat) (C Z : Nat → Nat) (I : Nat → Nat → Int32) (L : Nat → Nat → Int64) (R : Nat → Nat → Nat) (Q : Option Value → Hp → Prop) (i : Nat), Wp 55 14 (ls) (.ref i :: st) (n, sl, C, Z, I, L, R) Q ↔ (C i = 9 ∧ Wp 55 17 (ls) (.int (I i 1) :: st) (n, sl, C, Z, I, L, R) Q)) ∧
  (∀ (ls : Lo) (st : List Value) (h : Hp) (Q : Option Value → Hp → Prop), Wp 55 17 (ls) (st) h Q ↔ Wp 55 19 (ls) (.int (11) :: st) h Q) ∧
  (∀ (ls : Lo) (st : List Value) (n sl : Nat) (C Z : Nat → Nat) (I : Nat → Nat → Int32) (L : Nat → Nat → Int64) (R : Nat → Nat → Nat) (Q : Option Value → Hp → Prop) (i : Nat) (x y : Int32), Wp 55 19 (ls) (.int x :: .int y :: .ref i :: st) (n, sl, C, Z, I, L, R) Q ↔ ((inb y (Z i) = true ∧ C i = 21) ∧ Wp 55 20 (ls) (st) (n, sl, C, Z, u2 I i (ix y) x, L, R) Q)) ∧
  (∀ (ls : Lo) (st : List Value) (h : Hp) (Q : Option Value → Hp → Prop) (l0 l1 : Option Value) (i : Nat), Wp 55 20 (l0 :: l1 :: some (.ref i) :: ls) (st) h Q ↔ Wp 55 21 (l0 :: l1 :: some (.ref i) :: ls) (.ref i :: st) h Q) ∧
  (∀ (ls : Lo) (st : List Value) (h : Hp) (Q : Option Value → Hp → Prop) (x : Int32), Wp 55 21 (ls) (.int x :: st) h Q ↔ Wp 55 22 (ls) (.int x :: .int x :: st) h Q) ∧
  (∀ (ls : Lo) (st : List Value) (h : Hp) (Q : Option Value → Hp → Prop) (i : Nat), Wp 55 21 (ls) (.ref i :: st) h Q ↔ Wp 55 22 (ls) (.ref i :: .ref i :: st) h Q) ∧
  (∀ (ls : Lo) (st : List Value) (n sl : Nat) (C Z : Nat → Nat) (I : Nat → Nat → Int32) (L : Nat → Nat → Int64) (R : Nat → Nat → Nat) (Q : Option Value → Hp → Prop) (i : Nat), Wp 55 22 (ls) (.ref i :: st) (n, sl, C, Z, I, L, R) Q ↔ (C i = 9 ∧ Wp 55 25 (ls) (.int (I i 1) :: st) (n, sl, C, Z, I, L, R) Q)) ∧
  (∀ (ls : Lo) (st : List Value) (h : Hp) (Q : Option Value → Hp → Prop), Wp 55 25 (ls) (st) h Q ↔ Wp 55 26 (ls) (.int (1) :: st) h Q) ∧
  (∀ (ls : Lo) (st : List Value) (h : Hp) (Q : Option Value → Hp → Prop) (x y : Int32), Wp 55 26 (ls) (.int y :: .int x :: st) h Q ↔ Wp 55 27 (ls) (.int (x + y) :: st) h Q) ∧
  (∀ (ls : Lo) (st : List Value) (n sl : Nat) (C Z : Nat → Nat) (I : Nat → Nat → Int32) (L : Nat → Nat → Int64) (R : Nat → Nat → Nat) (Q : Option Value → Hp → Prop) (i : Nat) (x : Int32), Wp 55 27 (ls) (.int x :: .ref i :: st) (n, sl, C, Z, I, L, R) Q ↔ (C i = 9 ∧ Wp 55 30 (ls) (st) (n, sl, C, Z, u2 I i 1 x, L, R) Q)) ∧
  (∀ (ls : Lo) (st : List Value) (h : Hp) (Q : Option Value → Hp → Prop)  (i : Nat), Wp 55 30 (some (.ref i) :: ls) (st) h Q ↔ Wp 55 31 (some (.ref i) :: ls) (.ref i :: st) h Q) ∧
  (∀ (ls : Lo) (st : List Value) (h : Hp) (Q : Option Value → Hp → Prop) (l0 : Option Value) (x : Int32), Wp 55 31 (l0 :: some (.int x) :: ls) (st) h Q ↔ Wp 55 32 (l0 :: some (.int x) :: ls) (.int x :: st) h Q) ∧
  (∀ (ls : Lo) (st : List Value) (h : Hp) (Q : Option Value → Hp → Prop) (l0 l1 : Option Value) (i : Nat), Wp 55 32 (l0 :: l1 :: some (.ref i) :: ls) (st) h Q ↔ Wp 55 33 (l0 :: l1 :: some (.ref i) :: ls) (.ref i :: st) h Q) ∧
  (∀ (ls : Lo) (st : List Value) (n sl : Nat) (C Z : Nat → Nat) (I : Nat → Nat → Int32) (L : Nat → Nat → Int64) (R : Nat → Nat → Nat) (Q : Option Value → Hp → Prop) (x0 : Int32) (x1 : Nat) (i : Nat), C i = 2 → (Wp 55 33 (ls) (.ref x1 :: .int x0 :: .ref i :: st) (n, sl, C, Z, I, L, R) Q ↔ (wsum st ≤ 8 ∧ Call 11 [some (.ref i), some (.int x0), some (.ref x1)] (n, sl, C, Z, I, L, R) 55 36 ls st Q))) ∧
  (∀ (ls : Lo) (st : List Value) (n sl : Nat) (C Z : Nat → Nat) (I : Nat → Nat → Int32) (L : Nat → Nat → Int64) (R : Nat → Nat → Nat) (Q : Option Value → Hp → Prop) (x0 : Int32) (x1 : Nat) (i : Nat), C i = 5 → (Wp 55 33 (ls) (.ref x1 :: .int x0 :: .ref i :: st) (n, sl, C, Z, I, L, R) Q ↔ (wsum st ≤ 8 ∧ Call 54 [some (.ref i), some (.int x0), some (.ref x1)] (n, sl, C, Z, I, L, R) 55 36 ls st Q))) ∧
  (∀ (ls : Lo) (st : List Value) (n sl : Nat) (C Z : Nat → Nat) (I : Nat → Nat → Int32) (L : Nat → Nat → Int64) (R : Nat → Nat → Nat) (Q : Option Value → Hp → Prop) (x0 : Int32) (x1 : Nat) (i : Nat), C i = 6 → (Wp 55 33 (ls) (.ref x1 :: .int x0 :: .ref i :: st) (n, sl, C, Z, I, L, R) Q ↔ (wsum st ≤ 8 ∧ Call 47 [some (.ref i), some (.int x0), some (.ref x1)] (n, sl, C, Z, I, L, R) 55 36 ls st Q))) ∧
  (∀ (ls : Lo) (st : List Value) (n sl : Nat) (C Z : Nat → Nat) (I : Nat → Nat → Int32) (L : Nat → Nat → Int64) (R : Nat → Nat → Nat) (Q : Option Value → Hp → Prop) (x0 : Int32) (x1 : Nat) (i : Nat), C i = 8 → (Wp 55 33 (ls) (.ref x1 :: .int x0 :: .ref i :: st) (n, sl, C, Z, I, L, R) Q ↔ (wsum st ≤ 8 ∧ Call 54 [some (.ref i), some (.int x0), some (.ref x1)] (n, sl, C, Z, I, L, R) 55 36 ls st Q))) ∧
  (∀ (ls : Lo) (st : List Value) (h : Hp) (Q : Option Value → Hp → Prop)  (i : Nat), Wp 55 36 (some (.ref i) :: ls) (st) h Q ↔ Wp 55 37 (some (.ref i) :: ls) (.ref i :: st) h Q) := ⟨by intro ls st h Q l0 l1 i; exact e_aload_n d55_0 rfl,
  by intro ls st n sl C Z I L R Q i; exact e_get (g := 8) (s := 1) (ty := 0) d55_1 rfl rfl (inG_ne (by decide)),
  by intro ls st h Q; exact e_bipush d55_4 rfl,
  by intro ls st h Q x y; exact e_ic d55_6 (by decide) c_ge,
  by intro ls st h Q l0 l1 i; exact e_aload_n d55_9 rfl,
  by intro ls st n sl C Z I L R Q i; exact e_get (g := 8) (s := 0) (ty := 2) d55_10 rfl rfl (inG_ne (by decide)),
  by intro ls st h Q l0 l1 i; exact e_aload_n d55_13 rfl,
  by intro ls st n sl C Z I L R Q i; exact e_get (g := 8) (s := 1) (ty := 0) d55_14 rfl rfl (inG_ne (by decide)),
  by intro ls st h Q; exact e_bipush d55_17 rfl,
  by intro ls st n sl C Z I L R Q i x y; exact e_iast d55_19,
  by intro ls st h Q l0 l1 i; exact e_aload_n d55_20 rfl,
  by intro ls st h Q x; exact e_dupI d55_21,
  by intro ls st h Q i; exact e_dupR d55_21,
  by intro ls st n sl C Z I L R Q i; exact e_get (g := 8) (s := 1) (ty := 0) d55_22 rfl rfl (inG_ne (by decide)),
  by intro ls st h Q; exact e_iconst d55_25 rfl,
  by intro ls st h Q x y; exact e_iadd d55_26,
  by intro ls st n sl C Z I L R Q i x; exact e_putI (g := 8) (s := 1) d55_27 rfl (Or.inl rfl) (inG_ne (by decide)),
  by intro ls st h Q i; exact e_aload_n d55_30 rfl,
  by intro ls st h Q l0 x; exact e_iload_n d55_31 rfl,
  by intro ls st h Q l0 l1 i; exact e_aload_n d55_32 rfl,
  by intro ls st n sl C Z I L R Q x0 x1 i hh; exact e_iv (k2 := 11) (c := 2) (as := [.int x0, .ref x1]) d55_33 rfl (by decide) rfl rfl (by decide +kernel) (Nat.le_of_ble_eq_true rfl) rfl hh,
  by intro ls st n sl C Z I L R Q x0 x1 i hh; exact e_iv (k2 := 54) (c := 5) (as := [.int x0, .ref x1]) d55_33 rfl (by decide) rfl rfl (by decide +kernel) (Nat.le_of_ble_eq_true rfl) rfl hh,
  by intro ls st n sl C Z I L R Q x0 x1 i hh; exact e_iv (k2 := 47) (c := 6) (as := [.int x0, .ref x1]) d55_33 rfl (by decide) rfl rfl (by decide +kernel) (Nat.le_of_ble_eq_true rfl) rfl hh,
  by intro ls st n sl C Z I L R Q x0 x1 i hh; exact e_iv (k2 := 54) (c := 8) (as := [.int x0, .ref x1]) d55_33 rfl (by decide) rfl rfl (by decide +kernel) (Nat.le_of_ble_eq_true rfl) rfl hh,
  by intro ls st h Q i; exact e_aload_n d55_36 rfl⟩
set_option maxRecDepth 20000 in
theorem S55_1 : (∀ (ls : Lo) (st : List Value) (n sl : Nat) (C Z : Nat → Nat) (I : Nat → Nat → Int32) (L : Nat → Nat → Int64) (R : Nat → Nat → Nat) (Q : Option Value → Hp → Prop) (i : Nat), Wp 55 37 (ls) (.ref i :: st) (n, sl, C, Z, I, L, R) Q ↔ (inG 7 (C i) = true ∧ Wp 55 40 (ls) (.int (I i 0) :: st) (n, sl, C, Z, I, L, R) Q)) ∧
  (∀ (ls : Lo) (st : List Value) (h : Hp) (Q : Option Value → Hp → Prop) (x y : Int32), Wp 55 40 (ls) (.int y :: .int x :: st) h Q ↔ Wp 55 41 (ls) (.int (x - y) :: st) h Q) ∧
  (∀ (ls : Lo) (h : Hp) (Q : Option Value → Hp → Prop) (x : Int32), Wp 55 41 (ls) ([.int x]) h Q ↔ Q (some (.int x)) h) := ⟨by intro ls st n sl C Z I L R Q i; exact e_get (g := 7) (s := 0) (ty := 0) d55_37 rfl rfl rfl,
  by intro ls st h Q x y; exact e_isub d55_40,
  by intros; exact e_rI (p := True) d55_41 rfl⟩
theorem d56_0 : decode (byt 56) 0 = .ok (.aload_n 2, 1) := by decide +kernel
theorem d56_1 : decode (byt 56) 1 = .ok (.getfield 34, 3) := by decide +kernel
theorem d56_4 : decode (byt 56) 4 = .ok (.bipush 40, 2) := by decide +kernel
theorem d56_6 : decode (byt 56) 6 = .ok (.if_icmp .ge 14, 3) := by decide +kernel
theorem d56_9 : decode (byt 56) 9 = .ok (.aload_n 2, 1) := by decide +kernel
theorem d56_10 : decode (byt 56) 10 = .ok (.getfield 39, 3) := by decide +kernel
theorem d56_13 : decode (byt 56) 13 = .ok (.aload_n 2, 1) := by decide +kernel
theorem d56_14 : decode (byt 56) 14 = .ok (.getfield 34, 3) := by decide +kernel
theorem d56_17 : decode (byt 56) 17 = .ok (.bipush 12, 2) := by decide +kernel
theorem d56_19 : decode (byt 56) 19 = .ok (.iastore, 1) := by decide +kernel
theorem d56_20 : decode (byt 56) 20 = .ok (.aload_n 2, 1) := by decide +kernel
theorem d56_21 : decode (byt 56) 21 = .ok (.dup, 1) := by decide +kernel
theorem d56_22 : decode (byt 56) 22 = .ok (.getfield 34, 3) := by decide +kernel
theorem d56_25 : decode (byt 56) 25 = .ok (.iconst 1, 1) := by decide +kernel
theorem d56_26 : decode (byt 56) 26 = .ok (.iadd, 1) := by decide +kernel
theorem d56_27 : decode (byt 56) 27 = .ok (.putfield 34, 3) := by decide +kernel
theorem d56_30 : decode (byt 56) 30 = .ok (.aload_n 0, 1) := by decide +kernel
theorem d56_31 : decode (byt 56) 31 = .ok (.iload_n 1, 1) := by decide +kernel
theorem d56_32 : decode (byt 56) 32 = .ok (.aload_n 2, 1) := by decide +kernel
theorem d56_33 : decode (byt 56) 33 = .ok (.invokevirtual 46, 3) := by decide +kernel
theorem d56_36 : decode (byt 56) 36 = .ok (.aload_n 0, 1) := by decide +kernel
theorem d56_37 : decode (byt 56) 37 = .ok (.iload_n 1, 1) := by decide +kernel
theorem d56_38 : decode (byt 56) 38 = .ok (.aload_n 0, 1) := by decide +kernel
theorem d56_39 : decode (byt 56) 39 = .ok (.getfield 31, 3) := by decide +kernel
theorem d56_42 : decode (byt 56) 42 = .ok (.iadd, 1) := by decide +kernel
theorem d56_43 : decode (byt 56) 43 = .ok (.aload_n 2, 1) := by decide +kernel
theorem d56_44 : decode (byt 56) 44 = .ok (.invokevirtual 42, 3) := by decide +kernel
theorem d56_47 : decode (byt 56) 47 = .ok (.ixor, 1) := by decide +kernel
theorem d56_48 : decode (byt 56) 48 = .ok (.ireturn, 1) := by decide +kernel
set_option maxRecDepth 20000 in
theorem S56_0 : (∀ (ls : Lo) (st : List Value) (h : Hp) (Q : Option Value → Hp → Prop) (l0 l1 : Option Value) (i : Nat), Wp 56 0 (l0 :: l1 :: some (.ref i) :: ls) (st) h Q ↔ Wp 56 1 (l0 :: l1 :: some (.ref i) :: ls) (.ref i :: st) h Q) ∧
  (∀ (ls : Lo) (st : List Value) (n sl : Nat) (C Z : Nat → Nat) (I : Nat → Nat → Int32) (L : Nat → Nat → Int64) (R : Nat → Nat → Nat) (Q : Option Value → Hp → Prop) (i : Nat), Wp 56 1 (ls) (.ref i :: st) (n, sl, C, Z, I, L, R) Q ↔ (C i = 9 ∧ Wp 56 4 (ls) (.int (I i 1) :: st) (n, sl, C, Z, I, L, R) Q)) ∧
  (∀ (ls : Lo) (st : List Value) (h : Hp) (Q : Option Value → Hp → Prop), Wp 56 4 (ls) (st) h Q ↔ Wp 56 6 (ls) (.int (40) :: st) h Q) ∧
  (∀ (ls : Lo) (st : List Value) (h : Hp) (Q : Option Value → Hp → Prop) (x y : Int32), Wp 56 6 (ls) (.int y :: .int x :: st) h Q ↔ Br 56 20 9 ls st h Q (y ≤ x)) ∧
  (∀ (ls : Lo) (st : List Value) (h : Hp) (Q : Option Value → Hp → Prop) (l0 l1 : Option Value) (i : Nat), Wp 56 9 (l0 :: l1 :: some (.ref i) :: ls) (st) h Q ↔ Wp 56 10 (l0 :: l1 :: some (.ref i) :: ls) (.ref i :: st) h Q) ∧
  (∀ (ls : Lo) (st : List Value) (n sl : Nat) (C Z : Nat → Nat) (I : Nat → Nat → Int32) (L : Nat → Nat → Int64) (R : Nat → Nat → Nat) (Q : Option Value → Hp → Prop) (i : Nat), Wp 56 10 (ls) (.ref i :: st) (n, sl, C, Z, I, L, R) Q ↔ (C i = 9 ∧ Wp 56 13 (ls) (.ref (R i 0) :: st) (n, sl, C, Z, I, L, R) Q)) ∧
  (∀ (ls : Lo) (st : List Value) (h : Hp) (Q : Option Value → Hp → Prop) (l0 l1 : Option Value) (i : Nat), Wp 56 13 (l0 :: l1 :: some (.ref i) :: ls) (st) h Q ↔ Wp 56 14 (l0 :: l1 :: some (.ref i) :: ls) (.ref i :: st) h Q) ∧
  (∀ (ls : Lo) (st : List Value) (n sl : Nat) (C Z : Nat → Nat) (I : Nat → Nat → Int32) (L : Nat → Nat → Int64) (R : Nat → Nat → Nat) (Q : Option Value → Hp → Prop) (i : Nat), Wp 56 14 (ls) (.ref i :: st) (n, sl, C, Z, I, L, R) Q ↔ (C i = 9 ∧ Wp 56 17 (ls) (.int (I i 1) :: st) (n, sl, C, Z, I, L, R) Q)) ∧
  (∀ (ls : Lo) (st : List Value) (h : Hp) (Q : Option Value → Hp → Prop), Wp 56 17 (ls) (st) h Q ↔ Wp 56 19 (ls) (.int (12) :: st) h Q) ∧
  (∀ (ls : Lo) (st : List Value) (n sl : Nat) (C Z : Nat → Nat) (I : Nat → Nat → Int32) (L : Nat → Nat → Int64) (R : Nat → Nat → Nat) (Q : Option Value → Hp → Prop) (i : Nat) (x y : Int32), Wp 56 19 (ls) (.int x :: .int y :: .ref i :: st) (n, sl, C, Z, I, L, R) Q ↔ ((inb y (Z i) = true ∧ C i = 21) ∧ Wp 56 20 (ls) (st) (n, sl, C, Z, u2 I i (ix y) x, L, R) Q)) ∧
  (∀ (ls : Lo) (st : List Value) (h : Hp) (Q : Option Value → Hp → Prop) (l0 l1 : Option Value) (i : Nat), Wp 56 20 (l0 :: l1 :: some (.ref i) :: ls) (st) h Q ↔ Wp 56 21 (l0 :: l1 :: some (.ref i) :: ls) (.ref i :: st) h Q) ∧
  (∀ (ls : Lo) (st : List Value) (h : Hp) (Q : Option Value → Hp → Prop) (x : Int32), Wp 56 21 (ls) (.int x :: st) h Q ↔ Wp 56 22 (ls) (.int x :: .int x :: st) h Q) ∧
  (∀ (ls : Lo) (st : List Value) (h : Hp) (Q : Option Value → Hp → Prop) (i : Nat), Wp 56 21 (ls) (.ref i :: st) h Q ↔ Wp 56 22 (ls) (.ref i :: .ref i :: st) h Q) ∧
  (∀ (ls : Lo) (st : List Value) (n sl : Nat) (C Z : Nat → Nat) (I : Nat → Nat → Int32) (L : Nat → Nat → Int64) (R : Nat → Nat → Nat) (Q : Option Value → Hp → Prop) (i : Nat), Wp 56 22 (ls) (.ref i :: st) (n, sl, C, Z, I, L, R) Q ↔ (C i = 9 ∧ Wp 56 25 (ls) (.int (I i 1) :: st) (n, sl, C, Z, I, L, R) Q)) ∧
  (∀ (ls : Lo) (st : List Value) (h : Hp) (Q : Option Value → Hp → Prop), Wp 56 25 (ls) (st) h Q ↔ Wp 56 26 (ls) (.int (1) :: st) h Q) ∧
  (∀ (ls : Lo) (st : List Value) (h : Hp) (Q : Option Value → Hp → Prop) (x y : Int32), Wp 56 26 (ls) (.int y :: .int x :: st) h Q ↔ Wp 56 27 (ls) (.int (x + y) :: st) h Q) ∧
  (∀ (ls : Lo) (st : List Value) (n sl : Nat) (C Z : Nat → Nat) (I : Nat → Nat → Int32) (L : Nat → Nat → Int64) (R : Nat → Nat → Nat) (Q : Option Value → Hp → Prop) (i : Nat) (x : Int32), Wp 56 27 (ls) (.int x :: .ref i :: st) (n, sl, C, Z, I, L, R) Q ↔ (C i = 9 ∧ Wp 56 30 (ls) (st) (n, sl, C, Z, u2 I i 1 x, L, R) Q)) ∧
  (∀ (ls : Lo) (st : List Value) (h : Hp) (Q : Option Value → Hp → Prop)  (i : Nat), Wp 56 30 (some (.ref i) :: ls) (st) h Q ↔ Wp 56 31 (some (.ref i) :: ls) (.ref i :: st) h Q) ∧
  (∀ (ls : Lo) (st : List Value) (h : Hp) (Q : Option Value → Hp → Prop) (l0 : Option Value) (x : Int32), Wp 56 31 (l0 :: some (.int x) :: ls) (st) h Q ↔ Wp 56 32 (l0 :: some (.int x) :: ls) (.int x :: st) h Q) ∧
  (∀ (ls : Lo) (st : List Value) (h : Hp) (Q : Option Value → Hp → Prop) (l0 l1 : Option Value) (i : Nat), Wp 56 32 (l0 :: l1 :: some (.ref i) :: ls) (st) h Q ↔ Wp 56 33 (l0 :: l1 :: some (.ref i) :: ls) (.ref i :: st) h Q) ∧
  (∀ (ls : Lo) (st : List Value) (n sl : Nat) (C Z : Nat → Nat) (I : Nat → Nat → Int32) (L : Nat → Nat → Int64) (R : Nat → Nat → Nat) (Q : Option Value → Hp → Prop) (x0 : Int32) (x1 : Nat) (i : Nat), C i = 2 → (Wp 56 33 (ls) (.ref x1 :: .int x0 :: .ref i :: st) (n, sl, C, Z, I, L, R) Q ↔ (wsum st ≤ 8 ∧ Call 55 [some (.ref i), some (.int x0), some (.ref x1)] (n, sl, C, Z, I, L, R) 56 36 ls st Q))) ∧
  (∀ (ls : Lo) (st : List Value) (n sl : Nat) (C Z : Nat → Nat) (I : Nat → Nat → Int32) (L : Nat → Nat → Int64) (R : Nat → Nat → Nat) (Q : Option Value → Hp → Prop) (x0 : Int32) (x1 : Nat) (i : Nat), C i = 5 → (Wp 56 33 (ls) (.ref x1 :: .int x0 :: .ref i :: st) (n, sl, C, Z, I, L, R) Q ↔ (wsum st ≤ 8 ∧ Call 39 [some (.ref i), some (.int x0), some (.ref x1)] (n, sl, C, Z, I, L, R) 56 36 ls st Q))) ∧
  (∀ (ls : Lo) (st : List Value) (n sl : Nat) (C Z : Nat → Nat) (I : Nat → Nat → Int32) (L : Nat → Nat → Int64) (R : Nat → Nat → Nat) (Q : Option Value → Hp → Prop) (x0 : Int32) (x1 : Nat) (i : Nat), C i = 6 → (Wp 56 33 (ls) (.ref x1 :: .int x0 :: .ref i :: st) (n, sl, C, Z, I, L, R) Q ↔ (wsum st ≤ 8 ∧ Call 39 [some (.ref i), some (.int x0), some (.ref x1)] (n, sl, C, Z, I, L, R) 56 36 ls st Q))) ∧
  (∀ (ls : Lo) (st : List Value) (n sl : Nat) (C Z : Nat → Nat) (I : Nat → Nat → Int32) (L : Nat → Nat → Int64) (R : Nat → Nat → Nat) (Q : Option Value → Hp → Prop) (x0 : Int32) (x1 : Nat) (i : Nat), C i = 8 → (Wp 56 33 (ls) (.ref x1 :: .int x0 :: .ref i :: st) (n, sl, C, Z, I, L, R) Q ↔ (wsum st ≤ 8 ∧ Call 55 [some (.ref i), some (.int x0), some (.ref x1)] (n, sl, C, Z, I, L, R) 56 36 ls st Q))) ∧
  (∀ (ls : Lo) (st : List Value) (h : Hp) (Q : Option Value → Hp → Prop)  (i : Nat), Wp 56 36 (some (.ref i) :: ls) (st) h Q ↔ Wp 56 37 (some (.ref i) :: ls) (.ref i :: st) h Q) := ⟨by intro ls st h Q l0 l1 i; exact e_aload_n d56_0 rfl,
  by intro ls st n sl C Z I L R Q i; exact e_get (g := 8) (s := 1) (ty := 0) d56_1 rfl rfl (inG_ne (by decide)),
  by intro ls st h Q; exact e_bipush d56_4 rfl,
  by intro ls st h Q x y; exact e_ic d56_6 (by decide) c_ge,
  by intro ls st h Q l0 l1 i; exact e_aload_n d56_9 rfl,
  by intro ls st n sl C Z I L R Q i; exact e_get (g := 8) (s := 0) (ty := 2) d56_10 rfl rfl (inG_ne (by decide)),
  by intro ls st h Q l0 l1 i; exact e_aload_n d56_13 rfl,
  by intro ls st n sl C Z I L R Q i; exact e_get (g := 8) (s := 1) (ty := 0) d56_14 rfl rfl (inG_ne (by decide)),
  by intro ls st h Q; exact e_bipush d56_17 rfl,
  by intro ls st n sl C Z I L R Q i x y; exact e_iast d56_19,
  by intro ls st h Q l0 l1 i; exact e_aload_n d56_20 rfl,
  by intro ls st h Q x; exact e_dupI d56_21,
  by intro ls st h Q i; exact e_dupR d56_21,
  by intro ls st n sl C Z I L R Q i; exact e_get (g := 8) (s := 1) (ty := 0) d56_22 rfl rfl (inG_ne (by decide)),
  by intro ls st h Q; exact e_iconst d56_25 rfl,
  by intro ls st h Q x y; exact e_iadd d56_26,
  by intro ls st n sl C Z I L R Q i x; exact e_putI (g := 8) (s := 1) d56_27 rfl (Or.inl rfl) (inG_ne (by decide)),
  by intro ls st h Q i; exact e_aload_n d56_30 rfl,
  by intro ls st h Q l0 x; exact e_iload_n d56_31 rfl,
  by intro ls st h Q l0 l1 i; exact e_aload_n d56_32 rfl,
  by intro ls st n sl C Z I L R Q x0 x1 i hh; exact e_iv (k2 := 55) (c := 2) (as := [.int x0, .ref x1]) d56_33 rfl (by decide) rfl rfl (by decide +kernel) (Nat.le_of_ble_eq_true rfl) rfl hh,
  by intro ls st n sl C Z I L R Q x0 x1 i hh; exact e_iv (k2 := 39) (c := 5) (as := [.int x0, .ref x1]) d56_33 rfl (by decide) rfl rfl (by decide +kernel) (Nat.le_of_ble_eq_true rfl) rfl hh,
  by intro ls st n sl C Z I L R Q x0 x1 i hh; exact e_iv (k2 := 39) (c := 6) (as := [.int x0, .ref x1]) d56_33 rfl (by decide) rfl rfl (by decide +kernel) (Nat.le_of_ble_eq_true rfl) rfl hh,
  by intro ls st n sl C Z I L R Q x0 x1 i hh; exact e_iv (k2 := 55) (c := 8) (as := [.int x0, .ref x1]) d56_33 rfl (by decide) rfl rfl (by decide +kernel) (Nat.le_of_ble_eq_true rfl) rfl hh,
  by intro ls st h Q i; exact e_aload_n d56_36 rfl⟩
set_option maxRecDepth 20000 in
theorem S56_1 : (∀ (ls : Lo) (st : List Value) (h : Hp) (Q : Option Value → Hp → Prop) (l0 : Option Value) (x : Int32), Wp 56 37 (l0 :: some (.int x) :: ls) (st) h Q ↔ Wp 56 38 (l0 :: some (.int x) :: ls) (.int x :: st) h Q) ∧
  (∀ (ls : Lo) (st : List Value) (h : Hp) (Q : Option Value → Hp → Prop)  (i : Nat), Wp 56 38 (some (.ref i) :: ls) (st) h Q ↔ Wp 56 39 (some (.ref i) :: ls) (.ref i :: st) h Q) ∧
  (∀ (ls : Lo) (st : List Value) (n sl : Nat) (C Z : Nat → Nat) (I : Nat → Nat → Int32) (L : Nat → Nat → Int64) (R : Nat → Nat → Nat) (Q : Option Value → Hp → Prop) (i : Nat), Wp 56 39 (ls) (.ref i :: st) (n, sl, C, Z, I, L, R) Q ↔ (inG 7 (C i) = true ∧ Wp 56 42 (ls) (.int (I i 2) :: st) (n, sl, C, Z, I, L, R) Q)) ∧
  (∀ (ls : Lo) (st : List Value) (h : Hp) (Q : Option Value → Hp → Prop) (x y : Int32), Wp 56 42 (ls) (.int y :: .int x :: st) h Q ↔ Wp 56 43 (ls) (.int (x + y) :: st) h Q) ∧
  (∀ (ls : Lo) (st : List Value) (h : Hp) (Q : Option Value → Hp → Prop) (l0 l1 : Option Value) (i : Nat), Wp 56 43 (l0 :: l1 :: some (.ref i) :: ls) (st) h Q ↔ Wp 56 44 (l0 :: l1 :: some (.ref i) :: ls) (.ref i :: st) h Q) ∧
  (∀ (ls : Lo) (st : List Value) (n sl : Nat) (C Z : Nat → Nat) (I : Nat → Nat → Int32) (L : Nat → Nat → Int64) (R : Nat → Nat → Nat) (Q : Option Value → Hp → Prop) (x0 : Int32) (x1 : Nat) (i : Nat), C i = 2 → (Wp 56 44 (ls) (.ref x1 :: .int x0 :: .ref i :: st) (n, sl, C, Z, I, L, R) Q ↔ (wsum st ≤ 8 ∧ Call 11 [some (.ref i), some (.int x0), some (.ref x1)] (n, sl, C, Z, I, L, R) 56 47 ls st Q))) ∧
  (∀ (ls : Lo) (st : List Value) (n sl : Nat) (C Z : Nat → Nat) (I : Nat → Nat → Int32) (L : Nat → Nat → Int64) (R : Nat → Nat → Nat) (Q : Option Value → Hp → Prop) (x0 : Int32) (x1 : Nat) (i : Nat), C i = 5 → (Wp 56 44 (ls) (.ref x1 :: .int x0 :: .ref i :: st) (n, sl, C, Z, I, L, R) Q ↔ (wsum st ≤ 8 ∧ Call 54 [some (.ref i), some (.int x0), some (.ref x1)] (n, sl, C, Z, I, L, R) 56 47 ls st Q))) ∧
  (∀ (ls : Lo) (st : List Value) (n sl : Nat) (C Z : Nat → Nat) (I : Nat → Nat → Int32) (L : Nat → Nat → Int64) (R : Nat → Nat → Nat) (Q : Option Value → Hp → Prop) (x0 : Int32) (x1 : Nat) (i : Nat), C i = 6 → (Wp 56 44 (ls) (.ref x1 :: .int x0 :: .ref i :: st) (n, sl, C, Z, I, L, R) Q ↔ (wsum st ≤ 8 ∧ Call 47 [some (.ref i), some (.int x0), some (.ref x1)] (n, sl, C, Z, I, L, R) 56 47 ls st Q))) ∧
  (∀ (ls : Lo) (st : List Value) (n sl : Nat) (C Z : Nat → Nat) (I : Nat → Nat → Int32) (L : Nat → Nat → Int64) (R : Nat → Nat → Nat) (Q : Option Value → Hp → Prop) (x0 : Int32) (x1 : Nat) (i : Nat), C i = 8 → (Wp 56 44 (ls) (.ref x1 :: .int x0 :: .ref i :: st) (n, sl, C, Z, I, L, R) Q ↔ (wsum st ≤ 8 ∧ Call 54 [some (.ref i), some (.int x0), some (.ref x1)] (n, sl, C, Z, I, L, R) 56 47 ls st Q))) ∧
  (∀ (ls : Lo) (st : List Value) (h : Hp) (Q : Option Value → Hp → Prop) (x y : Int32), Wp 56 47 (ls) (.int y :: .int x :: st) h Q ↔ Wp 56 48 (ls) (.int (x ^^^ y) :: st) h Q) ∧
  (∀ (ls : Lo) (h : Hp) (Q : Option Value → Hp → Prop) (x : Int32), Wp 56 48 (ls) ([.int x]) h Q ↔ Q (some (.int x)) h) := ⟨by intro ls st h Q l0 x; exact e_iload_n d56_37 rfl,
  by intro ls st h Q i; exact e_aload_n d56_38 rfl,
  by intro ls st n sl C Z I L R Q i; exact e_get (g := 7) (s := 2) (ty := 0) d56_39 rfl rfl rfl,
  by intro ls st h Q x y; exact e_iadd d56_42,
  by intro ls st h Q l0 l1 i; exact e_aload_n d56_43 rfl,
  by intro ls st n sl C Z I L R Q x0 x1 i hh; exact e_iv (k2 := 11) (c := 2) (as := [.int x0, .ref x1]) d56_44 rfl (by decide) rfl rfl (by decide +kernel) (Nat.le_of_ble_eq_true rfl) rfl hh,
  by intro ls st n sl C Z I L R Q x0 x1 i hh; exact e_iv (k2 := 54) (c := 5) (as := [.int x0, .ref x1]) d56_44 rfl (by decide) rfl rfl (by decide +kernel) (Nat.le_of_ble_eq_true rfl) rfl hh,
  by intro ls st n sl C Z I L R Q x0 x1 i hh; exact e_iv (k2 := 47) (c := 6) (as := [.int x0, .ref x1]) d56_44 rfl (by decide) rfl rfl (by decide +kernel) (Nat.le_of_ble_eq_true rfl) rfl hh,
  by intro ls st n sl C Z I L R Q x0 x1 i hh; exact e_iv (k2 := 54) (c := 8) (as := [.int x0, .ref x1]) d56_44 rfl (by decide) rfl rfl (by decide +kernel) (Nat.le_of_ble_eq_true rfl) rfl hh,
  by intro ls st h Q x y; exact e_ixor d56_47,
  by intros; exact e_rI (p := True) d56_48 rfl⟩
theorem d57_0 : decode (byt 57) 0 = .ok (.aload_n 0, 1) := by decide +kernel
theorem d57_1 : decode (byt 57) 1 = .ok (.invokespecial 3, 3) := by decide +kernel
theorem d57_4 : decode (byt 57) 4 = .ok (.aload_n 0, 1) := by decide +kernel
theorem d57_5 : decode (byt 57) 5 = .ok (.bipush 40, 2) := by decide +kernel
theorem d57_7 : decode (byt 57) 7 = .ok (.newarray .int, 2) := by decide +kernel
theorem d57_9 : decode (byt 57) 9 = .ok (.putfield 9, 3) := by decide +kernel
theorem d57_12 : decode (byt 57) 12 = .ok (.aload_n 0, 1) := by decide +kernel
theorem d57_13 : decode (byt 57) 13 = .ok (.iconst 0, 1) := by decide +kernel
theorem d57_14 : decode (byt 57) 14 = .ok (.putfield 15, 3) := by decide +kernel
theorem d57_17 : decode (byt 57) 17 = .ok (.return_, 1) := by decide +kernel
set_option maxRecDepth 20000 in
theorem S57_0 : (∀ (ls : Lo) (st : List Value) (h : Hp) (Q : Option Value → Hp → Prop)  (i : Nat), Wp 57 0 (some (.ref i) :: ls) (st) h Q ↔ Wp 57 1 (some (.ref i) :: ls) (.ref i :: st) h Q) ∧
  (∀ (ls : Lo) (st : List Value) (h : Hp) (Q : Option Value → Hp → Prop) (i : Nat), Wp 57 1 (ls) (.ref i :: st) h Q ↔ ((wsum st ≤ 8 ∧ i ≠ 0) ∧ Wp 57 4 (ls) (st) h Q)) ∧
  (∀ (ls : Lo) (st : List Value) (h : Hp) (Q : Option Value → Hp → Prop)  (i : Nat), Wp 57 4 (some (.ref i) :: ls) (st) h Q ↔ Wp 57 5 (some (.ref i) :: ls) (.ref i :: st) h Q) ∧
  (∀ (ls : Lo) (st : List Value) (h : Hp) (Q : Option Value → Hp → Prop), Wp 57 5 (ls) (st) h Q ↔ Wp 57 7 (ls) (.int (40) :: st) h Q) ∧
  (∀ (ls : Lo) (st : List Value) (n sl : Nat) (C Z : Nat → Nat) (I : Nat → Nat → Int32) (L : Nat → Nat → Int64) (R : Nat → Nat → Nat) (Q : Option Value → Hp → Prop) (x : Int32), Wp 57 7 (ls) (.int x :: st) (n, sl, C, Z, I, L, R) Q ↔ ((¬ x < 0 ∧ ix x ≤ 1000) ∧ Wp 57 9 (ls) (.ref (n + 1) :: st) (n + 1, sl + ix x, va_up C (n + 1) 21, va_up Z (n + 1) (ix x), va_up I (n + 1) (fun _ => 0), va_up L (n + 1) (fun _ => 0), va_up R (n + 1) (fun _ => 0)) Q)) ∧
  (∀ (ls : Lo) (st : List Value) (n sl : Nat) (C Z : Nat → Nat) (I : Nat → Nat → Int32) (L : Nat → Nat → Int64) (R : Nat → Nat → Nat) (Q : Option Value → Hp → Prop) (i j : Nat), Wp 57 9 (ls) (.ref j :: .ref i :: st) (n, sl, C, Z, I, L, R) Q ↔ (C i = 9 ∧ Wp 57 12 (ls) (st) (n, sl, C, Z, I, L, u2 R i 0 j) Q)) ∧
  (∀ (ls : Lo) (st : List Value) (h : Hp) (Q : Option Value → Hp → Prop)  (i : Nat), Wp 57 12 (some (.ref i) :: ls) (st) h Q ↔ Wp 57 13 (some (.ref i) :: ls) (.ref i :: st) h Q) ∧
  (∀ (ls : Lo) (st : List Value) (h : Hp) (Q : Option Value → Hp → Prop), Wp 57 13 (ls) (st) h Q ↔ Wp 57 14 (ls) (.int (0) :: st) h Q) ∧
  (∀ (ls : Lo) (st : List Value) (n sl : Nat) (C Z : Nat → Nat) (I : Nat → Nat → Int32) (L : Nat → Nat → Int64) (R : Nat → Nat → Nat) (Q : Option Value → Hp → Prop) (i : Nat) (x : Int32), Wp 57 14 (ls) (.int x :: .ref i :: st) (n, sl, C, Z, I, L, R) Q ↔ (C i = 9 ∧ Wp 57 17 (ls) (st) (n, sl, C, Z, u2 I i 1 x, L, R) Q)) ∧
  (∀ (ls : Lo) (h : Hp) (Q : Option Value → Hp → Prop), Wp 57 17 (ls) ([]) h Q ↔ Q none h) := ⟨by intro ls st h Q i; exact e_aload_n d57_0 rfl,
  by intro ls st h Q i; exact e_oi (na := 0) d57_1 rfl (by decide +kernel),
  by intro ls st h Q i; exact e_aload_n d57_4 rfl,
  by intro ls st h Q; exact e_bipush d57_5 rfl,
  by intro ls st n sl C Z I L R Q x; exact e_newI d57_7,
  by intro ls st n sl C Z I L R Q i j; exact e_putR (g := 8) (s := 0) d57_9 rfl (Or.inr ⟨by decide +kernel, rfl, rfl⟩) (inG_ne (by decide)),
  by intro ls st h Q i; exact e_aload_n d57_12 rfl,
  by intro ls st h Q; exact e_iconst d57_13 rfl,
  by intro ls st n sl C Z I L R Q i x; exact e_putI (g := 8) (s := 1) d57_14 rfl (Or.inl rfl) (inG_ne (by decide)),
  by intros; exact e_rV d57_17 rfl⟩
