theorem d126_0 : decode (byt 126) 0 = .ok (.iload_n 1, 1) := by decide +kernel
theorem d126_1 : decode (byt 126) 1 = .ok (.istore_n 2, 1) := by decide +kernel
theorem d126_2 : decode (byt 126) 2 = .ok (.iload_n 2, 1) := by decide +kernel
theorem d126_3 : decode (byt 126) 3 = .ok (.ifCond .le 196, 3) := by decide +kernel
theorem d126_6 : decode (byt 126) 6 = .ok (.aload_n 0, 1) := by decide +kernel
theorem d126_7 : decode (byt 126) 7 = .ok (.getfield 65, 3) := by decide +kernel
theorem d126_10 : decode (byt 126) 10 = .ok (.iconst 0, 1) := by decide +kernel
theorem d126_11 : decode (byt 126) 11 = .ok (.laload, 1) := by decide +kernel
theorem d126_12 : decode (byt 126) 12 = .ok (.lconst 0, 1) := by decide +kernel
theorem d126_13 : decode (byt 126) 13 = .ok (.lcmp, 1) := by decide +kernel
theorem d126_14 : decode (byt 126) 14 = .ok (.ifCond .ge 13, 3) := by decide +kernel
theorem d126_17 : decode (byt 126) 17 = .ok (.aload_n 0, 1) := by decide +kernel
theorem d126_18 : decode (byt 126) 18 = .ok (.getfield 65, 3) := by decide +kernel
theorem d126_21 : decode (byt 126) 21 = .ok (.iconst 0, 1) := by decide +kernel
theorem d126_22 : decode (byt 126) 22 = .ok (.laload, 1) := by decide +kernel
theorem d126_23 : decode (byt 126) 23 = .ok (.lneg, 1) := by decide +kernel
theorem d126_24 : decode (byt 126) 24 = .ok (.goto 9, 3) := by decide +kernel
theorem d126_27 : decode (byt 126) 27 = .ok (.aload_n 0, 1) := by decide +kernel
theorem d126_28 : decode (byt 126) 28 = .ok (.getfield 65, 3) := by decide +kernel
theorem d126_31 : decode (byt 126) 31 = .ok (.iconst 0, 1) := by decide +kernel
theorem d126_32 : decode (byt 126) 32 = .ok (.laload, 1) := by decide +kernel
theorem d126_33 : decode (byt 126) 33 = .ok (.lstore_n 3, 1) := by decide +kernel
theorem d126_34 : decode (byt 126) 34 = .ok (.aload_n 0, 1) := by decide +kernel
theorem d126_35 : decode (byt 126) 35 = .ok (.getfield 65, 3) := by decide +kernel
theorem d126_38 : decode (byt 126) 38 = .ok (.iload_n 2, 1) := by decide +kernel
theorem d126_39 : decode (byt 126) 39 = .ok (.laload, 1) := by decide +kernel
theorem d126_40 : decode (byt 126) 40 = .ok (.lconst 0, 1) := by decide +kernel
theorem d126_41 : decode (byt 126) 41 = .ok (.lcmp, 1) := by decide +kernel
theorem d126_42 : decode (byt 126) 42 = .ok (.ifCond .ge 13, 3) := by decide +kernel
theorem d126_45 : decode (byt 126) 45 = .ok (.aload_n 0, 1) := by decide +kernel
theorem d126_46 : decode (byt 126) 46 = .ok (.getfield 65, 3) := by decide +kernel
theorem d126_49 : decode (byt 126) 49 = .ok (.iload_n 2, 1) := by decide +kernel
theorem d126_50 : decode (byt 126) 50 = .ok (.laload, 1) := by decide +kernel
theorem d126_51 : decode (byt 126) 51 = .ok (.lneg, 1) := by decide +kernel
theorem d126_52 : decode (byt 126) 52 = .ok (.goto 9, 3) := by decide +kernel
theorem d126_55 : decode (byt 126) 55 = .ok (.aload_n 0, 1) := by decide +kernel
theorem d126_56 : decode (byt 126) 56 = .ok (.getfield 65, 3) := by decide +kernel
theorem d126_59 : decode (byt 126) 59 = .ok (.iload_n 2, 1) := by decide +kernel
theorem d126_60 : decode (byt 126) 60 = .ok (.laload, 1) := by decide +kernel
theorem d126_61 : decode (byt 126) 61 = .ok (.lstore 5, 2) := by decide +kernel
theorem d126_63 : decode (byt 126) 63 = .ok (.lload_n 3, 1) := by decide +kernel
theorem d126_64 : decode (byt 126) 64 = .ok (.lload 5, 2) := by decide +kernel
theorem d126_66 : decode (byt 126) 66 = .ok (.lcmp, 1) := by decide +kernel
theorem d126_67 : decode (byt 126) 67 = .ok (.ifCond .lt 5, 3) := by decide +kernel
theorem d126_70 : decode (byt 126) 70 = .ok (.iconst 0, 1) := by decide +kernel
theorem d126_71 : decode (byt 126) 71 = .ok (.ireturn, 1) := by decide +kernel
theorem d126_72 : decode (byt 126) 72 = .ok (.iconst 0, 1) := by decide +kernel
theorem d126_73 : decode (byt 126) 73 = .ok (.istore 7, 2) := by decide +kernel
theorem d126_75 : decode (byt 126) 75 = .ok (.iload 7, 2) := by decide +kernel
theorem d126_77 : decode (byt 126) 77 = .ok (.iload_n 2, 1) := by decide +kernel
theorem d126_78 : decode (byt 126) 78 = .ok (.if_icmp .ge 51, 3) := by decide +kernel
theorem d126_81 : decode (byt 126) 81 = .ok (.aload_n 0, 1) := by decide +kernel
theorem d126_82 : decode (byt 126) 82 = .ok (.getfield 68, 3) := by decide +kernel
theorem d126_85 : decode (byt 126) 85 = .ok (.iload 7, 2) := by decide +kernel
theorem d126_87 : decode (byt 126) 87 = .ok (.aload_n 0, 1) := by decide +kernel
theorem d126_88 : decode (byt 126) 88 = .ok (.getfield 65, 3) := by decide +kernel
theorem d126_91 : decode (byt 126) 91 = .ok (.iload_n 2, 1) := by decide +kernel
theorem d126_92 : decode (byt 126) 92 = .ok (.laload, 1) := by decide +kernel
theorem d126_93 : decode (byt 126) 93 = .ok (.aload_n 0, 1) := by decide +kernel
theorem d126_94 : decode (byt 126) 94 = .ok (.getfield 65, 3) := by decide +kernel
theorem d126_97 : decode (byt 126) 97 = .ok (.iload 7, 2) := by decide +kernel
theorem d126_99 : decode (byt 126) 99 = .ok (.iconst 1, 1) := by decide +kernel
theorem d126_100 : decode (byt 126) 100 = .ok (.iadd, 1) := by decide +kernel
theorem d126_101 : decode (byt 126) 101 = .ok (.laload, 1) := by decide +kernel
theorem d126_102 : decode (byt 126) 102 = .ok (.lmul, 1) := by decide +kernel
theorem d126_103 : decode (byt 126) 103 = .ok (.aload_n 0, 1) := by decide +kernel
theorem d126_104 : decode (byt 126) 104 = .ok (.getfield 65, 3) := by decide +kernel
theorem d126_107 : decode (byt 126) 107 = .ok (.iconst 0, 1) := by decide +kernel
theorem d126_108 : decode (byt 126) 108 = .ok (.laload, 1) := by decide +kernel
theorem d126_109 : decode (byt 126) 109 = .ok (.aload_n 0, 1) := by decide +kernel
theorem d126_110 : decode (byt 126) 110 = .ok (.getfield 65, 3) := by decide +kernel
theorem d126_113 : decode (byt 126) 113 = .ok (.iload_n 2, 1) := by decide +kernel
theorem d126_114 : decode (byt 126) 114 = .ok (.iconst 1, 1) := by decide +kernel
theorem d126_115 : decode (byt 126) 115 = .ok (.isub, 1) := by decide +kernel
theorem d126_116 : decode (byt 126) 116 = .ok (.iload 7, 2) := by decide +kernel
theorem d126_118 : decode (byt 126) 118 = .ok (.isub, 1) := by decide +kernel
theorem d126_119 : decode (byt 126) 119 = .ok (.laload, 1) := by decide +kernel
theorem d126_120 : decode (byt 126) 120 = .ok (.lmul, 1) := by decide +kernel
theorem d126_121 : decode (byt 126) 121 = .ok (.lsub, 1) := by decide +kernel
theorem d126_122 : decode (byt 126) 122 = .ok (.lastore, 1) := by decide +kernel
theorem d126_123 : decode (byt 126) 123 = .ok (.iinc 7 1, 3) := by decide +kernel
theorem d126_126 : decode (byt 126) 126 = .ok (.goto (-51), 3) := by decide +kernel
theorem d126_129 : decode (byt 126) 129 = .ok (.lconst 0, 1) := by decide +kernel
theorem d126_130 : decode (byt 126) 130 = .ok (.lstore 7, 2) := by decide +kernel
theorem d126_132 : decode (byt 126) 132 = .ok (.iconst 0, 1) := by decide +kernel
theorem d126_133 : decode (byt 126) 133 = .ok (.istore 9, 2) := by decide +kernel
theorem d126_135 : decode (byt 126) 135 = .ok (.iload 9, 2) := by decide +kernel
theorem d126_137 : decode (byt 126) 137 = .ok (.iload_n 2, 1) := by decide +kernel
theorem d126_138 : decode (byt 126) 138 = .ok (.if_icmp .ge 23, 3) := by decide +kernel
theorem d126_141 : decode (byt 126) 141 = .ok (.lload 7, 2) := by decide +kernel
theorem d126_143 : decode (byt 126) 143 = .ok (.aload_n 0, 1) := by decide +kernel
theorem d126_144 : decode (byt 126) 144 = .ok (.getfield 68, 3) := by decide +kernel
theorem d126_147 : decode (byt 126) 147 = .ok (.iload 9, 2) := by decide +kernel
theorem d126_149 : decode (byt 126) 149 = .ok (.laload, 1) := by decide +kernel
theorem d126_150 : decode (byt 126) 150 = .ok (.invokestatic 87, 3) := by decide +kernel
theorem d126_153 : decode (byt 126) 153 = .ok (.lstore 7, 2) := by decide +kernel
theorem d126_155 : decode (byt 126) 155 = .ok (.iinc 9 1, 3) := by decide +kernel
theorem d126_158 : decode (byt 126) 158 = .ok (.goto (-23), 3) := by decide +kernel
theorem d126_161 : decode (byt 126) 161 = .ok (.iconst 0, 1) := by decide +kernel
theorem d126_162 : decode (byt 126) 162 = .ok (.istore 9, 2) := by decide +kernel
theorem d126_164 : decode (byt 126) 164 = .ok (.iload 9, 2) := by decide +kernel
theorem d126_166 : decode (byt 126) 166 = .ok (.iload_n 2, 1) := by decide +kernel
theorem d126_167 : decode (byt 126) 167 = .ok (.if_icmp .ge 26, 3) := by decide +kernel
theorem d126_170 : decode (byt 126) 170 = .ok (.aload_n 0, 1) := by decide +kernel
theorem d126_171 : decode (byt 126) 171 = .ok (.getfield 65, 3) := by decide +kernel
theorem d126_174 : decode (byt 126) 174 = .ok (.iload 9, 2) := by decide +kernel
theorem d126_176 : decode (byt 126) 176 = .ok (.aload_n 0, 1) := by decide +kernel
theorem d126_177 : decode (byt 126) 177 = .ok (.getfield 68, 3) := by decide +kernel
theorem d126_180 : decode (byt 126) 180 = .ok (.iload 9, 2) := by decide +kernel
theorem d126_182 : decode (byt 126) 182 = .ok (.laload, 1) := by decide +kernel
theorem d126_183 : decode (byt 126) 183 = .ok (.lload 7, 2) := by decide +kernel
theorem d126_185 : decode (byt 126) 185 = .ok (.ldiv, 1) := by decide +kernel
theorem d126_186 : decode (byt 126) 186 = .ok (.lastore, 1) := by decide +kernel
theorem d126_187 : decode (byt 126) 187 = .ok (.iinc 9 1, 3) := by decide +kernel
theorem d126_190 : decode (byt 126) 190 = .ok (.goto (-26), 3) := by decide +kernel
theorem d126_193 : decode (byt 126) 193 = .ok (.iinc 2 (-1), 3) := by decide +kernel
theorem d126_196 : decode (byt 126) 196 = .ok (.goto (-194), 3) := by decide +kernel
theorem d126_199 : decode (byt 126) 199 = .ok (.iconst 1, 1) := by decide +kernel
theorem d126_200 : decode (byt 126) 200 = .ok (.ireturn, 1) := by decide +kernel
set_option maxRecDepth 20000 in
theorem S126_0 : (∀ (ls : Lo) (st : List Value) (h : Hp) (Q : Option Value → Hp → Prop) (l0 : Option Value) (x : Int32), Wp 126 0 (l0 :: some (.int x) :: ls) (st) h Q ↔ Wp 126 1 (l0 :: some (.int x) :: ls) (.int x :: st) h Q) ∧
  (∀ (ls : Lo) (st : List Value) (h : Hp) (Q : Option Value → Hp → Prop) (l0 l1 l2 : Option Value) (x : Int32), Wp 126 1 (l0 :: l1 :: l2 :: ls) (.int x :: st) h Q ↔ Wp 126 2 (l0 :: clr l1 :: some (.int x) :: ls) (st) h Q) ∧
  (∀ (ls : Lo) (st : List Value) (h : Hp) (Q : Option Value → Hp → Prop) (l0 l1 : Option Value) (x : Int32), Wp 126 2 (l0 :: l1 :: some (.int x) :: ls) (st) h Q ↔ Wp 126 3 (l0 :: l1 :: some (.int x) :: ls) (.int x :: st) h Q) ∧
  (∀ (ls : Lo) (st : List Value) (h : Hp) (Q : Option Value → Hp → Prop) (x : Int32), Wp 126 3 (ls) (.int x :: st) h Q ↔ Br 126 199 6 ls st h Q (x ≤ 0)) ∧
  (∀ (ls : Lo) (st : List Value) (h : Hp) (Q : Option Value → Hp → Prop)  (i : Nat), Wp 126 6 (some (.ref i) :: ls) (st) h Q ↔ Wp 126 7 (some (.ref i) :: ls) (.ref i :: st) h Q) ∧
  (∀ (ls : Lo) (st : List Value) (n sl : Nat) (C Z : Nat → Nat) (I : Nat → Nat → Int32) (L : Nat → Nat → Int64) (R : Nat → Nat → Nat) (Q : Option Value → Hp → Prop) (i : Nat), Wp 126 7 (ls) (.ref i :: st) (n, sl, C, Z, I, L, R) Q ↔ (C i = 11 ∧ Wp 126 10 (ls) (.ref (R i 22) :: st) (n, sl, C, Z, I, L, R) Q)) ∧
  (∀ (ls : Lo) (st : List Value) (h : Hp) (Q : Option Value → Hp → Prop), Wp 126 10 (ls) (st) h Q ↔ Wp 126 11 (ls) (.int (0) :: st) h Q) ∧
  (∀ (ls : Lo) (st : List Value) (n sl : Nat) (C Z : Nat → Nat) (I : Nat → Nat → Int32) (L : Nat → Nat → Int64) (R : Nat → Nat → Nat) (Q : Option Value → Hp → Prop) (i : Nat) (y : Int32), Wp 126 11 (ls) (.int y :: .ref i :: st) (n, sl, C, Z, I, L, R) Q ↔ ((inb y (Z i) = true ∧ C i = 22) ∧ Wp 126 12 (ls) (.long (L i (ix y)) :: st) (n, sl, C, Z, I, L, R) Q)) ∧
  (∀ (ls : Lo) (st : List Value) (h : Hp) (Q : Option Value → Hp → Prop), Wp 126 12 (ls) (st) h Q ↔ Wp 126 13 (ls) (.long 0 :: st) h Q) ∧
  (∀ (ls : Lo) (st : List Value) (h : Hp) (Q : Option Value → Hp → Prop) (a b : Int64), Wp 126 13 (ls) (.long b :: .long a :: st) h Q ↔ Wp 126 14 (ls) (.int (lg_cmp a b) :: st) h Q) ∧
  (∀ (ls : Lo) (st : List Value) (h : Hp) (Q : Option Value → Hp → Prop) (x : Int32), Wp 126 14 (ls) (.int x :: st) h Q ↔ Br 126 27 17 ls st h Q (0 ≤ x)) ∧
  (∀ (ls : Lo) (st : List Value) (h : Hp) (Q : Option Value → Hp → Prop)  (i : Nat), Wp 126 17 (some (.ref i) :: ls) (st) h Q ↔ Wp 126 18 (some (.ref i) :: ls) (.ref i :: st) h Q) ∧
  (∀ (ls : Lo) (st : List Value) (n sl : Nat) (C Z : Nat → Nat) (I : Nat → Nat → Int32) (L : Nat → Nat → Int64) (R : Nat → Nat → Nat) (Q : Option Value → Hp → Prop) (i : Nat), Wp 126 18 (ls) (.ref i :: st) (n, sl, C, Z, I, L, R) Q ↔ (C i = 11 ∧ Wp 126 21 (ls) (.ref (R i 22) :: st) (n, sl, C, Z, I, L, R) Q)) ∧
  (∀ (ls : Lo) (st : List Value) (h : Hp) (Q : Option Value → Hp → Prop), Wp 126 21 (ls) (st) h Q ↔ Wp 126 22 (ls) (.int (0) :: st) h Q) ∧
  (∀ (ls : Lo) (st : List Value) (n sl : Nat) (C Z : Nat → Nat) (I : Nat → Nat → Int32) (L : Nat → Nat → Int64) (R : Nat → Nat → Nat) (Q : Option Value → Hp → Prop) (i : Nat) (y : Int32), Wp 126 22 (ls) (.int y :: .ref i :: st) (n, sl, C, Z, I, L, R) Q ↔ ((inb y (Z i) = true ∧ C i = 22) ∧ Wp 126 23 (ls) (.long (L i (ix y)) :: st) (n, sl, C, Z, I, L, R) Q)) ∧
  (∀ (ls : Lo) (st : List Value) (h : Hp) (Q : Option Value → Hp → Prop) (a : Int64), Wp 126 23 (ls) (.long a :: st) h Q ↔ Wp 126 24 (ls) (.long (-a) :: st) h Q) ∧
  (∀ (ls : Lo) (st : List Value) (h : Hp) (Q : Option Value → Hp → Prop), Wp 126 24 (ls) (st) h Q ↔ Wp 126 33 (ls) (st) h Q) ∧
  (∀ (ls : Lo) (st : List Value) (h : Hp) (Q : Option Value → Hp → Prop)  (i : Nat), Wp 126 27 (some (.ref i) :: ls) (st) h Q ↔ Wp 126 28 (some (.ref i) :: ls) (.ref i :: st) h Q) ∧
  (∀ (ls : Lo) (st : List Value) (n sl : Nat) (C Z : Nat → Nat) (I : Nat → Nat → Int32) (L : Nat → Nat → Int64) (R : Nat → Nat → Nat) (Q : Option Value → Hp → Prop) (i : Nat), Wp 126 28 (ls) (.ref i :: st) (n, sl, C, Z, I, L, R) Q ↔ (C i = 11 ∧ Wp 126 31 (ls) (.ref (R i 22) :: st) (n, sl, C, Z, I, L, R) Q)) ∧
  (∀ (ls : Lo) (st : List Value) (h : Hp) (Q : Option Value → Hp → Prop), Wp 126 31 (ls) (st) h Q ↔ Wp 126 32 (ls) (.int (0) :: st) h Q) ∧
  (∀ (ls : Lo) (st : List Value) (n sl : Nat) (C Z : Nat → Nat) (I : Nat → Nat → Int32) (L : Nat → Nat → Int64) (R : Nat → Nat → Nat) (Q : Option Value → Hp → Prop) (i : Nat) (y : Int32), Wp 126 32 (ls) (.int y :: .ref i :: st) (n, sl, C, Z, I, L, R) Q ↔ ((inb y (Z i) = true ∧ C i = 22) ∧ Wp 126 33 (ls) (.long (L i (ix y)) :: st) (n, sl, C, Z, I, L, R) Q)) ∧
  (∀ (ls : Lo) (st : List Value) (h : Hp) (Q : Option Value → Hp → Prop) (l0 l1 l2 l3 l4 : Option Value) (a : Int64), Wp 126 33 (l0 :: l1 :: l2 :: l3 :: l4 :: ls) (.long a :: st) h Q ↔ Wp 126 34 (l0 :: l1 :: clr l2 :: some (.long a) :: none :: ls) (st) h Q) ∧
  (∀ (ls : Lo) (st : List Value) (h : Hp) (Q : Option Value → Hp → Prop)  (i : Nat), Wp 126 34 (some (.ref i) :: ls) (st) h Q ↔ Wp 126 35 (some (.ref i) :: ls) (.ref i :: st) h Q) ∧
  (∀ (ls : Lo) (st : List Value) (n sl : Nat) (C Z : Nat → Nat) (I : Nat → Nat → Int32) (L : Nat → Nat → Int64) (R : Nat → Nat → Nat) (Q : Option Value → Hp → Prop) (i : Nat), Wp 126 35 (ls) (.ref i :: st) (n, sl, C, Z, I, L, R) Q ↔ (C i = 11 ∧ Wp 126 38 (ls) (.ref (R i 22) :: st) (n, sl, C, Z, I, L, R) Q)) ∧
  (∀ (ls : Lo) (st : List Value) (h : Hp) (Q : Option Value → Hp → Prop) (l0 l1 : Option Value) (x : Int32), Wp 126 38 (l0 :: l1 :: some (.int x) :: ls) (st) h Q ↔ Wp 126 39 (l0 :: l1 :: some (.int x) :: ls) (.int x :: st) h Q) := ⟨by intro ls st h Q l0 x; exact e_iload_n d126_0 rfl,
  by intro ls st h Q l0 l1 l2 x; exact e_istore_n d126_1 rfl,
  by intro ls st h Q l0 l1 x; exact e_iload_n d126_2 rfl,
  by intro ls st h Q x; exact e_if d126_3 (by decide) c_le,
  by intro ls st h Q i; exact e_aload_n d126_6 rfl,
  by intro ls st n sl C Z I L R Q i; exact e_get (g := 10) (s := 22) (ty := 2) d126_7 rfl rfl (inG_ne (by decide)),
  by intro ls st h Q; exact e_iconst d126_10 rfl,
  by intro ls st n sl C Z I L R Q i y; exact e_lald d126_11,
  by intro ls st h Q; exact e_lconst d126_12 rfl,
  by intro ls st h Q a b; exact e_lcmp d126_13,
  by intro ls st h Q x; exact e_if d126_14 (by decide) c_ge,
  by intro ls st h Q i; exact e_aload_n d126_17 rfl,
  by intro ls st n sl C Z I L R Q i; exact e_get (g := 10) (s := 22) (ty := 2) d126_18 rfl rfl (inG_ne (by decide)),
  by intro ls st h Q; exact e_iconst d126_21 rfl,
  by intro ls st n sl C Z I L R Q i y; exact e_lald d126_22,
  by intro ls st h Q a; exact e_lneg d126_23,
  by intro ls st h Q; exact e_goto d126_24 (by decide),
  by intro ls st h Q i; exact e_aload_n d126_27 rfl,
  by intro ls st n sl C Z I L R Q i; exact e_get (g := 10) (s := 22) (ty := 2) d126_28 rfl rfl (inG_ne (by decide)),
  by intro ls st h Q; exact e_iconst d126_31 rfl,
  by intro ls st n sl C Z I L R Q i y; exact e_lald d126_32,
  by intro ls st h Q l0 l1 l2 l3 l4 a; exact e_lstore_n d126_33 rfl,
  by intro ls st h Q i; exact e_aload_n d126_34 rfl,
  by intro ls st n sl C Z I L R Q i; exact e_get (g := 10) (s := 22) (ty := 2) d126_35 rfl rfl (inG_ne (by decide)),
  by intro ls st h Q l0 l1 x; exact e_iload_n d126_38 rfl⟩
set_option maxRecDepth 20000 in
theorem S126_1 : (∀ (ls : Lo) (st : List Value) (n sl : Nat) (C Z : Nat → Nat) (I : Nat → Nat → Int32) (L : Nat → Nat → Int64) (R : Nat → Nat → Nat) (Q : Option Value → Hp → Prop) (i : Nat) (y : Int32), Wp 126 39 (ls) (.int y :: .ref i :: st) (n, sl, C, Z, I, L, R) Q ↔ ((inb y (Z i) = true ∧ C i = 22) ∧ Wp 126 40 (ls) (.long (L i (ix y)) :: st) (n, sl, C, Z, I, L, R) Q)) ∧
  (∀ (ls : Lo) (st : List Value) (h : Hp) (Q : Option Value → Hp → Prop), Wp 126 40 (ls) (st) h Q ↔ Wp 126 41 (ls) (.long 0 :: st) h Q) ∧
  (∀ (ls : Lo) (st : List Value) (h : Hp) (Q : Option Value → Hp → Prop) (a b : Int64), Wp 126 41 (ls) (.long b :: .long a :: st) h Q ↔ Wp 126 42 (ls) (.int (lg_cmp a b) :: st) h Q) ∧
  (∀ (ls : Lo) (st : List Value) (h : Hp) (Q : Option Value → Hp → Prop) (x : Int32), Wp 126 42 (ls) (.int x :: st) h Q ↔ Br 126 55 45 ls st h Q (0 ≤ x)) ∧
  (∀ (ls : Lo) (st : List Value) (h : Hp) (Q : Option Value → Hp → Prop)  (i : Nat), Wp 126 45 (some (.ref i) :: ls) (st) h Q ↔ Wp 126 46 (some (.ref i) :: ls) (.ref i :: st) h Q) ∧
  (∀ (ls : Lo) (st : List Value) (n sl : Nat) (C Z : Nat → Nat) (I : Nat → Nat → Int32) (L : Nat → Nat → Int64) (R : Nat → Nat → Nat) (Q : Option Value → Hp → Prop) (i : Nat), Wp 126 46 (ls) (.ref i :: st) (n, sl, C, Z, I, L, R) Q ↔ (C i = 11 ∧ Wp 126 49 (ls) (.ref (R i 22) :: st) (n, sl, C, Z, I, L, R) Q)) ∧
  (∀ (ls : Lo) (st : List Value) (h : Hp) (Q : Option Value → Hp → Prop) (l0 l1 : Option Value) (x : Int32), Wp 126 49 (l0 :: l1 :: some (.int x) :: ls) (st) h Q ↔ Wp 126 50 (l0 :: l1 :: some (.int x) :: ls) (.int x :: st) h Q) ∧
  (∀ (ls : Lo) (st : List Value) (n sl : Nat) (C Z : Nat → Nat) (I : Nat → Nat → Int32) (L : Nat → Nat → Int64) (R : Nat → Nat → Nat) (Q : Option Value → Hp → Prop) (i : Nat) (y : Int32), Wp 126 50 (ls) (.int y :: .ref i :: st) (n, sl, C, Z, I, L, R) Q ↔ ((inb y (Z i) = true ∧ C i = 22) ∧ Wp 126 51 (ls) (.long (L i (ix y)) :: st) (n, sl, C, Z, I, L, R) Q)) ∧
  (∀ (ls : Lo) (st : List Value) (h : Hp) (Q : Option Value → Hp → Prop) (a : Int64), Wp 126 51 (ls) (.long a :: st) h Q ↔ Wp 126 52 (ls) (.long (-a) :: st) h Q) ∧
  (∀ (ls : Lo) (st : List Value) (h : Hp) (Q : Option Value → Hp → Prop), Wp 126 52 (ls) (st) h Q ↔ Wp 126 61 (ls) (st) h Q) ∧
  (∀ (ls : Lo) (st : List Value) (h : Hp) (Q : Option Value → Hp → Prop)  (i : Nat), Wp 126 55 (some (.ref i) :: ls) (st) h Q ↔ Wp 126 56 (some (.ref i) :: ls) (.ref i :: st) h Q) ∧
  (∀ (ls : Lo) (st : List Value) (n sl : Nat) (C Z : Nat → Nat) (I : Nat → Nat → Int32) (L : Nat → Nat → Int64) (R : Nat → Nat → Nat) (Q : Option Value → Hp → Prop) (i : Nat), Wp 126 56 (ls) (.ref i :: st) (n, sl, C, Z, I, L, R) Q ↔ (C i = 11 ∧ Wp 126 59 (ls) (.ref (R i 22) :: st) (n, sl, C, Z, I, L, R) Q)) ∧
  (∀ (ls : Lo) (st : List Value) (h : Hp) (Q : Option Value → Hp → Prop) (l0 l1 : Option Value) (x : Int32), Wp 126 59 (l0 :: l1 :: some (.int x) :: ls) (st) h Q ↔ Wp 126 60 (l0 :: l1 :: some (.int x) :: ls) (.int x :: st) h Q) ∧
  (∀ (ls : Lo) (st : List Value) (n sl : Nat) (C Z : Nat → Nat) (I : Nat → Nat → Int32) (L : Nat → Nat → Int64) (R : Nat → Nat → Nat) (Q : Option Value → Hp → Prop) (i : Nat) (y : Int32), Wp 126 60 (ls) (.int y :: .ref i :: st) (n, sl, C, Z, I, L, R) Q ↔ ((inb y (Z i) = true ∧ C i = 22) ∧ Wp 126 61 (ls) (.long (L i (ix y)) :: st) (n, sl, C, Z, I, L, R) Q)) ∧
  (∀ (ls : Lo) (st : List Value) (h : Hp) (Q : Option Value → Hp → Prop) (l0 l1 l2 l3 l4 l5 l6 : Option Value) (a : Int64), Wp 126 61 (l0 :: l1 :: l2 :: l3 :: l4 :: l5 :: l6 :: ls) (.long a :: st) h Q ↔ Wp 126 63 (l0 :: l1 :: l2 :: l3 :: clr l4 :: some (.long a) :: none :: ls) (st) h Q) ∧
  (∀ (ls : Lo) (st : List Value) (h : Hp) (Q : Option Value → Hp → Prop) (l0 l1 l2 : Option Value) (a : Int64), Wp 126 63 (l0 :: l1 :: l2 :: some (.long a) :: ls) (st) h Q ↔ Wp 126 64 (l0 :: l1 :: l2 :: some (.long a) :: ls) (.long a :: st) h Q) ∧
  (∀ (ls : Lo) (st : List Value) (h : Hp) (Q : Option Value → Hp → Prop) (l0 l1 l2 l3 l4 : Option Value) (a : Int64), Wp 126 64 (l0 :: l1 :: l2 :: l3 :: l4 :: some (.long a) :: ls) (st) h Q ↔ Wp 126 66 (l0 :: l1 :: l2 :: l3 :: l4 :: some (.long a) :: ls) (.long a :: st) h Q) ∧
  (∀ (ls : Lo) (st : List Value) (h : Hp) (Q : Option Value → Hp → Prop) (a b : Int64), Wp 126 66 (ls) (.long b :: .long a :: st) h Q ↔ Wp 126 67 (ls) (.int (lg_cmp a b) :: st) h Q) ∧
  (∀ (ls : Lo) (st : List Value) (h : Hp) (Q : Option Value → Hp → Prop) (x : Int32), Wp 126 67 (ls) (.int x :: st) h Q ↔ Br 126 72 70 ls st h Q (x < 0)) ∧
  (∀ (ls : Lo) (st : List Value) (h : Hp) (Q : Option Value → Hp → Prop), Wp 126 70 (ls) (st) h Q ↔ Wp 126 71 (ls) (.int (0) :: st) h Q) ∧
  (∀ (ls : Lo) (h : Hp) (Q : Option Value → Hp → Prop) (x : Int32), Wp 126 71 (ls) ([.int x]) h Q ↔ ((x = 0 ∨ x = 1) ∧ Q (some (.int x)) h)) ∧
  (∀ (ls : Lo) (st : List Value) (h : Hp) (Q : Option Value → Hp → Prop), Wp 126 72 (ls) (st) h Q ↔ Wp 126 73 (ls) (.int (0) :: st) h Q) ∧
  (∀ (ls : Lo) (st : List Value) (h : Hp) (Q : Option Value → Hp → Prop) (l0 l1 l2 l3 l4 l5 l6 l7 : Option Value) (x : Int32), Wp 126 73 (l0 :: l1 :: l2 :: l3 :: l4 :: l5 :: l6 :: l7 :: ls) (.int x :: st) h Q ↔ Wp 126 75 (l0 :: l1 :: l2 :: l3 :: l4 :: l5 :: clr l6 :: some (.int x) :: ls) (st) h Q) ∧
  (∀ (ls : Lo) (st : List Value) (h : Hp) (Q : Option Value → Hp → Prop) (l0 l1 l2 l3 l4 l5 l6 : Option Value) (x : Int32), Wp 126 75 (l0 :: l1 :: l2 :: l3 :: l4 :: l5 :: l6 :: some (.int x) :: ls) (st) h Q ↔ Wp 126 77 (l0 :: l1 :: l2 :: l3 :: l4 :: l5 :: l6 :: some (.int x) :: ls) (.int x :: st) h Q) ∧
  (∀ (ls : Lo) (st : List Value) (h : Hp) (Q : Option Value → Hp → Prop) (l0 l1 : Option Value) (x : Int32), Wp 126 77 (l0 :: l1 :: some (.int x) :: ls) (st) h Q ↔ Wp 126 78 (l0 :: l1 :: some (.int x) :: ls) (.int x :: st) h Q) := ⟨by intro ls st n sl C Z I L R Q i y; exact e_lald d126_39,
  by intro ls st h Q; exact e_lconst d126_40 rfl,
  by intro ls st h Q a b; exact e_lcmp d126_41,
  by intro ls st h Q x; exact e_if d126_42 (by decide) c_ge,
  by intro ls st h Q i; exact e_aload_n d126_45 rfl,
  by intro ls st n sl C Z I L R Q i; exact e_get (g := 10) (s := 22) (ty := 2) d126_46 rfl rfl (inG_ne (by decide)),
  by intro ls st h Q l0 l1 x; exact e_iload_n d126_49 rfl,
  by intro ls st n sl C Z I L R Q i y; exact e_lald d126_50,
  by intro ls st h Q a; exact e_lneg d126_51,
  by intro ls st h Q; exact e_goto d126_52 (by decide),
  by intro ls st h Q i; exact e_aload_n d126_55 rfl,
  by intro ls st n sl C Z I L R Q i; exact e_get (g := 10) (s := 22) (ty := 2) d126_56 rfl rfl (inG_ne (by decide)),
  by intro ls st h Q l0 l1 x; exact e_iload_n d126_59 rfl,
  by intro ls st n sl C Z I L R Q i y; exact e_lald d126_60,
  by intro ls st h Q l0 l1 l2 l3 l4 l5 l6 a; exact e_lstore d126_61 rfl,
  by intro ls st h Q l0 l1 l2 a; exact e_lload_n d126_63 rfl,
  by intro ls st h Q l0 l1 l2 l3 l4 a; exact e_lload d126_64 rfl,
  by intro ls st h Q a b; exact e_lcmp d126_66,
  by intro ls st h Q x; exact e_if d126_67 (by decide) c_lt,
  by intro ls st h Q; exact e_iconst d126_70 rfl,
  by intros; exact e_rZ d126_71 rfl,
  by intro ls st h Q; exact e_iconst d126_72 rfl,
  by intro ls st h Q l0 l1 l2 l3 l4 l5 l6 l7 x; exact e_istore d126_73 rfl,
  by intro ls st h Q l0 l1 l2 l3 l4 l5 l6 x; exact e_iload d126_75 rfl,
  by intro ls st h Q l0 l1 x; exact e_iload_n d126_77 rfl⟩
set_option maxRecDepth 20000 in
theorem S126_2 : (∀ (ls : Lo) (st : List Value) (h : Hp) (Q : Option Value → Hp → Prop) (x y : Int32), Wp 126 78 (ls) (.int y :: .int x :: st) h Q ↔ Br 126 129 81 ls st h Q (y ≤ x)) ∧
  (∀ (ls : Lo) (st : List Value) (h : Hp) (Q : Option Value → Hp → Prop)  (i : Nat), Wp 126 81 (some (.ref i) :: ls) (st) h Q ↔ Wp 126 82 (some (.ref i) :: ls) (.ref i :: st) h Q) ∧
  (∀ (ls : Lo) (st : List Value) (n sl : Nat) (C Z : Nat → Nat) (I : Nat → Nat → Int32) (L : Nat → Nat → Int64) (R : Nat → Nat → Nat) (Q : Option Value → Hp → Prop) (i : Nat), Wp 126 82 (ls) (.ref i :: st) (n, sl, C, Z, I, L, R) Q ↔ (C i = 11 ∧ Wp 126 85 (ls) (.ref (R i 23) :: st) (n, sl, C, Z, I, L, R) Q)) ∧
  (∀ (ls : Lo) (st : List Value) (h : Hp) (Q : Option Value → Hp → Prop) (l0 l1 l2 l3 l4 l5 l6 : Option Value) (x : Int32), Wp 126 85 (l0 :: l1 :: l2 :: l3 :: l4 :: l5 :: l6 :: some (.int x) :: ls) (st) h Q ↔ Wp 126 87 (l0 :: l1 :: l2 :: l3 :: l4 :: l5 :: l6 :: some (.int x) :: ls) (.int x :: st) h Q) ∧
  (∀ (ls : Lo) (st : List Value) (h : Hp) (Q : Option Value → Hp → Prop)  (i : Nat), Wp 126 87 (some (.ref i) :: ls) (st) h Q ↔ Wp 126 88 (some (.ref i) :: ls) (.ref i :: st) h Q) ∧
  (∀ (ls : Lo) (st : List Value) (n sl : Nat) (C Z : Nat → Nat) (I : Nat → Nat → Int32) (L : Nat → Nat → Int64) (R : Nat → Nat → Nat) (Q : Option Value → Hp → Prop) (i : Nat), Wp 126 88 (ls) (.ref i :: st) (n, sl, C, Z, I, L, R) Q ↔ (C i = 11 ∧ Wp 126 91 (ls) (.ref (R i 22) :: st) (n, sl, C, Z, I, L, R) Q)) ∧
  (∀ (ls : Lo) (st : List Value) (h : Hp) (Q : Option Value → Hp → Prop) (l0 l1 : Option Value) (x : Int32), Wp 126 91 (l0 :: l1 :: some (.int x) :: ls) (st) h Q ↔ Wp 126 92 (l0 :: l1 :: some (.int x) :: ls) (.int x :: st) h Q) ∧
  (∀ (ls : Lo) (st : List Value) (n sl : Nat) (C Z : Nat → Nat) (I : Nat → Nat → Int32) (L : Nat → Nat → Int64) (R : Nat → Nat → Nat) (Q : Option Value → Hp → Prop) (i : Nat) (y : Int32), Wp 126 92 (ls) (.int y :: .ref i :: st) (n, sl, C, Z, I, L, R) Q ↔ ((inb y (Z i) = true ∧ C i = 22) ∧ Wp 126 93 (ls) (.long (L i (ix y)) :: st) (n, sl, C, Z, I, L, R) Q)) ∧
  (∀ (ls : Lo) (st : List Value) (h : Hp) (Q : Option Value → Hp → Prop)  (i : Nat), Wp 126 93 (some (.ref i) :: ls) (st) h Q ↔ Wp 126 94 (some (.ref i) :: ls) (.ref i :: st) h Q) ∧
  (∀ (ls : Lo) (st : List Value) (n sl : Nat) (C Z : Nat → Nat) (I : Nat → Nat → Int32) (L : Nat → Nat → Int64) (R : Nat → Nat → Nat) (Q : Option Value → Hp → Prop) (i : Nat), Wp 126 94 (ls) (.ref i :: st) (n, sl, C, Z, I, L, R) Q ↔ (C i = 11 ∧ Wp 126 97 (ls) (.ref (R i 22) :: st) (n, sl, C, Z, I, L, R) Q)) ∧
  (∀ (ls : Lo) (st : List Value) (h : Hp) (Q : Option Value → Hp → Prop) (l0 l1 l2 l3 l4 l5 l6 : Option Value) (x : Int32), Wp 126 97 (l0 :: l1 :: l2 :: l3 :: l4 :: l5 :: l6 :: some (.int x) :: ls) (st) h Q ↔ Wp 126 99 (l0 :: l1 :: l2 :: l3 :: l4 :: l5 :: l6 :: some (.int x) :: ls) (.int x :: st) h Q) ∧
  (∀ (ls : Lo) (st : List Value) (h : Hp) (Q : Option Value → Hp → Prop), Wp 126 99 (ls) (st) h Q ↔ Wp 126 100 (ls) (.int (1) :: st) h Q) ∧
  (∀ (ls : Lo) (st : List Value) (h : Hp) (Q : Option Value → Hp → Prop) (x y : Int32), Wp 126 100 (ls) (.int y :: .int x :: st) h Q ↔ Wp 126 101 (ls) (.int (x + y) :: st) h Q) ∧
  (∀ (ls : Lo) (st : List Value) (n sl : Nat) (C Z : Nat → Nat) (I : Nat → Nat → Int32) (L : Nat → Nat → Int64) (R : Nat → Nat → Nat) (Q : Option Value → Hp → Prop) (i : Nat) (y : Int32), Wp 126 101 (ls) (.int y :: .ref i :: st) (n, sl, C, Z, I, L, R) Q ↔ ((inb y (Z i) = true ∧ C i = 22) ∧ Wp 126 102 (ls) (.long (L i (ix y)) :: st) (n, sl, C, Z, I, L, R) Q)) ∧
  (∀ (ls : Lo) (st : List Value) (h : Hp) (Q : Option Value → Hp → Prop) (a b : Int64), Wp 126 102 (ls) (.long b :: .long a :: st) h Q ↔ Wp 126 103 (ls) (.long (a * b) :: st) h Q) ∧
  (∀ (ls : Lo) (st : List Value) (h : Hp) (Q : Option Value → Hp → Prop)  (i : Nat), Wp 126 103 (some (.ref i) :: ls) (st) h Q ↔ Wp 126 104 (some (.ref i) :: ls) (.ref i :: st) h Q) ∧
  (∀ (ls : Lo) (st : List Value) (n sl : Nat) (C Z : Nat → Nat) (I : Nat → Nat → Int32) (L : Nat → Nat → Int64) (R : Nat → Nat → Nat) (Q : Option Value → Hp → Prop) (i : Nat), Wp 126 104 (ls) (.ref i :: st) (n, sl, C, Z, I, L, R) Q ↔ (C i = 11 ∧ Wp 126 107 (ls) (.ref (R i 22) :: st) (n, sl, C, Z, I, L, R) Q)) ∧
  (∀ (ls : Lo) (st : List Value) (h : Hp) (Q : Option Value → Hp → Prop), Wp 126 107 (ls) (st) h Q ↔ Wp 126 108 (ls) (.int (0) :: st) h Q) ∧
  (∀ (ls : Lo) (st : List Value) (n sl : Nat) (C Z : Nat → Nat) (I : Nat → Nat → Int32) (L : Nat → Nat → Int64) (R : Nat → Nat → Nat) (Q : Option Value → Hp → Prop) (i : Nat) (y : Int32), Wp 126 108 (ls) (.int y :: .ref i :: st) (n, sl, C, Z, I, L, R) Q ↔ ((inb y (Z i) = true ∧ C i = 22) ∧ Wp 126 109 (ls) (.long (L i (ix y)) :: st) (n, sl, C, Z, I, L, R) Q)) ∧
  (∀ (ls : Lo) (st : List Value) (h : Hp) (Q : Option Value → Hp → Prop)  (i : Nat), Wp 126 109 (some (.ref i) :: ls) (st) h Q ↔ Wp 126 110 (some (.ref i) :: ls) (.ref i :: st) h Q) ∧
  (∀ (ls : Lo) (st : List Value) (n sl : Nat) (C Z : Nat → Nat) (I : Nat → Nat → Int32) (L : Nat → Nat → Int64) (R : Nat → Nat → Nat) (Q : Option Value → Hp → Prop) (i : Nat), Wp 126 110 (ls) (.ref i :: st) (n, sl, C, Z, I, L, R) Q ↔ (C i = 11 ∧ Wp 126 113 (ls) (.ref (R i 22) :: st) (n, sl, C, Z, I, L, R) Q)) ∧
  (∀ (ls : Lo) (st : List Value) (h : Hp) (Q : Option Value → Hp → Prop) (l0 l1 : Option Value) (x : Int32), Wp 126 113 (l0 :: l1 :: some (.int x) :: ls) (st) h Q ↔ Wp 126 114 (l0 :: l1 :: some (.int x) :: ls) (.int x :: st) h Q) ∧
  (∀ (ls : Lo) (st : List Value) (h : Hp) (Q : Option Value → Hp → Prop), Wp 126 114 (ls) (st) h Q ↔ Wp 126 115 (ls) (.int (1) :: st) h Q) ∧
  (∀ (ls : Lo) (st : List Value) (h : Hp) (Q : Option Value → Hp → Prop) (x y : Int32), Wp 126 115 (ls) (.int y :: .int x :: st) h Q ↔ Wp 126 116 (ls) (.int (x - y) :: st) h Q) ∧
  (∀ (ls : Lo) (st : List Value) (h : Hp) (Q : Option Value → Hp → Prop) (l0 l1 l2 l3 l4 l5 l6 : Option Value) (x : Int32), Wp 126 116 (l0 :: l1 :: l2 :: l3 :: l4 :: l5 :: l6 :: some (.int x) :: ls) (st) h Q ↔ Wp 126 118 (l0 :: l1 :: l2 :: l3 :: l4 :: l5 :: l6 :: some (.int x) :: ls) (.int x :: st) h Q) := ⟨by intro ls st h Q x y; exact e_ic d126_78 (by decide) c_ge,
  by intro ls st h Q i; exact e_aload_n d126_81 rfl,
  by intro ls st n sl C Z I L R Q i; exact e_get (g := 10) (s := 23) (ty := 2) d126_82 rfl rfl (inG_ne (by decide)),
  by intro ls st h Q l0 l1 l2 l3 l4 l5 l6 x; exact e_iload d126_85 rfl,
  by intro ls st h Q i; exact e_aload_n d126_87 rfl,
  by intro ls st n sl C Z I L R Q i; exact e_get (g := 10) (s := 22) (ty := 2) d126_88 rfl rfl (inG_ne (by decide)),
  by intro ls st h Q l0 l1 x; exact e_iload_n d126_91 rfl,
  by intro ls st n sl C Z I L R Q i y; exact e_lald d126_92,
  by intro ls st h Q i; exact e_aload_n d126_93 rfl,
  by intro ls st n sl C Z I L R Q i; exact e_get (g := 10) (s := 22) (ty := 2) d126_94 rfl rfl (inG_ne (by decide)),
  by intro ls st h Q l0 l1 l2 l3 l4 l5 l6 x; exact e_iload d126_97 rfl,
  by intro ls st h Q; exact e_iconst d126_99 rfl,
  by intro ls st h Q x y; exact e_iadd d126_100,
  by intro ls st n sl C Z I L R Q i y; exact e_lald d126_101,
  by intro ls st h Q a b; exact e_lmul d126_102,
  by intro ls st h Q i; exact e_aload_n d126_103 rfl,
  by intro ls st n sl C Z I L R Q i; exact e_get (g := 10) (s := 22) (ty := 2) d126_104 rfl rfl (inG_ne (by decide)),
  by intro ls st h Q; exact e_iconst d126_107 rfl,
  by intro ls st n sl C Z I L R Q i y; exact e_lald d126_108,
  by intro ls st h Q i; exact e_aload_n d126_109 rfl,
  by intro ls st n sl C Z I L R Q i; exact e_get (g := 10) (s := 22) (ty := 2) d126_110 rfl rfl (inG_ne (by decide)),
  by intro ls st h Q l0 l1 x; exact e_iload_n d126_113 rfl,
  by intro ls st h Q; exact e_iconst d126_114 rfl,
  by intro ls st h Q x y; exact e_isub d126_115,
  by intro ls st h Q l0 l1 l2 l3 l4 l5 l6 x; exact e_iload d126_116 rfl⟩
set_option maxRecDepth 20000 in
theorem S126_3 : (∀ (ls : Lo) (st : List Value) (h : Hp) (Q : Option Value → Hp → Prop) (x y : Int32), Wp 126 118 (ls) (.int y :: .int x :: st) h Q ↔ Wp 126 119 (ls) (.int (x - y) :: st) h Q) ∧
  (∀ (ls : Lo) (st : List Value) (n sl : Nat) (C Z : Nat → Nat) (I : Nat → Nat → Int32) (L : Nat → Nat → Int64) (R : Nat → Nat → Nat) (Q : Option Value → Hp → Prop) (i : Nat) (y : Int32), Wp 126 119 (ls) (.int y :: .ref i :: st) (n, sl, C, Z, I, L, R) Q ↔ ((inb y (Z i) = true ∧ C i = 22) ∧ Wp 126 120 (ls) (.long (L i (ix y)) :: st) (n, sl, C, Z, I, L, R) Q)) ∧
  (∀ (ls : Lo) (st : List Value) (h : Hp) (Q : Option Value → Hp → Prop) (a b : Int64), Wp 126 120 (ls) (.long b :: .long a :: st) h Q ↔ Wp 126 121 (ls) (.long (a * b) :: st) h Q) ∧
  (∀ (ls : Lo) (st : List Value) (h : Hp) (Q : Option Value → Hp → Prop) (a b : Int64), Wp 126 121 (ls) (.long b :: .long a :: st) h Q ↔ Wp 126 122 (ls) (.long (a - b) :: st) h Q) ∧
  (∀ (ls : Lo) (st : List Value) (n sl : Nat) (C Z : Nat → Nat) (I : Nat → Nat → Int32) (L : Nat → Nat → Int64) (R : Nat → Nat → Nat) (Q : Option Value → Hp → Prop) (i : Nat) (y : Int32) (a : Int64), Wp 126 122 (ls) (.long a :: .int y :: .ref i :: st) (n, sl, C, Z, I, L, R) Q ↔ ((inb y (Z i) = true ∧ C i = 22) ∧ Wp 126 123 (ls) (st) (n, sl, C, Z, I, u2 L i (ix y) a, R) Q)) ∧
  (∀ (ls : Lo) (st : List Value) (h : Hp) (Q : Option Value → Hp → Prop) (l0 l1 l2 l3 l4 l5 l6 : Option Value) (x : Int32), Wp 126 123 (l0 :: l1 :: l2 :: l3 :: l4 :: l5 :: l6 :: some (.int x) :: ls) (st) h Q ↔ Wp 126 126 (l0 :: l1 :: l2 :: l3 :: l4 :: l5 :: clr l6 :: some (.int (x + (1))) :: ls) (st) h Q) ∧
  (∀ (ls : Lo) (st : List Value) (h : Hp) (Q : Option Value → Hp → Prop), Wp 126 126 (ls) (st) h Q ↔ Wp 126 75 (ls) (st) h Q) ∧
  (∀ (ls : Lo) (st : List Value) (h : Hp) (Q : Option Value → Hp → Prop), Wp 126 129 (ls) (st) h Q ↔ Wp 126 130 (ls) (.long 0 :: st) h Q) ∧
  (∀ (ls : Lo) (st : List Value) (h : Hp) (Q : Option Value → Hp → Prop) (l0 l1 l2 l3 l4 l5 l6 l7 l8 : Option Value) (a : Int64), Wp 126 130 (l0 :: l1 :: l2 :: l3 :: l4 :: l5 :: l6 :: l7 :: l8 :: ls) (.long a :: st) h Q ↔ Wp 126 132 (l0 :: l1 :: l2 :: l3 :: l4 :: l5 :: clr l6 :: some (.long a) :: none :: ls) (st) h Q) ∧
  (∀ (ls : Lo) (st : List Value) (h : Hp) (Q : Option Value → Hp → Prop), Wp 126 132 (ls) (st) h Q ↔ Wp 126 133 (ls) (.int (0) :: st) h Q) ∧
  (∀ (ls : Lo) (st : List Value) (h : Hp) (Q : Option Value → Hp → Prop) (l0 l1 l2 l3 l4 l5 l6 l7 l8 l9 : Option Value) (x : Int32), Wp 126 133 (l0 :: l1 :: l2 :: l3 :: l4 :: l5 :: l6 :: l7 :: l8 :: l9 :: ls) (.int x :: st) h Q ↔ Wp 126 135 (l0 :: l1 :: l2 :: l3 :: l4 :: l5 :: l6 :: l7 :: clr l8 :: some (.int x) :: ls) (st) h Q) ∧
  (∀ (ls : Lo) (st : List Value) (h : Hp) (Q : Option Value → Hp → Prop) (l0 l1 l2 l3 l4 l5 l6 l7 l8 : Option Value) (x : Int32), Wp 126 135 (l0 :: l1 :: l2 :: l3 :: l4 :: l5 :: l6 :: l7 :: l8 :: some (.int x) :: ls) (st) h Q ↔ Wp 126 137 (l0 :: l1 :: l2 :: l3 :: l4 :: l5 :: l6 :: l7 :: l8 :: some (.int x) :: ls) (.int x :: st) h Q) ∧
  (∀ (ls : Lo) (st : List Value) (h : Hp) (Q : Option Value → Hp → Prop) (l0 l1 : Option Value) (x : Int32), Wp 126 137 (l0 :: l1 :: some (.int x) :: ls) (st) h Q ↔ Wp 126 138 (l0 :: l1 :: some (.int x) :: ls) (.int x :: st) h Q) ∧
  (∀ (ls : Lo) (st : List Value) (h : Hp) (Q : Option Value → Hp → Prop) (x y : Int32), Wp 126 138 (ls) (.int y :: .int x :: st) h Q ↔ Br 126 161 141 ls st h Q (y ≤ x)) ∧
  (∀ (ls : Lo) (st : List Value) (h : Hp) (Q : Option Value → Hp → Prop) (l0 l1 l2 l3 l4 l5 l6 : Option Value) (a : Int64), Wp 126 141 (l0 :: l1 :: l2 :: l3 :: l4 :: l5 :: l6 :: some (.long a) :: ls) (st) h Q ↔ Wp 126 143 (l0 :: l1 :: l2 :: l3 :: l4 :: l5 :: l6 :: some (.long a) :: ls) (.long a :: st) h Q) ∧
  (∀ (ls : Lo) (st : List Value) (h : Hp) (Q : Option Value → Hp → Prop)  (i : Nat), Wp 126 143 (some (.ref i) :: ls) (st) h Q ↔ Wp 126 144 (some (.ref i) :: ls) (.ref i :: st) h Q) ∧
  (∀ (ls : Lo) (st : List Value) (n sl : Nat) (C Z : Nat → Nat) (I : Nat → Nat → Int32) (L : Nat → Nat → Int64) (R : Nat → Nat → Nat) (Q : Option Value → Hp → Prop) (i : Nat), Wp 126 144 (ls) (.ref i :: st) (n, sl, C, Z, I, L, R) Q ↔ (C i = 11 ∧ Wp 126 147 (ls) (.ref (R i 23) :: st) (n, sl, C, Z, I, L, R) Q)) ∧
  (∀ (ls : Lo) (st : List Value) (h : Hp) (Q : Option Value → Hp → Prop) (l0 l1 l2 l3 l4 l5 l6 l7 l8 : Option Value) (x : Int32), Wp 126 147 (l0 :: l1 :: l2 :: l3 :: l4 :: l5 :: l6 :: l7 :: l8 :: some (.int x) :: ls) (st) h Q ↔ Wp 126 149 (l0 :: l1 :: l2 :: l3 :: l4 :: l5 :: l6 :: l7 :: l8 :: some (.int x) :: ls) (.int x :: st) h Q) ∧
  (∀ (ls : Lo) (st : List Value) (n sl : Nat) (C Z : Nat → Nat) (I : Nat → Nat → Int32) (L : Nat → Nat → Int64) (R : Nat → Nat → Nat) (Q : Option Value → Hp → Prop) (i : Nat) (y : Int32), Wp 126 149 (ls) (.int y :: .ref i :: st) (n, sl, C, Z, I, L, R) Q ↔ ((inb y (Z i) = true ∧ C i = 22) ∧ Wp 126 150 (ls) (.long (L i (ix y)) :: st) (n, sl, C, Z, I, L, R) Q)) ∧
  (∀ (ls : Lo) (st : List Value) (h : Hp) (Q : Option Value → Hp → Prop) (x0 : Int64) (x1 : Int64), Wp 126 150 (ls) (.long x1 :: .long x0 :: st) h Q ↔ (wsum st ≤ 8 ∧ Call 105 [some (.long x0), none, some (.long x1), none, none, none, none, none, none, none] h 126 153 ls st Q)) ∧
  (∀ (ls : Lo) (st : List Value) (h : Hp) (Q : Option Value → Hp → Prop) (l0 l1 l2 l3 l4 l5 l6 l7 l8 : Option Value) (a : Int64), Wp 126 153 (l0 :: l1 :: l2 :: l3 :: l4 :: l5 :: l6 :: l7 :: l8 :: ls) (.long a :: st) h Q ↔ Wp 126 155 (l0 :: l1 :: l2 :: l3 :: l4 :: l5 :: clr l6 :: some (.long a) :: none :: ls) (st) h Q) ∧
  (∀ (ls : Lo) (st : List Value) (h : Hp) (Q : Option Value → Hp → Prop) (l0 l1 l2 l3 l4 l5 l6 l7 l8 : Option Value) (x : Int32), Wp 126 155 (l0 :: l1 :: l2 :: l3 :: l4 :: l5 :: l6 :: l7 :: l8 :: some (.int x) :: ls) (st) h Q ↔ Wp 126 158 (l0 :: l1 :: l2 :: l3 :: l4 :: l5 :: l6 :: l7 :: clr l8 :: some (.int (x + (1))) :: ls) (st) h Q) ∧
  (∀ (ls : Lo) (st : List Value) (h : Hp) (Q : Option Value → Hp → Prop), Wp 126 158 (ls) (st) h Q ↔ Wp 126 135 (ls) (st) h Q) ∧
  (∀ (ls : Lo) (st : List Value) (h : Hp) (Q : Option Value → Hp → Prop), Wp 126 161 (ls) (st) h Q ↔ Wp 126 162 (ls) (.int (0) :: st) h Q) ∧
  (∀ (ls : Lo) (st : List Value) (h : Hp) (Q : Option Value → Hp → Prop) (l0 l1 l2 l3 l4 l5 l6 l7 l8 l9 : Option Value) (x : Int32), Wp 126 162 (l0 :: l1 :: l2 :: l3 :: l4 :: l5 :: l6 :: l7 :: l8 :: l9 :: ls) (.int x :: st) h Q ↔ Wp 126 164 (l0 :: l1 :: l2 :: l3 :: l4 :: l5 :: l6 :: l7 :: clr l8 :: some (.int x) :: ls) (st) h Q) := ⟨by intro ls st h Q x y; exact e_isub d126_118,
  by intro ls st n sl C Z I L R Q i y; exact e_lald d126_119,
  by intro ls st h Q a b; exact e_lmul d126_120,
  by intro ls st h Q a b; exact e_lsub d126_121,
  by intro ls st n sl C Z I L R Q i y a; exact e_last d126_122,
  by intro ls st h Q l0 l1 l2 l3 l4 l5 l6 x; exact e_iinc d126_123 rfl rfl rfl,
  by intro ls st h Q; exact e_goto d126_126 (by decide),
  by intro ls st h Q; exact e_lconst d126_129 rfl,
  by intro ls st h Q l0 l1 l2 l3 l4 l5 l6 l7 l8 a; exact e_lstore d126_130 rfl,
  by intro ls st h Q; exact e_iconst d126_132 rfl,
  by intro ls st h Q l0 l1 l2 l3 l4 l5 l6 l7 l8 l9 x; exact e_istore d126_133 rfl,
  by intro ls st h Q l0 l1 l2 l3 l4 l5 l6 l7 l8 x; exact e_iload d126_135 rfl,
  by intro ls st h Q l0 l1 x; exact e_iload_n d126_137 rfl,
  by intro ls st h Q x y; exact e_ic d126_138 (by decide) c_ge,
  by intro ls st h Q l0 l1 l2 l3 l4 l5 l6 a; exact e_lload d126_141 rfl,
  by intro ls st h Q i; exact e_aload_n d126_143 rfl,
  by intro ls st n sl C Z I L R Q i; exact e_get (g := 10) (s := 23) (ty := 2) d126_144 rfl rfl (inG_ne (by decide)),
  by intro ls st h Q l0 l1 l2 l3 l4 l5 l6 l7 l8 x; exact e_iload d126_147 rfl,
  by intro ls st n sl C Z I L R Q i y; exact e_lald d126_149,
  by intro ls st h Q x0 x1; exact e_is (k2 := 105) (as := [.long x0, .long x1]) d126_150 rfl (by decide) rfl rfl (by decide +kernel) (Nat.le_of_ble_eq_true rfl) rfl,
  by intro ls st h Q l0 l1 l2 l3 l4 l5 l6 l7 l8 a; exact e_lstore d126_153 rfl,
  by intro ls st h Q l0 l1 l2 l3 l4 l5 l6 l7 l8 x; exact e_iinc d126_155 rfl rfl rfl,
  by intro ls st h Q; exact e_goto d126_158 (by decide),
  by intro ls st h Q; exact e_iconst d126_161 rfl,
  by intro ls st h Q l0 l1 l2 l3 l4 l5 l6 l7 l8 l9 x; exact e_istore d126_162 rfl⟩
set_option maxRecDepth 20000 in
theorem S126_4 : (∀ (ls : Lo) (st : List Value) (h : Hp) (Q : Option Value → Hp → Prop) (l0 l1 l2 l3 l4 l5 l6 l7 l8 : Option Value) (x : Int32), Wp 126 164 (l0 :: l1 :: l2 :: l3 :: l4 :: l5 :: l6 :: l7 :: l8 :: some (.int x) :: ls) (st) h Q ↔ Wp 126 166 (l0 :: l1 :: l2 :: l3 :: l4 :: l5 :: l6 :: l7 :: l8 :: some (.int x) :: ls) (.int x :: st) h Q) ∧
  (∀ (ls : Lo) (st : List Value) (h : Hp) (Q : Option Value → Hp → Prop) (l0 l1 : Option Value) (x : Int32), Wp 126 166 (l0 :: l1 :: some (.int x) :: ls) (st) h Q ↔ Wp 126 167 (l0 :: l1 :: some (.int x) :: ls) (.int x :: st) h Q) ∧
  (∀ (ls : Lo) (st : List Value) (h : Hp) (Q : Option Value → Hp → Prop) (x y : Int32), Wp 126 167 (ls) (.int y :: .int x :: st) h Q ↔ Br 126 193 170 ls st h Q (y ≤ x)) ∧
  (∀ (ls : Lo) (st : List Value) (h : Hp) (Q : Option Value → Hp → Prop)  (i : Nat), Wp 126 170 (some (.ref i) :: ls) (st) h Q ↔ Wp 126 171 (some (.ref i) :: ls) (.ref i :: st) h Q) ∧
  (∀ (ls : Lo) (st : List Value) (n sl : Nat) (C Z : Nat → Nat) (I : Nat → Nat → Int32) (L : Nat → Nat → Int64) (R : Nat → Nat → Nat) (Q : Option Value → Hp → Prop) (i : Nat), Wp 126 171 (ls) (.ref i :: st) (n, sl, C, Z, I, L, R) Q ↔ (C i = 11 ∧ Wp 126 174 (ls) (.ref (R i 22) :: st) (n, sl, C, Z, I, L, R) Q)) ∧
  (∀ (ls : Lo) (st : List Value) (h : Hp) (Q : Option Value → Hp → Prop) (l0 l1 l2 l3 l4 l5 l6 l7 l8 : Option Value) (x : Int32), Wp 126 174 (l0 :: l1 :: l2 :: l3 :: l4 :: l5 :: l6 :: l7 :: l8 :: some (.int x) :: ls) (st) h Q ↔ Wp 126 176 (l0 :: l1 :: l2 :: l3 :: l4 :: l5 :: l6 :: l7 :: l8 :: some (.int x) :: ls) (.int x :: st) h Q) ∧
  (∀ (ls : Lo) (st : List Value) (h : Hp) (Q : Option Value → Hp → Prop)  (i : Nat), Wp 126 176 (some (.ref i) :: ls) (st) h Q ↔ Wp 126 177 (some (.ref i) :: ls) (.ref i :: st) h Q) ∧
  (∀ (ls : Lo) (st : List Value) (n sl : Nat) (C Z : Nat → Nat) (I : Nat → Nat → Int32) (L : Nat → Nat → Int64) (R : Nat → Nat → Nat) (Q : Option Value → Hp → Prop) (i : Nat), Wp 126 177 (ls) (.ref i :: st) (n, sl, C, Z, I, L, R) Q ↔ (C i = 11 ∧ Wp 126 180 (ls) (.ref (R i 23) :: st) (n, sl, C, Z, I, L, R) Q)) ∧
  (∀ (ls : Lo) (st : List Value) (h : Hp) (Q : Option Value → Hp → Prop) (l0 l1 l2 l3 l4 l5 l6 l7 l8 : Option Value) (x : Int32), Wp 126 180 (l0 :: l1 :: l2 :: l3 :: l4 :: l5 :: l6 :: l7 :: l8 :: some (.int x) :: ls) (st) h Q ↔ Wp 126 182 (l0 :: l1 :: l2 :: l3 :: l4 :: l5 :: l6 :: l7 :: l8 :: some (.int x) :: ls) (.int x :: st) h Q) ∧
  (∀ (ls : Lo) (st : List Value) (n sl : Nat) (C Z : Nat → Nat) (I : Nat → Nat → Int32) (L : Nat → Nat → Int64) (R : Nat → Nat → Nat) (Q : Option Value → Hp → Prop) (i : Nat) (y : Int32), Wp 126 182 (ls) (.int y :: .ref i :: st) (n, sl, C, Z, I, L, R) Q ↔ ((inb y (Z i) = true ∧ C i = 22) ∧ Wp 126 183 (ls) (.long (L i (ix y)) :: st) (n, sl, C, Z, I, L, R) Q)) ∧
  (∀ (ls : Lo) (st : List Value) (h : Hp) (Q : Option Value → Hp → Prop) (l0 l1 l2 l3 l4 l5 l6 : Option Value) (a : Int64), Wp 126 183 (l0 :: l1 :: l2 :: l3 :: l4 :: l5 :: l6 :: some (.long a) :: ls) (st) h Q ↔ Wp 126 185 (l0 :: l1 :: l2 :: l3 :: l4 :: l5 :: l6 :: some (.long a) :: ls) (.long a :: st) h Q) ∧
  (∀ (ls : Lo) (st : List Value) (h : Hp) (Q : Option Value → Hp → Prop) (a b : Int64), Wp 126 185 (ls) (.long b :: .long a :: st) h Q ↔ (¬ b = 0 ∧ Wp 126 186 (ls) (.long (a / b) :: st) h Q)) ∧
  (∀ (ls : Lo) (st : List Value) (n sl : Nat) (C Z : Nat → Nat) (I : Nat → Nat → Int32) (L : Nat → Nat → Int64) (R : Nat → Nat → Nat) (Q : Option Value → Hp → Prop) (i : Nat) (y : Int32) (a : Int64), Wp 126 186 (ls) (.long a :: .int y :: .ref i :: st) (n, sl, C, Z, I, L, R) Q ↔ ((inb y (Z i) = true ∧ C i = 22) ∧ Wp 126 187 (ls) (st) (n, sl, C, Z, I, u2 L i (ix y) a, R) Q)) ∧
  (∀ (ls : Lo) (st : List Value) (h : Hp) (Q : Option Value → Hp → Prop) (l0 l1 l2 l3 l4 l5 l6 l7 l8 : Option Value) (x : Int32), Wp 126 187 (l0 :: l1 :: l2 :: l3 :: l4 :: l5 :: l6 :: l7 :: l8 :: some (.int x) :: ls) (st) h Q ↔ Wp 126 190 (l0 :: l1 :: l2 :: l3 :: l4 :: l5 :: l6 :: l7 :: clr l8 :: some (.int (x + (1))) :: ls) (st) h Q) ∧
  (∀ (ls : Lo) (st : List Value) (h : Hp) (Q : Option Value → Hp → Prop), Wp 126 190 (ls) (st) h Q ↔ Wp 126 164 (ls) (st) h Q) ∧
  (∀ (ls : Lo) (st : List Value) (h : Hp) (Q : Option Value → Hp → Prop) (l0 l1 : Option Value) (x : Int32), Wp 126 193 (l0 :: l1 :: some (.int x) :: ls) (st) h Q ↔ Wp 126 196 (l0 :: clr l1 :: some (.int (x + (-1))) :: ls) (st) h Q) ∧
  (∀ (ls : Lo) (st : List Value) (h : Hp) (Q : Option Value → Hp → Prop), Wp 126 196 (ls) (st) h Q ↔ Wp 126 2 (ls) (st) h Q) ∧
  (∀ (ls : Lo) (st : List Value) (h : Hp) (Q : Option Value → Hp → Prop), Wp 126 199 (ls) (st) h Q ↔ Wp 126 200 (ls) (.int (1) :: st) h Q) ∧
  (∀ (ls : Lo) (h : Hp) (Q : Option Value → Hp → Prop) (x : Int32), Wp 126 200 (ls) ([.int x]) h Q ↔ ((x = 0 ∨ x = 1) ∧ Q (some (.int x)) h)) := ⟨by intro ls st h Q l0 l1 l2 l3 l4 l5 l6 l7 l8 x; exact e_iload d126_164 rfl,
  by intro ls st h Q l0 l1 x; exact e_iload_n d126_166 rfl,
  by intro ls st h Q x y; exact e_ic d126_167 (by decide) c_ge,
  by intro ls st h Q i; exact e_aload_n d126_170 rfl,
  by intro ls st n sl C Z I L R Q i; exact e_get (g := 10) (s := 22) (ty := 2) d126_171 rfl rfl (inG_ne (by decide)),
  by intro ls st h Q l0 l1 l2 l3 l4 l5 l6 l7 l8 x; exact e_iload d126_174 rfl,
  by intro ls st h Q i; exact e_aload_n d126_176 rfl,
  by intro ls st n sl C Z I L R Q i; exact e_get (g := 10) (s := 23) (ty := 2) d126_177 rfl rfl (inG_ne (by decide)),
  by intro ls st h Q l0 l1 l2 l3 l4 l5 l6 l7 l8 x; exact e_iload d126_180 rfl,
  by intro ls st n sl C Z I L R Q i y; exact e_lald d126_182,
  by intro ls st h Q l0 l1 l2 l3 l4 l5 l6 a; exact e_lload d126_183 rfl,
  by intro ls st h Q a b; exact e_ldiv d126_185,
  by intro ls st n sl C Z I L R Q i y a; exact e_last d126_186,
  by intro ls st h Q l0 l1 l2 l3 l4 l5 l6 l7 l8 x; exact e_iinc d126_187 rfl rfl rfl,
  by intro ls st h Q; exact e_goto d126_190 (by decide),
  by intro ls st h Q l0 l1 x; exact e_iinc d126_193 rfl rfl rfl,
  by intro ls st h Q; exact e_goto d126_196 (by decide),
  by intro ls st h Q; exact e_iconst d126_199 rfl,
  by intros; exact e_rZ d126_200 rfl⟩
theorem d127_0 : decode (byt 127) 0 = .ok (.aload_n 0, 1) := by decide +kernel
theorem d127_1 : decode (byt 127) 1 = .ok (.iload_n 1, 1) := by decide +kernel
theorem d127_2 : decode (byt 127) 2 = .ok (.invokevirtual 136, 3) := by decide +kernel
theorem d127_5 : decode (byt 127) 5 = .ok (.aload_n 0, 1) := by decide +kernel
theorem d127_6 : decode (byt 127) 6 = .ok (.getfield 13, 3) := by decide +kernel
theorem d127_9 : decode (byt 127) 9 = .ok (.iload_n 1, 1) := by decide +kernel
theorem d127_10 : decode (byt 127) 10 = .ok (.iaload, 1) := by decide +kernel
theorem d127_11 : decode (byt 127) 11 = .ok (.istore_n 2, 1) := by decide +kernel
theorem d127_12 : decode (byt 127) 12 = .ok (.aload_n 0, 1) := by decide +kernel
theorem d127_13 : decode (byt 127) 13 = .ok (.getfield 7, 3) := by decide +kernel
theorem d127_16 : decode (byt 127) 16 = .ok (.iload_n 1, 1) := by decide +kernel
theorem d127_17 : decode (byt 127) 17 = .ok (.iaload, 1) := by decide +kernel
theorem d127_18 : decode (byt 127) 18 = .ok (.iconst 1, 1) := by decide +kernel
theorem d127_19 : decode (byt 127) 19 = .ok (.if_icmp .eq 52, 3) := by decide +kernel
theorem d127_22 : decode (byt 127) 22 = .ok (.lconst 1, 1) := by decide +kernel
theorem d127_23 : decode (byt 127) 23 = .ok (.lstore_n 3, 1) := by decide +kernel
theorem d127_24 : decode (byt 127) 24 = .ok (.iconst 0, 1) := by decide +kernel
theorem d127_25 : decode (byt 127) 25 = .ok (.istore 5, 2) := by decide +kernel
theorem d127_27 : decode (byt 127) 27 = .ok (.iload 5, 2) := by decide +kernel
theorem d127_29 : decode (byt 127) 29 = .ok (.iload_n 2, 1) := by decide +kernel
theorem d127_30 : decode (byt 127) 30 = .ok (.if_icmp .gt 35, 3) := by decide +kernel
theorem d127_33 : decode (byt 127) 33 = .ok (.aload_n 0, 1) := by decide +kernel
theorem d127_34 : decode (byt 127) 34 = .ok (.getfield 65, 3) := by decide +kernel
theorem d127_37 : decode (byt 127) 37 = .ok (.iload 5, 2) := by decide +kernel
theorem d127_39 : decode (byt 127) 39 = .ok (.aload_n 0, 1) := by decide +kernel
theorem d127_40 : decode (byt 127) 40 = .ok (.getfield 62, 3) := by decide +kernel
theorem d127_43 : decode (byt 127) 43 = .ok (.iload 5, 2) := by decide +kernel
theorem d127_45 : decode (byt 127) 45 = .ok (.laload, 1) := by decide +kernel
theorem d127_46 : decode (byt 127) 46 = .ok (.lload_n 3, 1) := by decide +kernel
theorem d127_47 : decode (byt 127) 47 = .ok (.lmul, 1) := by decide +kernel
theorem d127_48 : decode (byt 127) 48 = .ok (.lastore, 1) := by decide +kernel
theorem d127_49 : decode (byt 127) 49 = .ok (.lload_n 3, 1) := by decide +kernel
theorem d127_50 : decode (byt 127) 50 = .ok (.aload_n 0, 1) := by decide +kernel
theorem d127_51 : decode (byt 127) 51 = .ok (.getfield 16, 3) := by decide +kernel
theorem d127_54 : decode (byt 127) 54 = .ok (.iload_n 1, 1) := by decide +kernel
theorem d127_55 : decode (byt 127) 55 = .ok (.iaload, 1) := by decide +kernel
theorem d127_56 : decode (byt 127) 56 = .ok (.i2l, 1) := by decide +kernel
theorem d127_57 : decode (byt 127) 57 = .ok (.lmul, 1) := by decide +kernel
theorem d127_58 : decode (byt 127) 58 = .ok (.lstore_n 3, 1) := by decide +kernel
theorem d127_59 : decode (byt 127) 59 = .ok (.iinc 5 1, 3) := by decide +kernel
theorem d127_62 : decode (byt 127) 62 = .ok (.goto (-35), 3) := by decide +kernel
theorem d127_65 : decode (byt 127) 65 = .ok (.aload_n 0, 1) := by decide +kernel
theorem d127_66 : decode (byt 127) 66 = .ok (.iload_n 2, 1) := by decide +kernel
theorem d127_67 : decode (byt 127) 67 = .ok (.invokevirtual 139, 3) := by decide +kernel
theorem d127_70 : decode (byt 127) 70 = .ok (.ireturn, 1) := by decide +kernel
theorem d127_71 : decode (byt 127) 71 = .ok (.iconst 0, 1) := by decide +kernel
theorem d127_72 : decode (byt 127) 72 = .ok (.istore_n 3, 1) := by decide +kernel
theorem d127_73 : decode (byt 127) 73 = .ok (.iload_n 3, 1) := by decide +kernel
theorem d127_74 : decode (byt 127) 74 = .ok (.iload_n 2, 1) := by decide +kernel
theorem d127_75 : decode (byt 127) 75 = .ok (.if_icmp .gt 16, 3) := by decide +kernel
theorem d127_78 : decode (byt 127) 78 = .ok (.aload_n 0, 1) := by decide +kernel
theorem d127_79 : decode (byt 127) 79 = .ok (.getfield 65, 3) := by decide +kernel
theorem d127_82 : decode (byt 127) 82 = .ok (.iload_n 3, 1) := by decide +kernel
theorem d127_83 : decode (byt 127) 83 = .ok (.lconst 0, 1) := by decide +kernel
theorem d127_84 : decode (byt 127) 84 = .ok (.lastore, 1) := by decide +kernel
theorem d127_85 : decode (byt 127) 85 = .ok (.iinc 3 1, 3) := by decide +kernel
theorem d127_88 : decode (byt 127) 88 = .ok (.goto (-15), 3) := by decide +kernel
theorem d127_91 : decode (byt 127) 91 = .ok (.iconst 0, 1) := by decide +kernel
theorem d127_92 : decode (byt 127) 92 = .ok (.istore_n 3, 1) := by decide +kernel
theorem d127_93 : decode (byt 127) 93 = .ok (.iload_n 3, 1) := by decide +kernel
theorem d127_94 : decode (byt 127) 94 = .ok (.iload_n 2, 1) := by decide +kernel
theorem d127_95 : decode (byt 127) 95 = .ok (.if_icmp .gt 155, 3) := by decide +kernel
theorem d127_98 : decode (byt 127) 98 = .ok (.iconst 0, 1) := by decide +kernel
theorem d127_99 : decode (byt 127) 99 = .ok (.istore 4, 2) := by decide +kernel
theorem d127_101 : decode (byt 127) 101 = .ok (.iload 4, 2) := by decide +kernel
theorem d127_103 : decode (byt 127) 103 = .ok (.iload_n 2, 1) := by decide +kernel
theorem d127_104 : decode (byt 127) 104 = .ok (.if_icmp .gt 17, 3) := by decide +kernel
theorem d127_107 : decode (byt 127) 107 = .ok (.aload_n 0, 1) := by decide +kernel
theorem d127_108 : decode (byt 127) 108 = .ok (.getfield 68, 3) := by decide +kernel
theorem d127_111 : decode (byt 127) 111 = .ok (.iload 4, 2) := by decide +kernel
theorem d127_113 : decode (byt 127) 113 = .ok (.lconst 0, 1) := by decide +kernel
theorem d127_114 : decode (byt 127) 114 = .ok (.lastore, 1) := by decide +kernel
theorem d127_115 : decode (byt 127) 115 = .ok (.iinc 4 1, 3) := by decide +kernel
theorem d127_118 : decode (byt 127) 118 = .ok (.goto (-17), 3) := by decide +kernel
theorem d127_121 : decode (byt 127) 121 = .ok (.aload_n 0, 1) := by decide +kernel
theorem d127_122 : decode (byt 127) 122 = .ok (.getfield 68, 3) := by decide +kernel
theorem d127_125 : decode (byt 127) 125 = .ok (.iconst 0, 1) := by decide +kernel
theorem d127_126 : decode (byt 127) 126 = .ok (.aload_n 0, 1) := by decide +kernel
theorem d127_127 : decode (byt 127) 127 = .ok (.getfield 62, 3) := by decide +kernel
theorem d127_130 : decode (byt 127) 130 = .ok (.iload_n 3, 1) := by decide +kernel
theorem d127_131 : decode (byt 127) 131 = .ok (.laload, 1) := by decide +kernel
theorem d127_132 : decode (byt 127) 132 = .ok (.lastore, 1) := by decide +kernel
theorem d127_133 : decode (byt 127) 133 = .ok (.iconst 0, 1) := by decide +kernel
theorem d127_134 : decode (byt 127) 134 = .ok (.istore 4, 2) := by decide +kernel
theorem d127_136 : decode (byt 127) 136 = .ok (.iload 4, 2) := by decide +kernel
theorem d127_138 : decode (byt 127) 138 = .ok (.iload_n 2, 1) := by decide +kernel
theorem d127_139 : decode (byt 127) 139 = .ok (.if_icmp .ge 73, 3) := by decide +kernel
theorem d127_142 : decode (byt 127) 142 = .ok (.iload_n 2, 1) := by decide +kernel
theorem d127_143 : decode (byt 127) 143 = .ok (.istore 5, 2) := by decide +kernel
theorem d127_145 : decode (byt 127) 145 = .ok (.iload 5, 2) := by decide +kernel
theorem d127_147 : decode (byt 127) 147 = .ok (.ifCond .lt 59, 3) := by decide +kernel
theorem d127_150 : decode (byt 127) 150 = .ok (.aload_n 0, 1) := by decide +kernel
theorem d127_151 : decode (byt 127) 151 = .ok (.getfield 68, 3) := by decide +kernel
theorem d127_154 : decode (byt 127) 154 = .ok (.iload 5, 2) := by decide +kernel
theorem d127_156 : decode (byt 127) 156 = .ok (.iload 5, 2) := by decide +kernel
theorem d127_158 : decode (byt 127) 158 = .ok (.ifCond .le 15, 3) := by decide +kernel
theorem d127_161 : decode (byt 127) 161 = .ok (.aload_n 0, 1) := by decide +kernel
theorem d127_162 : decode (byt 127) 162 = .ok (.getfield 68, 3) := by decide +kernel
theorem d127_165 : decode (byt 127) 165 = .ok (.iload 5, 2) := by decide +kernel
theorem d127_167 : decode (byt 127) 167 = .ok (.iconst 1, 1) := by decide +kernel
theorem d127_168 : decode (byt 127) 168 = .ok (.isub, 1) := by decide +kernel
theorem d127_169 : decode (byt 127) 169 = .ok (.laload, 1) := by decide +kernel
theorem d127_170 : decode (byt 127) 170 = .ok (.goto 4, 3) := by decide +kernel
theorem d127_173 : decode (byt 127) 173 = .ok (.lconst 0, 1) := by decide +kernel
theorem d127_174 : decode (byt 127) 174 = .ok (.iload 4, 2) := by decide +kernel
theorem d127_176 : decode (byt 127) 176 = .ok (.iload_n 3, 1) := by decide +kernel
theorem d127_177 : decode (byt 127) 177 = .ok (.if_icmp .ge 13, 3) := by decide +kernel
theorem d127_180 : decode (byt 127) 180 = .ok (.aload_n 0, 1) := by decide +kernel
theorem d127_181 : decode (byt 127) 181 = .ok (.getfield 68, 3) := by decide +kernel
theorem d127_184 : decode (byt 127) 184 = .ok (.iload 5, 2) := by decide +kernel
theorem d127_186 : decode (byt 127) 186 = .ok (.laload, 1) := by decide +kernel
theorem d127_187 : decode (byt 127) 187 = .ok (.goto 11, 3) := by decide +kernel
theorem d127_190 : decode (byt 127) 190 = .ok (.aload_n 0, 1) := by decide +kernel
theorem d127_191 : decode (byt 127) 191 = .ok (.getfield 68, 3) := by decide +kernel
theorem d127_194 : decode (byt 127) 194 = .ok (.iload 5, 2) := by decide +kernel
theorem d127_196 : decode (byt 127) 196 = .ok (.laload, 1) := by decide +kernel
theorem d127_197 : decode (byt 127) 197 = .ok (.lneg, 1) := by decide +kernel
theorem d127_198 : decode (byt 127) 198 = .ok (.ladd, 1) := by decide +kernel
theorem d127_199 : decode (byt 127) 199 = .ok (.lastore, 1) := by decide +kernel
theorem d127_200 : decode (byt 127) 200 = .ok (.iinc 5 (-1), 3) := by decide +kernel
theorem d127_203 : decode (byt 127) 203 = .ok (.goto (-58), 3) := by decide +kernel
theorem d127_206 : decode (byt 127) 206 = .ok (.iinc 4 1, 3) := by decide +kernel
theorem d127_209 : decode (byt 127) 209 = .ok (.goto (-73), 3) := by decide +kernel
theorem d127_212 : decode (byt 127) 212 = .ok (.iconst 0, 1) := by decide +kernel
theorem d127_213 : decode (byt 127) 213 = .ok (.istore 4, 2) := by decide +kernel
theorem d127_215 : decode (byt 127) 215 = .ok (.iload 4, 2) := by decide +kernel
theorem d127_217 : decode (byt 127) 217 = .ok (.iload_n 2, 1) := by decide +kernel
theorem d127_218 : decode (byt 127) 218 = .ok (.if_icmp .gt 26, 3) := by decide +kernel
theorem d127_221 : decode (byt 127) 221 = .ok (.aload_n 0, 1) := by decide +kernel
theorem d127_222 : decode (byt 127) 222 = .ok (.getfield 65, 3) := by decide +kernel
theorem d127_225 : decode (byt 127) 225 = .ok (.iload 4, 2) := by decide +kernel
theorem d127_227 : decode (byt 127) 227 = .ok (.dup2, 1) := by decide +kernel
theorem d127_228 : decode (byt 127) 228 = .ok (.laload, 1) := by decide +kernel
theorem d127_229 : decode (byt 127) 229 = .ok (.aload_n 0, 1) := by decide +kernel
theorem d127_230 : decode (byt 127) 230 = .ok (.getfield 68, 3) := by decide +kernel
theorem d127_233 : decode (byt 127) 233 = .ok (.iload 4, 2) := by decide +kernel
theorem d127_235 : decode (byt 127) 235 = .ok (.laload, 1) := by decide +kernel
theorem d127_236 : decode (byt 127) 236 = .ok (.ladd, 1) := by decide +kernel
theorem d127_237 : decode (byt 127) 237 = .ok (.lastore, 1) := by decide +kernel
theorem d127_238 : decode (byt 127) 238 = .ok (.iinc 4 1, 3) := by decide +kernel
theorem d127_241 : decode (byt 127) 241 = .ok (.goto (-26), 3) := by decide +kernel
theorem d127_244 : decode (byt 127) 244 = .ok (.iinc 3 1, 3) := by decide +kernel
theorem d127_247 : decode (byt 127) 247 = .ok (.goto (-154), 3) := by decide +kernel
theorem d127_250 : decode (byt 127) 250 = .ok (.aload_n 0, 1) := by decide +kernel
theorem d127_251 : decode (byt 127) 251 = .ok (.iload_n 2, 1) := by decide +kernel
theorem d127_252 : decode (byt 127) 252 = .ok (.invokevirtual 139, 3) := by decide +kernel
theorem d127_255 : decode (byt 127) 255 = .ok (.ireturn, 1) := by decide +kernel
set_option maxRecDepth 20000 in
theorem S127_0 : (∀ (ls : Lo) (st : List Value) (h : Hp) (Q : Option Value → Hp → Prop)  (i : Nat), Wp 127 0 (some (.ref i) :: ls) (st) h Q ↔ Wp 127 1 (some (.ref i) :: ls) (.ref i :: st) h Q) ∧
  (∀ (ls : Lo) (st : List Value) (h : Hp) (Q : Option Value → Hp → Prop) (l0 : Option Value) (x : Int32), Wp 127 1 (l0 :: some (.int x) :: ls) (st) h Q ↔ Wp 127 2 (l0 :: some (.int x) :: ls) (.int x :: st) h Q) ∧
  (∀ (ls : Lo) (st : List Value) (n sl : Nat) (C Z : Nat → Nat) (I : Nat → Nat → Int32) (L : Nat → Nat → Int64) (R : Nat → Nat → Nat) (Q : Option Value → Hp → Prop) (x0 : Int32) (i : Nat), C i = 11 → (Wp 127 2 (ls) (.int x0 :: .ref i :: st) (n, sl, C, Z, I, L, R) Q ↔ (wsum st ≤ 8 ∧ Call 125 [some (.ref i), some (.int x0), none, none, none, none, none, none, none, none, none, none, none] (n, sl, C, Z, I, L, R) 127 5 ls st Q))) ∧
  (∀ (ls : Lo) (st : List Value) (h : Hp) (Q : Option Value → Hp → Prop)  (i : Nat), Wp 127 5 (some (.ref i) :: ls) (st) h Q ↔ Wp 127 6 (some (.ref i) :: ls) (.ref i :: st) h Q) ∧
  (∀ (ls : Lo) (st : List Value) (n sl : Nat) (C Z : Nat → Nat) (I : Nat → Nat → Int32) (L : Nat → Nat → Int64) (R : Nat → Nat → Nat) (Q : Option Value → Hp → Prop) (i : Nat), Wp 127 6 (ls) (.ref i :: st) (n, sl, C, Z, I, L, R) Q ↔ (C i = 11 ∧ Wp 127 9 (ls) (.ref (R i 2) :: st) (n, sl, C, Z, I, L, R) Q)) ∧
  (∀ (ls : Lo) (st : List Value) (h : Hp) (Q : Option Value → Hp → Prop) (l0 : Option Value) (x : Int32), Wp 127 9 (l0 :: some (.int x) :: ls) (st) h Q ↔ Wp 127 10 (l0 :: some (.int x) :: ls) (.int x :: st) h Q) ∧
  (∀ (ls : Lo) (st : List Value) (n sl : Nat) (C Z : Nat → Nat) (I : Nat → Nat → Int32) (L : Nat → Nat → Int64) (R : Nat → Nat → Nat) (Q : Option Value → Hp → Prop) (i : Nat) (y : Int32), Wp 127 10 (ls) (.int y :: .ref i :: st) (n, sl, C, Z, I, L, R) Q ↔ ((inb y (Z i) = true ∧ C i = 21) ∧ Wp 127 11 (ls) (.int (I i (ix y)) :: st) (n, sl, C, Z, I, L, R) Q)) ∧
  (∀ (ls : Lo) (st : List Value) (h : Hp) (Q : Option Value → Hp → Prop) (l0 l1 l2 : Option Value) (x : Int32), Wp 127 11 (l0 :: l1 :: l2 :: ls) (.int x :: st) h Q ↔ Wp 127 12 (l0 :: clr l1 :: some (.int x) :: ls) (st) h Q) ∧
  (∀ (ls : Lo) (st : List Value) (h : Hp) (Q : Option Value → Hp → Prop)  (i : Nat), Wp 127 12 (some (.ref i) :: ls) (st) h Q ↔ Wp 127 13 (some (.ref i) :: ls) (.ref i :: st) h Q) ∧
  (∀ (ls : Lo) (st : List Value) (n sl : Nat) (C Z : Nat → Nat) (I : Nat → Nat → Int32) (L : Nat → Nat → Int64) (R : Nat → Nat → Nat) (Q : Option Value → Hp → Prop) (i : Nat), Wp 127 13 (ls) (.ref i :: st) (n, sl, C, Z, I, L, R) Q ↔ (C i = 11 ∧ Wp 127 16 (ls) (.ref (R i 1) :: st) (n, sl, C, Z, I, L, R) Q)) ∧
  (∀ (ls : Lo) (st : List Value) (h : Hp) (Q : Option Value → Hp → Prop) (l0 : Option Value) (x : Int32), Wp 127 16 (l0 :: some (.int x) :: ls) (st) h Q ↔ Wp 127 17 (l0 :: some (.int x) :: ls) (.int x :: st) h Q) ∧
  (∀ (ls : Lo) (st : List Value) (n sl : Nat) (C Z : Nat → Nat) (I : Nat → Nat → Int32) (L : Nat → Nat → Int64) (R : Nat → Nat → Nat) (Q : Option Value → Hp → Prop) (i : Nat) (y : Int32), Wp 127 17 (ls) (.int y :: .ref i :: st) (n, sl, C, Z, I, L, R) Q ↔ ((inb y (Z i) = true ∧ C i = 21) ∧ Wp 127 18 (ls) (.int (I i (ix y)) :: st) (n, sl, C, Z, I, L, R) Q)) ∧
  (∀ (ls : Lo) (st : List Value) (h : Hp) (Q : Option Value → Hp → Prop), Wp 127 18 (ls) (st) h Q ↔ Wp 127 19 (ls) (.int (1) :: st) h Q) ∧
  (∀ (ls : Lo) (st : List Value) (h : Hp) (Q : Option Value → Hp → Prop) (x y : Int32), Wp 127 19 (ls) (.int y :: .int x :: st) h Q ↔ Br 127 71 22 ls st h Q (x = y)) ∧
  (∀ (ls : Lo) (st : List Value) (h : Hp) (Q : Option Value → Hp → Prop), Wp 127 22 (ls) (st) h Q ↔ Wp 127 23 (ls) (.long 1 :: st) h Q) ∧
  (∀ (ls : Lo) (st : List Value) (h : Hp) (Q : Option Value → Hp → Prop) (l0 l1 l2 l3 l4 : Option Value) (a : Int64), Wp 127 23 (l0 :: l1 :: l2 :: l3 :: l4 :: ls) (.long a :: st) h Q ↔ Wp 127 24 (l0 :: l1 :: clr l2 :: some (.long a) :: none :: ls) (st) h Q) ∧
  (∀ (ls : Lo) (st : List Value) (h : Hp) (Q : Option Value → Hp → Prop), Wp 127 24 (ls) (st) h Q ↔ Wp 127 25 (ls) (.int (0) :: st) h Q) ∧
  (∀ (ls : Lo) (st : List Value) (h : Hp) (Q : Option Value → Hp → Prop) (l0 l1 l2 l3 l4 l5 : Option Value) (x : Int32), Wp 127 25 (l0 :: l1 :: l2 :: l3 :: l4 :: l5 :: ls) (.int x :: st) h Q ↔ Wp 127 27 (l0 :: l1 :: l2 :: l3 :: clr l4 :: some (.int x) :: ls) (st) h Q) ∧
  (∀ (ls : Lo) (st : List Value) (h : Hp) (Q : Option Value → Hp → Prop) (l0 l1 l2 l3 l4 : Option Value) (x : Int32), Wp 127 27 (l0 :: l1 :: l2 :: l3 :: l4 :: some (.int x) :: ls) (st) h Q ↔ Wp 127 29 (l0 :: l1 :: l2 :: l3 :: l4 :: some (.int x) :: ls) (.int x :: st) h Q) ∧
  (∀ (ls : Lo) (st : List Value) (h : Hp) (Q : Option Value → Hp → Prop) (l0 l1 : Option Value) (x : Int32), Wp 127 29 (l0 :: l1 :: some (.int x) :: ls) (st) h Q ↔ Wp 127 30 (l0 :: l1 :: some (.int x) :: ls) (.int x :: st) h Q) ∧
  (∀ (ls : Lo) (st : List Value) (h : Hp) (Q : Option Value → Hp → Prop) (x y : Int32), Wp 127 30 (ls) (.int y :: .int x :: st) h Q ↔ Br 127 65 33 ls st h Q (y < x)) ∧
  (∀ (ls : Lo) (st : List Value) (h : Hp) (Q : Option Value → Hp → Prop)  (i : Nat), Wp 127 33 (some (.ref i) :: ls) (st) h Q ↔ Wp 127 34 (some (.ref i) :: ls) (.ref i :: st) h Q) ∧
  (∀ (ls : Lo) (st : List Value) (n sl : Nat) (C Z : Nat → Nat) (I : Nat → Nat → Int32) (L : Nat → Nat → Int64) (R : Nat → Nat → Nat) (Q : Option Value → Hp → Prop) (i : Nat), Wp 127 34 (ls) (.ref i :: st) (n, sl, C, Z, I, L, R) Q ↔ (C i = 11 ∧ Wp 127 37 (ls) (.ref (R i 22) :: st) (n, sl, C, Z, I, L, R) Q)) ∧
  (∀ (ls : Lo) (st : List Value) (h : Hp) (Q : Option Value → Hp → Prop) (l0 l1 l2 l3 l4 : Option Value) (x : Int32), Wp 127 37 (l0 :: l1 :: l2 :: l3 :: l4 :: some (.int x) :: ls) (st) h Q ↔ Wp 127 39 (l0 :: l1 :: l2 :: l3 :: l4 :: some (.int x) :: ls) (.int x :: st) h Q) ∧
  (∀ (ls : Lo) (st : List Value) (h : Hp) (Q : Option Value → Hp → Prop)  (i : Nat), Wp 127 39 (some (.ref i) :: ls) (st) h Q ↔ Wp 127 40 (some (.ref i) :: ls) (.ref i :: st) h Q) := ⟨by intro ls st h Q i; exact e_aload_n d127_0 rfl,
  by intro ls st h Q l0 x; exact e_iload_n d127_1 rfl,
  by intro ls st n sl C Z I L R Q x0 i hh; exact e_iv (k2 := 125) (c := 11) (as := [.int x0]) d127_2 rfl (by decide) rfl rfl (by decide +kernel) (Nat.le_of_ble_eq_true rfl) rfl hh,
  by intro ls st h Q i; exact e_aload_n d127_5 rfl,
  by intro ls st n sl C Z I L R Q i; exact e_get (g := 10) (s := 2) (ty := 2) d127_6 rfl rfl (inG_ne (by decide)),
  by intro ls st h Q l0 x; exact e_iload_n d127_9 rfl,
  by intro ls st n sl C Z I L R Q i y; exact e_iald d127_10,
  by intro ls st h Q l0 l1 l2 x; exact e_istore_n d127_11 rfl,
  by intro ls st h Q i; exact e_aload_n d127_12 rfl,
  by intro ls st n sl C Z I L R Q i; exact e_get (g := 10) (s := 1) (ty := 2) d127_13 rfl rfl (inG_ne (by decide)),
  by intro ls st h Q l0 x; exact e_iload_n d127_16 rfl,
  by intro ls st n sl C Z I L R Q i y; exact e_iald d127_17,
  by intro ls st h Q; exact e_iconst d127_18 rfl,
  by intro ls st h Q x y; exact e_ic d127_19 (by decide) c_eq,
  by intro ls st h Q; exact e_lconst d127_22 rfl,
  by intro ls st h Q l0 l1 l2 l3 l4 a; exact e_lstore_n d127_23 rfl,
  by intro ls st h Q; exact e_iconst d127_24 rfl,
  by intro ls st h Q l0 l1 l2 l3 l4 l5 x; exact e_istore d127_25 rfl,
  by intro ls st h Q l0 l1 l2 l3 l4 x; exact e_iload d127_27 rfl,
  by intro ls st h Q l0 l1 x; exact e_iload_n d127_29 rfl,
  by intro ls st h Q x y; exact e_ic d127_30 (by decide) c_gt,
  by intro ls st h Q i; exact e_aload_n d127_33 rfl,
  by intro ls st n sl C Z I L R Q i; exact e_get (g := 10) (s := 22) (ty := 2) d127_34 rfl rfl (inG_ne (by decide)),
  by intro ls st h Q l0 l1 l2 l3 l4 x; exact e_iload d127_37 rfl,
  by intro ls st h Q i; exact e_aload_n d127_39 rfl⟩
set_option maxRecDepth 20000 in
theorem S127_1 : (∀ (ls : Lo) (st : List Value) (n sl : Nat) (C Z : Nat → Nat) (I : Nat → Nat → Int32) (L : Nat → Nat → Int64) (R : Nat → Nat → Nat) (Q : Option Value → Hp → Prop) (i : Nat), Wp 127 40 (ls) (.ref i :: st) (n, sl, C, Z, I, L, R) Q ↔ (C i = 11 ∧ Wp 127 43 (ls) (.ref (R i 21) :: st) (n, sl, C, Z, I, L, R) Q)) ∧
  (∀ (ls : Lo) (st : List Value) (h : Hp) (Q : Option Value → Hp → Prop) (l0 l1 l2 l3 l4 : Option Value) (x : Int32), Wp 127 43 (l0 :: l1 :: l2 :: l3 :: l4 :: some (.int x) :: ls) (st) h Q ↔ Wp 127 45 (l0 :: l1 :: l2 :: l3 :: l4 :: some (.int x) :: ls) (.int x :: st) h Q) ∧
  (∀ (ls : Lo) (st : List Value) (n sl : Nat) (C Z : Nat → Nat) (I : Nat → Nat → Int32) (L : Nat → Nat → Int64) (R : Nat → Nat → Nat) (Q : Option Value → Hp → Prop) (i : Nat) (y : Int32), Wp 127 45 (ls) (.int y :: .ref i :: st) (n, sl, C, Z, I, L, R) Q ↔ ((inb y (Z i) = true ∧ C i = 22) ∧ Wp 127 46 (ls) (.long (L i (ix y)) :: st) (n, sl, C, Z, I, L, R) Q)) ∧
  (∀ (ls : Lo) (st : List Value) (h : Hp) (Q : Option Value → Hp → Prop) (l0 l1 l2 : Option Value) (a : Int64), Wp 127 46 (l0 :: l1 :: l2 :: some (.long a) :: ls) (st) h Q ↔ Wp 127 47 (l0 :: l1 :: l2 :: some (.long a) :: ls) (.long a :: st) h Q) ∧
  (∀ (ls : Lo) (st : List Value) (h : Hp) (Q : Option Value → Hp → Prop) (a b : Int64), Wp 127 47 (ls) (.long b :: .long a :: st) h Q ↔ Wp 127 48 (ls) (.long (a * b) :: st) h Q) ∧
  (∀ (ls : Lo) (st : List Value) (n sl : Nat) (C Z : Nat → Nat) (I : Nat → Nat → Int32) (L : Nat → Nat → Int64) (R : Nat → Nat → Nat) (Q : Option Value → Hp → Prop) (i : Nat) (y : Int32) (a : Int64), Wp 127 48 (ls) (.long a :: .int y :: .ref i :: st) (n, sl, C, Z, I, L, R) Q ↔ ((inb y (Z i) = true ∧ C i = 22) ∧ Wp 127 49 (ls) (st) (n, sl, C, Z, I, u2 L i (ix y) a, R) Q)) ∧
  (∀ (ls : Lo) (st : List Value) (h : Hp) (Q : Option Value → Hp → Prop) (l0 l1 l2 : Option Value) (a : Int64), Wp 127 49 (l0 :: l1 :: l2 :: some (.long a) :: ls) (st) h Q ↔ Wp 127 50 (l0 :: l1 :: l2 :: some (.long a) :: ls) (.long a :: st) h Q) ∧
  (∀ (ls : Lo) (st : List Value) (h : Hp) (Q : Option Value → Hp → Prop)  (i : Nat), Wp 127 50 (some (.ref i) :: ls) (st) h Q ↔ Wp 127 51 (some (.ref i) :: ls) (.ref i :: st) h Q) ∧
  (∀ (ls : Lo) (st : List Value) (n sl : Nat) (C Z : Nat → Nat) (I : Nat → Nat → Int32) (L : Nat → Nat → Int64) (R : Nat → Nat → Nat) (Q : Option Value → Hp → Prop) (i : Nat), Wp 127 51 (ls) (.ref i :: st) (n, sl, C, Z, I, L, R) Q ↔ (C i = 11 ∧ Wp 127 54 (ls) (.ref (R i 3) :: st) (n, sl, C, Z, I, L, R) Q)) ∧
  (∀ (ls : Lo) (st : List Value) (h : Hp) (Q : Option Value → Hp → Prop) (l0 : Option Value) (x : Int32), Wp 127 54 (l0 :: some (.int x) :: ls) (st) h Q ↔ Wp 127 55 (l0 :: some (.int x) :: ls) (.int x :: st) h Q) ∧
  (∀ (ls : Lo) (st : List Value) (n sl : Nat) (C Z : Nat → Nat) (I : Nat → Nat → Int32) (L : Nat → Nat → Int64) (R : Nat → Nat → Nat) (Q : Option Value → Hp → Prop) (i : Nat) (y : Int32), Wp 127 55 (ls) (.int y :: .ref i :: st) (n, sl, C, Z, I, L, R) Q ↔ ((inb y (Z i) = true ∧ C i = 21) ∧ Wp 127 56 (ls) (.int (I i (ix y)) :: st) (n, sl, C, Z, I, L, R) Q)) ∧
  (∀ (ls : Lo) (st : List Value) (h : Hp) (Q : Option Value → Hp → Prop) (x : Int32), Wp 127 56 (ls) (.int x :: st) h Q ↔ Wp 127 57 (ls) (.long x.toInt64 :: st) h Q) ∧
  (∀ (ls : Lo) (st : List Value) (h : Hp) (Q : Option Value → Hp → Prop) (a b : Int64), Wp 127 57 (ls) (.long b :: .long a :: st) h Q ↔ Wp 127 58 (ls) (.long (a * b) :: st) h Q) ∧
  (∀ (ls : Lo) (st : List Value) (h : Hp) (Q : Option Value → Hp → Prop) (l0 l1 l2 l3 l4 : Option Value) (a : Int64), Wp 127 58 (l0 :: l1 :: l2 :: l3 :: l4 :: ls) (.long a :: st) h Q ↔ Wp 127 59 (l0 :: l1 :: clr l2 :: some (.long a) :: none :: ls) (st) h Q) ∧
  (∀ (ls : Lo) (st : List Value) (h : Hp) (Q : Option Value → Hp → Prop) (l0 l1 l2 l3 l4 : Option Value) (x : Int32), Wp 127 59 (l0 :: l1 :: l2 :: l3 :: l4 :: some (.int x) :: ls) (st) h Q ↔ Wp 127 62 (l0 :: l1 :: l2 :: l3 :: clr l4 :: some (.int (x + (1))) :: ls) (st) h Q) ∧
  (∀ (ls : Lo) (st : List Value) (h : Hp) (Q : Option Value → Hp → Prop), Wp 127 62 (ls) (st) h Q ↔ Wp 127 27 (ls) (st) h Q) ∧
  (∀ (ls : Lo) (st : List Value) (h : Hp) (Q : Option Value → Hp → Prop)  (i : Nat), Wp 127 65 (some (.ref i) :: ls) (st) h Q ↔ Wp 127 66 (some (.ref i) :: ls) (.ref i :: st) h Q) ∧
  (∀ (ls : Lo) (st : List Value) (h : Hp) (Q : Option Value → Hp → Prop) (l0 l1 : Option Value) (x : Int32), Wp 127 66 (l0 :: l1 :: some (.int x) :: ls) (st) h Q ↔ Wp 127 67 (l0 :: l1 :: some (.int x) :: ls) (.int x :: st) h Q) ∧
  (∀ (ls : Lo) (st : List Value) (n sl : Nat) (C Z : Nat → Nat) (I : Nat → Nat → Int32) (L : Nat → Nat → Int64) (R : Nat → Nat → Nat) (Q : Option Value → Hp → Prop) (x0 : Int32) (i : Nat), C i = 11 → (Wp 127 67 (ls) (.int x0 :: .ref i :: st) (n, sl, C, Z, I, L, R) Q ↔ (wsum st ≤ 8 ∧ Call 126 [some (.ref i), some (.int x0), none, none, none, none, none, none, none, none] (n, sl, C, Z, I, L, R) 127 70 ls st Q))) ∧
  (∀ (ls : Lo) (h : Hp) (Q : Option Value → Hp → Prop) (x : Int32), Wp 127 70 (ls) ([.int x]) h Q ↔ ((x = 0 ∨ x = 1) ∧ Q (some (.int x)) h)) ∧
  (∀ (ls : Lo) (st : List Value) (h : Hp) (Q : Option Value → Hp → Prop), Wp 127 71 (ls) (st) h Q ↔ Wp 127 72 (ls) (.int (0) :: st) h Q) ∧
  (∀ (ls : Lo) (st : List Value) (h : Hp) (Q : Option Value → Hp → Prop) (l0 l1 l2 l3 : Option Value) (x : Int32), Wp 127 72 (l0 :: l1 :: l2 :: l3 :: ls) (.int x :: st) h Q ↔ Wp 127 73 (l0 :: l1 :: clr l2 :: some (.int x) :: ls) (st) h Q) ∧
  (∀ (ls : Lo) (st : List Value) (h : Hp) (Q : Option Value → Hp → Prop) (l0 l1 l2 : Option Value) (x : Int32), Wp 127 73 (l0 :: l1 :: l2 :: some (.int x) :: ls) (st) h Q ↔ Wp 127 74 (l0 :: l1 :: l2 :: some (.int x) :: ls) (.int x :: st) h Q) ∧
  (∀ (ls : Lo) (st : List Value) (h : Hp) (Q : Option Value → Hp → Prop) (l0 l1 : Option Value) (x : Int32), Wp 127 74 (l0 :: l1 :: some (.int x) :: ls) (st) h Q ↔ Wp 127 75 (l0 :: l1 :: some (.int x) :: ls) (.int x :: st) h Q) ∧
  (∀ (ls : Lo) (st : List Value) (h : Hp) (Q : Option Value → Hp → Prop) (x y : Int32), Wp 127 75 (ls) (.int y :: .int x :: st) h Q ↔ Br 127 91 78 ls st h Q (y < x)) := ⟨by intro ls st n sl C Z I L R Q i; exact e_get (g := 10) (s := 21) (ty := 2) d127_40 rfl rfl (inG_ne (by decide)),
  by intro ls st h Q l0 l1 l2 l3 l4 x; exact e_iload d127_43 rfl,
  by intro ls st n sl C Z I L R Q i y; exact e_lald d127_45,
  by intro ls st h Q l0 l1 l2 a; exact e_lload_n d127_46 rfl,
  by intro ls st h Q a b; exact e_lmul d127_47,
  by intro ls st n sl C Z I L R Q i y a; exact e_last d127_48,
  by intro ls st h Q l0 l1 l2 a; exact e_lload_n d127_49 rfl,
  by intro ls st h Q i; exact e_aload_n d127_50 rfl,
  by intro ls st n sl C Z I L R Q i; exact e_get (g := 10) (s := 3) (ty := 2) d127_51 rfl rfl (inG_ne (by decide)),
  by intro ls st h Q l0 x; exact e_iload_n d127_54 rfl,
  by intro ls st n sl C Z I L R Q i y; exact e_iald d127_55,
  by intro ls st h Q x; exact e_i2l d127_56,
  by intro ls st h Q a b; exact e_lmul d127_57,
  by intro ls st h Q l0 l1 l2 l3 l4 a; exact e_lstore_n d127_58 rfl,
  by intro ls st h Q l0 l1 l2 l3 l4 x; exact e_iinc d127_59 rfl rfl rfl,
  by intro ls st h Q; exact e_goto d127_62 (by decide),
  by intro ls st h Q i; exact e_aload_n d127_65 rfl,
  by intro ls st h Q l0 l1 x; exact e_iload_n d127_66 rfl,
  by intro ls st n sl C Z I L R Q x0 i hh; exact e_iv (k2 := 126) (c := 11) (as := [.int x0]) d127_67 rfl (by decide) rfl rfl (by decide +kernel) (Nat.le_of_ble_eq_true rfl) rfl hh,
  by intros; exact e_rZ d127_70 rfl,
  by intro ls st h Q; exact e_iconst d127_71 rfl,
  by intro ls st h Q l0 l1 l2 l3 x; exact e_istore_n d127_72 rfl,
  by intro ls st h Q l0 l1 l2 x; exact e_iload_n d127_73 rfl,
  by intro ls st h Q l0 l1 x; exact e_iload_n d127_74 rfl,
  by intro ls st h Q x y; exact e_ic d127_75 (by decide) c_gt⟩
set_option maxRecDepth 20000 in
theorem S127_2 : (∀ (ls : Lo) (st : List Value) (h : Hp) (Q : Option Value → Hp → Prop)  (i : Nat), Wp 127 78 (some (.ref i) :: ls) (st) h Q ↔ Wp 127 79 (some (.ref i) :: ls) (.ref i :: st) h Q) ∧
  (∀ (ls : Lo) (st : List Value) (n sl : Nat) (C Z : Nat → Nat) (I : Nat → Nat → Int32) (L : Nat → Nat → Int64) (R : Nat → Nat → Nat) (Q : Option Value → Hp → Prop) (i : Nat), Wp 127 79 (ls) (.ref i :: st) (n, sl, C, Z, I, L, R) Q ↔ (C i = 11 ∧ Wp 127 82 (ls) (.ref (R i 22) :: st) (n, sl, C, Z, I, L, R) Q)) ∧
  (∀ (ls : Lo) (st : List Value) (h : Hp) (Q : Option Value → Hp → Prop) (l0 l1 l2 : Option Value) (x : Int32), Wp 127 82 (l0 :: l1 :: l2 :: some (.int x) :: ls) (st) h Q ↔ Wp 127 83 (l0 :: l1 :: l2 :: some (.int x) :: ls) (.int x :: st) h Q) ∧
  (∀ (ls : Lo) (st : List Value) (h : Hp) (Q : Option Value → Hp → Prop), Wp 127 83 (ls) (st) h Q ↔ Wp 127 84 (ls) (.long 0 :: st) h Q) ∧
  (∀ (ls : Lo) (st : List Value) (n sl : Nat) (C Z : Nat → Nat) (I : Nat → Nat → Int32) (L : Nat → Nat → Int64) (R : Nat → Nat → Nat) (Q : Option Value → Hp → Prop) (i : Nat) (y : Int32) (a : Int64), Wp 127 84 (ls) (.long a :: .int y :: .ref i :: st) (n, sl, C, Z, I, L, R) Q ↔ ((inb y (Z i) = true ∧ C i = 22) ∧ Wp 127 85 (ls) (st) (n, sl, C, Z, I, u2 L i (ix y) a, R) Q)) ∧
  (∀ (ls : Lo) (st : List Value) (h : Hp) (Q : Option Value → Hp → Prop) (l0 l1 l2 : Option Value) (x : Int32), Wp 127 85 (l0 :: l1 :: l2 :: some (.int x) :: ls) (st) h Q ↔ Wp 127 88 (l0 :: l1 :: clr l2 :: some (.int (x + (1))) :: ls) (st) h Q) ∧
  (∀ (ls : Lo) (st : List Value) (h : Hp) (Q : Option Value → Hp → Prop), Wp 127 88 (ls) (st) h Q ↔ Wp 127 73 (ls) (st) h Q) ∧
  (∀ (ls : Lo) (st : List Value) (h : Hp) (Q : Option Value → Hp → Prop), Wp 127 91 (ls) (st) h Q ↔ Wp 127 92 (ls) (.int (0) :: st) h Q) ∧
  (∀ (ls : Lo) (st : List Value) (h : Hp) (Q : Option Value → Hp → Prop) (l0 l1 l2 l3 : Option Value) (x : Int32), Wp 127 92 (l0 :: l1 :: l2 :: l3 :: ls) (.int x :: st) h Q ↔ Wp 127 93 (l0 :: l1 :: clr l2 :: some (.int x) :: ls) (st) h Q) ∧
  (∀ (ls : Lo) (st : List Value) (h : Hp) (Q : Option Value → Hp → Prop) (l0 l1 l2 : Option Value) (x : Int32), Wp 127 93 (l0 :: l1 :: l2 :: some (.int x) :: ls) (st) h Q ↔ Wp 127 94 (l0 :: l1 :: l2 :: some (.int x) :: ls) (.int x :: st) h Q) ∧
  (∀ (ls : Lo) (st : List Value) (h : Hp) (Q : Option Value → Hp → Prop) (l0 l1 : Option Value) (x : Int32), Wp 127 94 (l0 :: l1 :: some (.int x) :: ls) (st) h Q ↔ Wp 127 95 (l0 :: l1 :: some (.int x) :: ls) (.int x :: st) h Q) ∧
  (∀ (ls : Lo) (st : List Value) (h : Hp) (Q : Option Value → Hp → Prop) (x y : Int32), Wp 127 95 (ls) (.int y :: .int x :: st) h Q ↔ Br 127 250 98 ls st h Q (y < x)) ∧
  (∀ (ls : Lo) (st : List Value) (h : Hp) (Q : Option Value → Hp → Prop), Wp 127 98 (ls) (st) h Q ↔ Wp 127 99 (ls) (.int (0) :: st) h Q) ∧
  (∀ (ls : Lo) (st : List Value) (h : Hp) (Q : Option Value → Hp → Prop) (l0 l1 l2 l3 l4 : Option Value) (x : Int32), Wp 127 99 (l0 :: l1 :: l2 :: l3 :: l4 :: ls) (.int x :: st) h Q ↔ Wp 127 101 (l0 :: l1 :: l2 :: clr l3 :: some (.int x) :: ls) (st) h Q) ∧
  (∀ (ls : Lo) (st : List Value) (h : Hp) (Q : Option Value → Hp → Prop) (l0 l1 l2 l3 : Option Value) (x : Int32), Wp 127 101 (l0 :: l1 :: l2 :: l3 :: some (.int x) :: ls) (st) h Q ↔ Wp 127 103 (l0 :: l1 :: l2 :: l3 :: some (.int x) :: ls) (.int x :: st) h Q) ∧
  (∀ (ls : Lo) (st : List Value) (h : Hp) (Q : Option Value → Hp → Prop) (l0 l1 : Option Value) (x : Int32), Wp 127 103 (l0 :: l1 :: some (.int x) :: ls) (st) h Q ↔ Wp 127 104 (l0 :: l1 :: some (.int x) :: ls) (.int x :: st) h Q) ∧
  (∀ (ls : Lo) (st : List Value) (h : Hp) (Q : Option Value → Hp → Prop) (x y : Int32), Wp 127 104 (ls) (.int y :: .int x :: st) h Q ↔ Br 127 121 107 ls st h Q (y < x)) ∧
  (∀ (ls : Lo) (st : List Value) (h : Hp) (Q : Option Value → Hp → Prop)  (i : Nat), Wp 127 107 (some (.ref i) :: ls) (st) h Q ↔ Wp 127 108 (some (.ref i) :: ls) (.ref i :: st) h Q) ∧
  (∀ (ls : Lo) (st : List Value) (n sl : Nat) (C Z : Nat → Nat) (I : Nat → Nat → Int32) (L : Nat → Nat → Int64) (R : Nat → Nat → Nat) (Q : Option Value → Hp → Prop) (i : Nat), Wp 127 108 (ls) (.ref i :: st) (n, sl, C, Z, I, L, R) Q ↔ (C i = 11 ∧ Wp 127 111 (ls) (.ref (R i 23) :: st) (n, sl, C, Z, I, L, R) Q)) ∧
  (∀ (ls : Lo) (st : List Value) (h : Hp) (Q : Option Value → Hp → Prop) (l0 l1 l2 l3 : Option Value) (x : Int32), Wp 127 111 (l0 :: l1 :: l2 :: l3 :: some (.int x) :: ls) (st) h Q ↔ Wp 127 113 (l0 :: l1 :: l2 :: l3 :: some (.int x) :: ls) (.int x :: st) h Q) ∧
  (∀ (ls : Lo) (st : List Value) (h : Hp) (Q : Option Value → Hp → Prop), Wp 127 113 (ls) (st) h Q ↔ Wp 127 114 (ls) (.long 0 :: st) h Q) ∧
  (∀ (ls : Lo) (st : List Value) (n sl : Nat) (C Z : Nat → Nat) (I : Nat → Nat → Int32) (L : Nat → Nat → Int64) (R : Nat → Nat → Nat) (Q : Option Value → Hp → Prop) (i : Nat) (y : Int32) (a : Int64), Wp 127 114 (ls) (.long a :: .int y :: .ref i :: st) (n, sl, C, Z, I, L, R) Q ↔ ((inb y (Z i) = true ∧ C i = 22) ∧ Wp 127 115 (ls) (st) (n, sl, C, Z, I, u2 L i (ix y) a, R) Q)) ∧
  (∀ (ls : Lo) (st : List Value) (h : Hp) (Q : Option Value → Hp → Prop) (l0 l1 l2 l3 : Option Value) (x : Int32), Wp 127 115 (l0 :: l1 :: l2 :: l3 :: some (.int x) :: ls) (st) h Q ↔ Wp 127 118 (l0 :: l1 :: l2 :: clr l3 :: some (.int (x + (1))) :: ls) (st) h Q) ∧
  (∀ (ls : Lo) (st : List Value) (h : Hp) (Q : Option Value → Hp → Prop), Wp 127 118 (ls) (st) h Q ↔ Wp 127 101 (ls) (st) h Q) ∧
  (∀ (ls : Lo) (st : List Value) (h : Hp) (Q : Option Value → Hp → Prop)  (i : Nat), Wp 127 121 (some (.ref i) :: ls) (st) h Q ↔ Wp 127 122 (some (.ref i) :: ls) (.ref i :: st) h Q) := ⟨by intro ls st h Q i; exact e_aload_n d127_78 rfl,
  by intro ls st n sl C Z I L R Q i; exact e_get (g := 10) (s := 22) (ty := 2) d127_79 rfl rfl (inG_ne (by decide)),
  by intro ls st h Q l0 l1 l2 x; exact e_iload_n d127_82 rfl,
  by intro ls st h Q; exact e_lconst d127_83 rfl,
  by intro ls st n sl C Z I L R Q i y a; exact e_last d127_84,
  by intro ls st h Q l0 l1 l2 x; exact e_iinc d127_85 rfl rfl rfl,
  by intro ls st h Q; exact e_goto d127_88 (by decide),
  by intro ls st h Q; exact e_iconst d127_91 rfl,
  by intro ls st h Q l0 l1 l2 l3 x; exact e_istore_n d127_92 rfl,
  by intro ls st h Q l0 l1 l2 x; exact e_iload_n d127_93 rfl,
  by intro ls st h Q l0 l1 x; exact e_iload_n d127_94 rfl,
  by intro ls st h Q x y; exact e_ic d127_95 (by decide) c_gt,
  by intro ls st h Q; exact e_iconst d127_98 rfl,
  by intro ls st h Q l0 l1 l2 l3 l4 x; exact e_istore d127_99 rfl,
  by intro ls st h Q l0 l1 l2 l3 x; exact e_iload d127_101 rfl,
  by intro ls st h Q l0 l1 x; exact e_iload_n d127_103 rfl,
  by intro ls st h Q x y; exact e_ic d127_104 (by decide) c_gt,
  by intro ls st h Q i; exact e_aload_n d127_107 rfl,
  by intro ls st n sl C Z I L R Q i; exact e_get (g := 10) (s := 23) (ty := 2) d127_108 rfl rfl (inG_ne (by decide)),
  by intro ls st h Q l0 l1 l2 l3 x; exact e_iload d127_111 rfl,
  by intro ls st h Q; exact e_lconst d127_113 rfl,
  by intro ls st n sl C Z I L R Q i y a; exact e_last d127_114,
  by intro ls st h Q l0 l1 l2 l3 x; exact e_iinc d127_115 rfl rfl rfl,
  by intro ls st h Q; exact e_goto d127_118 (by decide),
  by intro ls st h Q i; exact e_aload_n d127_121 rfl⟩
set_option maxRecDepth 20000 in
theorem S127_3 : (∀ (ls : Lo) (st : List Value) (n sl : Nat) (C Z : Nat → Nat) (I : Nat → Nat → Int32) (L : Nat → Nat → Int64) (R : Nat → Nat → Nat) (Q : Option Value → Hp → Prop) (i : Nat), Wp 127 122 (ls) (.ref i :: st) (n, sl, C, Z, I, L, R) Q ↔ (C i = 11 ∧ Wp 127 125 (ls) (.ref (R i 23) :: st) (n, sl, C, Z, I, L, R) Q)) ∧
  (∀ (ls : Lo) (st : List Value) (h : Hp) (Q : Option Value → Hp → Prop), Wp 127 125 (ls) (st) h Q ↔ Wp 127 126 (ls) (.int (0) :: st) h Q) ∧
  (∀ (ls : Lo) (st : List Value) (h : Hp) (Q : Option Value → Hp → Prop)  (i : Nat), Wp 127 126 (some (.ref i) :: ls) (st) h Q ↔ Wp 127 127 (some (.ref i) :: ls) (.ref i :: st) h Q) ∧
  (∀ (ls : Lo) (st : List Value) (n sl : Nat) (C Z : Nat → Nat) (I : Nat → Nat → Int32) (L : Nat → Nat → Int64) (R : Nat → Nat → Nat) (Q : Option Value → Hp → Prop) (i : Nat), Wp 127 127 (ls) (.ref i :: st) (n, sl, C, Z, I, L, R) Q ↔ (C i = 11 ∧ Wp 127 130 (ls) (.ref (R i 21) :: st) (n, sl, C, Z, I, L, R) Q)) ∧
  (∀ (ls : Lo) (st : List Value) (h : Hp) (Q : Option Value → Hp → Prop) (l0 l1 l2 : Option Value) (x : Int32), Wp 127 130 (l0 :: l1 :: l2 :: some (.int x) :: ls) (st) h Q ↔ Wp 127 131 (l0 :: l1 :: l2 :: some (.int x) :: ls) (.int x :: st) h Q) ∧
  (∀ (ls : Lo) (st : List Value) (n sl : Nat) (C Z : Nat → Nat) (I : Nat → Nat → Int32) (L : Nat → Nat → Int64) (R : Nat → Nat → Nat) (Q : Option Value → Hp → Prop) (i : Nat) (y : Int32), Wp 127 131 (ls) (.int y :: .ref i :: st) (n, sl, C, Z, I, L, R) Q ↔ ((inb y (Z i) = true ∧ C i = 22) ∧ Wp 127 132 (ls) (.long (L i (ix y)) :: st) (n, sl, C, Z, I, L, R) Q)) ∧
  (∀ (ls : Lo) (st : List Value) (n sl : Nat) (C Z : Nat → Nat) (I : Nat → Nat → Int32) (L : Nat → Nat → Int64) (R : Nat → Nat → Nat) (Q : Option Value → Hp → Prop) (i : Nat) (y : Int32) (a : Int64), Wp 127 132 (ls) (.long a :: .int y :: .ref i :: st) (n, sl, C, Z, I, L, R) Q ↔ ((inb y (Z i) = true ∧ C i = 22) ∧ Wp 127 133 (ls) (st) (n, sl, C, Z, I, u2 L i (ix y) a, R) Q)) ∧
  (∀ (ls : Lo) (st : List Value) (h : Hp) (Q : Option Value → Hp → Prop), Wp 127 133 (ls) (st) h Q ↔ Wp 127 134 (ls) (.int (0) :: st) h Q) ∧
  (∀ (ls : Lo) (st : List Value) (h : Hp) (Q : Option Value → Hp → Prop) (l0 l1 l2 l3 l4 : Option Value) (x : Int32), Wp 127 134 (l0 :: l1 :: l2 :: l3 :: l4 :: ls) (.int x :: st) h Q ↔ Wp 127 136 (l0 :: l1 :: l2 :: clr l3 :: some (.int x) :: ls) (st) h Q) ∧
  (∀ (ls : Lo) (st : List Value) (h : Hp) (Q : Option Value → Hp → Prop) (l0 l1 l2 l3 : Option Value) (x : Int32), Wp 127 136 (l0 :: l1 :: l2 :: l3 :: some (.int x) :: ls) (st) h Q ↔ Wp 127 138 (l0 :: l1 :: l2 :: l3 :: some (.int x) :: ls) (.int x :: st) h Q) ∧
  (∀ (ls : Lo) (st : List Value) (h : Hp) (Q : Option Value → Hp → Prop) (l0 l1 : Option Value) (x : Int32), Wp 127 138 (l0 :: l1 :: some (.int x) :: ls) (st) h Q ↔ Wp 127 139 (l0 :: l1 :: some (.int x) :: ls) (.int x :: st) h Q) ∧
  (∀ (ls : Lo) (st : List Value) (h : Hp) (Q : Option Value → Hp → Prop) (x y : Int32), Wp 127 139 (ls) (.int y :: .int x :: st) h Q ↔ Br 127 212 142 ls st h Q (y ≤ x)) ∧
  (∀ (ls : Lo) (st : List Value) (h : Hp) (Q : Option Value → Hp → Prop) (l0 l1 : Option Value) (x : Int32), Wp 127 142 (l0 :: l1 :: some (.int x) :: ls) (st) h Q ↔ Wp 127 143 (l0 :: l1 :: some (.int x) :: ls) (.int x :: st) h Q) ∧
  (∀ (ls : Lo) (st : List Value) (h : Hp) (Q : Option Value → Hp → Prop) (l0 l1 l2 l3 l4 l5 : Option Value) (x : Int32), Wp 127 143 (l0 :: l1 :: l2 :: l3 :: l4 :: l5 :: ls) (.int x :: st) h Q ↔ Wp 127 145 (l0 :: l1 :: l2 :: l3 :: clr l4 :: some (.int x) :: ls) (st) h Q) ∧
  (∀ (ls : Lo) (st : List Value) (h : Hp) (Q : Option Value → Hp → Prop) (l0 l1 l2 l3 l4 : Option Value) (x : Int32), Wp 127 145 (l0 :: l1 :: l2 :: l3 :: l4 :: some (.int x) :: ls) (st) h Q ↔ Wp 127 147 (l0 :: l1 :: l2 :: l3 :: l4 :: some (.int x) :: ls) (.int x :: st) h Q) ∧
  (∀ (ls : Lo) (st : List Value) (h : Hp) (Q : Option Value → Hp → Prop) (x : Int32), Wp 127 147 (ls) (.int x :: st) h Q ↔ Br 127 206 150 ls st h Q (x < 0)) ∧
  (∀ (ls : Lo) (st : List Value) (h : Hp) (Q : Option Value → Hp → Prop)  (i : Nat), Wp 127 150 (some (.ref i) :: ls) (st) h Q ↔ Wp 127 151 (some (.ref i) :: ls) (.ref i :: st) h Q) ∧
  (∀ (ls : Lo) (st : List Value) (n sl : Nat) (C Z : Nat → Nat) (I : Nat → Nat → Int32) (L : Nat → Nat → Int64) (R : Nat → Nat → Nat) (Q : Option Value → Hp → Prop) (i : Nat), Wp 127 151 (ls) (.ref i :: st) (n, sl, C, Z, I, L, R) Q ↔ (C i = 11 ∧ Wp 127 154 (ls) (.ref (R i 23) :: st) (n, sl, C, Z, I, L, R) Q)) ∧
  (∀ (ls : Lo) (st : List Value) (h : Hp) (Q : Option Value → Hp → Prop) (l0 l1 l2 l3 l4 : Option Value) (x : Int32), Wp 127 154 (l0 :: l1 :: l2 :: l3 :: l4 :: some (.int x) :: ls) (st) h Q ↔ Wp 127 156 (l0 :: l1 :: l2 :: l3 :: l4 :: some (.int x) :: ls) (.int x :: st) h Q) ∧
  (∀ (ls : Lo) (st : List Value) (h : Hp) (Q : Option Value → Hp → Prop) (l0 l1 l2 l3 l4 : Option Value) (x : Int32), Wp 127 156 (l0 :: l1 :: l2 :: l3 :: l4 :: some (.int x) :: ls) (st) h Q ↔ Wp 127 158 (l0 :: l1 :: l2 :: l3 :: l4 :: some (.int x) :: ls) (.int x :: st) h Q) ∧
  (∀ (ls : Lo) (st : List Value) (h : Hp) (Q : Option Value → Hp → Prop) (x : Int32), Wp 127 158 (ls) (.int x :: st) h Q ↔ Br 127 173 161 ls st h Q (x ≤ 0)) ∧
  (∀ (ls : Lo) (st : List Value) (h : Hp) (Q : Option Value → Hp → Prop)  (i : Nat), Wp 127 161 (some (.ref i) :: ls) (st) h Q ↔ Wp 127 162 (some (.ref i) :: ls) (.ref i :: st) h Q) ∧
  (∀ (ls : Lo) (st : List Value) (n sl : Nat) (C Z : Nat → Nat) (I : Nat → Nat → Int32) (L : Nat → Nat → Int64) (R : Nat → Nat → Nat) (Q : Option Value → Hp → Prop) (i : Nat), Wp 127 162 (ls) (.ref i :: st) (n, sl, C, Z, I, L, R) Q ↔ (C i = 11 ∧ Wp 127 165 (ls) (.ref (R i 23) :: st) (n, sl, C, Z, I, L, R) Q)) ∧
  (∀ (ls : Lo) (st : List Value) (h : Hp) (Q : Option Value → Hp → Prop) (l0 l1 l2 l3 l4 : Option Value) (x : Int32), Wp 127 165 (l0 :: l1 :: l2 :: l3 :: l4 :: some (.int x) :: ls) (st) h Q ↔ Wp 127 167 (l0 :: l1 :: l2 :: l3 :: l4 :: some (.int x) :: ls) (.int x :: st) h Q) ∧
  (∀ (ls : Lo) (st : List Value) (h : Hp) (Q : Option Value → Hp → Prop), Wp 127 167 (ls) (st) h Q ↔ Wp 127 168 (ls) (.int (1) :: st) h Q) := ⟨by intro ls st n sl C Z I L R Q i; exact e_get (g := 10) (s := 23) (ty := 2) d127_122 rfl rfl (inG_ne (by decide)),
  by intro ls st h Q; exact e_iconst d127_125 rfl,
  by intro ls st h Q i; exact e_aload_n d127_126 rfl,
  by intro ls st n sl C Z I L R Q i; exact e_get (g := 10) (s := 21) (ty := 2) d127_127 rfl rfl (inG_ne (by decide)),
  by intro ls st h Q l0 l1 l2 x; exact e_iload_n d127_130 rfl,
  by intro ls st n sl C Z I L R Q i y; exact e_lald d127_131,
  by intro ls st n sl C Z I L R Q i y a; exact e_last d127_132,
  by intro ls st h Q; exact e_iconst d127_133 rfl,
  by intro ls st h Q l0 l1 l2 l3 l4 x; exact e_istore d127_134 rfl,
  by intro ls st h Q l0 l1 l2 l3 x; exact e_iload d127_136 rfl,
  by intro ls st h Q l0 l1 x; exact e_iload_n d127_138 rfl,
  by intro ls st h Q x y; exact e_ic d127_139 (by decide) c_ge,
  by intro ls st h Q l0 l1 x; exact e_iload_n d127_142 rfl,
  by intro ls st h Q l0 l1 l2 l3 l4 l5 x; exact e_istore d127_143 rfl,
  by intro ls st h Q l0 l1 l2 l3 l4 x; exact e_iload d127_145 rfl,
  by intro ls st h Q x; exact e_if d127_147 (by decide) c_lt,
  by intro ls st h Q i; exact e_aload_n d127_150 rfl,
  by intro ls st n sl C Z I L R Q i; exact e_get (g := 10) (s := 23) (ty := 2) d127_151 rfl rfl (inG_ne (by decide)),
  by intro ls st h Q l0 l1 l2 l3 l4 x; exact e_iload d127_154 rfl,
  by intro ls st h Q l0 l1 l2 l3 l4 x; exact e_iload d127_156 rfl,
  by intro ls st h Q x; exact e_if d127_158 (by decide) c_le,
  by intro ls st h Q i; exact e_aload_n d127_161 rfl,
  by intro ls st n sl C Z I L R Q i; exact e_get (g := 10) (s := 23) (ty := 2) d127_162 rfl rfl (inG_ne (by decide)),
  by intro ls st h Q l0 l1 l2 l3 l4 x; exact e_iload d127_165 rfl,
  by intro ls st h Q; exact e_iconst d127_167 rfl⟩
set_option maxRecDepth 20000 in
theorem S127_4 : (∀ (ls : Lo) (st : List Value) (h : Hp) (Q : Option Value → Hp → Prop) (x y : Int32), Wp 127 168 (ls) (.int y :: .int x :: st) h Q ↔ Wp 127 169 (ls) (.int (x - y) :: st) h Q) ∧
  (∀ (ls : Lo) (st : List Value) (n sl : Nat) (C Z : Nat → Nat) (I : Nat → Nat → Int32) (L : Nat → Nat → Int64) (R : Nat → Nat → Nat) (Q : Option Value → Hp → Prop) (i : Nat) (y : Int32), Wp 127 169 (ls) (.int y :: .ref i :: st) (n, sl, C, Z, I, L, R) Q ↔ ((inb y (Z i) = true ∧ C i = 22) ∧ Wp 127 170 (ls) (.long (L i (ix y)) :: st) (n, sl, C, Z, I, L, R) Q)) ∧
  (∀ (ls : Lo) (st : List Value) (h : Hp) (Q : Option Value → Hp → Prop), Wp 127 170 (ls) (st) h Q ↔ Wp 127 174 (ls) (st) h Q) ∧
  (∀ (ls : Lo) (st : List Value) (h : Hp) (Q : Option Value → Hp → Prop), Wp 127 173 (ls) (st) h Q ↔ Wp 127 174 (ls) (.long 0 :: st) h Q) ∧
  (∀ (ls : Lo) (st : List Value) (h : Hp) (Q : Option Value → Hp → Prop) (l0 l1 l2 l3 : Option Value) (x : Int32), Wp 127 174 (l0 :: l1 :: l2 :: l3 :: some (.int x) :: ls) (st) h Q ↔ Wp 127 176 (l0 :: l1 :: l2 :: l3 :: some (.int x) :: ls) (.int x :: st) h Q) ∧
  (∀ (ls : Lo) (st : List Value) (h : Hp) (Q : Option Value → Hp → Prop) (l0 l1 l2 : Option Value) (x : Int32), Wp 127 176 (l0 :: l1 :: l2 :: some (.int x) :: ls) (st) h Q ↔ Wp 127 177 (l0 :: l1 :: l2 :: some (.int x) :: ls) (.int x :: st) h Q) ∧
  (∀ (ls : Lo) (st : List Value) (h : Hp) (Q : Option Value → Hp → Prop) (x y : Int32), Wp 127 177 (ls) (.int y :: .int x :: st) h Q ↔ Br 127 190 180 ls st h Q (y ≤ x)) ∧
  (∀ (ls : Lo) (st : List Value) (h : Hp) (Q : Option Value → Hp → Prop)  (i : Nat), Wp 127 180 (some (.ref i) :: ls) (st) h Q ↔ Wp 127 181 (some (.ref i) :: ls) (.ref i :: st) h Q) ∧
  (∀ (ls : Lo) (st : List Value) (n sl : Nat) (C Z : Nat → Nat) (I : Nat → Nat → Int32) (L : Nat → Nat → Int64) (R : Nat → Nat → Nat) (Q : Option Value → Hp → Prop) (i : Nat), Wp 127 181 (ls) (.ref i :: st) (n, sl, C, Z, I, L, R) Q ↔ (C i = 11 ∧ Wp 127 184 (ls) (.ref (R i 23) :: st) (n, sl, C, Z, I, L, R) Q)) ∧
  (∀ (ls : Lo) (st : List Value) (h : Hp) (Q : Option Value → Hp → Prop) (l0 l1 l2 l3 l4 : Option Value) (x : Int32), Wp 127 184 (l0 :: l1 :: l2 :: l3 :: l4 :: some (.int x) :: ls) (st) h Q ↔ Wp 127 186 (l0 :: l1 :: l2 :: l3 :: l4 :: some (.int x) :: ls) (.int x :: st) h Q) ∧
  (∀ (ls : Lo) (st : List Value) (n sl : Nat) (C Z : Nat → Nat) (I : Nat → Nat → Int32) (L : Nat → Nat → Int64) (R : Nat → Nat → Nat) (Q : Option Value → Hp → Prop) (i : Nat) (y : Int32), Wp 127 186 (ls) (.int y :: .ref i :: st) (n, sl, C, Z, I, L, R) Q ↔ ((inb y (Z i) = true ∧ C i = 22) ∧ Wp 127 187 (ls) (.long (L i (ix y)) :: st) (n, sl, C, Z, I, L, R) Q)) ∧
  (∀ (ls : Lo) (st : List Value) (h : Hp) (Q : Option Value → Hp → Prop), Wp 127 187 (ls) (st) h Q ↔ Wp 127 198 (ls) (st) h Q) ∧
  (∀ (ls : Lo) (st : List Value) (h : Hp) (Q : Option Value → Hp → Prop)  (i : Nat), Wp 127 190 (some (.ref i) :: ls) (st) h Q ↔ Wp 127 191 (some (.ref i) :: ls) (.ref i :: st) h Q) ∧
  (∀ (ls : Lo) (st : List Value) (n sl : Nat) (C Z : Nat → Nat) (I : Nat → Nat → Int32) (L : Nat → Nat → Int64) (R : Nat → Nat → Nat) (Q : Option Value → Hp → Prop) (i : Nat), Wp 127 191 (ls) (.ref i :: st) (n, sl, C, Z, I, L, R) Q ↔ (C i = 11 ∧ Wp 127 194 (ls) (.ref (R i 23) :: st) (n, sl, C, Z, I, L, R) Q)) ∧
  (∀ (ls : Lo) (st : List Value) (h : Hp) (Q : Option Value → Hp → Prop) (l0 l1 l2 l3 l4 : Option Value) (x : Int32), Wp 127 194 (l0 :: l1 :: l2 :: l3 :: l4 :: some (.int x) :: ls) (st) h Q ↔ Wp 127 196 (l0 :: l1 :: l2 :: l3 :: l4 :: some (.int x) :: ls) (.int x :: st) h Q) ∧
  (∀ (ls : Lo) (st : List Value) (n sl : Nat) (C Z : Nat → Nat) (I : Nat → Nat → Int32) (L : Nat → Nat → Int64) (R : Nat → Nat → Nat) (Q : Option Value → Hp → Prop) (i : Nat) (y : Int32), Wp 127 196 (ls) (.int y :: .ref i :: st) (n, sl, C, Z, I, L, R) Q ↔ ((inb y (Z i) = true ∧ C i = 22) ∧ Wp 127 197 (ls) (.long (L i (ix y)) :: st) (n, sl, C, Z, I, L, R) Q)) ∧
  (∀ (ls : Lo) (st : List Value) (h : Hp) (Q : Option Value → Hp → Prop) (a : Int64), Wp 127 197 (ls) (.long a :: st) h Q ↔ Wp 127 198 (ls) (.long (-a) :: st) h Q) ∧
  (∀ (ls : Lo) (st : List Value) (h : Hp) (Q : Option Value → Hp → Prop) (a b : Int64), Wp 127 198 (ls) (.long b :: .long a :: st) h Q ↔ Wp 127 199 (ls) (.long (a + b) :: st) h Q) ∧
  (∀ (ls : Lo) (st : List Value) (n sl : Nat) (C Z : Nat → Nat) (I : Nat → Nat → Int32) (L : Nat → Nat → Int64) (R : Nat → Nat → Nat) (Q : Option Value → Hp → Prop) (i : Nat) (y : Int32) (a : Int64), Wp 127 199 (ls) (.long a :: .int y :: .ref i :: st) (n, sl, C, Z, I, L, R) Q ↔ ((inb y (Z i) = true ∧ C i = 22) ∧ Wp 127 200 (ls) (st) (n, sl, C, Z, I, u2 L i (ix y) a, R) Q)) ∧
  (∀ (ls : Lo) (st : List Value) (h : Hp) (Q : Option Value → Hp → Prop) (l0 l1 l2 l3 l4 : Option Value) (x : Int32), Wp 127 200 (l0 :: l1 :: l2 :: l3 :: l4 :: some (.int x) :: ls) (st) h Q ↔ Wp 127 203 (l0 :: l1 :: l2 :: l3 :: clr l4 :: some (.int (x + (-1))) :: ls) (st) h Q) ∧
  (∀ (ls : Lo) (st : List Value) (h : Hp) (Q : Option Value → Hp → Prop), Wp 127 203 (ls) (st) h Q ↔ Wp 127 145 (ls) (st) h Q) ∧
  (∀ (ls : Lo) (st : List Value) (h : Hp) (Q : Option Value → Hp → Prop) (l0 l1 l2 l3 : Option Value) (x : Int32), Wp 127 206 (l0 :: l1 :: l2 :: l3 :: some (.int x) :: ls) (st) h Q ↔ Wp 127 209 (l0 :: l1 :: l2 :: clr l3 :: some (.int (x + (1))) :: ls) (st) h Q) ∧
  (∀ (ls : Lo) (st : List Value) (h : Hp) (Q : Option Value → Hp → Prop), Wp 127 209 (ls) (st) h Q ↔ Wp 127 136 (ls) (st) h Q) ∧
  (∀ (ls : Lo) (st : List Value) (h : Hp) (Q : Option Value → Hp → Prop), Wp 127 212 (ls) (st) h Q ↔ Wp 127 213 (ls) (.int (0) :: st) h Q) ∧
  (∀ (ls : Lo) (st : List Value) (h : Hp) (Q : Option Value → Hp → Prop) (l0 l1 l2 l3 l4 : Option Value) (x : Int32), Wp 127 213 (l0 :: l1 :: l2 :: l3 :: l4 :: ls) (.int x :: st) h Q ↔ Wp 127 215 (l0 :: l1 :: l2 :: clr l3 :: some (.int x) :: ls) (st) h Q) := ⟨by intro ls st h Q x y; exact e_isub d127_168,
  by intro ls st n sl C Z I L R Q i y; exact e_lald d127_169,
  by intro ls st h Q; exact e_goto d127_170 (by decide),
  by intro ls st h Q; exact e_lconst d127_173 rfl,
  by intro ls st h Q l0 l1 l2 l3 x; exact e_iload d127_174 rfl,
  by intro ls st h Q l0 l1 l2 x; exact e_iload_n d127_176 rfl,
  by intro ls st h Q x y; exact e_ic d127_177 (by decide) c_ge,
  by intro ls st h Q i; exact e_aload_n d127_180 rfl,
  by intro ls st n sl C Z I L R Q i; exact e_get (g := 10) (s := 23) (ty := 2) d127_181 rfl rfl (inG_ne (by decide)),
  by intro ls st h Q l0 l1 l2 l3 l4 x; exact e_iload d127_184 rfl,
  by intro ls st n sl C Z I L R Q i y; exact e_lald d127_186,
  by intro ls st h Q; exact e_goto d127_187 (by decide),
  by intro ls st h Q i; exact e_aload_n d127_190 rfl,
  by intro ls st n sl C Z I L R Q i; exact e_get (g := 10) (s := 23) (ty := 2) d127_191 rfl rfl (inG_ne (by decide)),
  by intro ls st h Q l0 l1 l2 l3 l4 x; exact e_iload d127_194 rfl,
  by intro ls st n sl C Z I L R Q i y; exact e_lald d127_196,
  by intro ls st h Q a; exact e_lneg d127_197,
  by intro ls st h Q a b; exact e_ladd d127_198,
  by intro ls st n sl C Z I L R Q i y a; exact e_last d127_199,
  by intro ls st h Q l0 l1 l2 l3 l4 x; exact e_iinc d127_200 rfl rfl rfl,
  by intro ls st h Q; exact e_goto d127_203 (by decide),
  by intro ls st h Q l0 l1 l2 l3 x; exact e_iinc d127_206 rfl rfl rfl,
  by intro ls st h Q; exact e_goto d127_209 (by decide),
  by intro ls st h Q; exact e_iconst d127_212 rfl,
  by intro ls st h Q l0 l1 l2 l3 l4 x; exact e_istore d127_213 rfl⟩
set_option maxRecDepth 20000 in
theorem S127_5 : (∀ (ls : Lo) (st : List Value) (h : Hp) (Q : Option Value → Hp → Prop) (l0 l1 l2 l3 : Option Value) (x : Int32), Wp 127 215 (l0 :: l1 :: l2 :: l3 :: some (.int x) :: ls) (st) h Q ↔ Wp 127 217 (l0 :: l1 :: l2 :: l3 :: some (.int x) :: ls) (.int x :: st) h Q) ∧
  (∀ (ls : Lo) (st : List Value) (h : Hp) (Q : Option Value → Hp → Prop) (l0 l1 : Option Value) (x : Int32), Wp 127 217 (l0 :: l1 :: some (.int x) :: ls) (st) h Q ↔ Wp 127 218 (l0 :: l1 :: some (.int x) :: ls) (.int x :: st) h Q) ∧
  (∀ (ls : Lo) (st : List Value) (h : Hp) (Q : Option Value → Hp → Prop) (x y : Int32), Wp 127 218 (ls) (.int y :: .int x :: st) h Q ↔ Br 127 244 221 ls st h Q (y < x)) ∧
  (∀ (ls : Lo) (st : List Value) (h : Hp) (Q : Option Value → Hp → Prop)  (i : Nat), Wp 127 221 (some (.ref i) :: ls) (st) h Q ↔ Wp 127 222 (some (.ref i) :: ls) (.ref i :: st) h Q) ∧
  (∀ (ls : Lo) (st : List Value) (n sl : Nat) (C Z : Nat → Nat) (I : Nat → Nat → Int32) (L : Nat → Nat → Int64) (R : Nat → Nat → Nat) (Q : Option Value → Hp → Prop) (i : Nat), Wp 127 222 (ls) (.ref i :: st) (n, sl, C, Z, I, L, R) Q ↔ (C i = 11 ∧ Wp 127 225 (ls) (.ref (R i 22) :: st) (n, sl, C, Z, I, L, R) Q)) ∧
  (∀ (ls : Lo) (st : List Value) (h : Hp) (Q : Option Value → Hp → Prop) (l0 l1 l2 l3 : Option Value) (x : Int32), Wp 127 225 (l0 :: l1 :: l2 :: l3 :: some (.int x) :: ls) (st) h Q ↔ Wp 127 227 (l0 :: l1 :: l2 :: l3 :: some (.int x) :: ls) (.int x :: st) h Q) ∧
  (∀ (ls : Lo) (st : List Value) (h : Hp) (Q : Option Value → Hp → Prop) (x : Int32) (i : Nat), Wp 127 227 (ls) (.int x :: .ref i :: st) h Q ↔ Wp 127 228 (ls) (.int x :: .ref i :: .int x :: .ref i :: st) h Q) ∧
  (∀ (ls : Lo) (st : List Value) (h : Hp) (Q : Option Value → Hp → Prop) (a : Int64), Wp 127 227 (ls) (.long a :: st) h Q ↔ Wp 127 228 (ls) (.long a :: .long a :: st) h Q) ∧
  (∀ (ls : Lo) (st : List Value) (n sl : Nat) (C Z : Nat → Nat) (I : Nat → Nat → Int32) (L : Nat → Nat → Int64) (R : Nat → Nat → Nat) (Q : Option Value → Hp → Prop) (i : Nat) (y : Int32), Wp 127 228 (ls) (.int y :: .ref i :: st) (n, sl, C, Z, I, L, R) Q ↔ ((inb y (Z i) = true ∧ C i = 22) ∧ Wp 127 229 (ls) (.long (L i (ix y)) :: st) (n, sl, C, Z, I, L, R) Q)) ∧
  (∀ (ls : Lo) (st : List Value) (h : Hp) (Q : Option Value → Hp → Prop)  (i : Nat), Wp 127 229 (some (.ref i) :: ls) (st) h Q ↔ Wp 127 230 (some (.ref i) :: ls) (.ref i :: st) h Q) ∧
  (∀ (ls : Lo) (st : List Value) (n sl : Nat) (C Z : Nat → Nat) (I : Nat → Nat → Int32) (L : Nat → Nat → Int64) (R : Nat → Nat → Nat) (Q : Option Value → Hp → Prop) (i : Nat), Wp 127 230 (ls) (.ref i :: st) (n, sl, C, Z, I, L, R) Q ↔ (C i = 11 ∧ Wp 127 233 (ls) (.ref (R i 23) :: st) (n, sl, C, Z, I, L, R) Q)) ∧
  (∀ (ls : Lo) (st : List Value) (h : Hp) (Q : Option Value → Hp → Prop) (l0 l1 l2 l3 : Option Value) (x : Int32), Wp 127 233 (l0 :: l1 :: l2 :: l3 :: some (.int x) :: ls) (st) h Q ↔ Wp 127 235 (l0 :: l1 :: l2 :: l3 :: some (.int x) :: ls) (.int x :: st) h Q) ∧
  (∀ (ls : Lo) (st : List Value) (n sl : Nat) (C Z : Nat → Nat) (I : Nat → Nat → Int32) (L : Nat → Nat → Int64) (R : Nat → Nat → Nat) (Q : Option Value → Hp → Prop) (i : Nat) (y : Int32), Wp 127 235 (ls) (.int y :: .ref i :: st) (n, sl, C, Z, I, L, R) Q ↔ ((inb y (Z i) = true ∧ C i = 22) ∧ Wp 127 236 (ls) (.long (L i (ix y)) :: st) (n, sl, C, Z, I, L, R) Q)) ∧
  (∀ (ls : Lo) (st : List Value) (h : Hp) (Q : Option Value → Hp → Prop) (a b : Int64), Wp 127 236 (ls) (.long b :: .long a :: st) h Q ↔ Wp 127 237 (ls) (.long (a + b) :: st) h Q) ∧
  (∀ (ls : Lo) (st : List Value) (n sl : Nat) (C Z : Nat → Nat) (I : Nat → Nat → Int32) (L : Nat → Nat → Int64) (R : Nat → Nat → Nat) (Q : Option Value → Hp → Prop) (i : Nat) (y : Int32) (a : Int64), Wp 127 237 (ls) (.long a :: .int y :: .ref i :: st) (n, sl, C, Z, I, L, R) Q ↔ ((inb y (Z i) = true ∧ C i = 22) ∧ Wp 127 238 (ls) (st) (n, sl, C, Z, I, u2 L i (ix y) a, R) Q)) ∧
  (∀ (ls : Lo) (st : List Value) (h : Hp) (Q : Option Value → Hp → Prop) (l0 l1 l2 l3 : Option Value) (x : Int32), Wp 127 238 (l0 :: l1 :: l2 :: l3 :: some (.int x) :: ls) (st) h Q ↔ Wp 127 241 (l0 :: l1 :: l2 :: clr l3 :: some (.int (x + (1))) :: ls) (st) h Q) ∧
  (∀ (ls : Lo) (st : List Value) (h : Hp) (Q : Option Value → Hp → Prop), Wp 127 241 (ls) (st) h Q ↔ Wp 127 215 (ls) (st) h Q) ∧
  (∀ (ls : Lo) (st : List Value) (h : Hp) (Q : Option Value → Hp → Prop) (l0 l1 l2 : Option Value) (x : Int32), Wp 127 244 (l0 :: l1 :: l2 :: some (.int x) :: ls) (st) h Q ↔ Wp 127 247 (l0 :: l1 :: clr l2 :: some (.int (x + (1))) :: ls) (st) h Q) ∧
  (∀ (ls : Lo) (st : List Value) (h : Hp) (Q : Option Value → Hp → Prop), Wp 127 247 (ls) (st) h Q ↔ Wp 127 93 (ls) (st) h Q) ∧
  (∀ (ls : Lo) (st : List Value) (h : Hp) (Q : Option Value → Hp → Prop)  (i : Nat), Wp 127 250 (some (.ref i) :: ls) (st) h Q ↔ Wp 127 251 (some (.ref i) :: ls) (.ref i :: st) h Q) ∧
  (∀ (ls : Lo) (st : List Value) (h : Hp) (Q : Option Value → Hp → Prop) (l0 l1 : Option Value) (x : Int32), Wp 127 251 (l0 :: l1 :: some (.int x) :: ls) (st) h Q ↔ Wp 127 252 (l0 :: l1 :: some (.int x) :: ls) (.int x :: st) h Q) ∧
  (∀ (ls : Lo) (st : List Value) (n sl : Nat) (C Z : Nat → Nat) (I : Nat → Nat → Int32) (L : Nat → Nat → Int64) (R : Nat → Nat → Nat) (Q : Option Value → Hp → Prop) (x0 : Int32) (i : Nat), C i = 11 → (Wp 127 252 (ls) (.int x0 :: .ref i :: st) (n, sl, C, Z, I, L, R) Q ↔ (wsum st ≤ 8 ∧ Call 126 [some (.ref i), some (.int x0), none, none, none, none, none, none, none, none] (n, sl, C, Z, I, L, R) 127 255 ls st Q))) ∧
  (∀ (ls : Lo) (h : Hp) (Q : Option Value → Hp → Prop) (x : Int32), Wp 127 255 (ls) ([.int x]) h Q ↔ ((x = 0 ∨ x = 1) ∧ Q (some (.int x)) h)) := ⟨by intro ls st h Q l0 l1 l2 l3 x; exact e_iload d127_215 rfl,
  by intro ls st h Q l0 l1 x; exact e_iload_n d127_217 rfl,
  by intro ls st h Q x y; exact e_ic d127_218 (by decide) c_gt,
  by intro ls st h Q i; exact e_aload_n d127_221 rfl,
  by intro ls st n sl C Z I L R Q i; exact e_get (g := 10) (s := 22) (ty := 2) d127_222 rfl rfl (inG_ne (by decide)),
  by intro ls st h Q l0 l1 l2 l3 x; exact e_iload d127_225 rfl,
  by intro ls st h Q x i; exact e_dup2R d127_227,
  by intro ls st h Q a; exact e_dup2L d127_227,
  by intro ls st n sl C Z I L R Q i y; exact e_lald d127_228,
  by intro ls st h Q i; exact e_aload_n d127_229 rfl,
  by intro ls st n sl C Z I L R Q i; exact e_get (g := 10) (s := 23) (ty := 2) d127_230 rfl rfl (inG_ne (by decide)),
  by intro ls st h Q l0 l1 l2 l3 x; exact e_iload d127_233 rfl,
  by intro ls st n sl C Z I L R Q i y; exact e_lald d127_235,
  by intro ls st h Q a b; exact e_ladd d127_236,
  by intro ls st n sl C Z I L R Q i y a; exact e_last d127_237,
  by intro ls st h Q l0 l1 l2 l3 x; exact e_iinc d127_238 rfl rfl rfl,
  by intro ls st h Q; exact e_goto d127_241 (by decide),
  by intro ls st h Q l0 l1 l2 x; exact e_iinc d127_244 rfl rfl rfl,
  by intro ls st h Q; exact e_goto d127_247 (by decide),
  by intro ls st h Q i; exact e_aload_n d127_250 rfl,
  by intro ls st h Q l0 l1 x; exact e_iload_n d127_251 rfl,
  by intro ls st n sl C Z I L R Q x0 i hh; exact e_iv (k2 := 126) (c := 11) (as := [.int x0]) d127_252 rfl (by decide) rfl rfl (by decide +kernel) (Nat.le_of_ble_eq_true rfl) rfl hh,
  by intros; exact e_rZ d127_255 rfl⟩
theorem d128_0 : decode (byt 128) 0 = .ok (.iconst 0, 1) := by decide +kernel
theorem d128_1 : decode (byt 128) 1 = .ok (.istore_n 2, 1) := by decide +kernel
theorem d128_2 : decode (byt 128) 2 = .ok (.iconst 0, 1) := by decide +kernel
theorem d128_3 : decode (byt 128) 3 = .ok (.istore_n 3, 1) := by decide +kernel
theorem d128_4 : decode (byt 128) 4 = .ok (.iload_n 3, 1) := by decide +kernel
theorem d128_5 : decode (byt 128) 5 = .ok (.iconst 3, 1) := by decide +kernel
theorem d128_6 : decode (byt 128) 6 = .ok (.if_icmp .ge 273, 3) := by decide +kernel
theorem d128_9 : decode (byt 128) 9 = .ok (.iload_n 2, 1) := by decide +kernel
theorem d128_10 : decode (byt 128) 10 = .ok (.istore 4, 2) := by decide +kernel
theorem d128_12 : decode (byt 128) 12 = .ok (.iload 4, 2) := by decide +kernel
theorem d128_14 : decode (byt 128) 14 = .ok (.iload_n 1, 1) := by decide +kernel
theorem d128_15 : decode (byt 128) 15 = .ok (.if_icmp .ge 25, 3) := by decide +kernel
theorem d128_18 : decode (byt 128) 18 = .ok (.aload_n 0, 1) := by decide +kernel
theorem d128_19 : decode (byt 128) 19 = .ok (.getfield 71, 3) := by decide +kernel
theorem d128_22 : decode (byt 128) 22 = .ok (.iconst 3, 1) := by decide +kernel
theorem d128_23 : decode (byt 128) 23 = .ok (.iload 4, 2) := by decide +kernel
theorem d128_25 : decode (byt 128) 25 = .ok (.imul, 1) := by decide +kernel
theorem d128_26 : decode (byt 128) 26 = .ok (.iload_n 3, 1) := by decide +kernel
theorem d128_27 : decode (byt 128) 27 = .ok (.iadd, 1) := by decide +kernel
theorem d128_28 : decode (byt 128) 28 = .ok (.laload, 1) := by decide +kernel
theorem d128_29 : decode (byt 128) 29 = .ok (.lconst 0, 1) := by decide +kernel
theorem d128_30 : decode (byt 128) 30 = .ok (.lcmp, 1) := by decide +kernel
theorem d128_31 : decode (byt 128) 31 = .ok (.ifCond .ne 9, 3) := by decide +kernel
theorem d128_34 : decode (byt 128) 34 = .ok (.iinc 4 1, 3) := by decide +kernel
theorem d128_37 : decode (byt 128) 37 = .ok (.goto (-25), 3) := by decide +kernel
theorem d128_40 : decode (byt 128) 40 = .ok (.iload 4, 2) := by decide +kernel
theorem d128_42 : decode (byt 128) 42 = .ok (.iload_n 1, 1) := by decide +kernel
theorem d128_43 : decode (byt 128) 43 = .ok (.if_icmp .lt 6, 3) := by decide +kernel
theorem d128_46 : decode (byt 128) 46 = .ok (.goto 227, 3) := by decide +kernel
theorem d128_49 : decode (byt 128) 49 = .ok (.iconst 0, 1) := by decide +kernel
theorem d128_50 : decode (byt 128) 50 = .ok (.istore 5, 2) := by decide +kernel
theorem d128_52 : decode (byt 128) 52 = .ok (.iload 5, 2) := by decide +kernel
theorem d128_54 : decode (byt 128) 54 = .ok (.iconst 3, 1) := by decide +kernel
theorem d128_55 : decode (byt 128) 55 = .ok (.if_icmp .ge 59, 3) := by decide +kernel
theorem d128_58 : decode (byt 128) 58 = .ok (.aload_n 0, 1) := by decide +kernel
theorem d128_59 : decode (byt 128) 59 = .ok (.getfield 71, 3) := by decide +kernel
theorem d128_62 : decode (byt 128) 62 = .ok (.iconst 3, 1) := by decide +kernel
theorem d128_63 : decode (byt 128) 63 = .ok (.iload 4, 2) := by decide +kernel
theorem d128_65 : decode (byt 128) 65 = .ok (.imul, 1) := by decide +kernel
theorem d128_66 : decode (byt 128) 66 = .ok (.iload 5, 2) := by decide +kernel
theorem d128_68 : decode (byt 128) 68 = .ok (.iadd, 1) := by decide +kernel
theorem d128_69 : decode (byt 128) 69 = .ok (.laload, 1) := by decide +kernel
theorem d128_70 : decode (byt 128) 70 = .ok (.lstore 6, 2) := by decide +kernel
theorem d128_72 : decode (byt 128) 72 = .ok (.aload_n 0, 1) := by decide +kernel
theorem d128_73 : decode (byt 128) 73 = .ok (.getfield 71, 3) := by decide +kernel
theorem d128_76 : decode (byt 128) 76 = .ok (.iconst 3, 1) := by decide +kernel
theorem d128_77 : decode (byt 128) 77 = .ok (.iload 4, 2) := by decide +kernel
theorem d128_79 : decode (byt 128) 79 = .ok (.imul, 1) := by decide +kernel
theorem d128_80 : decode (byt 128) 80 = .ok (.iload 5, 2) := by decide +kernel
theorem d128_82 : decode (byt 128) 82 = .ok (.iadd, 1) := by decide +kernel
theorem d128_83 : decode (byt 128) 83 = .ok (.aload_n 0, 1) := by decide +kernel
theorem d128_84 : decode (byt 128) 84 = .ok (.getfield 71, 3) := by decide +kernel
theorem d128_87 : decode (byt 128) 87 = .ok (.iconst 3, 1) := by decide +kernel
theorem d128_88 : decode (byt 128) 88 = .ok (.iload_n 2, 1) := by decide +kernel
theorem d128_89 : decode (byt 128) 89 = .ok (.imul, 1) := by decide +kernel
theorem d128_90 : decode (byt 128) 90 = .ok (.iload 5, 2) := by decide +kernel
theorem d128_92 : decode (byt 128) 92 = .ok (.iadd, 1) := by decide +kernel
theorem d128_93 : decode (byt 128) 93 = .ok (.laload, 1) := by decide +kernel
theorem d128_94 : decode (byt 128) 94 = .ok (.lastore, 1) := by decide +kernel
theorem d128_95 : decode (byt 128) 95 = .ok (.aload_n 0, 1) := by decide +kernel
theorem d128_96 : decode (byt 128) 96 = .ok (.getfield 71, 3) := by decide +kernel
theorem d128_99 : decode (byt 128) 99 = .ok (.iconst 3, 1) := by decide +kernel
theorem d128_100 : decode (byt 128) 100 = .ok (.iload_n 2, 1) := by decide +kernel
theorem d128_101 : decode (byt 128) 101 = .ok (.imul, 1) := by decide +kernel
theorem d128_102 : decode (byt 128) 102 = .ok (.iload 5, 2) := by decide +kernel
theorem d128_104 : decode (byt 128) 104 = .ok (.iadd, 1) := by decide +kernel
theorem d128_105 : decode (byt 128) 105 = .ok (.lload 6, 2) := by decide +kernel
theorem d128_107 : decode (byt 128) 107 = .ok (.lastore, 1) := by decide +kernel
theorem d128_108 : decode (byt 128) 108 = .ok (.iinc 5 1, 3) := by decide +kernel
theorem d128_111 : decode (byt 128) 111 = .ok (.goto (-59), 3) := by decide +kernel
theorem d128_114 : decode (byt 128) 114 = .ok (.iload_n 2, 1) := by decide +kernel
theorem d128_115 : decode (byt 128) 115 = .ok (.iconst 1, 1) := by decide +kernel
theorem d128_116 : decode (byt 128) 116 = .ok (.iadd, 1) := by decide +kernel
theorem d128_117 : decode (byt 128) 117 = .ok (.istore 5, 2) := by decide +kernel
theorem d128_119 : decode (byt 128) 119 = .ok (.iload 5, 2) := by decide +kernel
theorem d128_121 : decode (byt 128) 121 = .ok (.iload_n 1, 1) := by decide +kernel
theorem d128_122 : decode (byt 128) 122 = .ok (.if_icmp .ge 148, 3) := by decide +kernel
theorem d128_125 : decode (byt 128) 125 = .ok (.aload_n 0, 1) := by decide +kernel
theorem d128_126 : decode (byt 128) 126 = .ok (.getfield 71, 3) := by decide +kernel
theorem d128_129 : decode (byt 128) 129 = .ok (.iconst 3, 1) := by decide +kernel
theorem d128_130 : decode (byt 128) 130 = .ok (.iload 5, 2) := by decide +kernel
theorem d128_132 : decode (byt 128) 132 = .ok (.imul, 1) := by decide +kernel
theorem d128_133 : decode (byt 128) 133 = .ok (.iload_n 3, 1) := by decide +kernel
theorem d128_134 : decode (byt 128) 134 = .ok (.iadd, 1) := by decide +kernel
theorem d128_135 : decode (byt 128) 135 = .ok (.laload, 1) := by decide +kernel
theorem d128_136 : decode (byt 128) 136 = .ok (.lstore 6, 2) := by decide +kernel
theorem d128_138 : decode (byt 128) 138 = .ok (.lconst 0, 1) := by decide +kernel
theorem d128_139 : decode (byt 128) 139 = .ok (.lstore 8, 2) := by decide +kernel
theorem d128_141 : decode (byt 128) 141 = .ok (.iconst 0, 1) := by decide +kernel
theorem d128_142 : decode (byt 128) 142 = .ok (.istore 10, 2) := by decide +kernel
theorem d128_144 : decode (byt 128) 144 = .ok (.iload 10, 2) := by decide +kernel
theorem d128_146 : decode (byt 128) 146 = .ok (.iconst 3, 1) := by decide +kernel
theorem d128_147 : decode (byt 128) 147 = .ok (.if_icmp .ge 78, 3) := by decide +kernel
theorem d128_150 : decode (byt 128) 150 = .ok (.aload_n 0, 1) := by decide +kernel
theorem d128_151 : decode (byt 128) 151 = .ok (.getfield 71, 3) := by decide +kernel
theorem d128_154 : decode (byt 128) 154 = .ok (.iconst 3, 1) := by decide +kernel
theorem d128_155 : decode (byt 128) 155 = .ok (.iload 5, 2) := by decide +kernel
theorem d128_157 : decode (byt 128) 157 = .ok (.imul, 1) := by decide +kernel
theorem d128_158 : decode (byt 128) 158 = .ok (.iload 10, 2) := by decide +kernel
theorem d128_160 : decode (byt 128) 160 = .ok (.iadd, 1) := by decide +kernel
theorem d128_161 : decode (byt 128) 161 = .ok (.aload_n 0, 1) := by decide +kernel
theorem d128_162 : decode (byt 128) 162 = .ok (.getfield 71, 3) := by decide +kernel
theorem d128_165 : decode (byt 128) 165 = .ok (.iconst 3, 1) := by decide +kernel
theorem d128_166 : decode (byt 128) 166 = .ok (.iload 5, 2) := by decide +kernel
theorem d128_168 : decode (byt 128) 168 = .ok (.imul, 1) := by decide +kernel
theorem d128_169 : decode (byt 128) 169 = .ok (.iload 10, 2) := by decide +kernel
theorem d128_171 : decode (byt 128) 171 = .ok (.iadd, 1) := by decide +kernel
theorem d128_172 : decode (byt 128) 172 = .ok (.laload, 1) := by decide +kernel
theorem d128_173 : decode (byt 128) 173 = .ok (.aload_n 0, 1) := by decide +kernel
theorem d128_174 : decode (byt 128) 174 = .ok (.getfield 71, 3) := by decide +kernel
theorem d128_177 : decode (byt 128) 177 = .ok (.iconst 3, 1) := by decide +kernel
theorem d128_178 : decode (byt 128) 178 = .ok (.iload_n 2, 1) := by decide +kernel
theorem d128_179 : decode (byt 128) 179 = .ok (.imul, 1) := by decide +kernel
theorem d128_180 : decode (byt 128) 180 = .ok (.iload_n 3, 1) := by decide +kernel
theorem d128_181 : decode (byt 128) 181 = .ok (.iadd, 1) := by decide +kernel
theorem d128_182 : decode (byt 128) 182 = .ok (.laload, 1) := by decide +kernel
theorem d128_183 : decode (byt 128) 183 = .ok (.lmul, 1) := by decide +kernel
theorem d128_184 : decode (byt 128) 184 = .ok (.aload_n 0, 1) := by decide +kernel
theorem d128_185 : decode (byt 128) 185 = .ok (.getfield 71, 3) := by decide +kernel
theorem d128_188 : decode (byt 128) 188 = .ok (.iconst 3, 1) := by decide +kernel
theorem d128_189 : decode (byt 128) 189 = .ok (.iload_n 2, 1) := by decide +kernel
theorem d128_190 : decode (byt 128) 190 = .ok (.imul, 1) := by decide +kernel
theorem d128_191 : decode (byt 128) 191 = .ok (.iload 10, 2) := by decide +kernel
theorem d128_193 : decode (byt 128) 193 = .ok (.iadd, 1) := by decide +kernel
theorem d128_194 : decode (byt 128) 194 = .ok (.laload, 1) := by decide +kernel
theorem d128_195 : decode (byt 128) 195 = .ok (.lload 6, 2) := by decide +kernel
theorem d128_197 : decode (byt 128) 197 = .ok (.lmul, 1) := by decide +kernel
theorem d128_198 : decode (byt 128) 198 = .ok (.lsub, 1) := by decide +kernel
theorem d128_199 : decode (byt 128) 199 = .ok (.lastore, 1) := by decide +kernel
theorem d128_200 : decode (byt 128) 200 = .ok (.lload 8, 2) := by decide +kernel
theorem d128_202 : decode (byt 128) 202 = .ok (.aload_n 0, 1) := by decide +kernel
theorem d128_203 : decode (byt 128) 203 = .ok (.getfield 71, 3) := by decide +kernel
theorem d128_206 : decode (byt 128) 206 = .ok (.iconst 3, 1) := by decide +kernel
theorem d128_207 : decode (byt 128) 207 = .ok (.iload 5, 2) := by decide +kernel
theorem d128_209 : decode (byt 128) 209 = .ok (.imul, 1) := by decide +kernel
theorem d128_210 : decode (byt 128) 210 = .ok (.iload 10, 2) := by decide +kernel
theorem d128_212 : decode (byt 128) 212 = .ok (.iadd, 1) := by decide +kernel
theorem d128_213 : decode (byt 128) 213 = .ok (.laload, 1) := by decide +kernel
theorem d128_214 : decode (byt 128) 214 = .ok (.invokestatic 87, 3) := by decide +kernel
theorem d128_217 : decode (byt 128) 217 = .ok (.lstore 8, 2) := by decide +kernel
theorem d128_219 : decode (byt 128) 219 = .ok (.iinc 10 1, 3) := by decide +kernel
theorem d128_222 : decode (byt 128) 222 = .ok (.goto (-78), 3) := by decide +kernel
theorem d128_225 : decode (byt 128) 225 = .ok (.iconst 0, 1) := by decide +kernel
theorem d128_226 : decode (byt 128) 226 = .ok (.istore 10, 2) := by decide +kernel
theorem d128_228 : decode (byt 128) 228 = .ok (.iload 10, 2) := by decide +kernel
theorem d128_230 : decode (byt 128) 230 = .ok (.iconst 3, 1) := by decide +kernel
theorem d128_231 : decode (byt 128) 231 = .ok (.if_icmp .ge 33, 3) := by decide +kernel
theorem d128_234 : decode (byt 128) 234 = .ok (.lload 8, 2) := by decide +kernel
theorem d128_236 : decode (byt 128) 236 = .ok (.lconst 0, 1) := by decide +kernel
theorem d128_237 : decode (byt 128) 237 = .ok (.lcmp, 1) := by decide +kernel
theorem d128_238 : decode (byt 128) 238 = .ok (.ifCond .le 26, 3) := by decide +kernel
theorem d128_241 : decode (byt 128) 241 = .ok (.aload_n 0, 1) := by decide +kernel
theorem d128_242 : decode (byt 128) 242 = .ok (.getfield 71, 3) := by decide +kernel
theorem d128_245 : decode (byt 128) 245 = .ok (.iconst 3, 1) := by decide +kernel
theorem d128_246 : decode (byt 128) 246 = .ok (.iload 5, 2) := by decide +kernel
theorem d128_248 : decode (byt 128) 248 = .ok (.imul, 1) := by decide +kernel
theorem d128_249 : decode (byt 128) 249 = .ok (.iload 10, 2) := by decide +kernel
theorem d128_251 : decode (byt 128) 251 = .ok (.iadd, 1) := by decide +kernel
theorem d128_252 : decode (byt 128) 252 = .ok (.dup2, 1) := by decide +kernel
theorem d128_253 : decode (byt 128) 253 = .ok (.laload, 1) := by decide +kernel
theorem d128_254 : decode (byt 128) 254 = .ok (.lload 8, 2) := by decide +kernel
theorem d128_256 : decode (byt 128) 256 = .ok (.ldiv, 1) := by decide +kernel
theorem d128_257 : decode (byt 128) 257 = .ok (.lastore, 1) := by decide +kernel
theorem d128_258 : decode (byt 128) 258 = .ok (.iinc 10 1, 3) := by decide +kernel
theorem d128_261 : decode (byt 128) 261 = .ok (.goto (-33), 3) := by decide +kernel
theorem d128_264 : decode (byt 128) 264 = .ok (.iinc 5 1, 3) := by decide +kernel
theorem d128_267 : decode (byt 128) 267 = .ok (.goto (-148), 3) := by decide +kernel
theorem d128_270 : decode (byt 128) 270 = .ok (.iinc 2 1, 3) := by decide +kernel
theorem d128_273 : decode (byt 128) 273 = .ok (.iinc 3 1, 3) := by decide +kernel
theorem d128_276 : decode (byt 128) 276 = .ok (.goto (-272), 3) := by decide +kernel
theorem d128_279 : decode (byt 128) 279 = .ok (.iload_n 2, 1) := by decide +kernel
theorem d128_280 : decode (byt 128) 280 = .ok (.ireturn, 1) := by decide +kernel
set_option maxRecDepth 20000 in
theorem S128_0 : (∀ (ls : Lo) (st : List Value) (h : Hp) (Q : Option Value → Hp → Prop), Wp 128 0 (ls) (st) h Q ↔ Wp 128 1 (ls) (.int (0) :: st) h Q) ∧
  (∀ (ls : Lo) (st : List Value) (h : Hp) (Q : Option Value → Hp → Prop) (l0 l1 l2 : Option Value) (x : Int32), Wp 128 1 (l0 :: l1 :: l2 :: ls) (.int x :: st) h Q ↔ Wp 128 2 (l0 :: clr l1 :: some (.int x) :: ls) (st) h Q) ∧
  (∀ (ls : Lo) (st : List Value) (h : Hp) (Q : Option Value → Hp → Prop), Wp 128 2 (ls) (st) h Q ↔ Wp 128 3 (ls) (.int (0) :: st) h Q) ∧
  (∀ (ls : Lo) (st : List Value) (h : Hp) (Q : Option Value → Hp → Prop) (l0 l1 l2 l3 : Option Value) (x : Int32), Wp 128 3 (l0 :: l1 :: l2 :: l3 :: ls) (.int x :: st) h Q ↔ Wp 128 4 (l0 :: l1 :: clr l2 :: some (.int x) :: ls) (st) h Q) ∧
  (∀ (ls : Lo) (st : List Value) (h : Hp) (Q : Option Value → Hp → Prop) (l0 l1 l2 : Option Value) (x : Int32), Wp 128 4 (l0 :: l1 :: l2 :: some (.int x) :: ls) (st) h Q ↔ Wp 128 5 (l0 :: l1 :: l2 :: some (.int x) :: ls) (.int x :: st) h Q) ∧
  (∀ (ls : Lo) (st : List Value) (h : Hp) (Q : Option Value → Hp → Prop), Wp 128 5 (ls) (st) h Q ↔ Wp 128 6 (ls) (.int (3) :: st) h Q) ∧
  (∀ (ls : Lo) (st : List Value) (h : Hp) (Q : Option Value → Hp → Prop) (x y : Int32), Wp 128 6 (ls) (.int y :: .int x :: st) h Q ↔ Br 128 279 9 ls st h Q (y ≤ x)) ∧
  (∀ (ls : Lo) (st : List Value) (h : Hp) (Q : Option Value → Hp → Prop) (l0 l1 : Option Value) (x : Int32), Wp 128 9 (l0 :: l1 :: some (.int x) :: ls) (st) h Q ↔ Wp 128 10 (l0 :: l1 :: some (.int x) :: ls) (.int x :: st) h Q) ∧
  (∀ (ls : Lo) (st : List Value) (h : Hp) (Q : Option Value → Hp → Prop) (l0 l1 l2 l3 l4 : Option Value) (x : Int32), Wp 128 10 (l0 :: l1 :: l2 :: l3 :: l4 :: ls) (.int x :: st) h Q ↔ Wp 128 12 (l0 :: l1 :: l2 :: clr l3 :: some (.int x) :: ls) (st) h Q) ∧
  (∀ (ls : Lo) (st : List Value) (h : Hp) (Q : Option Value → Hp → Prop) (l0 l1 l2 l3 : Option Value) (x : Int32), Wp 128 12 (l0 :: l1 :: l2 :: l3 :: some (.int x) :: ls) (st) h Q ↔ Wp 128 14 (l0 :: l1 :: l2 :: l3 :: some (.int x) :: ls) (.int x :: st) h Q) ∧
  (∀ (ls : Lo) (st : List Value) (h : Hp) (Q : Option Value → Hp → Prop) (l0 : Option Value) (x : Int32), Wp 128 14 (l0 :: some (.int x) :: ls) (st) h Q ↔ Wp 128 15 (l0 :: some (.int x) :: ls) (.int x :: st) h Q) ∧
  (∀ (ls : Lo) (st : List Value) (h : Hp) (Q : Option Value → Hp → Prop) (x y : Int32), Wp 128 15 (ls) (.int y :: .int x :: st) h Q ↔ Br 128 40 18 ls st h Q (y ≤ x)) ∧
  (∀ (ls : Lo) (st : List Value) (h : Hp) (Q : Option Value → Hp → Prop)  (i : Nat), Wp 128 18 (some (.ref i) :: ls) (st) h Q ↔ Wp 128 19 (some (.ref i) :: ls) (.ref i :: st) h Q) ∧
  (∀ (ls : Lo) (st : List Value) (n sl : Nat) (C Z : Nat → Nat) (I : Nat → Nat → Int32) (L : Nat → Nat → Int64) (R : Nat → Nat → Nat) (Q : Option Value → Hp → Prop) (i : Nat), Wp 128 19 (ls) (.ref i :: st) (n, sl, C, Z, I, L, R) Q ↔ (C i = 11 ∧ Wp 128 22 (ls) (.ref (R i 24) :: st) (n, sl, C, Z, I, L, R) Q)) ∧
  (∀ (ls : Lo) (st : List Value) (h : Hp) (Q : Option Value → Hp → Prop), Wp 128 22 (ls) (st) h Q ↔ Wp 128 23 (ls) (.int (3) :: st) h Q) ∧
  (∀ (ls : Lo) (st : List Value) (h : Hp) (Q : Option Value → Hp → Prop) (l0 l1 l2 l3 : Option Value) (x : Int32), Wp 128 23 (l0 :: l1 :: l2 :: l3 :: some (.int x) :: ls) (st) h Q ↔ Wp 128 25 (l0 :: l1 :: l2 :: l3 :: some (.int x) :: ls) (.int x :: st) h Q) ∧
  (∀ (ls : Lo) (st : List Value) (h : Hp) (Q : Option Value → Hp → Prop) (x y : Int32), Wp 128 25 (ls) (.int y :: .int x :: st) h Q ↔ Wp 128 26 (ls) (.int (x * y) :: st) h Q) ∧
  (∀ (ls : Lo) (st : List Value) (h : Hp) (Q : Option Value → Hp → Prop) (l0 l1 l2 : Option Value) (x : Int32), Wp 128 26 (l0 :: l1 :: l2 :: some (.int x) :: ls) (st) h Q ↔ Wp 128 27 (l0 :: l1 :: l2 :: some (.int x) :: ls) (.int x :: st) h Q) ∧
  (∀ (ls : Lo) (st : List Value) (h : Hp) (Q : Option Value → Hp → Prop) (x y : Int32), Wp 128 27 (ls) (.int y :: .int x :: st) h Q ↔ Wp 128 28 (ls) (.int (x + y) :: st) h Q) ∧
  (∀ (ls : Lo) (st : List Value) (n sl : Nat) (C Z : Nat → Nat) (I : Nat → Nat → Int32) (L : Nat → Nat → Int64) (R : Nat → Nat → Nat) (Q : Option Value → Hp → Prop) (i : Nat) (y : Int32), Wp 128 28 (ls) (.int y :: .ref i :: st) (n, sl, C, Z, I, L, R) Q ↔ ((inb y (Z i) = true ∧ C i = 22) ∧ Wp 128 29 (ls) (.long (L i (ix y)) :: st) (n, sl, C, Z, I, L, R) Q)) ∧
  (∀ (ls : Lo) (st : List Value) (h : Hp) (Q : Option Value → Hp → Prop), Wp 128 29 (ls) (st) h Q ↔ Wp 128 30 (ls) (.long 0 :: st) h Q) ∧
  (∀ (ls : Lo) (st : List Value) (h : Hp) (Q : Option Value → Hp → Prop) (a b : Int64), Wp 128 30 (ls) (.long b :: .long a :: st) h Q ↔ Wp 128 31 (ls) (.int (lg_cmp a b) :: st) h Q) ∧
  (∀ (ls : Lo) (st : List Value) (h : Hp) (Q : Option Value → Hp → Prop) (x : Int32), Wp 128 31 (ls) (.int x :: st) h Q ↔ Br 128 40 34 ls st h Q (¬ x = 0)) ∧
  (∀ (ls : Lo) (st : List Value) (h : Hp) (Q : Option Value → Hp → Prop) (l0 l1 l2 l3 : Option Value) (x : Int32), Wp 128 34 (l0 :: l1 :: l2 :: l3 :: some (.int x) :: ls) (st) h Q ↔ Wp 128 37 (l0 :: l1 :: l2 :: clr l3 :: some (.int (x + (1))) :: ls) (st) h Q) ∧
  (∀ (ls : Lo) (st : List Value) (h : Hp) (Q : Option Value → Hp → Prop), Wp 128 37 (ls) (st) h Q ↔ Wp 128 12 (ls) (st) h Q) := ⟨by intro ls st h Q; exact e_iconst d128_0 rfl,
  by intro ls st h Q l0 l1 l2 x; exact e_istore_n d128_1 rfl,
  by intro ls st h Q; exact e_iconst d128_2 rfl,
  by intro ls st h Q l0 l1 l2 l3 x; exact e_istore_n d128_3 rfl,
  by intro ls st h Q l0 l1 l2 x; exact e_iload_n d128_4 rfl,
  by intro ls st h Q; exact e_iconst d128_5 rfl,
  by intro ls st h Q x y; exact e_ic d128_6 (by decide) c_ge,
  by intro ls st h Q l0 l1 x; exact e_iload_n d128_9 rfl,
  by intro ls st h Q l0 l1 l2 l3 l4 x; exact e_istore d128_10 rfl,
  by intro ls st h Q l0 l1 l2 l3 x; exact e_iload d128_12 rfl,
  by intro ls st h Q l0 x; exact e_iload_n d128_14 rfl,
  by intro ls st h Q x y; exact e_ic d128_15 (by decide) c_ge,
  by intro ls st h Q i; exact e_aload_n d128_18 rfl,
  by intro ls st n sl C Z I L R Q i; exact e_get (g := 10) (s := 24) (ty := 2) d128_19 rfl rfl (inG_ne (by decide)),
  by intro ls st h Q; exact e_iconst d128_22 rfl,
  by intro ls st h Q l0 l1 l2 l3 x; exact e_iload d128_23 rfl,
  by intro ls st h Q x y; exact e_imul d128_25,
  by intro ls st h Q l0 l1 l2 x; exact e_iload_n d128_26 rfl,
  by intro ls st h Q x y; exact e_iadd d128_27,
  by intro ls st n sl C Z I L R Q i y; exact e_lald d128_28,
  by intro ls st h Q; exact e_lconst d128_29 rfl,
  by intro ls st h Q a b; exact e_lcmp d128_30,
  by intro ls st h Q x; exact e_if d128_31 (by decide) c_ne,
  by intro ls st h Q l0 l1 l2 l3 x; exact e_iinc d128_34 rfl rfl rfl,
  by intro ls st h Q; exact e_goto d128_37 (by decide)⟩
set_option maxRecDepth 20000 in
theorem S128_1 : (∀ (ls : Lo) (st : List Value) (h : Hp) (Q : Option Value → Hp → Prop) (l0 l1 l2 l3 : Option Value) (x : Int32), Wp 128 40 (l0 :: l1 :: l2 :: l3 :: some (.int x) :: ls) (st) h Q ↔ Wp 128 42 (l0 :: l1 :: l2 :: l3 :: some (.int x) :: ls) (.int x :: st) h Q) ∧
  (∀ (ls : Lo) (st : List Value) (h : Hp) (Q : Option Value → Hp → Prop) (l0 : Option Value) (x : Int32), Wp 128 42 (l0 :: some (.int x) :: ls) (st) h Q ↔ Wp 128 43 (l0 :: some (.int x) :: ls) (.int x :: st) h Q) ∧
  (∀ (ls : Lo) (st : List Value) (h : Hp) (Q : Option Value → Hp → Prop) (x y : Int32), Wp 128 43 (ls) (.int y :: .int x :: st) h Q ↔ Br 128 49 46 ls st h Q (x < y)) ∧
  (∀ (ls : Lo) (st : List Value) (h : Hp) (Q : Option Value → Hp → Prop), Wp 128 46 (ls) (st) h Q ↔ Wp 128 273 (ls) (st) h Q) ∧
  (∀ (ls : Lo) (st : List Value) (h : Hp) (Q : Option Value → Hp → Prop), Wp 128 49 (ls) (st) h Q ↔ Wp 128 50 (ls) (.int (0) :: st) h Q) ∧
  (∀ (ls : Lo) (st : List Value) (h : Hp) (Q : Option Value → Hp → Prop) (l0 l1 l2 l3 l4 l5 : Option Value) (x : Int32), Wp 128 50 (l0 :: l1 :: l2 :: l3 :: l4 :: l5 :: ls) (.int x :: st) h Q ↔ Wp 128 52 (l0 :: l1 :: l2 :: l3 :: clr l4 :: some (.int x) :: ls) (st) h Q) ∧
  (∀ (ls : Lo) (st : List Value) (h : Hp) (Q : Option Value → Hp → Prop) (l0 l1 l2 l3 l4 : Option Value) (x : Int32), Wp 128 52 (l0 :: l1 :: l2 :: l3 :: l4 :: some (.int x) :: ls) (st) h Q ↔ Wp 128 54 (l0 :: l1 :: l2 :: l3 :: l4 :: some (.int x) :: ls) (.int x :: st) h Q) ∧
  (∀ (ls : Lo) (st : List Value) (h : Hp) (Q : Option Value → Hp → Prop), Wp 128 54 (ls) (st) h Q ↔ Wp 128 55 (ls) (.int (3) :: st) h Q) ∧
  (∀ (ls : Lo) (st : List Value) (h : Hp) (Q : Option Value → Hp → Prop) (x y : Int32), Wp 128 55 (ls) (.int y :: .int x :: st) h Q ↔ Br 128 114 58 ls st h Q (y ≤ x)) ∧
  (∀ (ls : Lo) (st : List Value) (h : Hp) (Q : Option Value → Hp → Prop)  (i : Nat), Wp 128 58 (some (.ref i) :: ls) (st) h Q ↔ Wp 128 59 (some (.ref i) :: ls) (.ref i :: st) h Q) ∧
  (∀ (ls : Lo) (st : List Value) (n sl : Nat) (C Z : Nat → Nat) (I : Nat → Nat → Int32) (L : Nat → Nat → Int64) (R : Nat → Nat → Nat) (Q : Option Value → Hp → Prop) (i : Nat), Wp 128 59 (ls) (.ref i :: st) (n, sl, C, Z, I, L, R) Q ↔ (C i = 11 ∧ Wp 128 62 (ls) (.ref (R i 24) :: st) (n, sl, C, Z, I, L, R) Q)) ∧
  (∀ (ls : Lo) (st : List Value) (h : Hp) (Q : Option Value → Hp → Prop), Wp 128 62 (ls) (st) h Q ↔ Wp 128 63 (ls) (.int (3) :: st) h Q) ∧
  (∀ (ls : Lo) (st : List Value) (h : Hp) (Q : Option Value → Hp → Prop) (l0 l1 l2 l3 : Option Value) (x : Int32), Wp 128 63 (l0 :: l1 :: l2 :: l3 :: some (.int x) :: ls) (st) h Q ↔ Wp 128 65 (l0 :: l1 :: l2 :: l3 :: some (.int x) :: ls) (.int x :: st) h Q) ∧
  (∀ (ls : Lo) (st : List Value) (h : Hp) (Q : Option Value → Hp → Prop) (x y : Int32), Wp 128 65 (ls) (.int y :: .int x :: st) h Q ↔ Wp 128 66 (ls) (.int (x * y) :: st) h Q) ∧
  (∀ (ls : Lo) (st : List Value) (h : Hp) (Q : Option Value → Hp → Prop) (l0 l1 l2 l3 l4 : Option Value) (x : Int32), Wp 128 66 (l0 :: l1 :: l2 :: l3 :: l4 :: some (.int x) :: ls) (st) h Q ↔ Wp 128 68 (l0 :: l1 :: l2 :: l3 :: l4 :: some (.int x) :: ls) (.int x :: st) h Q) ∧
  (∀ (ls : Lo) (st : List Value) (h : Hp) (Q : Option Value → Hp → Prop) (x y : Int32), Wp 128 68 (ls) (.int y :: .int x :: st) h Q ↔ Wp 128 69 (ls) (.int (x + y) :: st) h Q) ∧
  (∀ (ls : Lo) (st : List Value) (n sl : Nat) (C Z : Nat → Nat) (I : Nat → Nat → Int32) (L : Nat → Nat → Int64) (R : Nat → Nat → Nat) (Q : Option Value → Hp → Prop) (i : Nat) (y : Int32), Wp 128 69 (ls) (.int y :: .ref i :: st) (n, sl, C, Z, I, L, R) Q ↔ ((inb y (Z i) = true ∧ C i = 22) ∧ Wp 128 70 (ls) (.long (L i (ix y)) :: st) (n, sl, C, Z, I, L, R) Q)) ∧
  (∀ (ls : Lo) (st : List Value) (h : Hp) (Q : Option Value → Hp → Prop) (l0 l1 l2 l3 l4 l5 l6 l7 : Option Value) (a : Int64), Wp 128 70 (l0 :: l1 :: l2 :: l3 :: l4 :: l5 :: l6 :: l7 :: ls) (.long a :: st) h Q ↔ Wp 128 72 (l0 :: l1 :: l2 :: l3 :: l4 :: clr l5 :: some (.long a) :: none :: ls) (st) h Q) ∧
  (∀ (ls : Lo) (st : List Value) (h : Hp) (Q : Option Value → Hp → Prop)  (i : Nat), Wp 128 72 (some (.ref i) :: ls) (st) h Q ↔ Wp 128 73 (some (.ref i) :: ls) (.ref i :: st) h Q) ∧
  (∀ (ls : Lo) (st : List Value) (n sl : Nat) (C Z : Nat → Nat) (I : Nat → Nat → Int32) (L : Nat → Nat → Int64) (R : Nat → Nat → Nat) (Q : Option Value → Hp → Prop) (i : Nat), Wp 128 73 (ls) (.ref i :: st) (n, sl, C, Z, I, L, R) Q ↔ (C i = 11 ∧ Wp 128 76 (ls) (.ref (R i 24) :: st) (n, sl, C, Z, I, L, R) Q)) ∧
  (∀ (ls : Lo) (st : List Value) (h : Hp) (Q : Option Value → Hp → Prop), Wp 128 76 (ls) (st) h Q ↔ Wp 128 77 (ls) (.int (3) :: st) h Q) ∧
  (∀ (ls : Lo) (st : List Value) (h : Hp) (Q : Option Value → Hp → Prop) (l0 l1 l2 l3 : Option Value) (x : Int32), Wp 128 77 (l0 :: l1 :: l2 :: l3 :: some (.int x) :: ls) (st) h Q ↔ Wp 128 79 (l0 :: l1 :: l2 :: l3 :: some (.int x) :: ls) (.int x :: st) h Q) ∧
  (∀ (ls : Lo) (st : List Value) (h : Hp) (Q : Option Value → Hp → Prop) (x y : Int32), Wp 128 79 (ls) (.int y :: .int x :: st) h Q ↔ Wp 128 80 (ls) (.int (x * y) :: st) h Q) ∧
  (∀ (ls : Lo) (st : List Value) (h : Hp) (Q : Option Value → Hp → Prop) (l0 l1 l2 l3 l4 : Option Value) (x : Int32), Wp 128 80 (l0 :: l1 :: l2 :: l3 :: l4 :: some (.int x) :: ls) (st) h Q ↔ Wp 128 82 (l0 :: l1 :: l2 :: l3 :: l4 :: some (.int x) :: ls) (.int x :: st) h Q) ∧
  (∀ (ls : Lo) (st : List Value) (h : Hp) (Q : Option Value → Hp → Prop) (x y : Int32), Wp 128 82 (ls) (.int y :: .int x :: st) h Q ↔ Wp 128 83 (ls) (.int (x + y) :: st) h Q) := ⟨by intro ls st h Q l0 l1 l2 l3 x; exact e_iload d128_40 rfl,
  by intro ls st h Q l0 x; exact e_iload_n d128_42 rfl,
  by intro ls st h Q x y; exact e_ic d128_43 (by decide) c_lt,
  by intro ls st h Q; exact e_goto d128_46 (by decide),
  by intro ls st h Q; exact e_iconst d128_49 rfl,
  by intro ls st h Q l0 l1 l2 l3 l4 l5 x; exact e_istore d128_50 rfl,
  by intro ls st h Q l0 l1 l2 l3 l4 x; exact e_iload d128_52 rfl,
  by intro ls st h Q; exact e_iconst d128_54 rfl,
  by intro ls st h Q x y; exact e_ic d128_55 (by decide) c_ge,
  by intro ls st h Q i; exact e_aload_n d128_58 rfl,
  by intro ls st n sl C Z I L R Q i; exact e_get (g := 10) (s := 24) (ty := 2) d128_59 rfl rfl (inG_ne (by decide)),
  by intro ls st h Q; exact e_iconst d128_62 rfl,
  by intro ls st h Q l0 l1 l2 l3 x; exact e_iload d128_63 rfl,
  by intro ls st h Q x y; exact e_imul d128_65,
  by intro ls st h Q l0 l1 l2 l3 l4 x; exact e_iload d128_66 rfl,
  by intro ls st h Q x y; exact e_iadd d128_68,
  by intro ls st n sl C Z I L R Q i y; exact e_lald d128_69,
  by intro ls st h Q l0 l1 l2 l3 l4 l5 l6 l7 a; exact e_lstore d128_70 rfl,
  by intro ls st h Q i; exact e_aload_n d128_72 rfl,
  by intro ls st n sl C Z I L R Q i; exact e_get (g := 10) (s := 24) (ty := 2) d128_73 rfl rfl (inG_ne (by decide)),
  by intro ls st h Q; exact e_iconst d128_76 rfl,
  by intro ls st h Q l0 l1 l2 l3 x; exact e_iload d128_77 rfl,
  by intro ls st h Q x y; exact e_imul d128_79,
  by intro ls st h Q l0 l1 l2 l3 l4 x; exact e_iload d128_80 rfl,
  by intro ls st h Q x y; exact e_iadd d128_82⟩
set_option maxRecDepth 20000 in
theorem S128_2 : (∀ (ls : Lo) (st : List Value) (h : Hp) (Q : Option Value → Hp → Prop)  (i : Nat), Wp 128 83 (some (.ref i) :: ls) (st) h Q ↔ Wp 128 84 (some (.ref i) :: ls) (.ref i :: st) h Q) ∧
  (∀ (ls : Lo) (st : List Value) (n sl : Nat) (C Z : Nat → Nat) (I : Nat → Nat → Int32) (L : Nat → Nat → Int64) (R : Nat → Nat → Nat) (Q : Option Value → Hp → Prop) (i : Nat), Wp 128 84 (ls) (.ref i :: st) (n, sl, C, Z, I, L, R) Q ↔ (C i = 11 ∧ Wp 128 87 (ls) (.ref (R i 24) :: st) (n, sl, C, Z, I, L, R) Q)) ∧
  (∀ (ls : Lo) (st : List Value) (h : Hp) (Q : Option Value → Hp → Prop), Wp 128 87 (ls) (st) h Q ↔ Wp 128 88 (ls) (.int (3) :: st) h Q) ∧
  (∀ (ls : Lo) (st : List Value) (h : Hp) (Q : Option Value → Hp → Prop) (l0 l1 : Option Value) (x : Int32), Wp 128 88 (l0 :: l1 :: some (.int x) :: ls) (st) h Q ↔ Wp 128 89 (l0 :: l1 :: some (.int x) :: ls) (.int x :: st) h Q) ∧
  (∀ (ls : Lo) (st : List Value) (h : Hp) (Q : Option Value → Hp → Prop) (x y : Int32), Wp 128 89 (ls) (.int y :: .int x :: st) h Q ↔ Wp 128 90 (ls) (.int (x * y) :: st) h Q) ∧
  (∀ (ls : Lo) (st : List Value) (h : Hp) (Q : Option Value → Hp → Prop) (l0 l1 l2 l3 l4 : Option Value) (x : Int32), Wp 128 90 (l0 :: l1 :: l2 :: l3 :: l4 :: some (.int x) :: ls) (st) h Q ↔ Wp 128 92 (l0 :: l1 :: l2 :: l3 :: l4 :: some (.int x) :: ls) (.int x :: st) h Q) ∧
  (∀ (ls : Lo) (st : List Value) (h : Hp) (Q : Option Value → Hp → Prop) (x y : Int32), Wp 128 92 (ls) (.int y :: .int x :: st) h Q ↔ Wp 128 93 (ls) (.int (x + y) :: st) h Q) ∧
  (∀ (ls : Lo) (st : List Value) (n sl : Nat) (C Z : Nat → Nat) (I : Nat → Nat → Int32) (L : Nat → Nat → Int64) (R : Nat → Nat → Nat) (Q : Option Value → Hp → Prop) (i : Nat) (y : Int32), Wp 128 93 (ls) (.int y :: .ref i :: st) (n, sl, C, Z, I, L, R) Q ↔ ((inb y (Z i) = true ∧ C i = 22) ∧ Wp 128 94 (ls) (.long (L i (ix y)) :: st) (n, sl, C, Z, I, L, R) Q)) ∧
  (∀ (ls : Lo) (st : List Value) (n sl : Nat) (C Z : Nat → Nat) (I : Nat → Nat → Int32) (L : Nat → Nat → Int64) (R : Nat → Nat → Nat) (Q : Option Value → Hp → Prop) (i : Nat) (y : Int32) (a : Int64), Wp 128 94 (ls) (.long a :: .int y :: .ref i :: st) (n, sl, C, Z, I, L, R) Q ↔ ((inb y (Z i) = true ∧ C i = 22) ∧ Wp 128 95 (ls) (st) (n, sl, C, Z, I, u2 L i (ix y) a, R) Q)) ∧
  (∀ (ls : Lo) (st : List Value) (h : Hp) (Q : Option Value → Hp → Prop)  (i : Nat), Wp 128 95 (some (.ref i) :: ls) (st) h Q ↔ Wp 128 96 (some (.ref i) :: ls) (.ref i :: st) h Q) ∧
  (∀ (ls : Lo) (st : List Value) (n sl : Nat) (C Z : Nat → Nat) (I : Nat → Nat → Int32) (L : Nat → Nat → Int64) (R : Nat → Nat → Nat) (Q : Option Value → Hp → Prop) (i : Nat), Wp 128 96 (ls) (.ref i :: st) (n, sl, C, Z, I, L, R) Q ↔ (C i = 11 ∧ Wp 128 99 (ls) (.ref (R i 24) :: st) (n, sl, C, Z, I, L, R) Q)) ∧
  (∀ (ls : Lo) (st : List Value) (h : Hp) (Q : Option Value → Hp → Prop), Wp 128 99 (ls) (st) h Q ↔ Wp 128 100 (ls) (.int (3) :: st) h Q) ∧
  (∀ (ls : Lo) (st : List Value) (h : Hp) (Q : Option Value → Hp → Prop) (l0 l1 : Option Value) (x : Int32), Wp 128 100 (l0 :: l1 :: some (.int x) :: ls) (st) h Q ↔ Wp 128 101 (l0 :: l1 :: some (.int x) :: ls) (.int x :: st) h Q) ∧
  (∀ (ls : Lo) (st : List Value) (h : Hp) (Q : Option Value → Hp → Prop) (x y : Int32), Wp 128 101 (ls) (.int y :: .int x :: st) h Q ↔ Wp 128 102 (ls) (.int (x * y) :: st) h Q) ∧
  (∀ (ls : Lo) (st : List Value) (h : Hp) (Q : Option Value → Hp → Prop) (l0 l1 l2 l3 l4 : Option Value) (x : Int32), Wp 128 102 (l0 :: l1 :: l2 :: l3 :: l4 :: some (.int x) :: ls) (st) h Q ↔ Wp 128 104 (l0 :: l1 :: l2 :: l3 :: l4 :: some (.int x) :: ls) (.int x :: st) h Q) ∧
  (∀ (ls : Lo) (st : List Value) (h : Hp) (Q : Option Value → Hp → Prop) (x y : Int32), Wp 128 104 (ls) (.int y :: .int x :: st) h Q ↔ Wp 128 105 (ls) (.int (x + y) :: st) h Q) ∧
  (∀ (ls : Lo) (st : List Value) (h : Hp) (Q : Option Value → Hp → Prop) (l0 l1 l2 l3 l4 l5 : Option Value) (a : Int64), Wp 128 105 (l0 :: l1 :: l2 :: l3 :: l4 :: l5 :: some (.long a) :: ls) (st) h Q ↔ Wp 128 107 (l0 :: l1 :: l2 :: l3 :: l4 :: l5 :: some (.long a) :: ls) (.long a :: st) h Q) ∧
  (∀ (ls : Lo) (st : List Value) (n sl : Nat) (C Z : Nat → Nat) (I : Nat → Nat → Int32) (L : Nat → Nat → Int64) (R : Nat → Nat → Nat) (Q : Option Value → Hp → Prop) (i : Nat) (y : Int32) (a : Int64), Wp 128 107 (ls) (.long a :: .int y :: .ref i :: st) (n, sl, C, Z, I, L, R) Q ↔ ((inb y (Z i) = true ∧ C i = 22) ∧ Wp 128 108 (ls) (st) (n, sl, C, Z, I, u2 L i (ix y) a, R) Q)) ∧
  (∀ (ls : Lo) (st : List Value) (h : Hp) (Q : Option Value → Hp → Prop) (l0 l1 l2 l3 l4 : Option Value) (x : Int32), Wp 128 108 (l0 :: l1 :: l2 :: l3 :: l4 :: some (.int x) :: ls) (st) h Q ↔ Wp 128 111 (l0 :: l1 :: l2 :: l3 :: clr l4 :: some (.int (x + (1))) :: ls) (st) h Q) ∧
  (∀ (ls : Lo) (st : List Value) (h : Hp) (Q : Option Value → Hp → Prop), Wp 128 111 (ls) (st) h Q ↔ Wp 128 52 (ls) (st) h Q) ∧
  (∀ (ls : Lo) (st : List Value) (h : Hp) (Q : Option Value → Hp → Prop) (l0 l1 : Option Value) (x : Int32), Wp 128 114 (l0 :: l1 :: some (.int x) :: ls) (st) h Q ↔ Wp 128 115 (l0 :: l1 :: some (.int x) :: ls) (.int x :: st) h Q) ∧
  (∀ (ls : Lo) (st : List Value) (h : Hp) (Q : Option Value → Hp → Prop), Wp 128 115 (ls) (st) h Q ↔ Wp 128 116 (ls) (.int (1) :: st) h Q) ∧
  (∀ (ls : Lo) (st : List Value) (h : Hp) (Q : Option Value → Hp → Prop) (x y : Int32), Wp 128 116 (ls) (.int y :: .int x :: st) h Q ↔ Wp 128 117 (ls) (.int (x + y) :: st) h Q) ∧
  (∀ (ls : Lo) (st : List Value) (h : Hp) (Q : Option Value → Hp → Prop) (l0 l1 l2 l3 l4 l5 : Option Value) (x : Int32), Wp 128 117 (l0 :: l1 :: l2 :: l3 :: l4 :: l5 :: ls) (.int x :: st) h Q ↔ Wp 128 119 (l0 :: l1 :: l2 :: l3 :: clr l4 :: some (.int x) :: ls) (st) h Q) ∧
  (∀ (ls : Lo) (st : List Value) (h : Hp) (Q : Option Value → Hp → Prop) (l0 l1 l2 l3 l4 : Option Value) (x : Int32), Wp 128 119 (l0 :: l1 :: l2 :: l3 :: l4 :: some (.int x) :: ls) (st) h Q ↔ Wp 128 121 (l0 :: l1 :: l2 :: l3 :: l4 :: some (.int x) :: ls) (.int x :: st) h Q) := ⟨by intro ls st h Q i; exact e_aload_n d128_83 rfl,
  by intro ls st n sl C Z I L R Q i; exact e_get (g := 10) (s := 24) (ty := 2) d128_84 rfl rfl (inG_ne (by decide)),
  by intro ls st h Q; exact e_iconst d128_87 rfl,
  by intro ls st h Q l0 l1 x; exact e_iload_n d128_88 rfl,
  by intro ls st h Q x y; exact e_imul d128_89,
  by intro ls st h Q l0 l1 l2 l3 l4 x; exact e_iload d128_90 rfl,
  by intro ls st h Q x y; exact e_iadd d128_92,
  by intro ls st n sl C Z I L R Q i y; exact e_lald d128_93,
  by intro ls st n sl C Z I L R Q i y a; exact e_last d128_94,
  by intro ls st h Q i; exact e_aload_n d128_95 rfl,
  by intro ls st n sl C Z I L R Q i; exact e_get (g := 10) (s := 24) (ty := 2) d128_96 rfl rfl (inG_ne (by decide)),
  by intro ls st h Q; exact e_iconst d128_99 rfl,
  by intro ls st h Q l0 l1 x; exact e_iload_n d128_100 rfl,
  by intro ls st h Q x y; exact e_imul d128_101,
  by intro ls st h Q l0 l1 l2 l3 l4 x; exact e_iload d128_102 rfl,
  by intro ls st h Q x y; exact e_iadd d128_104,
  by intro ls st h Q l0 l1 l2 l3 l4 l5 a; exact e_lload d128_105 rfl,
  by intro ls st n sl C Z I L R Q i y a; exact e_last d128_107,
  by intro ls st h Q l0 l1 l2 l3 l4 x; exact e_iinc d128_108 rfl rfl rfl,
  by intro ls st h Q; exact e_goto d128_111 (by decide),
  by intro ls st h Q l0 l1 x; exact e_iload_n d128_114 rfl,
  by intro ls st h Q; exact e_iconst d128_115 rfl,
  by intro ls st h Q x y; exact e_iadd d128_116,
  by intro ls st h Q l0 l1 l2 l3 l4 l5 x; exact e_istore d128_117 rfl,
  by intro ls st h Q l0 l1 l2 l3 l4 x; exact e_iload d128_119 rfl⟩
set_option maxRecDepth 20000 in
theorem S128_3 : (∀ (ls : Lo) (st : List Value) (h : Hp) (Q : Option Value → Hp → Prop) (l0 : Option Value) (x : Int32), Wp 128 121 (l0 :: some (.int x) :: ls) (st) h Q ↔ Wp 128 122 (l0 :: some (.int x) :: ls) (.int x :: st) h Q) ∧
  (∀ (ls : Lo) (st : List Value) (h : Hp) (Q : Option Value → Hp → Prop) (x y : Int32), Wp 128 122 (ls) (.int y :: .int x :: st) h Q ↔ Br 128 270 125 ls st h Q (y ≤ x)) ∧
  (∀ (ls : Lo) (st : List Value) (h : Hp) (Q : Option Value → Hp → Prop)  (i : Nat), Wp 128 125 (some (.ref i) :: ls) (st) h Q ↔ Wp 128 126 (some (.ref i) :: ls) (.ref i :: st) h Q) ∧
  (∀ (ls : Lo) (st : List Value) (n sl : Nat) (C Z : Nat → Nat) (I : Nat → Nat → Int32) (L : Nat → Nat → Int64) (R : Nat → Nat → Nat) (Q : Option Value → Hp → Prop) (i : Nat), Wp 128 126 (ls) (.ref i :: st) (n, sl, C, Z, I, L, R) Q ↔ (C i = 11 ∧ Wp 128 129 (ls) (.ref (R i 24) :: st) (n, sl, C, Z, I, L, R) Q)) ∧
  (∀ (ls : Lo) (st : List Value) (h : Hp) (Q : Option Value → Hp → Prop), Wp 128 129 (ls) (st) h Q ↔ Wp 128 130 (ls) (.int (3) :: st) h Q) ∧
  (∀ (ls : Lo) (st : List Value) (h : Hp) (Q : Option Value → Hp → Prop) (l0 l1 l2 l3 l4 : Option Value) (x : Int32), Wp 128 130 (l0 :: l1 :: l2 :: l3 :: l4 :: some (.int x) :: ls) (st) h Q ↔ Wp 128 132 (l0 :: l1 :: l2 :: l3 :: l4 :: some (.int x) :: ls) (.int x :: st) h Q) ∧
  (∀ (ls : Lo) (st : List Value) (h : Hp) (Q : Option Value → Hp → Prop) (x y : Int32), Wp 128 132 (ls) (.int y :: .int x :: st) h Q ↔ Wp 128 133 (ls) (.int (x * y) :: st) h Q) ∧
  (∀ (ls : Lo) (st : List Value) (h : Hp) (Q : Option Value → Hp → Prop) (l0 l1 l2 : Option Value) (x : Int32), Wp 128 133 (l0 :: l1 :: l2 :: some (.int x) :: ls) (st) h Q ↔ Wp 128 134 (l0 :: l1 :: l2 :: some (.int x) :: ls) (.int x :: st) h Q) ∧
  (∀ (ls : Lo) (st : List Value) (h : Hp) (Q : Option Value → Hp → Prop) (x y : Int32), Wp 128 134 (ls) (.int y :: .int x :: st) h Q ↔ Wp 128 135 (ls) (.int (x + y) :: st) h Q) ∧
  (∀ (ls : Lo) (st : List Value) (n sl : Nat) (C Z : Nat → Nat) (I : Nat → Nat → Int32) (L : Nat → Nat → Int64) (R : Nat → Nat → Nat) (Q : Option Value → Hp → Prop) (i : Nat) (y : Int32), Wp 128 135 (ls) (.int y :: .ref i :: st) (n, sl, C, Z, I, L, R) Q ↔ ((inb y (Z i) = true ∧ C i = 22) ∧ Wp 128 136 (ls) (.long (L i (ix y)) :: st) (n, sl, C, Z, I, L, R) Q)) ∧
  (∀ (ls : Lo) (st : List Value) (h : Hp) (Q : Option Value → Hp → Prop) (l0 l1 l2 l3 l4 l5 l6 l7 : Option Value) (a : Int64), Wp 128 136 (l0 :: l1 :: l2 :: l3 :: l4 :: l5 :: l6 :: l7 :: ls) (.long a :: st) h Q ↔ Wp 128 138 (l0 :: l1 :: l2 :: l3 :: l4 :: clr l5 :: some (.long a) :: none :: ls) (st) h Q) ∧
  (∀ (ls : Lo) (st : List Value) (h : Hp) (Q : Option Value → Hp → Prop), Wp 128 138 (ls) (st) h Q ↔ Wp 128 139 (ls) (.long 0 :: st) h Q) ∧
  (∀ (ls : Lo) (st : List Value) (h : Hp) (Q : Option Value → Hp → Prop) (l0 l1 l2 l3 l4 l5 l6 l7 l8 l9 : Option Value) (a : Int64), Wp 128 139 (l0 :: l1 :: l2 :: l3 :: l4 :: l5 :: l6 :: l7 :: l8 :: l9 :: ls) (.long a :: st) h Q ↔ Wp 128 141 (l0 :: l1 :: l2 :: l3 :: l4 :: l5 :: l6 :: clr l7 :: some (.long a) :: none :: ls) (st) h Q) ∧
  (∀ (ls : Lo) (st : List Value) (h : Hp) (Q : Option Value → Hp → Prop), Wp 128 141 (ls) (st) h Q ↔ Wp 128 142 (ls) (.int (0) :: st) h Q) ∧
  (∀ (ls : Lo) (st : List Value) (h : Hp) (Q : Option Value → Hp → Prop) (l0 l1 l2 l3 l4 l5 l6 l7 l8 l9 l10 : Option Value) (x : Int32), Wp 128 142 (l0 :: l1 :: l2 :: l3 :: l4 :: l5 :: l6 :: l7 :: l8 :: l9 :: l10 :: ls) (.int x :: st) h Q ↔ Wp 128 144 (l0 :: l1 :: l2 :: l3 :: l4 :: l5 :: l6 :: l7 :: l8 :: clr l9 :: some (.int x) :: ls) (st) h Q) ∧
  (∀ (ls : Lo) (st : List Value) (h : Hp) (Q : Option Value → Hp → Prop) (l0 l1 l2 l3 l4 l5 l6 l7 l8 l9 : Option Value) (x : Int32), Wp 128 144 (l0 :: l1 :: l2 :: l3 :: l4 :: l5 :: l6 :: l7 :: l8 :: l9 :: some (.int x) :: ls) (st) h Q ↔ Wp 128 146 (l0 :: l1 :: l2 :: l3 :: l4 :: l5 :: l6 :: l7 :: l8 :: l9 :: some (.int x) :: ls) (.int x :: st) h Q) ∧
  (∀ (ls : Lo) (st : List Value) (h : Hp) (Q : Option Value → Hp → Prop), Wp 128 146 (ls) (st) h Q ↔ Wp 128 147 (ls) (.int (3) :: st) h Q) ∧
  (∀ (ls : Lo) (st : List Value) (h : Hp) (Q : Option Value → Hp → Prop) (x y : Int32), Wp 128 147 (ls) (.int y :: .int x :: st) h Q ↔ Br 128 225 150 ls st h Q (y ≤ x)) ∧
  (∀ (ls : Lo) (st : List Value) (h : Hp) (Q : Option Value → Hp → Prop)  (i : Nat), Wp 128 150 (some (.ref i) :: ls) (st) h Q ↔ Wp 128 151 (some (.ref i) :: ls) (.ref i :: st) h Q) ∧
  (∀ (ls : Lo) (st : List Value) (n sl : Nat) (C Z : Nat → Nat) (I : Nat → Nat → Int32) (L : Nat → Nat → Int64) (R : Nat → Nat → Nat) (Q : Option Value → Hp → Prop) (i : Nat), Wp 128 151 (ls) (.ref i :: st) (n, sl, C, Z, I, L, R) Q ↔ (C i = 11 ∧ Wp 128 154 (ls) (.ref (R i 24) :: st) (n, sl, C, Z, I, L, R) Q)) ∧
  (∀ (ls : Lo) (st : List Value) (h : Hp) (Q : Option Value → Hp → Prop), Wp 128 154 (ls) (st) h Q ↔ Wp 128 155 (ls) (.int (3) :: st) h Q) ∧
  (∀ (ls : Lo) (st : List Value) (h : Hp) (Q : Option Value → Hp → Prop) (l0 l1 l2 l3 l4 : Option Value) (x : Int32), Wp 128 155 (l0 :: l1 :: l2 :: l3 :: l4 :: some (.int x) :: ls) (st) h Q ↔ Wp 128 157 (l0 :: l1 :: l2 :: l3 :: l4 :: some (.int x) :: ls) (.int x :: st) h Q) ∧
  (∀ (ls : Lo) (st : List Value) (h : Hp) (Q : Option Value → Hp → Prop) (x y : Int32), Wp 128 157 (ls) (.int y :: .int x :: st) h Q ↔ Wp 128 158 (ls) (.int (x * y) :: st) h Q) ∧
  (∀ (ls : Lo) (st : List Value) (h : Hp) (Q : Option Value → Hp → Prop) (l0 l1 l2 l3 l4 l5 l6 l7 l8 l9 : Option Value) (x : Int32), Wp 128 158 (l0 :: l1 :: l2 :: l3 :: l4 :: l5 :: l6 :: l7 :: l8 :: l9 :: some (.int x) :: ls) (st) h Q ↔ Wp 128 160 (l0 :: l1 :: l2 :: l3 :: l4 :: l5 :: l6 :: l7 :: l8 :: l9 :: some (.int x) :: ls) (.int x :: st) h Q) ∧
  (∀ (ls : Lo) (st : List Value) (h : Hp) (Q : Option Value → Hp → Prop) (x y : Int32), Wp 128 160 (ls) (.int y :: .int x :: st) h Q ↔ Wp 128 161 (ls) (.int (x + y) :: st) h Q) := ⟨by intro ls st h Q l0 x; exact e_iload_n d128_121 rfl,
  by intro ls st h Q x y; exact e_ic d128_122 (by decide) c_ge,
  by intro ls st h Q i; exact e_aload_n d128_125 rfl,
  by intro ls st n sl C Z I L R Q i; exact e_get (g := 10) (s := 24) (ty := 2) d128_126 rfl rfl (inG_ne (by decide)),
  by intro ls st h Q; exact e_iconst d128_129 rfl,
  by intro ls st h Q l0 l1 l2 l3 l4 x; exact e_iload d128_130 rfl,
  by intro ls st h Q x y; exact e_imul d128_132,
  by intro ls st h Q l0 l1 l2 x; exact e_iload_n d128_133 rfl,
  by intro ls st h Q x y; exact e_iadd d128_134,
  by intro ls st n sl C Z I L R Q i y; exact e_lald d128_135,
  by intro ls st h Q l0 l1 l2 l3 l4 l5 l6 l7 a; exact e_lstore d128_136 rfl,
  by intro ls st h Q; exact e_lconst d128_138 rfl,
  by intro ls st h Q l0 l1 l2 l3 l4 l5 l6 l7 l8 l9 a; exact e_lstore d128_139 rfl,
  by intro ls st h Q; exact e_iconst d128_141 rfl,
  by intro ls st h Q l0 l1 l2 l3 l4 l5 l6 l7 l8 l9 l10 x; exact e_istore d128_142 rfl,
  by intro ls st h Q l0 l1 l2 l3 l4 l5 l6 l7 l8 l9 x; exact e_iload d128_144 rfl,
  by intro ls st h Q; exact e_iconst d128_146 rfl,
  by intro ls st h Q x y; exact e_ic d128_147 (by decide) c_ge,
  by intro ls st h Q i; exact e_aload_n d128_150 rfl,
  by intro ls st n sl C Z I L R Q i; exact e_get (g := 10) (s := 24) (ty := 2) d128_151 rfl rfl (inG_ne (by decide)),
  by intro ls st h Q; exact e_iconst d128_154 rfl,
  by intro ls st h Q l0 l1 l2 l3 l4 x; exact e_iload d128_155 rfl,
  by intro ls st h Q x y; exact e_imul d128_157,
  by intro ls st h Q l0 l1 l2 l3 l4 l5 l6 l7 l8 l9 x; exact e_iload d128_158 rfl,
  by intro ls st h Q x y; exact e_iadd d128_160⟩
set_option maxRecDepth 20000 in
theorem S128_4 : (∀ (ls : Lo) (st : List Value) (h : Hp) (Q : Option Value → Hp → Prop)  (i : Nat), Wp 128 161 (some (.ref i) :: ls) (st) h Q ↔ Wp 128 162 (some (.ref i) :: ls) (.ref i :: st) h Q) ∧
  (∀ (ls : Lo) (st : List Value) (n sl : Nat) (C Z : Nat → Nat) (I : Nat → Nat → Int32) (L : Nat → Nat → Int64) (R : Nat → Nat → Nat) (Q : Option Value → Hp → Prop) (i : Nat), Wp 128 162 (ls) (.ref i :: st) (n, sl, C, Z, I, L, R) Q ↔ (C i = 11 ∧ Wp 128 165 (ls) (.ref (R i 24) :: st) (n, sl, C, Z, I, L, R) Q)) ∧
  (∀ (ls : Lo) (st : List Value) (h : Hp) (Q : Option Value → Hp → Prop), Wp 128 165 (ls) (st) h Q ↔ Wp 128 166 (ls) (.int (3) :: st) h Q) ∧
  (∀ (ls : Lo) (st : List Value) (h : Hp) (Q : Option Value → Hp → Prop) (l0 l1 l2 l3 l4 : Option Value) (x : Int32), Wp 128 166 (l0 :: l1 :: l2 :: l3 :: l4 :: some (.int x) :: ls) (st) h Q ↔ Wp 128 168 (l0 :: l1 :: l2 :: l3 :: l4 :: some (.int x) :: ls) (.int x :: st) h Q) ∧
  (∀ (ls : Lo) (st : List Value) (h : Hp) (Q : Option Value → Hp → Prop) (x y : Int32), Wp 128 168 (ls) (.int y :: .int x :: st) h Q ↔ Wp 128 169 (ls) (.int (x * y) :: st) h Q) ∧
  (∀ (ls : Lo) (st : List Value) (h : Hp) (Q : Option Value → Hp → Prop) (l0 l1 l2 l3 l4 l5 l6 l7 l8 l9 : Option Value) (x : Int32), Wp 128 169 (l0 :: l1 :: l2 :: l3 :: l4 :: l5 :: l6 :: l7 :: l8 :: l9 :: some (.int x) :: ls) (st) h Q ↔ Wp 128 171 (l0 :: l1 :: l2 :: l3 :: l4 :: l5 :: l6 :: l7 :: l8 :: l9 :: some (.int x) :: ls) (.int x :: st) h Q) ∧
  (∀ (ls : Lo) (st : List Value) (h : Hp) (Q : Option Value → Hp → Prop) (x y : Int32), Wp 128 171 (ls) (.int y :: .int x :: st) h Q ↔ Wp 128 172 (ls) (.int (x + y) :: st) h Q) ∧
  (∀ (ls : Lo) (st : List Value) (n sl : Nat) (C Z : Nat → Nat) (I : Nat → Nat → Int32) (L : Nat → Nat → Int64) (R : Nat → Nat → Nat) (Q : Option Value → Hp → Prop) (i : Nat) (y : Int32), Wp 128 172 (ls) (.int y :: .ref i :: st) (n, sl, C, Z, I, L, R) Q ↔ ((inb y (Z i) = true ∧ C i = 22) ∧ Wp 128 173 (ls) (.long (L i (ix y)) :: st) (n, sl, C, Z, I, L, R) Q)) ∧
  (∀ (ls : Lo) (st : List Value) (h : Hp) (Q : Option Value → Hp → Prop)  (i : Nat), Wp 128 173 (some (.ref i) :: ls) (st) h Q ↔ Wp 128 174 (some (.ref i) :: ls) (.ref i :: st) h Q) ∧
  (∀ (ls : Lo) (st : List Value) (n sl : Nat) (C Z : Nat → Nat) (I : Nat → Nat → Int32) (L : Nat → Nat → Int64) (R : Nat → Nat → Nat) (Q : Option Value → Hp → Prop) (i : Nat), Wp 128 174 (ls) (.ref i :: st) (n, sl, C, Z, I, L, R) Q ↔ (C i = 11 ∧ Wp 128 177 (ls) (.ref (R i 24) :: st) (n, sl, C, Z, I, L, R) Q)) ∧
  (∀ (ls : Lo) (st : List Value) (h : Hp) (Q : Option Value → Hp → Prop), Wp 128 177 (ls) (st) h Q ↔ Wp 128 178 (ls) (.int (3) :: st) h Q) ∧
  (∀ (ls : Lo) (st : List Value) (h : Hp) (Q : Option Value → Hp → Prop) (l0 l1 : Option Value) (x : Int32), Wp 128 178 (l0 :: l1 :: some (.int x) :: ls) (st) h Q ↔ Wp 128 179 (l0 :: l1 :: some (.int x) :: ls) (.int x :: st) h Q) ∧
  (∀ (ls : Lo) (st : List Value) (h : Hp) (Q : Option Value → Hp → Prop) (x y : Int32), Wp 128 179 (ls) (.int y :: .int x :: st) h Q ↔ Wp 128 180 (ls) (.int (x * y) :: st) h Q) ∧
  (∀ (ls : Lo) (st : List Value) (h : Hp) (Q : Option Value → Hp → Prop) (l0 l1 l2 : Option Value) (x : Int32), Wp 128 180 (l0 :: l1 :: l2 :: some (.int x) :: ls) (st) h Q ↔ Wp 128 181 (l0 :: l1 :: l2 :: some (.int x) :: ls) (.int x :: st) h Q) ∧
  (∀ (ls : Lo) (st : List Value) (h : Hp) (Q : Option Value → Hp → Prop) (x y : Int32), Wp 128 181 (ls) (.int y :: .int x :: st) h Q ↔ Wp 128 182 (ls) (.int (x + y) :: st) h Q) ∧
  (∀ (ls : Lo) (st : List Value) (n sl : Nat) (C Z : Nat → Nat) (I : Nat → Nat → Int32) (L : Nat → Nat → Int64) (R : Nat → Nat → Nat) (Q : Option Value → Hp → Prop) (i : Nat) (y : Int32), Wp 128 182 (ls) (.int y :: .ref i :: st) (n, sl, C, Z, I, L, R) Q ↔ ((inb y (Z i) = true ∧ C i = 22) ∧ Wp 128 183 (ls) (.long (L i (ix y)) :: st) (n, sl, C, Z, I, L, R) Q)) ∧
  (∀ (ls : Lo) (st : List Value) (h : Hp) (Q : Option Value → Hp → Prop) (a b : Int64), Wp 128 183 (ls) (.long b :: .long a :: st) h Q ↔ Wp 128 184 (ls) (.long (a * b) :: st) h Q) ∧
  (∀ (ls : Lo) (st : List Value) (h : Hp) (Q : Option Value → Hp → Prop)  (i : Nat), Wp 128 184 (some (.ref i) :: ls) (st) h Q ↔ Wp 128 185 (some (.ref i) :: ls) (.ref i :: st) h Q) ∧
  (∀ (ls : Lo) (st : List Value) (n sl : Nat) (C Z : Nat → Nat) (I : Nat → Nat → Int32) (L : Nat → Nat → Int64) (R : Nat → Nat → Nat) (Q : Option Value → Hp → Prop) (i : Nat), Wp 128 185 (ls) (.ref i :: st) (n, sl, C, Z, I, L, R) Q ↔ (C i = 11 ∧ Wp 128 188 (ls) (.ref (R i 24) :: st) (n, sl, C, Z, I, L, R) Q)) ∧
  (∀ (ls : Lo) (st : List Value) (h : Hp) (Q : Option Value → Hp → Prop), Wp 128 188 (ls) (st) h Q ↔ Wp 128 189 (ls) (.int (3) :: st) h Q) ∧
  (∀ (ls : Lo) (st : List Value) (h : Hp) (Q : Option Value → Hp → Prop) (l0 l1 : Option Value) (x : Int32), Wp 128 189 (l0 :: l1 :: some (.int x) :: ls) (st) h Q ↔ Wp 128 190 (l0 :: l1 :: some (.int x) :: ls) (.int x :: st) h Q) ∧
  (∀ (ls : Lo) (st : List Value) (h : Hp) (Q : Option Value → Hp → Prop) (x y : Int32), Wp 128 190 (ls) (.int y :: .int x :: st) h Q ↔ Wp 128 191 (ls) (.int (x * y) :: st) h Q) ∧
  (∀ (ls : Lo) (st : List Value) (h : Hp) (Q : Option Value → Hp → Prop) (l0 l1 l2 l3 l4 l5 l6 l7 l8 l9 : Option Value) (x : Int32), Wp 128 191 (l0 :: l1 :: l2 :: l3 :: l4 :: l5 :: l6 :: l7 :: l8 :: l9 :: some (.int x) :: ls) (st) h Q ↔ Wp 128 193 (l0 :: l1 :: l2 :: l3 :: l4 :: l5 :: l6 :: l7 :: l8 :: l9 :: some (.int x) :: ls) (.int x :: st) h Q) ∧
  (∀ (ls : Lo) (st : List Value) (h : Hp) (Q : Option Value → Hp → Prop) (x y : Int32), Wp 128 193 (ls) (.int y :: .int x :: st) h Q ↔ Wp 128 194 (ls) (.int (x + y) :: st) h Q) ∧
  (∀ (ls : Lo) (st : List Value) (n sl : Nat) (C Z : Nat → Nat) (I : Nat → Nat → Int32) (L : Nat → Nat → Int64) (R : Nat → Nat → Nat) (Q : Option Value → Hp → Prop) (i : Nat) (y : Int32), Wp 128 194 (ls) (.int y :: .ref i :: st) (n, sl, C, Z, I, L, R) Q ↔ ((inb y (Z i) = true ∧ C i = 22) ∧ Wp 128 195 (ls) (.long (L i (ix y)) :: st) (n, sl, C, Z, I, L, R) Q)) := ⟨by intro ls st h Q i; exact e_aload_n d128_161 rfl,
  by intro ls st n sl C Z I L R Q i; exact e_get (g := 10) (s := 24) (ty := 2) d128_162 rfl rfl (inG_ne (by decide)),
  by intro ls st h Q; exact e_iconst d128_165 rfl,
  by intro ls st h Q l0 l1 l2 l3 l4 x; exact e_iload d128_166 rfl,
  by intro ls st h Q x y; exact e_imul d128_168,
  by intro ls st h Q l0 l1 l2 l3 l4 l5 l6 l7 l8 l9 x; exact e_iload d128_169 rfl,
  by intro ls st h Q x y; exact e_iadd d128_171,
  by intro ls st n sl C Z I L R Q i y; exact e_lald d128_172,
  by intro ls st h Q i; exact e_aload_n d128_173 rfl,
  by intro ls st n sl C Z I L R Q i; exact e_get (g := 10) (s := 24) (ty := 2) d128_174 rfl rfl (inG_ne (by decide)),
  by intro ls st h Q; exact e_iconst d128_177 rfl,
  by intro ls st h Q l0 l1 x; exact e_iload_n d128_178 rfl,
  by intro ls st h Q x y; exact e_imul d128_179,
  by intro ls st h Q l0 l1 l2 x; exact e_iload_n d128_180 rfl,
  by intro ls st h Q x y; exact e_iadd d128_181,
  by intro ls st n sl C Z I L R Q i y; exact e_lald d128_182,
  by intro ls st h Q a b; exact e_lmul d128_183,
  by intro ls st h Q i; exact e_aload_n d128_184 rfl,
  by intro ls st n sl C Z I L R Q i; exact e_get (g := 10) (s := 24) (ty := 2) d128_185 rfl rfl (inG_ne (by decide)),
  by intro ls st h Q; exact e_iconst d128_188 rfl,
  by intro ls st h Q l0 l1 x; exact e_iload_n d128_189 rfl,
  by intro ls st h Q x y; exact e_imul d128_190,
  by intro ls st h Q l0 l1 l2 l3 l4 l5 l6 l7 l8 l9 x; exact e_iload d128_191 rfl,
  by intro ls st h Q x y; exact e_iadd d128_193,
  by intro ls st n sl C Z I L R Q i y; exact e_lald d128_194⟩
set_option maxRecDepth 20000 in
theorem S128_5 : (∀ (ls : Lo) (st : List Value) (h : Hp) (Q : Option Value → Hp → Prop) (l0 l1 l2 l3 l4 l5 : Option Value) (a : Int64), Wp 128 195 (l0 :: l1 :: l2 :: l3 :: l4 :: l5 :: some (.long a) :: ls) (st) h Q ↔ Wp 128 197 (l0 :: l1 :: l2 :: l3 :: l4 :: l5 :: some (.long a) :: ls) (.long a :: st) h Q) ∧
  (∀ (ls : Lo) (st : List Value) (h : Hp) (Q : Option Value → Hp → Prop) (a b : Int64), Wp 128 197 (ls) (.long b :: .long a :: st) h Q ↔ Wp 128 198 (ls) (.long (a * b) :: st) h Q) ∧
  (∀ (ls : Lo) (st : List Value) (h : Hp) (Q : Option Value → Hp → Prop) (a b : Int64), Wp 128 198 (ls) (.long b :: .long a :: st) h Q ↔ Wp 128 199 (ls) (.long (a - b) :: st) h Q) ∧
  (∀ (ls : Lo) (st : List Value) (n sl : Nat) (C Z : Nat → Nat) (I : Nat → Nat → Int32) (L : Nat → Nat → Int64) (R : Nat → Nat → Nat) (Q : Option Value → Hp → Prop) (i : Nat) (y : Int32) (a : Int64), Wp 128 199 (ls) (.long a :: .int y :: .ref i :: st) (n, sl, C, Z, I, L, R) Q ↔ ((inb y (Z i) = true ∧ C i = 22) ∧ Wp 128 200 (ls) (st) (n, sl, C, Z, I, u2 L i (ix y) a, R) Q)) ∧
  (∀ (ls : Lo) (st : List Value) (h : Hp) (Q : Option Value → Hp → Prop) (l0 l1 l2 l3 l4 l5 l6 l7 : Option Value) (a : Int64), Wp 128 200 (l0 :: l1 :: l2 :: l3 :: l4 :: l5 :: l6 :: l7 :: some (.long a) :: ls) (st) h Q ↔ Wp 128 202 (l0 :: l1 :: l2 :: l3 :: l4 :: l5 :: l6 :: l7 :: some (.long a) :: ls) (.long a :: st) h Q) ∧
  (∀ (ls : Lo) (st : List Value) (h : Hp) (Q : Option Value → Hp → Prop)  (i : Nat), Wp 128 202 (some (.ref i) :: ls) (st) h Q ↔ Wp 128 203 (some (.ref i) :: ls) (.ref i :: st) h Q) ∧
  (∀ (ls : Lo) (st : List Value) (n sl : Nat) (C Z : Nat → Nat) (I : Nat → Nat → Int32) (L : Nat → Nat → Int64) (R : Nat → Nat → Nat) (Q : Option Value → Hp → Prop) (i : Nat), Wp 128 203 (ls) (.ref i :: st) (n, sl, C, Z, I, L, R) Q ↔ (C i = 11 ∧ Wp 128 206 (ls) (.ref (R i 24) :: st) (n, sl, C, Z, I, L, R) Q)) ∧
  (∀ (ls : Lo) (st : List Value) (h : Hp) (Q : Option Value → Hp → Prop), Wp 128 206 (ls) (st) h Q ↔ Wp 128 207 (ls) (.int (3) :: st) h Q) ∧
  (∀ (ls : Lo) (st : List Value) (h : Hp) (Q : Option Value → Hp → Prop) (l0 l1 l2 l3 l4 : Option Value) (x : Int32), Wp 128 207 (l0 :: l1 :: l2 :: l3 :: l4 :: some (.int x) :: ls) (st) h Q ↔ Wp 128 209 (l0 :: l1 :: l2 :: l3 :: l4 :: some (.int x) :: ls) (.int x :: st) h Q) ∧
  (∀ (ls : Lo) (st : List Value) (h : Hp) (Q : Option Value → Hp → Prop) (x y : Int32), Wp 128 209 (ls) (.int y :: .int x :: st) h Q ↔ Wp 128 210 (ls) (.int (x * y) :: st) h Q) ∧
  (∀ (ls : Lo) (st : List Value) (h : Hp) (Q : Option Value → Hp → Prop) (l0 l1 l2 l3 l4 l5 l6 l7 l8 l9 : Option Value) (x : Int32), Wp 128 210 (l0 :: l1 :: l2 :: l3 :: l4 :: l5 :: l6 :: l7 :: l8 :: l9 :: some (.int x) :: ls) (st) h Q ↔ Wp 128 212 (l0 :: l1 :: l2 :: l3 :: l4 :: l5 :: l6 :: l7 :: l8 :: l9 :: some (.int x) :: ls) (.int x :: st) h Q) ∧
  (∀ (ls : Lo) (st : List Value) (h : Hp) (Q : Option Value → Hp → Prop) (x y : Int32), Wp 128 212 (ls) (.int y :: .int x :: st) h Q ↔ Wp 128 213 (ls) (.int (x + y) :: st) h Q) ∧
  (∀ (ls : Lo) (st : List Value) (n sl : Nat) (C Z : Nat → Nat) (I : Nat → Nat → Int32) (L : Nat → Nat → Int64) (R : Nat → Nat → Nat) (Q : Option Value → Hp → Prop) (i : Nat) (y : Int32), Wp 128 213 (ls) (.int y :: .ref i :: st) (n, sl, C, Z, I, L, R) Q ↔ ((inb y (Z i) = true ∧ C i = 22) ∧ Wp 128 214 (ls) (.long (L i (ix y)) :: st) (n, sl, C, Z, I, L, R) Q)) ∧
  (∀ (ls : Lo) (st : List Value) (h : Hp) (Q : Option Value → Hp → Prop) (x0 : Int64) (x1 : Int64), Wp 128 214 (ls) (.long x1 :: .long x0 :: st) h Q ↔ (wsum st ≤ 8 ∧ Call 105 [some (.long x0), none, some (.long x1), none, none, none, none, none, none, none] h 128 217 ls st Q)) ∧
  (∀ (ls : Lo) (st : List Value) (h : Hp) (Q : Option Value → Hp → Prop) (l0 l1 l2 l3 l4 l5 l6 l7 l8 l9 : Option Value) (a : Int64), Wp 128 217 (l0 :: l1 :: l2 :: l3 :: l4 :: l5 :: l6 :: l7 :: l8 :: l9 :: ls) (.long a :: st) h Q ↔ Wp 128 219 (l0 :: l1 :: l2 :: l3 :: l4 :: l5 :: l6 :: clr l7 :: some (.long a) :: none :: ls) (st) h Q) ∧
  (∀ (ls : Lo) (st : List Value) (h : Hp) (Q : Option Value → Hp → Prop) (l0 l1 l2 l3 l4 l5 l6 l7 l8 l9 : Option Value) (x : Int32), Wp 128 219 (l0 :: l1 :: l2 :: l3 :: l4 :: l5 :: l6 :: l7 :: l8 :: l9 :: some (.int x) :: ls) (st) h Q ↔ Wp 128 222 (l0 :: l1 :: l2 :: l3 :: l4 :: l5 :: l6 :: l7 :: l8 :: clr l9 :: some (.int (x + (1))) :: ls) (st) h Q) ∧
  (∀ (ls : Lo) (st : List Value) (h : Hp) (Q : Option Value → Hp → Prop), Wp 128 222 (ls) (st) h Q ↔ Wp 128 144 (ls) (st) h Q) ∧
  (∀ (ls : Lo) (st : List Value) (h : Hp) (Q : Option Value → Hp → Prop), Wp 128 225 (ls) (st) h Q ↔ Wp 128 226 (ls) (.int (0) :: st) h Q) ∧
  (∀ (ls : Lo) (st : List Value) (h : Hp) (Q : Option Value → Hp → Prop) (l0 l1 l2 l3 l4 l5 l6 l7 l8 l9 l10 : Option Value) (x : Int32), Wp 128 226 (l0 :: l1 :: l2 :: l3 :: l4 :: l5 :: l6 :: l7 :: l8 :: l9 :: l10 :: ls) (.int x :: st) h Q ↔ Wp 128 228 (l0 :: l1 :: l2 :: l3 :: l4 :: l5 :: l6 :: l7 :: l8 :: clr l9 :: some (.int x) :: ls) (st) h Q) ∧
  (∀ (ls : Lo) (st : List Value) (h : Hp) (Q : Option Value → Hp → Prop) (l0 l1 l2 l3 l4 l5 l6 l7 l8 l9 : Option Value) (x : Int32), Wp 128 228 (l0 :: l1 :: l2 :: l3 :: l4 :: l5 :: l6 :: l7 :: l8 :: l9 :: some (.int x) :: ls) (st) h Q ↔ Wp 128 230 (l0 :: l1 :: l2 :: l3 :: l4 :: l5 :: l6 :: l7 :: l8 :: l9 :: some (.int x) :: ls) (.int x :: st) h Q) ∧
  (∀ (ls : Lo) (st : List Value) (h : Hp) (Q : Option Value → Hp → Prop), Wp 128 230 (ls) (st) h Q ↔ Wp 128 231 (ls) (.int (3) :: st) h Q) ∧
  (∀ (ls : Lo) (st : List Value) (h : Hp) (Q : Option Value → Hp → Prop) (x y : Int32), Wp 128 231 (ls) (.int y :: .int x :: st) h Q ↔ Br 128 264 234 ls st h Q (y ≤ x)) ∧
  (∀ (ls : Lo) (st : List Value) (h : Hp) (Q : Option Value → Hp → Prop) (l0 l1 l2 l3 l4 l5 l6 l7 : Option Value) (a : Int64), Wp 128 234 (l0 :: l1 :: l2 :: l3 :: l4 :: l5 :: l6 :: l7 :: some (.long a) :: ls) (st) h Q ↔ Wp 128 236 (l0 :: l1 :: l2 :: l3 :: l4 :: l5 :: l6 :: l7 :: some (.long a) :: ls) (.long a :: st) h Q) ∧
  (∀ (ls : Lo) (st : List Value) (h : Hp) (Q : Option Value → Hp → Prop), Wp 128 236 (ls) (st) h Q ↔ Wp 128 237 (ls) (.long 0 :: st) h Q) ∧
  (∀ (ls : Lo) (st : List Value) (h : Hp) (Q : Option Value → Hp → Prop) (a b : Int64), Wp 128 237 (ls) (.long b :: .long a :: st) h Q ↔ Wp 128 238 (ls) (.int (lg_cmp a b) :: st) h Q) := ⟨by intro ls st h Q l0 l1 l2 l3 l4 l5 a; exact e_lload d128_195 rfl,
  by intro ls st h Q a b; exact e_lmul d128_197,
  by intro ls st h Q a b; exact e_lsub d128_198,
  by intro ls st n sl C Z I L R Q i y a; exact e_last d128_199,
  by intro ls st h Q l0 l1 l2 l3 l4 l5 l6 l7 a; exact e_lload d128_200 rfl,
  by intro ls st h Q i; exact e_aload_n d128_202 rfl,
  by intro ls st n sl C Z I L R Q i; exact e_get (g := 10) (s := 24) (ty := 2) d128_203 rfl rfl (inG_ne (by decide)),
  by intro ls st h Q; exact e_iconst d128_206 rfl,
  by intro ls st h Q l0 l1 l2 l3 l4 x; exact e_iload d128_207 rfl,
  by intro ls st h Q x y; exact e_imul d128_209,
  by intro ls st h Q l0 l1 l2 l3 l4 l5 l6 l7 l8 l9 x; exact e_iload d128_210 rfl,
  by intro ls st h Q x y; exact e_iadd d128_212,
  by intro ls st n sl C Z I L R Q i y; exact e_lald d128_213,
  by intro ls st h Q x0 x1; exact e_is (k2 := 105) (as := [.long x0, .long x1]) d128_214 rfl (by decide) rfl rfl (by decide +kernel) (Nat.le_of_ble_eq_true rfl) rfl,
  by intro ls st h Q l0 l1 l2 l3 l4 l5 l6 l7 l8 l9 a; exact e_lstore d128_217 rfl,
  by intro ls st h Q l0 l1 l2 l3 l4 l5 l6 l7 l8 l9 x; exact e_iinc d128_219 rfl rfl rfl,
  by intro ls st h Q; exact e_goto d128_222 (by decide),
  by intro ls st h Q; exact e_iconst d128_225 rfl,
  by intro ls st h Q l0 l1 l2 l3 l4 l5 l6 l7 l8 l9 l10 x; exact e_istore d128_226 rfl,
  by intro ls st h Q l0 l1 l2 l3 l4 l5 l6 l7 l8 l9 x; exact e_iload d128_228 rfl,
  by intro ls st h Q; exact e_iconst d128_230 rfl,
  by intro ls st h Q x y; exact e_ic d128_231 (by decide) c_ge,
  by intro ls st h Q l0 l1 l2 l3 l4 l5 l6 l7 a; exact e_lload d128_234 rfl,
  by intro ls st h Q; exact e_lconst d128_236 rfl,
  by intro ls st h Q a b; exact e_lcmp d128_237⟩
set_option maxRecDepth 20000 in
theorem S128_6 : (∀ (ls : Lo) (st : List Value) (h : Hp) (Q : Option Value → Hp → Prop) (x : Int32), Wp 128 238 (ls) (.int x :: st) h Q ↔ Br 128 264 241 ls st h Q (x ≤ 0)) ∧
  (∀ (ls : Lo) (st : List Value) (h : Hp) (Q : Option Value → Hp → Prop)  (i : Nat), Wp 128 241 (some (.ref i) :: ls) (st) h Q ↔ Wp 128 242 (some (.ref i) :: ls) (.ref i :: st) h Q) ∧
  (∀ (ls : Lo) (st : List Value) (n sl : Nat) (C Z : Nat → Nat) (I : Nat → Nat → Int32) (L : Nat → Nat → Int64) (R : Nat → Nat → Nat) (Q : Option Value → Hp → Prop) (i : Nat), Wp 128 242 (ls) (.ref i :: st) (n, sl, C, Z, I, L, R) Q ↔ (C i = 11 ∧ Wp 128 245 (ls) (.ref (R i 24) :: st) (n, sl, C, Z, I, L, R) Q)) ∧
  (∀ (ls : Lo) (st : List Value) (h : Hp) (Q : Option Value → Hp → Prop), Wp 128 245 (ls) (st) h Q ↔ Wp 128 246 (ls) (.int (3) :: st) h Q) ∧
  (∀ (ls : Lo) (st : List Value) (h : Hp) (Q : Option Value → Hp → Prop) (l0 l1 l2 l3 l4 : Option Value) (x : Int32), Wp 128 246 (l0 :: l1 :: l2 :: l3 :: l4 :: some (.int x) :: ls) (st) h Q ↔ Wp 128 248 (l0 :: l1 :: l2 :: l3 :: l4 :: some (.int x) :: ls) (.int x :: st) h Q) ∧
  (∀ (ls : Lo) (st : List Value) (h : Hp) (Q : Option Value → Hp → Prop) (x y : Int32), Wp 128 248 (ls) (.int y :: .int x :: st) h Q ↔ Wp 128 249 (ls) (.int (x * y) :: st) h Q) ∧
  (∀ (ls : Lo) (st : List Value) (h : Hp) (Q : Option Value → Hp → Prop) (l0 l1 l2 l3 l4 l5 l6 l7 l8 l9 : Option Value) (x : Int32), Wp 128 249 (l0 :: l1 :: l2 :: l3 :: l4 :: l5 :: l6 :: l7 :: l8 :: l9 :: some (.int x) :: ls) (st) h Q ↔ Wp 128 251 (l0 :: l1 :: l2 :: l3 :: l4 :: l5 :: l6 :: l7 :: l8 :: l9 :: some (.int x) :: ls) (.int x :: st) h Q) ∧
  (∀ (ls : Lo) (st : List Value) (h : Hp) (Q : Option Value → Hp → Prop) (x y : Int32), Wp 128 251 (ls) (.int y :: .int x :: st) h Q ↔ Wp 128 252 (ls) (.int (x + y) :: st) h Q) ∧
  (∀ (ls : Lo) (st : List Value) (h : Hp) (Q : Option Value → Hp → Prop) (x : Int32) (i : Nat), Wp 128 252 (ls) (.int x :: .ref i :: st) h Q ↔ Wp 128 253 (ls) (.int x :: .ref i :: .int x :: .ref i :: st) h Q) ∧
  (∀ (ls : Lo) (st : List Value) (h : Hp) (Q : Option Value → Hp → Prop) (a : Int64), Wp 128 252 (ls) (.long a :: st) h Q ↔ Wp 128 253 (ls) (.long a :: .long a :: st) h Q) ∧
  (∀ (ls : Lo) (st : List Value) (n sl : Nat) (C Z : Nat → Nat) (I : Nat → Nat → Int32) (L : Nat → Nat → Int64) (R : Nat → Nat → Nat) (Q : Option Value → Hp → Prop) (i : Nat) (y : Int32), Wp 128 253 (ls) (.int y :: .ref i :: st) (n, sl, C, Z, I, L, R) Q ↔ ((inb y (Z i) = true ∧ C i = 22) ∧ Wp 128 254 (ls) (.long (L i (ix y)) :: st) (n, sl, C, Z, I, L, R) Q)) ∧
  (∀ (ls : Lo) (st : List Value) (h : Hp) (Q : Option Value → Hp → Prop) (l0 l1 l2 l3 l4 l5 l6 l7 : Option Value) (a : Int64), Wp 128 254 (l0 :: l1 :: l2 :: l3 :: l4 :: l5 :: l6 :: l7 :: some (.long a) :: ls) (st) h Q ↔ Wp 128 256 (l0 :: l1 :: l2 :: l3 :: l4 :: l5 :: l6 :: l7 :: some (.long a) :: ls) (.long a :: st) h Q) ∧
  (∀ (ls : Lo) (st : List Value) (h : Hp) (Q : Option Value → Hp → Prop) (a b : Int64), Wp 128 256 (ls) (.long b :: .long a :: st) h Q ↔ (¬ b = 0 ∧ Wp 128 257 (ls) (.long (a / b) :: st) h Q)) ∧
  (∀ (ls : Lo) (st : List Value) (n sl : Nat) (C Z : Nat → Nat) (I : Nat → Nat → Int32) (L : Nat → Nat → Int64) (R : Nat → Nat → Nat) (Q : Option Value → Hp → Prop) (i : Nat) (y : Int32) (a : Int64), Wp 128 257 (ls) (.long a :: .int y :: .ref i :: st) (n, sl, C, Z, I, L, R) Q ↔ ((inb y (Z i) = true ∧ C i = 22) ∧ Wp 128 258 (ls) (st) (n, sl, C, Z, I, u2 L i (ix y) a, R) Q)) ∧
  (∀ (ls : Lo) (st : List Value) (h : Hp) (Q : Option Value → Hp → Prop) (l0 l1 l2 l3 l4 l5 l6 l7 l8 l9 : Option Value) (x : Int32), Wp 128 258 (l0 :: l1 :: l2 :: l3 :: l4 :: l5 :: l6 :: l7 :: l8 :: l9 :: some (.int x) :: ls) (st) h Q ↔ Wp 128 261 (l0 :: l1 :: l2 :: l3 :: l4 :: l5 :: l6 :: l7 :: l8 :: clr l9 :: some (.int (x + (1))) :: ls) (st) h Q) ∧
  (∀ (ls : Lo) (st : List Value) (h : Hp) (Q : Option Value → Hp → Prop), Wp 128 261 (ls) (st) h Q ↔ Wp 128 228 (ls) (st) h Q) ∧
  (∀ (ls : Lo) (st : List Value) (h : Hp) (Q : Option Value → Hp → Prop) (l0 l1 l2 l3 l4 : Option Value) (x : Int32), Wp 128 264 (l0 :: l1 :: l2 :: l3 :: l4 :: some (.int x) :: ls) (st) h Q ↔ Wp 128 267 (l0 :: l1 :: l2 :: l3 :: clr l4 :: some (.int (x + (1))) :: ls) (st) h Q) ∧
  (∀ (ls : Lo) (st : List Value) (h : Hp) (Q : Option Value → Hp → Prop), Wp 128 267 (ls) (st) h Q ↔ Wp 128 119 (ls) (st) h Q) ∧
  (∀ (ls : Lo) (st : List Value) (h : Hp) (Q : Option Value → Hp → Prop) (l0 l1 : Option Value) (x : Int32), Wp 128 270 (l0 :: l1 :: some (.int x) :: ls) (st) h Q ↔ Wp 128 273 (l0 :: clr l1 :: some (.int (x + (1))) :: ls) (st) h Q) ∧
  (∀ (ls : Lo) (st : List Value) (h : Hp) (Q : Option Value → Hp → Prop) (l0 l1 l2 : Option Value) (x : Int32), Wp 128 273 (l0 :: l1 :: l2 :: some (.int x) :: ls) (st) h Q ↔ Wp 128 276 (l0 :: l1 :: clr l2 :: some (.int (x + (1))) :: ls) (st) h Q) ∧
  (∀ (ls : Lo) (st : List Value) (h : Hp) (Q : Option Value → Hp → Prop), Wp 128 276 (ls) (st) h Q ↔ Wp 128 4 (ls) (st) h Q) ∧
  (∀ (ls : Lo) (st : List Value) (h : Hp) (Q : Option Value → Hp → Prop) (l0 l1 : Option Value) (x : Int32), Wp 128 279 (l0 :: l1 :: some (.int x) :: ls) (st) h Q ↔ Wp 128 280 (l0 :: l1 :: some (.int x) :: ls) (.int x :: st) h Q) ∧
  (∀ (ls : Lo) (h : Hp) (Q : Option Value → Hp → Prop) (x : Int32), Wp 128 280 (ls) ([.int x]) h Q ↔ Q (some (.int x)) h) := ⟨by intro ls st h Q x; exact e_if d128_238 (by decide) c_le,
  by intro ls st h Q i; exact e_aload_n d128_241 rfl,
  by intro ls st n sl C Z I L R Q i; exact e_get (g := 10) (s := 24) (ty := 2) d128_242 rfl rfl (inG_ne (by decide)),
  by intro ls st h Q; exact e_iconst d128_245 rfl,
  by intro ls st h Q l0 l1 l2 l3 l4 x; exact e_iload d128_246 rfl,
  by intro ls st h Q x y; exact e_imul d128_248,
  by intro ls st h Q l0 l1 l2 l3 l4 l5 l6 l7 l8 l9 x; exact e_iload d128_249 rfl,
  by intro ls st h Q x y; exact e_iadd d128_251,
  by intro ls st h Q x i; exact e_dup2R d128_252,
  by intro ls st h Q a; exact e_dup2L d128_252,
  by intro ls st n sl C Z I L R Q i y; exact e_lald d128_253,
  by intro ls st h Q l0 l1 l2 l3 l4 l5 l6 l7 a; exact e_lload d128_254 rfl,
  by intro ls st h Q a b; exact e_ldiv d128_256,
  by intro ls st n sl C Z I L R Q i y a; exact e_last d128_257,
  by intro ls st h Q l0 l1 l2 l3 l4 l5 l6 l7 l8 l9 x; exact e_iinc d128_258 rfl rfl rfl,
  by intro ls st h Q; exact e_goto d128_261 (by decide),
  by intro ls st h Q l0 l1 l2 l3 l4 x; exact e_iinc d128_264 rfl rfl rfl,
  by intro ls st h Q; exact e_goto d128_267 (by decide),
  by intro ls st h Q l0 l1 x; exact e_iinc d128_270 rfl rfl rfl,
  by intro ls st h Q l0 l1 l2 x; exact e_iinc d128_273 rfl rfl rfl,
  by intro ls st h Q; exact e_goto d128_276 (by decide),
  by intro ls st h Q l0 l1 x; exact e_iload_n d128_279 rfl,
  by intros; exact e_rI (p := True) d128_280 rfl⟩
theorem d129_0 : decode (byt 129) 0 = .ok (.iconst 0, 1) := by decide +kernel
theorem d129_1 : decode (byt 129) 1 = .ok (.istore_n 3, 1) := by decide +kernel
theorem d129_2 : decode (byt 129) 2 = .ok (.iload_n 3, 1) := by decide +kernel
theorem d129_3 : decode (byt 129) 3 = .ok (.aload_n 0, 1) := by decide +kernel
theorem d129_4 : decode (byt 129) 4 = .ok (.getfield 13, 3) := by decide +kernel
theorem d129_7 : decode (byt 129) 7 = .ok (.iload_n 1, 1) := by decide +kernel
theorem d129_8 : decode (byt 129) 8 = .ok (.iaload, 1) := by decide +kernel
theorem d129_9 : decode (byt 129) 9 = .ok (.if_icmp .ge 26, 3) := by decide +kernel
theorem d129_12 : decode (byt 129) 12 = .ok (.aload_n 0, 1) := by decide +kernel
theorem d129_13 : decode (byt 129) 13 = .ok (.getfield 77, 3) := by decide +kernel
theorem d129_16 : decode (byt 129) 16 = .ok (.iload_n 3, 1) := by decide +kernel
theorem d129_17 : decode (byt 129) 17 = .ok (.aload_n 0, 1) := by decide +kernel
theorem d129_18 : decode (byt 129) 18 = .ok (.getfield 25, 3) := by decide +kernel
theorem d129_21 : decode (byt 129) 21 = .ok (.iconst 3, 1) := by decide +kernel
theorem d129_22 : decode (byt 129) 22 = .ok (.iload_n 1, 1) := by decide +kernel
theorem d129_23 : decode (byt 129) 23 = .ok (.imul, 1) := by decide +kernel
theorem d129_24 : decode (byt 129) 24 = .ok (.iload_n 3, 1) := by decide +kernel
theorem d129_25 : decode (byt 129) 25 = .ok (.iadd, 1) := by decide +kernel
theorem d129_26 : decode (byt 129) 26 = .ok (.iaload, 1) := by decide +kernel
theorem d129_27 : decode (byt 129) 27 = .ok (.i2l, 1) := by decide +kernel
theorem d129_28 : decode (byt 129) 28 = .ok (.lastore, 1) := by decide +kernel
theorem d129_29 : decode (byt 129) 29 = .ok (.iinc 3 1, 3) := by decide +kernel
theorem d129_32 : decode (byt 129) 32 = .ok (.goto (-30), 3) := by decide +kernel
theorem d129_35 : decode (byt 129) 35 = .ok (.iconst 0, 1) := by decide +kernel
theorem d129_36 : decode (byt 129) 36 = .ok (.istore_n 3, 1) := by decide +kernel
theorem d129_37 : decode (byt 129) 37 = .ok (.iload_n 3, 1) := by decide +kernel
theorem d129_38 : decode (byt 129) 38 = .ok (.iload_n 2, 1) := by decide +kernel
theorem d129_39 : decode (byt 129) 39 = .ok (.if_icmp .ge 62, 3) := by decide +kernel
theorem d129_42 : decode (byt 129) 42 = .ok (.iconst 0, 1) := by decide +kernel
theorem d129_43 : decode (byt 129) 43 = .ok (.istore 4, 2) := by decide +kernel
theorem d129_45 : decode (byt 129) 45 = .ok (.iload 4, 2) := by decide +kernel
theorem d129_47 : decode (byt 129) 47 = .ok (.iconst 3, 1) := by decide +kernel
theorem d129_48 : decode (byt 129) 48 = .ok (.if_icmp .ge 42, 3) := by decide +kernel
theorem d129_51 : decode (byt 129) 51 = .ok (.aload_n 0, 1) := by decide +kernel
theorem d129_52 : decode (byt 129) 52 = .ok (.getfield 71, 3) := by decide +kernel
theorem d129_55 : decode (byt 129) 55 = .ok (.iconst 3, 1) := by decide +kernel
theorem d129_56 : decode (byt 129) 56 = .ok (.iload_n 3, 1) := by decide +kernel
theorem d129_57 : decode (byt 129) 57 = .ok (.imul, 1) := by decide +kernel
theorem d129_58 : decode (byt 129) 58 = .ok (.iload 4, 2) := by decide +kernel
theorem d129_60 : decode (byt 129) 60 = .ok (.iadd, 1) := by decide +kernel
theorem d129_61 : decode (byt 129) 61 = .ok (.iload 4, 2) := by decide +kernel
theorem d129_63 : decode (byt 129) 63 = .ok (.aload_n 0, 1) := by decide +kernel
theorem d129_64 : decode (byt 129) 64 = .ok (.getfield 13, 3) := by decide +kernel
theorem d129_67 : decode (byt 129) 67 = .ok (.iload_n 1, 1) := by decide +kernel
theorem d129_68 : decode (byt 129) 68 = .ok (.iaload, 1) := by decide +kernel
theorem d129_69 : decode (byt 129) 69 = .ok (.if_icmp .ge 13, 3) := by decide +kernel
theorem d129_72 : decode (byt 129) 72 = .ok (.aload_n 0, 1) := by decide +kernel
theorem d129_73 : decode (byt 129) 73 = .ok (.getfield 77, 3) := by decide +kernel
theorem d129_76 : decode (byt 129) 76 = .ok (.iload 4, 2) := by decide +kernel
theorem d129_78 : decode (byt 129) 78 = .ok (.laload, 1) := by decide +kernel
theorem d129_79 : decode (byt 129) 79 = .ok (.goto 4, 3) := by decide +kernel
theorem d129_82 : decode (byt 129) 82 = .ok (.lconst 0, 1) := by decide +kernel
theorem d129_83 : decode (byt 129) 83 = .ok (.lastore, 1) := by decide +kernel
theorem d129_84 : decode (byt 129) 84 = .ok (.iinc 4 1, 3) := by decide +kernel
theorem d129_87 : decode (byt 129) 87 = .ok (.goto (-42), 3) := by decide +kernel
theorem d129_90 : decode (byt 129) 90 = .ok (.aload_n 0, 1) := by decide +kernel
theorem d129_91 : decode (byt 129) 91 = .ok (.iload_n 1, 1) := by decide +kernel
theorem d129_92 : decode (byt 129) 92 = .ok (.invokevirtual 128, 3) := by decide +kernel
theorem d129_95 : decode (byt 129) 95 = .ok (.iinc 3 1, 3) := by decide +kernel
theorem d129_98 : decode (byt 129) 98 = .ok (.goto (-61), 3) := by decide +kernel
theorem d129_101 : decode (byt 129) 101 = .ok (.return_, 1) := by decide +kernel
set_option maxRecDepth 20000 in
theorem S129_0 : (∀ (ls : Lo) (st : List Value) (h : Hp) (Q : Option Value → Hp → Prop), Wp 129 0 (ls) (st) h Q ↔ Wp 129 1 (ls) (.int (0) :: st) h Q) ∧
  (∀ (ls : Lo) (st : List Value) (h : Hp) (Q : Option Value → Hp → Prop) (l0 l1 l2 l3 : Option Value) (x : Int32), Wp 129 1 (l0 :: l1 :: l2 :: l3 :: ls) (.int x :: st) h Q ↔ Wp 129 2 (l0 :: l1 :: clr l2 :: some (.int x) :: ls) (st) h Q) ∧
  (∀ (ls : Lo) (st : List Value) (h : Hp) (Q : Option Value → Hp → Prop) (l0 l1 l2 : Option Value) (x : Int32), Wp 129 2 (l0 :: l1 :: l2 :: some (.int x) :: ls) (st) h Q ↔ Wp 129 3 (l0 :: l1 :: l2 :: some (.int x) :: ls) (.int x :: st) h Q) ∧
  (∀ (ls : Lo) (st : List Value) (h : Hp) (Q : Option Value → Hp → Prop)  (i : Nat), Wp 129 3 (some (.ref i) :: ls) (st) h Q ↔ Wp 129 4 (some (.ref i) :: ls) (.ref i :: st) h Q) ∧
  (∀ (ls : Lo) (st : List Value) (n sl : Nat) (C Z : Nat → Nat) (I : Nat → Nat → Int32) (L : Nat → Nat → Int64) (R : Nat → Nat → Nat) (Q : Option Value → Hp → Prop) (i : Nat), Wp 129 4 (ls) (.ref i :: st) (n, sl, C, Z, I, L, R) Q ↔ (C i = 11 ∧ Wp 129 7 (ls) (.ref (R i 2) :: st) (n, sl, C, Z, I, L, R) Q)) ∧
  (∀ (ls : Lo) (st : List Value) (h : Hp) (Q : Option Value → Hp → Prop) (l0 : Option Value) (x : Int32), Wp 129 7 (l0 :: some (.int x) :: ls) (st) h Q ↔ Wp 129 8 (l0 :: some (.int x) :: ls) (.int x :: st) h Q) ∧
  (∀ (ls : Lo) (st : List Value) (n sl : Nat) (C Z : Nat → Nat) (I : Nat → Nat → Int32) (L : Nat → Nat → Int64) (R : Nat → Nat → Nat) (Q : Option Value → Hp → Prop) (i : Nat) (y : Int32), Wp 129 8 (ls) (.int y :: .ref i :: st) (n, sl, C, Z, I, L, R) Q ↔ ((inb y (Z i) = true ∧ C i = 21) ∧ Wp 129 9 (ls) (.int (I i (ix y)) :: st) (n, sl, C, Z, I, L, R) Q)) ∧
  (∀ (ls : Lo) (st : List Value) (h : Hp) (Q : Option Value → Hp → Prop) (x y : Int32), Wp 129 9 (ls) (.int y :: .int x :: st) h Q ↔ Br 129 35 12 ls st h Q (y ≤ x)) ∧
  (∀ (ls : Lo) (st : List Value) (h : Hp) (Q : Option Value → Hp → Prop)  (i : Nat), Wp 129 12 (some (.ref i) :: ls) (st) h Q ↔ Wp 129 13 (some (.ref i) :: ls) (.ref i :: st) h Q) ∧
  (∀ (ls : Lo) (st : List Value) (n sl : Nat) (C Z : Nat → Nat) (I : Nat → Nat → Int32) (L : Nat → Nat → Int64) (R : Nat → Nat → Nat) (Q : Option Value → Hp → Prop) (i : Nat), Wp 129 13 (ls) (.ref i :: st) (n, sl, C, Z, I, L, R) Q ↔ (C i = 11 ∧ Wp 129 16 (ls) (.ref (R i 26) :: st) (n, sl, C, Z, I, L, R) Q)) ∧
  (∀ (ls : Lo) (st : List Value) (h : Hp) (Q : Option Value → Hp → Prop) (l0 l1 l2 : Option Value) (x : Int32), Wp 129 16 (l0 :: l1 :: l2 :: some (.int x) :: ls) (st) h Q ↔ Wp 129 17 (l0 :: l1 :: l2 :: some (.int x) :: ls) (.int x :: st) h Q) ∧
  (∀ (ls : Lo) (st : List Value) (h : Hp) (Q : Option Value → Hp → Prop)  (i : Nat), Wp 129 17 (some (.ref i) :: ls) (st) h Q ↔ Wp 129 18 (some (.ref i) :: ls) (.ref i :: st) h Q) ∧
  (∀ (ls : Lo) (st : List Value) (n sl : Nat) (C Z : Nat → Nat) (I : Nat → Nat → Int32) (L : Nat → Nat → Int64) (R : Nat → Nat → Nat) (Q : Option Value → Hp → Prop) (i : Nat), Wp 129 18 (ls) (.ref i :: st) (n, sl, C, Z, I, L, R) Q ↔ (C i = 11 ∧ Wp 129 21 (ls) (.ref (R i 6) :: st) (n, sl, C, Z, I, L, R) Q)) ∧
  (∀ (ls : Lo) (st : List Value) (h : Hp) (Q : Option Value → Hp → Prop), Wp 129 21 (ls) (st) h Q ↔ Wp 129 22 (ls) (.int (3) :: st) h Q) ∧
  (∀ (ls : Lo) (st : List Value) (h : Hp) (Q : Option Value → Hp → Prop) (l0 : Option Value) (x : Int32), Wp 129 22 (l0 :: some (.int x) :: ls) (st) h Q ↔ Wp 129 23 (l0 :: some (.int x) :: ls) (.int x :: st) h Q) ∧
  (∀ (ls : Lo) (st : List Value) (h : Hp) (Q : Option Value → Hp → Prop) (x y : Int32), Wp 129 23 (ls) (.int y :: .int x :: st) h Q ↔ Wp 129 24 (ls) (.int (x * y) :: st) h Q) ∧
  (∀ (ls : Lo) (st : List Value) (h : Hp) (Q : Option Value → Hp → Prop) (l0 l1 l2 : Option Value) (x : Int32), Wp 129 24 (l0 :: l1 :: l2 :: some (.int x) :: ls) (st) h Q ↔ Wp 129 25 (l0 :: l1 :: l2 :: some (.int x) :: ls) (.int x :: st) h Q) ∧
  (∀ (ls : Lo) (st : List Value) (h : Hp) (Q : Option Value → Hp → Prop) (x y : Int32), Wp 129 25 (ls) (.int y :: .int x :: st) h Q ↔ Wp 129 26 (ls) (.int (x + y) :: st) h Q) ∧
  (∀ (ls : Lo) (st : List Value) (n sl : Nat) (C Z : Nat → Nat) (I : Nat → Nat → Int32) (L : Nat → Nat → Int64) (R : Nat → Nat → Nat) (Q : Option Value → Hp → Prop) (i : Nat) (y : Int32), Wp 129 26 (ls) (.int y :: .ref i :: st) (n, sl, C, Z, I, L, R) Q ↔ ((inb y (Z i) = true ∧ C i = 21) ∧ Wp 129 27 (ls) (.int (I i (ix y)) :: st) (n, sl, C, Z, I, L, R) Q)) ∧
  (∀ (ls : Lo) (st : List Value) (h : Hp) (Q : Option Value → Hp → Prop) (x : Int32), Wp 129 27 (ls) (.int x :: st) h Q ↔ Wp 129 28 (ls) (.long x.toInt64 :: st) h Q) ∧
  (∀ (ls : Lo) (st : List Value) (n sl : Nat) (C Z : Nat → Nat) (I : Nat → Nat → Int32) (L : Nat → Nat → Int64) (R : Nat → Nat → Nat) (Q : Option Value → Hp → Prop) (i : Nat) (y : Int32) (a : Int64), Wp 129 28 (ls) (.long a :: .int y :: .ref i :: st) (n, sl, C, Z, I, L, R) Q ↔ ((inb y (Z i) = true ∧ C i = 22) ∧ Wp 129 29 (ls) (st) (n, sl, C, Z, I, u2 L i (ix y) a, R) Q)) ∧
  (∀ (ls : Lo) (st : List Value) (h : Hp) (Q : Option Value → Hp → Prop) (l0 l1 l2 : Option Value) (x : Int32), Wp 129 29 (l0 :: l1 :: l2 :: some (.int x) :: ls) (st) h Q ↔ Wp 129 32 (l0 :: l1 :: clr l2 :: some (.int (x + (1))) :: ls) (st) h Q) ∧
  (∀ (ls : Lo) (st : List Value) (h : Hp) (Q : Option Value → Hp → Prop), Wp 129 32 (ls) (st) h Q ↔ Wp 129 2 (ls) (st) h Q) ∧
  (∀ (ls : Lo) (st : List Value) (h : Hp) (Q : Option Value → Hp → Prop), Wp 129 35 (ls) (st) h Q ↔ Wp 129 36 (ls) (.int (0) :: st) h Q) ∧
  (∀ (ls : Lo) (st : List Value) (h : Hp) (Q : Option Value → Hp → Prop) (l0 l1 l2 l3 : Option Value) (x : Int32), Wp 129 36 (l0 :: l1 :: l2 :: l3 :: ls) (.int x :: st) h Q ↔ Wp 129 37 (l0 :: l1 :: clr l2 :: some (.int x) :: ls) (st) h Q) := ⟨by intro ls st h Q; exact e_iconst d129_0 rfl,
  by intro ls st h Q l0 l1 l2 l3 x; exact e_istore_n d129_1 rfl,
  by intro ls st h Q l0 l1 l2 x; exact e_iload_n d129_2 rfl,
  by intro ls st h Q i; exact e_aload_n d129_3 rfl,
  by intro ls st n sl C Z I L R Q i; exact e_get (g := 10) (s := 2) (ty := 2) d129_4 rfl rfl (inG_ne (by decide)),
  by intro ls st h Q l0 x; exact e_iload_n d129_7 rfl,
  by intro ls st n sl C Z I L R Q i y; exact e_iald d129_8,
  by intro ls st h Q x y; exact e_ic d129_9 (by decide) c_ge,
  by intro ls st h Q i; exact e_aload_n d129_12 rfl,
  by intro ls st n sl C Z I L R Q i; exact e_get (g := 10) (s := 26) (ty := 2) d129_13 rfl rfl (inG_ne (by decide)),
  by intro ls st h Q l0 l1 l2 x; exact e_iload_n d129_16 rfl,
  by intro ls st h Q i; exact e_aload_n d129_17 rfl,
  by intro ls st n sl C Z I L R Q i; exact e_get (g := 10) (s := 6) (ty := 2) d129_18 rfl rfl (inG_ne (by decide)),
  by intro ls st h Q; exact e_iconst d129_21 rfl,
  by intro ls st h Q l0 x; exact e_iload_n d129_22 rfl,
  by intro ls st h Q x y; exact e_imul d129_23,
  by intro ls st h Q l0 l1 l2 x; exact e_iload_n d129_24 rfl,
  by intro ls st h Q x y; exact e_iadd d129_25,
  by intro ls st n sl C Z I L R Q i y; exact e_iald d129_26,
  by intro ls st h Q x; exact e_i2l d129_27,
  by intro ls st n sl C Z I L R Q i y a; exact e_last d129_28,
  by intro ls st h Q l0 l1 l2 x; exact e_iinc d129_29 rfl rfl rfl,
  by intro ls st h Q; exact e_goto d129_32 (by decide),
  by intro ls st h Q; exact e_iconst d129_35 rfl,
  by intro ls st h Q l0 l1 l2 l3 x; exact e_istore_n d129_36 rfl⟩
set_option maxRecDepth 20000 in
theorem S129_1 : (∀ (ls : Lo) (st : List Value) (h : Hp) (Q : Option Value → Hp → Prop) (l0 l1 l2 : Option Value) (x : Int32), Wp 129 37 (l0 :: l1 :: l2 :: some (.int x) :: ls) (st) h Q ↔ Wp 129 38 (l0 :: l1 :: l2 :: some (.int x) :: ls) (.int x :: st) h Q) ∧
  (∀ (ls : Lo) (st : List Value) (h : Hp) (Q : Option Value → Hp → Prop) (l0 l1 : Option Value) (x : Int32), Wp 129 38 (l0 :: l1 :: some (.int x) :: ls) (st) h Q ↔ Wp 129 39 (l0 :: l1 :: some (.int x) :: ls) (.int x :: st) h Q) ∧
  (∀ (ls : Lo) (st : List Value) (h : Hp) (Q : Option Value → Hp → Prop) (x y : Int32), Wp 129 39 (ls) (.int y :: .int x :: st) h Q ↔ Br 129 101 42 ls st h Q (y ≤ x)) ∧
  (∀ (ls : Lo) (st : List Value) (h : Hp) (Q : Option Value → Hp → Prop), Wp 129 42 (ls) (st) h Q ↔ Wp 129 43 (ls) (.int (0) :: st) h Q) ∧
  (∀ (ls : Lo) (st : List Value) (h : Hp) (Q : Option Value → Hp → Prop) (l0 l1 l2 l3 l4 : Option Value) (x : Int32), Wp 129 43 (l0 :: l1 :: l2 :: l3 :: l4 :: ls) (.int x :: st) h Q ↔ Wp 129 45 (l0 :: l1 :: l2 :: clr l3 :: some (.int x) :: ls) (st) h Q) ∧
  (∀ (ls : Lo) (st : List Value) (h : Hp) (Q : Option Value → Hp → Prop) (l0 l1 l2 l3 : Option Value) (x : Int32), Wp 129 45 (l0 :: l1 :: l2 :: l3 :: some (.int x) :: ls) (st) h Q ↔ Wp 129 47 (l0 :: l1 :: l2 :: l3 :: some (.int x) :: ls) (.int x :: st) h Q) ∧
  (∀ (ls : Lo) (st : List Value) (h : Hp) (Q : Option Value → Hp → Prop), Wp 129 47 (ls) (st) h Q ↔ Wp 129 48 (ls) (.int (3) :: st) h Q) ∧
  (∀ (ls : Lo) (st : List Value) (h : Hp) (Q : Option Value → Hp → Prop) (x y : Int32), Wp 129 48 (ls) (.int y :: .int x :: st) h Q ↔ Br 129 90 51 ls st h Q (y ≤ x)) ∧
  (∀ (ls : Lo) (st : List Value) (h : Hp) (Q : Option Value → Hp → Prop)  (i : Nat), Wp 129 51 (some (.ref i) :: ls) (st) h Q ↔ Wp 129 52 (some (.ref i) :: ls) (.ref i :: st) h Q) ∧
  (∀ (ls : Lo) (st : List Value) (n sl : Nat) (C Z : Nat → Nat) (I : Nat → Nat → Int32) (L : Nat → Nat → Int64) (R : Nat → Nat → Nat) (Q : Option Value → Hp → Prop) (i : Nat), Wp 129 52 (ls) (.ref i :: st) (n, sl, C, Z, I, L, R) Q ↔ (C i = 11 ∧ Wp 129 55 (ls) (.ref (R i 24) :: st) (n, sl, C, Z, I, L, R) Q)) ∧
  (∀ (ls : Lo) (st : List Value) (h : Hp) (Q : Option Value → Hp → Prop), Wp 129 55 (ls) (st) h Q ↔ Wp 129 56 (ls) (.int (3) :: st) h Q) ∧
  (∀ (ls : Lo) (st : List Value) (h : Hp) (Q : Option Value → Hp → Prop) (l0 l1 l2 : Option Value) (x : Int32), Wp 129 56 (l0 :: l1 :: l2 :: some (.int x) :: ls) (st) h Q ↔ Wp 129 57 (l0 :: l1 :: l2 :: some (.int x) :: ls) (.int x :: st) h Q) ∧
  (∀ (ls : Lo) (st : List Value) (h : Hp) (Q : Option Value → Hp → Prop) (x y : Int32), Wp 129 57 (ls) (.int y :: .int x :: st) h Q ↔ Wp 129 58 (ls) (.int (x * y) :: st) h Q) ∧
  (∀ (ls : Lo) (st : List Value) (h : Hp) (Q : Option Value → Hp → Prop) (l0 l1 l2 l3 : Option Value) (x : Int32), Wp 129 58 (l0 :: l1 :: l2 :: l3 :: some (.int x) :: ls) (st) h Q ↔ Wp 129 60 (l0 :: l1 :: l2 :: l3 :: some (.int x) :: ls) (.int x :: st) h Q) ∧
  (∀ (ls : Lo) (st : List Value) (h : Hp) (Q : Option Value → Hp → Prop) (x y : Int32), Wp 129 60 (ls) (.int y :: .int x :: st) h Q ↔ Wp 129 61 (ls) (.int (x + y) :: st) h Q) ∧
  (∀ (ls : Lo) (st : List Value) (h : Hp) (Q : Option Value → Hp → Prop) (l0 l1 l2 l3 : Option Value) (x : Int32), Wp 129 61 (l0 :: l1 :: l2 :: l3 :: some (.int x) :: ls) (st) h Q ↔ Wp 129 63 (l0 :: l1 :: l2 :: l3 :: some (.int x) :: ls) (.int x :: st) h Q) ∧
  (∀ (ls : Lo) (st : List Value) (h : Hp) (Q : Option Value → Hp → Prop)  (i : Nat), Wp 129 63 (some (.ref i) :: ls) (st) h Q ↔ Wp 129 64 (some (.ref i) :: ls) (.ref i :: st) h Q) ∧
  (∀ (ls : Lo) (st : List Value) (n sl : Nat) (C Z : Nat → Nat) (I : Nat → Nat → Int32) (L : Nat → Nat → Int64) (R : Nat → Nat → Nat) (Q : Option Value → Hp → Prop) (i : Nat), Wp 129 64 (ls) (.ref i :: st) (n, sl, C, Z, I, L, R) Q ↔ (C i = 11 ∧ Wp 129 67 (ls) (.ref (R i 2) :: st) (n, sl, C, Z, I, L, R) Q)) ∧
  (∀ (ls : Lo) (st : List Value) (h : Hp) (Q : Option Value → Hp → Prop) (l0 : Option Value) (x : Int32), Wp 129 67 (l0 :: some (.int x) :: ls) (st) h Q ↔ Wp 129 68 (l0 :: some (.int x) :: ls) (.int x :: st) h Q) ∧
  (∀ (ls : Lo) (st : List Value) (n sl : Nat) (C Z : Nat → Nat) (I : Nat → Nat → Int32) (L : Nat → Nat → Int64) (R : Nat → Nat → Nat) (Q : Option Value → Hp → Prop) (i : Nat) (y : Int32), Wp 129 68 (ls) (.int y :: .ref i :: st) (n, sl, C, Z, I, L, R) Q ↔ ((inb y (Z i) = true ∧ C i = 21) ∧ Wp 129 69 (ls) (.int (I i (ix y)) :: st) (n, sl, C, Z, I, L, R) Q)) ∧
  (∀ (ls : Lo) (st : List Value) (h : Hp) (Q : Option Value → Hp → Prop) (x y : Int32), Wp 129 69 (ls) (.int y :: .int x :: st) h Q ↔ Br 129 82 72 ls st h Q (y ≤ x)) ∧
  (∀ (ls : Lo) (st : List Value) (h : Hp) (Q : Option Value → Hp → Prop)  (i : Nat), Wp 129 72 (some (.ref i) :: ls) (st) h Q ↔ Wp 129 73 (some (.ref i) :: ls) (.ref i :: st) h Q) ∧
  (∀ (ls : Lo) (st : List Value) (n sl : Nat) (C Z : Nat → Nat) (I : Nat → Nat → Int32) (L : Nat → Nat → Int64) (R : Nat → Nat → Nat) (Q : Option Value → Hp → Prop) (i : Nat), Wp 129 73 (ls) (.ref i :: st) (n, sl, C, Z, I, L, R) Q ↔ (C i = 11 ∧ Wp 129 76 (ls) (.ref (R i 26) :: st) (n, sl, C, Z, I, L, R) Q)) ∧
  (∀ (ls : Lo) (st : List Value) (h : Hp) (Q : Option Value → Hp → Prop) (l0 l1 l2 l3 : Option Value) (x : Int32), Wp 129 76 (l0 :: l1 :: l2 :: l3 :: some (.int x) :: ls) (st) h Q ↔ Wp 129 78 (l0 :: l1 :: l2 :: l3 :: some (.int x) :: ls) (.int x :: st) h Q) ∧
  (∀ (ls : Lo) (st : List Value) (n sl : Nat) (C Z : Nat → Nat) (I : Nat → Nat → Int32) (L : Nat → Nat → Int64) (R : Nat → Nat → Nat) (Q : Option Value → Hp → Prop) (i : Nat) (y : Int32), Wp 129 78 (ls) (.int y :: .ref i :: st) (n, sl, C, Z, I, L, R) Q ↔ ((inb y (Z i) = true ∧ C i = 22) ∧ Wp 129 79 (ls) (.long (L i (ix y)) :: st) (n, sl, C, Z, I, L, R) Q)) := ⟨by intro ls st h Q l0 l1 l2 x; exact e_iload_n d129_37 rfl,
  by intro ls st h Q l0 l1 x; exact e_iload_n d129_38 rfl,
  by intro ls st h Q x y; exact e_ic d129_39 (by decide) c_ge,
  by intro ls st h Q; exact e_iconst d129_42 rfl,
  by intro ls st h Q l0 l1 l2 l3 l4 x; exact e_istore d129_43 rfl,
  by intro ls st h Q l0 l1 l2 l3 x; exact e_iload d129_45 rfl,
  by intro ls st h Q; exact e_iconst d129_47 rfl,
  by intro ls st h Q x y; exact e_ic d129_48 (by decide) c_ge,
  by intro ls st h Q i; exact e_aload_n d129_51 rfl,
  by intro ls st n sl C Z I L R Q i; exact e_get (g := 10) (s := 24) (ty := 2) d129_52 rfl rfl (inG_ne (by decide)),
  by intro ls st h Q; exact e_iconst d129_55 rfl,
  by intro ls st h Q l0 l1 l2 x; exact e_iload_n d129_56 rfl,
  by intro ls st h Q x y; exact e_imul d129_57,
  by intro ls st h Q l0 l1 l2 l3 x; exact e_iload d129_58 rfl,
  by intro ls st h Q x y; exact e_iadd d129_60,
  by intro ls st h Q l0 l1 l2 l3 x; exact e_iload d129_61 rfl,
  by intro ls st h Q i; exact e_aload_n d129_63 rfl,
  by intro ls st n sl C Z I L R Q i; exact e_get (g := 10) (s := 2) (ty := 2) d129_64 rfl rfl (inG_ne (by decide)),
  by intro ls st h Q l0 x; exact e_iload_n d129_67 rfl,
  by intro ls st n sl C Z I L R Q i y; exact e_iald d129_68,
  by intro ls st h Q x y; exact e_ic d129_69 (by decide) c_ge,
  by intro ls st h Q i; exact e_aload_n d129_72 rfl,
  by intro ls st n sl C Z I L R Q i; exact e_get (g := 10) (s := 26) (ty := 2) d129_73 rfl rfl (inG_ne (by decide)),
  by intro ls st h Q l0 l1 l2 l3 x; exact e_iload d129_76 rfl,
  by intro ls st n sl C Z I L R Q i y; exact e_lald d129_78⟩
set_option maxRecDepth 20000 in
theorem S129_2 : (∀ (ls : Lo) (st : List Value) (h : Hp) (Q : Option Value → Hp → Prop), Wp 129 79 (ls) (st) h Q ↔ Wp 129 83 (ls) (st) h Q) ∧
  (∀ (ls : Lo) (st : List Value) (h : Hp) (Q : Option Value → Hp → Prop), Wp 129 82 (ls) (st) h Q ↔ Wp 129 83 (ls) (.long 0 :: st) h Q) ∧
  (∀ (ls : Lo) (st : List Value) (n sl : Nat) (C Z : Nat → Nat) (I : Nat → Nat → Int32) (L : Nat → Nat → Int64) (R : Nat → Nat → Nat) (Q : Option Value → Hp → Prop) (i : Nat) (y : Int32) (a : Int64), Wp 129 83 (ls) (.long a :: .int y :: .ref i :: st) (n, sl, C, Z, I, L, R) Q ↔ ((inb y (Z i) = true ∧ C i = 22) ∧ Wp 129 84 (ls) (st) (n, sl, C, Z, I, u2 L i (ix y) a, R) Q)) ∧
  (∀ (ls : Lo) (st : List Value) (h : Hp) (Q : Option Value → Hp → Prop) (l0 l1 l2 l3 : Option Value) (x : Int32), Wp 129 84 (l0 :: l1 :: l2 :: l3 :: some (.int x) :: ls) (st) h Q ↔ Wp 129 87 (l0 :: l1 :: l2 :: clr l3 :: some (.int (x + (1))) :: ls) (st) h Q) ∧
  (∀ (ls : Lo) (st : List Value) (h : Hp) (Q : Option Value → Hp → Prop), Wp 129 87 (ls) (st) h Q ↔ Wp 129 45 (ls) (st) h Q) ∧
  (∀ (ls : Lo) (st : List Value) (h : Hp) (Q : Option Value → Hp → Prop)  (i : Nat), Wp 129 90 (some (.ref i) :: ls) (st) h Q ↔ Wp 129 91 (some (.ref i) :: ls) (.ref i :: st) h Q) ∧
  (∀ (ls : Lo) (st : List Value) (h : Hp) (Q : Option Value → Hp → Prop) (l0 : Option Value) (x : Int32), Wp 129 91 (l0 :: some (.int x) :: ls) (st) h Q ↔ Wp 129 92 (l0 :: some (.int x) :: ls) (.int x :: st) h Q) ∧
  (∀ (ls : Lo) (st : List Value) (n sl : Nat) (C Z : Nat → Nat) (I : Nat → Nat → Int32) (L : Nat → Nat → Int64) (R : Nat → Nat → Nat) (Q : Option Value → Hp → Prop) (x0 : Int32) (i : Nat), C i = 11 → (Wp 129 92 (ls) (.int x0 :: .ref i :: st) (n, sl, C, Z, I, L, R) Q ↔ (wsum st ≤ 8 ∧ Call 123 [some (.ref i), some (.int x0), none, none] (n, sl, C, Z, I, L, R) 129 95 ls st Q))) ∧
  (∀ (ls : Lo) (st : List Value) (h : Hp) (Q : Option Value → Hp → Prop) (l0 l1 l2 : Option Value) (x : Int32), Wp 129 95 (l0 :: l1 :: l2 :: some (.int x) :: ls) (st) h Q ↔ Wp 129 98 (l0 :: l1 :: clr l2 :: some (.int (x + (1))) :: ls) (st) h Q) ∧
  (∀ (ls : Lo) (st : List Value) (h : Hp) (Q : Option Value → Hp → Prop), Wp 129 98 (ls) (st) h Q ↔ Wp 129 37 (ls) (st) h Q) ∧
  (∀ (ls : Lo) (h : Hp) (Q : Option Value → Hp → Prop), Wp 129 101 (ls) ([]) h Q ↔ Q none h) := ⟨by intro ls st h Q; exact e_goto d129_79 (by decide),
  by intro ls st h Q; exact e_lconst d129_82 rfl,
  by intro ls st n sl C Z I L R Q i y a; exact e_last d129_83,
  by intro ls st h Q l0 l1 l2 l3 x; exact e_iinc d129_84 rfl rfl rfl,
  by intro ls st h Q; exact e_goto d129_87 (by decide),
  by intro ls st h Q i; exact e_aload_n d129_90 rfl,
  by intro ls st h Q l0 x; exact e_iload_n d129_91 rfl,
  by intro ls st n sl C Z I L R Q x0 i hh; exact e_iv (k2 := 123) (c := 11) (as := [.int x0]) d129_92 rfl (by decide) rfl rfl (by decide +kernel) (Nat.le_of_ble_eq_true rfl) rfl hh,
  by intro ls st h Q l0 l1 l2 x; exact e_iinc d129_95 rfl rfl rfl,
  by intro ls st h Q; exact e_goto d129_98 (by decide),
  by intros; exact e_rV d129_101 rfl⟩
theorem d130_0 : decode (byt 130) 0 = .ok (.aload_n 0, 1) := by decide +kernel
theorem d130_1 : decode (byt 130) 1 = .ok (.iload_n 1, 1) := by decide +kernel
theorem d130_2 : decode (byt 130) 2 = .ok (.aload_n 0, 1) := by decide +kernel
theorem d130_3 : decode (byt 130) 3 = .ok (.getfield 13, 3) := by decide +kernel
theorem d130_6 : decode (byt 130) 6 = .ok (.iload_n 1, 1) := by decide +kernel
theorem d130_7 : decode (byt 130) 7 = .ok (.iaload, 1) := by decide +kernel
theorem d130_8 : decode (byt 130) 8 = .ok (.invokevirtual 142, 3) := by decide +kernel
theorem d130_11 : decode (byt 130) 11 = .ok (.aload_n 0, 1) := by decide +kernel
theorem d130_12 : decode (byt 130) 12 = .ok (.aload_n 0, 1) := by decide +kernel
theorem d130_13 : decode (byt 130) 13 = .ok (.getfield 13, 3) := by decide +kernel
theorem d130_16 : decode (byt 130) 16 = .ok (.iload_n 1, 1) := by decide +kernel
theorem d130_17 : decode (byt 130) 17 = .ok (.iaload, 1) := by decide +kernel
theorem d130_18 : decode (byt 130) 18 = .ok (.invokevirtual 146, 3) := by decide +kernel
theorem d130_21 : decode (byt 130) 21 = .ok (.ireturn, 1) := by decide +kernel
set_option maxRecDepth 20000 in
theorem S130_0 : (∀ (ls : Lo) (st : List Value) (h : Hp) (Q : Option Value → Hp → Prop)  (i : Nat), Wp 130 0 (some (.ref i) :: ls) (st) h Q ↔ Wp 130 1 (some (.ref i) :: ls) (.ref i :: st) h Q) ∧
  (∀ (ls : Lo) (st : List Value) (h : Hp) (Q : Option Value → Hp → Prop) (l0 : Option Value) (x : Int32), Wp 130 1 (l0 :: some (.int x) :: ls) (st) h Q ↔ Wp 130 2 (l0 :: some (.int x) :: ls) (.int x :: st) h Q) ∧
  (∀ (ls : Lo) (st : List Value) (h : Hp) (Q : Option Value → Hp → Prop)  (i : Nat), Wp 130 2 (some (.ref i) :: ls) (st) h Q ↔ Wp 130 3 (some (.ref i) :: ls) (.ref i :: st) h Q) ∧
  (∀ (ls : Lo) (st : List Value) (n sl : Nat) (C Z : Nat → Nat) (I : Nat → Nat → Int32) (L : Nat → Nat → Int64) (R : Nat → Nat → Nat) (Q : Option Value → Hp → Prop) (i : Nat), Wp 130 3 (ls) (.ref i :: st) (n, sl, C, Z, I, L, R) Q ↔ (C i = 11 ∧ Wp 130 6 (ls) (.ref (R i 2) :: st) (n, sl, C, Z, I, L, R) Q)) ∧
  (∀ (ls : Lo) (st : List Value) (h : Hp) (Q : Option Value → Hp → Prop) (l0 : Option Value) (x : Int32), Wp 130 6 (l0 :: some (.int x) :: ls) (st) h Q ↔ Wp 130 7 (l0 :: some (.int x) :: ls) (.int x :: st) h Q) ∧
  (∀ (ls : Lo) (st : List Value) (n sl : Nat) (C Z : Nat → Nat) (I : Nat → Nat → Int32) (L : Nat → Nat → Int64) (R : Nat → Nat → Nat) (Q : Option Value → Hp → Prop) (i : Nat) (y : Int32), Wp 130 7 (ls) (.int y :: .ref i :: st) (n, sl, C, Z, I, L, R) Q ↔ ((inb y (Z i) = true ∧ C i = 21) ∧ Wp 130 8 (ls) (.int (I i (ix y)) :: st) (n, sl, C, Z, I, L, R) Q)) ∧
  (∀ (ls : Lo) (st : List Value) (n sl : Nat) (C Z : Nat → Nat) (I : Nat → Nat → Int32) (L : Nat → Nat → Int64) (R : Nat → Nat → Nat) (Q : Option Value → Hp → Prop) (x0 : Int32) (x1 : Int32) (i : Nat), C i = 11 → (Wp 130 8 (ls) (.int x1 :: .int x0 :: .ref i :: st) (n, sl, C, Z, I, L, R) Q ↔ (wsum st ≤ 8 ∧ Call 129 [some (.ref i), some (.int x0), some (.int x1), none, none] (n, sl, C, Z, I, L, R) 130 11 ls st Q))) ∧
  (∀ (ls : Lo) (st : List Value) (h : Hp) (Q : Option Value → Hp → Prop)  (i : Nat), Wp 130 11 (some (.ref i) :: ls) (st) h Q ↔ Wp 130 12 (some (.ref i) :: ls) (.ref i :: st) h Q) ∧
  (∀ (ls : Lo) (st : List Value) (h : Hp) (Q : Option Value → Hp → Prop)  (i : Nat), Wp 130 12 (some (.ref i) :: ls) (st) h Q ↔ Wp 130 13 (some (.ref i) :: ls) (.ref i :: st) h Q) ∧
  (∀ (ls : Lo) (st : List Value) (n sl : Nat) (C Z : Nat → Nat) (I : Nat → Nat → Int32) (L : Nat → Nat → Int64) (R : Nat → Nat → Nat) (Q : Option Value → Hp → Prop) (i : Nat), Wp 130 13 (ls) (.ref i :: st) (n, sl, C, Z, I, L, R) Q ↔ (C i = 11 ∧ Wp 130 16 (ls) (.ref (R i 2) :: st) (n, sl, C, Z, I, L, R) Q)) ∧
  (∀ (ls : Lo) (st : List Value) (h : Hp) (Q : Option Value → Hp → Prop) (l0 : Option Value) (x : Int32), Wp 130 16 (l0 :: some (.int x) :: ls) (st) h Q ↔ Wp 130 17 (l0 :: some (.int x) :: ls) (.int x :: st) h Q) ∧
  (∀ (ls : Lo) (st : List Value) (n sl : Nat) (C Z : Nat → Nat) (I : Nat → Nat → Int32) (L : Nat → Nat → Int64) (R : Nat → Nat → Nat) (Q : Option Value → Hp → Prop) (i : Nat) (y : Int32), Wp 130 17 (ls) (.int y :: .ref i :: st) (n, sl, C, Z, I, L, R) Q ↔ ((inb y (Z i) = true ∧ C i = 21) ∧ Wp 130 18 (ls) (.int (I i (ix y)) :: st) (n, sl, C, Z, I, L, R) Q)) ∧
  (∀ (ls : Lo) (st : List Value) (n sl : Nat) (C Z : Nat → Nat) (I : Nat → Nat → Int32) (L : Nat → Nat → Int64) (R : Nat → Nat → Nat) (Q : Option Value → Hp → Prop) (x0 : Int32) (i : Nat), C i = 11 → (Wp 130 18 (ls) (.int x0 :: .ref i :: st) (n, sl, C, Z, I, L, R) Q ↔ (wsum st ≤ 8 ∧ Call 128 [some (.ref i), some (.int x0), none, none, none, none, none, none, none, none, none] (n, sl, C, Z, I, L, R) 130 21 ls st Q))) ∧
  (∀ (ls : Lo) (h : Hp) (Q : Option Value → Hp → Prop) (x : Int32), Wp 130 21 (ls) ([.int x]) h Q ↔ Q (some (.int x)) h) := ⟨by intro ls st h Q i; exact e_aload_n d130_0 rfl,
  by intro ls st h Q l0 x; exact e_iload_n d130_1 rfl,
  by intro ls st h Q i; exact e_aload_n d130_2 rfl,
  by intro ls st n sl C Z I L R Q i; exact e_get (g := 10) (s := 2) (ty := 2) d130_3 rfl rfl (inG_ne (by decide)),
  by intro ls st h Q l0 x; exact e_iload_n d130_6 rfl,
  by intro ls st n sl C Z I L R Q i y; exact e_iald d130_7,
  by intro ls st n sl C Z I L R Q x0 x1 i hh; exact e_iv (k2 := 129) (c := 11) (as := [.int x0, .int x1]) d130_8 rfl (by decide) rfl rfl (by decide +kernel) (Nat.le_of_ble_eq_true rfl) rfl hh,
  by intro ls st h Q i; exact e_aload_n d130_11 rfl,
  by intro ls st h Q i; exact e_aload_n d130_12 rfl,
  by intro ls st n sl C Z I L R Q i; exact e_get (g := 10) (s := 2) (ty := 2) d130_13 rfl rfl (inG_ne (by decide)),
  by intro ls st h Q l0 x; exact e_iload_n d130_16 rfl,
  by intro ls st n sl C Z I L R Q i y; exact e_iald d130_17,
  by intro ls st n sl C Z I L R Q x0 i hh; exact e_iv (k2 := 128) (c := 11) (as := [.int x0]) d130_18 rfl (by decide) rfl rfl (by decide +kernel) (Nat.le_of_ble_eq_true rfl) rfl hh,
  by intros; exact e_rI (p := True) d130_21 rfl⟩
theorem d131_0 : decode (byt 131) 0 = .ok (.iconst 0, 1) := by decide +kernel
theorem d131_1 : decode (byt 131) 1 = .ok (.istore_n 2, 1) := by decide +kernel
theorem d131_2 : decode (byt 131) 2 = .ok (.iload_n 2, 1) := by decide +kernel
theorem d131_3 : decode (byt 131) 3 = .ok (.iconst 3, 1) := by decide +kernel
theorem d131_4 : decode (byt 131) 4 = .ok (.if_icmp .ge 40, 3) := by decide +kernel
theorem d131_7 : decode (byt 131) 7 = .ok (.aload_n 0, 1) := by decide +kernel
theorem d131_8 : decode (byt 131) 8 = .ok (.getfield 71, 3) := by decide +kernel
theorem d131_11 : decode (byt 131) 11 = .ok (.iload_n 2, 1) := by decide +kernel
theorem d131_12 : decode (byt 131) 12 = .ok (.iload_n 2, 1) := by decide +kernel
theorem d131_13 : decode (byt 131) 13 = .ok (.aload_n 0, 1) := by decide +kernel
theorem d131_14 : decode (byt 131) 14 = .ok (.getfield 13, 3) := by decide +kernel
theorem d131_17 : decode (byt 131) 17 = .ok (.iload_n 1, 1) := by decide +kernel
theorem d131_18 : decode (byt 131) 18 = .ok (.iaload, 1) := by decide +kernel
theorem d131_19 : decode (byt 131) 19 = .ok (.if_icmp .ge 17, 3) := by decide +kernel
theorem d131_22 : decode (byt 131) 22 = .ok (.aload_n 0, 1) := by decide +kernel
theorem d131_23 : decode (byt 131) 23 = .ok (.getfield 28, 3) := by decide +kernel
theorem d131_26 : decode (byt 131) 26 = .ok (.iconst 3, 1) := by decide +kernel
theorem d131_27 : decode (byt 131) 27 = .ok (.iload_n 1, 1) := by decide +kernel
theorem d131_28 : decode (byt 131) 28 = .ok (.imul, 1) := by decide +kernel
theorem d131_29 : decode (byt 131) 29 = .ok (.iload_n 2, 1) := by decide +kernel
theorem d131_30 : decode (byt 131) 30 = .ok (.iadd, 1) := by decide +kernel
theorem d131_31 : decode (byt 131) 31 = .ok (.iaload, 1) := by decide +kernel
theorem d131_32 : decode (byt 131) 32 = .ok (.i2l, 1) := by decide +kernel
theorem d131_33 : decode (byt 131) 33 = .ok (.goto 4, 3) := by decide +kernel
theorem d131_36 : decode (byt 131) 36 = .ok (.lconst 0, 1) := by decide +kernel
theorem d131_37 : decode (byt 131) 37 = .ok (.lastore, 1) := by decide +kernel
theorem d131_38 : decode (byt 131) 38 = .ok (.iinc 2 1, 3) := by decide +kernel
theorem d131_41 : decode (byt 131) 41 = .ok (.goto (-39), 3) := by decide +kernel
theorem d131_44 : decode (byt 131) 44 = .ok (.iconst 1, 1) := by decide +kernel
theorem d131_45 : decode (byt 131) 45 = .ok (.istore_n 2, 1) := by decide +kernel
theorem d131_46 : decode (byt 131) 46 = .ok (.iload_n 2, 1) := by decide +kernel
theorem d131_47 : decode (byt 131) 47 = .ok (.aload_n 0, 1) := by decide +kernel
theorem d131_48 : decode (byt 131) 48 = .ok (.getfield 13, 3) := by decide +kernel
theorem d131_51 : decode (byt 131) 51 = .ok (.iload_n 1, 1) := by decide +kernel
theorem d131_52 : decode (byt 131) 52 = .ok (.iaload, 1) := by decide +kernel
theorem d131_53 : decode (byt 131) 53 = .ok (.if_icmp .ge 95, 3) := by decide +kernel
theorem d131_56 : decode (byt 131) 56 = .ok (.iconst 0, 1) := by decide +kernel
theorem d131_57 : decode (byt 131) 57 = .ok (.istore_n 3, 1) := by decide +kernel
theorem d131_58 : decode (byt 131) 58 = .ok (.iload_n 3, 1) := by decide +kernel
theorem d131_59 : decode (byt 131) 59 = .ok (.iconst 3, 1) := by decide +kernel
theorem d131_60 : decode (byt 131) 60 = .ok (.if_icmp .ge 82, 3) := by decide +kernel
theorem d131_63 : decode (byt 131) 63 = .ok (.lconst 0, 1) := by decide +kernel
theorem d131_64 : decode (byt 131) 64 = .ok (.lstore 4, 2) := by decide +kernel
theorem d131_66 : decode (byt 131) 66 = .ok (.iconst 0, 1) := by decide +kernel
theorem d131_67 : decode (byt 131) 67 = .ok (.istore 6, 2) := by decide +kernel
theorem d131_69 : decode (byt 131) 69 = .ok (.iload 6, 2) := by decide +kernel
theorem d131_71 : decode (byt 131) 71 = .ok (.aload_n 0, 1) := by decide +kernel
theorem d131_72 : decode (byt 131) 72 = .ok (.getfield 13, 3) := by decide +kernel
theorem d131_75 : decode (byt 131) 75 = .ok (.iload_n 1, 1) := by decide +kernel
theorem d131_76 : decode (byt 131) 76 = .ok (.iaload, 1) := by decide +kernel
theorem d131_77 : decode (byt 131) 77 = .ok (.if_icmp .ge 47, 3) := by decide +kernel
theorem d131_80 : decode (byt 131) 80 = .ok (.iload_n 3, 1) := by decide +kernel
theorem d131_81 : decode (byt 131) 81 = .ok (.aload_n 0, 1) := by decide +kernel
theorem d131_82 : decode (byt 131) 82 = .ok (.getfield 13, 3) := by decide +kernel
theorem d131_85 : decode (byt 131) 85 = .ok (.iload_n 1, 1) := by decide +kernel
theorem d131_86 : decode (byt 131) 86 = .ok (.iaload, 1) := by decide +kernel
theorem d131_87 : decode (byt 131) 87 = .ok (.if_icmp .ge 37, 3) := by decide +kernel
theorem d131_90 : decode (byt 131) 90 = .ok (.lload 4, 2) := by decide +kernel
theorem d131_92 : decode (byt 131) 92 = .ok (.aload_n 0, 1) := by decide +kernel
theorem d131_93 : decode (byt 131) 93 = .ok (.getfield 71, 3) := by decide +kernel
theorem d131_96 : decode (byt 131) 96 = .ok (.iconst 3, 1) := by decide +kernel
theorem d131_97 : decode (byt 131) 97 = .ok (.iload_n 2, 1) := by decide +kernel
theorem d131_98 : decode (byt 131) 98 = .ok (.iconst 1, 1) := by decide +kernel
theorem d131_99 : decode (byt 131) 99 = .ok (.isub, 1) := by decide +kernel
theorem d131_100 : decode (byt 131) 100 = .ok (.imul, 1) := by decide +kernel
theorem d131_101 : decode (byt 131) 101 = .ok (.iload 6, 2) := by decide +kernel
theorem d131_103 : decode (byt 131) 103 = .ok (.iadd, 1) := by decide +kernel
theorem d131_104 : decode (byt 131) 104 = .ok (.laload, 1) := by decide +kernel
theorem d131_105 : decode (byt 131) 105 = .ok (.aload_n 0, 1) := by decide +kernel
theorem d131_106 : decode (byt 131) 106 = .ok (.iload_n 1, 1) := by decide +kernel
theorem d131_107 : decode (byt 131) 107 = .ok (.iload 6, 2) := by decide +kernel
theorem d131_109 : decode (byt 131) 109 = .ok (.iload_n 3, 1) := by decide +kernel
theorem d131_110 : decode (byt 131) 110 = .ok (.invokevirtual 102, 3) := by decide +kernel
theorem d131_113 : decode (byt 131) 113 = .ok (.i2l, 1) := by decide +kernel
theorem d131_114 : decode (byt 131) 114 = .ok (.lmul, 1) := by decide +kernel
theorem d131_115 : decode (byt 131) 115 = .ok (.ladd, 1) := by decide +kernel
theorem d131_116 : decode (byt 131) 116 = .ok (.lstore 4, 2) := by decide +kernel
theorem d131_118 : decode (byt 131) 118 = .ok (.iinc 6 1, 3) := by decide +kernel
theorem d131_121 : decode (byt 131) 121 = .ok (.goto (-52), 3) := by decide +kernel
theorem d131_124 : decode (byt 131) 124 = .ok (.aload_n 0, 1) := by decide +kernel
theorem d131_125 : decode (byt 131) 125 = .ok (.getfield 71, 3) := by decide +kernel
theorem d131_128 : decode (byt 131) 128 = .ok (.iconst 3, 1) := by decide +kernel
theorem d131_129 : decode (byt 131) 129 = .ok (.iload_n 2, 1) := by decide +kernel
theorem d131_130 : decode (byt 131) 130 = .ok (.imul, 1) := by decide +kernel
theorem d131_131 : decode (byt 131) 131 = .ok (.iload_n 3, 1) := by decide +kernel
theorem d131_132 : decode (byt 131) 132 = .ok (.iadd, 1) := by decide +kernel
theorem d131_133 : decode (byt 131) 133 = .ok (.lload 4, 2) := by decide +kernel
theorem d131_135 : decode (byt 131) 135 = .ok (.lastore, 1) := by decide +kernel
theorem d131_136 : decode (byt 131) 136 = .ok (.iinc 3 1, 3) := by decide +kernel
theorem d131_139 : decode (byt 131) 139 = .ok (.goto (-81), 3) := by decide +kernel
theorem d131_142 : decode (byt 131) 142 = .ok (.iinc 2 1, 3) := by decide +kernel
theorem d131_145 : decode (byt 131) 145 = .ok (.goto (-99), 3) := by decide +kernel
theorem d131_148 : decode (byt 131) 148 = .ok (.aload_n 0, 1) := by decide +kernel
theorem d131_149 : decode (byt 131) 149 = .ok (.aload_n 0, 1) := by decide +kernel
theorem d131_150 : decode (byt 131) 150 = .ok (.getfield 13, 3) := by decide +kernel
theorem d131_153 : decode (byt 131) 153 = .ok (.iload_n 1, 1) := by decide +kernel
theorem d131_154 : decode (byt 131) 154 = .ok (.iaload, 1) := by decide +kernel
theorem d131_155 : decode (byt 131) 155 = .ok (.invokevirtual 146, 3) := by decide +kernel
theorem d131_158 : decode (byt 131) 158 = .ok (.ireturn, 1) := by decide +kernel
set_option maxRecDepth 20000 in
theorem S131_0 : (∀ (ls : Lo) (st : List Value) (h : Hp) (Q : Option Value → Hp → Prop), Wp 131 0 (ls) (st) h Q ↔ Wp 131 1 (ls) (.int (0) :: st) h Q) ∧
  (∀ (ls : Lo) (st : List Value) (h : Hp) (Q : Option Value → Hp → Prop) (l0 l1 l2 : Option Value) (x : Int32), Wp 131 1 (l0 :: l1 :: l2 :: ls) (.int x :: st) h Q ↔ Wp 131 2 (l0 :: clr l1 :: some (.int x) :: ls) (st) h Q) ∧
  (∀ (ls : Lo) (st : List Value) (h : Hp) (Q : Option Value → Hp → Prop) (l0 l1 : Option Value) (x : Int32), Wp 131 2 (l0 :: l1 :: some (.int x) :: ls) (st) h Q ↔ Wp 131 3 (l0 :: l1 :: some (.int x) :: ls) (.int x :: st) h Q) ∧
  (∀ (ls : Lo) (st : List Value) (h : Hp) (Q : Option Value → Hp → Prop), Wp 131 3 (ls) (st) h Q ↔ Wp 131 4 (ls) (.int (3) :: st) h Q) ∧
  (∀ (ls : Lo) (st : List Value) (h : Hp) (Q : Option Value → Hp → Prop) (x y : Int32), Wp 131 4 (ls) (.int y :: .int x :: st) h Q ↔ Br 131 44 7 ls st h Q (y ≤ x)) ∧
  (∀ (ls : Lo) (st : List Value) (h : Hp) (Q : Option Value → Hp → Prop)  (i : Nat), Wp 131 7 (some (.ref i) :: ls) (st) h Q ↔ Wp 131 8 (some (.ref i) :: ls) (.ref i :: st) h Q) ∧
  (∀ (ls : Lo) (st : List Value) (n sl : Nat) (C Z : Nat → Nat) (I : Nat → Nat → Int32) (L : Nat → Nat → Int64) (R : Nat → Nat → Nat) (Q : Option Value → Hp → Prop) (i : Nat), Wp 131 8 (ls) (.ref i :: st) (n, sl, C, Z, I, L, R) Q ↔ (C i = 11 ∧ Wp 131 11 (ls) (.ref (R i 24) :: st) (n, sl, C, Z, I, L, R) Q)) ∧
  (∀ (ls : Lo) (st : List Value) (h : Hp) (Q : Option Value → Hp → Prop) (l0 l1 : Option Value) (x : Int32), Wp 131 11 (l0 :: l1 :: some (.int x) :: ls) (st) h Q ↔ Wp 131 12 (l0 :: l1 :: some (.int x) :: ls) (.int x :: st) h Q) ∧
  (∀ (ls : Lo) (st : List Value) (h : Hp) (Q : Option Value → Hp → Prop) (l0 l1 : Option Value) (x : Int32), Wp 131 12 (l0 :: l1 :: some (.int x) :: ls) (st) h Q ↔ Wp 131 13 (l0 :: l1 :: some (.int x) :: ls) (.int x :: st) h Q) ∧
  (∀ (ls : Lo) (st : List Value) (h : Hp) (Q : Option Value → Hp → Prop)  (i : Nat), Wp 131 13 (some (.ref i) :: ls) (st) h Q ↔ Wp 131 14 (some (.ref i) :: ls) (.ref i :: st) h Q) ∧
  (∀ (ls : Lo) (st : List Value) (n sl : Nat) (C Z : Nat → Nat) (I : Nat → Nat → Int32) (L : Nat → Nat → Int64) (R : Nat → Nat → Nat) (Q : Option Value → Hp → Prop) (i : Nat), Wp 131 14 (ls) (.ref i :: st) (n, sl, C, Z, I, L, R) Q ↔ (C i = 11 ∧ Wp 131 17 (ls) (.ref (R i 2) :: st) (n, sl, C, Z, I, L, R) Q)) ∧
  (∀ (ls : Lo) (st : List Value) (h : Hp) (Q : Option Value → Hp → Prop) (l0 : Option Value) (x : Int32), Wp 131 17 (l0 :: some (.int x) :: ls) (st) h Q ↔ Wp 131 18 (l0 :: some (.int x) :: ls) (.int x :: st) h Q) ∧
  (∀ (ls : Lo) (st : List Value) (n sl : Nat) (C Z : Nat → Nat) (I : Nat → Nat → Int32) (L : Nat → Nat → Int64) (R : Nat → Nat → Nat) (Q : Option Value → Hp → Prop) (i : Nat) (y : Int32), Wp 131 18 (ls) (.int y :: .ref i :: st) (n, sl, C, Z, I, L, R) Q ↔ ((inb y (Z i) = true ∧ C i = 21) ∧ Wp 131 19 (ls) (.int (I i (ix y)) :: st) (n, sl, C, Z, I, L, R) Q)) ∧
  (∀ (ls : Lo) (st : List Value) (h : Hp) (Q : Option Value → Hp → Prop) (x y : Int32), Wp 131 19 (ls) (.int y :: .int x :: st) h Q ↔ Br 131 36 22 ls st h Q (y ≤ x)) ∧
  (∀ (ls : Lo) (st : List Value) (h : Hp) (Q : Option Value → Hp → Prop)  (i : Nat), Wp 131 22 (some (.ref i) :: ls) (st) h Q ↔ Wp 131 23 (some (.ref i) :: ls) (.ref i :: st) h Q) ∧
  (∀ (ls : Lo) (st : List Value) (n sl : Nat) (C Z : Nat → Nat) (I : Nat → Nat → Int32) (L : Nat → Nat → Int64) (R : Nat → Nat → Nat) (Q : Option Value → Hp → Prop) (i : Nat), Wp 131 23 (ls) (.ref i :: st) (n, sl, C, Z, I, L, R) Q ↔ (C i = 11 ∧ Wp 131 26 (ls) (.ref (R i 7) :: st) (n, sl, C, Z, I, L, R) Q)) ∧
  (∀ (ls : Lo) (st : List Value) (h : Hp) (Q : Option Value → Hp → Prop), Wp 131 26 (ls) (st) h Q ↔ Wp 131 27 (ls) (.int (3) :: st) h Q) ∧
  (∀ (ls : Lo) (st : List Value) (h : Hp) (Q : Option Value → Hp → Prop) (l0 : Option Value) (x : Int32), Wp 131 27 (l0 :: some (.int x) :: ls) (st) h Q ↔ Wp 131 28 (l0 :: some (.int x) :: ls) (.int x :: st) h Q) ∧
  (∀ (ls : Lo) (st : List Value) (h : Hp) (Q : Option Value → Hp → Prop) (x y : Int32), Wp 131 28 (ls) (.int y :: .int x :: st) h Q ↔ Wp 131 29 (ls) (.int (x * y) :: st) h Q) ∧
  (∀ (ls : Lo) (st : List Value) (h : Hp) (Q : Option Value → Hp → Prop) (l0 l1 : Option Value) (x : Int32), Wp 131 29 (l0 :: l1 :: some (.int x) :: ls) (st) h Q ↔ Wp 131 30 (l0 :: l1 :: some (.int x) :: ls) (.int x :: st) h Q) ∧
  (∀ (ls : Lo) (st : List Value) (h : Hp) (Q : Option Value → Hp → Prop) (x y : Int32), Wp 131 30 (ls) (.int y :: .int x :: st) h Q ↔ Wp 131 31 (ls) (.int (x + y) :: st) h Q) ∧
  (∀ (ls : Lo) (st : List Value) (n sl : Nat) (C Z : Nat → Nat) (I : Nat → Nat → Int32) (L : Nat → Nat → Int64) (R : Nat → Nat → Nat) (Q : Option Value → Hp → Prop) (i : Nat) (y : Int32), Wp 131 31 (ls) (.int y :: .ref i :: st) (n, sl, C, Z, I, L, R) Q ↔ ((inb y (Z i) = true ∧ C i = 21) ∧ Wp 131 32 (ls) (.int (I i (ix y)) :: st) (n, sl, C, Z, I, L, R) Q)) ∧
  (∀ (ls : Lo) (st : List Value) (h : Hp) (Q : Option Value → Hp → Prop) (x : Int32), Wp 131 32 (ls) (.int x :: st) h Q ↔ Wp 131 33 (ls) (.long x.toInt64 :: st) h Q) ∧
  (∀ (ls : Lo) (st : List Value) (h : Hp) (Q : Option Value → Hp → Prop), Wp 131 33 (ls) (st) h Q ↔ Wp 131 37 (ls) (st) h Q) ∧
  (∀ (ls : Lo) (st : List Value) (h : Hp) (Q : Option Value → Hp → Prop), Wp 131 36 (ls) (st) h Q ↔ Wp 131 37 (ls) (.long 0 :: st) h Q) := ⟨by intro ls st h Q; exact e_iconst d131_0 rfl,
  by intro ls st h Q l0 l1 l2 x; exact e_istore_n d131_1 rfl,
  by intro ls st h Q l0 l1 x; exact e_iload_n d131_2 rfl,
  by intro ls st h Q; exact e_iconst d131_3 rfl,
  by intro ls st h Q x y; exact e_ic d131_4 (by decide) c_ge,
  by intro ls st h Q i; exact e_aload_n d131_7 rfl,
  by intro ls st n sl C Z I L R Q i; exact e_get (g := 10) (s := 24) (ty := 2) d131_8 rfl rfl (inG_ne (by decide)),
  by intro ls st h Q l0 l1 x; exact e_iload_n d131_11 rfl,
  by intro ls st h Q l0 l1 x; exact e_iload_n d131_12 rfl,
  by intro ls st h Q i; exact e_aload_n d131_13 rfl,
  by intro ls st n sl C Z I L R Q i; exact e_get (g := 10) (s := 2) (ty := 2) d131_14 rfl rfl (inG_ne (by decide)),
  by intro ls st h Q l0 x; exact e_iload_n d131_17 rfl,
  by intro ls st n sl C Z I L R Q i y; exact e_iald d131_18,
  by intro ls st h Q x y; exact e_ic d131_19 (by decide) c_ge,
  by intro ls st h Q i; exact e_aload_n d131_22 rfl,
  by intro ls st n sl C Z I L R Q i; exact e_get (g := 10) (s := 7) (ty := 2) d131_23 rfl rfl (inG_ne (by decide)),
  by intro ls st h Q; exact e_iconst d131_26 rfl,
  by intro ls st h Q l0 x; exact e_iload_n d131_27 rfl,
  by intro ls st h Q x y; exact e_imul d131_28,
  by intro ls st h Q l0 l1 x; exact e_iload_n d131_29 rfl,
  by intro ls st h Q x y; exact e_iadd d131_30,
  by intro ls st n sl C Z I L R Q i y; exact e_iald d131_31,
  by intro ls st h Q x; exact e_i2l d131_32,
  by intro ls st h Q; exact e_goto d131_33 (by decide),
  by intro ls st h Q; exact e_lconst d131_36 rfl⟩
set_option maxRecDepth 20000 in
theorem S131_1 : (∀ (ls : Lo) (st : List Value) (n sl : Nat) (C Z : Nat → Nat) (I : Nat → Nat → Int32) (L : Nat → Nat → Int64) (R : Nat → Nat → Nat) (Q : Option Value → Hp → Prop) (i : Nat) (y : Int32) (a : Int64), Wp 131 37 (ls) (.long a :: .int y :: .ref i :: st) (n, sl, C, Z, I, L, R) Q ↔ ((inb y (Z i) = true ∧ C i = 22) ∧ Wp 131 38 (ls) (st) (n, sl, C, Z, I, u2 L i (ix y) a, R) Q)) ∧
  (∀ (ls : Lo) (st : List Value) (h : Hp) (Q : Option Value → Hp → Prop) (l0 l1 : Option Value) (x : Int32), Wp 131 38 (l0 :: l1 :: some (.int x) :: ls) (st) h Q ↔ Wp 131 41 (l0 :: clr l1 :: some (.int (x + (1))) :: ls) (st) h Q) ∧
  (∀ (ls : Lo) (st : List Value) (h : Hp) (Q : Option Value → Hp → Prop), Wp 131 41 (ls) (st) h Q ↔ Wp 131 2 (ls) (st) h Q) ∧
  (∀ (ls : Lo) (st : List Value) (h : Hp) (Q : Option Value → Hp → Prop), Wp 131 44 (ls) (st) h Q ↔ Wp 131 45 (ls) (.int (1) :: st) h Q) ∧
  (∀ (ls : Lo) (st : List Value) (h : Hp) (Q : Option Value → Hp → Prop) (l0 l1 l2 : Option Value) (x : Int32), Wp 131 45 (l0 :: l1 :: l2 :: ls) (.int x :: st) h Q ↔ Wp 131 46 (l0 :: clr l1 :: some (.int x) :: ls) (st) h Q) ∧
  (∀ (ls : Lo) (st : List Value) (h : Hp) (Q : Option Value → Hp → Prop) (l0 l1 : Option Value) (x : Int32), Wp 131 46 (l0 :: l1 :: some (.int x) :: ls) (st) h Q ↔ Wp 131 47 (l0 :: l1 :: some (.int x) :: ls) (.int x :: st) h Q) ∧
  (∀ (ls : Lo) (st : List Value) (h : Hp) (Q : Option Value → Hp → Prop)  (i : Nat), Wp 131 47 (some (.ref i) :: ls) (st) h Q ↔ Wp 131 48 (some (.ref i) :: ls) (.ref i :: st) h Q) ∧
  (∀ (ls : Lo) (st : List Value) (n sl : Nat) (C Z : Nat → Nat) (I : Nat → Nat → Int32) (L : Nat → Nat → Int64) (R : Nat → Nat → Nat) (Q : Option Value → Hp → Prop) (i : Nat), Wp 131 48 (ls) (.ref i :: st) (n, sl, C, Z, I, L, R) Q ↔ (C i = 11 ∧ Wp 131 51 (ls) (.ref (R i 2) :: st) (n, sl, C, Z, I, L, R) Q)) ∧
  (∀ (ls : Lo) (st : List Value) (h : Hp) (Q : Option Value → Hp → Prop) (l0 : Option Value) (x : Int32), Wp 131 51 (l0 :: some (.int x) :: ls) (st) h Q ↔ Wp 131 52 (l0 :: some (.int x) :: ls) (.int x :: st) h Q) ∧
  (∀ (ls : Lo) (st : List Value) (n sl : Nat) (C Z : Nat → Nat) (I : Nat → Nat → Int32) (L : Nat → Nat → Int64) (R : Nat → Nat → Nat) (Q : Option Value → Hp → Prop) (i : Nat) (y : Int32), Wp 131 52 (ls) (.int y :: .ref i :: st) (n, sl, C, Z, I, L, R) Q ↔ ((inb y (Z i) = true ∧ C i = 21) ∧ Wp 131 53 (ls) (.int (I i (ix y)) :: st) (n, sl, C, Z, I, L, R) Q)) ∧
  (∀ (ls : Lo) (st : List Value) (h : Hp) (Q : Option Value → Hp → Prop) (x y : Int32), Wp 131 53 (ls) (.int y :: .int x :: st) h Q ↔ Br 131 148 56 ls st h Q (y ≤ x)) ∧
  (∀ (ls : Lo) (st : List Value) (h : Hp) (Q : Option Value → Hp → Prop), Wp 131 56 (ls) (st) h Q ↔ Wp 131 57 (ls) (.int (0) :: st) h Q) ∧
  (∀ (ls : Lo) (st : List Value) (h : Hp) (Q : Option Value → Hp → Prop) (l0 l1 l2 l3 : Option Value) (x : Int32), Wp 131 57 (l0 :: l1 :: l2 :: l3 :: ls) (.int x :: st) h Q ↔ Wp 131 58 (l0 :: l1 :: clr l2 :: some (.int x) :: ls) (st) h Q) ∧
  (∀ (ls : Lo) (st : List Value) (h : Hp) (Q : Option Value → Hp → Prop) (l0 l1 l2 : Option Value) (x : Int32), Wp 131 58 (l0 :: l1 :: l2 :: some (.int x) :: ls) (st) h Q ↔ Wp 131 59 (l0 :: l1 :: l2 :: some (.int x) :: ls) (.int x :: st) h Q) ∧
  (∀ (ls : Lo) (st : List Value) (h : Hp) (Q : Option Value → Hp → Prop), Wp 131 59 (ls) (st) h Q ↔ Wp 131 60 (ls) (.int (3) :: st) h Q) ∧
  (∀ (ls : Lo) (st : List Value) (h : Hp) (Q : Option Value → Hp → Prop) (x y : Int32), Wp 131 60 (ls) (.int y :: .int x :: st) h Q ↔ Br 131 142 63 ls st h Q (y ≤ x)) ∧
  (∀ (ls : Lo) (st : List Value) (h : Hp) (Q : Option Value → Hp → Prop), Wp 131 63 (ls) (st) h Q ↔ Wp 131 64 (ls) (.long 0 :: st) h Q) ∧
  (∀ (ls : Lo) (st : List Value) (h : Hp) (Q : Option Value → Hp → Prop) (l0 l1 l2 l3 l4 l5 : Option Value) (a : Int64), Wp 131 64 (l0 :: l1 :: l2 :: l3 :: l4 :: l5 :: ls) (.long a :: st) h Q ↔ Wp 131 66 (l0 :: l1 :: l2 :: clr l3 :: some (.long a) :: none :: ls) (st) h Q) ∧
  (∀ (ls : Lo) (st : List Value) (h : Hp) (Q : Option Value → Hp → Prop), Wp 131 66 (ls) (st) h Q ↔ Wp 131 67 (ls) (.int (0) :: st) h Q) ∧
  (∀ (ls : Lo) (st : List Value) (h : Hp) (Q : Option Value → Hp → Prop) (l0 l1 l2 l3 l4 l5 l6 : Option Value) (x : Int32), Wp 131 67 (l0 :: l1 :: l2 :: l3 :: l4 :: l5 :: l6 :: ls) (.int x :: st) h Q ↔ Wp 131 69 (l0 :: l1 :: l2 :: l3 :: l4 :: clr l5 :: some (.int x) :: ls) (st) h Q) ∧
  (∀ (ls : Lo) (st : List Value) (h : Hp) (Q : Option Value → Hp → Prop) (l0 l1 l2 l3 l4 l5 : Option Value) (x : Int32), Wp 131 69 (l0 :: l1 :: l2 :: l3 :: l4 :: l5 :: some (.int x) :: ls) (st) h Q ↔ Wp 131 71 (l0 :: l1 :: l2 :: l3 :: l4 :: l5 :: some (.int x) :: ls) (.int x :: st) h Q) ∧
  (∀ (ls : Lo) (st : List Value) (h : Hp) (Q : Option Value → Hp → Prop)  (i : Nat), Wp 131 71 (some (.ref i) :: ls) (st) h Q ↔ Wp 131 72 (some (.ref i) :: ls) (.ref i :: st) h Q) ∧
  (∀ (ls : Lo) (st : List Value) (n sl : Nat) (C Z : Nat → Nat) (I : Nat → Nat → Int32) (L : Nat → Nat → Int64) (R : Nat → Nat → Nat) (Q : Option Value → Hp → Prop) (i : Nat), Wp 131 72 (ls) (.ref i :: st) (n, sl, C, Z, I, L, R) Q ↔ (C i = 11 ∧ Wp 131 75 (ls) (.ref (R i 2) :: st) (n, sl, C, Z, I, L, R) Q)) ∧
  (∀ (ls : Lo) (st : List Value) (h : Hp) (Q : Option Value → Hp → Prop) (l0 : Option Value) (x : Int32), Wp 131 75 (l0 :: some (.int x) :: ls) (st) h Q ↔ Wp 131 76 (l0 :: some (.int x) :: ls) (.int x :: st) h Q) ∧
  (∀ (ls : Lo) (st : List Value) (n sl : Nat) (C Z : Nat → Nat) (I : Nat → Nat → Int32) (L : Nat → Nat → Int64) (R : Nat → Nat → Nat) (Q : Option Value → Hp → Prop) (i : Nat) (y : Int32), Wp 131 76 (ls) (.int y :: .ref i :: st) (n, sl, C, Z, I, L, R) Q ↔ ((inb y (Z i) = true ∧ C i = 21) ∧ Wp 131 77 (ls) (.int (I i (ix y)) :: st) (n, sl, C, Z, I, L, R) Q)) := ⟨by intro ls st n sl C Z I L R Q i y a; exact e_last d131_37,
  by intro ls st h Q l0 l1 x; exact e_iinc d131_38 rfl rfl rfl,
  by intro ls st h Q; exact e_goto d131_41 (by decide),
  by intro ls st h Q; exact e_iconst d131_44 rfl,
  by intro ls st h Q l0 l1 l2 x; exact e_istore_n d131_45 rfl,
  by intro ls st h Q l0 l1 x; exact e_iload_n d131_46 rfl,
  by intro ls st h Q i; exact e_aload_n d131_47 rfl,
  by intro ls st n sl C Z I L R Q i; exact e_get (g := 10) (s := 2) (ty := 2) d131_48 rfl rfl (inG_ne (by decide)),
  by intro ls st h Q l0 x; exact e_iload_n d131_51 rfl,
  by intro ls st n sl C Z I L R Q i y; exact e_iald d131_52,
  by intro ls st h Q x y; exact e_ic d131_53 (by decide) c_ge,
  by intro ls st h Q; exact e_iconst d131_56 rfl,
  by intro ls st h Q l0 l1 l2 l3 x; exact e_istore_n d131_57 rfl,
  by intro ls st h Q l0 l1 l2 x; exact e_iload_n d131_58 rfl,
  by intro ls st h Q; exact e_iconst d131_59 rfl,
  by intro ls st h Q x y; exact e_ic d131_60 (by decide) c_ge,
  by intro ls st h Q; exact e_lconst d131_63 rfl,
  by intro ls st h Q l0 l1 l2 l3 l4 l5 a; exact e_lstore d131_64 rfl,
  by intro ls st h Q; exact e_iconst d131_66 rfl,
  by intro ls st h Q l0 l1 l2 l3 l4 l5 l6 x; exact e_istore d131_67 rfl,
  by intro ls st h Q l0 l1 l2 l3 l4 l5 x; exact e_iload d131_69 rfl,
  by intro ls st h Q i; exact e_aload_n d131_71 rfl,
  by intro ls st n sl C Z I L R Q i; exact e_get (g := 10) (s := 2) (ty := 2) d131_72 rfl rfl (inG_ne (by decide)),
  by intro ls st h Q l0 x; exact e_iload_n d131_75 rfl,
  by intro ls st n sl C Z I L R Q i y; exact e_iald d131_76⟩
set_option maxRecDepth 20000 in
theorem S131_2 : (∀ (ls : Lo) (st : List Value) (h : Hp) (Q : Option Value → Hp → Prop) (x y : Int32), Wp 131 77 (ls) (.int y :: .int x :: st) h Q ↔ Br 131 124 80 ls st h Q (y ≤ x)) ∧
  (∀ (ls : Lo) (st : List Value) (h : Hp) (Q : Option Value → Hp → Prop) (l0 l1 l2 : Option Value) (x : Int32), Wp 131 80 (l0 :: l1 :: l2 :: some (.int x) :: ls) (st) h Q ↔ Wp 131 81 (l0 :: l1 :: l2 :: some (.int x) :: ls) (.int x :: st) h Q) ∧
  (∀ (ls : Lo) (st : List Value) (h : Hp) (Q : Option Value → Hp → Prop)  (i : Nat), Wp 131 81 (some (.ref i) :: ls) (st) h Q ↔ Wp 131 82 (some (.ref i) :: ls) (.ref i :: st) h Q) ∧
  (∀ (ls : Lo) (st : List Value) (n sl : Nat) (C Z : Nat → Nat) (I : Nat → Nat → Int32) (L : Nat → Nat → Int64) (R : Nat → Nat → Nat) (Q : Option Value → Hp → Prop) (i : Nat), Wp 131 82 (ls) (.ref i :: st) (n, sl, C, Z, I, L, R) Q ↔ (C i = 11 ∧ Wp 131 85 (ls) (.ref (R i 2) :: st) (n, sl, C, Z, I, L, R) Q)) ∧
  (∀ (ls : Lo) (st : List Value) (h : Hp) (Q : Option Value → Hp → Prop) (l0 : Option Value) (x : Int32), Wp 131 85 (l0 :: some (.int x) :: ls) (st) h Q ↔ Wp 131 86 (l0 :: some (.int x) :: ls) (.int x :: st) h Q) ∧
  (∀ (ls : Lo) (st : List Value) (n sl : Nat) (C Z : Nat → Nat) (I : Nat → Nat → Int32) (L : Nat → Nat → Int64) (R : Nat → Nat → Nat) (Q : Option Value → Hp → Prop) (i : Nat) (y : Int32), Wp 131 86 (ls) (.int y :: .ref i :: st) (n, sl, C, Z, I, L, R) Q ↔ ((inb y (Z i) = true ∧ C i = 21) ∧ Wp 131 87 (ls) (.int (I i (ix y)) :: st) (n, sl, C, Z, I, L, R) Q)) ∧
  (∀ (ls : Lo) (st : List Value) (h : Hp) (Q : Option Value → Hp → Prop) (x y : Int32), Wp 131 87 (ls) (.int y :: .int x :: st) h Q ↔ Br 131 124 90 ls st h Q (y ≤ x)) ∧
  (∀ (ls : Lo) (st : List Value) (h : Hp) (Q : Option Value → Hp → Prop) (l0 l1 l2 l3 : Option Value) (a : Int64), Wp 131 90 (l0 :: l1 :: l2 :: l3 :: some (.long a) :: ls) (st) h Q ↔ Wp 131 92 (l0 :: l1 :: l2 :: l3 :: some (.long a) :: ls) (.long a :: st) h Q) ∧
  (∀ (ls : Lo) (st : List Value) (h : Hp) (Q : Option Value → Hp → Prop)  (i : Nat), Wp 131 92 (some (.ref i) :: ls) (st) h Q ↔ Wp 131 93 (some (.ref i) :: ls) (.ref i :: st) h Q) ∧
  (∀ (ls : Lo) (st : List Value) (n sl : Nat) (C Z : Nat → Nat) (I : Nat → Nat → Int32) (L : Nat → Nat → Int64) (R : Nat → Nat → Nat) (Q : Option Value → Hp → Prop) (i : Nat), Wp 131 93 (ls) (.ref i :: st) (n, sl, C, Z, I, L, R) Q ↔ (C i = 11 ∧ Wp 131 96 (ls) (.ref (R i 24) :: st) (n, sl, C, Z, I, L, R) Q)) ∧
  (∀ (ls : Lo) (st : List Value) (h : Hp) (Q : Option Value → Hp → Prop), Wp 131 96 (ls) (st) h Q ↔ Wp 131 97 (ls) (.int (3) :: st) h Q) ∧
  (∀ (ls : Lo) (st : List Value) (h : Hp) (Q : Option Value → Hp → Prop) (l0 l1 : Option Value) (x : Int32), Wp 131 97 (l0 :: l1 :: some (.int x) :: ls) (st) h Q ↔ Wp 131 98 (l0 :: l1 :: some (.int x) :: ls) (.int x :: st) h Q) ∧
  (∀ (ls : Lo) (st : List Value) (h : Hp) (Q : Option Value → Hp → Prop), Wp 131 98 (ls) (st) h Q ↔ Wp 131 99 (ls) (.int (1) :: st) h Q) ∧
  (∀ (ls : Lo) (st : List Value) (h : Hp) (Q : Option Value → Hp → Prop) (x y : Int32), Wp 131 99 (ls) (.int y :: .int x :: st) h Q ↔ Wp 131 100 (ls) (.int (x - y) :: st) h Q) ∧
  (∀ (ls : Lo) (st : List Value) (h : Hp) (Q : Option Value → Hp → Prop) (x y : Int32), Wp 131 100 (ls) (.int y :: .int x :: st) h Q ↔ Wp 131 101 (ls) (.int (x * y) :: st) h Q) ∧
  (∀ (ls : Lo) (st : List Value) (h : Hp) (Q : Option Value → Hp → Prop) (l0 l1 l2 l3 l4 l5 : Option Value) (x : Int32), Wp 131 101 (l0 :: l1 :: l2 :: l3 :: l4 :: l5 :: some (.int x) :: ls) (st) h Q ↔ Wp 131 103 (l0 :: l1 :: l2 :: l3 :: l4 :: l5 :: some (.int x) :: ls) (.int x :: st) h Q) ∧
  (∀ (ls : Lo) (st : List Value) (h : Hp) (Q : Option Value → Hp → Prop) (x y : Int32), Wp 131 103 (ls) (.int y :: .int x :: st) h Q ↔ Wp 131 104 (ls) (.int (x + y) :: st) h Q) ∧
  (∀ (ls : Lo) (st : List Value) (n sl : Nat) (C Z : Nat → Nat) (I : Nat → Nat → Int32) (L : Nat → Nat → Int64) (R : Nat → Nat → Nat) (Q : Option Value → Hp → Prop) (i : Nat) (y : Int32), Wp 131 104 (ls) (.int y :: .ref i :: st) (n, sl, C, Z, I, L, R) Q ↔ ((inb y (Z i) = true ∧ C i = 22) ∧ Wp 131 105 (ls) (.long (L i (ix y)) :: st) (n, sl, C, Z, I, L, R) Q)) ∧
  (∀ (ls : Lo) (st : List Value) (h : Hp) (Q : Option Value → Hp → Prop)  (i : Nat), Wp 131 105 (some (.ref i) :: ls) (st) h Q ↔ Wp 131 106 (some (.ref i) :: ls) (.ref i :: st) h Q) ∧
  (∀ (ls : Lo) (st : List Value) (h : Hp) (Q : Option Value → Hp → Prop) (l0 : Option Value) (x : Int32), Wp 131 106 (l0 :: some (.int x) :: ls) (st) h Q ↔ Wp 131 107 (l0 :: some (.int x) :: ls) (.int x :: st) h Q) ∧
  (∀ (ls : Lo) (st : List Value) (h : Hp) (Q : Option Value → Hp → Prop) (l0 l1 l2 l3 l4 l5 : Option Value) (x : Int32), Wp 131 107 (l0 :: l1 :: l2 :: l3 :: l4 :: l5 :: some (.int x) :: ls) (st) h Q ↔ Wp 131 109 (l0 :: l1 :: l2 :: l3 :: l4 :: l5 :: some (.int x) :: ls) (.int x :: st) h Q) ∧
  (∀ (ls : Lo) (st : List Value) (h : Hp) (Q : Option Value → Hp → Prop) (l0 l1 l2 : Option Value) (x : Int32), Wp 131 109 (l0 :: l1 :: l2 :: some (.int x) :: ls) (st) h Q ↔ Wp 131 110 (l0 :: l1 :: l2 :: some (.int x) :: ls) (.int x :: st) h Q) ∧
  (∀ (ls : Lo) (st : List Value) (n sl : Nat) (C Z : Nat → Nat) (I : Nat → Nat → Int32) (L : Nat → Nat → Int64) (R : Nat → Nat → Nat) (Q : Option Value → Hp → Prop) (x0 : Int32) (x1 : Int32) (x2 : Int32) (i : Nat), C i = 11 → (Wp 131 110 (ls) (.int x2 :: .int x1 :: .int x0 :: .ref i :: st) (n, sl, C, Z, I, L, R) Q ↔ (wsum st ≤ 8 ∧ Call 104 [some (.ref i), some (.int x0), some (.int x1), some (.int x2)] (n, sl, C, Z, I, L, R) 131 113 ls st Q))) ∧
  (∀ (ls : Lo) (st : List Value) (h : Hp) (Q : Option Value → Hp → Prop) (x : Int32), Wp 131 113 (ls) (.int x :: st) h Q ↔ Wp 131 114 (ls) (.long x.toInt64 :: st) h Q) ∧
  (∀ (ls : Lo) (st : List Value) (h : Hp) (Q : Option Value → Hp → Prop) (a b : Int64), Wp 131 114 (ls) (.long b :: .long a :: st) h Q ↔ Wp 131 115 (ls) (.long (a * b) :: st) h Q) := ⟨by intro ls st h Q x y; exact e_ic d131_77 (by decide) c_ge,
  by intro ls st h Q l0 l1 l2 x; exact e_iload_n d131_80 rfl,
  by intro ls st h Q i; exact e_aload_n d131_81 rfl,
  by intro ls st n sl C Z I L R Q i; exact e_get (g := 10) (s := 2) (ty := 2) d131_82 rfl rfl (inG_ne (by decide)),
  by intro ls st h Q l0 x; exact e_iload_n d131_85 rfl,
  by intro ls st n sl C Z I L R Q i y; exact e_iald d131_86,
  by intro ls st h Q x y; exact e_ic d131_87 (by decide) c_ge,
  by intro ls st h Q l0 l1 l2 l3 a; exact e_lload d131_90 rfl,
  by intro ls st h Q i; exact e_aload_n d131_92 rfl,
  by intro ls st n sl C Z I L R Q i; exact e_get (g := 10) (s := 24) (ty := 2) d131_93 rfl rfl (inG_ne (by decide)),
  by intro ls st h Q; exact e_iconst d131_96 rfl,
  by intro ls st h Q l0 l1 x; exact e_iload_n d131_97 rfl,
  by intro ls st h Q; exact e_iconst d131_98 rfl,
  by intro ls st h Q x y; exact e_isub d131_99,
  by intro ls st h Q x y; exact e_imul d131_100,
  by intro ls st h Q l0 l1 l2 l3 l4 l5 x; exact e_iload d131_101 rfl,
  by intro ls st h Q x y; exact e_iadd d131_103,
  by intro ls st n sl C Z I L R Q i y; exact e_lald d131_104,
  by intro ls st h Q i; exact e_aload_n d131_105 rfl,
  by intro ls st h Q l0 x; exact e_iload_n d131_106 rfl,
  by intro ls st h Q l0 l1 l2 l3 l4 l5 x; exact e_iload d131_107 rfl,
  by intro ls st h Q l0 l1 l2 x; exact e_iload_n d131_109 rfl,
  by intro ls st n sl C Z I L R Q x0 x1 x2 i hh; exact e_iv (k2 := 104) (c := 11) (as := [.int x0, .int x1, .int x2]) d131_110 rfl (by decide) rfl rfl (by decide +kernel) (Nat.le_of_ble_eq_true rfl) rfl hh,
  by intro ls st h Q x; exact e_i2l d131_113,
  by intro ls st h Q a b; exact e_lmul d131_114⟩
set_option maxRecDepth 20000 in
theorem S131_3 : (∀ (ls : Lo) (st : List Value) (h : Hp) (Q : Option Value → Hp → Prop) (a b : Int64), Wp 131 115 (ls) (.long b :: .long a :: st) h Q ↔ Wp 131 116 (ls) (.long (a + b) :: st) h Q) ∧
  (∀ (ls : Lo) (st : List Value) (h : Hp) (Q : Option Value → Hp → Prop) (l0 l1 l2 l3 l4 l5 : Option Value) (a : Int64), Wp 131 116 (l0 :: l1 :: l2 :: l3 :: l4 :: l5 :: ls) (.long a :: st) h Q ↔ Wp 131 118 (l0 :: l1 :: l2 :: clr l3 :: some (.long a) :: none :: ls) (st) h Q) ∧
  (∀ (ls : Lo) (st : List Value) (h : Hp) (Q : Option Value → Hp → Prop) (l0 l1 l2 l3 l4 l5 : Option Value) (x : Int32), Wp 131 118 (l0 :: l1 :: l2 :: l3 :: l4 :: l5 :: some (.int x) :: ls) (st) h Q ↔ Wp 131 121 (l0 :: l1 :: l2 :: l3 :: l4 :: clr l5 :: some (.int (x + (1))) :: ls) (st) h Q) ∧
  (∀ (ls : Lo) (st : List Value) (h : Hp) (Q : Option Value → Hp → Prop), Wp 131 121 (ls) (st) h Q ↔ Wp 131 69 (ls) (st) h Q) ∧
  (∀ (ls : Lo) (st : List Value) (h : Hp) (Q : Option Value → Hp → Prop)  (i : Nat), Wp 131 124 (some (.ref i) :: ls) (st) h Q ↔ Wp 131 125 (some (.ref i) :: ls) (.ref i :: st) h Q) ∧
  (∀ (ls : Lo) (st : List Value) (n sl : Nat) (C Z : Nat → Nat) (I : Nat → Nat → Int32) (L : Nat → Nat → Int64) (R : Nat → Nat → Nat) (Q : Option Value → Hp → Prop) (i : Nat), Wp 131 125 (ls) (.ref i :: st) (n, sl, C, Z, I, L, R) Q ↔ (C i = 11 ∧ Wp 131 128 (ls) (.ref (R i 24) :: st) (n, sl, C, Z, I, L, R) Q)) ∧
  (∀ (ls : Lo) (st : List Value) (h : Hp) (Q : Option Value → Hp → Prop), Wp 131 128 (ls) (st) h Q ↔ Wp 131 129 (ls) (.int (3) :: st) h Q) ∧
  (∀ (ls : Lo) (st : List Value) (h : Hp) (Q : Option Value → Hp → Prop) (l0 l1 : Option Value) (x : Int32), Wp 131 129 (l0 :: l1 :: some (.int x) :: ls) (st) h Q ↔ Wp 131 130 (l0 :: l1 :: some (.int x) :: ls) (.int x :: st) h Q) ∧
  (∀ (ls : Lo) (st : List Value) (h : Hp) (Q : Option Value → Hp → Prop) (x y : Int32), Wp 131 130 (ls) (.int y :: .int x :: st) h Q ↔ Wp 131 131 (ls) (.int (x * y) :: st) h Q) ∧
  (∀ (ls : Lo) (st : List Value) (h : Hp) (Q : Option Value → Hp → Prop) (l0 l1 l2 : Option Value) (x : Int32), Wp 131 131 (l0 :: l1 :: l2 :: some (.int x) :: ls) (st) h Q ↔ Wp 131 132 (l0 :: l1 :: l2 :: some (.int x) :: ls) (.int x :: st) h Q) ∧
  (∀ (ls : Lo) (st : List Value) (h : Hp) (Q : Option Value → Hp → Prop) (x y : Int32), Wp 131 132 (ls) (.int y :: .int x :: st) h Q ↔ Wp 131 133 (ls) (.int (x + y) :: st) h Q) ∧
  (∀ (ls : Lo) (st : List Value) (h : Hp) (Q : Option Value → Hp → Prop) (l0 l1 l2 l3 : Option Value) (a : Int64), Wp 131 133 (l0 :: l1 :: l2 :: l3 :: some (.long a) :: ls) (st) h Q ↔ Wp 131 135 (l0 :: l1 :: l2 :: l3 :: some (.long a) :: ls) (.long a :: st) h Q) ∧
  (∀ (ls : Lo) (st : List Value) (n sl : Nat) (C Z : Nat → Nat) (I : Nat → Nat → Int32) (L : Nat → Nat → Int64) (R : Nat → Nat → Nat) (Q : Option Value → Hp → Prop) (i : Nat) (y : Int32) (a : Int64), Wp 131 135 (ls) (.long a :: .int y :: .ref i :: st) (n, sl, C, Z, I, L, R) Q ↔ ((inb y (Z i) = true ∧ C i = 22) ∧ Wp 131 136 (ls) (st) (n, sl, C, Z, I, u2 L i (ix y) a, R) Q)) ∧
  (∀ (ls : Lo) (st : List Value) (h : Hp) (Q : Option Value → Hp → Prop) (l0 l1 l2 : Option Value) (x : Int32), Wp 131 136 (l0 :: l1 :: l2 :: some (.int x) :: ls) (st) h Q ↔ Wp 131 139 (l0 :: l1 :: clr l2 :: some (.int (x + (1))) :: ls) (st) h Q) ∧
  (∀ (ls : Lo) (st : List Value) (h : Hp) (Q : Option Value → Hp → Prop), Wp 131 139 (ls) (st) h Q ↔ Wp 131 58 (ls) (st) h Q) ∧
  (∀ (ls : Lo) (st : List Value) (h : Hp) (Q : Option Value → Hp → Prop) (l0 l1 : Option Value) (x : Int32), Wp 131 142 (l0 :: l1 :: some (.int x) :: ls) (st) h Q ↔ Wp 131 145 (l0 :: clr l1 :: some (.int (x + (1))) :: ls) (st) h Q) ∧
  (∀ (ls : Lo) (st : List Value) (h : Hp) (Q : Option Value → Hp → Prop), Wp 131 145 (ls) (st) h Q ↔ Wp 131 46 (ls) (st) h Q) ∧
  (∀ (ls : Lo) (st : List Value) (h : Hp) (Q : Option Value → Hp → Prop)  (i : Nat), Wp 131 148 (some (.ref i) :: ls) (st) h Q ↔ Wp 131 149 (some (.ref i) :: ls) (.ref i :: st) h Q) ∧
  (∀ (ls : Lo) (st : List Value) (h : Hp) (Q : Option Value → Hp → Prop)  (i : Nat), Wp 131 149 (some (.ref i) :: ls) (st) h Q ↔ Wp 131 150 (some (.ref i) :: ls) (.ref i :: st) h Q) ∧
  (∀ (ls : Lo) (st : List Value) (n sl : Nat) (C Z : Nat → Nat) (I : Nat → Nat → Int32) (L : Nat → Nat → Int64) (R : Nat → Nat → Nat) (Q : Option Value → Hp → Prop) (i : Nat), Wp 131 150 (ls) (.ref i :: st) (n, sl, C, Z, I, L, R) Q ↔ (C i = 11 ∧ Wp 131 153 (ls) (.ref (R i 2) :: st) (n, sl, C, Z, I, L, R) Q)) ∧
  (∀ (ls : Lo) (st : List Value) (h : Hp) (Q : Option Value → Hp → Prop) (l0 : Option Value) (x : Int32), Wp 131 153 (l0 :: some (.int x) :: ls) (st) h Q ↔ Wp 131 154 (l0 :: some (.int x) :: ls) (.int x :: st) h Q) ∧
  (∀ (ls : Lo) (st : List Value) (n sl : Nat) (C Z : Nat → Nat) (I : Nat → Nat → Int32) (L : Nat → Nat → Int64) (R : Nat → Nat → Nat) (Q : Option Value → Hp → Prop) (i : Nat) (y : Int32), Wp 131 154 (ls) (.int y :: .ref i :: st) (n, sl, C, Z, I, L, R) Q ↔ ((inb y (Z i) = true ∧ C i = 21) ∧ Wp 131 155 (ls) (.int (I i (ix y)) :: st) (n, sl, C, Z, I, L, R) Q)) ∧
  (∀ (ls : Lo) (st : List Value) (n sl : Nat) (C Z : Nat → Nat) (I : Nat → Nat → Int32) (L : Nat → Nat → Int64) (R : Nat → Nat → Nat) (Q : Option Value → Hp → Prop) (x0 : Int32) (i : Nat), C i = 11 → (Wp 131 155 (ls) (.int x0 :: .ref i :: st) (n, sl, C, Z, I, L, R) Q ↔ (wsum st ≤ 8 ∧ Call 128 [some (.ref i), some (.int x0), none, none, none, none, none, none, none, none, none] (n, sl, C, Z, I, L, R) 131 158 ls st Q))) ∧
  (∀ (ls : Lo) (h : Hp) (Q : Option Value → Hp → Prop) (x : Int32), Wp 131 158 (ls) ([.int x]) h Q ↔ Q (some (.int x)) h) := ⟨by intro ls st h Q a b; exact e_ladd d131_115,
  by intro ls st h Q l0 l1 l2 l3 l4 l5 a; exact e_lstore d131_116 rfl,
  by intro ls st h Q l0 l1 l2 l3 l4 l5 x; exact e_iinc d131_118 rfl rfl rfl,
  by intro ls st h Q; exact e_goto d131_121 (by decide),
  by intro ls st h Q i; exact e_aload_n d131_124 rfl,
  by intro ls st n sl C Z I L R Q i; exact e_get (g := 10) (s := 24) (ty := 2) d131_125 rfl rfl (inG_ne (by decide)),
  by intro ls st h Q; exact e_iconst d131_128 rfl,
  by intro ls st h Q l0 l1 x; exact e_iload_n d131_129 rfl,
  by intro ls st h Q x y; exact e_imul d131_130,
  by intro ls st h Q l0 l1 l2 x; exact e_iload_n d131_131 rfl,
  by intro ls st h Q x y; exact e_iadd d131_132,
  by intro ls st h Q l0 l1 l2 l3 a; exact e_lload d131_133 rfl,
  by intro ls st n sl C Z I L R Q i y a; exact e_last d131_135,
  by intro ls st h Q l0 l1 l2 x; exact e_iinc d131_136 rfl rfl rfl,
  by intro ls st h Q; exact e_goto d131_139 (by decide),
  by intro ls st h Q l0 l1 x; exact e_iinc d131_142 rfl rfl rfl,
  by intro ls st h Q; exact e_goto d131_145 (by decide),
  by intro ls st h Q i; exact e_aload_n d131_148 rfl,
  by intro ls st h Q i; exact e_aload_n d131_149 rfl,
  by intro ls st n sl C Z I L R Q i; exact e_get (g := 10) (s := 2) (ty := 2) d131_150 rfl rfl (inG_ne (by decide)),
  by intro ls st h Q l0 x; exact e_iload_n d131_153 rfl,
  by intro ls st n sl C Z I L R Q i y; exact e_iald d131_154,
  by intro ls st n sl C Z I L R Q x0 i hh; exact e_iv (k2 := 128) (c := 11) (as := [.int x0]) d131_155 rfl (by decide) rfl rfl (by decide +kernel) (Nat.le_of_ble_eq_true rfl) rfl hh,
  by intros; exact e_rI (p := True) d131_158 rfl⟩
theorem d132_0 : decode (byt 132) 0 = .ok (.iconst 0, 1) := by decide +kernel
theorem d132_1 : decode (byt 132) 1 = .ok (.istore_n 2, 1) := by decide +kernel
theorem d132_2 : decode (byt 132) 2 = .ok (.iload_n 2, 1) := by decide +kernel
theorem d132_3 : decode (byt 132) 3 = .ok (.aload_n 0, 1) := by decide +kernel
theorem d132_4 : decode (byt 132) 4 = .ok (.getfield 13, 3) := by decide +kernel
theorem d132_7 : decode (byt 132) 7 = .ok (.iload_n 1, 1) := by decide +kernel
theorem d132_8 : decode (byt 132) 8 = .ok (.iaload, 1) := by decide +kernel
theorem d132_9 : decode (byt 132) 9 = .ok (.if_icmp .ge 54, 3) := by decide +kernel
theorem d132_12 : decode (byt 132) 12 = .ok (.iconst 0, 1) := by decide +kernel
theorem d132_13 : decode (byt 132) 13 = .ok (.istore_n 3, 1) := by decide +kernel
theorem d132_14 : decode (byt 132) 14 = .ok (.iload_n 3, 1) := by decide +kernel
theorem d132_15 : decode (byt 132) 15 = .ok (.iconst 3, 1) := by decide +kernel
theorem d132_16 : decode (byt 132) 16 = .ok (.if_icmp .ge 41, 3) := by decide +kernel
theorem d132_19 : decode (byt 132) 19 = .ok (.aload_n 0, 1) := by decide +kernel
theorem d132_20 : decode (byt 132) 20 = .ok (.getfield 71, 3) := by decide +kernel
theorem d132_23 : decode (byt 132) 23 = .ok (.iconst 3, 1) := by decide +kernel
theorem d132_24 : decode (byt 132) 24 = .ok (.iload_n 2, 1) := by decide +kernel
theorem d132_25 : decode (byt 132) 25 = .ok (.imul, 1) := by decide +kernel
theorem d132_26 : decode (byt 132) 26 = .ok (.iload_n 3, 1) := by decide +kernel
theorem d132_27 : decode (byt 132) 27 = .ok (.iadd, 1) := by decide +kernel
theorem d132_28 : decode (byt 132) 28 = .ok (.iload_n 3, 1) := by decide +kernel
theorem d132_29 : decode (byt 132) 29 = .ok (.aload_n 0, 1) := by decide +kernel
theorem d132_30 : decode (byt 132) 30 = .ok (.getfield 13, 3) := by decide +kernel
theorem d132_33 : decode (byt 132) 33 = .ok (.iload_n 1, 1) := by decide +kernel
theorem d132_34 : decode (byt 132) 34 = .ok (.iaload, 1) := by decide +kernel
theorem d132_35 : decode (byt 132) 35 = .ok (.if_icmp .ge 14, 3) := by decide +kernel
theorem d132_38 : decode (byt 132) 38 = .ok (.aload_n 0, 1) := by decide +kernel
theorem d132_39 : decode (byt 132) 39 = .ok (.iload_n 1, 1) := by decide +kernel
theorem d132_40 : decode (byt 132) 40 = .ok (.iload_n 2, 1) := by decide +kernel
theorem d132_41 : decode (byt 132) 41 = .ok (.iload_n 3, 1) := by decide +kernel
theorem d132_42 : decode (byt 132) 42 = .ok (.iadd, 1) := by decide +kernel
theorem d132_43 : decode (byt 132) 43 = .ok (.invokevirtual 150, 3) := by decide +kernel
theorem d132_46 : decode (byt 132) 46 = .ok (.goto 4, 3) := by decide +kernel
theorem d132_49 : decode (byt 132) 49 = .ok (.lconst 0, 1) := by decide +kernel
theorem d132_50 : decode (byt 132) 50 = .ok (.lastore, 1) := by decide +kernel
theorem d132_51 : decode (byt 132) 51 = .ok (.iinc 3 1, 3) := by decide +kernel
theorem d132_54 : decode (byt 132) 54 = .ok (.goto (-40), 3) := by decide +kernel
theorem d132_57 : decode (byt 132) 57 = .ok (.iinc 2 1, 3) := by decide +kernel
theorem d132_60 : decode (byt 132) 60 = .ok (.goto (-58), 3) := by decide +kernel
theorem d132_63 : decode (byt 132) 63 = .ok (.aload_n 0, 1) := by decide +kernel
theorem d132_64 : decode (byt 132) 64 = .ok (.aload_n 0, 1) := by decide +kernel
theorem d132_65 : decode (byt 132) 65 = .ok (.getfield 13, 3) := by decide +kernel
theorem d132_68 : decode (byt 132) 68 = .ok (.iload_n 1, 1) := by decide +kernel
theorem d132_69 : decode (byt 132) 69 = .ok (.iaload, 1) := by decide +kernel
theorem d132_70 : decode (byt 132) 70 = .ok (.invokevirtual 146, 3) := by decide +kernel
theorem d132_73 : decode (byt 132) 73 = .ok (.ireturn, 1) := by decide +kernel
set_option maxRecDepth 20000 in
theorem S132_0 : (∀ (ls : Lo) (st : List Value) (h : Hp) (Q : Option Value → Hp → Prop), Wp 132 0 (ls) (st) h Q ↔ Wp 132 1 (ls) (.int (0) :: st) h Q) ∧
  (∀ (ls : Lo) (st : List Value) (h : Hp) (Q : Option Value → Hp → Prop) (l0 l1 l2 : Option Value) (x : Int32), Wp 132 1 (l0 :: l1 :: l2 :: ls) (.int x :: st) h Q ↔ Wp 132 2 (l0 :: clr l1 :: some (.int x) :: ls) (st) h Q) ∧
  (∀ (ls : Lo) (st : List Value) (h : Hp) (Q : Option Value → Hp → Prop) (l0 l1 : Option Value) (x : Int32), Wp 132 2 (l0 :: l1 :: some (.int x) :: ls) (st) h Q ↔ Wp 132 3 (l0 :: l1 :: some (.int x) :: ls) (.int x :: st) h Q) ∧
  (∀ (ls : Lo) (st : List Value) (h : Hp) (Q : Option Value → Hp → Prop)  (i : Nat), Wp 132 3 (some (.ref i) :: ls) (st) h Q ↔ Wp 132 4 (some (.ref i) :: ls) (.ref i :: st) h Q) ∧
  (∀ (ls : Lo) (st : List Value) (n sl : Nat) (C Z : Nat → Nat) (I : Nat → Nat → Int32) (L : Nat → Nat → Int64) (R : Nat → Nat → Nat) (Q : Option Value → Hp → Prop) (i : Nat), Wp 132 4 (ls) (.ref i :: st) (n, sl, C, Z, I, L, R) Q ↔ (C i = 11 ∧ Wp 132 7 (ls) (.ref (R i 2) :: st) (n, sl, C, Z, I, L, R) Q)) ∧
  (∀ (ls : Lo) (st : List Value) (h : Hp) (Q : Option Value → Hp → Prop) (l0 : Option Value) (x : Int32), Wp 132 7 (l0 :: some (.int x) :: ls) (st) h Q ↔ Wp 132 8 (l0 :: some (.int x) :: ls) (.int x :: st) h Q) ∧
  (∀ (ls : Lo) (st : List Value) (n sl : Nat) (C Z : Nat → Nat) (I : Nat → Nat → Int32) (L : Nat → Nat → Int64) (R : Nat → Nat → Nat) (Q : Option Value → Hp → Prop) (i : Nat) (y : Int32), Wp 132 8 (ls) (.int y :: .ref i :: st) (n, sl, C, Z, I, L, R) Q ↔ ((inb y (Z i) = true ∧ C i = 21) ∧ Wp 132 9 (ls) (.int (I i (ix y)) :: st) (n, sl, C, Z, I, L, R) Q)) ∧
  (∀ (ls : Lo) (st : List Value) (h : Hp) (Q : Option Value → Hp → Prop) (x y : Int32), Wp 132 9 (ls) (.int y :: .int x :: st) h Q ↔ Br 132 63 12 ls st h Q (y ≤ x)) ∧
  (∀ (ls : Lo) (st : List Value) (h : Hp) (Q : Option Value → Hp → Prop), Wp 132 12 (ls) (st) h Q ↔ Wp 132 13 (ls) (.int (0) :: st) h Q) ∧
  (∀ (ls : Lo) (st : List Value) (h : Hp) (Q : Option Value → Hp → Prop) (l0 l1 l2 l3 : Option Value) (x : Int32), Wp 132 13 (l0 :: l1 :: l2 :: l3 :: ls) (.int x :: st) h Q ↔ Wp 132 14 (l0 :: l1 :: clr l2 :: some (.int x) :: ls) (st) h Q) ∧
  (∀ (ls : Lo) (st : List Value) (h : Hp) (Q : Option Value → Hp → Prop) (l0 l1 l2 : Option Value) (x : Int32), Wp 132 14 (l0 :: l1 :: l2 :: some (.int x) :: ls) (st) h Q ↔ Wp 132 15 (l0 :: l1 :: l2 :: some (.int x) :: ls) (.int x :: st) h Q) ∧
  (∀ (ls : Lo) (st : List Value) (h : Hp) (Q : Option Value → Hp → Prop), Wp 132 15 (ls) (st) h Q ↔ Wp 132 16 (ls) (.int (3) :: st) h Q) ∧
  (∀ (ls : Lo) (st : List Value) (h : Hp) (Q : Option Value → Hp → Prop) (x y : Int32), Wp 132 16 (ls) (.int y :: .int x :: st) h Q ↔ Br 132 57 19 ls st h Q (y ≤ x)) ∧
  (∀ (ls : Lo) (st : List Value) (h : Hp) (Q : Option Value → Hp → Prop)  (i : Nat), Wp 132 19 (some (.ref i) :: ls) (st) h Q ↔ Wp 132 20 (some (.ref i) :: ls) (.ref i :: st) h Q) ∧
  (∀ (ls : Lo) (st : List Value) (n sl : Nat) (C Z : Nat → Nat) (I : Nat → Nat → Int32) (L : Nat → Nat → Int64) (R : Nat → Nat → Nat) (Q : Option Value → Hp → Prop) (i : Nat), Wp 132 20 (ls) (.ref i :: st) (n, sl, C, Z, I, L, R) Q ↔ (C i = 11 ∧ Wp 132 23 (ls) (.ref (R i 24) :: st) (n, sl, C, Z, I, L, R) Q)) ∧
  (∀ (ls : Lo) (st : List Value) (h : Hp) (Q : Option Value → Hp → Prop), Wp 132 23 (ls) (st) h Q ↔ Wp 132 24 (ls) (.int (3) :: st) h Q) ∧
  (∀ (ls : Lo) (st : List Value) (h : Hp) (Q : Option Value → Hp → Prop) (l0 l1 : Option Value) (x : Int32), Wp 132 24 (l0 :: l1 :: some (.int x) :: ls) (st) h Q ↔ Wp 132 25 (l0 :: l1 :: some (.int x) :: ls) (.int x :: st) h Q) ∧
  (∀ (ls : Lo) (st : List Value) (h : Hp) (Q : Option Value → Hp → Prop) (x y : Int32), Wp 132 25 (ls) (.int y :: .int x :: st) h Q ↔ Wp 132 26 (ls) (.int (x * y) :: st) h Q) ∧
  (∀ (ls : Lo) (st : List Value) (h : Hp) (Q : Option Value → Hp → Prop) (l0 l1 l2 : Option Value) (x : Int32), Wp 132 26 (l0 :: l1 :: l2 :: some (.int x) :: ls) (st) h Q ↔ Wp 132 27 (l0 :: l1 :: l2 :: some (.int x) :: ls) (.int x :: st) h Q) ∧
  (∀ (ls : Lo) (st : List Value) (h : Hp) (Q : Option Value → Hp → Prop) (x y : Int32), Wp 132 27 (ls) (.int y :: .int x :: st) h Q ↔ Wp 132 28 (ls) (.int (x + y) :: st) h Q) ∧
  (∀ (ls : Lo) (st : List Value) (h : Hp) (Q : Option Value → Hp → Prop) (l0 l1 l2 : Option Value) (x : Int32), Wp 132 28 (l0 :: l1 :: l2 :: some (.int x) :: ls) (st) h Q ↔ Wp 132 29 (l0 :: l1 :: l2 :: some (.int x) :: ls) (.int x :: st) h Q) ∧
  (∀ (ls : Lo) (st : List Value) (h : Hp) (Q : Option Value → Hp → Prop)  (i : Nat), Wp 132 29 (some (.ref i) :: ls) (st) h Q ↔ Wp 132 30 (some (.ref i) :: ls) (.ref i :: st) h Q) ∧
  (∀ (ls : Lo) (st : List Value) (n sl : Nat) (C Z : Nat → Nat) (I : Nat → Nat → Int32) (L : Nat → Nat → Int64) (R : Nat → Nat → Nat) (Q : Option Value → Hp → Prop) (i : Nat), Wp 132 30 (ls) (.ref i :: st) (n, sl, C, Z, I, L, R) Q ↔ (C i = 11 ∧ Wp 132 33 (ls) (.ref (R i 2) :: st) (n, sl, C, Z, I, L, R) Q)) ∧
  (∀ (ls : Lo) (st : List Value) (h : Hp) (Q : Option Value → Hp → Prop) (l0 : Option Value) (x : Int32), Wp 132 33 (l0 :: some (.int x) :: ls) (st) h Q ↔ Wp 132 34 (l0 :: some (.int x) :: ls) (.int x :: st) h Q) ∧
  (∀ (ls : Lo) (st : List Value) (n sl : Nat) (C Z : Nat → Nat) (I : Nat → Nat → Int32) (L : Nat → Nat → Int64) (R : Nat → Nat → Nat) (Q : Option Value → Hp → Prop) (i : Nat) (y : Int32), Wp 132 34 (ls) (.int y :: .ref i :: st) (n, sl, C, Z, I, L, R) Q ↔ ((inb y (Z i) = true ∧ C i = 21) ∧ Wp 132 35 (ls) (.int (I i (ix y)) :: st) (n, sl, C, Z, I, L, R) Q)) := ⟨by intro ls st h Q; exact e_iconst d132_0 rfl,
  by intro ls st h Q l0 l1 l2 x; exact e_istore_n d132_1 rfl,
  by intro ls st h Q l0 l1 x; exact e_iload_n d132_2 rfl,
  by intro ls st h Q i; exact e_aload_n d132_3 rfl,
  by intro ls st n sl C Z I L R Q i; exact e_get (g := 10) (s := 2) (ty := 2) d132_4 rfl rfl (inG_ne (by decide)),
  by intro ls st h Q l0 x; exact e_iload_n d132_7 rfl,
  by intro ls st n sl C Z I L R Q i y; exact e_iald d132_8,
  by intro ls st h Q x y; exact e_ic d132_9 (by decide) c_ge,
  by intro ls st h Q; exact e_iconst d132_12 rfl,
  by intro ls st h Q l0 l1 l2 l3 x; exact e_istore_n d132_13 rfl,
  by intro ls st h Q l0 l1 l2 x; exact e_iload_n d132_14 rfl,
  by intro ls st h Q; exact e_iconst d132_15 rfl,
  by intro ls st h Q x y; exact e_ic d132_16 (by decide) c_ge,
  by intro ls st h Q i; exact e_aload_n d132_19 rfl,
  by intro ls st n sl C Z I L R Q i; exact e_get (g := 10) (s := 24) (ty := 2) d132_20 rfl rfl (inG_ne (by decide)),
  by intro ls st h Q; exact e_iconst d132_23 rfl,
  by intro ls st h Q l0 l1 x; exact e_iload_n d132_24 rfl,
  by intro ls st h Q x y; exact e_imul d132_25,
  by intro ls st h Q l0 l1 l2 x; exact e_iload_n d132_26 rfl,
  by intro ls st h Q x y; exact e_iadd d132_27,
  by intro ls st h Q l0 l1 l2 x; exact e_iload_n d132_28 rfl,
  by intro ls st h Q i; exact e_aload_n d132_29 rfl,
  by intro ls st n sl C Z I L R Q i; exact e_get (g := 10) (s := 2) (ty := 2) d132_30 rfl rfl (inG_ne (by decide)),
  by intro ls st h Q l0 x; exact e_iload_n d132_33 rfl,
  by intro ls st n sl C Z I L R Q i y; exact e_iald d132_34⟩
set_option maxRecDepth 20000 in
theorem S132_1 : (∀ (ls : Lo) (st : List Value) (h : Hp) (Q : Option Value → Hp → Prop) (x y : Int32), Wp 132 35 (ls) (.int y :: .int x :: st) h Q ↔ Br 132 49 38 ls st h Q (y ≤ x)) ∧
  (∀ (ls : Lo) (st : List Value) (h : Hp) (Q : Option Value → Hp → Prop)  (i : Nat), Wp 132 38 (some (.ref i) :: ls) (st) h Q ↔ Wp 132 39 (some (.ref i) :: ls) (.ref i :: st) h Q) ∧
  (∀ (ls : Lo) (st : List Value) (h : Hp) (Q : Option Value → Hp → Prop) (l0 : Option Value) (x : Int32), Wp 132 39 (l0 :: some (.int x) :: ls) (st) h Q ↔ Wp 132 40 (l0 :: some (.int x) :: ls) (.int x :: st) h Q) ∧
  (∀ (ls : Lo) (st : List Value) (h : Hp) (Q : Option Value → Hp → Prop) (l0 l1 : Option Value) (x : Int32), Wp 132 40 (l0 :: l1 :: some (.int x) :: ls) (st) h Q ↔ Wp 132 41 (l0 :: l1 :: some (.int x) :: ls) (.int x :: st) h Q) ∧
  (∀ (ls : Lo) (st : List Value) (h : Hp) (Q : Option Value → Hp → Prop) (l0 l1 l2 : Option Value) (x : Int32), Wp 132 41 (l0 :: l1 :: l2 :: some (.int x) :: ls) (st) h Q ↔ Wp 132 42 (l0 :: l1 :: l2 :: some (.int x) :: ls) (.int x :: st) h Q) ∧
  (∀ (ls : Lo) (st : List Value) (h : Hp) (Q : Option Value → Hp → Prop) (x y : Int32), Wp 132 42 (ls) (.int y :: .int x :: st) h Q ↔ Wp 132 43 (ls) (.int (x + y) :: st) h Q) ∧
  (∀ (ls : Lo) (st : List Value) (n sl : Nat) (C Z : Nat → Nat) (I : Nat → Nat → Int32) (L : Nat → Nat → Int64) (R : Nat → Nat → Nat) (Q : Option Value → Hp → Prop) (x0 : Int32) (x1 : Int32) (i : Nat), C i = 11 → (Wp 132 43 (ls) (.int x1 :: .int x0 :: .ref i :: st) (n, sl, C, Z, I, L, R) Q ↔ (wsum st ≤ 8 ∧ Call 122 [some (.ref i), some (.int x0), some (.int x1), none, none, none] (n, sl, C, Z, I, L, R) 132 46 ls st Q))) ∧
  (∀ (ls : Lo) (st : List Value) (h : Hp) (Q : Option Value → Hp → Prop), Wp 132 46 (ls) (st) h Q ↔ Wp 132 50 (ls) (st) h Q) ∧
  (∀ (ls : Lo) (st : List Value) (h : Hp) (Q : Option Value → Hp → Prop), Wp 132 49 (ls) (st) h Q ↔ Wp 132 50 (ls) (.long 0 :: st) h Q) ∧
  (∀ (ls : Lo) (st : List Value) (n sl : Nat) (C Z : Nat → Nat) (I : Nat → Nat → Int32) (L : Nat → Nat → Int64) (R : Nat → Nat → Nat) (Q : Option Value → Hp → Prop) (i : Nat) (y : Int32) (a : Int64), Wp 132 50 (ls) (.long a :: .int y :: .ref i :: st) (n, sl, C, Z, I, L, R) Q ↔ ((inb y (Z i) = true ∧ C i = 22) ∧ Wp 132 51 (ls) (st) (n, sl, C, Z, I, u2 L i (ix y) a, R) Q)) ∧
  (∀ (ls : Lo) (st : List Value) (h : Hp) (Q : Option Value → Hp → Prop) (l0 l1 l2 : Option Value) (x : Int32), Wp 132 51 (l0 :: l1 :: l2 :: some (.int x) :: ls) (st) h Q ↔ Wp 132 54 (l0 :: l1 :: clr l2 :: some (.int (x + (1))) :: ls) (st) h Q) ∧
  (∀ (ls : Lo) (st : List Value) (h : Hp) (Q : Option Value → Hp → Prop), Wp 132 54 (ls) (st) h Q ↔ Wp 132 14 (ls) (st) h Q) ∧
  (∀ (ls : Lo) (st : List Value) (h : Hp) (Q : Option Value → Hp → Prop) (l0 l1 : Option Value) (x : Int32), Wp 132 57 (l0 :: l1 :: some (.int x) :: ls) (st) h Q ↔ Wp 132 60 (l0 :: clr l1 :: some (.int (x + (1))) :: ls) (st) h Q) ∧
  (∀ (ls : Lo) (st : List Value) (h : Hp) (Q : Option Value → Hp → Prop), Wp 132 60 (ls) (st) h Q ↔ Wp 132 2 (ls) (st) h Q) ∧
  (∀ (ls : Lo) (st : List Value) (h : Hp) (Q : Option Value → Hp → Prop)  (i : Nat), Wp 132 63 (some (.ref i) :: ls) (st) h Q ↔ Wp 132 64 (some (.ref i) :: ls) (.ref i :: st) h Q) ∧
  (∀ (ls : Lo) (st : List Value) (h : Hp) (Q : Option Value → Hp → Prop)  (i : Nat), Wp 132 64 (some (.ref i) :: ls) (st) h Q ↔ Wp 132 65 (some (.ref i) :: ls) (.ref i :: st) h Q) ∧
  (∀ (ls : Lo) (st : List Value) (n sl : Nat) (C Z : Nat → Nat) (I : Nat → Nat → Int32) (L : Nat → Nat → Int64) (R : Nat → Nat → Nat) (Q : Option Value → Hp → Prop) (i : Nat), Wp 132 65 (ls) (.ref i :: st) (n, sl, C, Z, I, L, R) Q ↔ (C i = 11 ∧ Wp 132 68 (ls) (.ref (R i 2) :: st) (n, sl, C, Z, I, L, R) Q)) ∧
  (∀ (ls : Lo) (st : List Value) (h : Hp) (Q : Option Value → Hp → Prop) (l0 : Option Value) (x : Int32), Wp 132 68 (l0 :: some (.int x) :: ls) (st) h Q ↔ Wp 132 69 (l0 :: some (.int x) :: ls) (.int x :: st) h Q) ∧
  (∀ (ls : Lo) (st : List Value) (n sl : Nat) (C Z : Nat → Nat) (I : Nat → Nat → Int32) (L : Nat → Nat → Int64) (R : Nat → Nat → Nat) (Q : Option Value → Hp → Prop) (i : Nat) (y : Int32), Wp 132 69 (ls) (.int y :: .ref i :: st) (n, sl, C, Z, I, L, R) Q ↔ ((inb y (Z i) = true ∧ C i = 21) ∧ Wp 132 70 (ls) (.int (I i (ix y)) :: st) (n, sl, C, Z, I, L, R) Q)) ∧
  (∀ (ls : Lo) (st : List Value) (n sl : Nat) (C Z : Nat → Nat) (I : Nat → Nat → Int32) (L : Nat → Nat → Int64) (R : Nat → Nat → Nat) (Q : Option Value → Hp → Prop) (x0 : Int32) (i : Nat), C i = 11 → (Wp 132 70 (ls) (.int x0 :: .ref i :: st) (n, sl, C, Z, I, L, R) Q ↔ (wsum st ≤ 8 ∧ Call 128 [some (.ref i), some (.int x0), none, none, none, none, none, none, none, none, none] (n, sl, C, Z, I, L, R) 132 73 ls st Q))) ∧
  (∀ (ls : Lo) (h : Hp) (Q : Option Value → Hp → Prop) (x : Int32), Wp 132 73 (ls) ([.int x]) h Q ↔ Q (some (.int x)) h) := ⟨by intro ls st h Q x y; exact e_ic d132_35 (by decide) c_ge,
  by intro ls st h Q i; exact e_aload_n d132_38 rfl,
  by intro ls st h Q l0 x; exact e_iload_n d132_39 rfl,
  by intro ls st h Q l0 l1 x; exact e_iload_n d132_40 rfl,
  by intro ls st h Q l0 l1 l2 x; exact e_iload_n d132_41 rfl,
  by intro ls st h Q x y; exact e_iadd d132_42,
  by intro ls st n sl C Z I L R Q x0 x1 i hh; exact e_iv (k2 := 122) (c := 11) (as := [.int x0, .int x1]) d132_43 rfl (by decide) rfl rfl (by decide +kernel) (Nat.le_of_ble_eq_true rfl) rfl hh,
  by intro ls st h Q; exact e_goto d132_46 (by decide),
  by intro ls st h Q; exact e_lconst d132_49 rfl,
  by intro ls st n sl C Z I L R Q i y a; exact e_last d132_50,
  by intro ls st h Q l0 l1 l2 x; exact e_iinc d132_51 rfl rfl rfl,
  by intro ls st h Q; exact e_goto d132_54 (by decide),
  by intro ls st h Q l0 l1 x; exact e_iinc d132_57 rfl rfl rfl,
  by intro ls st h Q; exact e_goto d132_60 (by decide),
  by intro ls st h Q i; exact e_aload_n d132_63 rfl,
  by intro ls st h Q i; exact e_aload_n d132_64 rfl,
  by intro ls st n sl C Z I L R Q i; exact e_get (g := 10) (s := 2) (ty := 2) d132_65 rfl rfl (inG_ne (by decide)),
  by intro ls st h Q l0 x; exact e_iload_n d132_68 rfl,
  by intro ls st n sl C Z I L R Q i y; exact e_iald d132_69,
  by intro ls st n sl C Z I L R Q x0 i hh; exact e_iv (k2 := 128) (c := 11) (as := [.int x0]) d132_70 rfl (by decide) rfl rfl (by decide +kernel) (Nat.le_of_ble_eq_true rfl) rfl hh,
  by intros; exact e_rI (p := True) d132_73 rfl⟩
