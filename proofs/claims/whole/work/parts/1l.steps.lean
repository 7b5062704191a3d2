theorem d145_0 : decode (byt 145) 0 = .ok (.aload_n 0, 1) := by decide +kernel
theorem d145_1 : decode (byt 145) 1 = .ok (.iconst 0, 1) := by decide +kernel
theorem d145_2 : decode (byt 145) 2 = .ok (.putfield 193, 3) := by decide +kernel
theorem d145_5 : decode (byt 145) 5 = .ok (.aload_n 0, 1) := by decide +kernel
theorem d145_6 : decode (byt 145) 6 = .ok (.getfield 44, 3) := by decide +kernel
theorem d145_9 : decode (byt 145) 9 = .ok (.aload_n 0, 1) := by decide +kernel
theorem d145_10 : decode (byt 145) 10 = .ok (.dup, 1) := by decide +kernel
theorem d145_11 : decode (byt 145) 11 = .ok (.getfield 193, 3) := by decide +kernel
theorem d145_14 : decode (byt 145) 14 = .ok (.dup_x1, 1) := by decide +kernel
theorem d145_15 : decode (byt 145) 15 = .ok (.iconst 1, 1) := by decide +kernel
theorem d145_16 : decode (byt 145) 16 = .ok (.iadd, 1) := by decide +kernel
theorem d145_17 : decode (byt 145) 17 = .ok (.putfield 193, 3) := by decide +kernel
theorem d145_20 : decode (byt 145) 20 = .ok (.aload_n 0, 1) := by decide +kernel
theorem d145_21 : decode (byt 145) 21 = .ok (.getfield 16, 3) := by decide +kernel
theorem d145_24 : decode (byt 145) 24 = .ok (.iload_n 1, 1) := by decide +kernel
theorem d145_25 : decode (byt 145) 25 = .ok (.iaload, 1) := by decide +kernel
theorem d145_26 : decode (byt 145) 26 = .ok (.i2l, 1) := by decide +kernel
theorem d145_27 : decode (byt 145) 27 = .ok (.lastore, 1) := by decide +kernel
theorem d145_28 : decode (byt 145) 28 = .ok (.iconst 0, 1) := by decide +kernel
theorem d145_29 : decode (byt 145) 29 = .ok (.istore_n 2, 1) := by decide +kernel
theorem d145_30 : decode (byt 145) 30 = .ok (.iload_n 2, 1) := by decide +kernel
theorem d145_31 : decode (byt 145) 31 = .ok (.aload_n 0, 1) := by decide +kernel
theorem d145_32 : decode (byt 145) 32 = .ok (.getfield 13, 3) := by decide +kernel
theorem d145_35 : decode (byt 145) 35 = .ok (.iload_n 1, 1) := by decide +kernel
theorem d145_36 : decode (byt 145) 36 = .ok (.iaload, 1) := by decide +kernel
theorem d145_37 : decode (byt 145) 37 = .ok (.if_icmp .ge 51, 3) := by decide +kernel
theorem d145_40 : decode (byt 145) 40 = .ok (.iconst 0, 1) := by decide +kernel
theorem d145_41 : decode (byt 145) 41 = .ok (.istore_n 3, 1) := by decide +kernel
theorem d145_42 : decode (byt 145) 42 = .ok (.iload_n 3, 1) := by decide +kernel
theorem d145_43 : decode (byt 145) 43 = .ok (.aload_n 0, 1) := by decide +kernel
theorem d145_44 : decode (byt 145) 44 = .ok (.getfield 13, 3) := by decide +kernel
theorem d145_47 : decode (byt 145) 47 = .ok (.iload_n 1, 1) := by decide +kernel
theorem d145_48 : decode (byt 145) 48 = .ok (.iaload, 1) := by decide +kernel
theorem d145_49 : decode (byt 145) 49 = .ok (.if_icmp .ge 33, 3) := by decide +kernel
theorem d145_52 : decode (byt 145) 52 = .ok (.aload_n 0, 1) := by decide +kernel
theorem d145_53 : decode (byt 145) 53 = .ok (.getfield 44, 3) := by decide +kernel
theorem d145_56 : decode (byt 145) 56 = .ok (.aload_n 0, 1) := by decide +kernel
theorem d145_57 : decode (byt 145) 57 = .ok (.dup, 1) := by decide +kernel
theorem d145_58 : decode (byt 145) 58 = .ok (.getfield 193, 3) := by decide +kernel
theorem d145_61 : decode (byt 145) 61 = .ok (.dup_x1, 1) := by decide +kernel
theorem d145_62 : decode (byt 145) 62 = .ok (.iconst 1, 1) := by decide +kernel
theorem d145_63 : decode (byt 145) 63 = .ok (.iadd, 1) := by decide +kernel
theorem d145_64 : decode (byt 145) 64 = .ok (.putfield 193, 3) := by decide +kernel
theorem d145_67 : decode (byt 145) 67 = .ok (.aload_n 0, 1) := by decide +kernel
theorem d145_68 : decode (byt 145) 68 = .ok (.iload_n 1, 1) := by decide +kernel
theorem d145_69 : decode (byt 145) 69 = .ok (.iload_n 2, 1) := by decide +kernel
theorem d145_70 : decode (byt 145) 70 = .ok (.iload_n 3, 1) := by decide +kernel
theorem d145_71 : decode (byt 145) 71 = .ok (.invokevirtual 102, 3) := by decide +kernel
theorem d145_74 : decode (byt 145) 74 = .ok (.i2l, 1) := by decide +kernel
theorem d145_75 : decode (byt 145) 75 = .ok (.lastore, 1) := by decide +kernel
theorem d145_76 : decode (byt 145) 76 = .ok (.iinc 3 1, 3) := by decide +kernel
theorem d145_79 : decode (byt 145) 79 = .ok (.goto (-37), 3) := by decide +kernel
theorem d145_82 : decode (byt 145) 82 = .ok (.iinc 2 1, 3) := by decide +kernel
theorem d145_85 : decode (byt 145) 85 = .ok (.goto (-55), 3) := by decide +kernel
theorem d145_88 : decode (byt 145) 88 = .ok (.iconst 0, 1) := by decide +kernel
theorem d145_89 : decode (byt 145) 89 = .ok (.istore_n 2, 1) := by decide +kernel
theorem d145_90 : decode (byt 145) 90 = .ok (.iload_n 2, 1) := by decide +kernel
theorem d145_91 : decode (byt 145) 91 = .ok (.aload_n 0, 1) := by decide +kernel
theorem d145_92 : decode (byt 145) 92 = .ok (.getfield 13, 3) := by decide +kernel
theorem d145_95 : decode (byt 145) 95 = .ok (.iload_n 1, 1) := by decide +kernel
theorem d145_96 : decode (byt 145) 96 = .ok (.iaload, 1) := by decide +kernel
theorem d145_97 : decode (byt 145) 97 = .ok (.aload_n 0, 1) := by decide +kernel
theorem d145_98 : decode (byt 145) 98 = .ok (.getfield 13, 3) := by decide +kernel
theorem d145_101 : decode (byt 145) 101 = .ok (.iload_n 1, 1) := by decide +kernel
theorem d145_102 : decode (byt 145) 102 = .ok (.iaload, 1) := by decide +kernel
theorem d145_103 : decode (byt 145) 103 = .ok (.iconst 1, 1) := by decide +kernel
theorem d145_104 : decode (byt 145) 104 = .ok (.iadd, 1) := by decide +kernel
theorem d145_105 : decode (byt 145) 105 = .ok (.imul, 1) := by decide +kernel
theorem d145_106 : decode (byt 145) 106 = .ok (.iconst 2, 1) := by decide +kernel
theorem d145_107 : decode (byt 145) 107 = .ok (.idiv, 1) := by decide +kernel
theorem d145_108 : decode (byt 145) 108 = .ok (.if_icmp .ge 81, 3) := by decide +kernel
theorem d145_111 : decode (byt 145) 111 = .ok (.iload_n 2, 1) := by decide +kernel
theorem d145_112 : decode (byt 145) 112 = .ok (.iconst 2, 1) := by decide +kernel
theorem d145_113 : decode (byt 145) 113 = .ok (.if_icmp .ne 7, 3) := by decide +kernel
theorem d145_116 : decode (byt 145) 116 = .ok (.iconst 1, 1) := by decide +kernel
theorem d145_117 : decode (byt 145) 117 = .ok (.goto 4, 3) := by decide +kernel
theorem d145_120 : decode (byt 145) 120 = .ok (.iconst 0, 1) := by decide +kernel
theorem d145_121 : decode (byt 145) 121 = .ok (.istore_n 3, 1) := by decide +kernel
theorem d145_122 : decode (byt 145) 122 = .ok (.iload_n 2, 1) := by decide +kernel
theorem d145_123 : decode (byt 145) 123 = .ok (.ifCond .ne 7, 3) := by decide +kernel
theorem d145_126 : decode (byt 145) 126 = .ok (.iconst 0, 1) := by decide +kernel
theorem d145_127 : decode (byt 145) 127 = .ok (.goto 4, 3) := by decide +kernel
theorem d145_130 : decode (byt 145) 130 = .ok (.iconst 1, 1) := by decide +kernel
theorem d145_131 : decode (byt 145) 131 = .ok (.istore 4, 2) := by decide +kernel
theorem d145_133 : decode (byt 145) 133 = .ok (.aload_n 0, 1) := by decide +kernel
theorem d145_134 : decode (byt 145) 134 = .ok (.getfield 44, 3) := by decide +kernel
theorem d145_137 : decode (byt 145) 137 = .ok (.aload_n 0, 1) := by decide +kernel
theorem d145_138 : decode (byt 145) 138 = .ok (.dup, 1) := by decide +kernel
theorem d145_139 : decode (byt 145) 139 = .ok (.getfield 193, 3) := by decide +kernel
theorem d145_142 : decode (byt 145) 142 = .ok (.dup_x1, 1) := by decide +kernel
theorem d145_143 : decode (byt 145) 143 = .ok (.iconst 1, 1) := by decide +kernel
theorem d145_144 : decode (byt 145) 144 = .ok (.iadd, 1) := by decide +kernel
theorem d145_145 : decode (byt 145) 145 = .ok (.putfield 193, 3) := by decide +kernel
theorem d145_148 : decode (byt 145) 148 = .ok (.aload_n 0, 1) := by decide +kernel
theorem d145_149 : decode (byt 145) 149 = .ok (.iload_n 1, 1) := by decide +kernel
theorem d145_150 : decode (byt 145) 150 = .ok (.iload_n 3, 1) := by decide +kernel
theorem d145_151 : decode (byt 145) 151 = .ok (.iload 4, 2) := by decide +kernel
theorem d145_153 : decode (byt 145) 153 = .ok (.iconst 0, 1) := by decide +kernel
theorem d145_154 : decode (byt 145) 154 = .ok (.invokevirtual 196, 3) := by decide +kernel
theorem d145_157 : decode (byt 145) 157 = .ok (.lastore, 1) := by decide +kernel
theorem d145_158 : decode (byt 145) 158 = .ok (.aload_n 0, 1) := by decide +kernel
theorem d145_159 : decode (byt 145) 159 = .ok (.getfield 44, 3) := by decide +kernel
theorem d145_162 : decode (byt 145) 162 = .ok (.aload_n 0, 1) := by decide +kernel
theorem d145_163 : decode (byt 145) 163 = .ok (.dup, 1) := by decide +kernel
theorem d145_164 : decode (byt 145) 164 = .ok (.getfield 193, 3) := by decide +kernel
theorem d145_167 : decode (byt 145) 167 = .ok (.dup_x1, 1) := by decide +kernel
theorem d145_168 : decode (byt 145) 168 = .ok (.iconst 1, 1) := by decide +kernel
theorem d145_169 : decode (byt 145) 169 = .ok (.iadd, 1) := by decide +kernel
theorem d145_170 : decode (byt 145) 170 = .ok (.putfield 193, 3) := by decide +kernel
theorem d145_173 : decode (byt 145) 173 = .ok (.aload_n 0, 1) := by decide +kernel
theorem d145_174 : decode (byt 145) 174 = .ok (.iload_n 1, 1) := by decide +kernel
theorem d145_175 : decode (byt 145) 175 = .ok (.iload_n 3, 1) := by decide +kernel
theorem d145_176 : decode (byt 145) 176 = .ok (.iload 4, 2) := by decide +kernel
theorem d145_178 : decode (byt 145) 178 = .ok (.iconst 1, 1) := by decide +kernel
theorem d145_179 : decode (byt 145) 179 = .ok (.invokevirtual 196, 3) := by decide +kernel
theorem d145_182 : decode (byt 145) 182 = .ok (.lastore, 1) := by decide +kernel
theorem d145_183 : decode (byt 145) 183 = .ok (.iinc 2 1, 3) := by decide +kernel
theorem d145_186 : decode (byt 145) 186 = .ok (.goto (-96), 3) := by decide +kernel
theorem d145_189 : decode (byt 145) 189 = .ok (.return_, 1) := by decide +kernel
set_option maxRecDepth 20000 in
theorem S145_0 : (∀ (ls : Lo) (st : List Value) (h : Hp) (Q : Option Value → Hp → Prop)  (i : Nat), Wp 145 0 (some (.ref i) :: ls) (st) h Q ↔ Wp 145 1 (some (.ref i) :: ls) (.ref i :: st) h Q) ∧
  (∀ (ls : Lo) (st : List Value) (h : Hp) (Q : Option Value → Hp → Prop), Wp 145 1 (ls) (st) h Q ↔ Wp 145 2 (ls) (.int (0) :: st) h Q) ∧
  (∀ (ls : Lo) (st : List Value) (n sl : Nat) (C Z : Nat → Nat) (I : Nat → Nat → Int32) (L : Nat → Nat → Int64) (R : Nat → Nat → Nat) (Q : Option Value → Hp → Prop) (i : Nat) (x : Int32), Wp 145 2 (ls) (.int x :: .ref i :: st) (n, sl, C, Z, I, L, R) Q ↔ (C i = 11 ∧ Wp 145 5 (ls) (st) (n, sl, C, Z, u2 I i 14 x, L, R) Q)) ∧
  (∀ (ls : Lo) (st : List Value) (h : Hp) (Q : Option Value → Hp → Prop)  (i : Nat), Wp 145 5 (some (.ref i) :: ls) (st) h Q ↔ Wp 145 6 (some (.ref i) :: ls) (.ref i :: st) h Q) ∧
  (∀ (ls : Lo) (st : List Value) (n sl : Nat) (C Z : Nat → Nat) (I : Nat → Nat → Int32) (L : Nat → Nat → Int64) (R : Nat → Nat → Nat) (Q : Option Value → Hp → Prop) (i : Nat), Wp 145 6 (ls) (.ref i :: st) (n, sl, C, Z, I, L, R) Q ↔ (C i = 11 ∧ Wp 145 9 (ls) (.ref (R i 12) :: st) (n, sl, C, Z, I, L, R) Q)) ∧
  (∀ (ls : Lo) (st : List Value) (h : Hp) (Q : Option Value → Hp → Prop)  (i : Nat), Wp 145 9 (some (.ref i) :: ls) (st) h Q ↔ Wp 145 10 (some (.ref i) :: ls) (.ref i :: st) h Q) ∧
  (∀ (ls : Lo) (st : List Value) (h : Hp) (Q : Option Value → Hp → Prop) (x : Int32), Wp 145 10 (ls) (.int x :: st) h Q ↔ Wp 145 11 (ls) (.int x :: .int x :: st) h Q) ∧
  (∀ (ls : Lo) (st : List Value) (h : Hp) (Q : Option Value → Hp → Prop) (i : Nat), Wp 145 10 (ls) (.ref i :: st) h Q ↔ Wp 145 11 (ls) (.ref i :: .ref i :: st) h Q) ∧
  (∀ (ls : Lo) (st : List Value) (n sl : Nat) (C Z : Nat → Nat) (I : Nat → Nat → Int32) (L : Nat → Nat → Int64) (R : Nat → Nat → Nat) (Q : Option Value → Hp → Prop) (i : Nat), Wp 145 11 (ls) (.ref i :: st) (n, sl, C, Z, I, L, R) Q ↔ (C i = 11 ∧ Wp 145 14 (ls) (.int (I i 14) :: st) (n, sl, C, Z, I, L, R) Q)) ∧
  (∀ (ls : Lo) (st : List Value) (h : Hp) (Q : Option Value → Hp → Prop) (x : Int32) (i : Nat), Wp 145 14 (ls) (.int x :: .ref i :: st) h Q ↔ Wp 145 15 (ls) (.int x :: .ref i :: .int x :: st) h Q) ∧
  (∀ (ls : Lo) (st : List Value) (h : Hp) (Q : Option Value → Hp → Prop), Wp 145 15 (ls) (st) h Q ↔ Wp 145 16 (ls) (.int (1) :: st) h Q) ∧
  (∀ (ls : Lo) (st : List Value) (h : Hp) (Q : Option Value → Hp → Prop) (x y : Int32), Wp 145 16 (ls) (.int y :: .int x :: st) h Q ↔ Wp 145 17 (ls) (.int (x + y) :: st) h Q) ∧
  (∀ (ls : Lo) (st : List Value) (n sl : Nat) (C Z : Nat → Nat) (I : Nat → Nat → Int32) (L : Nat → Nat → Int64) (R : Nat → Nat → Nat) (Q : Option Value → Hp → Prop) (i : Nat) (x : Int32), Wp 145 17 (ls) (.int x :: .ref i :: st) (n, sl, C, Z, I, L, R) Q ↔ (C i = 11 ∧ Wp 145 20 (ls) (st) (n, sl, C, Z, u2 I i 14 x, L, R) Q)) ∧
  (∀ (ls : Lo) (st : List Value) (h : Hp) (Q : Option Value → Hp → Prop)  (i : Nat), Wp 145 20 (some (.ref i) :: ls) (st) h Q ↔ Wp 145 21 (some (.ref i) :: ls) (.ref i :: st) h Q) ∧
  (∀ (ls : Lo) (st : List Value) (n sl : Nat) (C Z : Nat → Nat) (I : Nat → Nat → Int32) (L : Nat → Nat → Int64) (R : Nat → Nat → Nat) (Q : Option Value → Hp → Prop) (i : Nat), Wp 145 21 (ls) (.ref i :: st) (n, sl, C, Z, I, L, R) Q ↔ (C i = 11 ∧ Wp 145 24 (ls) (.ref (R i 3) :: st) (n, sl, C, Z, I, L, R) Q)) ∧
  (∀ (ls : Lo) (st : List Value) (h : Hp) (Q : Option Value → Hp → Prop) (l0 : Option Value) (x : Int32), Wp 145 24 (l0 :: some (.int x) :: ls) (st) h Q ↔ Wp 145 25 (l0 :: some (.int x) :: ls) (.int x :: st) h Q) ∧
  (∀ (ls : Lo) (st : List Value) (n sl : Nat) (C Z : Nat → Nat) (I : Nat → Nat → Int32) (L : Nat → Nat → Int64) (R : Nat → Nat → Nat) (Q : Option Value → Hp → Prop) (i : Nat) (y : Int32), Wp 145 25 (ls) (.int y :: .ref i :: st) (n, sl, C, Z, I, L, R) Q ↔ ((inb y (Z i) = true ∧ C i = 21) ∧ Wp 145 26 (ls) (.int (I i (ix y)) :: st) (n, sl, C, Z, I, L, R) Q)) ∧
  (∀ (ls : Lo) (st : List Value) (h : Hp) (Q : Option Value → Hp → Prop) (x : Int32), Wp 145 26 (ls) (.int x :: st) h Q ↔ Wp 145 27 (ls) (.long x.toInt64 :: st) h Q) ∧
  (∀ (ls : Lo) (st : List Value) (n sl : Nat) (C Z : Nat → Nat) (I : Nat → Nat → Int32) (L : Nat → Nat → Int64) (R : Nat → Nat → Nat) (Q : Option Value → Hp → Prop) (i : Nat) (y : Int32) (a : Int64), Wp 145 27 (ls) (.long a :: .int y :: .ref i :: st) (n, sl, C, Z, I, L, R) Q ↔ ((inb y (Z i) = true ∧ C i = 22) ∧ Wp 145 28 (ls) (st) (n, sl, C, Z, I, u2 L i (ix y) a, R) Q)) ∧
  (∀ (ls : Lo) (st : List Value) (h : Hp) (Q : Option Value → Hp → Prop), Wp 145 28 (ls) (st) h Q ↔ Wp 145 29 (ls) (.int (0) :: st) h Q) ∧
  (∀ (ls : Lo) (st : List Value) (h : Hp) (Q : Option Value → Hp → Prop) (l0 l1 l2 : Option Value) (x : Int32), Wp 145 29 (l0 :: l1 :: l2 :: ls) (.int x :: st) h Q ↔ Wp 145 30 (l0 :: clr l1 :: some (.int x) :: ls) (st) h Q) ∧
  (∀ (ls : Lo) (st : List Value) (h : Hp) (Q : Option Value → Hp → Prop) (l0 l1 : Option Value) (x : Int32), Wp 145 30 (l0 :: l1 :: some (.int x) :: ls) (st) h Q ↔ Wp 145 31 (l0 :: l1 :: some (.int x) :: ls) (.int x :: st) h Q) ∧
  (∀ (ls : Lo) (st : List Value) (h : Hp) (Q : Option Value → Hp → Prop)  (i : Nat), Wp 145 31 (some (.ref i) :: ls) (st) h Q ↔ Wp 145 32 (some (.ref i) :: ls) (.ref i :: st) h Q) ∧
  (∀ (ls : Lo) (st : List Value) (n sl : Nat) (C Z : Nat → Nat) (I : Nat → Nat → Int32) (L : Nat → Nat → Int64) (R : Nat → Nat → Nat) (Q : Option Value → Hp → Prop) (i : Nat), Wp 145 32 (ls) (.ref i :: st) (n, sl, C, Z, I, L, R) Q ↔ (C i = 11 ∧ Wp 145 35 (ls) (.ref (R i 2) :: st) (n, sl, C, Z, I, L, R) Q)) ∧
  (∀ (ls : Lo) (st : List Value) (h : Hp) (Q : Option Value → Hp → Prop) (l0 : Option Value) (x : Int32), Wp 145 35 (l0 :: some (.int x) :: ls) (st) h Q ↔ Wp 145 36 (l0 :: some (.int x) :: ls) (.int x :: st) h Q) := ⟨by intro ls st h Q i; exact e_aload_n d145_0 rfl,
  by intro ls st h Q; exact e_iconst d145_1 rfl,
  by intro ls st n sl C Z I L R Q i x; exact e_putI (g := 10) (s := 14) d145_2 rfl (Or.inl rfl) (inG_ne (by decide)),
  by intro ls st h Q i; exact e_aload_n d145_5 rfl,
  by intro ls st n sl C Z I L R Q i; exact e_get (g := 10) (s := 12) (ty := 2) d145_6 rfl rfl (inG_ne (by decide)),
  by intro ls st h Q i; exact e_aload_n d145_9 rfl,
  by intro ls st h Q x; exact e_dupI d145_10,
  by intro ls st h Q i; exact e_dupR d145_10,
  by intro ls st n sl C Z I L R Q i; exact e_get (g := 10) (s := 14) (ty := 0) d145_11 rfl rfl (inG_ne (by decide)),
  by intro ls st h Q x i; exact e_dx1 d145_14,
  by intro ls st h Q; exact e_iconst d145_15 rfl,
  by intro ls st h Q x y; exact e_iadd d145_16,
  by intro ls st n sl C Z I L R Q i x; exact e_putI (g := 10) (s := 14) d145_17 rfl (Or.inl rfl) (inG_ne (by decide)),
  by intro ls st h Q i; exact e_aload_n d145_20 rfl,
  by intro ls st n sl C Z I L R Q i; exact e_get (g := 10) (s := 3) (ty := 2) d145_21 rfl rfl (inG_ne (by decide)),
  by intro ls st h Q l0 x; exact e_iload_n d145_24 rfl,
  by intro ls st n sl C Z I L R Q i y; exact e_iald d145_25,
  by intro ls st h Q x; exact e_i2l d145_26,
  by intro ls st n sl C Z I L R Q i y a; exact e_last d145_27,
  by intro ls st h Q; exact e_iconst d145_28 rfl,
  by intro ls st h Q l0 l1 l2 x; exact e_istore_n d145_29 rfl,
  by intro ls st h Q l0 l1 x; exact e_iload_n d145_30 rfl,
  by intro ls st h Q i; exact e_aload_n d145_31 rfl,
  by intro ls st n sl C Z I L R Q i; exact e_get (g := 10) (s := 2) (ty := 2) d145_32 rfl rfl (inG_ne (by decide)),
  by intro ls st h Q l0 x; exact e_iload_n d145_35 rfl⟩
set_option maxRecDepth 20000 in
theorem S145_1 : (∀ (ls : Lo) (st : List Value) (n sl : Nat) (C Z : Nat → Nat) (I : Nat → Nat → Int32) (L : Nat → Nat → Int64) (R : Nat → Nat → Nat) (Q : Option Value → Hp → Prop) (i : Nat) (y : Int32), Wp 145 36 (ls) (.int y :: .ref i :: st) (n, sl, C, Z, I, L, R) Q ↔ ((inb y (Z i) = true ∧ C i = 21) ∧ Wp 145 37 (ls) (.int (I i (ix y)) :: st) (n, sl, C, Z, I, L, R) Q)) ∧
  (∀ (ls : Lo) (st : List Value) (h : Hp) (Q : Option Value → Hp → Prop) (x y : Int32), Wp 145 37 (ls) (.int y :: .int x :: st) h Q ↔ Br 145 88 40 ls st h Q (y ≤ x)) ∧
  (∀ (ls : Lo) (st : List Value) (h : Hp) (Q : Option Value → Hp → Prop), Wp 145 40 (ls) (st) h Q ↔ Wp 145 41 (ls) (.int (0) :: st) h Q) ∧
  (∀ (ls : Lo) (st : List Value) (h : Hp) (Q : Option Value → Hp → Prop) (l0 l1 l2 l3 : Option Value) (x : Int32), Wp 145 41 (l0 :: l1 :: l2 :: l3 :: ls) (.int x :: st) h Q ↔ Wp 145 42 (l0 :: l1 :: clr l2 :: some (.int x) :: ls) (st) h Q) ∧
  (∀ (ls : Lo) (st : List Value) (h : Hp) (Q : Option Value → Hp → Prop) (l0 l1 l2 : Option Value) (x : Int32), Wp 145 42 (l0 :: l1 :: l2 :: some (.int x) :: ls) (st) h Q ↔ Wp 145 43 (l0 :: l1 :: l2 :: some (.int x) :: ls) (.int x :: st) h Q) ∧
  (∀ (ls : Lo) (st : List Value) (h : Hp) (Q : Option Value → Hp → Prop)  (i : Nat), Wp 145 43 (some (.ref i) :: ls) (st) h Q ↔ Wp 145 44 (some (.ref i) :: ls) (.ref i :: st) h Q) ∧
  (∀ (ls : Lo) (st : List Value) (n sl : Nat) (C Z : Nat → Nat) (I : Nat → Nat → Int32) (L : Nat → Nat → Int64) (R : Nat → Nat → Nat) (Q : Option Value → Hp → Prop) (i : Nat), Wp 145 44 (ls) (.ref i :: st) (n, sl, C, Z, I, L, R) Q ↔ (C i = 11 ∧ Wp 145 47 (ls) (.ref (R i 2) :: st) (n, sl, C, Z, I, L, R) Q)) ∧
  (∀ (ls : Lo) (st : List Value) (h : Hp) (Q : Option Value → Hp → Prop) (l0 : Option Value) (x : Int32), Wp 145 47 (l0 :: some (.int x) :: ls) (st) h Q ↔ Wp 145 48 (l0 :: some (.int x) :: ls) (.int x :: st) h Q) ∧
  (∀ (ls : Lo) (st : List Value) (n sl : Nat) (C Z : Nat → Nat) (I : Nat → Nat → Int32) (L : Nat → Nat → Int64) (R : Nat → Nat → Nat) (Q : Option Value → Hp → Prop) (i : Nat) (y : Int32), Wp 145 48 (ls) (.int y :: .ref i :: st) (n, sl, C, Z, I, L, R) Q ↔ ((inb y (Z i) = true ∧ C i = 21) ∧ Wp 145 49 (ls) (.int (I i (ix y)) :: st) (n, sl, C, Z, I, L, R) Q)) ∧
  (∀ (ls : Lo) (st : List Value) (h : Hp) (Q : Option Value → Hp → Prop) (x y : Int32), Wp 145 49 (ls) (.int y :: .int x :: st) h Q ↔ Br 145 82 52 ls st h Q (y ≤ x)) ∧
  (∀ (ls : Lo) (st : List Value) (h : Hp) (Q : Option Value → Hp → Prop)  (i : Nat), Wp 145 52 (some (.ref i) :: ls) (st) h Q ↔ Wp 145 53 (some (.ref i) :: ls) (.ref i :: st) h Q) ∧
  (∀ (ls : Lo) (st : List Value) (n sl : Nat) (C Z : Nat → Nat) (I : Nat → Nat → Int32) (L : Nat → Nat → Int64) (R : Nat → Nat → Nat) (Q : Option Value → Hp → Prop) (i : Nat), Wp 145 53 (ls) (.ref i :: st) (n, sl, C, Z, I, L, R) Q ↔ (C i = 11 ∧ Wp 145 56 (ls) (.ref (R i 12) :: st) (n, sl, C, Z, I, L, R) Q)) ∧
  (∀ (ls : Lo) (st : List Value) (h : Hp) (Q : Option Value → Hp → Prop)  (i : Nat), Wp 145 56 (some (.ref i) :: ls) (st) h Q ↔ Wp 145 57 (some (.ref i) :: ls) (.ref i :: st) h Q) ∧
  (∀ (ls : Lo) (st : List Value) (h : Hp) (Q : Option Value → Hp → Prop) (x : Int32), Wp 145 57 (ls) (.int x :: st) h Q ↔ Wp 145 58 (ls) (.int x :: .int x :: st) h Q) ∧
  (∀ (ls : Lo) (st : List Value) (h : Hp) (Q : Option Value → Hp → Prop) (i : Nat), Wp 145 57 (ls) (.ref i :: st) h Q ↔ Wp 145 58 (ls) (.ref i :: .ref i :: st) h Q) ∧
  (∀ (ls : Lo) (st : List Value) (n sl : Nat) (C Z : Nat → Nat) (I : Nat → Nat → Int32) (L : Nat → Nat → Int64) (R : Nat → Nat → Nat) (Q : Option Value → Hp → Prop) (i : Nat), Wp 145 58 (ls) (.ref i :: st) (n, sl, C, Z, I, L, R) Q ↔ (C i = 11 ∧ Wp 145 61 (ls) (.int (I i 14) :: st) (n, sl, C, Z, I, L, R) Q)) ∧
  (∀ (ls : Lo) (st : List Value) (h : Hp) (Q : Option Value → Hp → Prop) (x : Int32) (i : Nat), Wp 145 61 (ls) (.int x :: .ref i :: st) h Q ↔ Wp 145 62 (ls) (.int x :: .ref i :: .int x :: st) h Q) ∧
  (∀ (ls : Lo) (st : List Value) (h : Hp) (Q : Option Value → Hp → Prop), Wp 145 62 (ls) (st) h Q ↔ Wp 145 63 (ls) (.int (1) :: st) h Q) ∧
  (∀ (ls : Lo) (st : List Value) (h : Hp) (Q : Option Value → Hp → Prop) (x y : Int32), Wp 145 63 (ls) (.int y :: .int x :: st) h Q ↔ Wp 145 64 (ls) (.int (x + y) :: st) h Q) ∧
  (∀ (ls : Lo) (st : List Value) (n sl : Nat) (C Z : Nat → Nat) (I : Nat → Nat → Int32) (L : Nat → Nat → Int64) (R : Nat → Nat → Nat) (Q : Option Value → Hp → Prop) (i : Nat) (x : Int32), Wp 145 64 (ls) (.int x :: .ref i :: st) (n, sl, C, Z, I, L, R) Q ↔ (C i = 11 ∧ Wp 145 67 (ls) (st) (n, sl, C, Z, u2 I i 14 x, L, R) Q)) ∧
  (∀ (ls : Lo) (st : List Value) (h : Hp) (Q : Option Value → Hp → Prop)  (i : Nat), Wp 145 67 (some (.ref i) :: ls) (st) h Q ↔ Wp 145 68 (some (.ref i) :: ls) (.ref i :: st) h Q) ∧
  (∀ (ls : Lo) (st : List Value) (h : Hp) (Q : Option Value → Hp → Prop) (l0 : Option Value) (x : Int32), Wp 145 68 (l0 :: some (.int x) :: ls) (st) h Q ↔ Wp 145 69 (l0 :: some (.int x) :: ls) (.int x :: st) h Q) ∧
  (∀ (ls : Lo) (st : List Value) (h : Hp) (Q : Option Value → Hp → Prop) (l0 l1 : Option Value) (x : Int32), Wp 145 69 (l0 :: l1 :: some (.int x) :: ls) (st) h Q ↔ Wp 145 70 (l0 :: l1 :: some (.int x) :: ls) (.int x :: st) h Q) ∧
  (∀ (ls : Lo) (st : List Value) (h : Hp) (Q : Option Value → Hp → Prop) (l0 l1 l2 : Option Value) (x : Int32), Wp 145 70 (l0 :: l1 :: l2 :: some (.int x) :: ls) (st) h Q ↔ Wp 145 71 (l0 :: l1 :: l2 :: some (.int x) :: ls) (.int x :: st) h Q) ∧
  (∀ (ls : Lo) (st : List Value) (n sl : Nat) (C Z : Nat → Nat) (I : Nat → Nat → Int32) (L : Nat → Nat → Int64) (R : Nat → Nat → Nat) (Q : Option Value → Hp → Prop) (x0 : Int32) (x1 : Int32) (x2 : Int32) (i : Nat), C i = 11 → (Wp 145 71 (ls) (.int x2 :: .int x1 :: .int x0 :: .ref i :: st) (n, sl, C, Z, I, L, R) Q ↔ (wsum st ≤ 8 ∧ Call 104 [some (.ref i), some (.int x0), some (.int x1), some (.int x2)] (n, sl, C, Z, I, L, R) 145 74 ls st Q))) := ⟨by intro ls st n sl C Z I L R Q i y; exact e_iald d145_36,
  by intro ls st h Q x y; exact e_ic d145_37 (by decide) c_ge,
  by intro ls st h Q; exact e_iconst d145_40 rfl,
  by intro ls st h Q l0 l1 l2 l3 x; exact e_istore_n d145_41 rfl,
  by intro ls st h Q l0 l1 l2 x; exact e_iload_n d145_42 rfl,
  by intro ls st h Q i; exact e_aload_n d145_43 rfl,
  by intro ls st n sl C Z I L R Q i; exact e_get (g := 10) (s := 2) (ty := 2) d145_44 rfl rfl (inG_ne (by decide)),
  by intro ls st h Q l0 x; exact e_iload_n d145_47 rfl,
  by intro ls st n sl C Z I L R Q i y; exact e_iald d145_48,
  by intro ls st h Q x y; exact e_ic d145_49 (by decide) c_ge,
  by intro ls st h Q i; exact e_aload_n d145_52 rfl,
  by intro ls st n sl C Z I L R Q i; exact e_get (g := 10) (s := 12) (ty := 2) d145_53 rfl rfl (inG_ne (by decide)),
  by intro ls st h Q i; exact e_aload_n d145_56 rfl,
  by intro ls st h Q x; exact e_dupI d145_57,
  by intro ls st h Q i; exact e_dupR d145_57,
  by intro ls st n sl C Z I L R Q i; exact e_get (g := 10) (s := 14) (ty := 0) d145_58 rfl rfl (inG_ne (by decide)),
  by intro ls st h Q x i; exact e_dx1 d145_61,
  by intro ls st h Q; exact e_iconst d145_62 rfl,
  by intro ls st h Q x y; exact e_iadd d145_63,
  by intro ls st n sl C Z I L R Q i x; exact e_putI (g := 10) (s := 14) d145_64 rfl (Or.inl rfl) (inG_ne (by decide)),
  by intro ls st h Q i; exact e_aload_n d145_67 rfl,
  by intro ls st h Q l0 x; exact e_iload_n d145_68 rfl,
  by intro ls st h Q l0 l1 x; exact e_iload_n d145_69 rfl,
  by intro ls st h Q l0 l1 l2 x; exact e_iload_n d145_70 rfl,
  by intro ls st n sl C Z I L R Q x0 x1 x2 i hh; exact e_iv (k2 := 104) (c := 11) (as := [.int x0, .int x1, .int x2]) d145_71 rfl (by decide) rfl rfl (by decide +kernel) (Nat.le_of_ble_eq_true rfl) rfl hh⟩
set_option maxRecDepth 20000 in
theorem S145_2 : (∀ (ls : Lo) (st : List Value) (h : Hp) (Q : Option Value → Hp → Prop) (x : Int32), Wp 145 74 (ls) (.int x :: st) h Q ↔ Wp 145 75 (ls) (.long x.toInt64 :: st) h Q) ∧
  (∀ (ls : Lo) (st : List Value) (n sl : Nat) (C Z : Nat → Nat) (I : Nat → Nat → Int32) (L : Nat → Nat → Int64) (R : Nat → Nat → Nat) (Q : Option Value → Hp → Prop) (i : Nat) (y : Int32) (a : Int64), Wp 145 75 (ls) (.long a :: .int y :: .ref i :: st) (n, sl, C, Z, I, L, R) Q ↔ ((inb y (Z i) = true ∧ C i = 22) ∧ Wp 145 76 (ls) (st) (n, sl, C, Z, I, u2 L i (ix y) a, R) Q)) ∧
  (∀ (ls : Lo) (st : List Value) (h : Hp) (Q : Option Value → Hp → Prop) (l0 l1 l2 : Option Value) (x : Int32), Wp 145 76 (l0 :: l1 :: l2 :: some (.int x) :: ls) (st) h Q ↔ Wp 145 79 (l0 :: l1 :: clr l2 :: some (.int (x + (1))) :: ls) (st) h Q) ∧
  (∀ (ls : Lo) (st : List Value) (h : Hp) (Q : Option Value → Hp → Prop), Wp 145 79 (ls) (st) h Q ↔ Wp 145 42 (ls) (st) h Q) ∧
  (∀ (ls : Lo) (st : List Value) (h : Hp) (Q : Option Value → Hp → Prop) (l0 l1 : Option Value) (x : Int32), Wp 145 82 (l0 :: l1 :: some (.int x) :: ls) (st) h Q ↔ Wp 145 85 (l0 :: clr l1 :: some (.int (x + (1))) :: ls) (st) h Q) ∧
  (∀ (ls : Lo) (st : List Value) (h : Hp) (Q : Option Value → Hp → Prop), Wp 145 85 (ls) (st) h Q ↔ Wp 145 30 (ls) (st) h Q) ∧
  (∀ (ls : Lo) (st : List Value) (h : Hp) (Q : Option Value → Hp → Prop), Wp 145 88 (ls) (st) h Q ↔ Wp 145 89 (ls) (.int (0) :: st) h Q) ∧
  (∀ (ls : Lo) (st : List Value) (h : Hp) (Q : Option Value → Hp → Prop) (l0 l1 l2 : Option Value) (x : Int32), Wp 145 89 (l0 :: l1 :: l2 :: ls) (.int x :: st) h Q ↔ Wp 145 90 (l0 :: clr l1 :: some (.int x) :: ls) (st) h Q) ∧
  (∀ (ls : Lo) (st : List Value) (h : Hp) (Q : Option Value → Hp → Prop) (l0 l1 : Option Value) (x : Int32), Wp 145 90 (l0 :: l1 :: some (.int x) :: ls) (st) h Q ↔ Wp 145 91 (l0 :: l1 :: some (.int x) :: ls) (.int x :: st) h Q) ∧
  (∀ (ls : Lo) (st : List Value) (h : Hp) (Q : Option Value → Hp → Prop)  (i : Nat), Wp 145 91 (some (.ref i) :: ls) (st) h Q ↔ Wp 145 92 (some (.ref i) :: ls) (.ref i :: st) h Q) ∧
  (∀ (ls : Lo) (st : List Value) (n sl : Nat) (C Z : Nat → Nat) (I : Nat → Nat → Int32) (L : Nat → Nat → Int64) (R : Nat → Nat → Nat) (Q : Option Value → Hp → Prop) (i : Nat), Wp 145 92 (ls) (.ref i :: st) (n, sl, C, Z, I, L, R) Q ↔ (C i = 11 ∧ Wp 145 95 (ls) (.ref (R i 2) :: st) (n, sl, C, Z, I, L, R) Q)) ∧
  (∀ (ls : Lo) (st : List Value) (h : Hp) (Q : Option Value → Hp → Prop) (l0 : Option Value) (x : Int32), Wp 145 95 (l0 :: some (.int x) :: ls) (st) h Q ↔ Wp 145 96 (l0 :: some (.int x) :: ls) (.int x :: st) h Q) ∧
  (∀ (ls : Lo) (st : List Value) (n sl : Nat) (C Z : Nat → Nat) (I : Nat → Nat → Int32) (L : Nat → Nat → Int64) (R : Nat → Nat → Nat) (Q : Option Value → Hp → Prop) (i : Nat) (y : Int32), Wp 145 96 (ls) (.int y :: .ref i :: st) (n, sl, C, Z, I, L, R) Q ↔ ((inb y (Z i) = true ∧ C i = 21) ∧ Wp 145 97 (ls) (.int (I i (ix y)) :: st) (n, sl, C, Z, I, L, R) Q)) ∧
  (∀ (ls : Lo) (st : List Value) (h : Hp) (Q : Option Value → Hp → Prop)  (i : Nat), Wp 145 97 (some (.ref i) :: ls) (st) h Q ↔ Wp 145 98 (some (.ref i) :: ls) (.ref i :: st) h Q) ∧
  (∀ (ls : Lo) (st : List Value) (n sl : Nat) (C Z : Nat → Nat) (I : Nat → Nat → Int32) (L : Nat → Nat → Int64) (R : Nat → Nat → Nat) (Q : Option Value → Hp → Prop) (i : Nat), Wp 145 98 (ls) (.ref i :: st) (n, sl, C, Z, I, L, R) Q ↔ (C i = 11 ∧ Wp 145 101 (ls) (.ref (R i 2) :: st) (n, sl, C, Z, I, L, R) Q)) ∧
  (∀ (ls : Lo) (st : List Value) (h : Hp) (Q : Option Value → Hp → Prop) (l0 : Option Value) (x : Int32), Wp 145 101 (l0 :: some (.int x) :: ls) (st) h Q ↔ Wp 145 102 (l0 :: some (.int x) :: ls) (.int x :: st) h Q) ∧
  (∀ (ls : Lo) (st : List Value) (n sl : Nat) (C Z : Nat → Nat) (I : Nat → Nat → Int32) (L : Nat → Nat → Int64) (R : Nat → Nat → Nat) (Q : Option Value → Hp → Prop) (i : Nat) (y : Int32), Wp 145 102 (ls) (.int y :: .ref i :: st) (n, sl, C, Z, I, L, R) Q ↔ ((inb y (Z i) = true ∧ C i = 21) ∧ Wp 145 103 (ls) (.int (I i (ix y)) :: st) (n, sl, C, Z, I, L, R) Q)) ∧
  (∀ (ls : Lo) (st : List Value) (h : Hp) (Q : Option Value → Hp → Prop), Wp 145 103 (ls) (st) h Q ↔ Wp 145 104 (ls) (.int (1) :: st) h Q) ∧
  (∀ (ls : Lo) (st : List Value) (h : Hp) (Q : Option Value → Hp → Prop) (x y : Int32), Wp 145 104 (ls) (.int y :: .int x :: st) h Q ↔ Wp 145 105 (ls) (.int (x + y) :: st) h Q) ∧
  (∀ (ls : Lo) (st : List Value) (h : Hp) (Q : Option Value → Hp → Prop) (x y : Int32), Wp 145 105 (ls) (.int y :: .int x :: st) h Q ↔ Wp 145 106 (ls) (.int (x * y) :: st) h Q) ∧
  (∀ (ls : Lo) (st : List Value) (h : Hp) (Q : Option Value → Hp → Prop), Wp 145 106 (ls) (st) h Q ↔ Wp 145 107 (ls) (.int (2) :: st) h Q) ∧
  (∀ (ls : Lo) (st : List Value) (h : Hp) (Q : Option Value → Hp → Prop) (x y : Int32), Wp 145 107 (ls) (.int y :: .int x :: st) h Q ↔ (¬ y = 0 ∧ Wp 145 108 (ls) (.int (x / y) :: st) h Q)) ∧
  (∀ (ls : Lo) (st : List Value) (h : Hp) (Q : Option Value → Hp → Prop) (x y : Int32), Wp 145 108 (ls) (.int y :: .int x :: st) h Q ↔ Br 145 189 111 ls st h Q (y ≤ x)) ∧
  (∀ (ls : Lo) (st : List Value) (h : Hp) (Q : Option Value → Hp → Prop) (l0 l1 : Option Value) (x : Int32), Wp 145 111 (l0 :: l1 :: some (.int x) :: ls) (st) h Q ↔ Wp 145 112 (l0 :: l1 :: some (.int x) :: ls) (.int x :: st) h Q) ∧
  (∀ (ls : Lo) (st : List Value) (h : Hp) (Q : Option Value → Hp → Prop), Wp 145 112 (ls) (st) h Q ↔ Wp 145 113 (ls) (.int (2) :: st) h Q) := ⟨by intro ls st h Q x; exact e_i2l d145_74,
  by intro ls st n sl C Z I L R Q i y a; exact e_last d145_75,
  by intro ls st h Q l0 l1 l2 x; exact e_iinc d145_76 rfl rfl rfl,
  by intro ls st h Q; exact e_goto d145_79 (by decide),
  by intro ls st h Q l0 l1 x; exact e_iinc d145_82 rfl rfl rfl,
  by intro ls st h Q; exact e_goto d145_85 (by decide),
  by intro ls st h Q; exact e_iconst d145_88 rfl,
  by intro ls st h Q l0 l1 l2 x; exact e_istore_n d145_89 rfl,
  by intro ls st h Q l0 l1 x; exact e_iload_n d145_90 rfl,
  by intro ls st h Q i; exact e_aload_n d145_91 rfl,
  by intro ls st n sl C Z I L R Q i; exact e_get (g := 10) (s := 2) (ty := 2) d145_92 rfl rfl (inG_ne (by decide)),
  by intro ls st h Q l0 x; exact e_iload_n d145_95 rfl,
  by intro ls st n sl C Z I L R Q i y; exact e_iald d145_96,
  by intro ls st h Q i; exact e_aload_n d145_97 rfl,
  by intro ls st n sl C Z I L R Q i; exact e_get (g := 10) (s := 2) (ty := 2) d145_98 rfl rfl (inG_ne (by decide)),
  by intro ls st h Q l0 x; exact e_iload_n d145_101 rfl,
  by intro ls st n sl C Z I L R Q i y; exact e_iald d145_102,
  by intro ls st h Q; exact e_iconst d145_103 rfl,
  by intro ls st h Q x y; exact e_iadd d145_104,
  by intro ls st h Q x y; exact e_imul d145_105,
  by intro ls st h Q; exact e_iconst d145_106 rfl,
  by intro ls st h Q x y; exact e_idiv d145_107,
  by intro ls st h Q x y; exact e_ic d145_108 (by decide) c_ge,
  by intro ls st h Q l0 l1 x; exact e_iload_n d145_111 rfl,
  by intro ls st h Q; exact e_iconst d145_112 rfl⟩
set_option maxRecDepth 20000 in
theorem S145_3 : (∀ (ls : Lo) (st : List Value) (h : Hp) (Q : Option Value → Hp → Prop) (x y : Int32), Wp 145 113 (ls) (.int y :: .int x :: st) h Q ↔ Br 145 120 116 ls st h Q (¬ x = y)) ∧
  (∀ (ls : Lo) (st : List Value) (h : Hp) (Q : Option Value → Hp → Prop), Wp 145 116 (ls) (st) h Q ↔ Wp 145 117 (ls) (.int (1) :: st) h Q) ∧
  (∀ (ls : Lo) (st : List Value) (h : Hp) (Q : Option Value → Hp → Prop), Wp 145 117 (ls) (st) h Q ↔ Wp 145 121 (ls) (st) h Q) ∧
  (∀ (ls : Lo) (st : List Value) (h : Hp) (Q : Option Value → Hp → Prop), Wp 145 120 (ls) (st) h Q ↔ Wp 145 121 (ls) (.int (0) :: st) h Q) ∧
  (∀ (ls : Lo) (st : List Value) (h : Hp) (Q : Option Value → Hp → Prop) (l0 l1 l2 l3 : Option Value) (x : Int32), Wp 145 121 (l0 :: l1 :: l2 :: l3 :: ls) (.int x :: st) h Q ↔ Wp 145 122 (l0 :: l1 :: clr l2 :: some (.int x) :: ls) (st) h Q) ∧
  (∀ (ls : Lo) (st : List Value) (h : Hp) (Q : Option Value → Hp → Prop) (l0 l1 : Option Value) (x : Int32), Wp 145 122 (l0 :: l1 :: some (.int x) :: ls) (st) h Q ↔ Wp 145 123 (l0 :: l1 :: some (.int x) :: ls) (.int x :: st) h Q) ∧
  (∀ (ls : Lo) (st : List Value) (h : Hp) (Q : Option Value → Hp → Prop) (x : Int32), Wp 145 123 (ls) (.int x :: st) h Q ↔ Br 145 130 126 ls st h Q (¬ x = 0)) ∧
  (∀ (ls : Lo) (st : List Value) (h : Hp) (Q : Option Value → Hp → Prop), Wp 145 126 (ls) (st) h Q ↔ Wp 145 127 (ls) (.int (0) :: st) h Q) ∧
  (∀ (ls : Lo) (st : List Value) (h : Hp) (Q : Option Value → Hp → Prop), Wp 145 127 (ls) (st) h Q ↔ Wp 145 131 (ls) (st) h Q) ∧
  (∀ (ls : Lo) (st : List Value) (h : Hp) (Q : Option Value → Hp → Prop), Wp 145 130 (ls) (st) h Q ↔ Wp 145 131 (ls) (.int (1) :: st) h Q) ∧
  (∀ (ls : Lo) (st : List Value) (h : Hp) (Q : Option Value → Hp → Prop) (l0 l1 l2 l3 l4 : Option Value) (x : Int32), Wp 145 131 (l0 :: l1 :: l2 :: l3 :: l4 :: ls) (.int x :: st) h Q ↔ Wp 145 133 (l0 :: l1 :: l2 :: clr l3 :: some (.int x) :: ls) (st) h Q) ∧
  (∀ (ls : Lo) (st : List Value) (h : Hp) (Q : Option Value → Hp → Prop)  (i : Nat), Wp 145 133 (some (.ref i) :: ls) (st) h Q ↔ Wp 145 134 (some (.ref i) :: ls) (.ref i :: st) h Q) ∧
  (∀ (ls : Lo) (st : List Value) (n sl : Nat) (C Z : Nat → Nat) (I : Nat → Nat → Int32) (L : Nat → Nat → Int64) (R : Nat → Nat → Nat) (Q : Option Value → Hp → Prop) (i : Nat), Wp 145 134 (ls) (.ref i :: st) (n, sl, C, Z, I, L, R) Q ↔ (C i = 11 ∧ Wp 145 137 (ls) (.ref (R i 12) :: st) (n, sl, C, Z, I, L, R) Q)) ∧
  (∀ (ls : Lo) (st : List Value) (h : Hp) (Q : Option Value → Hp → Prop)  (i : Nat), Wp 145 137 (some (.ref i) :: ls) (st) h Q ↔ Wp 145 138 (some (.ref i) :: ls) (.ref i :: st) h Q) ∧
  (∀ (ls : Lo) (st : List Value) (h : Hp) (Q : Option Value → Hp → Prop) (x : Int32), Wp 145 138 (ls) (.int x :: st) h Q ↔ Wp 145 139 (ls) (.int x :: .int x :: st) h Q) ∧
  (∀ (ls : Lo) (st : List Value) (h : Hp) (Q : Option Value → Hp → Prop) (i : Nat), Wp 145 138 (ls) (.ref i :: st) h Q ↔ Wp 145 139 (ls) (.ref i :: .ref i :: st) h Q) ∧
  (∀ (ls : Lo) (st : List Value) (n sl : Nat) (C Z : Nat → Nat) (I : Nat → Nat → Int32) (L : Nat → Nat → Int64) (R : Nat → Nat → Nat) (Q : Option Value → Hp → Prop) (i : Nat), Wp 145 139 (ls) (.ref i :: st) (n, sl, C, Z, I, L, R) Q ↔ (C i = 11 ∧ Wp 145 142 (ls) (.int (I i 14) :: st) (n, sl, C, Z, I, L, R) Q)) ∧
  (∀ (ls : Lo) (st : List Value) (h : Hp) (Q : Option Value → Hp → Prop) (x : Int32) (i : Nat), Wp 145 142 (ls) (.int x :: .ref i :: st) h Q ↔ Wp 145 143 (ls) (.int x :: .ref i :: .int x :: st) h Q) ∧
  (∀ (ls : Lo) (st : List Value) (h : Hp) (Q : Option Value → Hp → Prop), Wp 145 143 (ls) (st) h Q ↔ Wp 145 144 (ls) (.int (1) :: st) h Q) ∧
  (∀ (ls : Lo) (st : List Value) (h : Hp) (Q : Option Value → Hp → Prop) (x y : Int32), Wp 145 144 (ls) (.int y :: .int x :: st) h Q ↔ Wp 145 145 (ls) (.int (x + y) :: st) h Q) ∧
  (∀ (ls : Lo) (st : List Value) (n sl : Nat) (C Z : Nat → Nat) (I : Nat → Nat → Int32) (L : Nat → Nat → Int64) (R : Nat → Nat → Nat) (Q : Option Value → Hp → Prop) (i : Nat) (x : Int32), Wp 145 145 (ls) (.int x :: .ref i :: st) (n, sl, C, Z, I, L, R) Q ↔ (C i = 11 ∧ Wp 145 148 (ls) (st) (n, sl, C, Z, u2 I i 14 x, L, R) Q)) ∧
  (∀ (ls : Lo) (st : List Value) (h : Hp) (Q : Option Value → Hp → Prop)  (i : Nat), Wp 145 148 (some (.ref i) :: ls) (st) h Q ↔ Wp 145 149 (some (.ref i) :: ls) (.ref i :: st) h Q) ∧
  (∀ (ls : Lo) (st : List Value) (h : Hp) (Q : Option Value → Hp → Prop) (l0 : Option Value) (x : Int32), Wp 145 149 (l0 :: some (.int x) :: ls) (st) h Q ↔ Wp 145 150 (l0 :: some (.int x) :: ls) (.int x :: st) h Q) ∧
  (∀ (ls : Lo) (st : List Value) (h : Hp) (Q : Option Value → Hp → Prop) (l0 l1 l2 : Option Value) (x : Int32), Wp 145 150 (l0 :: l1 :: l2 :: some (.int x) :: ls) (st) h Q ↔ Wp 145 151 (l0 :: l1 :: l2 :: some (.int x) :: ls) (.int x :: st) h Q) ∧
  (∀ (ls : Lo) (st : List Value) (h : Hp) (Q : Option Value → Hp → Prop) (l0 l1 l2 l3 : Option Value) (x : Int32), Wp 145 151 (l0 :: l1 :: l2 :: l3 :: some (.int x) :: ls) (st) h Q ↔ Wp 145 153 (l0 :: l1 :: l2 :: l3 :: some (.int x) :: ls) (.int x :: st) h Q) := ⟨by intro ls st h Q x y; exact e_ic d145_113 (by decide) c_ne,
  by intro ls st h Q; exact e_iconst d145_116 rfl,
  by intro ls st h Q; exact e_goto d145_117 (by decide),
  by intro ls st h Q; exact e_iconst d145_120 rfl,
  by intro ls st h Q l0 l1 l2 l3 x; exact e_istore_n d145_121 rfl,
  by intro ls st h Q l0 l1 x; exact e_iload_n d145_122 rfl,
  by intro ls st h Q x; exact e_if d145_123 (by decide) c_ne,
  by intro ls st h Q; exact e_iconst d145_126 rfl,
  by intro ls st h Q; exact e_goto d145_127 (by decide),
  by intro ls st h Q; exact e_iconst d145_130 rfl,
  by intro ls st h Q l0 l1 l2 l3 l4 x; exact e_istore d145_131 rfl,
  by intro ls st h Q i; exact e_aload_n d145_133 rfl,
  by intro ls st n sl C Z I L R Q i; exact e_get (g := 10) (s := 12) (ty := 2) d145_134 rfl rfl (inG_ne (by decide)),
  by intro ls st h Q i; exact e_aload_n d145_137 rfl,
  by intro ls st h Q x; exact e_dupI d145_138,
  by intro ls st h Q i; exact e_dupR d145_138,
  by intro ls st n sl C Z I L R Q i; exact e_get (g := 10) (s := 14) (ty := 0) d145_139 rfl rfl (inG_ne (by decide)),
  by intro ls st h Q x i; exact e_dx1 d145_142,
  by intro ls st h Q; exact e_iconst d145_143 rfl,
  by intro ls st h Q x y; exact e_iadd d145_144,
  by intro ls st n sl C Z I L R Q i x; exact e_putI (g := 10) (s := 14) d145_145 rfl (Or.inl rfl) (inG_ne (by decide)),
  by intro ls st h Q i; exact e_aload_n d145_148 rfl,
  by intro ls st h Q l0 x; exact e_iload_n d145_149 rfl,
  by intro ls st h Q l0 l1 l2 x; exact e_iload_n d145_150 rfl,
  by intro ls st h Q l0 l1 l2 l3 x; exact e_iload d145_151 rfl⟩
set_option maxRecDepth 20000 in
theorem S145_4 : (∀ (ls : Lo) (st : List Value) (h : Hp) (Q : Option Value → Hp → Prop), Wp 145 153 (ls) (st) h Q ↔ Wp 145 154 (ls) (.int (0) :: st) h Q) ∧
  (∀ (ls : Lo) (st : List Value) (n sl : Nat) (C Z : Nat → Nat) (I : Nat → Nat → Int32) (L : Nat → Nat → Int64) (R : Nat → Nat → Nat) (Q : Option Value → Hp → Prop) (x0 : Int32) (x1 : Int32) (x2 : Int32) (x3 : Int32) (i : Nat), C i = 11 → (Wp 145 154 (ls) (.int x3 :: .int x2 :: .int x1 :: .int x0 :: .ref i :: st) (n, sl, C, Z, I, L, R) Q ↔ (wsum st ≤ 8 ∧ Call 144 [some (.ref i), some (.int x0), some (.int x1), some (.int x2), some (.int x3)] (n, sl, C, Z, I, L, R) 145 157 ls st Q))) ∧
  (∀ (ls : Lo) (st : List Value) (n sl : Nat) (C Z : Nat → Nat) (I : Nat → Nat → Int32) (L : Nat → Nat → Int64) (R : Nat → Nat → Nat) (Q : Option Value → Hp → Prop) (i : Nat) (y : Int32) (a : Int64), Wp 145 157 (ls) (.long a :: .int y :: .ref i :: st) (n, sl, C, Z, I, L, R) Q ↔ ((inb y (Z i) = true ∧ C i = 22) ∧ Wp 145 158 (ls) (st) (n, sl, C, Z, I, u2 L i (ix y) a, R) Q)) ∧
  (∀ (ls : Lo) (st : List Value) (h : Hp) (Q : Option Value → Hp → Prop)  (i : Nat), Wp 145 158 (some (.ref i) :: ls) (st) h Q ↔ Wp 145 159 (some (.ref i) :: ls) (.ref i :: st) h Q) ∧
  (∀ (ls : Lo) (st : List Value) (n sl : Nat) (C Z : Nat → Nat) (I : Nat → Nat → Int32) (L : Nat → Nat → Int64) (R : Nat → Nat → Nat) (Q : Option Value → Hp → Prop) (i : Nat), Wp 145 159 (ls) (.ref i :: st) (n, sl, C, Z, I, L, R) Q ↔ (C i = 11 ∧ Wp 145 162 (ls) (.ref (R i 12) :: st) (n, sl, C, Z, I, L, R) Q)) ∧
  (∀ (ls : Lo) (st : List Value) (h : Hp) (Q : Option Value → Hp → Prop)  (i : Nat), Wp 145 162 (some (.ref i) :: ls) (st) h Q ↔ Wp 145 163 (some (.ref i) :: ls) (.ref i :: st) h Q) ∧
  (∀ (ls : Lo) (st : List Value) (h : Hp) (Q : Option Value → Hp → Prop) (x : Int32), Wp 145 163 (ls) (.int x :: st) h Q ↔ Wp 145 164 (ls) (.int x :: .int x :: st) h Q) ∧
  (∀ (ls : Lo) (st : List Value) (h : Hp) (Q : Option Value → Hp → Prop) (i : Nat), Wp 145 163 (ls) (.ref i :: st) h Q ↔ Wp 145 164 (ls) (.ref i :: .ref i :: st) h Q) ∧
  (∀ (ls : Lo) (st : List Value) (n sl : Nat) (C Z : Nat → Nat) (I : Nat → Nat → Int32) (L : Nat → Nat → Int64) (R : Nat → Nat → Nat) (Q : Option Value → Hp → Prop) (i : Nat), Wp 145 164 (ls) (.ref i :: st) (n, sl, C, Z, I, L, R) Q ↔ (C i = 11 ∧ Wp 145 167 (ls) (.int (I i 14) :: st) (n, sl, C, Z, I, L, R) Q)) ∧
  (∀ (ls : Lo) (st : List Value) (h : Hp) (Q : Option Value → Hp → Prop) (x : Int32) (i : Nat), Wp 145 167 (ls) (.int x :: .ref i :: st) h Q ↔ Wp 145 168 (ls) (.int x :: .ref i :: .int x :: st) h Q) ∧
  (∀ (ls : Lo) (st : List Value) (h : Hp) (Q : Option Value → Hp → Prop), Wp 145 168 (ls) (st) h Q ↔ Wp 145 169 (ls) (.int (1) :: st) h Q) ∧
  (∀ (ls : Lo) (st : List Value) (h : Hp) (Q : Option Value → Hp → Prop) (x y : Int32), Wp 145 169 (ls) (.int y :: .int x :: st) h Q ↔ Wp 145 170 (ls) (.int (x + y) :: st) h Q) ∧
  (∀ (ls : Lo) (st : List Value) (n sl : Nat) (C Z : Nat → Nat) (I : Nat → Nat → Int32) (L : Nat → Nat → Int64) (R : Nat → Nat → Nat) (Q : Option Value → Hp → Prop) (i : Nat) (x : Int32), Wp 145 170 (ls) (.int x :: .ref i :: st) (n, sl, C, Z, I, L, R) Q ↔ (C i = 11 ∧ Wp 145 173 (ls) (st) (n, sl, C, Z, u2 I i 14 x, L, R) Q)) ∧
  (∀ (ls : Lo) (st : List Value) (h : Hp) (Q : Option Value → Hp → Prop)  (i : Nat), Wp 145 173 (some (.ref i) :: ls) (st) h Q ↔ Wp 145 174 (some (.ref i) :: ls) (.ref i :: st) h Q) ∧
  (∀ (ls : Lo) (st : List Value) (h : Hp) (Q : Option Value → Hp → Prop) (l0 : Option Value) (x : Int32), Wp 145 174 (l0 :: some (.int x) :: ls) (st) h Q ↔ Wp 145 175 (l0 :: some (.int x) :: ls) (.int x :: st) h Q) ∧
  (∀ (ls : Lo) (st : List Value) (h : Hp) (Q : Option Value → Hp → Prop) (l0 l1 l2 : Option Value) (x : Int32), Wp 145 175 (l0 :: l1 :: l2 :: some (.int x) :: ls) (st) h Q ↔ Wp 145 176 (l0 :: l1 :: l2 :: some (.int x) :: ls) (.int x :: st) h Q) ∧
  (∀ (ls : Lo) (st : List Value) (h : Hp) (Q : Option Value → Hp → Prop) (l0 l1 l2 l3 : Option Value) (x : Int32), Wp 145 176 (l0 :: l1 :: l2 :: l3 :: some (.int x) :: ls) (st) h Q ↔ Wp 145 178 (l0 :: l1 :: l2 :: l3 :: some (.int x) :: ls) (.int x :: st) h Q) ∧
  (∀ (ls : Lo) (st : List Value) (h : Hp) (Q : Option Value → Hp → Prop), Wp 145 178 (ls) (st) h Q ↔ Wp 145 179 (ls) (.int (1) :: st) h Q) ∧
  (∀ (ls : Lo) (st : List Value) (n sl : Nat) (C Z : Nat → Nat) (I : Nat → Nat → Int32) (L : Nat → Nat → Int64) (R : Nat → Nat → Nat) (Q : Option Value → Hp → Prop) (x0 : Int32) (x1 : Int32) (x2 : Int32) (x3 : Int32) (i : Nat), C i = 11 → (Wp 145 179 (ls) (.int x3 :: .int x2 :: .int x1 :: .int x0 :: .ref i :: st) (n, sl, C, Z, I, L, R) Q ↔ (wsum st ≤ 8 ∧ Call 144 [some (.ref i), some (.int x0), some (.int x1), some (.int x2), some (.int x3)] (n, sl, C, Z, I, L, R) 145 182 ls st Q))) ∧
  (∀ (ls : Lo) (st : List Value) (n sl : Nat) (C Z : Nat → Nat) (I : Nat → Nat → Int32) (L : Nat → Nat → Int64) (R : Nat → Nat → Nat) (Q : Option Value → Hp → Prop) (i : Nat) (y : Int32) (a : Int64), Wp 145 182 (ls) (.long a :: .int y :: .ref i :: st) (n, sl, C, Z, I, L, R) Q ↔ ((inb y (Z i) = true ∧ C i = 22) ∧ Wp 145 183 (ls) (st) (n, sl, C, Z, I, u2 L i (ix y) a, R) Q)) ∧
  (∀ (ls : Lo) (st : List Value) (h : Hp) (Q : Option Value → Hp → Prop) (l0 l1 : Option Value) (x : Int32), Wp 145 183 (l0 :: l1 :: some (.int x) :: ls) (st) h Q ↔ Wp 145 186 (l0 :: clr l1 :: some (.int (x + (1))) :: ls) (st) h Q) ∧
  (∀ (ls : Lo) (st : List Value) (h : Hp) (Q : Option Value → Hp → Prop), Wp 145 186 (ls) (st) h Q ↔ Wp 145 90 (ls) (st) h Q) ∧
  (∀ (ls : Lo) (h : Hp) (Q : Option Value → Hp → Prop), Wp 145 189 (ls) ([]) h Q ↔ Q none h) := ⟨by intro ls st h Q; exact e_iconst d145_153 rfl,
  by intro ls st n sl C Z I L R Q x0 x1 x2 x3 i hh; exact e_iv (k2 := 144) (c := 11) (as := [.int x0, .int x1, .int x2, .int x3]) d145_154 rfl (by decide) rfl rfl (by decide +kernel) (Nat.le_of_ble_eq_true rfl) rfl hh,
  by intro ls st n sl C Z I L R Q i y a; exact e_last d145_157,
  by intro ls st h Q i; exact e_aload_n d145_158 rfl,
  by intro ls st n sl C Z I L R Q i; exact e_get (g := 10) (s := 12) (ty := 2) d145_159 rfl rfl (inG_ne (by decide)),
  by intro ls st h Q i; exact e_aload_n d145_162 rfl,
  by intro ls st h Q x; exact e_dupI d145_163,
  by intro ls st h Q i; exact e_dupR d145_163,
  by intro ls st n sl C Z I L R Q i; exact e_get (g := 10) (s := 14) (ty := 0) d145_164 rfl rfl (inG_ne (by decide)),
  by intro ls st h Q x i; exact e_dx1 d145_167,
  by intro ls st h Q; exact e_iconst d145_168 rfl,
  by intro ls st h Q x y; exact e_iadd d145_169,
  by intro ls st n sl C Z I L R Q i x; exact e_putI (g := 10) (s := 14) d145_170 rfl (Or.inl rfl) (inG_ne (by decide)),
  by intro ls st h Q i; exact e_aload_n d145_173 rfl,
  by intro ls st h Q l0 x; exact e_iload_n d145_174 rfl,
  by intro ls st h Q l0 l1 l2 x; exact e_iload_n d145_175 rfl,
  by intro ls st h Q l0 l1 l2 l3 x; exact e_iload d145_176 rfl,
  by intro ls st h Q; exact e_iconst d145_178 rfl,
  by intro ls st n sl C Z I L R Q x0 x1 x2 x3 i hh; exact e_iv (k2 := 144) (c := 11) (as := [.int x0, .int x1, .int x2, .int x3]) d145_179 rfl (by decide) rfl rfl (by decide +kernel) (Nat.le_of_ble_eq_true rfl) rfl hh,
  by intro ls st n sl C Z I L R Q i y a; exact e_last d145_182,
  by intro ls st h Q l0 l1 x; exact e_iinc d145_183 rfl rfl rfl,
  by intro ls st h Q; exact e_goto d145_186 (by decide),
  by intros; exact e_rV d145_189 rfl⟩
theorem d146_0 : decode (byt 146) 0 = .ok (.aload_n 0, 1) := by decide +kernel
theorem d146_1 : decode (byt 146) 1 = .ok (.iload_n 1, 1) := by decide +kernel
theorem d146_2 : decode (byt 146) 2 = .ok (.invokevirtual 105, 3) := by decide +kernel
theorem d146_5 : decode (byt 146) 5 = .ok (.ifCond .ne 6, 3) := by decide +kernel
theorem d146_8 : decode (byt 146) 8 = .ok (.bipush (-2), 2) := by decide +kernel
theorem d146_10 : decode (byt 146) 10 = .ok (.ireturn, 1) := by decide +kernel
theorem d146_11 : decode (byt 146) 11 = .ok (.aload_n 0, 1) := by decide +kernel
theorem d146_12 : decode (byt 146) 12 = .ok (.iload_n 1, 1) := by decide +kernel
theorem d146_13 : decode (byt 146) 13 = .ok (.invokevirtual 166, 3) := by decide +kernel
theorem d146_16 : decode (byt 146) 16 = .ok (.ifCond .ne 6, 3) := by decide +kernel
theorem d146_19 : decode (byt 146) 19 = .ok (.bipush (-3), 2) := by decide +kernel
theorem d146_21 : decode (byt 146) 21 = .ok (.ireturn, 1) := by decide +kernel
theorem d146_22 : decode (byt 146) 22 = .ok (.aload_n 0, 1) := by decide +kernel
theorem d146_23 : decode (byt 146) 23 = .ok (.iload_n 1, 1) := by decide +kernel
theorem d146_24 : decode (byt 146) 24 = .ok (.invokevirtual 200, 3) := by decide +kernel
theorem d146_27 : decode (byt 146) 27 = .ok (.iconst 0, 1) := by decide +kernel
theorem d146_28 : decode (byt 146) 28 = .ok (.istore_n 2, 1) := by decide +kernel
theorem d146_29 : decode (byt 146) 29 = .ok (.iload_n 2, 1) := by decide +kernel
theorem d146_30 : decode (byt 146) 30 = .ok (.aload_n 0, 1) := by decide +kernel
theorem d146_31 : decode (byt 146) 31 = .ok (.getfield 193, 3) := by decide +kernel
theorem d146_34 : decode (byt 146) 34 = .ok (.if_icmp .ge 21, 3) := by decide +kernel
theorem d146_37 : decode (byt 146) 37 = .ok (.aload_n 0, 1) := by decide +kernel
theorem d146_38 : decode (byt 146) 38 = .ok (.getfield 40, 3) := by decide +kernel
theorem d146_41 : decode (byt 146) 41 = .ok (.iload_n 2, 1) := by decide +kernel
theorem d146_42 : decode (byt 146) 42 = .ok (.aload_n 0, 1) := by decide +kernel
theorem d146_43 : decode (byt 146) 43 = .ok (.getfield 44, 3) := by decide +kernel
theorem d146_46 : decode (byt 146) 46 = .ok (.iload_n 2, 1) := by decide +kernel
theorem d146_47 : decode (byt 146) 47 = .ok (.laload, 1) := by decide +kernel
theorem d146_48 : decode (byt 146) 48 = .ok (.lastore, 1) := by decide +kernel
theorem d146_49 : decode (byt 146) 49 = .ok (.iinc 2 1, 3) := by decide +kernel
theorem d146_52 : decode (byt 146) 52 = .ok (.goto (-23), 3) := by decide +kernel
theorem d146_55 : decode (byt 146) 55 = .ok (.aload_n 0, 1) := by decide +kernel
theorem d146_56 : decode (byt 146) 56 = .ok (.aload_n 0, 1) := by decide +kernel
theorem d146_57 : decode (byt 146) 57 = .ok (.getfield 193, 3) := by decide +kernel
theorem d146_60 : decode (byt 146) 60 = .ok (.putfield 203, 3) := by decide +kernel
theorem d146_63 : decode (byt 146) 63 = .ok (.aload_n 0, 1) := by decide +kernel
theorem d146_64 : decode (byt 146) 64 = .ok (.getfield 203, 3) := by decide +kernel
theorem d146_67 : decode (byt 146) 67 = .ok (.ireturn, 1) := by decide +kernel
set_option maxRecDepth 20000 in
theorem S146_0 : (∀ (ls : Lo) (st : List Value) (h : Hp) (Q : Option Value → Hp → Prop)  (i : Nat), Wp 146 0 (some (.ref i) :: ls) (st) h Q ↔ Wp 146 1 (some (.ref i) :: ls) (.ref i :: st) h Q) ∧
  (∀ (ls : Lo) (st : List Value) (h : Hp) (Q : Option Value → Hp → Prop) (l0 : Option Value) (x : Int32), Wp 146 1 (l0 :: some (.int x) :: ls) (st) h Q ↔ Wp 146 2 (l0 :: some (.int x) :: ls) (.int x :: st) h Q) ∧
  (∀ (ls : Lo) (st : List Value) (n sl : Nat) (C Z : Nat → Nat) (I : Nat → Nat → Int32) (L : Nat → Nat → Int64) (R : Nat → Nat → Nat) (Q : Option Value → Hp → Prop) (x0 : Int32) (i : Nat), C i = 11 → (Wp 146 2 (ls) (.int x0 :: .ref i :: st) (n, sl, C, Z, I, L, R) Q ↔ (wsum st ≤ 8 ∧ Call 103 [some (.ref i), some (.int x0)] (n, sl, C, Z, I, L, R) 146 5 ls st Q))) ∧
  (∀ (ls : Lo) (st : List Value) (h : Hp) (Q : Option Value → Hp → Prop) (x : Int32), Wp 146 5 (ls) (.int x :: st) h Q ↔ Br 146 11 8 ls st h Q (¬ x = 0)) ∧
  (∀ (ls : Lo) (st : List Value) (h : Hp) (Q : Option Value → Hp → Prop), Wp 146 8 (ls) (st) h Q ↔ Wp 146 10 (ls) (.int (-2) :: st) h Q) ∧
  (∀ (ls : Lo) (h : Hp) (Q : Option Value → Hp → Prop) (x : Int32), Wp 146 10 (ls) ([.int x]) h Q ↔ Q (some (.int x)) h) ∧
  (∀ (ls : Lo) (st : List Value) (h : Hp) (Q : Option Value → Hp → Prop)  (i : Nat), Wp 146 11 (some (.ref i) :: ls) (st) h Q ↔ Wp 146 12 (some (.ref i) :: ls) (.ref i :: st) h Q) ∧
  (∀ (ls : Lo) (st : List Value) (h : Hp) (Q : Option Value → Hp → Prop) (l0 : Option Value) (x : Int32), Wp 146 12 (l0 :: some (.int x) :: ls) (st) h Q ↔ Wp 146 13 (l0 :: some (.int x) :: ls) (.int x :: st) h Q) ∧
  (∀ (ls : Lo) (st : List Value) (n sl : Nat) (C Z : Nat → Nat) (I : Nat → Nat → Int32) (L : Nat → Nat → Int64) (R : Nat → Nat → Nat) (Q : Option Value → Hp → Prop) (x0 : Int32) (i : Nat), C i = 11 → (Wp 146 13 (ls) (.int x0 :: .ref i :: st) (n, sl, C, Z, I, L, R) Q ↔ (wsum st ≤ 8 ∧ Call 143 [some (.ref i), some (.int x0), none] (n, sl, C, Z, I, L, R) 146 16 ls st Q))) ∧
  (∀ (ls : Lo) (st : List Value) (h : Hp) (Q : Option Value → Hp → Prop) (x : Int32), Wp 146 16 (ls) (.int x :: st) h Q ↔ Br 146 22 19 ls st h Q (¬ x = 0)) ∧
  (∀ (ls : Lo) (st : List Value) (h : Hp) (Q : Option Value → Hp → Prop), Wp 146 19 (ls) (st) h Q ↔ Wp 146 21 (ls) (.int (-3) :: st) h Q) ∧
  (∀ (ls : Lo) (h : Hp) (Q : Option Value → Hp → Prop) (x : Int32), Wp 146 21 (ls) ([.int x]) h Q ↔ Q (some (.int x)) h) ∧
  (∀ (ls : Lo) (st : List Value) (h : Hp) (Q : Option Value → Hp → Prop)  (i : Nat), Wp 146 22 (some (.ref i) :: ls) (st) h Q ↔ Wp 146 23 (some (.ref i) :: ls) (.ref i :: st) h Q) ∧
  (∀ (ls : Lo) (st : List Value) (h : Hp) (Q : Option Value → Hp → Prop) (l0 : Option Value) (x : Int32), Wp 146 23 (l0 :: some (.int x) :: ls) (st) h Q ↔ Wp 146 24 (l0 :: some (.int x) :: ls) (.int x :: st) h Q) ∧
  (∀ (ls : Lo) (st : List Value) (n sl : Nat) (C Z : Nat → Nat) (I : Nat → Nat → Int32) (L : Nat → Nat → Int64) (R : Nat → Nat → Nat) (Q : Option Value → Hp → Prop) (x0 : Int32) (i : Nat), C i = 11 → (Wp 146 24 (ls) (.int x0 :: .ref i :: st) (n, sl, C, Z, I, L, R) Q ↔ (wsum st ≤ 8 ∧ Call 145 [some (.ref i), some (.int x0), none, none, none] (n, sl, C, Z, I, L, R) 146 27 ls st Q))) ∧
  (∀ (ls : Lo) (st : List Value) (h : Hp) (Q : Option Value → Hp → Prop), Wp 146 27 (ls) (st) h Q ↔ Wp 146 28 (ls) (.int (0) :: st) h Q) ∧
  (∀ (ls : Lo) (st : List Value) (h : Hp) (Q : Option Value → Hp → Prop) (l0 l1 l2 : Option Value) (x : Int32), Wp 146 28 (l0 :: l1 :: l2 :: ls) (.int x :: st) h Q ↔ Wp 146 29 (l0 :: clr l1 :: some (.int x) :: ls) (st) h Q) ∧
  (∀ (ls : Lo) (st : List Value) (h : Hp) (Q : Option Value → Hp → Prop) (l0 l1 : Option Value) (x : Int32), Wp 146 29 (l0 :: l1 :: some (.int x) :: ls) (st) h Q ↔ Wp 146 30 (l0 :: l1 :: some (.int x) :: ls) (.int x :: st) h Q) ∧
  (∀ (ls : Lo) (st : List Value) (h : Hp) (Q : Option Value → Hp → Prop)  (i : Nat), Wp 146 30 (some (.ref i) :: ls) (st) h Q ↔ Wp 146 31 (some (.ref i) :: ls) (.ref i :: st) h Q) ∧
  (∀ (ls : Lo) (st : List Value) (n sl : Nat) (C Z : Nat → Nat) (I : Nat → Nat → Int32) (L : Nat → Nat → Int64) (R : Nat → Nat → Nat) (Q : Option Value → Hp → Prop) (i : Nat), Wp 146 31 (ls) (.ref i :: st) (n, sl, C, Z, I, L, R) Q ↔ (C i = 11 ∧ Wp 146 34 (ls) (.int (I i 14) :: st) (n, sl, C, Z, I, L, R) Q)) ∧
  (∀ (ls : Lo) (st : List Value) (h : Hp) (Q : Option Value → Hp → Prop) (x y : Int32), Wp 146 34 (ls) (.int y :: .int x :: st) h Q ↔ Br 146 55 37 ls st h Q (y ≤ x)) ∧
  (∀ (ls : Lo) (st : List Value) (h : Hp) (Q : Option Value → Hp → Prop)  (i : Nat), Wp 146 37 (some (.ref i) :: ls) (st) h Q ↔ Wp 146 38 (some (.ref i) :: ls) (.ref i :: st) h Q) ∧
  (∀ (ls : Lo) (st : List Value) (n sl : Nat) (C Z : Nat → Nat) (I : Nat → Nat → Int32) (L : Nat → Nat → Int64) (R : Nat → Nat → Nat) (Q : Option Value → Hp → Prop) (i : Nat), Wp 146 38 (ls) (.ref i :: st) (n, sl, C, Z, I, L, R) Q ↔ (C i = 11 ∧ Wp 146 41 (ls) (.ref (R i 11) :: st) (n, sl, C, Z, I, L, R) Q)) ∧
  (∀ (ls : Lo) (st : List Value) (h : Hp) (Q : Option Value → Hp → Prop) (l0 l1 : Option Value) (x : Int32), Wp 146 41 (l0 :: l1 :: some (.int x) :: ls) (st) h Q ↔ Wp 146 42 (l0 :: l1 :: some (.int x) :: ls) (.int x :: st) h Q) ∧
  (∀ (ls : Lo) (st : List Value) (h : Hp) (Q : Option Value → Hp → Prop)  (i : Nat), Wp 146 42 (some (.ref i) :: ls) (st) h Q ↔ Wp 146 43 (some (.ref i) :: ls) (.ref i :: st) h Q) := ⟨by intro ls st h Q i; exact e_aload_n d146_0 rfl,
  by intro ls st h Q l0 x; exact e_iload_n d146_1 rfl,
  by intro ls st n sl C Z I L R Q x0 i hh; exact e_iv (k2 := 103) (c := 11) (as := [.int x0]) d146_2 rfl (by decide) rfl rfl (by decide +kernel) (Nat.le_of_ble_eq_true rfl) rfl hh,
  by intro ls st h Q x; exact e_if d146_5 (by decide) c_ne,
  by intro ls st h Q; exact e_bipush d146_8 rfl,
  by intros; exact e_rI (p := True) d146_10 rfl,
  by intro ls st h Q i; exact e_aload_n d146_11 rfl,
  by intro ls st h Q l0 x; exact e_iload_n d146_12 rfl,
  by intro ls st n sl C Z I L R Q x0 i hh; exact e_iv (k2 := 143) (c := 11) (as := [.int x0]) d146_13 rfl (by decide) rfl rfl (by decide +kernel) (Nat.le_of_ble_eq_true rfl) rfl hh,
  by intro ls st h Q x; exact e_if d146_16 (by decide) c_ne,
  by intro ls st h Q; exact e_bipush d146_19 rfl,
  by intros; exact e_rI (p := True) d146_21 rfl,
  by intro ls st h Q i; exact e_aload_n d146_22 rfl,
  by intro ls st h Q l0 x; exact e_iload_n d146_23 rfl,
  by intro ls st n sl C Z I L R Q x0 i hh; exact e_iv (k2 := 145) (c := 11) (as := [.int x0]) d146_24 rfl (by decide) rfl rfl (by decide +kernel) (Nat.le_of_ble_eq_true rfl) rfl hh,
  by intro ls st h Q; exact e_iconst d146_27 rfl,
  by intro ls st h Q l0 l1 l2 x; exact e_istore_n d146_28 rfl,
  by intro ls st h Q l0 l1 x; exact e_iload_n d146_29 rfl,
  by intro ls st h Q i; exact e_aload_n d146_30 rfl,
  by intro ls st n sl C Z I L R Q i; exact e_get (g := 10) (s := 14) (ty := 0) d146_31 rfl rfl (inG_ne (by decide)),
  by intro ls st h Q x y; exact e_ic d146_34 (by decide) c_ge,
  by intro ls st h Q i; exact e_aload_n d146_37 rfl,
  by intro ls st n sl C Z I L R Q i; exact e_get (g := 10) (s := 11) (ty := 2) d146_38 rfl rfl (inG_ne (by decide)),
  by intro ls st h Q l0 l1 x; exact e_iload_n d146_41 rfl,
  by intro ls st h Q i; exact e_aload_n d146_42 rfl⟩
set_option maxRecDepth 20000 in
theorem S146_1 : (∀ (ls : Lo) (st : List Value) (n sl : Nat) (C Z : Nat → Nat) (I : Nat → Nat → Int32) (L : Nat → Nat → Int64) (R : Nat → Nat → Nat) (Q : Option Value → Hp → Prop) (i : Nat), Wp 146 43 (ls) (.ref i :: st) (n, sl, C, Z, I, L, R) Q ↔ (C i = 11 ∧ Wp 146 46 (ls) (.ref (R i 12) :: st) (n, sl, C, Z, I, L, R) Q)) ∧
  (∀ (ls : Lo) (st : List Value) (h : Hp) (Q : Option Value → Hp → Prop) (l0 l1 : Option Value) (x : Int32), Wp 146 46 (l0 :: l1 :: some (.int x) :: ls) (st) h Q ↔ Wp 146 47 (l0 :: l1 :: some (.int x) :: ls) (.int x :: st) h Q) ∧
  (∀ (ls : Lo) (st : List Value) (n sl : Nat) (C Z : Nat → Nat) (I : Nat → Nat → Int32) (L : Nat → Nat → Int64) (R : Nat → Nat → Nat) (Q : Option Value → Hp → Prop) (i : Nat) (y : Int32), Wp 146 47 (ls) (.int y :: .ref i :: st) (n, sl, C, Z, I, L, R) Q ↔ ((inb y (Z i) = true ∧ C i = 22) ∧ Wp 146 48 (ls) (.long (L i (ix y)) :: st) (n, sl, C, Z, I, L, R) Q)) ∧
  (∀ (ls : Lo) (st : List Value) (n sl : Nat) (C Z : Nat → Nat) (I : Nat → Nat → Int32) (L : Nat → Nat → Int64) (R : Nat → Nat → Nat) (Q : Option Value → Hp → Prop) (i : Nat) (y : Int32) (a : Int64), Wp 146 48 (ls) (.long a :: .int y :: .ref i :: st) (n, sl, C, Z, I, L, R) Q ↔ ((inb y (Z i) = true ∧ C i = 22) ∧ Wp 146 49 (ls) (st) (n, sl, C, Z, I, u2 L i (ix y) a, R) Q)) ∧
  (∀ (ls : Lo) (st : List Value) (h : Hp) (Q : Option Value → Hp → Prop) (l0 l1 : Option Value) (x : Int32), Wp 146 49 (l0 :: l1 :: some (.int x) :: ls) (st) h Q ↔ Wp 146 52 (l0 :: clr l1 :: some (.int (x + (1))) :: ls) (st) h Q) ∧
  (∀ (ls : Lo) (st : List Value) (h : Hp) (Q : Option Value → Hp → Prop), Wp 146 52 (ls) (st) h Q ↔ Wp 146 29 (ls) (st) h Q) ∧
  (∀ (ls : Lo) (st : List Value) (h : Hp) (Q : Option Value → Hp → Prop)  (i : Nat), Wp 146 55 (some (.ref i) :: ls) (st) h Q ↔ Wp 146 56 (some (.ref i) :: ls) (.ref i :: st) h Q) ∧
  (∀ (ls : Lo) (st : List Value) (h : Hp) (Q : Option Value → Hp → Prop)  (i : Nat), Wp 146 56 (some (.ref i) :: ls) (st) h Q ↔ Wp 146 57 (some (.ref i) :: ls) (.ref i :: st) h Q) ∧
  (∀ (ls : Lo) (st : List Value) (n sl : Nat) (C Z : Nat → Nat) (I : Nat → Nat → Int32) (L : Nat → Nat → Int64) (R : Nat → Nat → Nat) (Q : Option Value → Hp → Prop) (i : Nat), Wp 146 57 (ls) (.ref i :: st) (n, sl, C, Z, I, L, R) Q ↔ (C i = 11 ∧ Wp 146 60 (ls) (.int (I i 14) :: st) (n, sl, C, Z, I, L, R) Q)) ∧
  (∀ (ls : Lo) (st : List Value) (n sl : Nat) (C Z : Nat → Nat) (I : Nat → Nat → Int32) (L : Nat → Nat → Int64) (R : Nat → Nat → Nat) (Q : Option Value → Hp → Prop) (i : Nat) (x : Int32), Wp 146 60 (ls) (.int x :: .ref i :: st) (n, sl, C, Z, I, L, R) Q ↔ (C i = 11 ∧ Wp 146 63 (ls) (st) (n, sl, C, Z, u2 I i 13 x, L, R) Q)) ∧
  (∀ (ls : Lo) (st : List Value) (h : Hp) (Q : Option Value → Hp → Prop)  (i : Nat), Wp 146 63 (some (.ref i) :: ls) (st) h Q ↔ Wp 146 64 (some (.ref i) :: ls) (.ref i :: st) h Q) ∧
  (∀ (ls : Lo) (st : List Value) (n sl : Nat) (C Z : Nat → Nat) (I : Nat → Nat → Int32) (L : Nat → Nat → Int64) (R : Nat → Nat → Nat) (Q : Option Value → Hp → Prop) (i : Nat), Wp 146 64 (ls) (.ref i :: st) (n, sl, C, Z, I, L, R) Q ↔ (C i = 11 ∧ Wp 146 67 (ls) (.int (I i 13) :: st) (n, sl, C, Z, I, L, R) Q)) ∧
  (∀ (ls : Lo) (h : Hp) (Q : Option Value → Hp → Prop) (x : Int32), Wp 146 67 (ls) ([.int x]) h Q ↔ Q (some (.int x)) h) := ⟨by intro ls st n sl C Z I L R Q i; exact e_get (g := 10) (s := 12) (ty := 2) d146_43 rfl rfl (inG_ne (by decide)),
  by intro ls st h Q l0 l1 x; exact e_iload_n d146_46 rfl,
  by intro ls st n sl C Z I L R Q i y; exact e_lald d146_47,
  by intro ls st n sl C Z I L R Q i y a; exact e_last d146_48,
  by intro ls st h Q l0 l1 x; exact e_iinc d146_49 rfl rfl rfl,
  by intro ls st h Q; exact e_goto d146_52 (by decide),
  by intro ls st h Q i; exact e_aload_n d146_55 rfl,
  by intro ls st h Q i; exact e_aload_n d146_56 rfl,
  by intro ls st n sl C Z I L R Q i; exact e_get (g := 10) (s := 14) (ty := 0) d146_57 rfl rfl (inG_ne (by decide)),
  by intro ls st n sl C Z I L R Q i x; exact e_putI (g := 10) (s := 13) d146_60 rfl (Or.inl rfl) (inG_ne (by decide)),
  by intro ls st h Q i; exact e_aload_n d146_63 rfl,
  by intro ls st n sl C Z I L R Q i; exact e_get (g := 10) (s := 13) (ty := 0) d146_64 rfl rfl (inG_ne (by decide)),
  by intros; exact e_rI (p := True) d146_67 rfl⟩
theorem d147_0 : decode (byt 147) 0 = .ok (.iload_n 1, 1) := by decide +kernel
theorem d147_1 : decode (byt 147) 1 = .ok (.ifCond .lt 20, 3) := by decide +kernel
theorem d147_4 : decode (byt 147) 4 = .ok (.iload_n 1, 1) := by decide +kernel
theorem d147_5 : decode (byt 147) 5 = .ok (.aload_n 0, 1) := by decide +kernel
theorem d147_6 : decode (byt 147) 6 = .ok (.getfield 203, 3) := by decide +kernel
theorem d147_9 : decode (byt 147) 9 = .ok (.if_icmp .ge 12, 3) := by decide +kernel
theorem d147_12 : decode (byt 147) 12 = .ok (.aload_n 0, 1) := by decide +kernel
theorem d147_13 : decode (byt 147) 13 = .ok (.getfield 40, 3) := by decide +kernel
theorem d147_16 : decode (byt 147) 16 = .ok (.iload_n 1, 1) := by decide +kernel
theorem d147_17 : decode (byt 147) 17 = .ok (.laload, 1) := by decide +kernel
theorem d147_18 : decode (byt 147) 18 = .ok (.goto 6, 3) := by decide +kernel
theorem d147_21 : decode (byt 147) 21 = .ok (.ldc2_w 169, 3) := by decide +kernel
theorem d147_24 : decode (byt 147) 24 = .ok (.lreturn, 1) := by decide +kernel
set_option maxRecDepth 20000 in
theorem S147_0 : (∀ (ls : Lo) (st : List Value) (h : Hp) (Q : Option Value → Hp → Prop) (l0 : Option Value) (x : Int32), Wp 147 0 (l0 :: some (.int x) :: ls) (st) h Q ↔ Wp 147 1 (l0 :: some (.int x) :: ls) (.int x :: st) h Q) ∧
  (∀ (ls : Lo) (st : List Value) (h : Hp) (Q : Option Value → Hp → Prop) (x : Int32), Wp 147 1 (ls) (.int x :: st) h Q ↔ Br 147 21 4 ls st h Q (x < 0)) ∧
  (∀ (ls : Lo) (st : List Value) (h : Hp) (Q : Option Value → Hp → Prop) (l0 : Option Value) (x : Int32), Wp 147 4 (l0 :: some (.int x) :: ls) (st) h Q ↔ Wp 147 5 (l0 :: some (.int x) :: ls) (.int x :: st) h Q) ∧
  (∀ (ls : Lo) (st : List Value) (h : Hp) (Q : Option Value → Hp → Prop)  (i : Nat), Wp 147 5 (some (.ref i) :: ls) (st) h Q ↔ Wp 147 6 (some (.ref i) :: ls) (.ref i :: st) h Q) ∧
  (∀ (ls : Lo) (st : List Value) (n sl : Nat) (C Z : Nat → Nat) (I : Nat → Nat → Int32) (L : Nat → Nat → Int64) (R : Nat → Nat → Nat) (Q : Option Value → Hp → Prop) (i : Nat), Wp 147 6 (ls) (.ref i :: st) (n, sl, C, Z, I, L, R) Q ↔ (C i = 11 ∧ Wp 147 9 (ls) (.int (I i 13) :: st) (n, sl, C, Z, I, L, R) Q)) ∧
  (∀ (ls : Lo) (st : List Value) (h : Hp) (Q : Option Value → Hp → Prop) (x y : Int32), Wp 147 9 (ls) (.int y :: .int x :: st) h Q ↔ Br 147 21 12 ls st h Q (y ≤ x)) ∧
  (∀ (ls : Lo) (st : List Value) (h : Hp) (Q : Option Value → Hp → Prop)  (i : Nat), Wp 147 12 (some (.ref i) :: ls) (st) h Q ↔ Wp 147 13 (some (.ref i) :: ls) (.ref i :: st) h Q) ∧
  (∀ (ls : Lo) (st : List Value) (n sl : Nat) (C Z : Nat → Nat) (I : Nat → Nat → Int32) (L : Nat → Nat → Int64) (R : Nat → Nat → Nat) (Q : Option Value → Hp → Prop) (i : Nat), Wp 147 13 (ls) (.ref i :: st) (n, sl, C, Z, I, L, R) Q ↔ (C i = 11 ∧ Wp 147 16 (ls) (.ref (R i 11) :: st) (n, sl, C, Z, I, L, R) Q)) ∧
  (∀ (ls : Lo) (st : List Value) (h : Hp) (Q : Option Value → Hp → Prop) (l0 : Option Value) (x : Int32), Wp 147 16 (l0 :: some (.int x) :: ls) (st) h Q ↔ Wp 147 17 (l0 :: some (.int x) :: ls) (.int x :: st) h Q) ∧
  (∀ (ls : Lo) (st : List Value) (n sl : Nat) (C Z : Nat → Nat) (I : Nat → Nat → Int32) (L : Nat → Nat → Int64) (R : Nat → Nat → Nat) (Q : Option Value → Hp → Prop) (i : Nat) (y : Int32), Wp 147 17 (ls) (.int y :: .ref i :: st) (n, sl, C, Z, I, L, R) Q ↔ ((inb y (Z i) = true ∧ C i = 22) ∧ Wp 147 18 (ls) (.long (L i (ix y)) :: st) (n, sl, C, Z, I, L, R) Q)) ∧
  (∀ (ls : Lo) (st : List Value) (h : Hp) (Q : Option Value → Hp → Prop), Wp 147 18 (ls) (st) h Q ↔ Wp 147 24 (ls) (st) h Q) ∧
  (∀ (ls : Lo) (st : List Value) (h : Hp) (Q : Option Value → Hp → Prop), Wp 147 21 (ls) (st) h Q ↔ Wp 147 24 (ls) (.long (-4611686018427387904) :: st) h Q) ∧
  (∀ (ls : Lo) (h : Hp) (Q : Option Value → Hp → Prop) (a : Int64), Wp 147 24 (ls) ([.long a]) h Q ↔ Q (some (.long a)) h) := ⟨by intro ls st h Q l0 x; exact e_iload_n d147_0 rfl,
  by intro ls st h Q x; exact e_if d147_1 (by decide) c_lt,
  by intro ls st h Q l0 x; exact e_iload_n d147_4 rfl,
  by intro ls st h Q i; exact e_aload_n d147_5 rfl,
  by intro ls st n sl C Z I L R Q i; exact e_get (g := 10) (s := 13) (ty := 0) d147_6 rfl rfl (inG_ne (by decide)),
  by intro ls st h Q x y; exact e_ic d147_9 (by decide) c_ge,
  by intro ls st h Q i; exact e_aload_n d147_12 rfl,
  by intro ls st n sl C Z I L R Q i; exact e_get (g := 10) (s := 11) (ty := 2) d147_13 rfl rfl (inG_ne (by decide)),
  by intro ls st h Q l0 x; exact e_iload_n d147_16 rfl,
  by intro ls st n sl C Z I L R Q i y; exact e_lald d147_17,
  by intro ls st h Q; exact e_goto d147_18 (by decide),
  by intro ls st h Q; exact e_ldc2 (p := 980) d147_21 rfl,
  by intros; exact e_rL d147_24 rfl⟩
theorem d148_0 : decode (byt 148) 0 = .ok (.iload_n 1, 1) := by decide +kernel
theorem d148_1 : decode (byt 148) 1 = .ok (.ifCond .lt 27, 3) := by decide +kernel
theorem d148_4 : decode (byt 148) 4 = .ok (.iload_n 1, 1) := by decide +kernel
theorem d148_5 : decode (byt 148) 5 = .ok (.aload_n 0, 1) := by decide +kernel
theorem d148_6 : decode (byt 148) 6 = .ok (.getfield 203, 3) := by decide +kernel
theorem d148_9 : decode (byt 148) 9 = .ok (.if_icmp .ge 19, 3) := by decide +kernel
theorem d148_12 : decode (byt 148) 12 = .ok (.lload_n 2, 1) := by decide +kernel
theorem d148_13 : decode (byt 148) 13 = .ok (.ldc2_w 206, 3) := by decide +kernel
theorem d148_16 : decode (byt 148) 16 = .ok (.lcmp, 1) := by decide +kernel
theorem d148_17 : decode (byt 148) 17 = .ok (.ifCond .lt 11, 3) := by decide +kernel
theorem d148_20 : decode (byt 148) 20 = .ok (.lload_n 2, 1) := by decide +kernel
theorem d148_21 : decode (byt 148) 21 = .ok (.ldc2_w 208, 3) := by decide +kernel
theorem d148_24 : decode (byt 148) 24 = .ok (.lcmp, 1) := by decide +kernel
theorem d148_25 : decode (byt 148) 25 = .ok (.ifCond .le 6, 3) := by decide +kernel
theorem d148_28 : decode (byt 148) 28 = .ok (.bipush (-2), 2) := by decide +kernel
theorem d148_30 : decode (byt 148) 30 = .ok (.ireturn, 1) := by decide +kernel
theorem d148_31 : decode (byt 148) 31 = .ok (.aload_n 0, 1) := by decide +kernel
theorem d148_32 : decode (byt 148) 32 = .ok (.getfield 40, 3) := by decide +kernel
theorem d148_35 : decode (byt 148) 35 = .ok (.iload_n 1, 1) := by decide +kernel
theorem d148_36 : decode (byt 148) 36 = .ok (.lload_n 2, 1) := by decide +kernel
theorem d148_37 : decode (byt 148) 37 = .ok (.lastore, 1) := by decide +kernel
theorem d148_38 : decode (byt 148) 38 = .ok (.iconst 1, 1) := by decide +kernel
theorem d148_39 : decode (byt 148) 39 = .ok (.ireturn, 1) := by decide +kernel
set_option maxRecDepth 20000 in
theorem S148_0 : (∀ (ls : Lo) (st : List Value) (h : Hp) (Q : Option Value → Hp → Prop) (l0 : Option Value) (x : Int32), Wp 148 0 (l0 :: some (.int x) :: ls) (st) h Q ↔ Wp 148 1 (l0 :: some (.int x) :: ls) (.int x :: st) h Q) ∧
  (∀ (ls : Lo) (st : List Value) (h : Hp) (Q : Option Value → Hp → Prop) (x : Int32), Wp 148 1 (ls) (.int x :: st) h Q ↔ Br 148 28 4 ls st h Q (x < 0)) ∧
  (∀ (ls : Lo) (st : List Value) (h : Hp) (Q : Option Value → Hp → Prop) (l0 : Option Value) (x : Int32), Wp 148 4 (l0 :: some (.int x) :: ls) (st) h Q ↔ Wp 148 5 (l0 :: some (.int x) :: ls) (.int x :: st) h Q) ∧
  (∀ (ls : Lo) (st : List Value) (h : Hp) (Q : Option Value → Hp → Prop)  (i : Nat), Wp 148 5 (some (.ref i) :: ls) (st) h Q ↔ Wp 148 6 (some (.ref i) :: ls) (.ref i :: st) h Q) ∧
  (∀ (ls : Lo) (st : List Value) (n sl : Nat) (C Z : Nat → Nat) (I : Nat → Nat → Int32) (L : Nat → Nat → Int64) (R : Nat → Nat → Nat) (Q : Option Value → Hp → Prop) (i : Nat), Wp 148 6 (ls) (.ref i :: st) (n, sl, C, Z, I, L, R) Q ↔ (C i = 11 ∧ Wp 148 9 (ls) (.int (I i 13) :: st) (n, sl, C, Z, I, L, R) Q)) ∧
  (∀ (ls : Lo) (st : List Value) (h : Hp) (Q : Option Value → Hp → Prop) (x y : Int32), Wp 148 9 (ls) (.int y :: .int x :: st) h Q ↔ Br 148 28 12 ls st h Q (y ≤ x)) ∧
  (∀ (ls : Lo) (st : List Value) (h : Hp) (Q : Option Value → Hp → Prop) (l0 l1 : Option Value) (a : Int64), Wp 148 12 (l0 :: l1 :: some (.long a) :: ls) (st) h Q ↔ Wp 148 13 (l0 :: l1 :: some (.long a) :: ls) (.long a :: st) h Q) ∧
  (∀ (ls : Lo) (st : List Value) (h : Hp) (Q : Option Value → Hp → Prop), Wp 148 13 (ls) (st) h Q ↔ Wp 148 16 (ls) (.long (-1000000000) :: st) h Q) ∧
  (∀ (ls : Lo) (st : List Value) (h : Hp) (Q : Option Value → Hp → Prop) (a b : Int64), Wp 148 16 (ls) (.long b :: .long a :: st) h Q ↔ Wp 148 17 (ls) (.int (lg_cmp a b) :: st) h Q) ∧
  (∀ (ls : Lo) (st : List Value) (h : Hp) (Q : Option Value → Hp → Prop) (x : Int32), Wp 148 17 (ls) (.int x :: st) h Q ↔ Br 148 28 20 ls st h Q (x < 0)) ∧
  (∀ (ls : Lo) (st : List Value) (h : Hp) (Q : Option Value → Hp → Prop) (l0 l1 : Option Value) (a : Int64), Wp 148 20 (l0 :: l1 :: some (.long a) :: ls) (st) h Q ↔ Wp 148 21 (l0 :: l1 :: some (.long a) :: ls) (.long a :: st) h Q) ∧
  (∀ (ls : Lo) (st : List Value) (h : Hp) (Q : Option Value → Hp → Prop), Wp 148 21 (ls) (st) h Q ↔ Wp 148 24 (ls) (.long (1000000000) :: st) h Q) ∧
  (∀ (ls : Lo) (st : List Value) (h : Hp) (Q : Option Value → Hp → Prop) (a b : Int64), Wp 148 24 (ls) (.long b :: .long a :: st) h Q ↔ Wp 148 25 (ls) (.int (lg_cmp a b) :: st) h Q) ∧
  (∀ (ls : Lo) (st : List Value) (h : Hp) (Q : Option Value → Hp → Prop) (x : Int32), Wp 148 25 (ls) (.int x :: st) h Q ↔ Br 148 31 28 ls st h Q (x ≤ 0)) ∧
  (∀ (ls : Lo) (st : List Value) (h : Hp) (Q : Option Value → Hp → Prop), Wp 148 28 (ls) (st) h Q ↔ Wp 148 30 (ls) (.int (-2) :: st) h Q) ∧
  (∀ (ls : Lo) (h : Hp) (Q : Option Value → Hp → Prop) (x : Int32), Wp 148 30 (ls) ([.int x]) h Q ↔ Q (some (.int x)) h) ∧
  (∀ (ls : Lo) (st : List Value) (h : Hp) (Q : Option Value → Hp → Prop)  (i : Nat), Wp 148 31 (some (.ref i) :: ls) (st) h Q ↔ Wp 148 32 (some (.ref i) :: ls) (.ref i :: st) h Q) ∧
  (∀ (ls : Lo) (st : List Value) (n sl : Nat) (C Z : Nat → Nat) (I : Nat → Nat → Int32) (L : Nat → Nat → Int64) (R : Nat → Nat → Nat) (Q : Option Value → Hp → Prop) (i : Nat), Wp 148 32 (ls) (.ref i :: st) (n, sl, C, Z, I, L, R) Q ↔ (C i = 11 ∧ Wp 148 35 (ls) (.ref (R i 11) :: st) (n, sl, C, Z, I, L, R) Q)) ∧
  (∀ (ls : Lo) (st : List Value) (h : Hp) (Q : Option Value → Hp → Prop) (l0 : Option Value) (x : Int32), Wp 148 35 (l0 :: some (.int x) :: ls) (st) h Q ↔ Wp 148 36 (l0 :: some (.int x) :: ls) (.int x :: st) h Q) ∧
  (∀ (ls : Lo) (st : List Value) (h : Hp) (Q : Option Value → Hp → Prop) (l0 l1 : Option Value) (a : Int64), Wp 148 36 (l0 :: l1 :: some (.long a) :: ls) (st) h Q ↔ Wp 148 37 (l0 :: l1 :: some (.long a) :: ls) (.long a :: st) h Q) ∧
  (∀ (ls : Lo) (st : List Value) (n sl : Nat) (C Z : Nat → Nat) (I : Nat → Nat → Int32) (L : Nat → Nat → Int64) (R : Nat → Nat → Nat) (Q : Option Value → Hp → Prop) (i : Nat) (y : Int32) (a : Int64), Wp 148 37 (ls) (.long a :: .int y :: .ref i :: st) (n, sl, C, Z, I, L, R) Q ↔ ((inb y (Z i) = true ∧ C i = 22) ∧ Wp 148 38 (ls) (st) (n, sl, C, Z, I, u2 L i (ix y) a, R) Q)) ∧
  (∀ (ls : Lo) (st : List Value) (h : Hp) (Q : Option Value → Hp → Prop), Wp 148 38 (ls) (st) h Q ↔ Wp 148 39 (ls) (.int (1) :: st) h Q) ∧
  (∀ (ls : Lo) (h : Hp) (Q : Option Value → Hp → Prop) (x : Int32), Wp 148 39 (ls) ([.int x]) h Q ↔ Q (some (.int x)) h) := ⟨by intro ls st h Q l0 x; exact e_iload_n d148_0 rfl,
  by intro ls st h Q x; exact e_if d148_1 (by decide) c_lt,
  by intro ls st h Q l0 x; exact e_iload_n d148_4 rfl,
  by intro ls st h Q i; exact e_aload_n d148_5 rfl,
  by intro ls st n sl C Z I L R Q i; exact e_get (g := 10) (s := 13) (ty := 0) d148_6 rfl rfl (inG_ne (by decide)),
  by intro ls st h Q x y; exact e_ic d148_9 (by decide) c_ge,
  by intro ls st h Q l0 l1 a; exact e_lload_n d148_12 rfl,
  by intro ls st h Q; exact e_ldc2 (p := 1034) d148_13 rfl,
  by intro ls st h Q a b; exact e_lcmp d148_16,
  by intro ls st h Q x; exact e_if d148_17 (by decide) c_lt,
  by intro ls st h Q l0 l1 a; exact e_lload_n d148_20 rfl,
  by intro ls st h Q; exact e_ldc2 (p := 1035) d148_21 rfl,
  by intro ls st h Q a b; exact e_lcmp d148_24,
  by intro ls st h Q x; exact e_if d148_25 (by decide) c_le,
  by intro ls st h Q; exact e_bipush d148_28 rfl,
  by intros; exact e_rI (p := True) d148_30 rfl,
  by intro ls st h Q i; exact e_aload_n d148_31 rfl,
  by intro ls st n sl C Z I L R Q i; exact e_get (g := 10) (s := 11) (ty := 2) d148_32 rfl rfl (inG_ne (by decide)),
  by intro ls st h Q l0 x; exact e_iload_n d148_35 rfl,
  by intro ls st h Q l0 l1 a; exact e_lload_n d148_36 rfl,
  by intro ls st n sl C Z I L R Q i y a; exact e_last d148_37,
  by intro ls st h Q; exact e_iconst d148_38 rfl,
  by intros; exact e_rI (p := True) d148_39 rfl⟩
theorem d149_0 : decode (byt 149) 0 = .ok (.aload_n 0, 1) := by decide +kernel
theorem d149_1 : decode (byt 149) 1 = .ok (.iload_n 1, 1) := by decide +kernel
theorem d149_2 : decode (byt 149) 2 = .ok (.invokevirtual 105, 3) := by decide +kernel
theorem d149_5 : decode (byt 149) 5 = .ok (.ifCond .ne 6, 3) := by decide +kernel
theorem d149_8 : decode (byt 149) 8 = .ok (.bipush (-2), 2) := by decide +kernel
theorem d149_10 : decode (byt 149) 10 = .ok (.ireturn, 1) := by decide +kernel
theorem d149_11 : decode (byt 149) 11 = .ok (.aload_n 0, 1) := by decide +kernel
theorem d149_12 : decode (byt 149) 12 = .ok (.iload_n 1, 1) := by decide +kernel
theorem d149_13 : decode (byt 149) 13 = .ok (.invokevirtual 166, 3) := by decide +kernel
theorem d149_16 : decode (byt 149) 16 = .ok (.ifCond .ne 5, 3) := by decide +kernel
theorem d149_19 : decode (byt 149) 19 = .ok (.iconst 0, 1) := by decide +kernel
theorem d149_20 : decode (byt 149) 20 = .ok (.ireturn, 1) := by decide +kernel
theorem d149_21 : decode (byt 149) 21 = .ok (.aload_n 0, 1) := by decide +kernel
theorem d149_22 : decode (byt 149) 22 = .ok (.iload_n 1, 1) := by decide +kernel
theorem d149_23 : decode (byt 149) 23 = .ok (.invokevirtual 200, 3) := by decide +kernel
theorem d149_26 : decode (byt 149) 26 = .ok (.iconst 0, 1) := by decide +kernel
theorem d149_27 : decode (byt 149) 27 = .ok (.istore_n 2, 1) := by decide +kernel
theorem d149_28 : decode (byt 149) 28 = .ok (.iload_n 2, 1) := by decide +kernel
theorem d149_29 : decode (byt 149) 29 = .ok (.aload_n 0, 1) := by decide +kernel
theorem d149_30 : decode (byt 149) 30 = .ok (.getfield 203, 3) := by decide +kernel
theorem d149_33 : decode (byt 149) 33 = .ok (.if_icmp .lt 11, 3) := by decide +kernel
theorem d149_36 : decode (byt 149) 36 = .ok (.iload_n 2, 1) := by decide +kernel
theorem d149_37 : decode (byt 149) 37 = .ok (.aload_n 0, 1) := by decide +kernel
theorem d149_38 : decode (byt 149) 38 = .ok (.getfield 193, 3) := by decide +kernel
theorem d149_41 : decode (byt 149) 41 = .ok (.if_icmp .ge 43, 3) := by decide +kernel
theorem d149_44 : decode (byt 149) 44 = .ok (.iload_n 2, 1) := by decide +kernel
theorem d149_45 : decode (byt 149) 45 = .ok (.aload_n 0, 1) := by decide +kernel
theorem d149_46 : decode (byt 149) 46 = .ok (.getfield 203, 3) := by decide +kernel
theorem d149_49 : decode (byt 149) 49 = .ok (.if_icmp .ge 27, 3) := by decide +kernel
theorem d149_52 : decode (byt 149) 52 = .ok (.iload_n 2, 1) := by decide +kernel
theorem d149_53 : decode (byt 149) 53 = .ok (.aload_n 0, 1) := by decide +kernel
theorem d149_54 : decode (byt 149) 54 = .ok (.getfield 193, 3) := by decide +kernel
theorem d149_57 : decode (byt 149) 57 = .ok (.if_icmp .ge 19, 3) := by decide +kernel
theorem d149_60 : decode (byt 149) 60 = .ok (.aload_n 0, 1) := by decide +kernel
theorem d149_61 : decode (byt 149) 61 = .ok (.getfield 40, 3) := by decide +kernel
theorem d149_64 : decode (byt 149) 64 = .ok (.iload_n 2, 1) := by decide +kernel
theorem d149_65 : decode (byt 149) 65 = .ok (.laload, 1) := by decide +kernel
theorem d149_66 : decode (byt 149) 66 = .ok (.aload_n 0, 1) := by decide +kernel
theorem d149_67 : decode (byt 149) 67 = .ok (.getfield 44, 3) := by decide +kernel
theorem d149_70 : decode (byt 149) 70 = .ok (.iload_n 2, 1) := by decide +kernel
theorem d149_71 : decode (byt 149) 71 = .ok (.laload, 1) := by decide +kernel
theorem d149_72 : decode (byt 149) 72 = .ok (.lcmp, 1) := by decide +kernel
theorem d149_73 : decode (byt 149) 73 = .ok (.ifCond .eq 5, 3) := by decide +kernel
theorem d149_76 : decode (byt 149) 76 = .ok (.iload_n 2, 1) := by decide +kernel
theorem d149_77 : decode (byt 149) 77 = .ok (.ireturn, 1) := by decide +kernel
theorem d149_78 : decode (byt 149) 78 = .ok (.iinc 2 1, 3) := by decide +kernel
theorem d149_81 : decode (byt 149) 81 = .ok (.goto (-53), 3) := by decide +kernel
theorem d149_84 : decode (byt 149) 84 = .ok (.aload_n 0, 1) := by decide +kernel
theorem d149_85 : decode (byt 149) 85 = .ok (.getfield 13, 3) := by decide +kernel
theorem d149_88 : decode (byt 149) 88 = .ok (.iload_n 1, 1) := by decide +kernel
theorem d149_89 : decode (byt 149) 89 = .ok (.iaload, 1) := by decide +kernel
theorem d149_90 : decode (byt 149) 90 = .ok (.ifCond .ne 5, 3) := by decide +kernel
theorem d149_93 : decode (byt 149) 93 = .ok (.iconst (-1), 1) := by decide +kernel
theorem d149_94 : decode (byt 149) 94 = .ok (.ireturn, 1) := by decide +kernel
theorem d149_95 : decode (byt 149) 95 = .ok (.aload_n 0, 1) := by decide +kernel
theorem d149_96 : decode (byt 149) 96 = .ok (.iload_n 1, 1) := by decide +kernel
theorem d149_97 : decode (byt 149) 97 = .ok (.iconst 0, 1) := by decide +kernel
theorem d149_98 : decode (byt 149) 98 = .ok (.iconst 0, 1) := by decide +kernel
theorem d149_99 : decode (byt 149) 99 = .ok (.iconst 0, 1) := by decide +kernel
theorem d149_100 : decode (byt 149) 100 = .ok (.invokevirtual 196, 3) := by decide +kernel
theorem d149_103 : decode (byt 149) 103 = .ok (.lconst 0, 1) := by decide +kernel
theorem d149_104 : decode (byt 149) 104 = .ok (.lcmp, 1) := by decide +kernel
theorem d149_105 : decode (byt 149) 105 = .ok (.ifCond .gt 6, 3) := by decide +kernel
theorem d149_108 : decode (byt 149) 108 = .ok (.bipush (-3), 2) := by decide +kernel
theorem d149_110 : decode (byt 149) 110 = .ok (.ireturn, 1) := by decide +kernel
theorem d149_111 : decode (byt 149) 111 = .ok (.aload_n 0, 1) := by decide +kernel
theorem d149_112 : decode (byt 149) 112 = .ok (.getfield 13, 3) := by decide +kernel
theorem d149_115 : decode (byt 149) 115 = .ok (.iload_n 1, 1) := by decide +kernel
theorem d149_116 : decode (byt 149) 116 = .ok (.iaload, 1) := by decide +kernel
theorem d149_117 : decode (byt 149) 117 = .ok (.iconst 1, 1) := by decide +kernel
theorem d149_118 : decode (byt 149) 118 = .ok (.if_icmp .ne 5, 3) := by decide +kernel
theorem d149_121 : decode (byt 149) 121 = .ok (.iconst (-1), 1) := by decide +kernel
theorem d149_122 : decode (byt 149) 122 = .ok (.ireturn, 1) := by decide +kernel
theorem d149_123 : decode (byt 149) 123 = .ok (.aload_n 0, 1) := by decide +kernel
theorem d149_124 : decode (byt 149) 124 = .ok (.iconst 3, 1) := by decide +kernel
theorem d149_125 : decode (byt 149) 125 = .ok (.iconst (-1), 1) := by decide +kernel
theorem d149_126 : decode (byt 149) 126 = .ok (.invokevirtual 185, 3) := by decide +kernel
theorem d149_129 : decode (byt 149) 129 = .ok (.lstore_n 2, 1) := by decide +kernel
theorem d149_130 : decode (byt 149) 130 = .ok (.aload_n 0, 1) := by decide +kernel
theorem d149_131 : decode (byt 149) 131 = .ok (.iload_n 1, 1) := by decide +kernel
theorem d149_132 : decode (byt 149) 132 = .ok (.invokevirtual 166, 3) := by decide +kernel
theorem d149_135 : decode (byt 149) 135 = .ok (.pop, 1) := by decide +kernel
theorem d149_136 : decode (byt 149) 136 = .ok (.aload_n 0, 1) := by decide +kernel
theorem d149_137 : decode (byt 149) 137 = .ok (.iconst 3, 1) := by decide +kernel
theorem d149_138 : decode (byt 149) 138 = .ok (.iconst 0, 1) := by decide +kernel
theorem d149_139 : decode (byt 149) 139 = .ok (.invokevirtual 185, 3) := by decide +kernel
theorem d149_142 : decode (byt 149) 142 = .ok (.lstore 4, 2) := by decide +kernel
theorem d149_144 : decode (byt 149) 144 = .ok (.aload_n 0, 1) := by decide +kernel
theorem d149_145 : decode (byt 149) 145 = .ok (.iconst 3, 1) := by decide +kernel
theorem d149_146 : decode (byt 149) 146 = .ok (.iconst 1, 1) := by decide +kernel
theorem d149_147 : decode (byt 149) 147 = .ok (.invokevirtual 185, 3) := by decide +kernel
theorem d149_150 : decode (byt 149) 150 = .ok (.lstore 6, 2) := by decide +kernel
theorem d149_152 : decode (byt 149) 152 = .ok (.aload_n 0, 1) := by decide +kernel
theorem d149_153 : decode (byt 149) 153 = .ok (.iconst 3, 1) := by decide +kernel
theorem d149_154 : decode (byt 149) 154 = .ok (.iconst 2, 1) := by decide +kernel
theorem d149_155 : decode (byt 149) 155 = .ok (.invokevirtual 185, 3) := by decide +kernel
theorem d149_158 : decode (byt 149) 158 = .ok (.lstore 8, 2) := by decide +kernel
theorem d149_160 : decode (byt 149) 160 = .ok (.lload 4, 2) := by decide +kernel
theorem d149_162 : decode (byt 149) 162 = .ok (.lload 8, 2) := by decide +kernel
theorem d149_164 : decode (byt 149) 164 = .ok (.lmul, 1) := by decide +kernel
theorem d149_165 : decode (byt 149) 165 = .ok (.lload 6, 2) := by decide +kernel
theorem d149_167 : decode (byt 149) 167 = .ok (.lload 6, 2) := by decide +kernel
theorem d149_169 : decode (byt 149) 169 = .ok (.lmul, 1) := by decide +kernel
theorem d149_170 : decode (byt 149) 170 = .ok (.lsub, 1) := by decide +kernel
theorem d149_171 : decode (byt 149) 171 = .ok (.lconst 0, 1) := by decide +kernel
theorem d149_172 : decode (byt 149) 172 = .ok (.lcmp, 1) := by decide +kernel
theorem d149_173 : decode (byt 149) 173 = .ok (.ifCond .le 13, 3) := by decide +kernel
theorem d149_176 : decode (byt 149) 176 = .ok (.lload_n 2, 1) := by decide +kernel
theorem d149_177 : decode (byt 149) 177 = .ok (.lconst 0, 1) := by decide +kernel
theorem d149_178 : decode (byt 149) 178 = .ok (.lcmp, 1) := by decide +kernel
theorem d149_179 : decode (byt 149) 179 = .ok (.ifCond .eq 7, 3) := by decide +kernel
theorem d149_182 : decode (byt 149) 182 = .ok (.iconst (-1), 1) := by decide +kernel
theorem d149_183 : decode (byt 149) 183 = .ok (.goto 5, 3) := by decide +kernel
theorem d149_186 : decode (byt 149) 186 = .ok (.bipush (-3), 2) := by decide +kernel
theorem d149_188 : decode (byt 149) 188 = .ok (.ireturn, 1) := by decide +kernel
set_option maxRecDepth 20000 in
theorem S149_0 : (∀ (ls : Lo) (st : List Value) (h : Hp) (Q : Option Value → Hp → Prop)  (i : Nat), Wp 149 0 (some (.ref i) :: ls) (st) h Q ↔ Wp 149 1 (some (.ref i) :: ls) (.ref i :: st) h Q) ∧
  (∀ (ls : Lo) (st : List Value) (h : Hp) (Q : Option Value → Hp → Prop) (l0 : Option Value) (x : Int32), Wp 149 1 (l0 :: some (.int x) :: ls) (st) h Q ↔ Wp 149 2 (l0 :: some (.int x) :: ls) (.int x :: st) h Q) ∧
  (∀ (ls : Lo) (st : List Value) (n sl : Nat) (C Z : Nat → Nat) (I : Nat → Nat → Int32) (L : Nat → Nat → Int64) (R : Nat → Nat → Nat) (Q : Option Value → Hp → Prop) (x0 : Int32) (i : Nat), C i = 11 → (Wp 149 2 (ls) (.int x0 :: .ref i :: st) (n, sl, C, Z, I, L, R) Q ↔ (wsum st ≤ 8 ∧ Call 103 [some (.ref i), some (.int x0)] (n, sl, C, Z, I, L, R) 149 5 ls st Q))) ∧
  (∀ (ls : Lo) (st : List Value) (h : Hp) (Q : Option Value → Hp → Prop) (x : Int32), Wp 149 5 (ls) (.int x :: st) h Q ↔ Br 149 11 8 ls st h Q (¬ x = 0)) ∧
  (∀ (ls : Lo) (st : List Value) (h : Hp) (Q : Option Value → Hp → Prop), Wp 149 8 (ls) (st) h Q ↔ Wp 149 10 (ls) (.int (-2) :: st) h Q) ∧
  (∀ (ls : Lo) (h : Hp) (Q : Option Value → Hp → Prop) (x : Int32), Wp 149 10 (ls) ([.int x]) h Q ↔ Q (some (.int x)) h) ∧
  (∀ (ls : Lo) (st : List Value) (h : Hp) (Q : Option Value → Hp → Prop)  (i : Nat), Wp 149 11 (some (.ref i) :: ls) (st) h Q ↔ Wp 149 12 (some (.ref i) :: ls) (.ref i :: st) h Q) ∧
  (∀ (ls : Lo) (st : List Value) (h : Hp) (Q : Option Value → Hp → Prop) (l0 : Option Value) (x : Int32), Wp 149 12 (l0 :: some (.int x) :: ls) (st) h Q ↔ Wp 149 13 (l0 :: some (.int x) :: ls) (.int x :: st) h Q) ∧
  (∀ (ls : Lo) (st : List Value) (n sl : Nat) (C Z : Nat → Nat) (I : Nat → Nat → Int32) (L : Nat → Nat → Int64) (R : Nat → Nat → Nat) (Q : Option Value → Hp → Prop) (x0 : Int32) (i : Nat), C i = 11 → (Wp 149 13 (ls) (.int x0 :: .ref i :: st) (n, sl, C, Z, I, L, R) Q ↔ (wsum st ≤ 8 ∧ Call 143 [some (.ref i), some (.int x0), none] (n, sl, C, Z, I, L, R) 149 16 ls st Q))) ∧
  (∀ (ls : Lo) (st : List Value) (h : Hp) (Q : Option Value → Hp → Prop) (x : Int32), Wp 149 16 (ls) (.int x :: st) h Q ↔ Br 149 21 19 ls st h Q (¬ x = 0)) ∧
  (∀ (ls : Lo) (st : List Value) (h : Hp) (Q : Option Value → Hp → Prop), Wp 149 19 (ls) (st) h Q ↔ Wp 149 20 (ls) (.int (0) :: st) h Q) ∧
  (∀ (ls : Lo) (h : Hp) (Q : Option Value → Hp → Prop) (x : Int32), Wp 149 20 (ls) ([.int x]) h Q ↔ Q (some (.int x)) h) ∧
  (∀ (ls : Lo) (st : List Value) (h : Hp) (Q : Option Value → Hp → Prop)  (i : Nat), Wp 149 21 (some (.ref i) :: ls) (st) h Q ↔ Wp 149 22 (some (.ref i) :: ls) (.ref i :: st) h Q) ∧
  (∀ (ls : Lo) (st : List Value) (h : Hp) (Q : Option Value → Hp → Prop) (l0 : Option Value) (x : Int32), Wp 149 22 (l0 :: some (.int x) :: ls) (st) h Q ↔ Wp 149 23 (l0 :: some (.int x) :: ls) (.int x :: st) h Q) ∧
  (∀ (ls : Lo) (st : List Value) (n sl : Nat) (C Z : Nat → Nat) (I : Nat → Nat → Int32) (L : Nat → Nat → Int64) (R : Nat → Nat → Nat) (Q : Option Value → Hp → Prop) (x0 : Int32) (i : Nat), C i = 11 → (Wp 149 23 (ls) (.int x0 :: .ref i :: st) (n, sl, C, Z, I, L, R) Q ↔ (wsum st ≤ 8 ∧ Call 145 [some (.ref i), some (.int x0), none, none, none] (n, sl, C, Z, I, L, R) 149 26 ls st Q))) ∧
  (∀ (ls : Lo) (st : List Value) (h : Hp) (Q : Option Value → Hp → Prop), Wp 149 26 (ls) (st) h Q ↔ Wp 149 27 (ls) (.int (0) :: st) h Q) ∧
  (∀ (ls : Lo) (st : List Value) (h : Hp) (Q : Option Value → Hp → Prop) (l0 l1 l2 : Option Value) (x : Int32), Wp 149 27 (l0 :: l1 :: l2 :: ls) (.int x :: st) h Q ↔ Wp 149 28 (l0 :: clr l1 :: some (.int x) :: ls) (st) h Q) ∧
  (∀ (ls : Lo) (st : List Value) (h : Hp) (Q : Option Value → Hp → Prop) (l0 l1 : Option Value) (x : Int32), Wp 149 28 (l0 :: l1 :: some (.int x) :: ls) (st) h Q ↔ Wp 149 29 (l0 :: l1 :: some (.int x) :: ls) (.int x :: st) h Q) ∧
  (∀ (ls : Lo) (st : List Value) (h : Hp) (Q : Option Value → Hp → Prop)  (i : Nat), Wp 149 29 (some (.ref i) :: ls) (st) h Q ↔ Wp 149 30 (some (.ref i) :: ls) (.ref i :: st) h Q) ∧
  (∀ (ls : Lo) (st : List Value) (n sl : Nat) (C Z : Nat → Nat) (I : Nat → Nat → Int32) (L : Nat → Nat → Int64) (R : Nat → Nat → Nat) (Q : Option Value → Hp → Prop) (i : Nat), Wp 149 30 (ls) (.ref i :: st) (n, sl, C, Z, I, L, R) Q ↔ (C i = 11 ∧ Wp 149 33 (ls) (.int (I i 13) :: st) (n, sl, C, Z, I, L, R) Q)) ∧
  (∀ (ls : Lo) (st : List Value) (h : Hp) (Q : Option Value → Hp → Prop) (x y : Int32), Wp 149 33 (ls) (.int y :: .int x :: st) h Q ↔ Br 149 44 36 ls st h Q (x < y)) ∧
  (∀ (ls : Lo) (st : List Value) (h : Hp) (Q : Option Value → Hp → Prop) (l0 l1 : Option Value) (x : Int32), Wp 149 36 (l0 :: l1 :: some (.int x) :: ls) (st) h Q ↔ Wp 149 37 (l0 :: l1 :: some (.int x) :: ls) (.int x :: st) h Q) ∧
  (∀ (ls : Lo) (st : List Value) (h : Hp) (Q : Option Value → Hp → Prop)  (i : Nat), Wp 149 37 (some (.ref i) :: ls) (st) h Q ↔ Wp 149 38 (some (.ref i) :: ls) (.ref i :: st) h Q) ∧
  (∀ (ls : Lo) (st : List Value) (n sl : Nat) (C Z : Nat → Nat) (I : Nat → Nat → Int32) (L : Nat → Nat → Int64) (R : Nat → Nat → Nat) (Q : Option Value → Hp → Prop) (i : Nat), Wp 149 38 (ls) (.ref i :: st) (n, sl, C, Z, I, L, R) Q ↔ (C i = 11 ∧ Wp 149 41 (ls) (.int (I i 14) :: st) (n, sl, C, Z, I, L, R) Q)) ∧
  (∀ (ls : Lo) (st : List Value) (h : Hp) (Q : Option Value → Hp → Prop) (x y : Int32), Wp 149 41 (ls) (.int y :: .int x :: st) h Q ↔ Br 149 84 44 ls st h Q (y ≤ x)) := ⟨by intro ls st h Q i; exact e_aload_n d149_0 rfl,
  by intro ls st h Q l0 x; exact e_iload_n d149_1 rfl,
  by intro ls st n sl C Z I L R Q x0 i hh; exact e_iv (k2 := 103) (c := 11) (as := [.int x0]) d149_2 rfl (by decide) rfl rfl (by decide +kernel) (Nat.le_of_ble_eq_true rfl) rfl hh,
  by intro ls st h Q x; exact e_if d149_5 (by decide) c_ne,
  by intro ls st h Q; exact e_bipush d149_8 rfl,
  by intros; exact e_rI (p := True) d149_10 rfl,
  by intro ls st h Q i; exact e_aload_n d149_11 rfl,
  by intro ls st h Q l0 x; exact e_iload_n d149_12 rfl,
  by intro ls st n sl C Z I L R Q x0 i hh; exact e_iv (k2 := 143) (c := 11) (as := [.int x0]) d149_13 rfl (by decide) rfl rfl (by decide +kernel) (Nat.le_of_ble_eq_true rfl) rfl hh,
  by intro ls st h Q x; exact e_if d149_16 (by decide) c_ne,
  by intro ls st h Q; exact e_iconst d149_19 rfl,
  by intros; exact e_rI (p := True) d149_20 rfl,
  by intro ls st h Q i; exact e_aload_n d149_21 rfl,
  by intro ls st h Q l0 x; exact e_iload_n d149_22 rfl,
  by intro ls st n sl C Z I L R Q x0 i hh; exact e_iv (k2 := 145) (c := 11) (as := [.int x0]) d149_23 rfl (by decide) rfl rfl (by decide +kernel) (Nat.le_of_ble_eq_true rfl) rfl hh,
  by intro ls st h Q; exact e_iconst d149_26 rfl,
  by intro ls st h Q l0 l1 l2 x; exact e_istore_n d149_27 rfl,
  by intro ls st h Q l0 l1 x; exact e_iload_n d149_28 rfl,
  by intro ls st h Q i; exact e_aload_n d149_29 rfl,
  by intro ls st n sl C Z I L R Q i; exact e_get (g := 10) (s := 13) (ty := 0) d149_30 rfl rfl (inG_ne (by decide)),
  by intro ls st h Q x y; exact e_ic d149_33 (by decide) c_lt,
  by intro ls st h Q l0 l1 x; exact e_iload_n d149_36 rfl,
  by intro ls st h Q i; exact e_aload_n d149_37 rfl,
  by intro ls st n sl C Z I L R Q i; exact e_get (g := 10) (s := 14) (ty := 0) d149_38 rfl rfl (inG_ne (by decide)),
  by intro ls st h Q x y; exact e_ic d149_41 (by decide) c_ge⟩
set_option maxRecDepth 20000 in
theorem S149_1 : (∀ (ls : Lo) (st : List Value) (h : Hp) (Q : Option Value → Hp → Prop) (l0 l1 : Option Value) (x : Int32), Wp 149 44 (l0 :: l1 :: some (.int x) :: ls) (st) h Q ↔ Wp 149 45 (l0 :: l1 :: some (.int x) :: ls) (.int x :: st) h Q) ∧
  (∀ (ls : Lo) (st : List Value) (h : Hp) (Q : Option Value → Hp → Prop)  (i : Nat), Wp 149 45 (some (.ref i) :: ls) (st) h Q ↔ Wp 149 46 (some (.ref i) :: ls) (.ref i :: st) h Q) ∧
  (∀ (ls : Lo) (st : List Value) (n sl : Nat) (C Z : Nat → Nat) (I : Nat → Nat → Int32) (L : Nat → Nat → Int64) (R : Nat → Nat → Nat) (Q : Option Value → Hp → Prop) (i : Nat), Wp 149 46 (ls) (.ref i :: st) (n, sl, C, Z, I, L, R) Q ↔ (C i = 11 ∧ Wp 149 49 (ls) (.int (I i 13) :: st) (n, sl, C, Z, I, L, R) Q)) ∧
  (∀ (ls : Lo) (st : List Value) (h : Hp) (Q : Option Value → Hp → Prop) (x y : Int32), Wp 149 49 (ls) (.int y :: .int x :: st) h Q ↔ Br 149 76 52 ls st h Q (y ≤ x)) ∧
  (∀ (ls : Lo) (st : List Value) (h : Hp) (Q : Option Value → Hp → Prop) (l0 l1 : Option Value) (x : Int32), Wp 149 52 (l0 :: l1 :: some (.int x) :: ls) (st) h Q ↔ Wp 149 53 (l0 :: l1 :: some (.int x) :: ls) (.int x :: st) h Q) ∧
  (∀ (ls : Lo) (st : List Value) (h : Hp) (Q : Option Value → Hp → Prop)  (i : Nat), Wp 149 53 (some (.ref i) :: ls) (st) h Q ↔ Wp 149 54 (some (.ref i) :: ls) (.ref i :: st) h Q) ∧
  (∀ (ls : Lo) (st : List Value) (n sl : Nat) (C Z : Nat → Nat) (I : Nat → Nat → Int32) (L : Nat → Nat → Int64) (R : Nat → Nat → Nat) (Q : Option Value → Hp → Prop) (i : Nat), Wp 149 54 (ls) (.ref i :: st) (n, sl, C, Z, I, L, R) Q ↔ (C i = 11 ∧ Wp 149 57 (ls) (.int (I i 14) :: st) (n, sl, C, Z, I, L, R) Q)) ∧
  (∀ (ls : Lo) (st : List Value) (h : Hp) (Q : Option Value → Hp → Prop) (x y : Int32), Wp 149 57 (ls) (.int y :: .int x :: st) h Q ↔ Br 149 76 60 ls st h Q (y ≤ x)) ∧
  (∀ (ls : Lo) (st : List Value) (h : Hp) (Q : Option Value → Hp → Prop)  (i : Nat), Wp 149 60 (some (.ref i) :: ls) (st) h Q ↔ Wp 149 61 (some (.ref i) :: ls) (.ref i :: st) h Q) ∧
  (∀ (ls : Lo) (st : List Value) (n sl : Nat) (C Z : Nat → Nat) (I : Nat → Nat → Int32) (L : Nat → Nat → Int64) (R : Nat → Nat → Nat) (Q : Option Value → Hp → Prop) (i : Nat), Wp 149 61 (ls) (.ref i :: st) (n, sl, C, Z, I, L, R) Q ↔ (C i = 11 ∧ Wp 149 64 (ls) (.ref (R i 11) :: st) (n, sl, C, Z, I, L, R) Q)) ∧
  (∀ (ls : Lo) (st : List Value) (h : Hp) (Q : Option Value → Hp → Prop) (l0 l1 : Option Value) (x : Int32), Wp 149 64 (l0 :: l1 :: some (.int x) :: ls) (st) h Q ↔ Wp 149 65 (l0 :: l1 :: some (.int x) :: ls) (.int x :: st) h Q) ∧
  (∀ (ls : Lo) (st : List Value) (n sl : Nat) (C Z : Nat → Nat) (I : Nat → Nat → Int32) (L : Nat → Nat → Int64) (R : Nat → Nat → Nat) (Q : Option Value → Hp → Prop) (i : Nat) (y : Int32), Wp 149 65 (ls) (.int y :: .ref i :: st) (n, sl, C, Z, I, L, R) Q ↔ ((inb y (Z i) = true ∧ C i = 22) ∧ Wp 149 66 (ls) (.long (L i (ix y)) :: st) (n, sl, C, Z, I, L, R) Q)) ∧
  (∀ (ls : Lo) (st : List Value) (h : Hp) (Q : Option Value → Hp → Prop)  (i : Nat), Wp 149 66 (some (.ref i) :: ls) (st) h Q ↔ Wp 149 67 (some (.ref i) :: ls) (.ref i :: st) h Q) ∧
  (∀ (ls : Lo) (st : List Value) (n sl : Nat) (C Z : Nat → Nat) (I : Nat → Nat → Int32) (L : Nat → Nat → Int64) (R : Nat → Nat → Nat) (Q : Option Value → Hp → Prop) (i : Nat), Wp 149 67 (ls) (.ref i :: st) (n, sl, C, Z, I, L, R) Q ↔ (C i = 11 ∧ Wp 149 70 (ls) (.ref (R i 12) :: st) (n, sl, C, Z, I, L, R) Q)) ∧
  (∀ (ls : Lo) (st : List Value) (h : Hp) (Q : Option Value → Hp → Prop) (l0 l1 : Option Value) (x : Int32), Wp 149 70 (l0 :: l1 :: some (.int x) :: ls) (st) h Q ↔ Wp 149 71 (l0 :: l1 :: some (.int x) :: ls) (.int x :: st) h Q) ∧
  (∀ (ls : Lo) (st : List Value) (n sl : Nat) (C Z : Nat → Nat) (I : Nat → Nat → Int32) (L : Nat → Nat → Int64) (R : Nat → Nat → Nat) (Q : Option Value → Hp → Prop) (i : Nat) (y : Int32), Wp 149 71 (ls) (.int y :: .ref i :: st) (n, sl, C, Z, I, L, R) Q ↔ ((inb y (Z i) = true ∧ C i = 22) ∧ Wp 149 72 (ls) (.long (L i (ix y)) :: st) (n, sl, C, Z, I, L, R) Q)) ∧
  (∀ (ls : Lo) (st : List Value) (h : Hp) (Q : Option Value → Hp → Prop) (a b : Int64), Wp 149 72 (ls) (.long b :: .long a :: st) h Q ↔ Wp 149 73 (ls) (.int (lg_cmp a b) :: st) h Q) ∧
  (∀ (ls : Lo) (st : List Value) (h : Hp) (Q : Option Value → Hp → Prop) (x : Int32), Wp 149 73 (ls) (.int x :: st) h Q ↔ Br 149 78 76 ls st h Q (x = 0)) ∧
  (∀ (ls : Lo) (st : List Value) (h : Hp) (Q : Option Value → Hp → Prop) (l0 l1 : Option Value) (x : Int32), Wp 149 76 (l0 :: l1 :: some (.int x) :: ls) (st) h Q ↔ Wp 149 77 (l0 :: l1 :: some (.int x) :: ls) (.int x :: st) h Q) ∧
  (∀ (ls : Lo) (h : Hp) (Q : Option Value → Hp → Prop) (x : Int32), Wp 149 77 (ls) ([.int x]) h Q ↔ Q (some (.int x)) h) ∧
  (∀ (ls : Lo) (st : List Value) (h : Hp) (Q : Option Value → Hp → Prop) (l0 l1 : Option Value) (x : Int32), Wp 149 78 (l0 :: l1 :: some (.int x) :: ls) (st) h Q ↔ Wp 149 81 (l0 :: clr l1 :: some (.int (x + (1))) :: ls) (st) h Q) ∧
  (∀ (ls : Lo) (st : List Value) (h : Hp) (Q : Option Value → Hp → Prop), Wp 149 81 (ls) (st) h Q ↔ Wp 149 28 (ls) (st) h Q) ∧
  (∀ (ls : Lo) (st : List Value) (h : Hp) (Q : Option Value → Hp → Prop)  (i : Nat), Wp 149 84 (some (.ref i) :: ls) (st) h Q ↔ Wp 149 85 (some (.ref i) :: ls) (.ref i :: st) h Q) ∧
  (∀ (ls : Lo) (st : List Value) (n sl : Nat) (C Z : Nat → Nat) (I : Nat → Nat → Int32) (L : Nat → Nat → Int64) (R : Nat → Nat → Nat) (Q : Option Value → Hp → Prop) (i : Nat), Wp 149 85 (ls) (.ref i :: st) (n, sl, C, Z, I, L, R) Q ↔ (C i = 11 ∧ Wp 149 88 (ls) (.ref (R i 2) :: st) (n, sl, C, Z, I, L, R) Q)) ∧
  (∀ (ls : Lo) (st : List Value) (h : Hp) (Q : Option Value → Hp → Prop) (l0 : Option Value) (x : Int32), Wp 149 88 (l0 :: some (.int x) :: ls) (st) h Q ↔ Wp 149 89 (l0 :: some (.int x) :: ls) (.int x :: st) h Q) := ⟨by intro ls st h Q l0 l1 x; exact e_iload_n d149_44 rfl,
  by intro ls st h Q i; exact e_aload_n d149_45 rfl,
  by intro ls st n sl C Z I L R Q i; exact e_get (g := 10) (s := 13) (ty := 0) d149_46 rfl rfl (inG_ne (by decide)),
  by intro ls st h Q x y; exact e_ic d149_49 (by decide) c_ge,
  by intro ls st h Q l0 l1 x; exact e_iload_n d149_52 rfl,
  by intro ls st h Q i; exact e_aload_n d149_53 rfl,
  by intro ls st n sl C Z I L R Q i; exact e_get (g := 10) (s := 14) (ty := 0) d149_54 rfl rfl (inG_ne (by decide)),
  by intro ls st h Q x y; exact e_ic d149_57 (by decide) c_ge,
  by intro ls st h Q i; exact e_aload_n d149_60 rfl,
  by intro ls st n sl C Z I L R Q i; exact e_get (g := 10) (s := 11) (ty := 2) d149_61 rfl rfl (inG_ne (by decide)),
  by intro ls st h Q l0 l1 x; exact e_iload_n d149_64 rfl,
  by intro ls st n sl C Z I L R Q i y; exact e_lald d149_65,
  by intro ls st h Q i; exact e_aload_n d149_66 rfl,
  by intro ls st n sl C Z I L R Q i; exact e_get (g := 10) (s := 12) (ty := 2) d149_67 rfl rfl (inG_ne (by decide)),
  by intro ls st h Q l0 l1 x; exact e_iload_n d149_70 rfl,
  by intro ls st n sl C Z I L R Q i y; exact e_lald d149_71,
  by intro ls st h Q a b; exact e_lcmp d149_72,
  by intro ls st h Q x; exact e_if d149_73 (by decide) c_eq,
  by intro ls st h Q l0 l1 x; exact e_iload_n d149_76 rfl,
  by intros; exact e_rI (p := True) d149_77 rfl,
  by intro ls st h Q l0 l1 x; exact e_iinc d149_78 rfl rfl rfl,
  by intro ls st h Q; exact e_goto d149_81 (by decide),
  by intro ls st h Q i; exact e_aload_n d149_84 rfl,
  by intro ls st n sl C Z I L R Q i; exact e_get (g := 10) (s := 2) (ty := 2) d149_85 rfl rfl (inG_ne (by decide)),
  by intro ls st h Q l0 x; exact e_iload_n d149_88 rfl⟩
set_option maxRecDepth 20000 in
theorem S149_2 : (∀ (ls : Lo) (st : List Value) (n sl : Nat) (C Z : Nat → Nat) (I : Nat → Nat → Int32) (L : Nat → Nat → Int64) (R : Nat → Nat → Nat) (Q : Option Value → Hp → Prop) (i : Nat) (y : Int32), Wp 149 89 (ls) (.int y :: .ref i :: st) (n, sl, C, Z, I, L, R) Q ↔ ((inb y (Z i) = true ∧ C i = 21) ∧ Wp 149 90 (ls) (.int (I i (ix y)) :: st) (n, sl, C, Z, I, L, R) Q)) ∧
  (∀ (ls : Lo) (st : List Value) (h : Hp) (Q : Option Value → Hp → Prop) (x : Int32), Wp 149 90 (ls) (.int x :: st) h Q ↔ Br 149 95 93 ls st h Q (¬ x = 0)) ∧
  (∀ (ls : Lo) (st : List Value) (h : Hp) (Q : Option Value → Hp → Prop), Wp 149 93 (ls) (st) h Q ↔ Wp 149 94 (ls) (.int (-1) :: st) h Q) ∧
  (∀ (ls : Lo) (h : Hp) (Q : Option Value → Hp → Prop) (x : Int32), Wp 149 94 (ls) ([.int x]) h Q ↔ Q (some (.int x)) h) ∧
  (∀ (ls : Lo) (st : List Value) (h : Hp) (Q : Option Value → Hp → Prop)  (i : Nat), Wp 149 95 (some (.ref i) :: ls) (st) h Q ↔ Wp 149 96 (some (.ref i) :: ls) (.ref i :: st) h Q) ∧
  (∀ (ls : Lo) (st : List Value) (h : Hp) (Q : Option Value → Hp → Prop) (l0 : Option Value) (x : Int32), Wp 149 96 (l0 :: some (.int x) :: ls) (st) h Q ↔ Wp 149 97 (l0 :: some (.int x) :: ls) (.int x :: st) h Q) ∧
  (∀ (ls : Lo) (st : List Value) (h : Hp) (Q : Option Value → Hp → Prop), Wp 149 97 (ls) (st) h Q ↔ Wp 149 98 (ls) (.int (0) :: st) h Q) ∧
  (∀ (ls : Lo) (st : List Value) (h : Hp) (Q : Option Value → Hp → Prop), Wp 149 98 (ls) (st) h Q ↔ Wp 149 99 (ls) (.int (0) :: st) h Q) ∧
  (∀ (ls : Lo) (st : List Value) (h : Hp) (Q : Option Value → Hp → Prop), Wp 149 99 (ls) (st) h Q ↔ Wp 149 100 (ls) (.int (0) :: st) h Q) ∧
  (∀ (ls : Lo) (st : List Value) (n sl : Nat) (C Z : Nat → Nat) (I : Nat → Nat → Int32) (L : Nat → Nat → Int64) (R : Nat → Nat → Nat) (Q : Option Value → Hp → Prop) (x0 : Int32) (x1 : Int32) (x2 : Int32) (x3 : Int32) (i : Nat), C i = 11 → (Wp 149 100 (ls) (.int x3 :: .int x2 :: .int x1 :: .int x0 :: .ref i :: st) (n, sl, C, Z, I, L, R) Q ↔ (wsum st ≤ 8 ∧ Call 144 [some (.ref i), some (.int x0), some (.int x1), some (.int x2), some (.int x3)] (n, sl, C, Z, I, L, R) 149 103 ls st Q))) ∧
  (∀ (ls : Lo) (st : List Value) (h : Hp) (Q : Option Value → Hp → Prop), Wp 149 103 (ls) (st) h Q ↔ Wp 149 104 (ls) (.long 0 :: st) h Q) ∧
  (∀ (ls : Lo) (st : List Value) (h : Hp) (Q : Option Value → Hp → Prop) (a b : Int64), Wp 149 104 (ls) (.long b :: .long a :: st) h Q ↔ Wp 149 105 (ls) (.int (lg_cmp a b) :: st) h Q) ∧
  (∀ (ls : Lo) (st : List Value) (h : Hp) (Q : Option Value → Hp → Prop) (x : Int32), Wp 149 105 (ls) (.int x :: st) h Q ↔ Br 149 111 108 ls st h Q (0 < x)) ∧
  (∀ (ls : Lo) (st : List Value) (h : Hp) (Q : Option Value → Hp → Prop), Wp 149 108 (ls) (st) h Q ↔ Wp 149 110 (ls) (.int (-3) :: st) h Q) ∧
  (∀ (ls : Lo) (h : Hp) (Q : Option Value → Hp → Prop) (x : Int32), Wp 149 110 (ls) ([.int x]) h Q ↔ Q (some (.int x)) h) ∧
  (∀ (ls : Lo) (st : List Value) (h : Hp) (Q : Option Value → Hp → Prop)  (i : Nat), Wp 149 111 (some (.ref i) :: ls) (st) h Q ↔ Wp 149 112 (some (.ref i) :: ls) (.ref i :: st) h Q) ∧
  (∀ (ls : Lo) (st : List Value) (n sl : Nat) (C Z : Nat → Nat) (I : Nat → Nat → Int32) (L : Nat → Nat → Int64) (R : Nat → Nat → Nat) (Q : Option Value → Hp → Prop) (i : Nat), Wp 149 112 (ls) (.ref i :: st) (n, sl, C, Z, I, L, R) Q ↔ (C i = 11 ∧ Wp 149 115 (ls) (.ref (R i 2) :: st) (n, sl, C, Z, I, L, R) Q)) ∧
  (∀ (ls : Lo) (st : List Value) (h : Hp) (Q : Option Value → Hp → Prop) (l0 : Option Value) (x : Int32), Wp 149 115 (l0 :: some (.int x) :: ls) (st) h Q ↔ Wp 149 116 (l0 :: some (.int x) :: ls) (.int x :: st) h Q) ∧
  (∀ (ls : Lo) (st : List Value) (n sl : Nat) (C Z : Nat → Nat) (I : Nat → Nat → Int32) (L : Nat → Nat → Int64) (R : Nat → Nat → Nat) (Q : Option Value → Hp → Prop) (i : Nat) (y : Int32), Wp 149 116 (ls) (.int y :: .ref i :: st) (n, sl, C, Z, I, L, R) Q ↔ ((inb y (Z i) = true ∧ C i = 21) ∧ Wp 149 117 (ls) (.int (I i (ix y)) :: st) (n, sl, C, Z, I, L, R) Q)) ∧
  (∀ (ls : Lo) (st : List Value) (h : Hp) (Q : Option Value → Hp → Prop), Wp 149 117 (ls) (st) h Q ↔ Wp 149 118 (ls) (.int (1) :: st) h Q) ∧
  (∀ (ls : Lo) (st : List Value) (h : Hp) (Q : Option Value → Hp → Prop) (x y : Int32), Wp 149 118 (ls) (.int y :: .int x :: st) h Q ↔ Br 149 123 121 ls st h Q (¬ x = y)) ∧
  (∀ (ls : Lo) (st : List Value) (h : Hp) (Q : Option Value → Hp → Prop), Wp 149 121 (ls) (st) h Q ↔ Wp 149 122 (ls) (.int (-1) :: st) h Q) ∧
  (∀ (ls : Lo) (h : Hp) (Q : Option Value → Hp → Prop) (x : Int32), Wp 149 122 (ls) ([.int x]) h Q ↔ Q (some (.int x)) h) ∧
  (∀ (ls : Lo) (st : List Value) (h : Hp) (Q : Option Value → Hp → Prop)  (i : Nat), Wp 149 123 (some (.ref i) :: ls) (st) h Q ↔ Wp 149 124 (some (.ref i) :: ls) (.ref i :: st) h Q) ∧
  (∀ (ls : Lo) (st : List Value) (h : Hp) (Q : Option Value → Hp → Prop), Wp 149 124 (ls) (st) h Q ↔ Wp 149 125 (ls) (.int (3) :: st) h Q) := ⟨by intro ls st n sl C Z I L R Q i y; exact e_iald d149_89,
  by intro ls st h Q x; exact e_if d149_90 (by decide) c_ne,
  by intro ls st h Q; exact e_iconst d149_93 rfl,
  by intros; exact e_rI (p := True) d149_94 rfl,
  by intro ls st h Q i; exact e_aload_n d149_95 rfl,
  by intro ls st h Q l0 x; exact e_iload_n d149_96 rfl,
  by intro ls st h Q; exact e_iconst d149_97 rfl,
  by intro ls st h Q; exact e_iconst d149_98 rfl,
  by intro ls st h Q; exact e_iconst d149_99 rfl,
  by intro ls st n sl C Z I L R Q x0 x1 x2 x3 i hh; exact e_iv (k2 := 144) (c := 11) (as := [.int x0, .int x1, .int x2, .int x3]) d149_100 rfl (by decide) rfl rfl (by decide +kernel) (Nat.le_of_ble_eq_true rfl) rfl hh,
  by intro ls st h Q; exact e_lconst d149_103 rfl,
  by intro ls st h Q a b; exact e_lcmp d149_104,
  by intro ls st h Q x; exact e_if d149_105 (by decide) c_gt,
  by intro ls st h Q; exact e_bipush d149_108 rfl,
  by intros; exact e_rI (p := True) d149_110 rfl,
  by intro ls st h Q i; exact e_aload_n d149_111 rfl,
  by intro ls st n sl C Z I L R Q i; exact e_get (g := 10) (s := 2) (ty := 2) d149_112 rfl rfl (inG_ne (by decide)),
  by intro ls st h Q l0 x; exact e_iload_n d149_115 rfl,
  by intro ls st n sl C Z I L R Q i y; exact e_iald d149_116,
  by intro ls st h Q; exact e_iconst d149_117 rfl,
  by intro ls st h Q x y; exact e_ic d149_118 (by decide) c_ne,
  by intro ls st h Q; exact e_iconst d149_121 rfl,
  by intros; exact e_rI (p := True) d149_122 rfl,
  by intro ls st h Q i; exact e_aload_n d149_123 rfl,
  by intro ls st h Q; exact e_iconst d149_124 rfl⟩
set_option maxRecDepth 20000 in
theorem S149_3 : (∀ (ls : Lo) (st : List Value) (h : Hp) (Q : Option Value → Hp → Prop), Wp 149 125 (ls) (st) h Q ↔ Wp 149 126 (ls) (.int (-1) :: st) h Q) ∧
  (∀ (ls : Lo) (st : List Value) (n sl : Nat) (C Z : Nat → Nat) (I : Nat → Nat → Int32) (L : Nat → Nat → Int64) (R : Nat → Nat → Nat) (Q : Option Value → Hp → Prop) (x0 : Int32) (x1 : Int32) (i : Nat), C i = 11 → (Wp 149 126 (ls) (.int x1 :: .int x0 :: .ref i :: st) (n, sl, C, Z, I, L, R) Q ↔ (wsum st ≤ 8 ∧ Call 139 [some (.ref i), some (.int x0), some (.int x1), none, none] (n, sl, C, Z, I, L, R) 149 129 ls st Q))) ∧
  (∀ (ls : Lo) (st : List Value) (h : Hp) (Q : Option Value → Hp → Prop) (l0 l1 l2 l3 : Option Value) (a : Int64), Wp 149 129 (l0 :: l1 :: l2 :: l3 :: ls) (.long a :: st) h Q ↔ Wp 149 130 (l0 :: clr l1 :: some (.long a) :: none :: ls) (st) h Q) ∧
  (∀ (ls : Lo) (st : List Value) (h : Hp) (Q : Option Value → Hp → Prop)  (i : Nat), Wp 149 130 (some (.ref i) :: ls) (st) h Q ↔ Wp 149 131 (some (.ref i) :: ls) (.ref i :: st) h Q) ∧
  (∀ (ls : Lo) (st : List Value) (h : Hp) (Q : Option Value → Hp → Prop) (l0 : Option Value) (x : Int32), Wp 149 131 (l0 :: some (.int x) :: ls) (st) h Q ↔ Wp 149 132 (l0 :: some (.int x) :: ls) (.int x :: st) h Q) ∧
  (∀ (ls : Lo) (st : List Value) (n sl : Nat) (C Z : Nat → Nat) (I : Nat → Nat → Int32) (L : Nat → Nat → Int64) (R : Nat → Nat → Nat) (Q : Option Value → Hp → Prop) (x0 : Int32) (i : Nat), C i = 11 → (Wp 149 132 (ls) (.int x0 :: .ref i :: st) (n, sl, C, Z, I, L, R) Q ↔ (wsum st ≤ 8 ∧ Call 143 [some (.ref i), some (.int x0), none] (n, sl, C, Z, I, L, R) 149 135 ls st Q))) ∧
  (∀ (ls : Lo) (st : List Value) (h : Hp) (Q : Option Value → Hp → Prop) (x : Int32), Wp 149 135 (ls) (.int x :: st) h Q ↔ Wp 149 136 (ls) (st) h Q) ∧
  (∀ (ls : Lo) (st : List Value) (h : Hp) (Q : Option Value → Hp → Prop) (i : Nat), Wp 149 135 (ls) (.ref i :: st) h Q ↔ Wp 149 136 (ls) (st) h Q) ∧
  (∀ (ls : Lo) (st : List Value) (h : Hp) (Q : Option Value → Hp → Prop)  (i : Nat), Wp 149 136 (some (.ref i) :: ls) (st) h Q ↔ Wp 149 137 (some (.ref i) :: ls) (.ref i :: st) h Q) ∧
  (∀ (ls : Lo) (st : List Value) (h : Hp) (Q : Option Value → Hp → Prop), Wp 149 137 (ls) (st) h Q ↔ Wp 149 138 (ls) (.int (3) :: st) h Q) ∧
  (∀ (ls : Lo) (st : List Value) (h : Hp) (Q : Option Value → Hp → Prop), Wp 149 138 (ls) (st) h Q ↔ Wp 149 139 (ls) (.int (0) :: st) h Q) ∧
  (∀ (ls : Lo) (st : List Value) (n sl : Nat) (C Z : Nat → Nat) (I : Nat → Nat → Int32) (L : Nat → Nat → Int64) (R : Nat → Nat → Nat) (Q : Option Value → Hp → Prop) (x0 : Int32) (x1 : Int32) (i : Nat), C i = 11 → (Wp 149 139 (ls) (.int x1 :: .int x0 :: .ref i :: st) (n, sl, C, Z, I, L, R) Q ↔ (wsum st ≤ 8 ∧ Call 139 [some (.ref i), some (.int x0), some (.int x1), none, none] (n, sl, C, Z, I, L, R) 149 142 ls st Q))) ∧
  (∀ (ls : Lo) (st : List Value) (h : Hp) (Q : Option Value → Hp → Prop) (l0 l1 l2 l3 l4 l5 : Option Value) (a : Int64), Wp 149 142 (l0 :: l1 :: l2 :: l3 :: l4 :: l5 :: ls) (.long a :: st) h Q ↔ Wp 149 144 (l0 :: l1 :: l2 :: clr l3 :: some (.long a) :: none :: ls) (st) h Q) ∧
  (∀ (ls : Lo) (st : List Value) (h : Hp) (Q : Option Value → Hp → Prop)  (i : Nat), Wp 149 144 (some (.ref i) :: ls) (st) h Q ↔ Wp 149 145 (some (.ref i) :: ls) (.ref i :: st) h Q) ∧
  (∀ (ls : Lo) (st : List Value) (h : Hp) (Q : Option Value → Hp → Prop), Wp 149 145 (ls) (st) h Q ↔ Wp 149 146 (ls) (.int (3) :: st) h Q) ∧
  (∀ (ls : Lo) (st : List Value) (h : Hp) (Q : Option Value → Hp → Prop), Wp 149 146 (ls) (st) h Q ↔ Wp 149 147 (ls) (.int (1) :: st) h Q) ∧
  (∀ (ls : Lo) (st : List Value) (n sl : Nat) (C Z : Nat → Nat) (I : Nat → Nat → Int32) (L : Nat → Nat → Int64) (R : Nat → Nat → Nat) (Q : Option Value → Hp → Prop) (x0 : Int32) (x1 : Int32) (i : Nat), C i = 11 → (Wp 149 147 (ls) (.int x1 :: .int x0 :: .ref i :: st) (n, sl, C, Z, I, L, R) Q ↔ (wsum st ≤ 8 ∧ Call 139 [some (.ref i), some (.int x0), some (.int x1), none, none] (n, sl, C, Z, I, L, R) 149 150 ls st Q))) ∧
  (∀ (ls : Lo) (st : List Value) (h : Hp) (Q : Option Value → Hp → Prop) (l0 l1 l2 l3 l4 l5 l6 l7 : Option Value) (a : Int64), Wp 149 150 (l0 :: l1 :: l2 :: l3 :: l4 :: l5 :: l6 :: l7 :: ls) (.long a :: st) h Q ↔ Wp 149 152 (l0 :: l1 :: l2 :: l3 :: l4 :: clr l5 :: some (.long a) :: none :: ls) (st) h Q) ∧
  (∀ (ls : Lo) (st : List Value) (h : Hp) (Q : Option Value → Hp → Prop)  (i : Nat), Wp 149 152 (some (.ref i) :: ls) (st) h Q ↔ Wp 149 153 (some (.ref i) :: ls) (.ref i :: st) h Q) ∧
  (∀ (ls : Lo) (st : List Value) (h : Hp) (Q : Option Value → Hp → Prop), Wp 149 153 (ls) (st) h Q ↔ Wp 149 154 (ls) (.int (3) :: st) h Q) ∧
  (∀ (ls : Lo) (st : List Value) (h : Hp) (Q : Option Value → Hp → Prop), Wp 149 154 (ls) (st) h Q ↔ Wp 149 155 (ls) (.int (2) :: st) h Q) ∧
  (∀ (ls : Lo) (st : List Value) (n sl : Nat) (C Z : Nat → Nat) (I : Nat → Nat → Int32) (L : Nat → Nat → Int64) (R : Nat → Nat → Nat) (Q : Option Value → Hp → Prop) (x0 : Int32) (x1 : Int32) (i : Nat), C i = 11 → (Wp 149 155 (ls) (.int x1 :: .int x0 :: .ref i :: st) (n, sl, C, Z, I, L, R) Q ↔ (wsum st ≤ 8 ∧ Call 139 [some (.ref i), some (.int x0), some (.int x1), none, none] (n, sl, C, Z, I, L, R) 149 158 ls st Q))) ∧
  (∀ (ls : Lo) (st : List Value) (h : Hp) (Q : Option Value → Hp → Prop) (l0 l1 l2 l3 l4 l5 l6 l7 l8 l9 : Option Value) (a : Int64), Wp 149 158 (l0 :: l1 :: l2 :: l3 :: l4 :: l5 :: l6 :: l7 :: l8 :: l9 :: ls) (.long a :: st) h Q ↔ Wp 149 160 (l0 :: l1 :: l2 :: l3 :: l4 :: l5 :: l6 :: clr l7 :: some (.long a) :: none :: ls) (st) h Q) ∧
  (∀ (ls : Lo) (st : List Value) (h : Hp) (Q : Option Value → Hp → Prop) (l0 l1 l2 l3 : Option Value) (a : Int64), Wp 149 160 (l0 :: l1 :: l2 :: l3 :: some (.long a) :: ls) (st) h Q ↔ Wp 149 162 (l0 :: l1 :: l2 :: l3 :: some (.long a) :: ls) (.long a :: st) h Q) ∧
  (∀ (ls : Lo) (st : List Value) (h : Hp) (Q : Option Value → Hp → Prop) (l0 l1 l2 l3 l4 l5 l6 l7 : Option Value) (a : Int64), Wp 149 162 (l0 :: l1 :: l2 :: l3 :: l4 :: l5 :: l6 :: l7 :: some (.long a) :: ls) (st) h Q ↔ Wp 149 164 (l0 :: l1 :: l2 :: l3 :: l4 :: l5 :: l6 :: l7 :: some (.long a) :: ls) (.long a :: st) h Q) := ⟨by intro ls st h Q; exact e_iconst d149_125 rfl,
  by intro ls st n sl C Z I L R Q x0 x1 i hh; exact e_iv (k2 := 139) (c := 11) (as := [.int x0, .int x1]) d149_126 rfl (by decide) rfl rfl (by decide +kernel) (Nat.le_of_ble_eq_true rfl) rfl hh,
  by intro ls st h Q l0 l1 l2 l3 a; exact e_lstore_n d149_129 rfl,
  by intro ls st h Q i; exact e_aload_n d149_130 rfl,
  by intro ls st h Q l0 x; exact e_iload_n d149_131 rfl,
  by intro ls st n sl C Z I L R Q x0 i hh; exact e_iv (k2 := 143) (c := 11) (as := [.int x0]) d149_132 rfl (by decide) rfl rfl (by decide +kernel) (Nat.le_of_ble_eq_true rfl) rfl hh,
  by intro ls st h Q x; exact e_popI d149_135,
  by intro ls st h Q i; exact e_popR d149_135,
  by intro ls st h Q i; exact e_aload_n d149_136 rfl,
  by intro ls st h Q; exact e_iconst d149_137 rfl,
  by intro ls st h Q; exact e_iconst d149_138 rfl,
  by intro ls st n sl C Z I L R Q x0 x1 i hh; exact e_iv (k2 := 139) (c := 11) (as := [.int x0, .int x1]) d149_139 rfl (by decide) rfl rfl (by decide +kernel) (Nat.le_of_ble_eq_true rfl) rfl hh,
  by intro ls st h Q l0 l1 l2 l3 l4 l5 a; exact e_lstore d149_142 rfl,
  by intro ls st h Q i; exact e_aload_n d149_144 rfl,
  by intro ls st h Q; exact e_iconst d149_145 rfl,
  by intro ls st h Q; exact e_iconst d149_146 rfl,
  by intro ls st n sl C Z I L R Q x0 x1 i hh; exact e_iv (k2 := 139) (c := 11) (as := [.int x0, .int x1]) d149_147 rfl (by decide) rfl rfl (by decide +kernel) (Nat.le_of_ble_eq_true rfl) rfl hh,
  by intro ls st h Q l0 l1 l2 l3 l4 l5 l6 l7 a; exact e_lstore d149_150 rfl,
  by intro ls st h Q i; exact e_aload_n d149_152 rfl,
  by intro ls st h Q; exact e_iconst d149_153 rfl,
  by intro ls st h Q; exact e_iconst d149_154 rfl,
  by intro ls st n sl C Z I L R Q x0 x1 i hh; exact e_iv (k2 := 139) (c := 11) (as := [.int x0, .int x1]) d149_155 rfl (by decide) rfl rfl (by decide +kernel) (Nat.le_of_ble_eq_true rfl) rfl hh,
  by intro ls st h Q l0 l1 l2 l3 l4 l5 l6 l7 l8 l9 a; exact e_lstore d149_158 rfl,
  by intro ls st h Q l0 l1 l2 l3 a; exact e_lload d149_160 rfl,
  by intro ls st h Q l0 l1 l2 l3 l4 l5 l6 l7 a; exact e_lload d149_162 rfl⟩
set_option maxRecDepth 20000 in
theorem S149_4 : (∀ (ls : Lo) (st : List Value) (h : Hp) (Q : Option Value → Hp → Prop) (a b : Int64), Wp 149 164 (ls) (.long b :: .long a :: st) h Q ↔ Wp 149 165 (ls) (.long (a * b) :: st) h Q) ∧
  (∀ (ls : Lo) (st : List Value) (h : Hp) (Q : Option Value → Hp → Prop) (l0 l1 l2 l3 l4 l5 : Option Value) (a : Int64), Wp 149 165 (l0 :: l1 :: l2 :: l3 :: l4 :: l5 :: some (.long a) :: ls) (st) h Q ↔ Wp 149 167 (l0 :: l1 :: l2 :: l3 :: l4 :: l5 :: some (.long a) :: ls) (.long a :: st) h Q) ∧
  (∀ (ls : Lo) (st : List Value) (h : Hp) (Q : Option Value → Hp → Prop) (l0 l1 l2 l3 l4 l5 : Option Value) (a : Int64), Wp 149 167 (l0 :: l1 :: l2 :: l3 :: l4 :: l5 :: some (.long a) :: ls) (st) h Q ↔ Wp 149 169 (l0 :: l1 :: l2 :: l3 :: l4 :: l5 :: some (.long a) :: ls) (.long a :: st) h Q) ∧
  (∀ (ls : Lo) (st : List Value) (h : Hp) (Q : Option Value → Hp → Prop) (a b : Int64), Wp 149 169 (ls) (.long b :: .long a :: st) h Q ↔ Wp 149 170 (ls) (.long (a * b) :: st) h Q) ∧
  (∀ (ls : Lo) (st : List Value) (h : Hp) (Q : Option Value → Hp → Prop) (a b : Int64), Wp 149 170 (ls) (.long b :: .long a :: st) h Q ↔ Wp 149 171 (ls) (.long (a - b) :: st) h Q) ∧
  (∀ (ls : Lo) (st : List Value) (h : Hp) (Q : Option Value → Hp → Prop), Wp 149 171 (ls) (st) h Q ↔ Wp 149 172 (ls) (.long 0 :: st) h Q) ∧
  (∀ (ls : Lo) (st : List Value) (h : Hp) (Q : Option Value → Hp → Prop) (a b : Int64), Wp 149 172 (ls) (.long b :: .long a :: st) h Q ↔ Wp 149 173 (ls) (.int (lg_cmp a b) :: st) h Q) ∧
  (∀ (ls : Lo) (st : List Value) (h : Hp) (Q : Option Value → Hp → Prop) (x : Int32), Wp 149 173 (ls) (.int x :: st) h Q ↔ Br 149 186 176 ls st h Q (x ≤ 0)) ∧
  (∀ (ls : Lo) (st : List Value) (h : Hp) (Q : Option Value → Hp → Prop) (l0 l1 : Option Value) (a : Int64), Wp 149 176 (l0 :: l1 :: some (.long a) :: ls) (st) h Q ↔ Wp 149 177 (l0 :: l1 :: some (.long a) :: ls) (.long a :: st) h Q) ∧
  (∀ (ls : Lo) (st : List Value) (h : Hp) (Q : Option Value → Hp → Prop), Wp 149 177 (ls) (st) h Q ↔ Wp 149 178 (ls) (.long 0 :: st) h Q) ∧
  (∀ (ls : Lo) (st : List Value) (h : Hp) (Q : Option Value → Hp → Prop) (a b : Int64), Wp 149 178 (ls) (.long b :: .long a :: st) h Q ↔ Wp 149 179 (ls) (.int (lg_cmp a b) :: st) h Q) ∧
  (∀ (ls : Lo) (st : List Value) (h : Hp) (Q : Option Value → Hp → Prop) (x : Int32), Wp 149 179 (ls) (.int x :: st) h Q ↔ Br 149 186 182 ls st h Q (x = 0)) ∧
  (∀ (ls : Lo) (st : List Value) (h : Hp) (Q : Option Value → Hp → Prop), Wp 149 182 (ls) (st) h Q ↔ Wp 149 183 (ls) (.int (-1) :: st) h Q) ∧
  (∀ (ls : Lo) (st : List Value) (h : Hp) (Q : Option Value → Hp → Prop), Wp 149 183 (ls) (st) h Q ↔ Wp 149 188 (ls) (st) h Q) ∧
  (∀ (ls : Lo) (st : List Value) (h : Hp) (Q : Option Value → Hp → Prop), Wp 149 186 (ls) (st) h Q ↔ Wp 149 188 (ls) (.int (-3) :: st) h Q) ∧
  (∀ (ls : Lo) (h : Hp) (Q : Option Value → Hp → Prop) (x : Int32), Wp 149 188 (ls) ([.int x]) h Q ↔ Q (some (.int x)) h) := ⟨by intro ls st h Q a b; exact e_lmul d149_164,
  by intro ls st h Q l0 l1 l2 l3 l4 l5 a; exact e_lload d149_165 rfl,
  by intro ls st h Q l0 l1 l2 l3 l4 l5 a; exact e_lload d149_167 rfl,
  by intro ls st h Q a b; exact e_lmul d149_169,
  by intro ls st h Q a b; exact e_lsub d149_170,
  by intro ls st h Q; exact e_lconst d149_171 rfl,
  by intro ls st h Q a b; exact e_lcmp d149_172,
  by intro ls st h Q x; exact e_if d149_173 (by decide) c_le,
  by intro ls st h Q l0 l1 a; exact e_lload_n d149_176 rfl,
  by intro ls st h Q; exact e_lconst d149_177 rfl,
  by intro ls st h Q a b; exact e_lcmp d149_178,
  by intro ls st h Q x; exact e_if d149_179 (by decide) c_eq,
  by intro ls st h Q; exact e_iconst d149_182 rfl,
  by intro ls st h Q; exact e_goto d149_183 (by decide),
  by intro ls st h Q; exact e_bipush d149_186 rfl,
  by intros; exact e_rI (p := True) d149_188 rfl⟩
theorem d150_0 : decode (byt 150) 0 = .ok (.aload_n 0, 1) := by decide +kernel
theorem d150_1 : decode (byt 150) 1 = .ok (.getfield 210, 3) := by decide +kernel
theorem d150_4 : decode (byt 150) 4 = .ok (.bipush 40, 2) := by decide +kernel
theorem d150_6 : decode (byt 150) 6 = .ok (.if_icmp .ge 13, 3) := by decide +kernel
theorem d150_9 : decode (byt 150) 9 = .ok (.aload_n 0, 1) := by decide +kernel
theorem d150_10 : decode (byt 150) 10 = .ok (.getfield 59, 3) := by decide +kernel
theorem d150_13 : decode (byt 150) 13 = .ok (.aload_n 0, 1) := by decide +kernel
theorem d150_14 : decode (byt 150) 14 = .ok (.getfield 210, 3) := by decide +kernel
theorem d150_17 : decode (byt 150) 17 = .ok (.iload_n 1, 1) := by decide +kernel
theorem d150_18 : decode (byt 150) 18 = .ok (.iastore, 1) := by decide +kernel
theorem d150_19 : decode (byt 150) 19 = .ok (.aload_n 0, 1) := by decide +kernel
theorem d150_20 : decode (byt 150) 20 = .ok (.dup, 1) := by decide +kernel
theorem d150_21 : decode (byt 150) 21 = .ok (.getfield 210, 3) := by decide +kernel
theorem d150_24 : decode (byt 150) 24 = .ok (.iconst 1, 1) := by decide +kernel
theorem d150_25 : decode (byt 150) 25 = .ok (.iadd, 1) := by decide +kernel
theorem d150_26 : decode (byt 150) 26 = .ok (.putfield 210, 3) := by decide +kernel
theorem d150_29 : decode (byt 150) 29 = .ok (.return_, 1) := by decide +kernel
set_option maxRecDepth 20000 in
theorem S150_0 : (∀ (ls : Lo) (st : List Value) (h : Hp) (Q : Option Value → Hp → Prop)  (i : Nat), Wp 150 0 (some (.ref i) :: ls) (st) h Q ↔ Wp 150 1 (some (.ref i) :: ls) (.ref i :: st) h Q) ∧
  (∀ (ls : Lo) (st : List Value) (n sl : Nat) (C Z : Nat → Nat) (I : Nat → Nat → Int32) (L : Nat → Nat → Int64) (R : Nat → Nat → Nat) (Q : Option Value → Hp → Prop) (i : Nat), Wp 150 1 (ls) (.ref i :: st) (n, sl, C, Z, I, L, R) Q ↔ (C i = 11 ∧ Wp 150 4 (ls) (.int (I i 20) :: st) (n, sl, C, Z, I, L, R) Q)) ∧
  (∀ (ls : Lo) (st : List Value) (h : Hp) (Q : Option Value → Hp → Prop), Wp 150 4 (ls) (st) h Q ↔ Wp 150 6 (ls) (.int (40) :: st) h Q) ∧
  (∀ (ls : Lo) (st : List Value) (h : Hp) (Q : Option Value → Hp → Prop) (x y : Int32), Wp 150 6 (ls) (.int y :: .int x :: st) h Q ↔ Br 150 19 9 ls st h Q (y ≤ x)) ∧
  (∀ (ls : Lo) (st : List Value) (h : Hp) (Q : Option Value → Hp → Prop)  (i : Nat), Wp 150 9 (some (.ref i) :: ls) (st) h Q ↔ Wp 150 10 (some (.ref i) :: ls) (.ref i :: st) h Q) ∧
  (∀ (ls : Lo) (st : List Value) (n sl : Nat) (C Z : Nat → Nat) (I : Nat → Nat → Int32) (L : Nat → Nat → Int64) (R : Nat → Nat → Nat) (Q : Option Value → Hp → Prop) (i : Nat), Wp 150 10 (ls) (.ref i :: st) (n, sl, C, Z, I, L, R) Q ↔ (C i = 11 ∧ Wp 150 13 (ls) (.ref (R i 19) :: st) (n, sl, C, Z, I, L, R) Q)) ∧
  (∀ (ls : Lo) (st : List Value) (h : Hp) (Q : Option Value → Hp → Prop)  (i : Nat), Wp 150 13 (some (.ref i) :: ls) (st) h Q ↔ Wp 150 14 (some (.ref i) :: ls) (.ref i :: st) h Q) ∧
  (∀ (ls : Lo) (st : List Value) (n sl : Nat) (C Z : Nat → Nat) (I : Nat → Nat → Int32) (L : Nat → Nat → Int64) (R : Nat → Nat → Nat) (Q : Option Value → Hp → Prop) (i : Nat), Wp 150 14 (ls) (.ref i :: st) (n, sl, C, Z, I, L, R) Q ↔ (C i = 11 ∧ Wp 150 17 (ls) (.int (I i 20) :: st) (n, sl, C, Z, I, L, R) Q)) ∧
  (∀ (ls : Lo) (st : List Value) (h : Hp) (Q : Option Value → Hp → Prop) (l0 : Option Value) (x : Int32), Wp 150 17 (l0 :: some (.int x) :: ls) (st) h Q ↔ Wp 150 18 (l0 :: some (.int x) :: ls) (.int x :: st) h Q) ∧
  (∀ (ls : Lo) (st : List Value) (n sl : Nat) (C Z : Nat → Nat) (I : Nat → Nat → Int32) (L : Nat → Nat → Int64) (R : Nat → Nat → Nat) (Q : Option Value → Hp → Prop) (i : Nat) (x y : Int32), Wp 150 18 (ls) (.int x :: .int y :: .ref i :: st) (n, sl, C, Z, I, L, R) Q ↔ ((inb y (Z i) = true ∧ C i = 21) ∧ Wp 150 19 (ls) (st) (n, sl, C, Z, u2 I i (ix y) x, L, R) Q)) ∧
  (∀ (ls : Lo) (st : List Value) (h : Hp) (Q : Option Value → Hp → Prop)  (i : Nat), Wp 150 19 (some (.ref i) :: ls) (st) h Q ↔ Wp 150 20 (some (.ref i) :: ls) (.ref i :: st) h Q) ∧
  (∀ (ls : Lo) (st : List Value) (h : Hp) (Q : Option Value → Hp → Prop) (x : Int32), Wp 150 20 (ls) (.int x :: st) h Q ↔ Wp 150 21 (ls) (.int x :: .int x :: st) h Q) ∧
  (∀ (ls : Lo) (st : List Value) (h : Hp) (Q : Option Value → Hp → Prop) (i : Nat), Wp 150 20 (ls) (.ref i :: st) h Q ↔ Wp 150 21 (ls) (.ref i :: .ref i :: st) h Q) ∧
  (∀ (ls : Lo) (st : List Value) (n sl : Nat) (C Z : Nat → Nat) (I : Nat → Nat → Int32) (L : Nat → Nat → Int64) (R : Nat → Nat → Nat) (Q : Option Value → Hp → Prop) (i : Nat), Wp 150 21 (ls) (.ref i :: st) (n, sl, C, Z, I, L, R) Q ↔ (C i = 11 ∧ Wp 150 24 (ls) (.int (I i 20) :: st) (n, sl, C, Z, I, L, R) Q)) ∧
  (∀ (ls : Lo) (st : List Value) (h : Hp) (Q : Option Value → Hp → Prop), Wp 150 24 (ls) (st) h Q ↔ Wp 150 25 (ls) (.int (1) :: st) h Q) ∧
  (∀ (ls : Lo) (st : List Value) (h : Hp) (Q : Option Value → Hp → Prop) (x y : Int32), Wp 150 25 (ls) (.int y :: .int x :: st) h Q ↔ Wp 150 26 (ls) (.int (x + y) :: st) h Q) ∧
  (∀ (ls : Lo) (st : List Value) (n sl : Nat) (C Z : Nat → Nat) (I : Nat → Nat → Int32) (L : Nat → Nat → Int64) (R : Nat → Nat → Nat) (Q : Option Value → Hp → Prop) (i : Nat) (x : Int32), Wp 150 26 (ls) (.int x :: .ref i :: st) (n, sl, C, Z, I, L, R) Q ↔ (C i = 11 ∧ Wp 150 29 (ls) (st) (n, sl, C, Z, u2 I i 20 x, L, R) Q)) ∧
  (∀ (ls : Lo) (h : Hp) (Q : Option Value → Hp → Prop), Wp 150 29 (ls) ([]) h Q ↔ Q none h) := ⟨by intro ls st h Q i; exact e_aload_n d150_0 rfl,
  by intro ls st n sl C Z I L R Q i; exact e_get (g := 10) (s := 20) (ty := 0) d150_1 rfl rfl (inG_ne (by decide)),
  by intro ls st h Q; exact e_bipush d150_4 rfl,
  by intro ls st h Q x y; exact e_ic d150_6 (by decide) c_ge,
  by intro ls st h Q i; exact e_aload_n d150_9 rfl,
  by intro ls st n sl C Z I L R Q i; exact e_get (g := 10) (s := 19) (ty := 2) d150_10 rfl rfl (inG_ne (by decide)),
  by intro ls st h Q i; exact e_aload_n d150_13 rfl,
  by intro ls st n sl C Z I L R Q i; exact e_get (g := 10) (s := 20) (ty := 0) d150_14 rfl rfl (inG_ne (by decide)),
  by intro ls st h Q l0 x; exact e_iload_n d150_17 rfl,
  by intro ls st n sl C Z I L R Q i x y; exact e_iast d150_18,
  by intro ls st h Q i; exact e_aload_n d150_19 rfl,
  by intro ls st h Q x; exact e_dupI d150_20,
  by intro ls st h Q i; exact e_dupR d150_20,
  by intro ls st n sl C Z I L R Q i; exact e_get (g := 10) (s := 20) (ty := 0) d150_21 rfl rfl (inG_ne (by decide)),
  by intro ls st h Q; exact e_iconst d150_24 rfl,
  by intro ls st h Q x y; exact e_iadd d150_25,
  by intro ls st n sl C Z I L R Q i x; exact e_putI (g := 10) (s := 20) d150_26 rfl (Or.inl rfl) (inG_ne (by decide)),
  by intros; exact e_rV d150_29 rfl⟩
theorem d151_0 : decode (byt 151) 0 = .ok (.aload_n 0, 1) := by decide +kernel
theorem d151_1 : decode (byt 151) 1 = .ok (.bipush 10, 2) := by decide +kernel
theorem d151_3 : decode (byt 151) 3 = .ok (.invokevirtual 213, 3) := by decide +kernel
theorem d151_6 : decode (byt 151) 6 = .ok (.iload_n 2, 1) := by decide +kernel
theorem d151_7 : decode (byt 151) 7 = .ok (.iconst 2, 1) := by decide +kernel
theorem d151_8 : decode (byt 151) 8 = .ok (.imul, 1) := by decide +kernel
theorem d151_9 : decode (byt 151) 9 = .ok (.aload_n 0, 1) := by decide +kernel
theorem d151_10 : decode (byt 151) 10 = .ok (.getfield 13, 3) := by decide +kernel
theorem d151_13 : decode (byt 151) 13 = .ok (.iload_n 1, 1) := by decide +kernel
theorem d151_14 : decode (byt 151) 14 = .ok (.iaload, 1) := by decide +kernel
theorem d151_15 : decode (byt 151) 15 = .ok (.iadd, 1) := by decide +kernel
theorem d151_16 : decode (byt 151) 16 = .ok (.ireturn, 1) := by decide +kernel
set_option maxRecDepth 20000 in
theorem S151_0 : (∀ (ls : Lo) (st : List Value) (h : Hp) (Q : Option Value → Hp → Prop)  (i : Nat), Wp 151 0 (some (.ref i) :: ls) (st) h Q ↔ Wp 151 1 (some (.ref i) :: ls) (.ref i :: st) h Q) ∧
  (∀ (ls : Lo) (st : List Value) (h : Hp) (Q : Option Value → Hp → Prop), Wp 151 1 (ls) (st) h Q ↔ Wp 151 3 (ls) (.int (10) :: st) h Q) ∧
  (∀ (ls : Lo) (st : List Value) (n sl : Nat) (C Z : Nat → Nat) (I : Nat → Nat → Int32) (L : Nat → Nat → Int64) (R : Nat → Nat → Nat) (Q : Option Value → Hp → Prop) (x0 : Int32) (i : Nat), C i = 11 → (Wp 151 3 (ls) (.int x0 :: .ref i :: st) (n, sl, C, Z, I, L, R) Q ↔ (wsum st ≤ 8 ∧ Call 150 [some (.ref i), some (.int x0)] (n, sl, C, Z, I, L, R) 151 6 ls st Q))) ∧
  (∀ (ls : Lo) (st : List Value) (h : Hp) (Q : Option Value → Hp → Prop) (l0 l1 : Option Value) (x : Int32), Wp 151 6 (l0 :: l1 :: some (.int x) :: ls) (st) h Q ↔ Wp 151 7 (l0 :: l1 :: some (.int x) :: ls) (.int x :: st) h Q) ∧
  (∀ (ls : Lo) (st : List Value) (h : Hp) (Q : Option Value → Hp → Prop), Wp 151 7 (ls) (st) h Q ↔ Wp 151 8 (ls) (.int (2) :: st) h Q) ∧
  (∀ (ls : Lo) (st : List Value) (h : Hp) (Q : Option Value → Hp → Prop) (x y : Int32), Wp 151 8 (ls) (.int y :: .int x :: st) h Q ↔ Wp 151 9 (ls) (.int (x * y) :: st) h Q) ∧
  (∀ (ls : Lo) (st : List Value) (h : Hp) (Q : Option Value → Hp → Prop)  (i : Nat), Wp 151 9 (some (.ref i) :: ls) (st) h Q ↔ Wp 151 10 (some (.ref i) :: ls) (.ref i :: st) h Q) ∧
  (∀ (ls : Lo) (st : List Value) (n sl : Nat) (C Z : Nat → Nat) (I : Nat → Nat → Int32) (L : Nat → Nat → Int64) (R : Nat → Nat → Nat) (Q : Option Value → Hp → Prop) (i : Nat), Wp 151 10 (ls) (.ref i :: st) (n, sl, C, Z, I, L, R) Q ↔ (C i = 11 ∧ Wp 151 13 (ls) (.ref (R i 2) :: st) (n, sl, C, Z, I, L, R) Q)) ∧
  (∀ (ls : Lo) (st : List Value) (h : Hp) (Q : Option Value → Hp → Prop) (l0 : Option Value) (x : Int32), Wp 151 13 (l0 :: some (.int x) :: ls) (st) h Q ↔ Wp 151 14 (l0 :: some (.int x) :: ls) (.int x :: st) h Q) ∧
  (∀ (ls : Lo) (st : List Value) (n sl : Nat) (C Z : Nat → Nat) (I : Nat → Nat → Int32) (L : Nat → Nat → Int64) (R : Nat → Nat → Nat) (Q : Option Value → Hp → Prop) (i : Nat) (y : Int32), Wp 151 14 (ls) (.int y :: .ref i :: st) (n, sl, C, Z, I, L, R) Q ↔ ((inb y (Z i) = true ∧ C i = 21) ∧ Wp 151 15 (ls) (.int (I i (ix y)) :: st) (n, sl, C, Z, I, L, R) Q)) ∧
  (∀ (ls : Lo) (st : List Value) (h : Hp) (Q : Option Value → Hp → Prop) (x y : Int32), Wp 151 15 (ls) (.int y :: .int x :: st) h Q ↔ Wp 151 16 (ls) (.int (x + y) :: st) h Q) ∧
  (∀ (ls : Lo) (h : Hp) (Q : Option Value → Hp → Prop) (x : Int32), Wp 151 16 (ls) ([.int x]) h Q ↔ Q (some (.int x)) h) := ⟨by intro ls st h Q i; exact e_aload_n d151_0 rfl,
  by intro ls st h Q; exact e_bipush d151_1 rfl,
  by intro ls st n sl C Z I L R Q x0 i hh; exact e_iv (k2 := 150) (c := 11) (as := [.int x0]) d151_3 rfl (by decide) rfl rfl (by decide +kernel) (Nat.le_of_ble_eq_true rfl) rfl hh,
  by intro ls st h Q l0 l1 x; exact e_iload_n d151_6 rfl,
  by intro ls st h Q; exact e_iconst d151_7 rfl,
  by intro ls st h Q x y; exact e_imul d151_8,
  by intro ls st h Q i; exact e_aload_n d151_9 rfl,
  by intro ls st n sl C Z I L R Q i; exact e_get (g := 10) (s := 2) (ty := 2) d151_10 rfl rfl (inG_ne (by decide)),
  by intro ls st h Q l0 x; exact e_iload_n d151_13 rfl,
  by intro ls st n sl C Z I L R Q i y; exact e_iald d151_14,
  by intro ls st h Q x y; exact e_iadd d151_15,
  by intros; exact e_rI (p := True) d151_16 rfl⟩
theorem d152_0 : decode (byt 152) 0 = .ok (.aload_n 0, 1) := by decide +kernel
theorem d152_1 : decode (byt 152) 1 = .ok (.getfield 7, 3) := by decide +kernel
theorem d152_4 : decode (byt 152) 4 = .ok (.iload_n 1, 1) := by decide +kernel
theorem d152_5 : decode (byt 152) 5 = .ok (.iaload, 1) := by decide +kernel
theorem d152_6 : decode (byt 152) 6 = .ok (.iconst 1, 1) := by decide +kernel
theorem d152_7 : decode (byt 152) 7 = .ok (.if_icmp .ne 23, 3) := by decide +kernel
theorem d152_10 : decode (byt 152) 10 = .ok (.aload_n 0, 1) := by decide +kernel
theorem d152_11 : decode (byt 152) 11 = .ok (.bipush 20, 2) := by decide +kernel
theorem d152_13 : decode (byt 152) 13 = .ok (.invokevirtual 213, 3) := by decide +kernel
theorem d152_16 : decode (byt 152) 16 = .ok (.aload_n 0, 1) := by decide +kernel
theorem d152_17 : decode (byt 152) 17 = .ok (.iload_n 1, 1) := by decide +kernel
theorem d152_18 : decode (byt 152) 18 = .ok (.iload_n 2, 1) := by decide +kernel
theorem d152_19 : decode (byt 152) 19 = .ok (.invokevirtual 216, 3) := by decide +kernel
theorem d152_22 : decode (byt 152) 22 = .ok (.aload_n 0, 1) := by decide +kernel
theorem d152_23 : decode (byt 152) 23 = .ok (.getfield 16, 3) := by decide +kernel
theorem d152_26 : decode (byt 152) 26 = .ok (.iload_n 1, 1) := by decide +kernel
theorem d152_27 : decode (byt 152) 27 = .ok (.iaload, 1) := by decide +kernel
theorem d152_28 : decode (byt 152) 28 = .ok (.iadd, 1) := by decide +kernel
theorem d152_29 : decode (byt 152) 29 = .ok (.ireturn, 1) := by decide +kernel
theorem d152_30 : decode (byt 152) 30 = .ok (.aload_n 0, 1) := by decide +kernel
theorem d152_31 : decode (byt 152) 31 = .ok (.getfield 7, 3) := by decide +kernel
theorem d152_34 : decode (byt 152) 34 = .ok (.iload_n 1, 1) := by decide +kernel
theorem d152_35 : decode (byt 152) 35 = .ok (.iaload, 1) := by decide +kernel
theorem d152_36 : decode (byt 152) 36 = .ok (.iconst 3, 1) := by decide +kernel
theorem d152_37 : decode (byt 152) 37 = .ok (.if_icmp .ne 18, 3) := by decide +kernel
theorem d152_40 : decode (byt 152) 40 = .ok (.aload_n 0, 1) := by decide +kernel
theorem d152_41 : decode (byt 152) 41 = .ok (.bipush 40, 2) := by decide +kernel
theorem d152_43 : decode (byt 152) 43 = .ok (.invokevirtual 213, 3) := by decide +kernel
theorem d152_46 : decode (byt 152) 46 = .ok (.aload_n 0, 1) := by decide +kernel
theorem d152_47 : decode (byt 152) 47 = .ok (.iload_n 1, 1) := by decide +kernel
theorem d152_48 : decode (byt 152) 48 = .ok (.iload_n 2, 1) := by decide +kernel
theorem d152_49 : decode (byt 152) 49 = .ok (.invokevirtual 216, 3) := by decide +kernel
theorem d152_52 : decode (byt 152) 52 = .ok (.iload_n 1, 1) := by decide +kernel
theorem d152_53 : decode (byt 152) 53 = .ok (.ixor, 1) := by decide +kernel
theorem d152_54 : decode (byt 152) 54 = .ok (.ireturn, 1) := by decide +kernel
theorem d152_55 : decode (byt 152) 55 = .ok (.aload_n 0, 1) := by decide +kernel
theorem d152_56 : decode (byt 152) 56 = .ok (.iload_n 1, 1) := by decide +kernel
theorem d152_57 : decode (byt 152) 57 = .ok (.iload_n 2, 1) := by decide +kernel
theorem d152_58 : decode (byt 152) 58 = .ok (.invokevirtual 216, 3) := by decide +kernel
theorem d152_61 : decode (byt 152) 61 = .ok (.ireturn, 1) := by decide +kernel
set_option maxRecDepth 20000 in
theorem S152_0 : (∀ (ls : Lo) (st : List Value) (h : Hp) (Q : Option Value → Hp → Prop)  (i : Nat), Wp 152 0 (some (.ref i) :: ls) (st) h Q ↔ Wp 152 1 (some (.ref i) :: ls) (.ref i :: st) h Q) ∧
  (∀ (ls : Lo) (st : List Value) (n sl : Nat) (C Z : Nat → Nat) (I : Nat → Nat → Int32) (L : Nat → Nat → Int64) (R : Nat → Nat → Nat) (Q : Option Value → Hp → Prop) (i : Nat), Wp 152 1 (ls) (.ref i :: st) (n, sl, C, Z, I, L, R) Q ↔ (C i = 11 ∧ Wp 152 4 (ls) (.ref (R i 1) :: st) (n, sl, C, Z, I, L, R) Q)) ∧
  (∀ (ls : Lo) (st : List Value) (h : Hp) (Q : Option Value → Hp → Prop) (l0 : Option Value) (x : Int32), Wp 152 4 (l0 :: some (.int x) :: ls) (st) h Q ↔ Wp 152 5 (l0 :: some (.int x) :: ls) (.int x :: st) h Q) ∧
  (∀ (ls : Lo) (st : List Value) (n sl : Nat) (C Z : Nat → Nat) (I : Nat → Nat → Int32) (L : Nat → Nat → Int64) (R : Nat → Nat → Nat) (Q : Option Value → Hp → Prop) (i : Nat) (y : Int32), Wp 152 5 (ls) (.int y :: .ref i :: st) (n, sl, C, Z, I, L, R) Q ↔ ((inb y (Z i) = true ∧ C i = 21) ∧ Wp 152 6 (ls) (.int (I i (ix y)) :: st) (n, sl, C, Z, I, L, R) Q)) ∧
  (∀ (ls : Lo) (st : List Value) (h : Hp) (Q : Option Value → Hp → Prop), Wp 152 6 (ls) (st) h Q ↔ Wp 152 7 (ls) (.int (1) :: st) h Q) ∧
  (∀ (ls : Lo) (st : List Value) (h : Hp) (Q : Option Value → Hp → Prop) (x y : Int32), Wp 152 7 (ls) (.int y :: .int x :: st) h Q ↔ Br 152 30 10 ls st h Q (¬ x = y)) ∧
  (∀ (ls : Lo) (st : List Value) (h : Hp) (Q : Option Value → Hp → Prop)  (i : Nat), Wp 152 10 (some (.ref i) :: ls) (st) h Q ↔ Wp 152 11 (some (.ref i) :: ls) (.ref i :: st) h Q) ∧
  (∀ (ls : Lo) (st : List Value) (h : Hp) (Q : Option Value → Hp → Prop), Wp 152 11 (ls) (st) h Q ↔ Wp 152 13 (ls) (.int (20) :: st) h Q) ∧
  (∀ (ls : Lo) (st : List Value) (n sl : Nat) (C Z : Nat → Nat) (I : Nat → Nat → Int32) (L : Nat → Nat → Int64) (R : Nat → Nat → Nat) (Q : Option Value → Hp → Prop) (x0 : Int32) (i : Nat), C i = 11 → (Wp 152 13 (ls) (.int x0 :: .ref i :: st) (n, sl, C, Z, I, L, R) Q ↔ (wsum st ≤ 8 ∧ Call 150 [some (.ref i), some (.int x0)] (n, sl, C, Z, I, L, R) 152 16 ls st Q))) ∧
  (∀ (ls : Lo) (st : List Value) (h : Hp) (Q : Option Value → Hp → Prop)  (i : Nat), Wp 152 16 (some (.ref i) :: ls) (st) h Q ↔ Wp 152 17 (some (.ref i) :: ls) (.ref i :: st) h Q) ∧
  (∀ (ls : Lo) (st : List Value) (h : Hp) (Q : Option Value → Hp → Prop) (l0 : Option Value) (x : Int32), Wp 152 17 (l0 :: some (.int x) :: ls) (st) h Q ↔ Wp 152 18 (l0 :: some (.int x) :: ls) (.int x :: st) h Q) ∧
  (∀ (ls : Lo) (st : List Value) (h : Hp) (Q : Option Value → Hp → Prop) (l0 l1 : Option Value) (x : Int32), Wp 152 18 (l0 :: l1 :: some (.int x) :: ls) (st) h Q ↔ Wp 152 19 (l0 :: l1 :: some (.int x) :: ls) (.int x :: st) h Q) ∧
  (∀ (ls : Lo) (st : List Value) (n sl : Nat) (C Z : Nat → Nat) (I : Nat → Nat → Int32) (L : Nat → Nat → Int64) (R : Nat → Nat → Nat) (Q : Option Value → Hp → Prop) (x0 : Int32) (x1 : Int32) (i : Nat), C i = 11 → (Wp 152 19 (ls) (.int x1 :: .int x0 :: .ref i :: st) (n, sl, C, Z, I, L, R) Q ↔ (wsum st ≤ 8 ∧ Call 151 [some (.ref i), some (.int x0), some (.int x1)] (n, sl, C, Z, I, L, R) 152 22 ls st Q))) ∧
  (∀ (ls : Lo) (st : List Value) (h : Hp) (Q : Option Value → Hp → Prop)  (i : Nat), Wp 152 22 (some (.ref i) :: ls) (st) h Q ↔ Wp 152 23 (some (.ref i) :: ls) (.ref i :: st) h Q) ∧
  (∀ (ls : Lo) (st : List Value) (n sl : Nat) (C Z : Nat → Nat) (I : Nat → Nat → Int32) (L : Nat → Nat → Int64) (R : Nat → Nat → Nat) (Q : Option Value → Hp → Prop) (i : Nat), Wp 152 23 (ls) (.ref i :: st) (n, sl, C, Z, I, L, R) Q ↔ (C i = 11 ∧ Wp 152 26 (ls) (.ref (R i 3) :: st) (n, sl, C, Z, I, L, R) Q)) ∧
  (∀ (ls : Lo) (st : List Value) (h : Hp) (Q : Option Value → Hp → Prop) (l0 : Option Value) (x : Int32), Wp 152 26 (l0 :: some (.int x) :: ls) (st) h Q ↔ Wp 152 27 (l0 :: some (.int x) :: ls) (.int x :: st) h Q) ∧
  (∀ (ls : Lo) (st : List Value) (n sl : Nat) (C Z : Nat → Nat) (I : Nat → Nat → Int32) (L : Nat → Nat → Int64) (R : Nat → Nat → Nat) (Q : Option Value → Hp → Prop) (i : Nat) (y : Int32), Wp 152 27 (ls) (.int y :: .ref i :: st) (n, sl, C, Z, I, L, R) Q ↔ ((inb y (Z i) = true ∧ C i = 21) ∧ Wp 152 28 (ls) (.int (I i (ix y)) :: st) (n, sl, C, Z, I, L, R) Q)) ∧
  (∀ (ls : Lo) (st : List Value) (h : Hp) (Q : Option Value → Hp → Prop) (x y : Int32), Wp 152 28 (ls) (.int y :: .int x :: st) h Q ↔ Wp 152 29 (ls) (.int (x + y) :: st) h Q) ∧
  (∀ (ls : Lo) (h : Hp) (Q : Option Value → Hp → Prop) (x : Int32), Wp 152 29 (ls) ([.int x]) h Q ↔ Q (some (.int x)) h) ∧
  (∀ (ls : Lo) (st : List Value) (h : Hp) (Q : Option Value → Hp → Prop)  (i : Nat), Wp 152 30 (some (.ref i) :: ls) (st) h Q ↔ Wp 152 31 (some (.ref i) :: ls) (.ref i :: st) h Q) ∧
  (∀ (ls : Lo) (st : List Value) (n sl : Nat) (C Z : Nat → Nat) (I : Nat → Nat → Int32) (L : Nat → Nat → Int64) (R : Nat → Nat → Nat) (Q : Option Value → Hp → Prop) (i : Nat), Wp 152 31 (ls) (.ref i :: st) (n, sl, C, Z, I, L, R) Q ↔ (C i = 11 ∧ Wp 152 34 (ls) (.ref (R i 1) :: st) (n, sl, C, Z, I, L, R) Q)) ∧
  (∀ (ls : Lo) (st : List Value) (h : Hp) (Q : Option Value → Hp → Prop) (l0 : Option Value) (x : Int32), Wp 152 34 (l0 :: some (.int x) :: ls) (st) h Q ↔ Wp 152 35 (l0 :: some (.int x) :: ls) (.int x :: st) h Q) ∧
  (∀ (ls : Lo) (st : List Value) (n sl : Nat) (C Z : Nat → Nat) (I : Nat → Nat → Int32) (L : Nat → Nat → Int64) (R : Nat → Nat → Nat) (Q : Option Value → Hp → Prop) (i : Nat) (y : Int32), Wp 152 35 (ls) (.int y :: .ref i :: st) (n, sl, C, Z, I, L, R) Q ↔ ((inb y (Z i) = true ∧ C i = 21) ∧ Wp 152 36 (ls) (.int (I i (ix y)) :: st) (n, sl, C, Z, I, L, R) Q)) ∧
  (∀ (ls : Lo) (st : List Value) (h : Hp) (Q : Option Value → Hp → Prop), Wp 152 36 (ls) (st) h Q ↔ Wp 152 37 (ls) (.int (3) :: st) h Q) ∧
  (∀ (ls : Lo) (st : List Value) (h : Hp) (Q : Option Value → Hp → Prop) (x y : Int32), Wp 152 37 (ls) (.int y :: .int x :: st) h Q ↔ Br 152 55 40 ls st h Q (¬ x = y)) := ⟨by intro ls st h Q i; exact e_aload_n d152_0 rfl,
  by intro ls st n sl C Z I L R Q i; exact e_get (g := 10) (s := 1) (ty := 2) d152_1 rfl rfl (inG_ne (by decide)),
  by intro ls st h Q l0 x; exact e_iload_n d152_4 rfl,
  by intro ls st n sl C Z I L R Q i y; exact e_iald d152_5,
  by intro ls st h Q; exact e_iconst d152_6 rfl,
  by intro ls st h Q x y; exact e_ic d152_7 (by decide) c_ne,
  by intro ls st h Q i; exact e_aload_n d152_10 rfl,
  by intro ls st h Q; exact e_bipush d152_11 rfl,
  by intro ls st n sl C Z I L R Q x0 i hh; exact e_iv (k2 := 150) (c := 11) (as := [.int x0]) d152_13 rfl (by decide) rfl rfl (by decide +kernel) (Nat.le_of_ble_eq_true rfl) rfl hh,
  by intro ls st h Q i; exact e_aload_n d152_16 rfl,
  by intro ls st h Q l0 x; exact e_iload_n d152_17 rfl,
  by intro ls st h Q l0 l1 x; exact e_iload_n d152_18 rfl,
  by intro ls st n sl C Z I L R Q x0 x1 i hh; exact e_iv (k2 := 151) (c := 11) (as := [.int x0, .int x1]) d152_19 rfl (by decide) rfl rfl (by decide +kernel) (Nat.le_of_ble_eq_true rfl) rfl hh,
  by intro ls st h Q i; exact e_aload_n d152_22 rfl,
  by intro ls st n sl C Z I L R Q i; exact e_get (g := 10) (s := 3) (ty := 2) d152_23 rfl rfl (inG_ne (by decide)),
  by intro ls st h Q l0 x; exact e_iload_n d152_26 rfl,
  by intro ls st n sl C Z I L R Q i y; exact e_iald d152_27,
  by intro ls st h Q x y; exact e_iadd d152_28,
  by intros; exact e_rI (p := True) d152_29 rfl,
  by intro ls st h Q i; exact e_aload_n d152_30 rfl,
  by intro ls st n sl C Z I L R Q i; exact e_get (g := 10) (s := 1) (ty := 2) d152_31 rfl rfl (inG_ne (by decide)),
  by intro ls st h Q l0 x; exact e_iload_n d152_34 rfl,
  by intro ls st n sl C Z I L R Q i y; exact e_iald d152_35,
  by intro ls st h Q; exact e_iconst d152_36 rfl,
  by intro ls st h Q x y; exact e_ic d152_37 (by decide) c_ne⟩
set_option maxRecDepth 20000 in
theorem S152_1 : (∀ (ls : Lo) (st : List Value) (h : Hp) (Q : Option Value → Hp → Prop)  (i : Nat), Wp 152 40 (some (.ref i) :: ls) (st) h Q ↔ Wp 152 41 (some (.ref i) :: ls) (.ref i :: st) h Q) ∧
  (∀ (ls : Lo) (st : List Value) (h : Hp) (Q : Option Value → Hp → Prop), Wp 152 41 (ls) (st) h Q ↔ Wp 152 43 (ls) (.int (40) :: st) h Q) ∧
  (∀ (ls : Lo) (st : List Value) (n sl : Nat) (C Z : Nat → Nat) (I : Nat → Nat → Int32) (L : Nat → Nat → Int64) (R : Nat → Nat → Nat) (Q : Option Value → Hp → Prop) (x0 : Int32) (i : Nat), C i = 11 → (Wp 152 43 (ls) (.int x0 :: .ref i :: st) (n, sl, C, Z, I, L, R) Q ↔ (wsum st ≤ 8 ∧ Call 150 [some (.ref i), some (.int x0)] (n, sl, C, Z, I, L, R) 152 46 ls st Q))) ∧
  (∀ (ls : Lo) (st : List Value) (h : Hp) (Q : Option Value → Hp → Prop)  (i : Nat), Wp 152 46 (some (.ref i) :: ls) (st) h Q ↔ Wp 152 47 (some (.ref i) :: ls) (.ref i :: st) h Q) ∧
  (∀ (ls : Lo) (st : List Value) (h : Hp) (Q : Option Value → Hp → Prop) (l0 : Option Value) (x : Int32), Wp 152 47 (l0 :: some (.int x) :: ls) (st) h Q ↔ Wp 152 48 (l0 :: some (.int x) :: ls) (.int x :: st) h Q) ∧
  (∀ (ls : Lo) (st : List Value) (h : Hp) (Q : Option Value → Hp → Prop) (l0 l1 : Option Value) (x : Int32), Wp 152 48 (l0 :: l1 :: some (.int x) :: ls) (st) h Q ↔ Wp 152 49 (l0 :: l1 :: some (.int x) :: ls) (.int x :: st) h Q) ∧
  (∀ (ls : Lo) (st : List Value) (n sl : Nat) (C Z : Nat → Nat) (I : Nat → Nat → Int32) (L : Nat → Nat → Int64) (R : Nat → Nat → Nat) (Q : Option Value → Hp → Prop) (x0 : Int32) (x1 : Int32) (i : Nat), C i = 11 → (Wp 152 49 (ls) (.int x1 :: .int x0 :: .ref i :: st) (n, sl, C, Z, I, L, R) Q ↔ (wsum st ≤ 8 ∧ Call 151 [some (.ref i), some (.int x0), some (.int x1)] (n, sl, C, Z, I, L, R) 152 52 ls st Q))) ∧
  (∀ (ls : Lo) (st : List Value) (h : Hp) (Q : Option Value → Hp → Prop) (l0 : Option Value) (x : Int32), Wp 152 52 (l0 :: some (.int x) :: ls) (st) h Q ↔ Wp 152 53 (l0 :: some (.int x) :: ls) (.int x :: st) h Q) ∧
  (∀ (ls : Lo) (st : List Value) (h : Hp) (Q : Option Value → Hp → Prop) (x y : Int32), Wp 152 53 (ls) (.int y :: .int x :: st) h Q ↔ Wp 152 54 (ls) (.int (x ^^^ y) :: st) h Q) ∧
  (∀ (ls : Lo) (h : Hp) (Q : Option Value → Hp → Prop) (x : Int32), Wp 152 54 (ls) ([.int x]) h Q ↔ Q (some (.int x)) h) ∧
  (∀ (ls : Lo) (st : List Value) (h : Hp) (Q : Option Value → Hp → Prop)  (i : Nat), Wp 152 55 (some (.ref i) :: ls) (st) h Q ↔ Wp 152 56 (some (.ref i) :: ls) (.ref i :: st) h Q) ∧
  (∀ (ls : Lo) (st : List Value) (h : Hp) (Q : Option Value → Hp → Prop) (l0 : Option Value) (x : Int32), Wp 152 56 (l0 :: some (.int x) :: ls) (st) h Q ↔ Wp 152 57 (l0 :: some (.int x) :: ls) (.int x :: st) h Q) ∧
  (∀ (ls : Lo) (st : List Value) (h : Hp) (Q : Option Value → Hp → Prop) (l0 l1 : Option Value) (x : Int32), Wp 152 57 (l0 :: l1 :: some (.int x) :: ls) (st) h Q ↔ Wp 152 58 (l0 :: l1 :: some (.int x) :: ls) (.int x :: st) h Q) ∧
  (∀ (ls : Lo) (st : List Value) (n sl : Nat) (C Z : Nat → Nat) (I : Nat → Nat → Int32) (L : Nat → Nat → Int64) (R : Nat → Nat → Nat) (Q : Option Value → Hp → Prop) (x0 : Int32) (x1 : Int32) (i : Nat), C i = 11 → (Wp 152 58 (ls) (.int x1 :: .int x0 :: .ref i :: st) (n, sl, C, Z, I, L, R) Q ↔ (wsum st ≤ 8 ∧ Call 151 [some (.ref i), some (.int x0), some (.int x1)] (n, sl, C, Z, I, L, R) 152 61 ls st Q))) ∧
  (∀ (ls : Lo) (h : Hp) (Q : Option Value → Hp → Prop) (x : Int32), Wp 152 61 (ls) ([.int x]) h Q ↔ Q (some (.int x)) h) := ⟨by intro ls st h Q i; exact e_aload_n d152_40 rfl,
  by intro ls st h Q; exact e_bipush d152_41 rfl,
  by intro ls st n sl C Z I L R Q x0 i hh; exact e_iv (k2 := 150) (c := 11) (as := [.int x0]) d152_43 rfl (by decide) rfl rfl (by decide +kernel) (Nat.le_of_ble_eq_true rfl) rfl hh,
  by intro ls st h Q i; exact e_aload_n d152_46 rfl,
  by intro ls st h Q l0 x; exact e_iload_n d152_47 rfl,
  by intro ls st h Q l0 l1 x; exact e_iload_n d152_48 rfl,
  by intro ls st n sl C Z I L R Q x0 x1 i hh; exact e_iv (k2 := 151) (c := 11) (as := [.int x0, .int x1]) d152_49 rfl (by decide) rfl rfl (by decide +kernel) (Nat.le_of_ble_eq_true rfl) rfl hh,
  by intro ls st h Q l0 x; exact e_iload_n d152_52 rfl,
  by intro ls st h Q x y; exact e_ixor d152_53,
  by intros; exact e_rI (p := True) d152_54 rfl,
  by intro ls st h Q i; exact e_aload_n d152_55 rfl,
  by intro ls st h Q l0 x; exact e_iload_n d152_56 rfl,
  by intro ls st h Q l0 l1 x; exact e_iload_n d152_57 rfl,
  by intro ls st n sl C Z I L R Q x0 x1 i hh; exact e_iv (k2 := 151) (c := 11) (as := [.int x0, .int x1]) d152_58 rfl (by decide) rfl rfl (by decide +kernel) (Nat.le_of_ble_eq_true rfl) rfl hh,
  by intros; exact e_rI (p := True) d152_61 rfl⟩
theorem d153_0 : decode (byt 153) 0 = .ok (.aload_n 0, 1) := by decide +kernel
theorem d153_1 : decode (byt 153) 1 = .ok (.bipush 11, 2) := by decide +kernel
theorem d153_3 : decode (byt 153) 3 = .ok (.invokevirtual 213, 3) := by decide +kernel
theorem d153_6 : decode (byt 153) 6 = .ok (.aload_n 0, 1) := by decide +kernel
theorem d153_7 : decode (byt 153) 7 = .ok (.iload_n 1, 1) := by decide +kernel
theorem d153_8 : decode (byt 153) 8 = .ok (.iload_n 2, 1) := by decide +kernel
theorem d153_9 : decode (byt 153) 9 = .ok (.invokevirtual 220, 3) := by decide +kernel
theorem d153_12 : decode (byt 153) 12 = .ok (.iload_n 1, 1) := by decide +kernel
theorem d153_13 : decode (byt 153) 13 = .ok (.isub, 1) := by decide +kernel
theorem d153_14 : decode (byt 153) 14 = .ok (.ireturn, 1) := by decide +kernel
set_option maxRecDepth 20000 in
theorem S153_0 : (∀ (ls : Lo) (st : List Value) (h : Hp) (Q : Option Value → Hp → Prop)  (i : Nat), Wp 153 0 (some (.ref i) :: ls) (st) h Q ↔ Wp 153 1 (some (.ref i) :: ls) (.ref i :: st) h Q) ∧
  (∀ (ls : Lo) (st : List Value) (h : Hp) (Q : Option Value → Hp → Prop), Wp 153 1 (ls) (st) h Q ↔ Wp 153 3 (ls) (.int (11) :: st) h Q) ∧
  (∀ (ls : Lo) (st : List Value) (n sl : Nat) (C Z : Nat → Nat) (I : Nat → Nat → Int32) (L : Nat → Nat → Int64) (R : Nat → Nat → Nat) (Q : Option Value → Hp → Prop) (x0 : Int32) (i : Nat), C i = 11 → (Wp 153 3 (ls) (.int x0 :: .ref i :: st) (n, sl, C, Z, I, L, R) Q ↔ (wsum st ≤ 8 ∧ Call 150 [some (.ref i), some (.int x0)] (n, sl, C, Z, I, L, R) 153 6 ls st Q))) ∧
  (∀ (ls : Lo) (st : List Value) (h : Hp) (Q : Option Value → Hp → Prop)  (i : Nat), Wp 153 6 (some (.ref i) :: ls) (st) h Q ↔ Wp 153 7 (some (.ref i) :: ls) (.ref i :: st) h Q) ∧
  (∀ (ls : Lo) (st : List Value) (h : Hp) (Q : Option Value → Hp → Prop) (l0 : Option Value) (x : Int32), Wp 153 7 (l0 :: some (.int x) :: ls) (st) h Q ↔ Wp 153 8 (l0 :: some (.int x) :: ls) (.int x :: st) h Q) ∧
  (∀ (ls : Lo) (st : List Value) (h : Hp) (Q : Option Value → Hp → Prop) (l0 l1 : Option Value) (x : Int32), Wp 153 8 (l0 :: l1 :: some (.int x) :: ls) (st) h Q ↔ Wp 153 9 (l0 :: l1 :: some (.int x) :: ls) (.int x :: st) h Q) ∧
  (∀ (ls : Lo) (st : List Value) (n sl : Nat) (C Z : Nat → Nat) (I : Nat → Nat → Int32) (L : Nat → Nat → Int64) (R : Nat → Nat → Nat) (Q : Option Value → Hp → Prop) (x0 : Int32) (x1 : Int32) (i : Nat), C i = 11 → (Wp 153 9 (ls) (.int x1 :: .int x0 :: .ref i :: st) (n, sl, C, Z, I, L, R) Q ↔ (wsum st ≤ 8 ∧ Call 152 [some (.ref i), some (.int x0), some (.int x1)] (n, sl, C, Z, I, L, R) 153 12 ls st Q))) ∧
  (∀ (ls : Lo) (st : List Value) (h : Hp) (Q : Option Value → Hp → Prop) (l0 : Option Value) (x : Int32), Wp 153 12 (l0 :: some (.int x) :: ls) (st) h Q ↔ Wp 153 13 (l0 :: some (.int x) :: ls) (.int x :: st) h Q) ∧
  (∀ (ls : Lo) (st : List Value) (h : Hp) (Q : Option Value → Hp → Prop) (x y : Int32), Wp 153 13 (ls) (.int y :: .int x :: st) h Q ↔ Wp 153 14 (ls) (.int (x - y) :: st) h Q) ∧
  (∀ (ls : Lo) (h : Hp) (Q : Option Value → Hp → Prop) (x : Int32), Wp 153 14 (ls) ([.int x]) h Q ↔ Q (some (.int x)) h) := ⟨by intro ls st h Q i; exact e_aload_n d153_0 rfl,
  by intro ls st h Q; exact e_bipush d153_1 rfl,
  by intro ls st n sl C Z I L R Q x0 i hh; exact e_iv (k2 := 150) (c := 11) (as := [.int x0]) d153_3 rfl (by decide) rfl rfl (by decide +kernel) (Nat.le_of_ble_eq_true rfl) rfl hh,
  by intro ls st h Q i; exact e_aload_n d153_6 rfl,
  by intro ls st h Q l0 x; exact e_iload_n d153_7 rfl,
  by intro ls st h Q l0 l1 x; exact e_iload_n d153_8 rfl,
  by intro ls st n sl C Z I L R Q x0 x1 i hh; exact e_iv (k2 := 152) (c := 11) (as := [.int x0, .int x1]) d153_9 rfl (by decide) rfl rfl (by decide +kernel) (Nat.le_of_ble_eq_true rfl) rfl hh,
  by intro ls st h Q l0 x; exact e_iload_n d153_12 rfl,
  by intro ls st h Q x y; exact e_isub d153_13,
  by intros; exact e_rI (p := True) d153_14 rfl⟩
theorem d154_0 : decode (byt 154) 0 = .ok (.aload_n 0, 1) := by decide +kernel
theorem d154_1 : decode (byt 154) 1 = .ok (.getfield 7, 3) := by decide +kernel
theorem d154_4 : decode (byt 154) 4 = .ok (.iload_n 1, 1) := by decide +kernel
theorem d154_5 : decode (byt 154) 5 = .ok (.iaload, 1) := by decide +kernel
theorem d154_6 : decode (byt 154) 6 = .ok (.iconst 2, 1) := by decide +kernel
theorem d154_7 : decode (byt 154) 7 = .ok (.if_icmp .ge 10, 3) := by decide +kernel
theorem d154_10 : decode (byt 154) 10 = .ok (.aload_n 0, 1) := by decide +kernel
theorem d154_11 : decode (byt 154) 11 = .ok (.iload_n 1, 1) := by decide +kernel
theorem d154_12 : decode (byt 154) 12 = .ok (.iload_n 2, 1) := by decide +kernel
theorem d154_13 : decode (byt 154) 13 = .ok (.invokevirtual 223, 3) := by decide +kernel
theorem d154_16 : decode (byt 154) 16 = .ok (.ireturn, 1) := by decide +kernel
theorem d154_17 : decode (byt 154) 17 = .ok (.aload_n 0, 1) := by decide +kernel
theorem d154_18 : decode (byt 154) 18 = .ok (.bipush 30, 2) := by decide +kernel
theorem d154_20 : decode (byt 154) 20 = .ok (.invokevirtual 213, 3) := by decide +kernel
theorem d154_23 : decode (byt 154) 23 = .ok (.aload_n 0, 1) := by decide +kernel
theorem d154_24 : decode (byt 154) 24 = .ok (.iload_n 1, 1) := by decide +kernel
theorem d154_25 : decode (byt 154) 25 = .ok (.iload_n 2, 1) := by decide +kernel
theorem d154_26 : decode (byt 154) 26 = .ok (.invokevirtual 223, 3) := by decide +kernel
theorem d154_29 : decode (byt 154) 29 = .ok (.iconst 3, 1) := by decide +kernel
theorem d154_30 : decode (byt 154) 30 = .ok (.imul, 1) := by decide +kernel
theorem d154_31 : decode (byt 154) 31 = .ok (.ireturn, 1) := by decide +kernel
set_option maxRecDepth 20000 in
theorem S154_0 : (∀ (ls : Lo) (st : List Value) (h : Hp) (Q : Option Value → Hp → Prop)  (i : Nat), Wp 154 0 (some (.ref i) :: ls) (st) h Q ↔ Wp 154 1 (some (.ref i) :: ls) (.ref i :: st) h Q) ∧
  (∀ (ls : Lo) (st : List Value) (n sl : Nat) (C Z : Nat → Nat) (I : Nat → Nat → Int32) (L : Nat → Nat → Int64) (R : Nat → Nat → Nat) (Q : Option Value → Hp → Prop) (i : Nat), Wp 154 1 (ls) (.ref i :: st) (n, sl, C, Z, I, L, R) Q ↔ (C i = 11 ∧ Wp 154 4 (ls) (.ref (R i 1) :: st) (n, sl, C, Z, I, L, R) Q)) ∧
  (∀ (ls : Lo) (st : List Value) (h : Hp) (Q : Option Value → Hp → Prop) (l0 : Option Value) (x : Int32), Wp 154 4 (l0 :: some (.int x) :: ls) (st) h Q ↔ Wp 154 5 (l0 :: some (.int x) :: ls) (.int x :: st) h Q) ∧
  (∀ (ls : Lo) (st : List Value) (n sl : Nat) (C Z : Nat → Nat) (I : Nat → Nat → Int32) (L : Nat → Nat → Int64) (R : Nat → Nat → Nat) (Q : Option Value → Hp → Prop) (i : Nat) (y : Int32), Wp 154 5 (ls) (.int y :: .ref i :: st) (n, sl, C, Z, I, L, R) Q ↔ ((inb y (Z i) = true ∧ C i = 21) ∧ Wp 154 6 (ls) (.int (I i (ix y)) :: st) (n, sl, C, Z, I, L, R) Q)) ∧
  (∀ (ls : Lo) (st : List Value) (h : Hp) (Q : Option Value → Hp → Prop), Wp 154 6 (ls) (st) h Q ↔ Wp 154 7 (ls) (.int (2) :: st) h Q) ∧
  (∀ (ls : Lo) (st : List Value) (h : Hp) (Q : Option Value → Hp → Prop) (x y : Int32), Wp 154 7 (ls) (.int y :: .int x :: st) h Q ↔ Br 154 17 10 ls st h Q (y ≤ x)) ∧
  (∀ (ls : Lo) (st : List Value) (h : Hp) (Q : Option Value → Hp → Prop)  (i : Nat), Wp 154 10 (some (.ref i) :: ls) (st) h Q ↔ Wp 154 11 (some (.ref i) :: ls) (.ref i :: st) h Q) ∧
  (∀ (ls : Lo) (st : List Value) (h : Hp) (Q : Option Value → Hp → Prop) (l0 : Option Value) (x : Int32), Wp 154 11 (l0 :: some (.int x) :: ls) (st) h Q ↔ Wp 154 12 (l0 :: some (.int x) :: ls) (.int x :: st) h Q) ∧
  (∀ (ls : Lo) (st : List Value) (h : Hp) (Q : Option Value → Hp → Prop) (l0 l1 : Option Value) (x : Int32), Wp 154 12 (l0 :: l1 :: some (.int x) :: ls) (st) h Q ↔ Wp 154 13 (l0 :: l1 :: some (.int x) :: ls) (.int x :: st) h Q) ∧
  (∀ (ls : Lo) (st : List Value) (n sl : Nat) (C Z : Nat → Nat) (I : Nat → Nat → Int32) (L : Nat → Nat → Int64) (R : Nat → Nat → Nat) (Q : Option Value → Hp → Prop) (x0 : Int32) (x1 : Int32) (i : Nat), C i = 11 → (Wp 154 13 (ls) (.int x1 :: .int x0 :: .ref i :: st) (n, sl, C, Z, I, L, R) Q ↔ (wsum st ≤ 8 ∧ Call 153 [some (.ref i), some (.int x0), some (.int x1)] (n, sl, C, Z, I, L, R) 154 16 ls st Q))) ∧
  (∀ (ls : Lo) (h : Hp) (Q : Option Value → Hp → Prop) (x : Int32), Wp 154 16 (ls) ([.int x]) h Q ↔ Q (some (.int x)) h) ∧
  (∀ (ls : Lo) (st : List Value) (h : Hp) (Q : Option Value → Hp → Prop)  (i : Nat), Wp 154 17 (some (.ref i) :: ls) (st) h Q ↔ Wp 154 18 (some (.ref i) :: ls) (.ref i :: st) h Q) ∧
  (∀ (ls : Lo) (st : List Value) (h : Hp) (Q : Option Value → Hp → Prop), Wp 154 18 (ls) (st) h Q ↔ Wp 154 20 (ls) (.int (30) :: st) h Q) ∧
  (∀ (ls : Lo) (st : List Value) (n sl : Nat) (C Z : Nat → Nat) (I : Nat → Nat → Int32) (L : Nat → Nat → Int64) (R : Nat → Nat → Nat) (Q : Option Value → Hp → Prop) (x0 : Int32) (i : Nat), C i = 11 → (Wp 154 20 (ls) (.int x0 :: .ref i :: st) (n, sl, C, Z, I, L, R) Q ↔ (wsum st ≤ 8 ∧ Call 150 [some (.ref i), some (.int x0)] (n, sl, C, Z, I, L, R) 154 23 ls st Q))) ∧
  (∀ (ls : Lo) (st : List Value) (h : Hp) (Q : Option Value → Hp → Prop)  (i : Nat), Wp 154 23 (some (.ref i) :: ls) (st) h Q ↔ Wp 154 24 (some (.ref i) :: ls) (.ref i :: st) h Q) ∧
  (∀ (ls : Lo) (st : List Value) (h : Hp) (Q : Option Value → Hp → Prop) (l0 : Option Value) (x : Int32), Wp 154 24 (l0 :: some (.int x) :: ls) (st) h Q ↔ Wp 154 25 (l0 :: some (.int x) :: ls) (.int x :: st) h Q) ∧
  (∀ (ls : Lo) (st : List Value) (h : Hp) (Q : Option Value → Hp → Prop) (l0 l1 : Option Value) (x : Int32), Wp 154 25 (l0 :: l1 :: some (.int x) :: ls) (st) h Q ↔ Wp 154 26 (l0 :: l1 :: some (.int x) :: ls) (.int x :: st) h Q) ∧
  (∀ (ls : Lo) (st : List Value) (n sl : Nat) (C Z : Nat → Nat) (I : Nat → Nat → Int32) (L : Nat → Nat → Int64) (R : Nat → Nat → Nat) (Q : Option Value → Hp → Prop) (x0 : Int32) (x1 : Int32) (i : Nat), C i = 11 → (Wp 154 26 (ls) (.int x1 :: .int x0 :: .ref i :: st) (n, sl, C, Z, I, L, R) Q ↔ (wsum st ≤ 8 ∧ Call 153 [some (.ref i), some (.int x0), some (.int x1)] (n, sl, C, Z, I, L, R) 154 29 ls st Q))) ∧
  (∀ (ls : Lo) (st : List Value) (h : Hp) (Q : Option Value → Hp → Prop), Wp 154 29 (ls) (st) h Q ↔ Wp 154 30 (ls) (.int (3) :: st) h Q) ∧
  (∀ (ls : Lo) (st : List Value) (h : Hp) (Q : Option Value → Hp → Prop) (x y : Int32), Wp 154 30 (ls) (.int y :: .int x :: st) h Q ↔ Wp 154 31 (ls) (.int (x * y) :: st) h Q) ∧
  (∀ (ls : Lo) (h : Hp) (Q : Option Value → Hp → Prop) (x : Int32), Wp 154 31 (ls) ([.int x]) h Q ↔ Q (some (.int x)) h) := ⟨by intro ls st h Q i; exact e_aload_n d154_0 rfl,
  by intro ls st n sl C Z I L R Q i; exact e_get (g := 10) (s := 1) (ty := 2) d154_1 rfl rfl (inG_ne (by decide)),
  by intro ls st h Q l0 x; exact e_iload_n d154_4 rfl,
  by intro ls st n sl C Z I L R Q i y; exact e_iald d154_5,
  by intro ls st h Q; exact e_iconst d154_6 rfl,
  by intro ls st h Q x y; exact e_ic d154_7 (by decide) c_ge,
  by intro ls st h Q i; exact e_aload_n d154_10 rfl,
  by intro ls st h Q l0 x; exact e_iload_n d154_11 rfl,
  by intro ls st h Q l0 l1 x; exact e_iload_n d154_12 rfl,
  by intro ls st n sl C Z I L R Q x0 x1 i hh; exact e_iv (k2 := 153) (c := 11) (as := [.int x0, .int x1]) d154_13 rfl (by decide) rfl rfl (by decide +kernel) (Nat.le_of_ble_eq_true rfl) rfl hh,
  by intros; exact e_rI (p := True) d154_16 rfl,
  by intro ls st h Q i; exact e_aload_n d154_17 rfl,
  by intro ls st h Q; exact e_bipush d154_18 rfl,
  by intro ls st n sl C Z I L R Q x0 i hh; exact e_iv (k2 := 150) (c := 11) (as := [.int x0]) d154_20 rfl (by decide) rfl rfl (by decide +kernel) (Nat.le_of_ble_eq_true rfl) rfl hh,
  by intro ls st h Q i; exact e_aload_n d154_23 rfl,
  by intro ls st h Q l0 x; exact e_iload_n d154_24 rfl,
  by intro ls st h Q l0 l1 x; exact e_iload_n d154_25 rfl,
  by intro ls st n sl C Z I L R Q x0 x1 i hh; exact e_iv (k2 := 153) (c := 11) (as := [.int x0, .int x1]) d154_26 rfl (by decide) rfl rfl (by decide +kernel) (Nat.le_of_ble_eq_true rfl) rfl hh,
  by intro ls st h Q; exact e_iconst d154_29 rfl,
  by intro ls st h Q x y; exact e_imul d154_30,
  by intros; exact e_rI (p := True) d154_31 rfl⟩
theorem d155_0 : decode (byt 155) 0 = .ok (.aload_n 0, 1) := by decide +kernel
theorem d155_1 : decode (byt 155) 1 = .ok (.bipush 12, 2) := by decide +kernel
theorem d155_3 : decode (byt 155) 3 = .ok (.invokevirtual 213, 3) := by decide +kernel
theorem d155_6 : decode (byt 155) 6 = .ok (.aload_n 0, 1) := by decide +kernel
theorem d155_7 : decode (byt 155) 7 = .ok (.iload_n 1, 1) := by decide +kernel
theorem d155_8 : decode (byt 155) 8 = .ok (.iload_n 2, 1) := by decide +kernel
theorem d155_9 : decode (byt 155) 9 = .ok (.invokevirtual 226, 3) := by decide +kernel
theorem d155_12 : decode (byt 155) 12 = .ok (.istore_n 3, 1) := by decide +kernel
theorem d155_13 : decode (byt 155) 13 = .ok (.iload_n 3, 1) := by decide +kernel
theorem d155_14 : decode (byt 155) 14 = .ok (.aload_n 0, 1) := by decide +kernel
theorem d155_15 : decode (byt 155) 15 = .ok (.iload_n 1, 1) := by decide +kernel
theorem d155_16 : decode (byt 155) 16 = .ok (.iload_n 2, 1) := by decide +kernel
theorem d155_17 : decode (byt 155) 17 = .ok (.aload_n 0, 1) := by decide +kernel
theorem d155_18 : decode (byt 155) 18 = .ok (.getfield 16, 3) := by decide +kernel
theorem d155_21 : decode (byt 155) 21 = .ok (.iload_n 1, 1) := by decide +kernel
theorem d155_22 : decode (byt 155) 22 = .ok (.iaload, 1) := by decide +kernel
theorem d155_23 : decode (byt 155) 23 = .ok (.iadd, 1) := by decide +kernel
theorem d155_24 : decode (byt 155) 24 = .ok (.invokevirtual 220, 3) := by decide +kernel
theorem d155_27 : decode (byt 155) 27 = .ok (.ixor, 1) := by decide +kernel
theorem d155_28 : decode (byt 155) 28 = .ok (.ireturn, 1) := by decide +kernel
set_option maxRecDepth 20000 in
theorem S155_0 : (∀ (ls : Lo) (st : List Value) (h : Hp) (Q : Option Value → Hp → Prop)  (i : Nat), Wp 155 0 (some (.ref i) :: ls) (st) h Q ↔ Wp 155 1 (some (.ref i) :: ls) (.ref i :: st) h Q) ∧
  (∀ (ls : Lo) (st : List Value) (h : Hp) (Q : Option Value → Hp → Prop), Wp 155 1 (ls) (st) h Q ↔ Wp 155 3 (ls) (.int (12) :: st) h Q) ∧
  (∀ (ls : Lo) (st : List Value) (n sl : Nat) (C Z : Nat → Nat) (I : Nat → Nat → Int32) (L : Nat → Nat → Int64) (R : Nat → Nat → Nat) (Q : Option Value → Hp → Prop) (x0 : Int32) (i : Nat), C i = 11 → (Wp 155 3 (ls) (.int x0 :: .ref i :: st) (n, sl, C, Z, I, L, R) Q ↔ (wsum st ≤ 8 ∧ Call 150 [some (.ref i), some (.int x0)] (n, sl, C, Z, I, L, R) 155 6 ls st Q))) ∧
  (∀ (ls : Lo) (st : List Value) (h : Hp) (Q : Option Value → Hp → Prop)  (i : Nat), Wp 155 6 (some (.ref i) :: ls) (st) h Q ↔ Wp 155 7 (some (.ref i) :: ls) (.ref i :: st) h Q) ∧
  (∀ (ls : Lo) (st : List Value) (h : Hp) (Q : Option Value → Hp → Prop) (l0 : Option Value) (x : Int32), Wp 155 7 (l0 :: some (.int x) :: ls) (st) h Q ↔ Wp 155 8 (l0 :: some (.int x) :: ls) (.int x :: st) h Q) ∧
  (∀ (ls : Lo) (st : List Value) (h : Hp) (Q : Option Value → Hp → Prop) (l0 l1 : Option Value) (x : Int32), Wp 155 8 (l0 :: l1 :: some (.int x) :: ls) (st) h Q ↔ Wp 155 9 (l0 :: l1 :: some (.int x) :: ls) (.int x :: st) h Q) ∧
  (∀ (ls : Lo) (st : List Value) (n sl : Nat) (C Z : Nat → Nat) (I : Nat → Nat → Int32) (L : Nat → Nat → Int64) (R : Nat → Nat → Nat) (Q : Option Value → Hp → Prop) (x0 : Int32) (x1 : Int32) (i : Nat), C i = 11 → (Wp 155 9 (ls) (.int x1 :: .int x0 :: .ref i :: st) (n, sl, C, Z, I, L, R) Q ↔ (wsum st ≤ 8 ∧ Call 154 [some (.ref i), some (.int x0), some (.int x1)] (n, sl, C, Z, I, L, R) 155 12 ls st Q))) ∧
  (∀ (ls : Lo) (st : List Value) (h : Hp) (Q : Option Value → Hp → Prop) (l0 l1 l2 l3 : Option Value) (x : Int32), Wp 155 12 (l0 :: l1 :: l2 :: l3 :: ls) (.int x :: st) h Q ↔ Wp 155 13 (l0 :: l1 :: clr l2 :: some (.int x) :: ls) (st) h Q) ∧
  (∀ (ls : Lo) (st : List Value) (h : Hp) (Q : Option Value → Hp → Prop) (l0 l1 l2 : Option Value) (x : Int32), Wp 155 13 (l0 :: l1 :: l2 :: some (.int x) :: ls) (st) h Q ↔ Wp 155 14 (l0 :: l1 :: l2 :: some (.int x) :: ls) (.int x :: st) h Q) ∧
  (∀ (ls : Lo) (st : List Value) (h : Hp) (Q : Option Value → Hp → Prop)  (i : Nat), Wp 155 14 (some (.ref i) :: ls) (st) h Q ↔ Wp 155 15 (some (.ref i) :: ls) (.ref i :: st) h Q) ∧
  (∀ (ls : Lo) (st : List Value) (h : Hp) (Q : Option Value → Hp → Prop) (l0 : Option Value) (x : Int32), Wp 155 15 (l0 :: some (.int x) :: ls) (st) h Q ↔ Wp 155 16 (l0 :: some (.int x) :: ls) (.int x :: st) h Q) ∧
  (∀ (ls : Lo) (st : List Value) (h : Hp) (Q : Option Value → Hp → Prop) (l0 l1 : Option Value) (x : Int32), Wp 155 16 (l0 :: l1 :: some (.int x) :: ls) (st) h Q ↔ Wp 155 17 (l0 :: l1 :: some (.int x) :: ls) (.int x :: st) h Q) ∧
  (∀ (ls : Lo) (st : List Value) (h : Hp) (Q : Option Value → Hp → Prop)  (i : Nat), Wp 155 17 (some (.ref i) :: ls) (st) h Q ↔ Wp 155 18 (some (.ref i) :: ls) (.ref i :: st) h Q) ∧
  (∀ (ls : Lo) (st : List Value) (n sl : Nat) (C Z : Nat → Nat) (I : Nat → Nat → Int32) (L : Nat → Nat → Int64) (R : Nat → Nat → Nat) (Q : Option Value → Hp → Prop) (i : Nat), Wp 155 18 (ls) (.ref i :: st) (n, sl, C, Z, I, L, R) Q ↔ (C i = 11 ∧ Wp 155 21 (ls) (.ref (R i 3) :: st) (n, sl, C, Z, I, L, R) Q)) ∧
  (∀ (ls : Lo) (st : List Value) (h : Hp) (Q : Option Value → Hp → Prop) (l0 : Option Value) (x : Int32), Wp 155 21 (l0 :: some (.int x) :: ls) (st) h Q ↔ Wp 155 22 (l0 :: some (.int x) :: ls) (.int x :: st) h Q) ∧
  (∀ (ls : Lo) (st : List Value) (n sl : Nat) (C Z : Nat → Nat) (I : Nat → Nat → Int32) (L : Nat → Nat → Int64) (R : Nat → Nat → Nat) (Q : Option Value → Hp → Prop) (i : Nat) (y : Int32), Wp 155 22 (ls) (.int y :: .ref i :: st) (n, sl, C, Z, I, L, R) Q ↔ ((inb y (Z i) = true ∧ C i = 21) ∧ Wp 155 23 (ls) (.int (I i (ix y)) :: st) (n, sl, C, Z, I, L, R) Q)) ∧
  (∀ (ls : Lo) (st : List Value) (h : Hp) (Q : Option Value → Hp → Prop) (x y : Int32), Wp 155 23 (ls) (.int y :: .int x :: st) h Q ↔ Wp 155 24 (ls) (.int (x + y) :: st) h Q) ∧
  (∀ (ls : Lo) (st : List Value) (n sl : Nat) (C Z : Nat → Nat) (I : Nat → Nat → Int32) (L : Nat → Nat → Int64) (R : Nat → Nat → Nat) (Q : Option Value → Hp → Prop) (x0 : Int32) (x1 : Int32) (i : Nat), C i = 11 → (Wp 155 24 (ls) (.int x1 :: .int x0 :: .ref i :: st) (n, sl, C, Z, I, L, R) Q ↔ (wsum st ≤ 8 ∧ Call 152 [some (.ref i), some (.int x0), some (.int x1)] (n, sl, C, Z, I, L, R) 155 27 ls st Q))) ∧
  (∀ (ls : Lo) (st : List Value) (h : Hp) (Q : Option Value → Hp → Prop) (x y : Int32), Wp 155 27 (ls) (.int y :: .int x :: st) h Q ↔ Wp 155 28 (ls) (.int (x ^^^ y) :: st) h Q) ∧
  (∀ (ls : Lo) (h : Hp) (Q : Option Value → Hp → Prop) (x : Int32), Wp 155 28 (ls) ([.int x]) h Q ↔ Q (some (.int x)) h) := ⟨by intro ls st h Q i; exact e_aload_n d155_0 rfl,
  by intro ls st h Q; exact e_bipush d155_1 rfl,
  by intro ls st n sl C Z I L R Q x0 i hh; exact e_iv (k2 := 150) (c := 11) (as := [.int x0]) d155_3 rfl (by decide) rfl rfl (by decide +kernel) (Nat.le_of_ble_eq_true rfl) rfl hh,
  by intro ls st h Q i; exact e_aload_n d155_6 rfl,
  by intro ls st h Q l0 x; exact e_iload_n d155_7 rfl,
  by intro ls st h Q l0 l1 x; exact e_iload_n d155_8 rfl,
  by intro ls st n sl C Z I L R Q x0 x1 i hh; exact e_iv (k2 := 154) (c := 11) (as := [.int x0, .int x1]) d155_9 rfl (by decide) rfl rfl (by decide +kernel) (Nat.le_of_ble_eq_true rfl) rfl hh,
  by intro ls st h Q l0 l1 l2 l3 x; exact e_istore_n d155_12 rfl,
  by intro ls st h Q l0 l1 l2 x; exact e_iload_n d155_13 rfl,
  by intro ls st h Q i; exact e_aload_n d155_14 rfl,
  by intro ls st h Q l0 x; exact e_iload_n d155_15 rfl,
  by intro ls st h Q l0 l1 x; exact e_iload_n d155_16 rfl,
  by intro ls st h Q i; exact e_aload_n d155_17 rfl,
  by intro ls st n sl C Z I L R Q i; exact e_get (g := 10) (s := 3) (ty := 2) d155_18 rfl rfl (inG_ne (by decide)),
  by intro ls st h Q l0 x; exact e_iload_n d155_21 rfl,
  by intro ls st n sl C Z I L R Q i y; exact e_iald d155_22,
  by intro ls st h Q x y; exact e_iadd d155_23,
  by intro ls st n sl C Z I L R Q x0 x1 i hh; exact e_iv (k2 := 152) (c := 11) (as := [.int x0, .int x1]) d155_24 rfl (by decide) rfl rfl (by decide +kernel) (Nat.le_of_ble_eq_true rfl) rfl hh,
  by intro ls st h Q x y; exact e_ixor d155_27,
  by intros; exact e_rI (p := True) d155_28 rfl⟩
theorem d156_0 : decode (byt 156) 0 = .ok (.aload_n 0, 1) := by decide +kernel
theorem d156_1 : decode (byt 156) 1 = .ok (.bipush 31, 2) := by decide +kernel
theorem d156_3 : decode (byt 156) 3 = .ok (.invokevirtual 213, 3) := by decide +kernel
theorem d156_6 : decode (byt 156) 6 = .ok (.aload_n 0, 1) := by decide +kernel
theorem d156_7 : decode (byt 156) 7 = .ok (.iload_n 1, 1) := by decide +kernel
theorem d156_8 : decode (byt 156) 8 = .ok (.iload_n 2, 1) := by decide +kernel
theorem d156_9 : decode (byt 156) 9 = .ok (.iconst 1, 1) := by decide +kernel
theorem d156_10 : decode (byt 156) 10 = .ok (.isub, 1) := by decide +kernel
theorem d156_11 : decode (byt 156) 11 = .ok (.invokevirtual 229, 3) := by decide +kernel
theorem d156_14 : decode (byt 156) 14 = .ok (.ireturn, 1) := by decide +kernel
set_option maxRecDepth 20000 in
theorem S156_0 : (∀ (ls : Lo) (st : List Value) (h : Hp) (Q : Option Value → Hp → Prop)  (i : Nat), Wp 156 0 (some (.ref i) :: ls) (st) h Q ↔ Wp 156 1 (some (.ref i) :: ls) (.ref i :: st) h Q) ∧
  (∀ (ls : Lo) (st : List Value) (h : Hp) (Q : Option Value → Hp → Prop), Wp 156 1 (ls) (st) h Q ↔ Wp 156 3 (ls) (.int (31) :: st) h Q) ∧
  (∀ (ls : Lo) (st : List Value) (n sl : Nat) (C Z : Nat → Nat) (I : Nat → Nat → Int32) (L : Nat → Nat → Int64) (R : Nat → Nat → Nat) (Q : Option Value → Hp → Prop) (x0 : Int32) (i : Nat), C i = 11 → (Wp 156 3 (ls) (.int x0 :: .ref i :: st) (n, sl, C, Z, I, L, R) Q ↔ (wsum st ≤ 8 ∧ Call 150 [some (.ref i), some (.int x0)] (n, sl, C, Z, I, L, R) 156 6 ls st Q))) ∧
  (∀ (ls : Lo) (st : List Value) (h : Hp) (Q : Option Value → Hp → Prop)  (i : Nat), Wp 156 6 (some (.ref i) :: ls) (st) h Q ↔ Wp 156 7 (some (.ref i) :: ls) (.ref i :: st) h Q) ∧
  (∀ (ls : Lo) (st : List Value) (h : Hp) (Q : Option Value → Hp → Prop) (l0 : Option Value) (x : Int32), Wp 156 7 (l0 :: some (.int x) :: ls) (st) h Q ↔ Wp 156 8 (l0 :: some (.int x) :: ls) (.int x :: st) h Q) ∧
  (∀ (ls : Lo) (st : List Value) (h : Hp) (Q : Option Value → Hp → Prop) (l0 l1 : Option Value) (x : Int32), Wp 156 8 (l0 :: l1 :: some (.int x) :: ls) (st) h Q ↔ Wp 156 9 (l0 :: l1 :: some (.int x) :: ls) (.int x :: st) h Q) ∧
  (∀ (ls : Lo) (st : List Value) (h : Hp) (Q : Option Value → Hp → Prop), Wp 156 9 (ls) (st) h Q ↔ Wp 156 10 (ls) (.int (1) :: st) h Q) ∧
  (∀ (ls : Lo) (st : List Value) (h : Hp) (Q : Option Value → Hp → Prop) (x y : Int32), Wp 156 10 (ls) (.int y :: .int x :: st) h Q ↔ Wp 156 11 (ls) (.int (x - y) :: st) h Q) ∧
  (∀ (ls : Lo) (st : List Value) (n sl : Nat) (C Z : Nat → Nat) (I : Nat → Nat → Int32) (L : Nat → Nat → Int64) (R : Nat → Nat → Nat) (Q : Option Value → Hp → Prop) (x0 : Int32) (x1 : Int32) (i : Nat), C i = 11 → (Wp 156 11 (ls) (.int x1 :: .int x0 :: .ref i :: st) (n, sl, C, Z, I, L, R) Q ↔ (wsum st ≤ 8 ∧ Call 155 [some (.ref i), some (.int x0), some (.int x1), none] (n, sl, C, Z, I, L, R) 156 14 ls st Q))) ∧
  (∀ (ls : Lo) (h : Hp) (Q : Option Value → Hp → Prop) (x : Int32), Wp 156 14 (ls) ([.int x]) h Q ↔ Q (some (.int x)) h) := ⟨by intro ls st h Q i; exact e_aload_n d156_0 rfl,
  by intro ls st h Q; exact e_bipush d156_1 rfl,
  by intro ls st n sl C Z I L R Q x0 i hh; exact e_iv (k2 := 150) (c := 11) (as := [.int x0]) d156_3 rfl (by decide) rfl rfl (by decide +kernel) (Nat.le_of_ble_eq_true rfl) rfl hh,
  by intro ls st h Q i; exact e_aload_n d156_6 rfl,
  by intro ls st h Q l0 x; exact e_iload_n d156_7 rfl,
  by intro ls st h Q l0 l1 x; exact e_iload_n d156_8 rfl,
  by intro ls st h Q; exact e_iconst d156_9 rfl,
  by intro ls st h Q x y; exact e_isub d156_10,
  by intro ls st n sl C Z I L R Q x0 x1 i hh; exact e_iv (k2 := 155) (c := 11) (as := [.int x0, .int x1]) d156_11 rfl (by decide) rfl rfl (by decide +kernel) (Nat.le_of_ble_eq_true rfl) rfl hh,
  by intros; exact e_rI (p := True) d156_14 rfl⟩
theorem d157_0 : decode (byt 157) 0 = .ok (.aload_n 0, 1) := by decide +kernel
theorem d157_1 : decode (byt 157) 1 = .ok (.getfield 7, 3) := by decide +kernel
theorem d157_4 : decode (byt 157) 4 = .ok (.iload_n 1, 1) := by decide +kernel
theorem d157_5 : decode (byt 157) 5 = .ok (.iaload, 1) := by decide +kernel
theorem d157_6 : decode (byt 157) 6 = .ok (.iconst 2, 1) := by decide +kernel
theorem d157_7 : decode (byt 157) 7 = .ok (.if_icmp .ge 10, 3) := by decide +kernel
theorem d157_10 : decode (byt 157) 10 = .ok (.aload_n 0, 1) := by decide +kernel
theorem d157_11 : decode (byt 157) 11 = .ok (.iload_n 1, 1) := by decide +kernel
theorem d157_12 : decode (byt 157) 12 = .ok (.iload_n 2, 1) := by decide +kernel
theorem d157_13 : decode (byt 157) 13 = .ok (.invokevirtual 229, 3) := by decide +kernel
theorem d157_16 : decode (byt 157) 16 = .ok (.ireturn, 1) := by decide +kernel
theorem d157_17 : decode (byt 157) 17 = .ok (.aload_n 0, 1) := by decide +kernel
theorem d157_18 : decode (byt 157) 18 = .ok (.getfield 7, 3) := by decide +kernel
theorem d157_21 : decode (byt 157) 21 = .ok (.iload_n 1, 1) := by decide +kernel
theorem d157_22 : decode (byt 157) 22 = .ok (.iaload, 1) := by decide +kernel
theorem d157_23 : decode (byt 157) 23 = .ok (.iconst 2, 1) := by decide +kernel
theorem d157_24 : decode (byt 157) 24 = .ok (.if_icmp .ne 10, 3) := by decide +kernel
theorem d157_27 : decode (byt 157) 27 = .ok (.aload_n 0, 1) := by decide +kernel
theorem d157_28 : decode (byt 157) 28 = .ok (.iload_n 1, 1) := by decide +kernel
theorem d157_29 : decode (byt 157) 29 = .ok (.iload_n 2, 1) := by decide +kernel
theorem d157_30 : decode (byt 157) 30 = .ok (.invokevirtual 232, 3) := by decide +kernel
theorem d157_33 : decode (byt 157) 33 = .ok (.ireturn, 1) := by decide +kernel
theorem d157_34 : decode (byt 157) 34 = .ok (.aload_n 0, 1) := by decide +kernel
theorem d157_35 : decode (byt 157) 35 = .ok (.bipush 41, 2) := by decide +kernel
theorem d157_37 : decode (byt 157) 37 = .ok (.invokevirtual 213, 3) := by decide +kernel
theorem d157_40 : decode (byt 157) 40 = .ok (.aload_n 0, 1) := by decide +kernel
theorem d157_41 : decode (byt 157) 41 = .ok (.iload_n 1, 1) := by decide +kernel
theorem d157_42 : decode (byt 157) 42 = .ok (.iload_n 2, 1) := by decide +kernel
theorem d157_43 : decode (byt 157) 43 = .ok (.invokevirtual 226, 3) := by decide +kernel
theorem d157_46 : decode (byt 157) 46 = .ok (.istore_n 3, 1) := by decide +kernel
theorem d157_47 : decode (byt 157) 47 = .ok (.iload_n 3, 1) := by decide +kernel
theorem d157_48 : decode (byt 157) 48 = .ok (.aload_n 0, 1) := by decide +kernel
theorem d157_49 : decode (byt 157) 49 = .ok (.iload_n 1, 1) := by decide +kernel
theorem d157_50 : decode (byt 157) 50 = .ok (.iload_n 2, 1) := by decide +kernel
theorem d157_51 : decode (byt 157) 51 = .ok (.invokevirtual 232, 3) := by decide +kernel
theorem d157_54 : decode (byt 157) 54 = .ok (.iadd, 1) := by decide +kernel
theorem d157_55 : decode (byt 157) 55 = .ok (.ireturn, 1) := by decide +kernel
set_option maxRecDepth 20000 in
theorem S157_0 : (∀ (ls : Lo) (st : List Value) (h : Hp) (Q : Option Value → Hp → Prop)  (i : Nat), Wp 157 0 (some (.ref i) :: ls) (st) h Q ↔ Wp 157 1 (some (.ref i) :: ls) (.ref i :: st) h Q) ∧
  (∀ (ls : Lo) (st : List Value) (n sl : Nat) (C Z : Nat → Nat) (I : Nat → Nat → Int32) (L : Nat → Nat → Int64) (R : Nat → Nat → Nat) (Q : Option Value → Hp → Prop) (i : Nat), Wp 157 1 (ls) (.ref i :: st) (n, sl, C, Z, I, L, R) Q ↔ (C i = 11 ∧ Wp 157 4 (ls) (.ref (R i 1) :: st) (n, sl, C, Z, I, L, R) Q)) ∧
  (∀ (ls : Lo) (st : List Value) (h : Hp) (Q : Option Value → Hp → Prop) (l0 : Option Value) (x : Int32), Wp 157 4 (l0 :: some (.int x) :: ls) (st) h Q ↔ Wp 157 5 (l0 :: some (.int x) :: ls) (.int x :: st) h Q) ∧
  (∀ (ls : Lo) (st : List Value) (n sl : Nat) (C Z : Nat → Nat) (I : Nat → Nat → Int32) (L : Nat → Nat → Int64) (R : Nat → Nat → Nat) (Q : Option Value → Hp → Prop) (i : Nat) (y : Int32), Wp 157 5 (ls) (.int y :: .ref i :: st) (n, sl, C, Z, I, L, R) Q ↔ ((inb y (Z i) = true ∧ C i = 21) ∧ Wp 157 6 (ls) (.int (I i (ix y)) :: st) (n, sl, C, Z, I, L, R) Q)) ∧
  (∀ (ls : Lo) (st : List Value) (h : Hp) (Q : Option Value → Hp → Prop), Wp 157 6 (ls) (st) h Q ↔ Wp 157 7 (ls) (.int (2) :: st) h Q) ∧
  (∀ (ls : Lo) (st : List Value) (h : Hp) (Q : Option Value → Hp → Prop) (x y : Int32), Wp 157 7 (ls) (.int y :: .int x :: st) h Q ↔ Br 157 17 10 ls st h Q (y ≤ x)) ∧
  (∀ (ls : Lo) (st : List Value) (h : Hp) (Q : Option Value → Hp → Prop)  (i : Nat), Wp 157 10 (some (.ref i) :: ls) (st) h Q ↔ Wp 157 11 (some (.ref i) :: ls) (.ref i :: st) h Q) ∧
  (∀ (ls : Lo) (st : List Value) (h : Hp) (Q : Option Value → Hp → Prop) (l0 : Option Value) (x : Int32), Wp 157 11 (l0 :: some (.int x) :: ls) (st) h Q ↔ Wp 157 12 (l0 :: some (.int x) :: ls) (.int x :: st) h Q) ∧
  (∀ (ls : Lo) (st : List Value) (h : Hp) (Q : Option Value → Hp → Prop) (l0 l1 : Option Value) (x : Int32), Wp 157 12 (l0 :: l1 :: some (.int x) :: ls) (st) h Q ↔ Wp 157 13 (l0 :: l1 :: some (.int x) :: ls) (.int x :: st) h Q) ∧
  (∀ (ls : Lo) (st : List Value) (n sl : Nat) (C Z : Nat → Nat) (I : Nat → Nat → Int32) (L : Nat → Nat → Int64) (R : Nat → Nat → Nat) (Q : Option Value → Hp → Prop) (x0 : Int32) (x1 : Int32) (i : Nat), C i = 11 → (Wp 157 13 (ls) (.int x1 :: .int x0 :: .ref i :: st) (n, sl, C, Z, I, L, R) Q ↔ (wsum st ≤ 8 ∧ Call 155 [some (.ref i), some (.int x0), some (.int x1), none] (n, sl, C, Z, I, L, R) 157 16 ls st Q))) ∧
  (∀ (ls : Lo) (h : Hp) (Q : Option Value → Hp → Prop) (x : Int32), Wp 157 16 (ls) ([.int x]) h Q ↔ Q (some (.int x)) h) ∧
  (∀ (ls : Lo) (st : List Value) (h : Hp) (Q : Option Value → Hp → Prop)  (i : Nat), Wp 157 17 (some (.ref i) :: ls) (st) h Q ↔ Wp 157 18 (some (.ref i) :: ls) (.ref i :: st) h Q) ∧
  (∀ (ls : Lo) (st : List Value) (n sl : Nat) (C Z : Nat → Nat) (I : Nat → Nat → Int32) (L : Nat → Nat → Int64) (R : Nat → Nat → Nat) (Q : Option Value → Hp → Prop) (i : Nat), Wp 157 18 (ls) (.ref i :: st) (n, sl, C, Z, I, L, R) Q ↔ (C i = 11 ∧ Wp 157 21 (ls) (.ref (R i 1) :: st) (n, sl, C, Z, I, L, R) Q)) ∧
  (∀ (ls : Lo) (st : List Value) (h : Hp) (Q : Option Value → Hp → Prop) (l0 : Option Value) (x : Int32), Wp 157 21 (l0 :: some (.int x) :: ls) (st) h Q ↔ Wp 157 22 (l0 :: some (.int x) :: ls) (.int x :: st) h Q) ∧
  (∀ (ls : Lo) (st : List Value) (n sl : Nat) (C Z : Nat → Nat) (I : Nat → Nat → Int32) (L : Nat → Nat → Int64) (R : Nat → Nat → Nat) (Q : Option Value → Hp → Prop) (i : Nat) (y : Int32), Wp 157 22 (ls) (.int y :: .ref i :: st) (n, sl, C, Z, I, L, R) Q ↔ ((inb y (Z i) = true ∧ C i = 21) ∧ Wp 157 23 (ls) (.int (I i (ix y)) :: st) (n, sl, C, Z, I, L, R) Q)) ∧
  (∀ (ls : Lo) (st : List Value) (h : Hp) (Q : Option Value → Hp → Prop), Wp 157 23 (ls) (st) h Q ↔ Wp 157 24 (ls) (.int (2) :: st) h Q) ∧
  (∀ (ls : Lo) (st : List Value) (h : Hp) (Q : Option Value → Hp → Prop) (x y : Int32), Wp 157 24 (ls) (.int y :: .int x :: st) h Q ↔ Br 157 34 27 ls st h Q (¬ x = y)) ∧
  (∀ (ls : Lo) (st : List Value) (h : Hp) (Q : Option Value → Hp → Prop)  (i : Nat), Wp 157 27 (some (.ref i) :: ls) (st) h Q ↔ Wp 157 28 (some (.ref i) :: ls) (.ref i :: st) h Q) ∧
  (∀ (ls : Lo) (st : List Value) (h : Hp) (Q : Option Value → Hp → Prop) (l0 : Option Value) (x : Int32), Wp 157 28 (l0 :: some (.int x) :: ls) (st) h Q ↔ Wp 157 29 (l0 :: some (.int x) :: ls) (.int x :: st) h Q) ∧
  (∀ (ls : Lo) (st : List Value) (h : Hp) (Q : Option Value → Hp → Prop) (l0 l1 : Option Value) (x : Int32), Wp 157 29 (l0 :: l1 :: some (.int x) :: ls) (st) h Q ↔ Wp 157 30 (l0 :: l1 :: some (.int x) :: ls) (.int x :: st) h Q) ∧
  (∀ (ls : Lo) (st : List Value) (n sl : Nat) (C Z : Nat → Nat) (I : Nat → Nat → Int32) (L : Nat → Nat → Int64) (R : Nat → Nat → Nat) (Q : Option Value → Hp → Prop) (x0 : Int32) (x1 : Int32) (i : Nat), C i = 11 → (Wp 157 30 (ls) (.int x1 :: .int x0 :: .ref i :: st) (n, sl, C, Z, I, L, R) Q ↔ (wsum st ≤ 8 ∧ Call 156 [some (.ref i), some (.int x0), some (.int x1)] (n, sl, C, Z, I, L, R) 157 33 ls st Q))) ∧
  (∀ (ls : Lo) (h : Hp) (Q : Option Value → Hp → Prop) (x : Int32), Wp 157 33 (ls) ([.int x]) h Q ↔ Q (some (.int x)) h) ∧
  (∀ (ls : Lo) (st : List Value) (h : Hp) (Q : Option Value → Hp → Prop)  (i : Nat), Wp 157 34 (some (.ref i) :: ls) (st) h Q ↔ Wp 157 35 (some (.ref i) :: ls) (.ref i :: st) h Q) ∧
  (∀ (ls : Lo) (st : List Value) (h : Hp) (Q : Option Value → Hp → Prop), Wp 157 35 (ls) (st) h Q ↔ Wp 157 37 (ls) (.int (41) :: st) h Q) ∧
  (∀ (ls : Lo) (st : List Value) (n sl : Nat) (C Z : Nat → Nat) (I : Nat → Nat → Int32) (L : Nat → Nat → Int64) (R : Nat → Nat → Nat) (Q : Option Value → Hp → Prop) (x0 : Int32) (i : Nat), C i = 11 → (Wp 157 37 (ls) (.int x0 :: .ref i :: st) (n, sl, C, Z, I, L, R) Q ↔ (wsum st ≤ 8 ∧ Call 150 [some (.ref i), some (.int x0)] (n, sl, C, Z, I, L, R) 157 40 ls st Q))) := ⟨by intro ls st h Q i; exact e_aload_n d157_0 rfl,
  by intro ls st n sl C Z I L R Q i; exact e_get (g := 10) (s := 1) (ty := 2) d157_1 rfl rfl (inG_ne (by decide)),
  by intro ls st h Q l0 x; exact e_iload_n d157_4 rfl,
  by intro ls st n sl C Z I L R Q i y; exact e_iald d157_5,
  by intro ls st h Q; exact e_iconst d157_6 rfl,
  by intro ls st h Q x y; exact e_ic d157_7 (by decide) c_ge,
  by intro ls st h Q i; exact e_aload_n d157_10 rfl,
  by intro ls st h Q l0 x; exact e_iload_n d157_11 rfl,
  by intro ls st h Q l0 l1 x; exact e_iload_n d157_12 rfl,
  by intro ls st n sl C Z I L R Q x0 x1 i hh; exact e_iv (k2 := 155) (c := 11) (as := [.int x0, .int x1]) d157_13 rfl (by decide) rfl rfl (by decide +kernel) (Nat.le_of_ble_eq_true rfl) rfl hh,
  by intros; exact e_rI (p := True) d157_16 rfl,
  by intro ls st h Q i; exact e_aload_n d157_17 rfl,
  by intro ls st n sl C Z I L R Q i; exact e_get (g := 10) (s := 1) (ty := 2) d157_18 rfl rfl (inG_ne (by decide)),
  by intro ls st h Q l0 x; exact e_iload_n d157_21 rfl,
  by intro ls st n sl C Z I L R Q i y; exact e_iald d157_22,
  by intro ls st h Q; exact e_iconst d157_23 rfl,
  by intro ls st h Q x y; exact e_ic d157_24 (by decide) c_ne,
  by intro ls st h Q i; exact e_aload_n d157_27 rfl,
  by intro ls st h Q l0 x; exact e_iload_n d157_28 rfl,
  by intro ls st h Q l0 l1 x; exact e_iload_n d157_29 rfl,
  by intro ls st n sl C Z I L R Q x0 x1 i hh; exact e_iv (k2 := 156) (c := 11) (as := [.int x0, .int x1]) d157_30 rfl (by decide) rfl rfl (by decide +kernel) (Nat.le_of_ble_eq_true rfl) rfl hh,
  by intros; exact e_rI (p := True) d157_33 rfl,
  by intro ls st h Q i; exact e_aload_n d157_34 rfl,
  by intro ls st h Q; exact e_bipush d157_35 rfl,
  by intro ls st n sl C Z I L R Q x0 i hh; exact e_iv (k2 := 150) (c := 11) (as := [.int x0]) d157_37 rfl (by decide) rfl rfl (by decide +kernel) (Nat.le_of_ble_eq_true rfl) rfl hh⟩
set_option maxRecDepth 20000 in
theorem S157_1 : (∀ (ls : Lo) (st : List Value) (h : Hp) (Q : Option Value → Hp → Prop)  (i : Nat), Wp 157 40 (some (.ref i) :: ls) (st) h Q ↔ Wp 157 41 (some (.ref i) :: ls) (.ref i :: st) h Q) ∧
  (∀ (ls : Lo) (st : List Value) (h : Hp) (Q : Option Value → Hp → Prop) (l0 : Option Value) (x : Int32), Wp 157 41 (l0 :: some (.int x) :: ls) (st) h Q ↔ Wp 157 42 (l0 :: some (.int x) :: ls) (.int x :: st) h Q) ∧
  (∀ (ls : Lo) (st : List Value) (h : Hp) (Q : Option Value → Hp → Prop) (l0 l1 : Option Value) (x : Int32), Wp 157 42 (l0 :: l1 :: some (.int x) :: ls) (st) h Q ↔ Wp 157 43 (l0 :: l1 :: some (.int x) :: ls) (.int x :: st) h Q) ∧
  (∀ (ls : Lo) (st : List Value) (n sl : Nat) (C Z : Nat → Nat) (I : Nat → Nat → Int32) (L : Nat → Nat → Int64) (R : Nat → Nat → Nat) (Q : Option Value → Hp → Prop) (x0 : Int32) (x1 : Int32) (i : Nat), C i = 11 → (Wp 157 43 (ls) (.int x1 :: .int x0 :: .ref i :: st) (n, sl, C, Z, I, L, R) Q ↔ (wsum st ≤ 8 ∧ Call 154 [some (.ref i), some (.int x0), some (.int x1)] (n, sl, C, Z, I, L, R) 157 46 ls st Q))) ∧
  (∀ (ls : Lo) (st : List Value) (h : Hp) (Q : Option Value → Hp → Prop) (l0 l1 l2 l3 : Option Value) (x : Int32), Wp 157 46 (l0 :: l1 :: l2 :: l3 :: ls) (.int x :: st) h Q ↔ Wp 157 47 (l0 :: l1 :: clr l2 :: some (.int x) :: ls) (st) h Q) ∧
  (∀ (ls : Lo) (st : List Value) (h : Hp) (Q : Option Value → Hp → Prop) (l0 l1 l2 : Option Value) (x : Int32), Wp 157 47 (l0 :: l1 :: l2 :: some (.int x) :: ls) (st) h Q ↔ Wp 157 48 (l0 :: l1 :: l2 :: some (.int x) :: ls) (.int x :: st) h Q) ∧
  (∀ (ls : Lo) (st : List Value) (h : Hp) (Q : Option Value → Hp → Prop)  (i : Nat), Wp 157 48 (some (.ref i) :: ls) (st) h Q ↔ Wp 157 49 (some (.ref i) :: ls) (.ref i :: st) h Q) ∧
  (∀ (ls : Lo) (st : List Value) (h : Hp) (Q : Option Value → Hp → Prop) (l0 : Option Value) (x : Int32), Wp 157 49 (l0 :: some (.int x) :: ls) (st) h Q ↔ Wp 157 50 (l0 :: some (.int x) :: ls) (.int x :: st) h Q) ∧
  (∀ (ls : Lo) (st : List Value) (h : Hp) (Q : Option Value → Hp → Prop) (l0 l1 : Option Value) (x : Int32), Wp 157 50 (l0 :: l1 :: some (.int x) :: ls) (st) h Q ↔ Wp 157 51 (l0 :: l1 :: some (.int x) :: ls) (.int x :: st) h Q) ∧
  (∀ (ls : Lo) (st : List Value) (n sl : Nat) (C Z : Nat → Nat) (I : Nat → Nat → Int32) (L : Nat → Nat → Int64) (R : Nat → Nat → Nat) (Q : Option Value → Hp → Prop) (x0 : Int32) (x1 : Int32) (i : Nat), C i = 11 → (Wp 157 51 (ls) (.int x1 :: .int x0 :: .ref i :: st) (n, sl, C, Z, I, L, R) Q ↔ (wsum st ≤ 8 ∧ Call 156 [some (.ref i), some (.int x0), some (.int x1)] (n, sl, C, Z, I, L, R) 157 54 ls st Q))) ∧
  (∀ (ls : Lo) (st : List Value) (h : Hp) (Q : Option Value → Hp → Prop) (x y : Int32), Wp 157 54 (ls) (.int y :: .int x :: st) h Q ↔ Wp 157 55 (ls) (.int (x + y) :: st) h Q) ∧
  (∀ (ls : Lo) (h : Hp) (Q : Option Value → Hp → Prop) (x : Int32), Wp 157 55 (ls) ([.int x]) h Q ↔ Q (some (.int x)) h) := ⟨by intro ls st h Q i; exact e_aload_n d157_40 rfl,
  by intro ls st h Q l0 x; exact e_iload_n d157_41 rfl,
  by intro ls st h Q l0 l1 x; exact e_iload_n d157_42 rfl,
  by intro ls st n sl C Z I L R Q x0 x1 i hh; exact e_iv (k2 := 154) (c := 11) (as := [.int x0, .int x1]) d157_43 rfl (by decide) rfl rfl (by decide +kernel) (Nat.le_of_ble_eq_true rfl) rfl hh,
  by intro ls st h Q l0 l1 l2 l3 x; exact e_istore_n d157_46 rfl,
  by intro ls st h Q l0 l1 l2 x; exact e_iload_n d157_47 rfl,
  by intro ls st h Q i; exact e_aload_n d157_48 rfl,
  by intro ls st h Q l0 x; exact e_iload_n d157_49 rfl,
  by intro ls st h Q l0 l1 x; exact e_iload_n d157_50 rfl,
  by intro ls st n sl C Z I L R Q x0 x1 i hh; exact e_iv (k2 := 156) (c := 11) (as := [.int x0, .int x1]) d157_51 rfl (by decide) rfl rfl (by decide +kernel) (Nat.le_of_ble_eq_true rfl) rfl hh,
  by intro ls st h Q x y; exact e_iadd d157_54,
  by intros; exact e_rI (p := True) d157_55 rfl⟩
theorem d158_0 : decode (byt 158) 0 = .ok (.aload_n 0, 1) := by decide +kernel
theorem d158_1 : decode (byt 158) 1 = .ok (.iconst 0, 1) := by decide +kernel
theorem d158_2 : decode (byt 158) 2 = .ok (.putfield 210, 3) := by decide +kernel
theorem d158_5 : decode (byt 158) 5 = .ok (.aload_n 0, 1) := by decide +kernel
theorem d158_6 : decode (byt 158) 6 = .ok (.iload_n 1, 1) := by decide +kernel
theorem d158_7 : decode (byt 158) 7 = .ok (.invokevirtual 105, 3) := by decide +kernel
theorem d158_10 : decode (byt 158) 10 = .ok (.ifCond .eq 12, 3) := by decide +kernel
theorem d158_13 : decode (byt 158) 13 = .ok (.iload_n 2, 1) := by decide +kernel
theorem d158_14 : decode (byt 158) 14 = .ok (.ifCond .lt 8, 3) := by decide +kernel
theorem d158_17 : decode (byt 158) 17 = .ok (.iload_n 2, 1) := by decide +kernel
theorem d158_18 : decode (byt 158) 18 = .ok (.iconst 2, 1) := by decide +kernel
theorem d158_19 : decode (byt 158) 19 = .ok (.if_icmp .le 5, 3) := by decide +kernel
theorem d158_22 : decode (byt 158) 22 = .ok (.iconst 0, 1) := by decide +kernel
theorem d158_23 : decode (byt 158) 23 = .ok (.ireturn, 1) := by decide +kernel
theorem d158_24 : decode (byt 158) 24 = .ok (.iload_n 2, 1) := by decide +kernel
theorem d158_25 : decode (byt 158) 25 = .ok (.ifCond .ne 12, 3) := by decide +kernel
theorem d158_28 : decode (byt 158) 28 = .ok (.aload_n 0, 1) := by decide +kernel
theorem d158_29 : decode (byt 158) 29 = .ok (.iload_n 1, 1) := by decide +kernel
theorem d158_30 : decode (byt 158) 30 = .ok (.iload_n 3, 1) := by decide +kernel
theorem d158_31 : decode (byt 158) 31 = .ok (.invokevirtual 220, 3) := by decide +kernel
theorem d158_34 : decode (byt 158) 34 = .ok (.goto 23, 3) := by decide +kernel
theorem d158_37 : decode (byt 158) 37 = .ok (.iload_n 2, 1) := by decide +kernel
theorem d158_38 : decode (byt 158) 38 = .ok (.iconst 1, 1) := by decide +kernel
theorem d158_39 : decode (byt 158) 39 = .ok (.if_icmp .ne 12, 3) := by decide +kernel
theorem d158_42 : decode (byt 158) 42 = .ok (.aload_n 0, 1) := by decide +kernel
theorem d158_43 : decode (byt 158) 43 = .ok (.iload_n 1, 1) := by decide +kernel
theorem d158_44 : decode (byt 158) 44 = .ok (.iload_n 3, 1) := by decide +kernel
theorem d158_45 : decode (byt 158) 45 = .ok (.invokevirtual 226, 3) := by decide +kernel
theorem d158_48 : decode (byt 158) 48 = .ok (.goto 9, 3) := by decide +kernel
theorem d158_51 : decode (byt 158) 51 = .ok (.aload_n 0, 1) := by decide +kernel
theorem d158_52 : decode (byt 158) 52 = .ok (.iload_n 1, 1) := by decide +kernel
theorem d158_53 : decode (byt 158) 53 = .ok (.iload_n 3, 1) := by decide +kernel
theorem d158_54 : decode (byt 158) 54 = .ok (.invokevirtual 235, 3) := by decide +kernel
theorem d158_57 : decode (byt 158) 57 = .ok (.ireturn, 1) := by decide +kernel
set_option maxRecDepth 20000 in
theorem S158_0 : (∀ (ls : Lo) (st : List Value) (h : Hp) (Q : Option Value → Hp → Prop)  (i : Nat), Wp 158 0 (some (.ref i) :: ls) (st) h Q ↔ Wp 158 1 (some (.ref i) :: ls) (.ref i :: st) h Q) ∧
  (∀ (ls : Lo) (st : List Value) (h : Hp) (Q : Option Value → Hp → Prop), Wp 158 1 (ls) (st) h Q ↔ Wp 158 2 (ls) (.int (0) :: st) h Q) ∧
  (∀ (ls : Lo) (st : List Value) (n sl : Nat) (C Z : Nat → Nat) (I : Nat → Nat → Int32) (L : Nat → Nat → Int64) (R : Nat → Nat → Nat) (Q : Option Value → Hp → Prop) (i : Nat) (x : Int32), Wp 158 2 (ls) (.int x :: .ref i :: st) (n, sl, C, Z, I, L, R) Q ↔ (C i = 11 ∧ Wp 158 5 (ls) (st) (n, sl, C, Z, u2 I i 20 x, L, R) Q)) ∧
  (∀ (ls : Lo) (st : List Value) (h : Hp) (Q : Option Value → Hp → Prop)  (i : Nat), Wp 158 5 (some (.ref i) :: ls) (st) h Q ↔ Wp 158 6 (some (.ref i) :: ls) (.ref i :: st) h Q) ∧
  (∀ (ls : Lo) (st : List Value) (h : Hp) (Q : Option Value → Hp → Prop) (l0 : Option Value) (x : Int32), Wp 158 6 (l0 :: some (.int x) :: ls) (st) h Q ↔ Wp 158 7 (l0 :: some (.int x) :: ls) (.int x :: st) h Q) ∧
  (∀ (ls : Lo) (st : List Value) (n sl : Nat) (C Z : Nat → Nat) (I : Nat → Nat → Int32) (L : Nat → Nat → Int64) (R : Nat → Nat → Nat) (Q : Option Value → Hp → Prop) (x0 : Int32) (i : Nat), C i = 11 → (Wp 158 7 (ls) (.int x0 :: .ref i :: st) (n, sl, C, Z, I, L, R) Q ↔ (wsum st ≤ 8 ∧ Call 103 [some (.ref i), some (.int x0)] (n, sl, C, Z, I, L, R) 158 10 ls st Q))) ∧
  (∀ (ls : Lo) (st : List Value) (h : Hp) (Q : Option Value → Hp → Prop) (x : Int32), Wp 158 10 (ls) (.int x :: st) h Q ↔ Br 158 22 13 ls st h Q (x = 0)) ∧
  (∀ (ls : Lo) (st : List Value) (h : Hp) (Q : Option Value → Hp → Prop) (l0 l1 : Option Value) (x : Int32), Wp 158 13 (l0 :: l1 :: some (.int x) :: ls) (st) h Q ↔ Wp 158 14 (l0 :: l1 :: some (.int x) :: ls) (.int x :: st) h Q) ∧
  (∀ (ls : Lo) (st : List Value) (h : Hp) (Q : Option Value → Hp → Prop) (x : Int32), Wp 158 14 (ls) (.int x :: st) h Q ↔ Br 158 22 17 ls st h Q (x < 0)) ∧
  (∀ (ls : Lo) (st : List Value) (h : Hp) (Q : Option Value → Hp → Prop) (l0 l1 : Option Value) (x : Int32), Wp 158 17 (l0 :: l1 :: some (.int x) :: ls) (st) h Q ↔ Wp 158 18 (l0 :: l1 :: some (.int x) :: ls) (.int x :: st) h Q) ∧
  (∀ (ls : Lo) (st : List Value) (h : Hp) (Q : Option Value → Hp → Prop), Wp 158 18 (ls) (st) h Q ↔ Wp 158 19 (ls) (.int (2) :: st) h Q) ∧
  (∀ (ls : Lo) (st : List Value) (h : Hp) (Q : Option Value → Hp → Prop) (x y : Int32), Wp 158 19 (ls) (.int y :: .int x :: st) h Q ↔ Br 158 24 22 ls st h Q (x ≤ y)) ∧
  (∀ (ls : Lo) (st : List Value) (h : Hp) (Q : Option Value → Hp → Prop), Wp 158 22 (ls) (st) h Q ↔ Wp 158 23 (ls) (.int (0) :: st) h Q) ∧
  (∀ (ls : Lo) (h : Hp) (Q : Option Value → Hp → Prop) (x : Int32), Wp 158 23 (ls) ([.int x]) h Q ↔ Q (some (.int x)) h) ∧
  (∀ (ls : Lo) (st : List Value) (h : Hp) (Q : Option Value → Hp → Prop) (l0 l1 : Option Value) (x : Int32), Wp 158 24 (l0 :: l1 :: some (.int x) :: ls) (st) h Q ↔ Wp 158 25 (l0 :: l1 :: some (.int x) :: ls) (.int x :: st) h Q) ∧
  (∀ (ls : Lo) (st : List Value) (h : Hp) (Q : Option Value → Hp → Prop) (x : Int32), Wp 158 25 (ls) (.int x :: st) h Q ↔ Br 158 37 28 ls st h Q (¬ x = 0)) ∧
  (∀ (ls : Lo) (st : List Value) (h : Hp) (Q : Option Value → Hp → Prop)  (i : Nat), Wp 158 28 (some (.ref i) :: ls) (st) h Q ↔ Wp 158 29 (some (.ref i) :: ls) (.ref i :: st) h Q) ∧
  (∀ (ls : Lo) (st : List Value) (h : Hp) (Q : Option Value → Hp → Prop) (l0 : Option Value) (x : Int32), Wp 158 29 (l0 :: some (.int x) :: ls) (st) h Q ↔ Wp 158 30 (l0 :: some (.int x) :: ls) (.int x :: st) h Q) ∧
  (∀ (ls : Lo) (st : List Value) (h : Hp) (Q : Option Value → Hp → Prop) (l0 l1 l2 : Option Value) (x : Int32), Wp 158 30 (l0 :: l1 :: l2 :: some (.int x) :: ls) (st) h Q ↔ Wp 158 31 (l0 :: l1 :: l2 :: some (.int x) :: ls) (.int x :: st) h Q) ∧
  (∀ (ls : Lo) (st : List Value) (n sl : Nat) (C Z : Nat → Nat) (I : Nat → Nat → Int32) (L : Nat → Nat → Int64) (R : Nat → Nat → Nat) (Q : Option Value → Hp → Prop) (x0 : Int32) (x1 : Int32) (i : Nat), C i = 11 → (Wp 158 31 (ls) (.int x1 :: .int x0 :: .ref i :: st) (n, sl, C, Z, I, L, R) Q ↔ (wsum st ≤ 8 ∧ Call 152 [some (.ref i), some (.int x0), some (.int x1)] (n, sl, C, Z, I, L, R) 158 34 ls st Q))) ∧
  (∀ (ls : Lo) (st : List Value) (h : Hp) (Q : Option Value → Hp → Prop), Wp 158 34 (ls) (st) h Q ↔ Wp 158 57 (ls) (st) h Q) ∧
  (∀ (ls : Lo) (st : List Value) (h : Hp) (Q : Option Value → Hp → Prop) (l0 l1 : Option Value) (x : Int32), Wp 158 37 (l0 :: l1 :: some (.int x) :: ls) (st) h Q ↔ Wp 158 38 (l0 :: l1 :: some (.int x) :: ls) (.int x :: st) h Q) ∧
  (∀ (ls : Lo) (st : List Value) (h : Hp) (Q : Option Value → Hp → Prop), Wp 158 38 (ls) (st) h Q ↔ Wp 158 39 (ls) (.int (1) :: st) h Q) ∧
  (∀ (ls : Lo) (st : List Value) (h : Hp) (Q : Option Value → Hp → Prop) (x y : Int32), Wp 158 39 (ls) (.int y :: .int x :: st) h Q ↔ Br 158 51 42 ls st h Q (¬ x = y)) ∧
  (∀ (ls : Lo) (st : List Value) (h : Hp) (Q : Option Value → Hp → Prop)  (i : Nat), Wp 158 42 (some (.ref i) :: ls) (st) h Q ↔ Wp 158 43 (some (.ref i) :: ls) (.ref i :: st) h Q) := ⟨by intro ls st h Q i; exact e_aload_n d158_0 rfl,
  by intro ls st h Q; exact e_iconst d158_1 rfl,
  by intro ls st n sl C Z I L R Q i x; exact e_putI (g := 10) (s := 20) d158_2 rfl (Or.inl rfl) (inG_ne (by decide)),
  by intro ls st h Q i; exact e_aload_n d158_5 rfl,
  by intro ls st h Q l0 x; exact e_iload_n d158_6 rfl,
  by intro ls st n sl C Z I L R Q x0 i hh; exact e_iv (k2 := 103) (c := 11) (as := [.int x0]) d158_7 rfl (by decide) rfl rfl (by decide +kernel) (Nat.le_of_ble_eq_true rfl) rfl hh,
  by intro ls st h Q x; exact e_if d158_10 (by decide) c_eq,
  by intro ls st h Q l0 l1 x; exact e_iload_n d158_13 rfl,
  by intro ls st h Q x; exact e_if d158_14 (by decide) c_lt,
  by intro ls st h Q l0 l1 x; exact e_iload_n d158_17 rfl,
  by intro ls st h Q; exact e_iconst d158_18 rfl,
  by intro ls st h Q x y; exact e_ic d158_19 (by decide) c_le,
  by intro ls st h Q; exact e_iconst d158_22 rfl,
  by intros; exact e_rI (p := True) d158_23 rfl,
  by intro ls st h Q l0 l1 x; exact e_iload_n d158_24 rfl,
  by intro ls st h Q x; exact e_if d158_25 (by decide) c_ne,
  by intro ls st h Q i; exact e_aload_n d158_28 rfl,
  by intro ls st h Q l0 x; exact e_iload_n d158_29 rfl,
  by intro ls st h Q l0 l1 l2 x; exact e_iload_n d158_30 rfl,
  by intro ls st n sl C Z I L R Q x0 x1 i hh; exact e_iv (k2 := 152) (c := 11) (as := [.int x0, .int x1]) d158_31 rfl (by decide) rfl rfl (by decide +kernel) (Nat.le_of_ble_eq_true rfl) rfl hh,
  by intro ls st h Q; exact e_goto d158_34 (by decide),
  by intro ls st h Q l0 l1 x; exact e_iload_n d158_37 rfl,
  by intro ls st h Q; exact e_iconst d158_38 rfl,
  by intro ls st h Q x y; exact e_ic d158_39 (by decide) c_ne,
  by intro ls st h Q i; exact e_aload_n d158_42 rfl⟩
set_option maxRecDepth 20000 in
theorem S158_1 : (∀ (ls : Lo) (st : List Value) (h : Hp) (Q : Option Value → Hp → Prop) (l0 : Option Value) (x : Int32), Wp 158 43 (l0 :: some (.int x) :: ls) (st) h Q ↔ Wp 158 44 (l0 :: some (.int x) :: ls) (.int x :: st) h Q) ∧
  (∀ (ls : Lo) (st : List Value) (h : Hp) (Q : Option Value → Hp → Prop) (l0 l1 l2 : Option Value) (x : Int32), Wp 158 44 (l0 :: l1 :: l2 :: some (.int x) :: ls) (st) h Q ↔ Wp 158 45 (l0 :: l1 :: l2 :: some (.int x) :: ls) (.int x :: st) h Q) ∧
  (∀ (ls : Lo) (st : List Value) (n sl : Nat) (C Z : Nat → Nat) (I : Nat → Nat → Int32) (L : Nat → Nat → Int64) (R : Nat → Nat → Nat) (Q : Option Value → Hp → Prop) (x0 : Int32) (x1 : Int32) (i : Nat), C i = 11 → (Wp 158 45 (ls) (.int x1 :: .int x0 :: .ref i :: st) (n, sl, C, Z, I, L, R) Q ↔ (wsum st ≤ 8 ∧ Call 154 [some (.ref i), some (.int x0), some (.int x1)] (n, sl, C, Z, I, L, R) 158 48 ls st Q))) ∧
  (∀ (ls : Lo) (st : List Value) (h : Hp) (Q : Option Value → Hp → Prop), Wp 158 48 (ls) (st) h Q ↔ Wp 158 57 (ls) (st) h Q) ∧
  (∀ (ls : Lo) (st : List Value) (h : Hp) (Q : Option Value → Hp → Prop)  (i : Nat), Wp 158 51 (some (.ref i) :: ls) (st) h Q ↔ Wp 158 52 (some (.ref i) :: ls) (.ref i :: st) h Q) ∧
  (∀ (ls : Lo) (st : List Value) (h : Hp) (Q : Option Value → Hp → Prop) (l0 : Option Value) (x : Int32), Wp 158 52 (l0 :: some (.int x) :: ls) (st) h Q ↔ Wp 158 53 (l0 :: some (.int x) :: ls) (.int x :: st) h Q) ∧
  (∀ (ls : Lo) (st : List Value) (h : Hp) (Q : Option Value → Hp → Prop) (l0 l1 l2 : Option Value) (x : Int32), Wp 158 53 (l0 :: l1 :: l2 :: some (.int x) :: ls) (st) h Q ↔ Wp 158 54 (l0 :: l1 :: l2 :: some (.int x) :: ls) (.int x :: st) h Q) ∧
  (∀ (ls : Lo) (st : List Value) (n sl : Nat) (C Z : Nat → Nat) (I : Nat → Nat → Int32) (L : Nat → Nat → Int64) (R : Nat → Nat → Nat) (Q : Option Value → Hp → Prop) (x0 : Int32) (x1 : Int32) (i : Nat), C i = 11 → (Wp 158 54 (ls) (.int x1 :: .int x0 :: .ref i :: st) (n, sl, C, Z, I, L, R) Q ↔ (wsum st ≤ 8 ∧ Call 157 [some (.ref i), some (.int x0), some (.int x1), none] (n, sl, C, Z, I, L, R) 158 57 ls st Q))) ∧
  (∀ (ls : Lo) (h : Hp) (Q : Option Value → Hp → Prop) (x : Int32), Wp 158 57 (ls) ([.int x]) h Q ↔ Q (some (.int x)) h) := ⟨by intro ls st h Q l0 x; exact e_iload_n d158_43 rfl,
  by intro ls st h Q l0 l1 l2 x; exact e_iload_n d158_44 rfl,
  by intro ls st n sl C Z I L R Q x0 x1 i hh; exact e_iv (k2 := 154) (c := 11) (as := [.int x0, .int x1]) d158_45 rfl (by decide) rfl rfl (by decide +kernel) (Nat.le_of_ble_eq_true rfl) rfl hh,
  by intro ls st h Q; exact e_goto d158_48 (by decide),
  by intro ls st h Q i; exact e_aload_n d158_51 rfl,
  by intro ls st h Q l0 x; exact e_iload_n d158_52 rfl,
  by intro ls st h Q l0 l1 l2 x; exact e_iload_n d158_53 rfl,
  by intro ls st n sl C Z I L R Q x0 x1 i hh; exact e_iv (k2 := 157) (c := 11) (as := [.int x0, .int x1]) d158_54 rfl (by decide) rfl rfl (by decide +kernel) (Nat.le_of_ble_eq_true rfl) rfl hh,
  by intros; exact e_rI (p := True) d158_57 rfl⟩
theorem d159_0 : decode (byt 159) 0 = .ok (.iload_n 1, 1) := by decide +kernel
theorem d159_1 : decode (byt 159) 1 = .ok (.ifCond .lt 26, 3) := by decide +kernel
theorem d159_4 : decode (byt 159) 4 = .ok (.iload_n 1, 1) := by decide +kernel
theorem d159_5 : decode (byt 159) 5 = .ok (.aload_n 0, 1) := by decide +kernel
theorem d159_6 : decode (byt 159) 6 = .ok (.getfield 210, 3) := by decide +kernel
theorem d159_9 : decode (byt 159) 9 = .ok (.if_icmp .ge 18, 3) := by decide +kernel
theorem d159_12 : decode (byt 159) 12 = .ok (.iload_n 1, 1) := by decide +kernel
theorem d159_13 : decode (byt 159) 13 = .ok (.bipush 40, 2) := by decide +kernel
theorem d159_15 : decode (byt 159) 15 = .ok (.if_icmp .ge 12, 3) := by decide +kernel
theorem d159_18 : decode (byt 159) 18 = .ok (.aload_n 0, 1) := by decide +kernel
theorem d159_19 : decode (byt 159) 19 = .ok (.getfield 59, 3) := by decide +kernel
theorem d159_22 : decode (byt 159) 22 = .ok (.iload_n 1, 1) := by decide +kernel
theorem d159_23 : decode (byt 159) 23 = .ok (.iaload, 1) := by decide +kernel
theorem d159_24 : decode (byt 159) 24 = .ok (.goto 4, 3) := by decide +kernel
theorem d159_27 : decode (byt 159) 27 = .ok (.iconst (-1), 1) := by decide +kernel
theorem d159_28 : decode (byt 159) 28 = .ok (.ireturn, 1) := by decide +kernel
set_option maxRecDepth 20000 in
theorem S159_0 : (∀ (ls : Lo) (st : List Value) (h : Hp) (Q : Option Value → Hp → Prop) (l0 : Option Value) (x : Int32), Wp 159 0 (l0 :: some (.int x) :: ls) (st) h Q ↔ Wp 159 1 (l0 :: some (.int x) :: ls) (.int x :: st) h Q) ∧
  (∀ (ls : Lo) (st : List Value) (h : Hp) (Q : Option Value → Hp → Prop) (x : Int32), Wp 159 1 (ls) (.int x :: st) h Q ↔ Br 159 27 4 ls st h Q (x < 0)) ∧
  (∀ (ls : Lo) (st : List Value) (h : Hp) (Q : Option Value → Hp → Prop) (l0 : Option Value) (x : Int32), Wp 159 4 (l0 :: some (.int x) :: ls) (st) h Q ↔ Wp 159 5 (l0 :: some (.int x) :: ls) (.int x :: st) h Q) ∧
  (∀ (ls : Lo) (st : List Value) (h : Hp) (Q : Option Value → Hp → Prop)  (i : Nat), Wp 159 5 (some (.ref i) :: ls) (st) h Q ↔ Wp 159 6 (some (.ref i) :: ls) (.ref i :: st) h Q) ∧
  (∀ (ls : Lo) (st : List Value) (n sl : Nat) (C Z : Nat → Nat) (I : Nat → Nat → Int32) (L : Nat → Nat → Int64) (R : Nat → Nat → Nat) (Q : Option Value → Hp → Prop) (i : Nat), Wp 159 6 (ls) (.ref i :: st) (n, sl, C, Z, I, L, R) Q ↔ (C i = 11 ∧ Wp 159 9 (ls) (.int (I i 20) :: st) (n, sl, C, Z, I, L, R) Q)) ∧
  (∀ (ls : Lo) (st : List Value) (h : Hp) (Q : Option Value → Hp → Prop) (x y : Int32), Wp 159 9 (ls) (.int y :: .int x :: st) h Q ↔ Br 159 27 12 ls st h Q (y ≤ x)) ∧
  (∀ (ls : Lo) (st : List Value) (h : Hp) (Q : Option Value → Hp → Prop) (l0 : Option Value) (x : Int32), Wp 159 12 (l0 :: some (.int x) :: ls) (st) h Q ↔ Wp 159 13 (l0 :: some (.int x) :: ls) (.int x :: st) h Q) ∧
  (∀ (ls : Lo) (st : List Value) (h : Hp) (Q : Option Value → Hp → Prop), Wp 159 13 (ls) (st) h Q ↔ Wp 159 15 (ls) (.int (40) :: st) h Q) ∧
  (∀ (ls : Lo) (st : List Value) (h : Hp) (Q : Option Value → Hp → Prop) (x y : Int32), Wp 159 15 (ls) (.int y :: .int x :: st) h Q ↔ Br 159 27 18 ls st h Q (y ≤ x)) ∧
  (∀ (ls : Lo) (st : List Value) (h : Hp) (Q : Option Value → Hp → Prop)  (i : Nat), Wp 159 18 (some (.ref i) :: ls) (st) h Q ↔ Wp 159 19 (some (.ref i) :: ls) (.ref i :: st) h Q) ∧
  (∀ (ls : Lo) (st : List Value) (n sl : Nat) (C Z : Nat → Nat) (I : Nat → Nat → Int32) (L : Nat → Nat → Int64) (R : Nat → Nat → Nat) (Q : Option Value → Hp → Prop) (i : Nat), Wp 159 19 (ls) (.ref i :: st) (n, sl, C, Z, I, L, R) Q ↔ (C i = 11 ∧ Wp 159 22 (ls) (.ref (R i 19) :: st) (n, sl, C, Z, I, L, R) Q)) ∧
  (∀ (ls : Lo) (st : List Value) (h : Hp) (Q : Option Value → Hp → Prop) (l0 : Option Value) (x : Int32), Wp 159 22 (l0 :: some (.int x) :: ls) (st) h Q ↔ Wp 159 23 (l0 :: some (.int x) :: ls) (.int x :: st) h Q) ∧
  (∀ (ls : Lo) (st : List Value) (n sl : Nat) (C Z : Nat → Nat) (I : Nat → Nat → Int32) (L : Nat → Nat → Int64) (R : Nat → Nat → Nat) (Q : Option Value → Hp → Prop) (i : Nat) (y : Int32), Wp 159 23 (ls) (.int y :: .ref i :: st) (n, sl, C, Z, I, L, R) Q ↔ ((inb y (Z i) = true ∧ C i = 21) ∧ Wp 159 24 (ls) (.int (I i (ix y)) :: st) (n, sl, C, Z, I, L, R) Q)) ∧
  (∀ (ls : Lo) (st : List Value) (h : Hp) (Q : Option Value → Hp → Prop), Wp 159 24 (ls) (st) h Q ↔ Wp 159 28 (ls) (st) h Q) ∧
  (∀ (ls : Lo) (st : List Value) (h : Hp) (Q : Option Value → Hp → Prop), Wp 159 27 (ls) (st) h Q ↔ Wp 159 28 (ls) (.int (-1) :: st) h Q) ∧
  (∀ (ls : Lo) (h : Hp) (Q : Option Value → Hp → Prop) (x : Int32), Wp 159 28 (ls) ([.int x]) h Q ↔ Q (some (.int x)) h) := ⟨by intro ls st h Q l0 x; exact e_iload_n d159_0 rfl,
  by intro ls st h Q x; exact e_if d159_1 (by decide) c_lt,
  by intro ls st h Q l0 x; exact e_iload_n d159_4 rfl,
  by intro ls st h Q i; exact e_aload_n d159_5 rfl,
  by intro ls st n sl C Z I L R Q i; exact e_get (g := 10) (s := 20) (ty := 0) d159_6 rfl rfl (inG_ne (by decide)),
  by intro ls st h Q x y; exact e_ic d159_9 (by decide) c_ge,
  by intro ls st h Q l0 x; exact e_iload_n d159_12 rfl,
  by intro ls st h Q; exact e_bipush d159_13 rfl,
  by intro ls st h Q x y; exact e_ic d159_15 (by decide) c_ge,
  by intro ls st h Q i; exact e_aload_n d159_18 rfl,
  by intro ls st n sl C Z I L R Q i; exact e_get (g := 10) (s := 19) (ty := 2) d159_19 rfl rfl (inG_ne (by decide)),
  by intro ls st h Q l0 x; exact e_iload_n d159_22 rfl,
  by intro ls st n sl C Z I L R Q i y; exact e_iald d159_23,
  by intro ls st h Q; exact e_goto d159_24 (by decide),
  by intro ls st h Q; exact e_iconst d159_27 rfl,
  by intros; exact e_rI (p := True) d159_28 rfl⟩
theorem d160_0 : decode (byt 160) 0 = .ok (.iload_n 1, 1) := by decide +kernel
theorem d160_1 : decode (byt 160) 1 = .ok (.ifCond .ne 10, 3) := by decide +kernel
theorem d160_4 : decode (byt 160) 4 = .ok (.aload_n 0, 1) := by decide +kernel
theorem d160_5 : decode (byt 160) 5 = .ok (.getfield 83, 3) := by decide +kernel
theorem d160_8 : decode (byt 160) 8 = .ok (.goto 29, 3) := by decide +kernel
theorem d160_11 : decode (byt 160) 11 = .ok (.iload_n 1, 1) := by decide +kernel
theorem d160_12 : decode (byt 160) 12 = .ok (.iconst 1, 1) := by decide +kernel
theorem d160_13 : decode (byt 160) 13 = .ok (.if_icmp .ne 10, 3) := by decide +kernel
theorem d160_16 : decode (byt 160) 16 = .ok (.aload_n 0, 1) := by decide +kernel
theorem d160_17 : decode (byt 160) 17 = .ok (.getfield 203, 3) := by decide +kernel
theorem d160_20 : decode (byt 160) 20 = .ok (.goto 17, 3) := by decide +kernel
theorem d160_23 : decode (byt 160) 23 = .ok (.iload_n 1, 1) := by decide +kernel
theorem d160_24 : decode (byt 160) 24 = .ok (.iconst 2, 1) := by decide +kernel
theorem d160_25 : decode (byt 160) 25 = .ok (.if_icmp .ne 10, 3) := by decide +kernel
theorem d160_28 : decode (byt 160) 28 = .ok (.aload_n 0, 1) := by decide +kernel
theorem d160_29 : decode (byt 160) 29 = .ok (.getfield 210, 3) := by decide +kernel
theorem d160_32 : decode (byt 160) 32 = .ok (.goto 5, 3) := by decide +kernel
theorem d160_35 : decode (byt 160) 35 = .ok (.bipush (-2), 2) := by decide +kernel
theorem d160_37 : decode (byt 160) 37 = .ok (.ireturn, 1) := by decide +kernel
set_option maxRecDepth 20000 in
theorem S160_0 : (∀ (ls : Lo) (st : List Value) (h : Hp) (Q : Option Value → Hp → Prop) (l0 : Option Value) (x : Int32), Wp 160 0 (l0 :: some (.int x) :: ls) (st) h Q ↔ Wp 160 1 (l0 :: some (.int x) :: ls) (.int x :: st) h Q) ∧
  (∀ (ls : Lo) (st : List Value) (h : Hp) (Q : Option Value → Hp → Prop) (x : Int32), Wp 160 1 (ls) (.int x :: st) h Q ↔ Br 160 11 4 ls st h Q (¬ x = 0)) ∧
  (∀ (ls : Lo) (st : List Value) (h : Hp) (Q : Option Value → Hp → Prop)  (i : Nat), Wp 160 4 (some (.ref i) :: ls) (st) h Q ↔ Wp 160 5 (some (.ref i) :: ls) (.ref i :: st) h Q) ∧
  (∀ (ls : Lo) (st : List Value) (n sl : Nat) (C Z : Nat → Nat) (I : Nat → Nat → Int32) (L : Nat → Nat → Int64) (R : Nat → Nat → Nat) (Q : Option Value → Hp → Prop) (i : Nat), Wp 160 5 (ls) (.ref i :: st) (n, sl, C, Z, I, L, R) Q ↔ (C i = 11 ∧ Wp 160 8 (ls) (.int (I i 0) :: st) (n, sl, C, Z, I, L, R) Q)) ∧
  (∀ (ls : Lo) (st : List Value) (h : Hp) (Q : Option Value → Hp → Prop), Wp 160 8 (ls) (st) h Q ↔ Wp 160 37 (ls) (st) h Q) ∧
  (∀ (ls : Lo) (st : List Value) (h : Hp) (Q : Option Value → Hp → Prop) (l0 : Option Value) (x : Int32), Wp 160 11 (l0 :: some (.int x) :: ls) (st) h Q ↔ Wp 160 12 (l0 :: some (.int x) :: ls) (.int x :: st) h Q) ∧
  (∀ (ls : Lo) (st : List Value) (h : Hp) (Q : Option Value → Hp → Prop), Wp 160 12 (ls) (st) h Q ↔ Wp 160 13 (ls) (.int (1) :: st) h Q) ∧
  (∀ (ls : Lo) (st : List Value) (h : Hp) (Q : Option Value → Hp → Prop) (x y : Int32), Wp 160 13 (ls) (.int y :: .int x :: st) h Q ↔ Br 160 23 16 ls st h Q (¬ x = y)) ∧
  (∀ (ls : Lo) (st : List Value) (h : Hp) (Q : Option Value → Hp → Prop)  (i : Nat), Wp 160 16 (some (.ref i) :: ls) (st) h Q ↔ Wp 160 17 (some (.ref i) :: ls) (.ref i :: st) h Q) ∧
  (∀ (ls : Lo) (st : List Value) (n sl : Nat) (C Z : Nat → Nat) (I : Nat → Nat → Int32) (L : Nat → Nat → Int64) (R : Nat → Nat → Nat) (Q : Option Value → Hp → Prop) (i : Nat), Wp 160 17 (ls) (.ref i :: st) (n, sl, C, Z, I, L, R) Q ↔ (C i = 11 ∧ Wp 160 20 (ls) (.int (I i 13) :: st) (n, sl, C, Z, I, L, R) Q)) ∧
  (∀ (ls : Lo) (st : List Value) (h : Hp) (Q : Option Value → Hp → Prop), Wp 160 20 (ls) (st) h Q ↔ Wp 160 37 (ls) (st) h Q) ∧
  (∀ (ls : Lo) (st : List Value) (h : Hp) (Q : Option Value → Hp → Prop) (l0 : Option Value) (x : Int32), Wp 160 23 (l0 :: some (.int x) :: ls) (st) h Q ↔ Wp 160 24 (l0 :: some (.int x) :: ls) (.int x :: st) h Q) ∧
  (∀ (ls : Lo) (st : List Value) (h : Hp) (Q : Option Value → Hp → Prop), Wp 160 24 (ls) (st) h Q ↔ Wp 160 25 (ls) (.int (2) :: st) h Q) ∧
  (∀ (ls : Lo) (st : List Value) (h : Hp) (Q : Option Value → Hp → Prop) (x y : Int32), Wp 160 25 (ls) (.int y :: .int x :: st) h Q ↔ Br 160 35 28 ls st h Q (¬ x = y)) ∧
  (∀ (ls : Lo) (st : List Value) (h : Hp) (Q : Option Value → Hp → Prop)  (i : Nat), Wp 160 28 (some (.ref i) :: ls) (st) h Q ↔ Wp 160 29 (some (.ref i) :: ls) (.ref i :: st) h Q) ∧
  (∀ (ls : Lo) (st : List Value) (n sl : Nat) (C Z : Nat → Nat) (I : Nat → Nat → Int32) (L : Nat → Nat → Int64) (R : Nat → Nat → Nat) (Q : Option Value → Hp → Prop) (i : Nat), Wp 160 29 (ls) (.ref i :: st) (n, sl, C, Z, I, L, R) Q ↔ (C i = 11 ∧ Wp 160 32 (ls) (.int (I i 20) :: st) (n, sl, C, Z, I, L, R) Q)) ∧
  (∀ (ls : Lo) (st : List Value) (h : Hp) (Q : Option Value → Hp → Prop), Wp 160 32 (ls) (st) h Q ↔ Wp 160 37 (ls) (st) h Q) ∧
  (∀ (ls : Lo) (st : List Value) (h : Hp) (Q : Option Value → Hp → Prop), Wp 160 35 (ls) (st) h Q ↔ Wp 160 37 (ls) (.int (-2) :: st) h Q) ∧
  (∀ (ls : Lo) (h : Hp) (Q : Option Value → Hp → Prop) (x : Int32), Wp 160 37 (ls) ([.int x]) h Q ↔ Q (some (.int x)) h) := ⟨by intro ls st h Q l0 x; exact e_iload_n d160_0 rfl,
  by intro ls st h Q x; exact e_if d160_1 (by decide) c_ne,
  by intro ls st h Q i; exact e_aload_n d160_4 rfl,
  by intro ls st n sl C Z I L R Q i; exact e_get (g := 10) (s := 0) (ty := 0) d160_5 rfl rfl (inG_ne (by decide)),
  by intro ls st h Q; exact e_goto d160_8 (by decide),
  by intro ls st h Q l0 x; exact e_iload_n d160_11 rfl,
  by intro ls st h Q; exact e_iconst d160_12 rfl,
  by intro ls st h Q x y; exact e_ic d160_13 (by decide) c_ne,
  by intro ls st h Q i; exact e_aload_n d160_16 rfl,
  by intro ls st n sl C Z I L R Q i; exact e_get (g := 10) (s := 13) (ty := 0) d160_17 rfl rfl (inG_ne (by decide)),
  by intro ls st h Q; exact e_goto d160_20 (by decide),
  by intro ls st h Q l0 x; exact e_iload_n d160_23 rfl,
  by intro ls st h Q; exact e_iconst d160_24 rfl,
  by intro ls st h Q x y; exact e_ic d160_25 (by decide) c_ne,
  by intro ls st h Q i; exact e_aload_n d160_28 rfl,
  by intro ls st n sl C Z I L R Q i; exact e_get (g := 10) (s := 20) (ty := 0) d160_29 rfl rfl (inG_ne (by decide)),
  by intro ls st h Q; exact e_goto d160_32 (by decide),
  by intro ls st h Q; exact e_bipush d160_35 rfl,
  by intros; exact e_rI (p := True) d160_37 rfl⟩
theorem d161_0 : decode (byt 161) 0 = .ok (.iload_n 0, 1) := by decide +kernel
theorem d161_1 : decode (byt 161) 1 = .ok (.ifCond .lt 12, 3) := by decide +kernel
theorem d161_4 : decode (byt 161) 4 = .ok (.iload_n 0, 1) := by decide +kernel
theorem d161_5 : decode (byt 161) 5 = .ok (.iconst 4, 1) := by decide +kernel
theorem d161_6 : decode (byt 161) 6 = .ok (.if_icmp .ge 7, 3) := by decide +kernel
theorem d161_9 : decode (byt 161) 9 = .ok (.iconst 1, 1) := by decide +kernel
theorem d161_10 : decode (byt 161) 10 = .ok (.goto 4, 3) := by decide +kernel
theorem d161_13 : decode (byt 161) 13 = .ok (.iconst 0, 1) := by decide +kernel
theorem d161_14 : decode (byt 161) 14 = .ok (.ireturn, 1) := by decide +kernel
set_option maxRecDepth 20000 in
theorem S161_0 : (∀ (ls : Lo) (st : List Value) (h : Hp) (Q : Option Value → Hp → Prop)  (x : Int32), Wp 161 0 (some (.int x) :: ls) (st) h Q ↔ Wp 161 1 (some (.int x) :: ls) (.int x :: st) h Q) ∧
  (∀ (ls : Lo) (st : List Value) (h : Hp) (Q : Option Value → Hp → Prop) (x : Int32), Wp 161 1 (ls) (.int x :: st) h Q ↔ Br 161 13 4 ls st h Q (x < 0)) ∧
  (∀ (ls : Lo) (st : List Value) (h : Hp) (Q : Option Value → Hp → Prop)  (x : Int32), Wp 161 4 (some (.int x) :: ls) (st) h Q ↔ Wp 161 5 (some (.int x) :: ls) (.int x :: st) h Q) ∧
  (∀ (ls : Lo) (st : List Value) (h : Hp) (Q : Option Value → Hp → Prop), Wp 161 5 (ls) (st) h Q ↔ Wp 161 6 (ls) (.int (4) :: st) h Q) ∧
  (∀ (ls : Lo) (st : List Value) (h : Hp) (Q : Option Value → Hp → Prop) (x y : Int32), Wp 161 6 (ls) (.int y :: .int x :: st) h Q ↔ Br 161 13 9 ls st h Q (y ≤ x)) ∧
  (∀ (ls : Lo) (st : List Value) (h : Hp) (Q : Option Value → Hp → Prop), Wp 161 9 (ls) (st) h Q ↔ Wp 161 10 (ls) (.int (1) :: st) h Q) ∧
  (∀ (ls : Lo) (st : List Value) (h : Hp) (Q : Option Value → Hp → Prop), Wp 161 10 (ls) (st) h Q ↔ Wp 161 14 (ls) (st) h Q) ∧
  (∀ (ls : Lo) (st : List Value) (h : Hp) (Q : Option Value → Hp → Prop), Wp 161 13 (ls) (st) h Q ↔ Wp 161 14 (ls) (.int (0) :: st) h Q) ∧
  (∀ (ls : Lo) (h : Hp) (Q : Option Value → Hp → Prop) (x : Int32), Wp 161 14 (ls) ([.int x]) h Q ↔ ((x = 0 ∨ x = 1) ∧ Q (some (.int x)) h)) := ⟨by intro ls st h Q x; exact e_iload_n d161_0 rfl,
  by intro ls st h Q x; exact e_if d161_1 (by decide) c_lt,
  by intro ls st h Q x; exact e_iload_n d161_4 rfl,
  by intro ls st h Q; exact e_iconst d161_5 rfl,
  by intro ls st h Q x y; exact e_ic d161_6 (by decide) c_ge,
  by intro ls st h Q; exact e_iconst d161_9 rfl,
  by intro ls st h Q; exact e_goto d161_10 (by decide),
  by intro ls st h Q; exact e_iconst d161_13 rfl,
  by intros; exact e_rZ d161_14 rfl⟩
theorem d162_0 : decode (byt 162) 0 = .ok (.iload_n 1, 1) := by decide +kernel
theorem d162_1 : decode (byt 162) 1 = .ok (.invokestatic 238, 3) := by decide +kernel
theorem d162_4 : decode (byt 162) 4 = .ok (.ifCond .eq 23, 3) := by decide +kernel
theorem d162_7 : decode (byt 162) 7 = .ok (.iload_n 2, 1) := by decide +kernel
theorem d162_8 : decode (byt 162) 8 = .ok (.iconst (-1), 1) := by decide +kernel
theorem d162_9 : decode (byt 162) 9 = .ok (.if_icmp .lt 18, 3) := by decide +kernel
theorem d162_12 : decode (byt 162) 12 = .ok (.iload_n 2, 1) := by decide +kernel
theorem d162_13 : decode (byt 162) 13 = .ok (.iconst 2, 1) := by decide +kernel
theorem d162_14 : decode (byt 162) 14 = .ok (.if_icmp .gt 13, 3) := by decide +kernel
theorem d162_17 : decode (byt 162) 17 = .ok (.iload_n 2, 1) := by decide +kernel
theorem d162_18 : decode (byt 162) 18 = .ok (.ifCond .lt 12, 3) := by decide +kernel
theorem d162_21 : decode (byt 162) 21 = .ok (.iload_n 3, 1) := by decide +kernel
theorem d162_22 : decode (byt 162) 22 = .ok (.bipush 40, 2) := by decide +kernel
theorem d162_24 : decode (byt 162) 24 = .ok (.if_icmp .le 6, 3) := by decide +kernel
theorem d162_27 : decode (byt 162) 27 = .ok (.bipush (-2), 2) := by decide +kernel
theorem d162_29 : decode (byt 162) 29 = .ok (.ireturn, 1) := by decide +kernel
theorem d162_30 : decode (byt 162) 30 = .ok (.iload_n 2, 1) := by decide +kernel
theorem d162_31 : decode (byt 162) 31 = .ok (.ifCond .lt 10, 3) := by decide +kernel
theorem d162_34 : decode (byt 162) 34 = .ok (.iload_n 3, 1) := by decide +kernel
theorem d162_35 : decode (byt 162) 35 = .ok (.ifCond .ge 6, 3) := by decide +kernel
theorem d162_38 : decode (byt 162) 38 = .ok (.bipush (-14), 2) := by decide +kernel
theorem d162_40 : decode (byt 162) 40 = .ok (.ireturn, 1) := by decide +kernel
theorem d162_41 : decode (byt 162) 41 = .ok (.aload_n 0, 1) := by decide +kernel
theorem d162_42 : decode (byt 162) 42 = .ok (.getfield 47, 3) := by decide +kernel
theorem d162_45 : decode (byt 162) 45 = .ok (.iload_n 1, 1) := by decide +kernel
theorem d162_46 : decode (byt 162) 46 = .ok (.iload_n 2, 1) := by decide +kernel
theorem d162_47 : decode (byt 162) 47 = .ok (.iastore, 1) := by decide +kernel
theorem d162_48 : decode (byt 162) 48 = .ok (.aload_n 0, 1) := by decide +kernel
theorem d162_49 : decode (byt 162) 49 = .ok (.getfield 50, 3) := by decide +kernel
theorem d162_52 : decode (byt 162) 52 = .ok (.iload_n 1, 1) := by decide +kernel
theorem d162_53 : decode (byt 162) 53 = .ok (.iload_n 2, 1) := by decide +kernel
theorem d162_54 : decode (byt 162) 54 = .ok (.ifCond .ge 7, 3) := by decide +kernel
theorem d162_57 : decode (byt 162) 57 = .ok (.iconst 0, 1) := by decide +kernel
theorem d162_58 : decode (byt 162) 58 = .ok (.goto 4, 3) := by decide +kernel
theorem d162_61 : decode (byt 162) 61 = .ok (.iload_n 3, 1) := by decide +kernel
theorem d162_62 : decode (byt 162) 62 = .ok (.iastore, 1) := by decide +kernel
theorem d162_63 : decode (byt 162) 63 = .ok (.iconst 0, 1) := by decide +kernel
theorem d162_64 : decode (byt 162) 64 = .ok (.istore 4, 2) := by decide +kernel
theorem d162_66 : decode (byt 162) 66 = .ok (.iload 4, 2) := by decide +kernel
theorem d162_68 : decode (byt 162) 68 = .ok (.bipush 40, 2) := by decide +kernel
theorem d162_70 : decode (byt 162) 70 = .ok (.if_icmp .ge 22, 3) := by decide +kernel
theorem d162_73 : decode (byt 162) 73 = .ok (.aload_n 0, 1) := by decide +kernel
theorem d162_74 : decode (byt 162) 74 = .ok (.getfield 53, 3) := by decide +kernel
theorem d162_77 : decode (byt 162) 77 = .ok (.bipush 40, 2) := by decide +kernel
theorem d162_79 : decode (byt 162) 79 = .ok (.iload_n 1, 1) := by decide +kernel
theorem d162_80 : decode (byt 162) 80 = .ok (.imul, 1) := by decide +kernel
theorem d162_81 : decode (byt 162) 81 = .ok (.iload 4, 2) := by decide +kernel
theorem d162_83 : decode (byt 162) 83 = .ok (.iadd, 1) := by decide +kernel
theorem d162_84 : decode (byt 162) 84 = .ok (.lconst 0, 1) := by decide +kernel
theorem d162_85 : decode (byt 162) 85 = .ok (.lastore, 1) := by decide +kernel
theorem d162_86 : decode (byt 162) 86 = .ok (.iinc 4 1, 3) := by decide +kernel
theorem d162_89 : decode (byt 162) 89 = .ok (.goto (-23), 3) := by decide +kernel
theorem d162_92 : decode (byt 162) 92 = .ok (.iconst 1, 1) := by decide +kernel
theorem d162_93 : decode (byt 162) 93 = .ok (.ireturn, 1) := by decide +kernel
set_option maxRecDepth 20000 in
theorem S162_0 : (∀ (ls : Lo) (st : List Value) (h : Hp) (Q : Option Value → Hp → Prop) (l0 : Option Value) (x : Int32), Wp 162 0 (l0 :: some (.int x) :: ls) (st) h Q ↔ Wp 162 1 (l0 :: some (.int x) :: ls) (.int x :: st) h Q) ∧
  (∀ (ls : Lo) (st : List Value) (h : Hp) (Q : Option Value → Hp → Prop) (x0 : Int32), Wp 162 1 (ls) (.int x0 :: st) h Q ↔ (wsum st ≤ 8 ∧ Call 161 [some (.int x0)] h 162 4 ls st Q)) ∧
  (∀ (ls : Lo) (st : List Value) (h : Hp) (Q : Option Value → Hp → Prop) (x : Int32), Wp 162 4 (ls) (.int x :: st) h Q ↔ Br 162 27 7 ls st h Q (x = 0)) ∧
  (∀ (ls : Lo) (st : List Value) (h : Hp) (Q : Option Value → Hp → Prop) (l0 l1 : Option Value) (x : Int32), Wp 162 7 (l0 :: l1 :: some (.int x) :: ls) (st) h Q ↔ Wp 162 8 (l0 :: l1 :: some (.int x) :: ls) (.int x :: st) h Q) ∧
  (∀ (ls : Lo) (st : List Value) (h : Hp) (Q : Option Value → Hp → Prop), Wp 162 8 (ls) (st) h Q ↔ Wp 162 9 (ls) (.int (-1) :: st) h Q) ∧
  (∀ (ls : Lo) (st : List Value) (h : Hp) (Q : Option Value → Hp → Prop) (x y : Int32), Wp 162 9 (ls) (.int y :: .int x :: st) h Q ↔ Br 162 27 12 ls st h Q (x < y)) ∧
  (∀ (ls : Lo) (st : List Value) (h : Hp) (Q : Option Value → Hp → Prop) (l0 l1 : Option Value) (x : Int32), Wp 162 12 (l0 :: l1 :: some (.int x) :: ls) (st) h Q ↔ Wp 162 13 (l0 :: l1 :: some (.int x) :: ls) (.int x :: st) h Q) ∧
  (∀ (ls : Lo) (st : List Value) (h : Hp) (Q : Option Value → Hp → Prop), Wp 162 13 (ls) (st) h Q ↔ Wp 162 14 (ls) (.int (2) :: st) h Q) ∧
  (∀ (ls : Lo) (st : List Value) (h : Hp) (Q : Option Value → Hp → Prop) (x y : Int32), Wp 162 14 (ls) (.int y :: .int x :: st) h Q ↔ Br 162 27 17 ls st h Q (y < x)) ∧
  (∀ (ls : Lo) (st : List Value) (h : Hp) (Q : Option Value → Hp → Prop) (l0 l1 : Option Value) (x : Int32), Wp 162 17 (l0 :: l1 :: some (.int x) :: ls) (st) h Q ↔ Wp 162 18 (l0 :: l1 :: some (.int x) :: ls) (.int x :: st) h Q) ∧
  (∀ (ls : Lo) (st : List Value) (h : Hp) (Q : Option Value → Hp → Prop) (x : Int32), Wp 162 18 (ls) (.int x :: st) h Q ↔ Br 162 30 21 ls st h Q (x < 0)) ∧
  (∀ (ls : Lo) (st : List Value) (h : Hp) (Q : Option Value → Hp → Prop) (l0 l1 l2 : Option Value) (x : Int32), Wp 162 21 (l0 :: l1 :: l2 :: some (.int x) :: ls) (st) h Q ↔ Wp 162 22 (l0 :: l1 :: l2 :: some (.int x) :: ls) (.int x :: st) h Q) ∧
  (∀ (ls : Lo) (st : List Value) (h : Hp) (Q : Option Value → Hp → Prop), Wp 162 22 (ls) (st) h Q ↔ Wp 162 24 (ls) (.int (40) :: st) h Q) ∧
  (∀ (ls : Lo) (st : List Value) (h : Hp) (Q : Option Value → Hp → Prop) (x y : Int32), Wp 162 24 (ls) (.int y :: .int x :: st) h Q ↔ Br 162 30 27 ls st h Q (x ≤ y)) ∧
  (∀ (ls : Lo) (st : List Value) (h : Hp) (Q : Option Value → Hp → Prop), Wp 162 27 (ls) (st) h Q ↔ Wp 162 29 (ls) (.int (-2) :: st) h Q) ∧
  (∀ (ls : Lo) (h : Hp) (Q : Option Value → Hp → Prop) (x : Int32), Wp 162 29 (ls) ([.int x]) h Q ↔ Q (some (.int x)) h) ∧
  (∀ (ls : Lo) (st : List Value) (h : Hp) (Q : Option Value → Hp → Prop) (l0 l1 : Option Value) (x : Int32), Wp 162 30 (l0 :: l1 :: some (.int x) :: ls) (st) h Q ↔ Wp 162 31 (l0 :: l1 :: some (.int x) :: ls) (.int x :: st) h Q) ∧
  (∀ (ls : Lo) (st : List Value) (h : Hp) (Q : Option Value → Hp → Prop) (x : Int32), Wp 162 31 (ls) (.int x :: st) h Q ↔ Br 162 41 34 ls st h Q (x < 0)) ∧
  (∀ (ls : Lo) (st : List Value) (h : Hp) (Q : Option Value → Hp → Prop) (l0 l1 l2 : Option Value) (x : Int32), Wp 162 34 (l0 :: l1 :: l2 :: some (.int x) :: ls) (st) h Q ↔ Wp 162 35 (l0 :: l1 :: l2 :: some (.int x) :: ls) (.int x :: st) h Q) ∧
  (∀ (ls : Lo) (st : List Value) (h : Hp) (Q : Option Value → Hp → Prop) (x : Int32), Wp 162 35 (ls) (.int x :: st) h Q ↔ Br 162 41 38 ls st h Q (0 ≤ x)) ∧
  (∀ (ls : Lo) (st : List Value) (h : Hp) (Q : Option Value → Hp → Prop), Wp 162 38 (ls) (st) h Q ↔ Wp 162 40 (ls) (.int (-14) :: st) h Q) ∧
  (∀ (ls : Lo) (h : Hp) (Q : Option Value → Hp → Prop) (x : Int32), Wp 162 40 (ls) ([.int x]) h Q ↔ Q (some (.int x)) h) ∧
  (∀ (ls : Lo) (st : List Value) (h : Hp) (Q : Option Value → Hp → Prop)  (i : Nat), Wp 162 41 (some (.ref i) :: ls) (st) h Q ↔ Wp 162 42 (some (.ref i) :: ls) (.ref i :: st) h Q) ∧
  (∀ (ls : Lo) (st : List Value) (n sl : Nat) (C Z : Nat → Nat) (I : Nat → Nat → Int32) (L : Nat → Nat → Int64) (R : Nat → Nat → Nat) (Q : Option Value → Hp → Prop) (i : Nat), Wp 162 42 (ls) (.ref i :: st) (n, sl, C, Z, I, L, R) Q ↔ (C i = 11 ∧ Wp 162 45 (ls) (.ref (R i 15) :: st) (n, sl, C, Z, I, L, R) Q)) ∧
  (∀ (ls : Lo) (st : List Value) (h : Hp) (Q : Option Value → Hp → Prop) (l0 : Option Value) (x : Int32), Wp 162 45 (l0 :: some (.int x) :: ls) (st) h Q ↔ Wp 162 46 (l0 :: some (.int x) :: ls) (.int x :: st) h Q) := ⟨by intro ls st h Q l0 x; exact e_iload_n d162_0 rfl,
  by intro ls st h Q x0; exact e_is (k2 := 161) (as := [.int x0]) d162_1 rfl (by decide) rfl rfl (by decide +kernel) (Nat.le_of_ble_eq_true rfl) rfl,
  by intro ls st h Q x; exact e_if d162_4 (by decide) c_eq,
  by intro ls st h Q l0 l1 x; exact e_iload_n d162_7 rfl,
  by intro ls st h Q; exact e_iconst d162_8 rfl,
  by intro ls st h Q x y; exact e_ic d162_9 (by decide) c_lt,
  by intro ls st h Q l0 l1 x; exact e_iload_n d162_12 rfl,
  by intro ls st h Q; exact e_iconst d162_13 rfl,
  by intro ls st h Q x y; exact e_ic d162_14 (by decide) c_gt,
  by intro ls st h Q l0 l1 x; exact e_iload_n d162_17 rfl,
  by intro ls st h Q x; exact e_if d162_18 (by decide) c_lt,
  by intro ls st h Q l0 l1 l2 x; exact e_iload_n d162_21 rfl,
  by intro ls st h Q; exact e_bipush d162_22 rfl,
  by intro ls st h Q x y; exact e_ic d162_24 (by decide) c_le,
  by intro ls st h Q; exact e_bipush d162_27 rfl,
  by intros; exact e_rI (p := True) d162_29 rfl,
  by intro ls st h Q l0 l1 x; exact e_iload_n d162_30 rfl,
  by intro ls st h Q x; exact e_if d162_31 (by decide) c_lt,
  by intro ls st h Q l0 l1 l2 x; exact e_iload_n d162_34 rfl,
  by intro ls st h Q x; exact e_if d162_35 (by decide) c_ge,
  by intro ls st h Q; exact e_bipush d162_38 rfl,
  by intros; exact e_rI (p := True) d162_40 rfl,
  by intro ls st h Q i; exact e_aload_n d162_41 rfl,
  by intro ls st n sl C Z I L R Q i; exact e_get (g := 10) (s := 15) (ty := 2) d162_42 rfl rfl (inG_ne (by decide)),
  by intro ls st h Q l0 x; exact e_iload_n d162_45 rfl⟩
set_option maxRecDepth 20000 in
theorem S162_1 : (∀ (ls : Lo) (st : List Value) (h : Hp) (Q : Option Value → Hp → Prop) (l0 l1 : Option Value) (x : Int32), Wp 162 46 (l0 :: l1 :: some (.int x) :: ls) (st) h Q ↔ Wp 162 47 (l0 :: l1 :: some (.int x) :: ls) (.int x :: st) h Q) ∧
  (∀ (ls : Lo) (st : List Value) (n sl : Nat) (C Z : Nat → Nat) (I : Nat → Nat → Int32) (L : Nat → Nat → Int64) (R : Nat → Nat → Nat) (Q : Option Value → Hp → Prop) (i : Nat) (x y : Int32), Wp 162 47 (ls) (.int x :: .int y :: .ref i :: st) (n, sl, C, Z, I, L, R) Q ↔ ((inb y (Z i) = true ∧ C i = 21) ∧ Wp 162 48 (ls) (st) (n, sl, C, Z, u2 I i (ix y) x, L, R) Q)) ∧
  (∀ (ls : Lo) (st : List Value) (h : Hp) (Q : Option Value → Hp → Prop)  (i : Nat), Wp 162 48 (some (.ref i) :: ls) (st) h Q ↔ Wp 162 49 (some (.ref i) :: ls) (.ref i :: st) h Q) ∧
  (∀ (ls : Lo) (st : List Value) (n sl : Nat) (C Z : Nat → Nat) (I : Nat → Nat → Int32) (L : Nat → Nat → Int64) (R : Nat → Nat → Nat) (Q : Option Value → Hp → Prop) (i : Nat), Wp 162 49 (ls) (.ref i :: st) (n, sl, C, Z, I, L, R) Q ↔ (C i = 11 ∧ Wp 162 52 (ls) (.ref (R i 16) :: st) (n, sl, C, Z, I, L, R) Q)) ∧
  (∀ (ls : Lo) (st : List Value) (h : Hp) (Q : Option Value → Hp → Prop) (l0 : Option Value) (x : Int32), Wp 162 52 (l0 :: some (.int x) :: ls) (st) h Q ↔ Wp 162 53 (l0 :: some (.int x) :: ls) (.int x :: st) h Q) ∧
  (∀ (ls : Lo) (st : List Value) (h : Hp) (Q : Option Value → Hp → Prop) (l0 l1 : Option Value) (x : Int32), Wp 162 53 (l0 :: l1 :: some (.int x) :: ls) (st) h Q ↔ Wp 162 54 (l0 :: l1 :: some (.int x) :: ls) (.int x :: st) h Q) ∧
  (∀ (ls : Lo) (st : List Value) (h : Hp) (Q : Option Value → Hp → Prop) (x : Int32), Wp 162 54 (ls) (.int x :: st) h Q ↔ Br 162 61 57 ls st h Q (0 ≤ x)) ∧
  (∀ (ls : Lo) (st : List Value) (h : Hp) (Q : Option Value → Hp → Prop), Wp 162 57 (ls) (st) h Q ↔ Wp 162 58 (ls) (.int (0) :: st) h Q) ∧
  (∀ (ls : Lo) (st : List Value) (h : Hp) (Q : Option Value → Hp → Prop), Wp 162 58 (ls) (st) h Q ↔ Wp 162 62 (ls) (st) h Q) ∧
  (∀ (ls : Lo) (st : List Value) (h : Hp) (Q : Option Value → Hp → Prop) (l0 l1 l2 : Option Value) (x : Int32), Wp 162 61 (l0 :: l1 :: l2 :: some (.int x) :: ls) (st) h Q ↔ Wp 162 62 (l0 :: l1 :: l2 :: some (.int x) :: ls) (.int x :: st) h Q) ∧
  (∀ (ls : Lo) (st : List Value) (n sl : Nat) (C Z : Nat → Nat) (I : Nat → Nat → Int32) (L : Nat → Nat → Int64) (R : Nat → Nat → Nat) (Q : Option Value → Hp → Prop) (i : Nat) (x y : Int32), Wp 162 62 (ls) (.int x :: .int y :: .ref i :: st) (n, sl, C, Z, I, L, R) Q ↔ ((inb y (Z i) = true ∧ C i = 21) ∧ Wp 162 63 (ls) (st) (n, sl, C, Z, u2 I i (ix y) x, L, R) Q)) ∧
  (∀ (ls : Lo) (st : List Value) (h : Hp) (Q : Option Value → Hp → Prop), Wp 162 63 (ls) (st) h Q ↔ Wp 162 64 (ls) (.int (0) :: st) h Q) ∧
  (∀ (ls : Lo) (st : List Value) (h : Hp) (Q : Option Value → Hp → Prop) (l0 l1 l2 l3 l4 : Option Value) (x : Int32), Wp 162 64 (l0 :: l1 :: l2 :: l3 :: l4 :: ls) (.int x :: st) h Q ↔ Wp 162 66 (l0 :: l1 :: l2 :: clr l3 :: some (.int x) :: ls) (st) h Q) ∧
  (∀ (ls : Lo) (st : List Value) (h : Hp) (Q : Option Value → Hp → Prop) (l0 l1 l2 l3 : Option Value) (x : Int32), Wp 162 66 (l0 :: l1 :: l2 :: l3 :: some (.int x) :: ls) (st) h Q ↔ Wp 162 68 (l0 :: l1 :: l2 :: l3 :: some (.int x) :: ls) (.int x :: st) h Q) ∧
  (∀ (ls : Lo) (st : List Value) (h : Hp) (Q : Option Value → Hp → Prop), Wp 162 68 (ls) (st) h Q ↔ Wp 162 70 (ls) (.int (40) :: st) h Q) ∧
  (∀ (ls : Lo) (st : List Value) (h : Hp) (Q : Option Value → Hp → Prop) (x y : Int32), Wp 162 70 (ls) (.int y :: .int x :: st) h Q ↔ Br 162 92 73 ls st h Q (y ≤ x)) ∧
  (∀ (ls : Lo) (st : List Value) (h : Hp) (Q : Option Value → Hp → Prop)  (i : Nat), Wp 162 73 (some (.ref i) :: ls) (st) h Q ↔ Wp 162 74 (some (.ref i) :: ls) (.ref i :: st) h Q) ∧
  (∀ (ls : Lo) (st : List Value) (n sl : Nat) (C Z : Nat → Nat) (I : Nat → Nat → Int32) (L : Nat → Nat → Int64) (R : Nat → Nat → Nat) (Q : Option Value → Hp → Prop) (i : Nat), Wp 162 74 (ls) (.ref i :: st) (n, sl, C, Z, I, L, R) Q ↔ (C i = 11 ∧ Wp 162 77 (ls) (.ref (R i 17) :: st) (n, sl, C, Z, I, L, R) Q)) ∧
  (∀ (ls : Lo) (st : List Value) (h : Hp) (Q : Option Value → Hp → Prop), Wp 162 77 (ls) (st) h Q ↔ Wp 162 79 (ls) (.int (40) :: st) h Q) ∧
  (∀ (ls : Lo) (st : List Value) (h : Hp) (Q : Option Value → Hp → Prop) (l0 : Option Value) (x : Int32), Wp 162 79 (l0 :: some (.int x) :: ls) (st) h Q ↔ Wp 162 80 (l0 :: some (.int x) :: ls) (.int x :: st) h Q) ∧
  (∀ (ls : Lo) (st : List Value) (h : Hp) (Q : Option Value → Hp → Prop) (x y : Int32), Wp 162 80 (ls) (.int y :: .int x :: st) h Q ↔ Wp 162 81 (ls) (.int (x * y) :: st) h Q) ∧
  (∀ (ls : Lo) (st : List Value) (h : Hp) (Q : Option Value → Hp → Prop) (l0 l1 l2 l3 : Option Value) (x : Int32), Wp 162 81 (l0 :: l1 :: l2 :: l3 :: some (.int x) :: ls) (st) h Q ↔ Wp 162 83 (l0 :: l1 :: l2 :: l3 :: some (.int x) :: ls) (.int x :: st) h Q) ∧
  (∀ (ls : Lo) (st : List Value) (h : Hp) (Q : Option Value → Hp → Prop) (x y : Int32), Wp 162 83 (ls) (.int y :: .int x :: st) h Q ↔ Wp 162 84 (ls) (.int (x + y) :: st) h Q) ∧
  (∀ (ls : Lo) (st : List Value) (h : Hp) (Q : Option Value → Hp → Prop), Wp 162 84 (ls) (st) h Q ↔ Wp 162 85 (ls) (.long 0 :: st) h Q) ∧
  (∀ (ls : Lo) (st : List Value) (n sl : Nat) (C Z : Nat → Nat) (I : Nat → Nat → Int32) (L : Nat → Nat → Int64) (R : Nat → Nat → Nat) (Q : Option Value → Hp → Prop) (i : Nat) (y : Int32) (a : Int64), Wp 162 85 (ls) (.long a :: .int y :: .ref i :: st) (n, sl, C, Z, I, L, R) Q ↔ ((inb y (Z i) = true ∧ C i = 22) ∧ Wp 162 86 (ls) (st) (n, sl, C, Z, I, u2 L i (ix y) a, R) Q)) := ⟨by intro ls st h Q l0 l1 x; exact e_iload_n d162_46 rfl,
  by intro ls st n sl C Z I L R Q i x y; exact e_iast d162_47,
  by intro ls st h Q i; exact e_aload_n d162_48 rfl,
  by intro ls st n sl C Z I L R Q i; exact e_get (g := 10) (s := 16) (ty := 2) d162_49 rfl rfl (inG_ne (by decide)),
  by intro ls st h Q l0 x; exact e_iload_n d162_52 rfl,
  by intro ls st h Q l0 l1 x; exact e_iload_n d162_53 rfl,
  by intro ls st h Q x; exact e_if d162_54 (by decide) c_ge,
  by intro ls st h Q; exact e_iconst d162_57 rfl,
  by intro ls st h Q; exact e_goto d162_58 (by decide),
  by intro ls st h Q l0 l1 l2 x; exact e_iload_n d162_61 rfl,
  by intro ls st n sl C Z I L R Q i x y; exact e_iast d162_62,
  by intro ls st h Q; exact e_iconst d162_63 rfl,
  by intro ls st h Q l0 l1 l2 l3 l4 x; exact e_istore d162_64 rfl,
  by intro ls st h Q l0 l1 l2 l3 x; exact e_iload d162_66 rfl,
  by intro ls st h Q; exact e_bipush d162_68 rfl,
  by intro ls st h Q x y; exact e_ic d162_70 (by decide) c_ge,
  by intro ls st h Q i; exact e_aload_n d162_73 rfl,
  by intro ls st n sl C Z I L R Q i; exact e_get (g := 10) (s := 17) (ty := 2) d162_74 rfl rfl (inG_ne (by decide)),
  by intro ls st h Q; exact e_bipush d162_77 rfl,
  by intro ls st h Q l0 x; exact e_iload_n d162_79 rfl,
  by intro ls st h Q x y; exact e_imul d162_80,
  by intro ls st h Q l0 l1 l2 l3 x; exact e_iload d162_81 rfl,
  by intro ls st h Q x y; exact e_iadd d162_83,
  by intro ls st h Q; exact e_lconst d162_84 rfl,
  by intro ls st n sl C Z I L R Q i y a; exact e_last d162_85⟩
set_option maxRecDepth 20000 in
theorem S162_2 : (∀ (ls : Lo) (st : List Value) (h : Hp) (Q : Option Value → Hp → Prop) (l0 l1 l2 l3 : Option Value) (x : Int32), Wp 162 86 (l0 :: l1 :: l2 :: l3 :: some (.int x) :: ls) (st) h Q ↔ Wp 162 89 (l0 :: l1 :: l2 :: clr l3 :: some (.int (x + (1))) :: ls) (st) h Q) ∧
  (∀ (ls : Lo) (st : List Value) (h : Hp) (Q : Option Value → Hp → Prop), Wp 162 89 (ls) (st) h Q ↔ Wp 162 66 (ls) (st) h Q) ∧
  (∀ (ls : Lo) (st : List Value) (h : Hp) (Q : Option Value → Hp → Prop), Wp 162 92 (ls) (st) h Q ↔ Wp 162 93 (ls) (.int (1) :: st) h Q) ∧
  (∀ (ls : Lo) (h : Hp) (Q : Option Value → Hp → Prop) (x : Int32), Wp 162 93 (ls) ([.int x]) h Q ↔ Q (some (.int x)) h) := ⟨by intro ls st h Q l0 l1 l2 l3 x; exact e_iinc d162_86 rfl rfl rfl,
  by intro ls st h Q; exact e_goto d162_89 (by decide),
  by intro ls st h Q; exact e_iconst d162_92 rfl,
  by intros; exact e_rI (p := True) d162_93 rfl⟩
theorem d163_0 : decode (byt 163) 0 = .ok (.iload_n 1, 1) := by decide +kernel
theorem d163_1 : decode (byt 163) 1 = .ok (.invokestatic 238, 3) := by decide +kernel
theorem d163_4 : decode (byt 163) 4 = .ok (.ifCond .ne 6, 3) := by decide +kernel
theorem d163_7 : decode (byt 163) 7 = .ok (.bipush (-2), 2) := by decide +kernel
theorem d163_9 : decode (byt 163) 9 = .ok (.ireturn, 1) := by decide +kernel
theorem d163_10 : decode (byt 163) 10 = .ok (.aload_n 0, 1) := by decide +kernel
theorem d163_11 : decode (byt 163) 11 = .ok (.getfield 47, 3) := by decide +kernel
theorem d163_14 : decode (byt 163) 14 = .ok (.iload_n 1, 1) := by decide +kernel
theorem d163_15 : decode (byt 163) 15 = .ok (.iaload, 1) := by decide +kernel
theorem d163_16 : decode (byt 163) 16 = .ok (.ifCond .ge 6, 3) := by decide +kernel
theorem d163_19 : decode (byt 163) 19 = .ok (.bipush (-11), 2) := by decide +kernel
theorem d163_21 : decode (byt 163) 21 = .ok (.ireturn, 1) := by decide +kernel
theorem d163_22 : decode (byt 163) 22 = .ok (.iload_n 2, 1) := by decide +kernel
theorem d163_23 : decode (byt 163) 23 = .ok (.ifCond .lt 13, 3) := by decide +kernel
theorem d163_26 : decode (byt 163) 26 = .ok (.iload_n 2, 1) := by decide +kernel
theorem d163_27 : decode (byt 163) 27 = .ok (.aload_n 0, 1) := by decide +kernel
theorem d163_28 : decode (byt 163) 28 = .ok (.getfield 50, 3) := by decide +kernel
theorem d163_31 : decode (byt 163) 31 = .ok (.iload_n 1, 1) := by decide +kernel
theorem d163_32 : decode (byt 163) 32 = .ok (.iaload, 1) := by decide +kernel
theorem d163_33 : decode (byt 163) 33 = .ok (.if_icmp .lt 6, 3) := by decide +kernel
theorem d163_36 : decode (byt 163) 36 = .ok (.bipush (-12), 2) := by decide +kernel
theorem d163_38 : decode (byt 163) 38 = .ok (.ireturn, 1) := by decide +kernel
theorem d163_39 : decode (byt 163) 39 = .ok (.aload_n 0, 1) := by decide +kernel
theorem d163_40 : decode (byt 163) 40 = .ok (.getfield 53, 3) := by decide +kernel
theorem d163_43 : decode (byt 163) 43 = .ok (.bipush 40, 2) := by decide +kernel
theorem d163_45 : decode (byt 163) 45 = .ok (.iload_n 1, 1) := by decide +kernel
theorem d163_46 : decode (byt 163) 46 = .ok (.imul, 1) := by decide +kernel
theorem d163_47 : decode (byt 163) 47 = .ok (.iload_n 2, 1) := by decide +kernel
theorem d163_48 : decode (byt 163) 48 = .ok (.iadd, 1) := by decide +kernel
theorem d163_49 : decode (byt 163) 49 = .ok (.aload_n 0, 1) := by decide +kernel
theorem d163_50 : decode (byt 163) 50 = .ok (.getfield 47, 3) := by decide +kernel
theorem d163_53 : decode (byt 163) 53 = .ok (.iload_n 1, 1) := by decide +kernel
theorem d163_54 : decode (byt 163) 54 = .ok (.iaload, 1) := by decide +kernel
theorem d163_55 : decode (byt 163) 55 = .ok (.ifCond .ne 9, 3) := by decide +kernel
theorem d163_58 : decode (byt 163) 58 = .ok (.iload_n 3, 1) := by decide +kernel
theorem d163_59 : decode (byt 163) 59 = .ok (.i2b, 1) := by decide +kernel
theorem d163_60 : decode (byt 163) 60 = .ok (.i2l, 1) := by decide +kernel
theorem d163_61 : decode (byt 163) 61 = .ok (.goto 5, 3) := by decide +kernel
theorem d163_64 : decode (byt 163) 64 = .ok (.iload_n 3, 1) := by decide +kernel
theorem d163_65 : decode (byt 163) 65 = .ok (.i2l, 1) := by decide +kernel
theorem d163_66 : decode (byt 163) 66 = .ok (.lastore, 1) := by decide +kernel
theorem d163_67 : decode (byt 163) 67 = .ok (.iconst 1, 1) := by decide +kernel
theorem d163_68 : decode (byt 163) 68 = .ok (.ireturn, 1) := by decide +kernel
set_option maxRecDepth 20000 in
theorem S163_0 : (∀ (ls : Lo) (st : List Value) (h : Hp) (Q : Option Value → Hp → Prop) (l0 : Option Value) (x : Int32), Wp 163 0 (l0 :: some (.int x) :: ls) (st) h Q ↔ Wp 163 1 (l0 :: some (.int x) :: ls) (.int x :: st) h Q) ∧
  (∀ (ls : Lo) (st : List Value) (h : Hp) (Q : Option Value → Hp → Prop) (x0 : Int32), Wp 163 1 (ls) (.int x0 :: st) h Q ↔ (wsum st ≤ 8 ∧ Call 161 [some (.int x0)] h 163 4 ls st Q)) ∧
  (∀ (ls : Lo) (st : List Value) (h : Hp) (Q : Option Value → Hp → Prop) (x : Int32), Wp 163 4 (ls) (.int x :: st) h Q ↔ Br 163 10 7 ls st h Q (¬ x = 0)) ∧
  (∀ (ls : Lo) (st : List Value) (h : Hp) (Q : Option Value → Hp → Prop), Wp 163 7 (ls) (st) h Q ↔ Wp 163 9 (ls) (.int (-2) :: st) h Q) ∧
  (∀ (ls : Lo) (h : Hp) (Q : Option Value → Hp → Prop) (x : Int32), Wp 163 9 (ls) ([.int x]) h Q ↔ Q (some (.int x)) h) ∧
  (∀ (ls : Lo) (st : List Value) (h : Hp) (Q : Option Value → Hp → Prop)  (i : Nat), Wp 163 10 (some (.ref i) :: ls) (st) h Q ↔ Wp 163 11 (some (.ref i) :: ls) (.ref i :: st) h Q) ∧
  (∀ (ls : Lo) (st : List Value) (n sl : Nat) (C Z : Nat → Nat) (I : Nat → Nat → Int32) (L : Nat → Nat → Int64) (R : Nat → Nat → Nat) (Q : Option Value → Hp → Prop) (i : Nat), Wp 163 11 (ls) (.ref i :: st) (n, sl, C, Z, I, L, R) Q ↔ (C i = 11 ∧ Wp 163 14 (ls) (.ref (R i 15) :: st) (n, sl, C, Z, I, L, R) Q)) ∧
  (∀ (ls : Lo) (st : List Value) (h : Hp) (Q : Option Value → Hp → Prop) (l0 : Option Value) (x : Int32), Wp 163 14 (l0 :: some (.int x) :: ls) (st) h Q ↔ Wp 163 15 (l0 :: some (.int x) :: ls) (.int x :: st) h Q) ∧
  (∀ (ls : Lo) (st : List Value) (n sl : Nat) (C Z : Nat → Nat) (I : Nat → Nat → Int32) (L : Nat → Nat → Int64) (R : Nat → Nat → Nat) (Q : Option Value → Hp → Prop) (i : Nat) (y : Int32), Wp 163 15 (ls) (.int y :: .ref i :: st) (n, sl, C, Z, I, L, R) Q ↔ ((inb y (Z i) = true ∧ C i = 21) ∧ Wp 163 16 (ls) (.int (I i (ix y)) :: st) (n, sl, C, Z, I, L, R) Q)) ∧
  (∀ (ls : Lo) (st : List Value) (h : Hp) (Q : Option Value → Hp → Prop) (x : Int32), Wp 163 16 (ls) (.int x :: st) h Q ↔ Br 163 22 19 ls st h Q (0 ≤ x)) ∧
  (∀ (ls : Lo) (st : List Value) (h : Hp) (Q : Option Value → Hp → Prop), Wp 163 19 (ls) (st) h Q ↔ Wp 163 21 (ls) (.int (-11) :: st) h Q) ∧
  (∀ (ls : Lo) (h : Hp) (Q : Option Value → Hp → Prop) (x : Int32), Wp 163 21 (ls) ([.int x]) h Q ↔ Q (some (.int x)) h) ∧
  (∀ (ls : Lo) (st : List Value) (h : Hp) (Q : Option Value → Hp → Prop) (l0 l1 : Option Value) (x : Int32), Wp 163 22 (l0 :: l1 :: some (.int x) :: ls) (st) h Q ↔ Wp 163 23 (l0 :: l1 :: some (.int x) :: ls) (.int x :: st) h Q) ∧
  (∀ (ls : Lo) (st : List Value) (h : Hp) (Q : Option Value → Hp → Prop) (x : Int32), Wp 163 23 (ls) (.int x :: st) h Q ↔ Br 163 36 26 ls st h Q (x < 0)) ∧
  (∀ (ls : Lo) (st : List Value) (h : Hp) (Q : Option Value → Hp → Prop) (l0 l1 : Option Value) (x : Int32), Wp 163 26 (l0 :: l1 :: some (.int x) :: ls) (st) h Q ↔ Wp 163 27 (l0 :: l1 :: some (.int x) :: ls) (.int x :: st) h Q) ∧
  (∀ (ls : Lo) (st : List Value) (h : Hp) (Q : Option Value → Hp → Prop)  (i : Nat), Wp 163 27 (some (.ref i) :: ls) (st) h Q ↔ Wp 163 28 (some (.ref i) :: ls) (.ref i :: st) h Q) ∧
  (∀ (ls : Lo) (st : List Value) (n sl : Nat) (C Z : Nat → Nat) (I : Nat → Nat → Int32) (L : Nat → Nat → Int64) (R : Nat → Nat → Nat) (Q : Option Value → Hp → Prop) (i : Nat), Wp 163 28 (ls) (.ref i :: st) (n, sl, C, Z, I, L, R) Q ↔ (C i = 11 ∧ Wp 163 31 (ls) (.ref (R i 16) :: st) (n, sl, C, Z, I, L, R) Q)) ∧
  (∀ (ls : Lo) (st : List Value) (h : Hp) (Q : Option Value → Hp → Prop) (l0 : Option Value) (x : Int32), Wp 163 31 (l0 :: some (.int x) :: ls) (st) h Q ↔ Wp 163 32 (l0 :: some (.int x) :: ls) (.int x :: st) h Q) ∧
  (∀ (ls : Lo) (st : List Value) (n sl : Nat) (C Z : Nat → Nat) (I : Nat → Nat → Int32) (L : Nat → Nat → Int64) (R : Nat → Nat → Nat) (Q : Option Value → Hp → Prop) (i : Nat) (y : Int32), Wp 163 32 (ls) (.int y :: .ref i :: st) (n, sl, C, Z, I, L, R) Q ↔ ((inb y (Z i) = true ∧ C i = 21) ∧ Wp 163 33 (ls) (.int (I i (ix y)) :: st) (n, sl, C, Z, I, L, R) Q)) ∧
  (∀ (ls : Lo) (st : List Value) (h : Hp) (Q : Option Value → Hp → Prop) (x y : Int32), Wp 163 33 (ls) (.int y :: .int x :: st) h Q ↔ Br 163 39 36 ls st h Q (x < y)) ∧
  (∀ (ls : Lo) (st : List Value) (h : Hp) (Q : Option Value → Hp → Prop), Wp 163 36 (ls) (st) h Q ↔ Wp 163 38 (ls) (.int (-12) :: st) h Q) ∧
  (∀ (ls : Lo) (h : Hp) (Q : Option Value → Hp → Prop) (x : Int32), Wp 163 38 (ls) ([.int x]) h Q ↔ Q (some (.int x)) h) ∧
  (∀ (ls : Lo) (st : List Value) (h : Hp) (Q : Option Value → Hp → Prop)  (i : Nat), Wp 163 39 (some (.ref i) :: ls) (st) h Q ↔ Wp 163 40 (some (.ref i) :: ls) (.ref i :: st) h Q) ∧
  (∀ (ls : Lo) (st : List Value) (n sl : Nat) (C Z : Nat → Nat) (I : Nat → Nat → Int32) (L : Nat → Nat → Int64) (R : Nat → Nat → Nat) (Q : Option Value → Hp → Prop) (i : Nat), Wp 163 40 (ls) (.ref i :: st) (n, sl, C, Z, I, L, R) Q ↔ (C i = 11 ∧ Wp 163 43 (ls) (.ref (R i 17) :: st) (n, sl, C, Z, I, L, R) Q)) ∧
  (∀ (ls : Lo) (st : List Value) (h : Hp) (Q : Option Value → Hp → Prop), Wp 163 43 (ls) (st) h Q ↔ Wp 163 45 (ls) (.int (40) :: st) h Q) := ⟨by intro ls st h Q l0 x; exact e_iload_n d163_0 rfl,
  by intro ls st h Q x0; exact e_is (k2 := 161) (as := [.int x0]) d163_1 rfl (by decide) rfl rfl (by decide +kernel) (Nat.le_of_ble_eq_true rfl) rfl,
  by intro ls st h Q x; exact e_if d163_4 (by decide) c_ne,
  by intro ls st h Q; exact e_bipush d163_7 rfl,
  by intros; exact e_rI (p := True) d163_9 rfl,
  by intro ls st h Q i; exact e_aload_n d163_10 rfl,
  by intro ls st n sl C Z I L R Q i; exact e_get (g := 10) (s := 15) (ty := 2) d163_11 rfl rfl (inG_ne (by decide)),
  by intro ls st h Q l0 x; exact e_iload_n d163_14 rfl,
  by intro ls st n sl C Z I L R Q i y; exact e_iald d163_15,
  by intro ls st h Q x; exact e_if d163_16 (by decide) c_ge,
  by intro ls st h Q; exact e_bipush d163_19 rfl,
  by intros; exact e_rI (p := True) d163_21 rfl,
  by intro ls st h Q l0 l1 x; exact e_iload_n d163_22 rfl,
  by intro ls st h Q x; exact e_if d163_23 (by decide) c_lt,
  by intro ls st h Q l0 l1 x; exact e_iload_n d163_26 rfl,
  by intro ls st h Q i; exact e_aload_n d163_27 rfl,
  by intro ls st n sl C Z I L R Q i; exact e_get (g := 10) (s := 16) (ty := 2) d163_28 rfl rfl (inG_ne (by decide)),
  by intro ls st h Q l0 x; exact e_iload_n d163_31 rfl,
  by intro ls st n sl C Z I L R Q i y; exact e_iald d163_32,
  by intro ls st h Q x y; exact e_ic d163_33 (by decide) c_lt,
  by intro ls st h Q; exact e_bipush d163_36 rfl,
  by intros; exact e_rI (p := True) d163_38 rfl,
  by intro ls st h Q i; exact e_aload_n d163_39 rfl,
  by intro ls st n sl C Z I L R Q i; exact e_get (g := 10) (s := 17) (ty := 2) d163_40 rfl rfl (inG_ne (by decide)),
  by intro ls st h Q; exact e_bipush d163_43 rfl⟩
set_option maxRecDepth 20000 in
theorem S163_1 : (∀ (ls : Lo) (st : List Value) (h : Hp) (Q : Option Value → Hp → Prop) (l0 : Option Value) (x : Int32), Wp 163 45 (l0 :: some (.int x) :: ls) (st) h Q ↔ Wp 163 46 (l0 :: some (.int x) :: ls) (.int x :: st) h Q) ∧
  (∀ (ls : Lo) (st : List Value) (h : Hp) (Q : Option Value → Hp → Prop) (x y : Int32), Wp 163 46 (ls) (.int y :: .int x :: st) h Q ↔ Wp 163 47 (ls) (.int (x * y) :: st) h Q) ∧
  (∀ (ls : Lo) (st : List Value) (h : Hp) (Q : Option Value → Hp → Prop) (l0 l1 : Option Value) (x : Int32), Wp 163 47 (l0 :: l1 :: some (.int x) :: ls) (st) h Q ↔ Wp 163 48 (l0 :: l1 :: some (.int x) :: ls) (.int x :: st) h Q) ∧
  (∀ (ls : Lo) (st : List Value) (h : Hp) (Q : Option Value → Hp → Prop) (x y : Int32), Wp 163 48 (ls) (.int y :: .int x :: st) h Q ↔ Wp 163 49 (ls) (.int (x + y) :: st) h Q) ∧
  (∀ (ls : Lo) (st : List Value) (h : Hp) (Q : Option Value → Hp → Prop)  (i : Nat), Wp 163 49 (some (.ref i) :: ls) (st) h Q ↔ Wp 163 50 (some (.ref i) :: ls) (.ref i :: st) h Q) ∧
  (∀ (ls : Lo) (st : List Value) (n sl : Nat) (C Z : Nat → Nat) (I : Nat → Nat → Int32) (L : Nat → Nat → Int64) (R : Nat → Nat → Nat) (Q : Option Value → Hp → Prop) (i : Nat), Wp 163 50 (ls) (.ref i :: st) (n, sl, C, Z, I, L, R) Q ↔ (C i = 11 ∧ Wp 163 53 (ls) (.ref (R i 15) :: st) (n, sl, C, Z, I, L, R) Q)) ∧
  (∀ (ls : Lo) (st : List Value) (h : Hp) (Q : Option Value → Hp → Prop) (l0 : Option Value) (x : Int32), Wp 163 53 (l0 :: some (.int x) :: ls) (st) h Q ↔ Wp 163 54 (l0 :: some (.int x) :: ls) (.int x :: st) h Q) ∧
  (∀ (ls : Lo) (st : List Value) (n sl : Nat) (C Z : Nat → Nat) (I : Nat → Nat → Int32) (L : Nat → Nat → Int64) (R : Nat → Nat → Nat) (Q : Option Value → Hp → Prop) (i : Nat) (y : Int32), Wp 163 54 (ls) (.int y :: .ref i :: st) (n, sl, C, Z, I, L, R) Q ↔ ((inb y (Z i) = true ∧ C i = 21) ∧ Wp 163 55 (ls) (.int (I i (ix y)) :: st) (n, sl, C, Z, I, L, R) Q)) ∧
  (∀ (ls : Lo) (st : List Value) (h : Hp) (Q : Option Value → Hp → Prop) (x : Int32), Wp 163 55 (ls) (.int x :: st) h Q ↔ Br 163 64 58 ls st h Q (¬ x = 0)) ∧
  (∀ (ls : Lo) (st : List Value) (h : Hp) (Q : Option Value → Hp → Prop) (l0 l1 l2 : Option Value) (x : Int32), Wp 163 58 (l0 :: l1 :: l2 :: some (.int x) :: ls) (st) h Q ↔ Wp 163 59 (l0 :: l1 :: l2 :: some (.int x) :: ls) (.int x :: st) h Q) ∧
  (∀ (ls : Lo) (st : List Value) (h : Hp) (Q : Option Value → Hp → Prop) (x : Int32), Wp 163 59 (ls) (.int x :: st) h Q ↔ Wp 163 60 (ls) (.int x.toInt8.toInt32 :: st) h Q) ∧
  (∀ (ls : Lo) (st : List Value) (h : Hp) (Q : Option Value → Hp → Prop) (x : Int32), Wp 163 60 (ls) (.int x :: st) h Q ↔ Wp 163 61 (ls) (.long x.toInt64 :: st) h Q) ∧
  (∀ (ls : Lo) (st : List Value) (h : Hp) (Q : Option Value → Hp → Prop), Wp 163 61 (ls) (st) h Q ↔ Wp 163 66 (ls) (st) h Q) ∧
  (∀ (ls : Lo) (st : List Value) (h : Hp) (Q : Option Value → Hp → Prop) (l0 l1 l2 : Option Value) (x : Int32), Wp 163 64 (l0 :: l1 :: l2 :: some (.int x) :: ls) (st) h Q ↔ Wp 163 65 (l0 :: l1 :: l2 :: some (.int x) :: ls) (.int x :: st) h Q) ∧
  (∀ (ls : Lo) (st : List Value) (h : Hp) (Q : Option Value → Hp → Prop) (x : Int32), Wp 163 65 (ls) (.int x :: st) h Q ↔ Wp 163 66 (ls) (.long x.toInt64 :: st) h Q) ∧
  (∀ (ls : Lo) (st : List Value) (n sl : Nat) (C Z : Nat → Nat) (I : Nat → Nat → Int32) (L : Nat → Nat → Int64) (R : Nat → Nat → Nat) (Q : Option Value → Hp → Prop) (i : Nat) (y : Int32) (a : Int64), Wp 163 66 (ls) (.long a :: .int y :: .ref i :: st) (n, sl, C, Z, I, L, R) Q ↔ ((inb y (Z i) = true ∧ C i = 22) ∧ Wp 163 67 (ls) (st) (n, sl, C, Z, I, u2 L i (ix y) a, R) Q)) ∧
  (∀ (ls : Lo) (st : List Value) (h : Hp) (Q : Option Value → Hp → Prop), Wp 163 67 (ls) (st) h Q ↔ Wp 163 68 (ls) (.int (1) :: st) h Q) ∧
  (∀ (ls : Lo) (h : Hp) (Q : Option Value → Hp → Prop) (x : Int32), Wp 163 68 (ls) ([.int x]) h Q ↔ Q (some (.int x)) h) := ⟨by intro ls st h Q l0 x; exact e_iload_n d163_45 rfl,
  by intro ls st h Q x y; exact e_imul d163_46,
  by intro ls st h Q l0 l1 x; exact e_iload_n d163_47 rfl,
  by intro ls st h Q x y; exact e_iadd d163_48,
  by intro ls st h Q i; exact e_aload_n d163_49 rfl,
  by intro ls st n sl C Z I L R Q i; exact e_get (g := 10) (s := 15) (ty := 2) d163_50 rfl rfl (inG_ne (by decide)),
  by intro ls st h Q l0 x; exact e_iload_n d163_53 rfl,
  by intro ls st n sl C Z I L R Q i y; exact e_iald d163_54,
  by intro ls st h Q x; exact e_if d163_55 (by decide) c_ne,
  by intro ls st h Q l0 l1 l2 x; exact e_iload_n d163_58 rfl,
  by intro ls st h Q x; exact e_i2b d163_59,
  by intro ls st h Q x; exact e_i2l d163_60,
  by intro ls st h Q; exact e_goto d163_61 (by decide),
  by intro ls st h Q l0 l1 l2 x; exact e_iload_n d163_64 rfl,
  by intro ls st h Q x; exact e_i2l d163_65,
  by intro ls st n sl C Z I L R Q i y a; exact e_last d163_66,
  by intro ls st h Q; exact e_iconst d163_67 rfl,
  by intros; exact e_rI (p := True) d163_68 rfl⟩
