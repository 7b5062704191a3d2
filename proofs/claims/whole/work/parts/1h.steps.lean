theorem d119_0 : decode (byt 119) 0 = .ok (.aload_n 0, 1) := by decide +kernel
theorem d119_1 : decode (byt 119) 1 = .ok (.iload_n 1, 1) := by decide +kernel
theorem d119_2 : decode (byt 119) 2 = .ok (.invokevirtual 105, 3) := by decide +kernel
theorem d119_5 : decode (byt 119) 5 = .ok (.ifCond .eq 13, 3) := by decide +kernel
theorem d119_8 : decode (byt 119) 8 = .ok (.iload_n 2, 1) := by decide +kernel
theorem d119_9 : decode (byt 119) 9 = .ok (.iconst 1, 1) := by decide +kernel
theorem d119_10 : decode (byt 119) 10 = .ok (.if_icmp .eq 11, 3) := by decide +kernel
theorem d119_13 : decode (byt 119) 13 = .ok (.iload_n 2, 1) := by decide +kernel
theorem d119_14 : decode (byt 119) 14 = .ok (.iconst (-1), 1) := by decide +kernel
theorem d119_15 : decode (byt 119) 15 = .ok (.if_icmp .eq 6, 3) := by decide +kernel
theorem d119_18 : decode (byt 119) 18 = .ok (.bipush (-2), 2) := by decide +kernel
theorem d119_20 : decode (byt 119) 20 = .ok (.ireturn, 1) := by decide +kernel
theorem d119_21 : decode (byt 119) 21 = .ok (.aload_n 0, 1) := by decide +kernel
theorem d119_22 : decode (byt 119) 22 = .ok (.getfield 7, 3) := by decide +kernel
theorem d119_25 : decode (byt 119) 25 = .ok (.iload_n 1, 1) := by decide +kernel
theorem d119_26 : decode (byt 119) 26 = .ok (.iaload, 1) := by decide +kernel
theorem d119_27 : decode (byt 119) 27 = .ok (.iconst 1, 1) := by decide +kernel
theorem d119_28 : decode (byt 119) 28 = .ok (.if_icmp .eq 12, 3) := by decide +kernel
theorem d119_31 : decode (byt 119) 31 = .ok (.aload_n 0, 1) := by decide +kernel
theorem d119_32 : decode (byt 119) 32 = .ok (.getfield 19, 3) := by decide +kernel
theorem d119_35 : decode (byt 119) 35 = .ok (.iload_n 1, 1) := by decide +kernel
theorem d119_36 : decode (byt 119) 36 = .ok (.iaload, 1) := by decide +kernel
theorem d119_37 : decode (byt 119) 37 = .ok (.ifCond .eq 6, 3) := by decide +kernel
theorem d119_40 : decode (byt 119) 40 = .ok (.bipush (-3), 2) := by decide +kernel
theorem d119_42 : decode (byt 119) 42 = .ok (.ireturn, 1) := by decide +kernel
theorem d119_43 : decode (byt 119) 43 = .ok (.iconst 0, 1) := by decide +kernel
theorem d119_44 : decode (byt 119) 44 = .ok (.istore_n 3, 1) := by decide +kernel
theorem d119_45 : decode (byt 119) 45 = .ok (.iload_n 3, 1) := by decide +kernel
theorem d119_46 : decode (byt 119) 46 = .ok (.aload_n 0, 1) := by decide +kernel
theorem d119_47 : decode (byt 119) 47 = .ok (.getfield 13, 3) := by decide +kernel
theorem d119_50 : decode (byt 119) 50 = .ok (.iload_n 1, 1) := by decide +kernel
theorem d119_51 : decode (byt 119) 51 = .ok (.iaload, 1) := by decide +kernel
theorem d119_52 : decode (byt 119) 52 = .ok (.if_icmp .ge 112, 3) := by decide +kernel
theorem d119_55 : decode (byt 119) 55 = .ok (.aload_n 0, 1) := by decide +kernel
theorem d119_56 : decode (byt 119) 56 = .ok (.getfield 34, 3) := by decide +kernel
theorem d119_59 : decode (byt 119) 59 = .ok (.iload_n 3, 1) := by decide +kernel
theorem d119_60 : decode (byt 119) 60 = .ok (.aload_n 0, 1) := by decide +kernel
theorem d119_61 : decode (byt 119) 61 = .ok (.getfield 25, 3) := by decide +kernel
theorem d119_64 : decode (byt 119) 64 = .ok (.iconst 3, 1) := by decide +kernel
theorem d119_65 : decode (byt 119) 65 = .ok (.iload_n 1, 1) := by decide +kernel
theorem d119_66 : decode (byt 119) 66 = .ok (.imul, 1) := by decide +kernel
theorem d119_67 : decode (byt 119) 67 = .ok (.iload_n 3, 1) := by decide +kernel
theorem d119_68 : decode (byt 119) 68 = .ok (.iadd, 1) := by decide +kernel
theorem d119_69 : decode (byt 119) 69 = .ok (.iaload, 1) := by decide +kernel
theorem d119_70 : decode (byt 119) 70 = .ok (.iastore, 1) := by decide +kernel
theorem d119_71 : decode (byt 119) 71 = .ok (.aload_n 0, 1) := by decide +kernel
theorem d119_72 : decode (byt 119) 72 = .ok (.getfield 37, 3) := by decide +kernel
theorem d119_75 : decode (byt 119) 75 = .ok (.iload_n 3, 1) := by decide +kernel
theorem d119_76 : decode (byt 119) 76 = .ok (.aload_n 0, 1) := by decide +kernel
theorem d119_77 : decode (byt 119) 77 = .ok (.getfield 28, 3) := by decide +kernel
theorem d119_80 : decode (byt 119) 80 = .ok (.iconst 3, 1) := by decide +kernel
theorem d119_81 : decode (byt 119) 81 = .ok (.iload_n 1, 1) := by decide +kernel
theorem d119_82 : decode (byt 119) 82 = .ok (.imul, 1) := by decide +kernel
theorem d119_83 : decode (byt 119) 83 = .ok (.iload_n 3, 1) := by decide +kernel
theorem d119_84 : decode (byt 119) 84 = .ok (.iadd, 1) := by decide +kernel
theorem d119_85 : decode (byt 119) 85 = .ok (.iaload, 1) := by decide +kernel
theorem d119_86 : decode (byt 119) 86 = .ok (.iastore, 1) := by decide +kernel
theorem d119_87 : decode (byt 119) 87 = .ok (.iconst 0, 1) := by decide +kernel
theorem d119_88 : decode (byt 119) 88 = .ok (.istore 4, 2) := by decide +kernel
theorem d119_90 : decode (byt 119) 90 = .ok (.iload 4, 2) := by decide +kernel
theorem d119_92 : decode (byt 119) 92 = .ok (.aload_n 0, 1) := by decide +kernel
theorem d119_93 : decode (byt 119) 93 = .ok (.getfield 13, 3) := by decide +kernel
theorem d119_96 : decode (byt 119) 96 = .ok (.iload_n 1, 1) := by decide +kernel
theorem d119_97 : decode (byt 119) 97 = .ok (.iaload, 1) := by decide +kernel
theorem d119_98 : decode (byt 119) 98 = .ok (.if_icmp .ge 60, 3) := by decide +kernel
theorem d119_101 : decode (byt 119) 101 = .ok (.aload_n 0, 1) := by decide +kernel
theorem d119_102 : decode (byt 119) 102 = .ok (.getfield 31, 3) := by decide +kernel
theorem d119_105 : decode (byt 119) 105 = .ok (.iconst 3, 1) := by decide +kernel
theorem d119_106 : decode (byt 119) 106 = .ok (.iload_n 3, 1) := by decide +kernel
theorem d119_107 : decode (byt 119) 107 = .ok (.imul, 1) := by decide +kernel
theorem d119_108 : decode (byt 119) 108 = .ok (.iload 4, 2) := by decide +kernel
theorem d119_110 : decode (byt 119) 110 = .ok (.iadd, 1) := by decide +kernel
theorem d119_111 : decode (byt 119) 111 = .ok (.aload_n 0, 1) := by decide +kernel
theorem d119_112 : decode (byt 119) 112 = .ok (.iload_n 1, 1) := by decide +kernel
theorem d119_113 : decode (byt 119) 113 = .ok (.iload_n 3, 1) := by decide +kernel
theorem d119_114 : decode (byt 119) 114 = .ok (.iload 4, 2) := by decide +kernel
theorem d119_116 : decode (byt 119) 116 = .ok (.invokevirtual 102, 3) := by decide +kernel
theorem d119_119 : decode (byt 119) 119 = .ok (.iload_n 2, 1) := by decide +kernel
theorem d119_120 : decode (byt 119) 120 = .ok (.aload_n 0, 1) := by decide +kernel
theorem d119_121 : decode (byt 119) 121 = .ok (.getfield 16, 3) := by decide +kernel
theorem d119_124 : decode (byt 119) 124 = .ok (.iload_n 1, 1) := by decide +kernel
theorem d119_125 : decode (byt 119) 125 = .ok (.iaload, 1) := by decide +kernel
theorem d119_126 : decode (byt 119) 126 = .ok (.imul, 1) := by decide +kernel
theorem d119_127 : decode (byt 119) 127 = .ok (.aload_n 0, 1) := by decide +kernel
theorem d119_128 : decode (byt 119) 128 = .ok (.getfield 25, 3) := by decide +kernel
theorem d119_131 : decode (byt 119) 131 = .ok (.iconst 3, 1) := by decide +kernel
theorem d119_132 : decode (byt 119) 132 = .ok (.iload_n 1, 1) := by decide +kernel
theorem d119_133 : decode (byt 119) 133 = .ok (.imul, 1) := by decide +kernel
theorem d119_134 : decode (byt 119) 134 = .ok (.iload_n 3, 1) := by decide +kernel
theorem d119_135 : decode (byt 119) 135 = .ok (.iadd, 1) := by decide +kernel
theorem d119_136 : decode (byt 119) 136 = .ok (.iaload, 1) := by decide +kernel
theorem d119_137 : decode (byt 119) 137 = .ok (.imul, 1) := by decide +kernel
theorem d119_138 : decode (byt 119) 138 = .ok (.aload_n 0, 1) := by decide +kernel
theorem d119_139 : decode (byt 119) 139 = .ok (.getfield 28, 3) := by decide +kernel
theorem d119_142 : decode (byt 119) 142 = .ok (.iconst 3, 1) := by decide +kernel
theorem d119_143 : decode (byt 119) 143 = .ok (.iload_n 1, 1) := by decide +kernel
theorem d119_144 : decode (byt 119) 144 = .ok (.imul, 1) := by decide +kernel
theorem d119_145 : decode (byt 119) 145 = .ok (.iload 4, 2) := by decide +kernel
theorem d119_147 : decode (byt 119) 147 = .ok (.iadd, 1) := by decide +kernel
theorem d119_148 : decode (byt 119) 148 = .ok (.iaload, 1) := by decide +kernel
theorem d119_149 : decode (byt 119) 149 = .ok (.imul, 1) := by decide +kernel
theorem d119_150 : decode (byt 119) 150 = .ok (.iadd, 1) := by decide +kernel
theorem d119_151 : decode (byt 119) 151 = .ok (.iastore, 1) := by decide +kernel
theorem d119_152 : decode (byt 119) 152 = .ok (.iinc 4 1, 3) := by decide +kernel
theorem d119_155 : decode (byt 119) 155 = .ok (.goto (-65), 3) := by decide +kernel
theorem d119_158 : decode (byt 119) 158 = .ok (.iinc 3 1, 3) := by decide +kernel
theorem d119_161 : decode (byt 119) 161 = .ok (.goto (-116), 3) := by decide +kernel
theorem d119_164 : decode (byt 119) 164 = .ok (.aload_n 0, 1) := by decide +kernel
theorem d119_165 : decode (byt 119) 165 = .ok (.iconst 2, 1) := by decide +kernel
theorem d119_166 : decode (byt 119) 166 = .ok (.aload_n 0, 1) := by decide +kernel
theorem d119_167 : decode (byt 119) 167 = .ok (.getfield 13, 3) := by decide +kernel
theorem d119_170 : decode (byt 119) 170 = .ok (.iload_n 1, 1) := by decide +kernel
theorem d119_171 : decode (byt 119) 171 = .ok (.iaload, 1) := by decide +kernel
theorem d119_172 : decode (byt 119) 172 = .ok (.aload_n 0, 1) := by decide +kernel
theorem d119_173 : decode (byt 119) 173 = .ok (.getfield 16, 3) := by decide +kernel
theorem d119_176 : decode (byt 119) 176 = .ok (.iload_n 1, 1) := by decide +kernel
theorem d119_177 : decode (byt 119) 177 = .ok (.iaload, 1) := by decide +kernel
theorem d119_178 : decode (byt 119) 178 = .ok (.iconst 0, 1) := by decide +kernel
theorem d119_179 : decode (byt 119) 179 = .ok (.invokevirtual 121, 3) := by decide +kernel
theorem d119_182 : decode (byt 119) 182 = .ok (.ireturn, 1) := by decide +kernel
set_option maxRecDepth 20000 in
theorem S119_0 : (∀ (ls : Lo) (st : List Value) (h : Hp) (Q : Option Value → Hp → Prop)  (i : Nat), Wp 119 0 (some (.ref i) :: ls) (st) h Q ↔ Wp 119 1 (some (.ref i) :: ls) (.ref i :: st) h Q) ∧
  (∀ (ls : Lo) (st : List Value) (h : Hp) (Q : Option Value → Hp → Prop) (l0 : Option Value) (x : Int32), Wp 119 1 (l0 :: some (.int x) :: ls) (st) h Q ↔ Wp 119 2 (l0 :: some (.int x) :: ls) (.int x :: st) h Q) ∧
  (∀ (ls : Lo) (st : List Value) (n sl : Nat) (C Z : Nat → Nat) (I : Nat → Nat → Int32) (L : Nat → Nat → Int64) (R : Nat → Nat → Nat) (Q : Option Value → Hp → Prop) (x0 : Int32) (i : Nat), C i = 11 → (Wp 119 2 (ls) (.int x0 :: .ref i :: st) (n, sl, C, Z, I, L, R) Q ↔ (wsum st ≤ 8 ∧ Call 103 [some (.ref i), some (.int x0)] (n, sl, C, Z, I, L, R) 119 5 ls st Q))) ∧
  (∀ (ls : Lo) (st : List Value) (h : Hp) (Q : Option Value → Hp → Prop) (x : Int32), Wp 119 5 (ls) (.int x :: st) h Q ↔ Br 119 18 8 ls st h Q (x = 0)) ∧
  (∀ (ls : Lo) (st : List Value) (h : Hp) (Q : Option Value → Hp → Prop) (l0 l1 : Option Value) (x : Int32), Wp 119 8 (l0 :: l1 :: some (.int x) :: ls) (st) h Q ↔ Wp 119 9 (l0 :: l1 :: some (.int x) :: ls) (.int x :: st) h Q) ∧
  (∀ (ls : Lo) (st : List Value) (h : Hp) (Q : Option Value → Hp → Prop), Wp 119 9 (ls) (st) h Q ↔ Wp 119 10 (ls) (.int (1) :: st) h Q) ∧
  (∀ (ls : Lo) (st : List Value) (h : Hp) (Q : Option Value → Hp → Prop) (x y : Int32), Wp 119 10 (ls) (.int y :: .int x :: st) h Q ↔ Br 119 21 13 ls st h Q (x = y)) ∧
  (∀ (ls : Lo) (st : List Value) (h : Hp) (Q : Option Value → Hp → Prop) (l0 l1 : Option Value) (x : Int32), Wp 119 13 (l0 :: l1 :: some (.int x) :: ls) (st) h Q ↔ Wp 119 14 (l0 :: l1 :: some (.int x) :: ls) (.int x :: st) h Q) ∧
  (∀ (ls : Lo) (st : List Value) (h : Hp) (Q : Option Value → Hp → Prop), Wp 119 14 (ls) (st) h Q ↔ Wp 119 15 (ls) (.int (-1) :: st) h Q) ∧
  (∀ (ls : Lo) (st : List Value) (h : Hp) (Q : Option Value → Hp → Prop) (x y : Int32), Wp 119 15 (ls) (.int y :: .int x :: st) h Q ↔ Br 119 21 18 ls st h Q (x = y)) ∧
  (∀ (ls : Lo) (st : List Value) (h : Hp) (Q : Option Value → Hp → Prop), Wp 119 18 (ls) (st) h Q ↔ Wp 119 20 (ls) (.int (-2) :: st) h Q) ∧
  (∀ (ls : Lo) (h : Hp) (Q : Option Value → Hp → Prop) (x : Int32), Wp 119 20 (ls) ([.int x]) h Q ↔ Q (some (.int x)) h) ∧
  (∀ (ls : Lo) (st : List Value) (h : Hp) (Q : Option Value → Hp → Prop)  (i : Nat), Wp 119 21 (some (.ref i) :: ls) (st) h Q ↔ Wp 119 22 (some (.ref i) :: ls) (.ref i :: st) h Q) ∧
  (∀ (ls : Lo) (st : List Value) (n sl : Nat) (C Z : Nat → Nat) (I : Nat → Nat → Int32) (L : Nat → Nat → Int64) (R : Nat → Nat → Nat) (Q : Option Value → Hp → Prop) (i : Nat), Wp 119 22 (ls) (.ref i :: st) (n, sl, C, Z, I, L, R) Q ↔ (C i = 11 ∧ Wp 119 25 (ls) (.ref (R i 1) :: st) (n, sl, C, Z, I, L, R) Q)) ∧
  (∀ (ls : Lo) (st : List Value) (h : Hp) (Q : Option Value → Hp → Prop) (l0 : Option Value) (x : Int32), Wp 119 25 (l0 :: some (.int x) :: ls) (st) h Q ↔ Wp 119 26 (l0 :: some (.int x) :: ls) (.int x :: st) h Q) ∧
  (∀ (ls : Lo) (st : List Value) (n sl : Nat) (C Z : Nat → Nat) (I : Nat → Nat → Int32) (L : Nat → Nat → Int64) (R : Nat → Nat → Nat) (Q : Option Value → Hp → Prop) (i : Nat) (y : Int32), Wp 119 26 (ls) (.int y :: .ref i :: st) (n, sl, C, Z, I, L, R) Q ↔ ((inb y (Z i) = true ∧ C i = 21) ∧ Wp 119 27 (ls) (.int (I i (ix y)) :: st) (n, sl, C, Z, I, L, R) Q)) ∧
  (∀ (ls : Lo) (st : List Value) (h : Hp) (Q : Option Value → Hp → Prop), Wp 119 27 (ls) (st) h Q ↔ Wp 119 28 (ls) (.int (1) :: st) h Q) ∧
  (∀ (ls : Lo) (st : List Value) (h : Hp) (Q : Option Value → Hp → Prop) (x y : Int32), Wp 119 28 (ls) (.int y :: .int x :: st) h Q ↔ Br 119 40 31 ls st h Q (x = y)) ∧
  (∀ (ls : Lo) (st : List Value) (h : Hp) (Q : Option Value → Hp → Prop)  (i : Nat), Wp 119 31 (some (.ref i) :: ls) (st) h Q ↔ Wp 119 32 (some (.ref i) :: ls) (.ref i :: st) h Q) ∧
  (∀ (ls : Lo) (st : List Value) (n sl : Nat) (C Z : Nat → Nat) (I : Nat → Nat → Int32) (L : Nat → Nat → Int64) (R : Nat → Nat → Nat) (Q : Option Value → Hp → Prop) (i : Nat), Wp 119 32 (ls) (.ref i :: st) (n, sl, C, Z, I, L, R) Q ↔ (C i = 11 ∧ Wp 119 35 (ls) (.ref (R i 4) :: st) (n, sl, C, Z, I, L, R) Q)) ∧
  (∀ (ls : Lo) (st : List Value) (h : Hp) (Q : Option Value → Hp → Prop) (l0 : Option Value) (x : Int32), Wp 119 35 (l0 :: some (.int x) :: ls) (st) h Q ↔ Wp 119 36 (l0 :: some (.int x) :: ls) (.int x :: st) h Q) ∧
  (∀ (ls : Lo) (st : List Value) (n sl : Nat) (C Z : Nat → Nat) (I : Nat → Nat → Int32) (L : Nat → Nat → Int64) (R : Nat → Nat → Nat) (Q : Option Value → Hp → Prop) (i : Nat) (y : Int32), Wp 119 36 (ls) (.int y :: .ref i :: st) (n, sl, C, Z, I, L, R) Q ↔ ((inb y (Z i) = true ∧ C i = 21) ∧ Wp 119 37 (ls) (.int (I i (ix y)) :: st) (n, sl, C, Z, I, L, R) Q)) ∧
  (∀ (ls : Lo) (st : List Value) (h : Hp) (Q : Option Value → Hp → Prop) (x : Int32), Wp 119 37 (ls) (.int x :: st) h Q ↔ Br 119 43 40 ls st h Q (x = 0)) ∧
  (∀ (ls : Lo) (st : List Value) (h : Hp) (Q : Option Value → Hp → Prop), Wp 119 40 (ls) (st) h Q ↔ Wp 119 42 (ls) (.int (-3) :: st) h Q) ∧
  (∀ (ls : Lo) (h : Hp) (Q : Option Value → Hp → Prop) (x : Int32), Wp 119 42 (ls) ([.int x]) h Q ↔ Q (some (.int x)) h) := ⟨by intro ls st h Q i; exact e_aload_n d119_0 rfl,
  by intro ls st h Q l0 x; exact e_iload_n d119_1 rfl,
  by intro ls st n sl C Z I L R Q x0 i hh; exact e_iv (k2 := 103) (c := 11) (as := [.int x0]) d119_2 rfl (by decide) rfl rfl (by decide +kernel) (Nat.le_of_ble_eq_true rfl) rfl hh,
  by intro ls st h Q x; exact e_if d119_5 (by decide) c_eq,
  by intro ls st h Q l0 l1 x; exact e_iload_n d119_8 rfl,
  by intro ls st h Q; exact e_iconst d119_9 rfl,
  by intro ls st h Q x y; exact e_ic d119_10 (by decide) c_eq,
  by intro ls st h Q l0 l1 x; exact e_iload_n d119_13 rfl,
  by intro ls st h Q; exact e_iconst d119_14 rfl,
  by intro ls st h Q x y; exact e_ic d119_15 (by decide) c_eq,
  by intro ls st h Q; exact e_bipush d119_18 rfl,
  by intros; exact e_rI (p := True) d119_20 rfl,
  by intro ls st h Q i; exact e_aload_n d119_21 rfl,
  by intro ls st n sl C Z I L R Q i; exact e_get (g := 10) (s := 1) (ty := 2) d119_22 rfl rfl (inG_ne (by decide)),
  by intro ls st h Q l0 x; exact e_iload_n d119_25 rfl,
  by intro ls st n sl C Z I L R Q i y; exact e_iald d119_26,
  by intro ls st h Q; exact e_iconst d119_27 rfl,
  by intro ls st h Q x y; exact e_ic d119_28 (by decide) c_eq,
  by intro ls st h Q i; exact e_aload_n d119_31 rfl,
  by intro ls st n sl C Z I L R Q i; exact e_get (g := 10) (s := 4) (ty := 2) d119_32 rfl rfl (inG_ne (by decide)),
  by intro ls st h Q l0 x; exact e_iload_n d119_35 rfl,
  by intro ls st n sl C Z I L R Q i y; exact e_iald d119_36,
  by intro ls st h Q x; exact e_if d119_37 (by decide) c_eq,
  by intro ls st h Q; exact e_bipush d119_40 rfl,
  by intros; exact e_rI (p := True) d119_42 rfl⟩
set_option maxRecDepth 20000 in
theorem S119_1 : (∀ (ls : Lo) (st : List Value) (h : Hp) (Q : Option Value → Hp → Prop), Wp 119 43 (ls) (st) h Q ↔ Wp 119 44 (ls) (.int (0) :: st) h Q) ∧
  (∀ (ls : Lo) (st : List Value) (h : Hp) (Q : Option Value → Hp → Prop) (l0 l1 l2 l3 : Option Value) (x : Int32), Wp 119 44 (l0 :: l1 :: l2 :: l3 :: ls) (.int x :: st) h Q ↔ Wp 119 45 (l0 :: l1 :: clr l2 :: some (.int x) :: ls) (st) h Q) ∧
  (∀ (ls : Lo) (st : List Value) (h : Hp) (Q : Option Value → Hp → Prop) (l0 l1 l2 : Option Value) (x : Int32), Wp 119 45 (l0 :: l1 :: l2 :: some (.int x) :: ls) (st) h Q ↔ Wp 119 46 (l0 :: l1 :: l2 :: some (.int x) :: ls) (.int x :: st) h Q) ∧
  (∀ (ls : Lo) (st : List Value) (h : Hp) (Q : Option Value → Hp → Prop)  (i : Nat), Wp 119 46 (some (.ref i) :: ls) (st) h Q ↔ Wp 119 47 (some (.ref i) :: ls) (.ref i :: st) h Q) ∧
  (∀ (ls : Lo) (st : List Value) (n sl : Nat) (C Z : Nat → Nat) (I : Nat → Nat → Int32) (L : Nat → Nat → Int64) (R : Nat → Nat → Nat) (Q : Option Value → Hp → Prop) (i : Nat), Wp 119 47 (ls) (.ref i :: st) (n, sl, C, Z, I, L, R) Q ↔ (C i = 11 ∧ Wp 119 50 (ls) (.ref (R i 2) :: st) (n, sl, C, Z, I, L, R) Q)) ∧
  (∀ (ls : Lo) (st : List Value) (h : Hp) (Q : Option Value → Hp → Prop) (l0 : Option Value) (x : Int32), Wp 119 50 (l0 :: some (.int x) :: ls) (st) h Q ↔ Wp 119 51 (l0 :: some (.int x) :: ls) (.int x :: st) h Q) ∧
  (∀ (ls : Lo) (st : List Value) (n sl : Nat) (C Z : Nat → Nat) (I : Nat → Nat → Int32) (L : Nat → Nat → Int64) (R : Nat → Nat → Nat) (Q : Option Value → Hp → Prop) (i : Nat) (y : Int32), Wp 119 51 (ls) (.int y :: .ref i :: st) (n, sl, C, Z, I, L, R) Q ↔ ((inb y (Z i) = true ∧ C i = 21) ∧ Wp 119 52 (ls) (.int (I i (ix y)) :: st) (n, sl, C, Z, I, L, R) Q)) ∧
  (∀ (ls : Lo) (st : List Value) (h : Hp) (Q : Option Value → Hp → Prop) (x y : Int32), Wp 119 52 (ls) (.int y :: .int x :: st) h Q ↔ Br 119 164 55 ls st h Q (y ≤ x)) ∧
  (∀ (ls : Lo) (st : List Value) (h : Hp) (Q : Option Value → Hp → Prop)  (i : Nat), Wp 119 55 (some (.ref i) :: ls) (st) h Q ↔ Wp 119 56 (some (.ref i) :: ls) (.ref i :: st) h Q) ∧
  (∀ (ls : Lo) (st : List Value) (n sl : Nat) (C Z : Nat → Nat) (I : Nat → Nat → Int32) (L : Nat → Nat → Int64) (R : Nat → Nat → Nat) (Q : Option Value → Hp → Prop) (i : Nat), Wp 119 56 (ls) (.ref i :: st) (n, sl, C, Z, I, L, R) Q ↔ (C i = 11 ∧ Wp 119 59 (ls) (.ref (R i 9) :: st) (n, sl, C, Z, I, L, R) Q)) ∧
  (∀ (ls : Lo) (st : List Value) (h : Hp) (Q : Option Value → Hp → Prop) (l0 l1 l2 : Option Value) (x : Int32), Wp 119 59 (l0 :: l1 :: l2 :: some (.int x) :: ls) (st) h Q ↔ Wp 119 60 (l0 :: l1 :: l2 :: some (.int x) :: ls) (.int x :: st) h Q) ∧
  (∀ (ls : Lo) (st : List Value) (h : Hp) (Q : Option Value → Hp → Prop)  (i : Nat), Wp 119 60 (some (.ref i) :: ls) (st) h Q ↔ Wp 119 61 (some (.ref i) :: ls) (.ref i :: st) h Q) ∧
  (∀ (ls : Lo) (st : List Value) (n sl : Nat) (C Z : Nat → Nat) (I : Nat → Nat → Int32) (L : Nat → Nat → Int64) (R : Nat → Nat → Nat) (Q : Option Value → Hp → Prop) (i : Nat), Wp 119 61 (ls) (.ref i :: st) (n, sl, C, Z, I, L, R) Q ↔ (C i = 11 ∧ Wp 119 64 (ls) (.ref (R i 6) :: st) (n, sl, C, Z, I, L, R) Q)) ∧
  (∀ (ls : Lo) (st : List Value) (h : Hp) (Q : Option Value → Hp → Prop), Wp 119 64 (ls) (st) h Q ↔ Wp 119 65 (ls) (.int (3) :: st) h Q) ∧
  (∀ (ls : Lo) (st : List Value) (h : Hp) (Q : Option Value → Hp → Prop) (l0 : Option Value) (x : Int32), Wp 119 65 (l0 :: some (.int x) :: ls) (st) h Q ↔ Wp 119 66 (l0 :: some (.int x) :: ls) (.int x :: st) h Q) ∧
  (∀ (ls : Lo) (st : List Value) (h : Hp) (Q : Option Value → Hp → Prop) (x y : Int32), Wp 119 66 (ls) (.int y :: .int x :: st) h Q ↔ Wp 119 67 (ls) (.int (x * y) :: st) h Q) ∧
  (∀ (ls : Lo) (st : List Value) (h : Hp) (Q : Option Value → Hp → Prop) (l0 l1 l2 : Option Value) (x : Int32), Wp 119 67 (l0 :: l1 :: l2 :: some (.int x) :: ls) (st) h Q ↔ Wp 119 68 (l0 :: l1 :: l2 :: some (.int x) :: ls) (.int x :: st) h Q) ∧
  (∀ (ls : Lo) (st : List Value) (h : Hp) (Q : Option Value → Hp → Prop) (x y : Int32), Wp 119 68 (ls) (.int y :: .int x :: st) h Q ↔ Wp 119 69 (ls) (.int (x + y) :: st) h Q) ∧
  (∀ (ls : Lo) (st : List Value) (n sl : Nat) (C Z : Nat → Nat) (I : Nat → Nat → Int32) (L : Nat → Nat → Int64) (R : Nat → Nat → Nat) (Q : Option Value → Hp → Prop) (i : Nat) (y : Int32), Wp 119 69 (ls) (.int y :: .ref i :: st) (n, sl, C, Z, I, L, R) Q ↔ ((inb y (Z i) = true ∧ C i = 21) ∧ Wp 119 70 (ls) (.int (I i (ix y)) :: st) (n, sl, C, Z, I, L, R) Q)) ∧
  (∀ (ls : Lo) (st : List Value) (n sl : Nat) (C Z : Nat → Nat) (I : Nat → Nat → Int32) (L : Nat → Nat → Int64) (R : Nat → Nat → Nat) (Q : Option Value → Hp → Prop) (i : Nat) (x y : Int32), Wp 119 70 (ls) (.int x :: .int y :: .ref i :: st) (n, sl, C, Z, I, L, R) Q ↔ ((inb y (Z i) = true ∧ C i = 21) ∧ Wp 119 71 (ls) (st) (n, sl, C, Z, u2 I i (ix y) x, L, R) Q)) ∧
  (∀ (ls : Lo) (st : List Value) (h : Hp) (Q : Option Value → Hp → Prop)  (i : Nat), Wp 119 71 (some (.ref i) :: ls) (st) h Q ↔ Wp 119 72 (some (.ref i) :: ls) (.ref i :: st) h Q) ∧
  (∀ (ls : Lo) (st : List Value) (n sl : Nat) (C Z : Nat → Nat) (I : Nat → Nat → Int32) (L : Nat → Nat → Int64) (R : Nat → Nat → Nat) (Q : Option Value → Hp → Prop) (i : Nat), Wp 119 72 (ls) (.ref i :: st) (n, sl, C, Z, I, L, R) Q ↔ (C i = 11 ∧ Wp 119 75 (ls) (.ref (R i 10) :: st) (n, sl, C, Z, I, L, R) Q)) ∧
  (∀ (ls : Lo) (st : List Value) (h : Hp) (Q : Option Value → Hp → Prop) (l0 l1 l2 : Option Value) (x : Int32), Wp 119 75 (l0 :: l1 :: l2 :: some (.int x) :: ls) (st) h Q ↔ Wp 119 76 (l0 :: l1 :: l2 :: some (.int x) :: ls) (.int x :: st) h Q) ∧
  (∀ (ls : Lo) (st : List Value) (h : Hp) (Q : Option Value → Hp → Prop)  (i : Nat), Wp 119 76 (some (.ref i) :: ls) (st) h Q ↔ Wp 119 77 (some (.ref i) :: ls) (.ref i :: st) h Q) ∧
  (∀ (ls : Lo) (st : List Value) (n sl : Nat) (C Z : Nat → Nat) (I : Nat → Nat → Int32) (L : Nat → Nat → Int64) (R : Nat → Nat → Nat) (Q : Option Value → Hp → Prop) (i : Nat), Wp 119 77 (ls) (.ref i :: st) (n, sl, C, Z, I, L, R) Q ↔ (C i = 11 ∧ Wp 119 80 (ls) (.ref (R i 7) :: st) (n, sl, C, Z, I, L, R) Q)) := ⟨by intro ls st h Q; exact e_iconst d119_43 rfl,
  by intro ls st h Q l0 l1 l2 l3 x; exact e_istore_n d119_44 rfl,
  by intro ls st h Q l0 l1 l2 x; exact e_iload_n d119_45 rfl,
  by intro ls st h Q i; exact e_aload_n d119_46 rfl,
  by intro ls st n sl C Z I L R Q i; exact e_get (g := 10) (s := 2) (ty := 2) d119_47 rfl rfl (inG_ne (by decide)),
  by intro ls st h Q l0 x; exact e_iload_n d119_50 rfl,
  by intro ls st n sl C Z I L R Q i y; exact e_iald d119_51,
  by intro ls st h Q x y; exact e_ic d119_52 (by decide) c_ge,
  by intro ls st h Q i; exact e_aload_n d119_55 rfl,
  by intro ls st n sl C Z I L R Q i; exact e_get (g := 10) (s := 9) (ty := 2) d119_56 rfl rfl (inG_ne (by decide)),
  by intro ls st h Q l0 l1 l2 x; exact e_iload_n d119_59 rfl,
  by intro ls st h Q i; exact e_aload_n d119_60 rfl,
  by intro ls st n sl C Z I L R Q i; exact e_get (g := 10) (s := 6) (ty := 2) d119_61 rfl rfl (inG_ne (by decide)),
  by intro ls st h Q; exact e_iconst d119_64 rfl,
  by intro ls st h Q l0 x; exact e_iload_n d119_65 rfl,
  by intro ls st h Q x y; exact e_imul d119_66,
  by intro ls st h Q l0 l1 l2 x; exact e_iload_n d119_67 rfl,
  by intro ls st h Q x y; exact e_iadd d119_68,
  by intro ls st n sl C Z I L R Q i y; exact e_iald d119_69,
  by intro ls st n sl C Z I L R Q i x y; exact e_iast d119_70,
  by intro ls st h Q i; exact e_aload_n d119_71 rfl,
  by intro ls st n sl C Z I L R Q i; exact e_get (g := 10) (s := 10) (ty := 2) d119_72 rfl rfl (inG_ne (by decide)),
  by intro ls st h Q l0 l1 l2 x; exact e_iload_n d119_75 rfl,
  by intro ls st h Q i; exact e_aload_n d119_76 rfl,
  by intro ls st n sl C Z I L R Q i; exact e_get (g := 10) (s := 7) (ty := 2) d119_77 rfl rfl (inG_ne (by decide))⟩
set_option maxRecDepth 20000 in
theorem S119_2 : (∀ (ls : Lo) (st : List Value) (h : Hp) (Q : Option Value → Hp → Prop), Wp 119 80 (ls) (st) h Q ↔ Wp 119 81 (ls) (.int (3) :: st) h Q) ∧
  (∀ (ls : Lo) (st : List Value) (h : Hp) (Q : Option Value → Hp → Prop) (l0 : Option Value) (x : Int32), Wp 119 81 (l0 :: some (.int x) :: ls) (st) h Q ↔ Wp 119 82 (l0 :: some (.int x) :: ls) (.int x :: st) h Q) ∧
  (∀ (ls : Lo) (st : List Value) (h : Hp) (Q : Option Value → Hp → Prop) (x y : Int32), Wp 119 82 (ls) (.int y :: .int x :: st) h Q ↔ Wp 119 83 (ls) (.int (x * y) :: st) h Q) ∧
  (∀ (ls : Lo) (st : List Value) (h : Hp) (Q : Option Value → Hp → Prop) (l0 l1 l2 : Option Value) (x : Int32), Wp 119 83 (l0 :: l1 :: l2 :: some (.int x) :: ls) (st) h Q ↔ Wp 119 84 (l0 :: l1 :: l2 :: some (.int x) :: ls) (.int x :: st) h Q) ∧
  (∀ (ls : Lo) (st : List Value) (h : Hp) (Q : Option Value → Hp → Prop) (x y : Int32), Wp 119 84 (ls) (.int y :: .int x :: st) h Q ↔ Wp 119 85 (ls) (.int (x + y) :: st) h Q) ∧
  (∀ (ls : Lo) (st : List Value) (n sl : Nat) (C Z : Nat → Nat) (I : Nat → Nat → Int32) (L : Nat → Nat → Int64) (R : Nat → Nat → Nat) (Q : Option Value → Hp → Prop) (i : Nat) (y : Int32), Wp 119 85 (ls) (.int y :: .ref i :: st) (n, sl, C, Z, I, L, R) Q ↔ ((inb y (Z i) = true ∧ C i = 21) ∧ Wp 119 86 (ls) (.int (I i (ix y)) :: st) (n, sl, C, Z, I, L, R) Q)) ∧
  (∀ (ls : Lo) (st : List Value) (n sl : Nat) (C Z : Nat → Nat) (I : Nat → Nat → Int32) (L : Nat → Nat → Int64) (R : Nat → Nat → Nat) (Q : Option Value → Hp → Prop) (i : Nat) (x y : Int32), Wp 119 86 (ls) (.int x :: .int y :: .ref i :: st) (n, sl, C, Z, I, L, R) Q ↔ ((inb y (Z i) = true ∧ C i = 21) ∧ Wp 119 87 (ls) (st) (n, sl, C, Z, u2 I i (ix y) x, L, R) Q)) ∧
  (∀ (ls : Lo) (st : List Value) (h : Hp) (Q : Option Value → Hp → Prop), Wp 119 87 (ls) (st) h Q ↔ Wp 119 88 (ls) (.int (0) :: st) h Q) ∧
  (∀ (ls : Lo) (st : List Value) (h : Hp) (Q : Option Value → Hp → Prop) (l0 l1 l2 l3 l4 : Option Value) (x : Int32), Wp 119 88 (l0 :: l1 :: l2 :: l3 :: l4 :: ls) (.int x :: st) h Q ↔ Wp 119 90 (l0 :: l1 :: l2 :: clr l3 :: some (.int x) :: ls) (st) h Q) ∧
  (∀ (ls : Lo) (st : List Value) (h : Hp) (Q : Option Value → Hp → Prop) (l0 l1 l2 l3 : Option Value) (x : Int32), Wp 119 90 (l0 :: l1 :: l2 :: l3 :: some (.int x) :: ls) (st) h Q ↔ Wp 119 92 (l0 :: l1 :: l2 :: l3 :: some (.int x) :: ls) (.int x :: st) h Q) ∧
  (∀ (ls : Lo) (st : List Value) (h : Hp) (Q : Option Value → Hp → Prop)  (i : Nat), Wp 119 92 (some (.ref i) :: ls) (st) h Q ↔ Wp 119 93 (some (.ref i) :: ls) (.ref i :: st) h Q) ∧
  (∀ (ls : Lo) (st : List Value) (n sl : Nat) (C Z : Nat → Nat) (I : Nat → Nat → Int32) (L : Nat → Nat → Int64) (R : Nat → Nat → Nat) (Q : Option Value → Hp → Prop) (i : Nat), Wp 119 93 (ls) (.ref i :: st) (n, sl, C, Z, I, L, R) Q ↔ (C i = 11 ∧ Wp 119 96 (ls) (.ref (R i 2) :: st) (n, sl, C, Z, I, L, R) Q)) ∧
  (∀ (ls : Lo) (st : List Value) (h : Hp) (Q : Option Value → Hp → Prop) (l0 : Option Value) (x : Int32), Wp 119 96 (l0 :: some (.int x) :: ls) (st) h Q ↔ Wp 119 97 (l0 :: some (.int x) :: ls) (.int x :: st) h Q) ∧
  (∀ (ls : Lo) (st : List Value) (n sl : Nat) (C Z : Nat → Nat) (I : Nat → Nat → Int32) (L : Nat → Nat → Int64) (R : Nat → Nat → Nat) (Q : Option Value → Hp → Prop) (i : Nat) (y : Int32), Wp 119 97 (ls) (.int y :: .ref i :: st) (n, sl, C, Z, I, L, R) Q ↔ ((inb y (Z i) = true ∧ C i = 21) ∧ Wp 119 98 (ls) (.int (I i (ix y)) :: st) (n, sl, C, Z, I, L, R) Q)) ∧
  (∀ (ls : Lo) (st : List Value) (h : Hp) (Q : Option Value → Hp → Prop) (x y : Int32), Wp 119 98 (ls) (.int y :: .int x :: st) h Q ↔ Br 119 158 101 ls st h Q (y ≤ x)) ∧
  (∀ (ls : Lo) (st : List Value) (h : Hp) (Q : Option Value → Hp → Prop)  (i : Nat), Wp 119 101 (some (.ref i) :: ls) (st) h Q ↔ Wp 119 102 (some (.ref i) :: ls) (.ref i :: st) h Q) ∧
  (∀ (ls : Lo) (st : List Value) (n sl : Nat) (C Z : Nat → Nat) (I : Nat → Nat → Int32) (L : Nat → Nat → Int64) (R : Nat → Nat → Nat) (Q : Option Value → Hp → Prop) (i : Nat), Wp 119 102 (ls) (.ref i :: st) (n, sl, C, Z, I, L, R) Q ↔ (C i = 11 ∧ Wp 119 105 (ls) (.ref (R i 8) :: st) (n, sl, C, Z, I, L, R) Q)) ∧
  (∀ (ls : Lo) (st : List Value) (h : Hp) (Q : Option Value → Hp → Prop), Wp 119 105 (ls) (st) h Q ↔ Wp 119 106 (ls) (.int (3) :: st) h Q) ∧
  (∀ (ls : Lo) (st : List Value) (h : Hp) (Q : Option Value → Hp → Prop) (l0 l1 l2 : Option Value) (x : Int32), Wp 119 106 (l0 :: l1 :: l2 :: some (.int x) :: ls) (st) h Q ↔ Wp 119 107 (l0 :: l1 :: l2 :: some (.int x) :: ls) (.int x :: st) h Q) ∧
  (∀ (ls : Lo) (st : List Value) (h : Hp) (Q : Option Value → Hp → Prop) (x y : Int32), Wp 119 107 (ls) (.int y :: .int x :: st) h Q ↔ Wp 119 108 (ls) (.int (x * y) :: st) h Q) ∧
  (∀ (ls : Lo) (st : List Value) (h : Hp) (Q : Option Value → Hp → Prop) (l0 l1 l2 l3 : Option Value) (x : Int32), Wp 119 108 (l0 :: l1 :: l2 :: l3 :: some (.int x) :: ls) (st) h Q ↔ Wp 119 110 (l0 :: l1 :: l2 :: l3 :: some (.int x) :: ls) (.int x :: st) h Q) ∧
  (∀ (ls : Lo) (st : List Value) (h : Hp) (Q : Option Value → Hp → Prop) (x y : Int32), Wp 119 110 (ls) (.int y :: .int x :: st) h Q ↔ Wp 119 111 (ls) (.int (x + y) :: st) h Q) ∧
  (∀ (ls : Lo) (st : List Value) (h : Hp) (Q : Option Value → Hp → Prop)  (i : Nat), Wp 119 111 (some (.ref i) :: ls) (st) h Q ↔ Wp 119 112 (some (.ref i) :: ls) (.ref i :: st) h Q) ∧
  (∀ (ls : Lo) (st : List Value) (h : Hp) (Q : Option Value → Hp → Prop) (l0 : Option Value) (x : Int32), Wp 119 112 (l0 :: some (.int x) :: ls) (st) h Q ↔ Wp 119 113 (l0 :: some (.int x) :: ls) (.int x :: st) h Q) ∧
  (∀ (ls : Lo) (st : List Value) (h : Hp) (Q : Option Value → Hp → Prop) (l0 l1 l2 : Option Value) (x : Int32), Wp 119 113 (l0 :: l1 :: l2 :: some (.int x) :: ls) (st) h Q ↔ Wp 119 114 (l0 :: l1 :: l2 :: some (.int x) :: ls) (.int x :: st) h Q) := ⟨by intro ls st h Q; exact e_iconst d119_80 rfl,
  by intro ls st h Q l0 x; exact e_iload_n d119_81 rfl,
  by intro ls st h Q x y; exact e_imul d119_82,
  by intro ls st h Q l0 l1 l2 x; exact e_iload_n d119_83 rfl,
  by intro ls st h Q x y; exact e_iadd d119_84,
  by intro ls st n sl C Z I L R Q i y; exact e_iald d119_85,
  by intro ls st n sl C Z I L R Q i x y; exact e_iast d119_86,
  by intro ls st h Q; exact e_iconst d119_87 rfl,
  by intro ls st h Q l0 l1 l2 l3 l4 x; exact e_istore d119_88 rfl,
  by intro ls st h Q l0 l1 l2 l3 x; exact e_iload d119_90 rfl,
  by intro ls st h Q i; exact e_aload_n d119_92 rfl,
  by intro ls st n sl C Z I L R Q i; exact e_get (g := 10) (s := 2) (ty := 2) d119_93 rfl rfl (inG_ne (by decide)),
  by intro ls st h Q l0 x; exact e_iload_n d119_96 rfl,
  by intro ls st n sl C Z I L R Q i y; exact e_iald d119_97,
  by intro ls st h Q x y; exact e_ic d119_98 (by decide) c_ge,
  by intro ls st h Q i; exact e_aload_n d119_101 rfl,
  by intro ls st n sl C Z I L R Q i; exact e_get (g := 10) (s := 8) (ty := 2) d119_102 rfl rfl (inG_ne (by decide)),
  by intro ls st h Q; exact e_iconst d119_105 rfl,
  by intro ls st h Q l0 l1 l2 x; exact e_iload_n d119_106 rfl,
  by intro ls st h Q x y; exact e_imul d119_107,
  by intro ls st h Q l0 l1 l2 l3 x; exact e_iload d119_108 rfl,
  by intro ls st h Q x y; exact e_iadd d119_110,
  by intro ls st h Q i; exact e_aload_n d119_111 rfl,
  by intro ls st h Q l0 x; exact e_iload_n d119_112 rfl,
  by intro ls st h Q l0 l1 l2 x; exact e_iload_n d119_113 rfl⟩
set_option maxRecDepth 20000 in
theorem S119_3 : (∀ (ls : Lo) (st : List Value) (h : Hp) (Q : Option Value → Hp → Prop) (l0 l1 l2 l3 : Option Value) (x : Int32), Wp 119 114 (l0 :: l1 :: l2 :: l3 :: some (.int x) :: ls) (st) h Q ↔ Wp 119 116 (l0 :: l1 :: l2 :: l3 :: some (.int x) :: ls) (.int x :: st) h Q) ∧
  (∀ (ls : Lo) (st : List Value) (n sl : Nat) (C Z : Nat → Nat) (I : Nat → Nat → Int32) (L : Nat → Nat → Int64) (R : Nat → Nat → Nat) (Q : Option Value → Hp → Prop) (x0 : Int32) (x1 : Int32) (x2 : Int32) (i : Nat), C i = 11 → (Wp 119 116 (ls) (.int x2 :: .int x1 :: .int x0 :: .ref i :: st) (n, sl, C, Z, I, L, R) Q ↔ (wsum st ≤ 8 ∧ Call 104 [some (.ref i), some (.int x0), some (.int x1), some (.int x2)] (n, sl, C, Z, I, L, R) 119 119 ls st Q))) ∧
  (∀ (ls : Lo) (st : List Value) (h : Hp) (Q : Option Value → Hp → Prop) (l0 l1 : Option Value) (x : Int32), Wp 119 119 (l0 :: l1 :: some (.int x) :: ls) (st) h Q ↔ Wp 119 120 (l0 :: l1 :: some (.int x) :: ls) (.int x :: st) h Q) ∧
  (∀ (ls : Lo) (st : List Value) (h : Hp) (Q : Option Value → Hp → Prop)  (i : Nat), Wp 119 120 (some (.ref i) :: ls) (st) h Q ↔ Wp 119 121 (some (.ref i) :: ls) (.ref i :: st) h Q) ∧
  (∀ (ls : Lo) (st : List Value) (n sl : Nat) (C Z : Nat → Nat) (I : Nat → Nat → Int32) (L : Nat → Nat → Int64) (R : Nat → Nat → Nat) (Q : Option Value → Hp → Prop) (i : Nat), Wp 119 121 (ls) (.ref i :: st) (n, sl, C, Z, I, L, R) Q ↔ (C i = 11 ∧ Wp 119 124 (ls) (.ref (R i 3) :: st) (n, sl, C, Z, I, L, R) Q)) ∧
  (∀ (ls : Lo) (st : List Value) (h : Hp) (Q : Option Value → Hp → Prop) (l0 : Option Value) (x : Int32), Wp 119 124 (l0 :: some (.int x) :: ls) (st) h Q ↔ Wp 119 125 (l0 :: some (.int x) :: ls) (.int x :: st) h Q) ∧
  (∀ (ls : Lo) (st : List Value) (n sl : Nat) (C Z : Nat → Nat) (I : Nat → Nat → Int32) (L : Nat → Nat → Int64) (R : Nat → Nat → Nat) (Q : Option Value → Hp → Prop) (i : Nat) (y : Int32), Wp 119 125 (ls) (.int y :: .ref i :: st) (n, sl, C, Z, I, L, R) Q ↔ ((inb y (Z i) = true ∧ C i = 21) ∧ Wp 119 126 (ls) (.int (I i (ix y)) :: st) (n, sl, C, Z, I, L, R) Q)) ∧
  (∀ (ls : Lo) (st : List Value) (h : Hp) (Q : Option Value → Hp → Prop) (x y : Int32), Wp 119 126 (ls) (.int y :: .int x :: st) h Q ↔ Wp 119 127 (ls) (.int (x * y) :: st) h Q) ∧
  (∀ (ls : Lo) (st : List Value) (h : Hp) (Q : Option Value → Hp → Prop)  (i : Nat), Wp 119 127 (some (.ref i) :: ls) (st) h Q ↔ Wp 119 128 (some (.ref i) :: ls) (.ref i :: st) h Q) ∧
  (∀ (ls : Lo) (st : List Value) (n sl : Nat) (C Z : Nat → Nat) (I : Nat → Nat → Int32) (L : Nat → Nat → Int64) (R : Nat → Nat → Nat) (Q : Option Value → Hp → Prop) (i : Nat), Wp 119 128 (ls) (.ref i :: st) (n, sl, C, Z, I, L, R) Q ↔ (C i = 11 ∧ Wp 119 131 (ls) (.ref (R i 6) :: st) (n, sl, C, Z, I, L, R) Q)) ∧
  (∀ (ls : Lo) (st : List Value) (h : Hp) (Q : Option Value → Hp → Prop), Wp 119 131 (ls) (st) h Q ↔ Wp 119 132 (ls) (.int (3) :: st) h Q) ∧
  (∀ (ls : Lo) (st : List Value) (h : Hp) (Q : Option Value → Hp → Prop) (l0 : Option Value) (x : Int32), Wp 119 132 (l0 :: some (.int x) :: ls) (st) h Q ↔ Wp 119 133 (l0 :: some (.int x) :: ls) (.int x :: st) h Q) ∧
  (∀ (ls : Lo) (st : List Value) (h : Hp) (Q : Option Value → Hp → Prop) (x y : Int32), Wp 119 133 (ls) (.int y :: .int x :: st) h Q ↔ Wp 119 134 (ls) (.int (x * y) :: st) h Q) ∧
  (∀ (ls : Lo) (st : List Value) (h : Hp) (Q : Option Value → Hp → Prop) (l0 l1 l2 : Option Value) (x : Int32), Wp 119 134 (l0 :: l1 :: l2 :: some (.int x) :: ls) (st) h Q ↔ Wp 119 135 (l0 :: l1 :: l2 :: some (.int x) :: ls) (.int x :: st) h Q) ∧
  (∀ (ls : Lo) (st : List Value) (h : Hp) (Q : Option Value → Hp → Prop) (x y : Int32), Wp 119 135 (ls) (.int y :: .int x :: st) h Q ↔ Wp 119 136 (ls) (.int (x + y) :: st) h Q) ∧
  (∀ (ls : Lo) (st : List Value) (n sl : Nat) (C Z : Nat → Nat) (I : Nat → Nat → Int32) (L : Nat → Nat → Int64) (R : Nat → Nat → Nat) (Q : Option Value → Hp → Prop) (i : Nat) (y : Int32), Wp 119 136 (ls) (.int y :: .ref i :: st) (n, sl, C, Z, I, L, R) Q ↔ ((inb y (Z i) = true ∧ C i = 21) ∧ Wp 119 137 (ls) (.int (I i (ix y)) :: st) (n, sl, C, Z, I, L, R) Q)) ∧
  (∀ (ls : Lo) (st : List Value) (h : Hp) (Q : Option Value → Hp → Prop) (x y : Int32), Wp 119 137 (ls) (.int y :: .int x :: st) h Q ↔ Wp 119 138 (ls) (.int (x * y) :: st) h Q) ∧
  (∀ (ls : Lo) (st : List Value) (h : Hp) (Q : Option Value → Hp → Prop)  (i : Nat), Wp 119 138 (some (.ref i) :: ls) (st) h Q ↔ Wp 119 139 (some (.ref i) :: ls) (.ref i :: st) h Q) ∧
  (∀ (ls : Lo) (st : List Value) (n sl : Nat) (C Z : Nat → Nat) (I : Nat → Nat → Int32) (L : Nat → Nat → Int64) (R : Nat → Nat → Nat) (Q : Option Value → Hp → Prop) (i : Nat), Wp 119 139 (ls) (.ref i :: st) (n, sl, C, Z, I, L, R) Q ↔ (C i = 11 ∧ Wp 119 142 (ls) (.ref (R i 7) :: st) (n, sl, C, Z, I, L, R) Q)) ∧
  (∀ (ls : Lo) (st : List Value) (h : Hp) (Q : Option Value → Hp → Prop), Wp 119 142 (ls) (st) h Q ↔ Wp 119 143 (ls) (.int (3) :: st) h Q) ∧
  (∀ (ls : Lo) (st : List Value) (h : Hp) (Q : Option Value → Hp → Prop) (l0 : Option Value) (x : Int32), Wp 119 143 (l0 :: some (.int x) :: ls) (st) h Q ↔ Wp 119 144 (l0 :: some (.int x) :: ls) (.int x :: st) h Q) ∧
  (∀ (ls : Lo) (st : List Value) (h : Hp) (Q : Option Value → Hp → Prop) (x y : Int32), Wp 119 144 (ls) (.int y :: .int x :: st) h Q ↔ Wp 119 145 (ls) (.int (x * y) :: st) h Q) ∧
  (∀ (ls : Lo) (st : List Value) (h : Hp) (Q : Option Value → Hp → Prop) (l0 l1 l2 l3 : Option Value) (x : Int32), Wp 119 145 (l0 :: l1 :: l2 :: l3 :: some (.int x) :: ls) (st) h Q ↔ Wp 119 147 (l0 :: l1 :: l2 :: l3 :: some (.int x) :: ls) (.int x :: st) h Q) ∧
  (∀ (ls : Lo) (st : List Value) (h : Hp) (Q : Option Value → Hp → Prop) (x y : Int32), Wp 119 147 (ls) (.int y :: .int x :: st) h Q ↔ Wp 119 148 (ls) (.int (x + y) :: st) h Q) ∧
  (∀ (ls : Lo) (st : List Value) (n sl : Nat) (C Z : Nat → Nat) (I : Nat → Nat → Int32) (L : Nat → Nat → Int64) (R : Nat → Nat → Nat) (Q : Option Value → Hp → Prop) (i : Nat) (y : Int32), Wp 119 148 (ls) (.int y :: .ref i :: st) (n, sl, C, Z, I, L, R) Q ↔ ((inb y (Z i) = true ∧ C i = 21) ∧ Wp 119 149 (ls) (.int (I i (ix y)) :: st) (n, sl, C, Z, I, L, R) Q)) := ⟨by intro ls st h Q l0 l1 l2 l3 x; exact e_iload d119_114 rfl,
  by intro ls st n sl C Z I L R Q x0 x1 x2 i hh; exact e_iv (k2 := 104) (c := 11) (as := [.int x0, .int x1, .int x2]) d119_116 rfl (by decide) rfl rfl (by decide +kernel) (Nat.le_of_ble_eq_true rfl) rfl hh,
  by intro ls st h Q l0 l1 x; exact e_iload_n d119_119 rfl,
  by intro ls st h Q i; exact e_aload_n d119_120 rfl,
  by intro ls st n sl C Z I L R Q i; exact e_get (g := 10) (s := 3) (ty := 2) d119_121 rfl rfl (inG_ne (by decide)),
  by intro ls st h Q l0 x; exact e_iload_n d119_124 rfl,
  by intro ls st n sl C Z I L R Q i y; exact e_iald d119_125,
  by intro ls st h Q x y; exact e_imul d119_126,
  by intro ls st h Q i; exact e_aload_n d119_127 rfl,
  by intro ls st n sl C Z I L R Q i; exact e_get (g := 10) (s := 6) (ty := 2) d119_128 rfl rfl (inG_ne (by decide)),
  by intro ls st h Q; exact e_iconst d119_131 rfl,
  by intro ls st h Q l0 x; exact e_iload_n d119_132 rfl,
  by intro ls st h Q x y; exact e_imul d119_133,
  by intro ls st h Q l0 l1 l2 x; exact e_iload_n d119_134 rfl,
  by intro ls st h Q x y; exact e_iadd d119_135,
  by intro ls st n sl C Z I L R Q i y; exact e_iald d119_136,
  by intro ls st h Q x y; exact e_imul d119_137,
  by intro ls st h Q i; exact e_aload_n d119_138 rfl,
  by intro ls st n sl C Z I L R Q i; exact e_get (g := 10) (s := 7) (ty := 2) d119_139 rfl rfl (inG_ne (by decide)),
  by intro ls st h Q; exact e_iconst d119_142 rfl,
  by intro ls st h Q l0 x; exact e_iload_n d119_143 rfl,
  by intro ls st h Q x y; exact e_imul d119_144,
  by intro ls st h Q l0 l1 l2 l3 x; exact e_iload d119_145 rfl,
  by intro ls st h Q x y; exact e_iadd d119_147,
  by intro ls st n sl C Z I L R Q i y; exact e_iald d119_148⟩
set_option maxRecDepth 20000 in
theorem S119_4 : (∀ (ls : Lo) (st : List Value) (h : Hp) (Q : Option Value → Hp → Prop) (x y : Int32), Wp 119 149 (ls) (.int y :: .int x :: st) h Q ↔ Wp 119 150 (ls) (.int (x * y) :: st) h Q) ∧
  (∀ (ls : Lo) (st : List Value) (h : Hp) (Q : Option Value → Hp → Prop) (x y : Int32), Wp 119 150 (ls) (.int y :: .int x :: st) h Q ↔ Wp 119 151 (ls) (.int (x + y) :: st) h Q) ∧
  (∀ (ls : Lo) (st : List Value) (n sl : Nat) (C Z : Nat → Nat) (I : Nat → Nat → Int32) (L : Nat → Nat → Int64) (R : Nat → Nat → Nat) (Q : Option Value → Hp → Prop) (i : Nat) (x y : Int32), Wp 119 151 (ls) (.int x :: .int y :: .ref i :: st) (n, sl, C, Z, I, L, R) Q ↔ ((inb y (Z i) = true ∧ C i = 21) ∧ Wp 119 152 (ls) (st) (n, sl, C, Z, u2 I i (ix y) x, L, R) Q)) ∧
  (∀ (ls : Lo) (st : List Value) (h : Hp) (Q : Option Value → Hp → Prop) (l0 l1 l2 l3 : Option Value) (x : Int32), Wp 119 152 (l0 :: l1 :: l2 :: l3 :: some (.int x) :: ls) (st) h Q ↔ Wp 119 155 (l0 :: l1 :: l2 :: clr l3 :: some (.int (x + (1))) :: ls) (st) h Q) ∧
  (∀ (ls : Lo) (st : List Value) (h : Hp) (Q : Option Value → Hp → Prop), Wp 119 155 (ls) (st) h Q ↔ Wp 119 90 (ls) (st) h Q) ∧
  (∀ (ls : Lo) (st : List Value) (h : Hp) (Q : Option Value → Hp → Prop) (l0 l1 l2 : Option Value) (x : Int32), Wp 119 158 (l0 :: l1 :: l2 :: some (.int x) :: ls) (st) h Q ↔ Wp 119 161 (l0 :: l1 :: clr l2 :: some (.int (x + (1))) :: ls) (st) h Q) ∧
  (∀ (ls : Lo) (st : List Value) (h : Hp) (Q : Option Value → Hp → Prop), Wp 119 161 (ls) (st) h Q ↔ Wp 119 45 (ls) (st) h Q) ∧
  (∀ (ls : Lo) (st : List Value) (h : Hp) (Q : Option Value → Hp → Prop)  (i : Nat), Wp 119 164 (some (.ref i) :: ls) (st) h Q ↔ Wp 119 165 (some (.ref i) :: ls) (.ref i :: st) h Q) ∧
  (∀ (ls : Lo) (st : List Value) (h : Hp) (Q : Option Value → Hp → Prop), Wp 119 165 (ls) (st) h Q ↔ Wp 119 166 (ls) (.int (2) :: st) h Q) ∧
  (∀ (ls : Lo) (st : List Value) (h : Hp) (Q : Option Value → Hp → Prop)  (i : Nat), Wp 119 166 (some (.ref i) :: ls) (st) h Q ↔ Wp 119 167 (some (.ref i) :: ls) (.ref i :: st) h Q) ∧
  (∀ (ls : Lo) (st : List Value) (n sl : Nat) (C Z : Nat → Nat) (I : Nat → Nat → Int32) (L : Nat → Nat → Int64) (R : Nat → Nat → Nat) (Q : Option Value → Hp → Prop) (i : Nat), Wp 119 167 (ls) (.ref i :: st) (n, sl, C, Z, I, L, R) Q ↔ (C i = 11 ∧ Wp 119 170 (ls) (.ref (R i 2) :: st) (n, sl, C, Z, I, L, R) Q)) ∧
  (∀ (ls : Lo) (st : List Value) (h : Hp) (Q : Option Value → Hp → Prop) (l0 : Option Value) (x : Int32), Wp 119 170 (l0 :: some (.int x) :: ls) (st) h Q ↔ Wp 119 171 (l0 :: some (.int x) :: ls) (.int x :: st) h Q) ∧
  (∀ (ls : Lo) (st : List Value) (n sl : Nat) (C Z : Nat → Nat) (I : Nat → Nat → Int32) (L : Nat → Nat → Int64) (R : Nat → Nat → Nat) (Q : Option Value → Hp → Prop) (i : Nat) (y : Int32), Wp 119 171 (ls) (.int y :: .ref i :: st) (n, sl, C, Z, I, L, R) Q ↔ ((inb y (Z i) = true ∧ C i = 21) ∧ Wp 119 172 (ls) (.int (I i (ix y)) :: st) (n, sl, C, Z, I, L, R) Q)) ∧
  (∀ (ls : Lo) (st : List Value) (h : Hp) (Q : Option Value → Hp → Prop)  (i : Nat), Wp 119 172 (some (.ref i) :: ls) (st) h Q ↔ Wp 119 173 (some (.ref i) :: ls) (.ref i :: st) h Q) ∧
  (∀ (ls : Lo) (st : List Value) (n sl : Nat) (C Z : Nat → Nat) (I : Nat → Nat → Int32) (L : Nat → Nat → Int64) (R : Nat → Nat → Nat) (Q : Option Value → Hp → Prop) (i : Nat), Wp 119 173 (ls) (.ref i :: st) (n, sl, C, Z, I, L, R) Q ↔ (C i = 11 ∧ Wp 119 176 (ls) (.ref (R i 3) :: st) (n, sl, C, Z, I, L, R) Q)) ∧
  (∀ (ls : Lo) (st : List Value) (h : Hp) (Q : Option Value → Hp → Prop) (l0 : Option Value) (x : Int32), Wp 119 176 (l0 :: some (.int x) :: ls) (st) h Q ↔ Wp 119 177 (l0 :: some (.int x) :: ls) (.int x :: st) h Q) ∧
  (∀ (ls : Lo) (st : List Value) (n sl : Nat) (C Z : Nat → Nat) (I : Nat → Nat → Int32) (L : Nat → Nat → Int64) (R : Nat → Nat → Nat) (Q : Option Value → Hp → Prop) (i : Nat) (y : Int32), Wp 119 177 (ls) (.int y :: .ref i :: st) (n, sl, C, Z, I, L, R) Q ↔ ((inb y (Z i) = true ∧ C i = 21) ∧ Wp 119 178 (ls) (.int (I i (ix y)) :: st) (n, sl, C, Z, I, L, R) Q)) ∧
  (∀ (ls : Lo) (st : List Value) (h : Hp) (Q : Option Value → Hp → Prop), Wp 119 178 (ls) (st) h Q ↔ Wp 119 179 (ls) (.int (0) :: st) h Q) ∧
  (∀ (ls : Lo) (st : List Value) (n sl : Nat) (C Z : Nat → Nat) (I : Nat → Nat → Int32) (L : Nat → Nat → Int64) (R : Nat → Nat → Nat) (Q : Option Value → Hp → Prop) (x0 : Int32) (x1 : Int32) (x2 : Int32) (x3 : Int32) (i : Nat), C i = 11 → (Wp 119 179 (ls) (.int x3 :: .int x2 :: .int x1 :: .int x0 :: .ref i :: st) (n, sl, C, Z, I, L, R) Q ↔ (wsum st ≤ 8 ∧ Call 115 [some (.ref i), some (.int x0), some (.int x1), some (.int x2), some (.int x3), none, none, none, none] (n, sl, C, Z, I, L, R) 119 182 ls st Q))) ∧
  (∀ (ls : Lo) (h : Hp) (Q : Option Value → Hp → Prop) (x : Int32), Wp 119 182 (ls) ([.int x]) h Q ↔ Q (some (.int x)) h) := ⟨by intro ls st h Q x y; exact e_imul d119_149,
  by intro ls st h Q x y; exact e_iadd d119_150,
  by intro ls st n sl C Z I L R Q i x y; exact e_iast d119_151,
  by intro ls st h Q l0 l1 l2 l3 x; exact e_iinc d119_152 rfl rfl rfl,
  by intro ls st h Q; exact e_goto d119_155 (by decide),
  by intro ls st h Q l0 l1 l2 x; exact e_iinc d119_158 rfl rfl rfl,
  by intro ls st h Q; exact e_goto d119_161 (by decide),
  by intro ls st h Q i; exact e_aload_n d119_164 rfl,
  by intro ls st h Q; exact e_iconst d119_165 rfl,
  by intro ls st h Q i; exact e_aload_n d119_166 rfl,
  by intro ls st n sl C Z I L R Q i; exact e_get (g := 10) (s := 2) (ty := 2) d119_167 rfl rfl (inG_ne (by decide)),
  by intro ls st h Q l0 x; exact e_iload_n d119_170 rfl,
  by intro ls st n sl C Z I L R Q i y; exact e_iald d119_171,
  by intro ls st h Q i; exact e_aload_n d119_172 rfl,
  by intro ls st n sl C Z I L R Q i; exact e_get (g := 10) (s := 3) (ty := 2) d119_173 rfl rfl (inG_ne (by decide)),
  by intro ls st h Q l0 x; exact e_iload_n d119_176 rfl,
  by intro ls st n sl C Z I L R Q i y; exact e_iald d119_177,
  by intro ls st h Q; exact e_iconst d119_178 rfl,
  by intro ls st n sl C Z I L R Q x0 x1 x2 x3 i hh; exact e_iv (k2 := 115) (c := 11) (as := [.int x0, .int x1, .int x2, .int x3]) d119_179 rfl (by decide) rfl rfl (by decide +kernel) (Nat.le_of_ble_eq_true rfl) rfl hh,
  by intros; exact e_rI (p := True) d119_182 rfl⟩
theorem d120_0 : decode (byt 120) 0 = .ok (.aload_n 0, 1) := by decide +kernel
theorem d120_1 : decode (byt 120) 1 = .ok (.iload_n 1, 1) := by decide +kernel
theorem d120_2 : decode (byt 120) 2 = .ok (.invokevirtual 105, 3) := by decide +kernel
theorem d120_5 : decode (byt 120) 5 = .ok (.ifCond .eq 19, 3) := by decide +kernel
theorem d120_8 : decode (byt 120) 8 = .ok (.iload_n 2, 1) := by decide +kernel
theorem d120_9 : decode (byt 120) 9 = .ok (.ifCond .lt 15, 3) := by decide +kernel
theorem d120_12 : decode (byt 120) 12 = .ok (.iload_n 2, 1) := by decide +kernel
theorem d120_13 : decode (byt 120) 13 = .ok (.iconst 1, 1) := by decide +kernel
theorem d120_14 : decode (byt 120) 14 = .ok (.aload_n 0, 1) := by decide +kernel
theorem d120_15 : decode (byt 120) 15 = .ok (.getfield 13, 3) := by decide +kernel
theorem d120_18 : decode (byt 120) 18 = .ok (.iload_n 1, 1) := by decide +kernel
theorem d120_19 : decode (byt 120) 19 = .ok (.iaload, 1) := by decide +kernel
theorem d120_20 : decode (byt 120) 20 = .ok (.ishl, 1) := by decide +kernel
theorem d120_21 : decode (byt 120) 21 = .ok (.if_icmp .lt 6, 3) := by decide +kernel
theorem d120_24 : decode (byt 120) 24 = .ok (.bipush (-2), 2) := by decide +kernel
theorem d120_26 : decode (byt 120) 26 = .ok (.ireturn, 1) := by decide +kernel
theorem d120_27 : decode (byt 120) 27 = .ok (.aload_n 0, 1) := by decide +kernel
theorem d120_28 : decode (byt 120) 28 = .ok (.getfield 7, 3) := by decide +kernel
theorem d120_31 : decode (byt 120) 31 = .ok (.iload_n 1, 1) := by decide +kernel
theorem d120_32 : decode (byt 120) 32 = .ok (.iaload, 1) := by decide +kernel
theorem d120_33 : decode (byt 120) 33 = .ok (.iconst 1, 1) := by decide +kernel
theorem d120_34 : decode (byt 120) 34 = .ok (.if_icmp .ne 6, 3) := by decide +kernel
theorem d120_37 : decode (byt 120) 37 = .ok (.bipush (-3), 2) := by decide +kernel
theorem d120_39 : decode (byt 120) 39 = .ok (.ireturn, 1) := by decide +kernel
theorem d120_40 : decode (byt 120) 40 = .ok (.iconst 0, 1) := by decide +kernel
theorem d120_41 : decode (byt 120) 41 = .ok (.istore_n 3, 1) := by decide +kernel
theorem d120_42 : decode (byt 120) 42 = .ok (.iconst 0, 1) := by decide +kernel
theorem d120_43 : decode (byt 120) 43 = .ok (.istore 4, 2) := by decide +kernel
theorem d120_45 : decode (byt 120) 45 = .ok (.iload 4, 2) := by decide +kernel
theorem d120_47 : decode (byt 120) 47 = .ok (.aload_n 0, 1) := by decide +kernel
theorem d120_48 : decode (byt 120) 48 = .ok (.getfield 13, 3) := by decide +kernel
theorem d120_51 : decode (byt 120) 51 = .ok (.iload_n 1, 1) := by decide +kernel
theorem d120_52 : decode (byt 120) 52 = .ok (.iaload, 1) := by decide +kernel
theorem d120_53 : decode (byt 120) 53 = .ok (.if_icmp .ge 114, 3) := by decide +kernel
theorem d120_56 : decode (byt 120) 56 = .ok (.iload_n 2, 1) := by decide +kernel
theorem d120_57 : decode (byt 120) 57 = .ok (.iload 4, 2) := by decide +kernel
theorem d120_59 : decode (byt 120) 59 = .ok (.ishr, 1) := by decide +kernel
theorem d120_60 : decode (byt 120) 60 = .ok (.iconst 1, 1) := by decide +kernel
theorem d120_61 : decode (byt 120) 61 = .ok (.iand, 1) := by decide +kernel
theorem d120_62 : decode (byt 120) 62 = .ok (.ifCond .ne 6, 3) := by decide +kernel
theorem d120_65 : decode (byt 120) 65 = .ok (.goto 96, 3) := by decide +kernel
theorem d120_68 : decode (byt 120) 68 = .ok (.aload_n 0, 1) := by decide +kernel
theorem d120_69 : decode (byt 120) 69 = .ok (.getfield 34, 3) := by decide +kernel
theorem d120_72 : decode (byt 120) 72 = .ok (.iload_n 3, 1) := by decide +kernel
theorem d120_73 : decode (byt 120) 73 = .ok (.aload_n 0, 1) := by decide +kernel
theorem d120_74 : decode (byt 120) 74 = .ok (.getfield 25, 3) := by decide +kernel
theorem d120_77 : decode (byt 120) 77 = .ok (.iconst 3, 1) := by decide +kernel
theorem d120_78 : decode (byt 120) 78 = .ok (.iload_n 1, 1) := by decide +kernel
theorem d120_79 : decode (byt 120) 79 = .ok (.imul, 1) := by decide +kernel
theorem d120_80 : decode (byt 120) 80 = .ok (.iload 4, 2) := by decide +kernel
theorem d120_82 : decode (byt 120) 82 = .ok (.iadd, 1) := by decide +kernel
theorem d120_83 : decode (byt 120) 83 = .ok (.iaload, 1) := by decide +kernel
theorem d120_84 : decode (byt 120) 84 = .ok (.iastore, 1) := by decide +kernel
theorem d120_85 : decode (byt 120) 85 = .ok (.aload_n 0, 1) := by decide +kernel
theorem d120_86 : decode (byt 120) 86 = .ok (.getfield 37, 3) := by decide +kernel
theorem d120_89 : decode (byt 120) 89 = .ok (.iload_n 3, 1) := by decide +kernel
theorem d120_90 : decode (byt 120) 90 = .ok (.aload_n 0, 1) := by decide +kernel
theorem d120_91 : decode (byt 120) 91 = .ok (.getfield 28, 3) := by decide +kernel
theorem d120_94 : decode (byt 120) 94 = .ok (.iconst 3, 1) := by decide +kernel
theorem d120_95 : decode (byt 120) 95 = .ok (.iload_n 1, 1) := by decide +kernel
theorem d120_96 : decode (byt 120) 96 = .ok (.imul, 1) := by decide +kernel
theorem d120_97 : decode (byt 120) 97 = .ok (.iload 4, 2) := by decide +kernel
theorem d120_99 : decode (byt 120) 99 = .ok (.iadd, 1) := by decide +kernel
theorem d120_100 : decode (byt 120) 100 = .ok (.iaload, 1) := by decide +kernel
theorem d120_101 : decode (byt 120) 101 = .ok (.iastore, 1) := by decide +kernel
theorem d120_102 : decode (byt 120) 102 = .ok (.iconst 0, 1) := by decide +kernel
theorem d120_103 : decode (byt 120) 103 = .ok (.istore 5, 2) := by decide +kernel
theorem d120_105 : decode (byt 120) 105 = .ok (.iconst 0, 1) := by decide +kernel
theorem d120_106 : decode (byt 120) 106 = .ok (.istore 6, 2) := by decide +kernel
theorem d120_108 : decode (byt 120) 108 = .ok (.iload 6, 2) := by decide +kernel
theorem d120_110 : decode (byt 120) 110 = .ok (.aload_n 0, 1) := by decide +kernel
theorem d120_111 : decode (byt 120) 111 = .ok (.getfield 13, 3) := by decide +kernel
theorem d120_114 : decode (byt 120) 114 = .ok (.iload_n 1, 1) := by decide +kernel
theorem d120_115 : decode (byt 120) 115 = .ok (.iaload, 1) := by decide +kernel
theorem d120_116 : decode (byt 120) 116 = .ok (.if_icmp .ge 42, 3) := by decide +kernel
theorem d120_119 : decode (byt 120) 119 = .ok (.iload_n 2, 1) := by decide +kernel
theorem d120_120 : decode (byt 120) 120 = .ok (.iload 6, 2) := by decide +kernel
theorem d120_122 : decode (byt 120) 122 = .ok (.ishr, 1) := by decide +kernel
theorem d120_123 : decode (byt 120) 123 = .ok (.iconst 1, 1) := by decide +kernel
theorem d120_124 : decode (byt 120) 124 = .ok (.iand, 1) := by decide +kernel
theorem d120_125 : decode (byt 120) 125 = .ok (.iconst 1, 1) := by decide +kernel
theorem d120_126 : decode (byt 120) 126 = .ok (.if_icmp .ne 26, 3) := by decide +kernel
theorem d120_129 : decode (byt 120) 129 = .ok (.aload_n 0, 1) := by decide +kernel
theorem d120_130 : decode (byt 120) 130 = .ok (.getfield 31, 3) := by decide +kernel
theorem d120_133 : decode (byt 120) 133 = .ok (.iconst 3, 1) := by decide +kernel
theorem d120_134 : decode (byt 120) 134 = .ok (.iload_n 3, 1) := by decide +kernel
theorem d120_135 : decode (byt 120) 135 = .ok (.imul, 1) := by decide +kernel
theorem d120_136 : decode (byt 120) 136 = .ok (.iload 5, 2) := by decide +kernel
theorem d120_138 : decode (byt 120) 138 = .ok (.iinc 5 1, 3) := by decide +kernel
theorem d120_141 : decode (byt 120) 141 = .ok (.iadd, 1) := by decide +kernel
theorem d120_142 : decode (byt 120) 142 = .ok (.aload_n 0, 1) := by decide +kernel
theorem d120_143 : decode (byt 120) 143 = .ok (.iload_n 1, 1) := by decide +kernel
theorem d120_144 : decode (byt 120) 144 = .ok (.iload 4, 2) := by decide +kernel
theorem d120_146 : decode (byt 120) 146 = .ok (.iload 6, 2) := by decide +kernel
theorem d120_148 : decode (byt 120) 148 = .ok (.invokevirtual 102, 3) := by decide +kernel
theorem d120_151 : decode (byt 120) 151 = .ok (.iastore, 1) := by decide +kernel
theorem d120_152 : decode (byt 120) 152 = .ok (.iinc 6 1, 3) := by decide +kernel
theorem d120_155 : decode (byt 120) 155 = .ok (.goto (-47), 3) := by decide +kernel
theorem d120_158 : decode (byt 120) 158 = .ok (.iinc 3 1, 3) := by decide +kernel
theorem d120_161 : decode (byt 120) 161 = .ok (.iinc 4 1, 3) := by decide +kernel
theorem d120_164 : decode (byt 120) 164 = .ok (.goto (-119), 3) := by decide +kernel
theorem d120_167 : decode (byt 120) 167 = .ok (.aload_n 0, 1) := by decide +kernel
theorem d120_168 : decode (byt 120) 168 = .ok (.iconst 3, 1) := by decide +kernel
theorem d120_169 : decode (byt 120) 169 = .ok (.iload_n 3, 1) := by decide +kernel
theorem d120_170 : decode (byt 120) 170 = .ok (.aload_n 0, 1) := by decide +kernel
theorem d120_171 : decode (byt 120) 171 = .ok (.getfield 16, 3) := by decide +kernel
theorem d120_174 : decode (byt 120) 174 = .ok (.iload_n 1, 1) := by decide +kernel
theorem d120_175 : decode (byt 120) 175 = .ok (.iaload, 1) := by decide +kernel
theorem d120_176 : decode (byt 120) 176 = .ok (.aload_n 0, 1) := by decide +kernel
theorem d120_177 : decode (byt 120) 177 = .ok (.getfield 19, 3) := by decide +kernel
theorem d120_180 : decode (byt 120) 180 = .ok (.iload_n 1, 1) := by decide +kernel
theorem d120_181 : decode (byt 120) 181 = .ok (.iaload, 1) := by decide +kernel
theorem d120_182 : decode (byt 120) 182 = .ok (.invokevirtual 121, 3) := by decide +kernel
theorem d120_185 : decode (byt 120) 185 = .ok (.ireturn, 1) := by decide +kernel
set_option maxRecDepth 20000 in
theorem S120_0 : (∀ (ls : Lo) (st : List Value) (h : Hp) (Q : Option Value → Hp → Prop)  (i : Nat), Wp 120 0 (some (.ref i) :: ls) (st) h Q ↔ Wp 120 1 (some (.ref i) :: ls) (.ref i :: st) h Q) ∧
  (∀ (ls : Lo) (st : List Value) (h : Hp) (Q : Option Value → Hp → Prop) (l0 : Option Value) (x : Int32), Wp 120 1 (l0 :: some (.int x) :: ls) (st) h Q ↔ Wp 120 2 (l0 :: some (.int x) :: ls) (.int x :: st) h Q) ∧
  (∀ (ls : Lo) (st : List Value) (n sl : Nat) (C Z : Nat → Nat) (I : Nat → Nat → Int32) (L : Nat → Nat → Int64) (R : Nat → Nat → Nat) (Q : Option Value → Hp → Prop) (x0 : Int32) (i : Nat), C i = 11 → (Wp 120 2 (ls) (.int x0 :: .ref i :: st) (n, sl, C, Z, I, L, R) Q ↔ (wsum st ≤ 8 ∧ Call 103 [some (.ref i), some (.int x0)] (n, sl, C, Z, I, L, R) 120 5 ls st Q))) ∧
  (∀ (ls : Lo) (st : List Value) (h : Hp) (Q : Option Value → Hp → Prop) (x : Int32), Wp 120 5 (ls) (.int x :: st) h Q ↔ Br 120 24 8 ls st h Q (x = 0)) ∧
  (∀ (ls : Lo) (st : List Value) (h : Hp) (Q : Option Value → Hp → Prop) (l0 l1 : Option Value) (x : Int32), Wp 120 8 (l0 :: l1 :: some (.int x) :: ls) (st) h Q ↔ Wp 120 9 (l0 :: l1 :: some (.int x) :: ls) (.int x :: st) h Q) ∧
  (∀ (ls : Lo) (st : List Value) (h : Hp) (Q : Option Value → Hp → Prop) (x : Int32), Wp 120 9 (ls) (.int x :: st) h Q ↔ Br 120 24 12 ls st h Q (x < 0)) ∧
  (∀ (ls : Lo) (st : List Value) (h : Hp) (Q : Option Value → Hp → Prop) (l0 l1 : Option Value) (x : Int32), Wp 120 12 (l0 :: l1 :: some (.int x) :: ls) (st) h Q ↔ Wp 120 13 (l0 :: l1 :: some (.int x) :: ls) (.int x :: st) h Q) ∧
  (∀ (ls : Lo) (st : List Value) (h : Hp) (Q : Option Value → Hp → Prop), Wp 120 13 (ls) (st) h Q ↔ Wp 120 14 (ls) (.int (1) :: st) h Q) ∧
  (∀ (ls : Lo) (st : List Value) (h : Hp) (Q : Option Value → Hp → Prop)  (i : Nat), Wp 120 14 (some (.ref i) :: ls) (st) h Q ↔ Wp 120 15 (some (.ref i) :: ls) (.ref i :: st) h Q) ∧
  (∀ (ls : Lo) (st : List Value) (n sl : Nat) (C Z : Nat → Nat) (I : Nat → Nat → Int32) (L : Nat → Nat → Int64) (R : Nat → Nat → Nat) (Q : Option Value → Hp → Prop) (i : Nat), Wp 120 15 (ls) (.ref i :: st) (n, sl, C, Z, I, L, R) Q ↔ (C i = 11 ∧ Wp 120 18 (ls) (.ref (R i 2) :: st) (n, sl, C, Z, I, L, R) Q)) ∧
  (∀ (ls : Lo) (st : List Value) (h : Hp) (Q : Option Value → Hp → Prop) (l0 : Option Value) (x : Int32), Wp 120 18 (l0 :: some (.int x) :: ls) (st) h Q ↔ Wp 120 19 (l0 :: some (.int x) :: ls) (.int x :: st) h Q) ∧
  (∀ (ls : Lo) (st : List Value) (n sl : Nat) (C Z : Nat → Nat) (I : Nat → Nat → Int32) (L : Nat → Nat → Int64) (R : Nat → Nat → Nat) (Q : Option Value → Hp → Prop) (i : Nat) (y : Int32), Wp 120 19 (ls) (.int y :: .ref i :: st) (n, sl, C, Z, I, L, R) Q ↔ ((inb y (Z i) = true ∧ C i = 21) ∧ Wp 120 20 (ls) (.int (I i (ix y)) :: st) (n, sl, C, Z, I, L, R) Q)) ∧
  (∀ (ls : Lo) (st : List Value) (h : Hp) (Q : Option Value → Hp → Prop) (x y : Int32), Wp 120 20 (ls) (.int y :: .int x :: st) h Q ↔ Wp 120 21 (ls) (.int (x <<< (y &&& 31)) :: st) h Q) ∧
  (∀ (ls : Lo) (st : List Value) (h : Hp) (Q : Option Value → Hp → Prop) (x y : Int32), Wp 120 21 (ls) (.int y :: .int x :: st) h Q ↔ Br 120 27 24 ls st h Q (x < y)) ∧
  (∀ (ls : Lo) (st : List Value) (h : Hp) (Q : Option Value → Hp → Prop), Wp 120 24 (ls) (st) h Q ↔ Wp 120 26 (ls) (.int (-2) :: st) h Q) ∧
  (∀ (ls : Lo) (h : Hp) (Q : Option Value → Hp → Prop) (x : Int32), Wp 120 26 (ls) ([.int x]) h Q ↔ Q (some (.int x)) h) ∧
  (∀ (ls : Lo) (st : List Value) (h : Hp) (Q : Option Value → Hp → Prop)  (i : Nat), Wp 120 27 (some (.ref i) :: ls) (st) h Q ↔ Wp 120 28 (some (.ref i) :: ls) (.ref i :: st) h Q) ∧
  (∀ (ls : Lo) (st : List Value) (n sl : Nat) (C Z : Nat → Nat) (I : Nat → Nat → Int32) (L : Nat → Nat → Int64) (R : Nat → Nat → Nat) (Q : Option Value → Hp → Prop) (i : Nat), Wp 120 28 (ls) (.ref i :: st) (n, sl, C, Z, I, L, R) Q ↔ (C i = 11 ∧ Wp 120 31 (ls) (.ref (R i 1) :: st) (n, sl, C, Z, I, L, R) Q)) ∧
  (∀ (ls : Lo) (st : List Value) (h : Hp) (Q : Option Value → Hp → Prop) (l0 : Option Value) (x : Int32), Wp 120 31 (l0 :: some (.int x) :: ls) (st) h Q ↔ Wp 120 32 (l0 :: some (.int x) :: ls) (.int x :: st) h Q) ∧
  (∀ (ls : Lo) (st : List Value) (n sl : Nat) (C Z : Nat → Nat) (I : Nat → Nat → Int32) (L : Nat → Nat → Int64) (R : Nat → Nat → Nat) (Q : Option Value → Hp → Prop) (i : Nat) (y : Int32), Wp 120 32 (ls) (.int y :: .ref i :: st) (n, sl, C, Z, I, L, R) Q ↔ ((inb y (Z i) = true ∧ C i = 21) ∧ Wp 120 33 (ls) (.int (I i (ix y)) :: st) (n, sl, C, Z, I, L, R) Q)) ∧
  (∀ (ls : Lo) (st : List Value) (h : Hp) (Q : Option Value → Hp → Prop), Wp 120 33 (ls) (st) h Q ↔ Wp 120 34 (ls) (.int (1) :: st) h Q) ∧
  (∀ (ls : Lo) (st : List Value) (h : Hp) (Q : Option Value → Hp → Prop) (x y : Int32), Wp 120 34 (ls) (.int y :: .int x :: st) h Q ↔ Br 120 40 37 ls st h Q (¬ x = y)) ∧
  (∀ (ls : Lo) (st : List Value) (h : Hp) (Q : Option Value → Hp → Prop), Wp 120 37 (ls) (st) h Q ↔ Wp 120 39 (ls) (.int (-3) :: st) h Q) ∧
  (∀ (ls : Lo) (h : Hp) (Q : Option Value → Hp → Prop) (x : Int32), Wp 120 39 (ls) ([.int x]) h Q ↔ Q (some (.int x)) h) ∧
  (∀ (ls : Lo) (st : List Value) (h : Hp) (Q : Option Value → Hp → Prop), Wp 120 40 (ls) (st) h Q ↔ Wp 120 41 (ls) (.int (0) :: st) h Q) := ⟨by intro ls st h Q i; exact e_aload_n d120_0 rfl,
  by intro ls st h Q l0 x; exact e_iload_n d120_1 rfl,
  by intro ls st n sl C Z I L R Q x0 i hh; exact e_iv (k2 := 103) (c := 11) (as := [.int x0]) d120_2 rfl (by decide) rfl rfl (by decide +kernel) (Nat.le_of_ble_eq_true rfl) rfl hh,
  by intro ls st h Q x; exact e_if d120_5 (by decide) c_eq,
  by intro ls st h Q l0 l1 x; exact e_iload_n d120_8 rfl,
  by intro ls st h Q x; exact e_if d120_9 (by decide) c_lt,
  by intro ls st h Q l0 l1 x; exact e_iload_n d120_12 rfl,
  by intro ls st h Q; exact e_iconst d120_13 rfl,
  by intro ls st h Q i; exact e_aload_n d120_14 rfl,
  by intro ls st n sl C Z I L R Q i; exact e_get (g := 10) (s := 2) (ty := 2) d120_15 rfl rfl (inG_ne (by decide)),
  by intro ls st h Q l0 x; exact e_iload_n d120_18 rfl,
  by intro ls st n sl C Z I L R Q i y; exact e_iald d120_19,
  by intro ls st h Q x y; exact e_ishl d120_20,
  by intro ls st h Q x y; exact e_ic d120_21 (by decide) c_lt,
  by intro ls st h Q; exact e_bipush d120_24 rfl,
  by intros; exact e_rI (p := True) d120_26 rfl,
  by intro ls st h Q i; exact e_aload_n d120_27 rfl,
  by intro ls st n sl C Z I L R Q i; exact e_get (g := 10) (s := 1) (ty := 2) d120_28 rfl rfl (inG_ne (by decide)),
  by intro ls st h Q l0 x; exact e_iload_n d120_31 rfl,
  by intro ls st n sl C Z I L R Q i y; exact e_iald d120_32,
  by intro ls st h Q; exact e_iconst d120_33 rfl,
  by intro ls st h Q x y; exact e_ic d120_34 (by decide) c_ne,
  by intro ls st h Q; exact e_bipush d120_37 rfl,
  by intros; exact e_rI (p := True) d120_39 rfl,
  by intro ls st h Q; exact e_iconst d120_40 rfl⟩
set_option maxRecDepth 20000 in
theorem S120_1 : (∀ (ls : Lo) (st : List Value) (h : Hp) (Q : Option Value → Hp → Prop) (l0 l1 l2 l3 : Option Value) (x : Int32), Wp 120 41 (l0 :: l1 :: l2 :: l3 :: ls) (.int x :: st) h Q ↔ Wp 120 42 (l0 :: l1 :: clr l2 :: some (.int x) :: ls) (st) h Q) ∧
  (∀ (ls : Lo) (st : List Value) (h : Hp) (Q : Option Value → Hp → Prop), Wp 120 42 (ls) (st) h Q ↔ Wp 120 43 (ls) (.int (0) :: st) h Q) ∧
  (∀ (ls : Lo) (st : List Value) (h : Hp) (Q : Option Value → Hp → Prop) (l0 l1 l2 l3 l4 : Option Value) (x : Int32), Wp 120 43 (l0 :: l1 :: l2 :: l3 :: l4 :: ls) (.int x :: st) h Q ↔ Wp 120 45 (l0 :: l1 :: l2 :: clr l3 :: some (.int x) :: ls) (st) h Q) ∧
  (∀ (ls : Lo) (st : List Value) (h : Hp) (Q : Option Value → Hp → Prop) (l0 l1 l2 l3 : Option Value) (x : Int32), Wp 120 45 (l0 :: l1 :: l2 :: l3 :: some (.int x) :: ls) (st) h Q ↔ Wp 120 47 (l0 :: l1 :: l2 :: l3 :: some (.int x) :: ls) (.int x :: st) h Q) ∧
  (∀ (ls : Lo) (st : List Value) (h : Hp) (Q : Option Value → Hp → Prop)  (i : Nat), Wp 120 47 (some (.ref i) :: ls) (st) h Q ↔ Wp 120 48 (some (.ref i) :: ls) (.ref i :: st) h Q) ∧
  (∀ (ls : Lo) (st : List Value) (n sl : Nat) (C Z : Nat → Nat) (I : Nat → Nat → Int32) (L : Nat → Nat → Int64) (R : Nat → Nat → Nat) (Q : Option Value → Hp → Prop) (i : Nat), Wp 120 48 (ls) (.ref i :: st) (n, sl, C, Z, I, L, R) Q ↔ (C i = 11 ∧ Wp 120 51 (ls) (.ref (R i 2) :: st) (n, sl, C, Z, I, L, R) Q)) ∧
  (∀ (ls : Lo) (st : List Value) (h : Hp) (Q : Option Value → Hp → Prop) (l0 : Option Value) (x : Int32), Wp 120 51 (l0 :: some (.int x) :: ls) (st) h Q ↔ Wp 120 52 (l0 :: some (.int x) :: ls) (.int x :: st) h Q) ∧
  (∀ (ls : Lo) (st : List Value) (n sl : Nat) (C Z : Nat → Nat) (I : Nat → Nat → Int32) (L : Nat → Nat → Int64) (R : Nat → Nat → Nat) (Q : Option Value → Hp → Prop) (i : Nat) (y : Int32), Wp 120 52 (ls) (.int y :: .ref i :: st) (n, sl, C, Z, I, L, R) Q ↔ ((inb y (Z i) = true ∧ C i = 21) ∧ Wp 120 53 (ls) (.int (I i (ix y)) :: st) (n, sl, C, Z, I, L, R) Q)) ∧
  (∀ (ls : Lo) (st : List Value) (h : Hp) (Q : Option Value → Hp → Prop) (x y : Int32), Wp 120 53 (ls) (.int y :: .int x :: st) h Q ↔ Br 120 167 56 ls st h Q (y ≤ x)) ∧
  (∀ (ls : Lo) (st : List Value) (h : Hp) (Q : Option Value → Hp → Prop) (l0 l1 : Option Value) (x : Int32), Wp 120 56 (l0 :: l1 :: some (.int x) :: ls) (st) h Q ↔ Wp 120 57 (l0 :: l1 :: some (.int x) :: ls) (.int x :: st) h Q) ∧
  (∀ (ls : Lo) (st : List Value) (h : Hp) (Q : Option Value → Hp → Prop) (l0 l1 l2 l3 : Option Value) (x : Int32), Wp 120 57 (l0 :: l1 :: l2 :: l3 :: some (.int x) :: ls) (st) h Q ↔ Wp 120 59 (l0 :: l1 :: l2 :: l3 :: some (.int x) :: ls) (.int x :: st) h Q) ∧
  (∀ (ls : Lo) (st : List Value) (h : Hp) (Q : Option Value → Hp → Prop) (x y : Int32), Wp 120 59 (ls) (.int y :: .int x :: st) h Q ↔ Wp 120 60 (ls) (.int (x >>> (y &&& 31)) :: st) h Q) ∧
  (∀ (ls : Lo) (st : List Value) (h : Hp) (Q : Option Value → Hp → Prop), Wp 120 60 (ls) (st) h Q ↔ Wp 120 61 (ls) (.int (1) :: st) h Q) ∧
  (∀ (ls : Lo) (st : List Value) (h : Hp) (Q : Option Value → Hp → Prop) (x y : Int32), Wp 120 61 (ls) (.int y :: .int x :: st) h Q ↔ Wp 120 62 (ls) (.int (x &&& y) :: st) h Q) ∧
  (∀ (ls : Lo) (st : List Value) (h : Hp) (Q : Option Value → Hp → Prop) (x : Int32), Wp 120 62 (ls) (.int x :: st) h Q ↔ Br 120 68 65 ls st h Q (¬ x = 0)) ∧
  (∀ (ls : Lo) (st : List Value) (h : Hp) (Q : Option Value → Hp → Prop), Wp 120 65 (ls) (st) h Q ↔ Wp 120 161 (ls) (st) h Q) ∧
  (∀ (ls : Lo) (st : List Value) (h : Hp) (Q : Option Value → Hp → Prop)  (i : Nat), Wp 120 68 (some (.ref i) :: ls) (st) h Q ↔ Wp 120 69 (some (.ref i) :: ls) (.ref i :: st) h Q) ∧
  (∀ (ls : Lo) (st : List Value) (n sl : Nat) (C Z : Nat → Nat) (I : Nat → Nat → Int32) (L : Nat → Nat → Int64) (R : Nat → Nat → Nat) (Q : Option Value → Hp → Prop) (i : Nat), Wp 120 69 (ls) (.ref i :: st) (n, sl, C, Z, I, L, R) Q ↔ (C i = 11 ∧ Wp 120 72 (ls) (.ref (R i 9) :: st) (n, sl, C, Z, I, L, R) Q)) ∧
  (∀ (ls : Lo) (st : List Value) (h : Hp) (Q : Option Value → Hp → Prop) (l0 l1 l2 : Option Value) (x : Int32), Wp 120 72 (l0 :: l1 :: l2 :: some (.int x) :: ls) (st) h Q ↔ Wp 120 73 (l0 :: l1 :: l2 :: some (.int x) :: ls) (.int x :: st) h Q) ∧
  (∀ (ls : Lo) (st : List Value) (h : Hp) (Q : Option Value → Hp → Prop)  (i : Nat), Wp 120 73 (some (.ref i) :: ls) (st) h Q ↔ Wp 120 74 (some (.ref i) :: ls) (.ref i :: st) h Q) ∧
  (∀ (ls : Lo) (st : List Value) (n sl : Nat) (C Z : Nat → Nat) (I : Nat → Nat → Int32) (L : Nat → Nat → Int64) (R : Nat → Nat → Nat) (Q : Option Value → Hp → Prop) (i : Nat), Wp 120 74 (ls) (.ref i :: st) (n, sl, C, Z, I, L, R) Q ↔ (C i = 11 ∧ Wp 120 77 (ls) (.ref (R i 6) :: st) (n, sl, C, Z, I, L, R) Q)) ∧
  (∀ (ls : Lo) (st : List Value) (h : Hp) (Q : Option Value → Hp → Prop), Wp 120 77 (ls) (st) h Q ↔ Wp 120 78 (ls) (.int (3) :: st) h Q) ∧
  (∀ (ls : Lo) (st : List Value) (h : Hp) (Q : Option Value → Hp → Prop) (l0 : Option Value) (x : Int32), Wp 120 78 (l0 :: some (.int x) :: ls) (st) h Q ↔ Wp 120 79 (l0 :: some (.int x) :: ls) (.int x :: st) h Q) ∧
  (∀ (ls : Lo) (st : List Value) (h : Hp) (Q : Option Value → Hp → Prop) (x y : Int32), Wp 120 79 (ls) (.int y :: .int x :: st) h Q ↔ Wp 120 80 (ls) (.int (x * y) :: st) h Q) ∧
  (∀ (ls : Lo) (st : List Value) (h : Hp) (Q : Option Value → Hp → Prop) (l0 l1 l2 l3 : Option Value) (x : Int32), Wp 120 80 (l0 :: l1 :: l2 :: l3 :: some (.int x) :: ls) (st) h Q ↔ Wp 120 82 (l0 :: l1 :: l2 :: l3 :: some (.int x) :: ls) (.int x :: st) h Q) := ⟨by intro ls st h Q l0 l1 l2 l3 x; exact e_istore_n d120_41 rfl,
  by intro ls st h Q; exact e_iconst d120_42 rfl,
  by intro ls st h Q l0 l1 l2 l3 l4 x; exact e_istore d120_43 rfl,
  by intro ls st h Q l0 l1 l2 l3 x; exact e_iload d120_45 rfl,
  by intro ls st h Q i; exact e_aload_n d120_47 rfl,
  by intro ls st n sl C Z I L R Q i; exact e_get (g := 10) (s := 2) (ty := 2) d120_48 rfl rfl (inG_ne (by decide)),
  by intro ls st h Q l0 x; exact e_iload_n d120_51 rfl,
  by intro ls st n sl C Z I L R Q i y; exact e_iald d120_52,
  by intro ls st h Q x y; exact e_ic d120_53 (by decide) c_ge,
  by intro ls st h Q l0 l1 x; exact e_iload_n d120_56 rfl,
  by intro ls st h Q l0 l1 l2 l3 x; exact e_iload d120_57 rfl,
  by intro ls st h Q x y; exact e_ishr d120_59,
  by intro ls st h Q; exact e_iconst d120_60 rfl,
  by intro ls st h Q x y; exact e_iand d120_61,
  by intro ls st h Q x; exact e_if d120_62 (by decide) c_ne,
  by intro ls st h Q; exact e_goto d120_65 (by decide),
  by intro ls st h Q i; exact e_aload_n d120_68 rfl,
  by intro ls st n sl C Z I L R Q i; exact e_get (g := 10) (s := 9) (ty := 2) d120_69 rfl rfl (inG_ne (by decide)),
  by intro ls st h Q l0 l1 l2 x; exact e_iload_n d120_72 rfl,
  by intro ls st h Q i; exact e_aload_n d120_73 rfl,
  by intro ls st n sl C Z I L R Q i; exact e_get (g := 10) (s := 6) (ty := 2) d120_74 rfl rfl (inG_ne (by decide)),
  by intro ls st h Q; exact e_iconst d120_77 rfl,
  by intro ls st h Q l0 x; exact e_iload_n d120_78 rfl,
  by intro ls st h Q x y; exact e_imul d120_79,
  by intro ls st h Q l0 l1 l2 l3 x; exact e_iload d120_80 rfl⟩
set_option maxRecDepth 20000 in
theorem S120_2 : (∀ (ls : Lo) (st : List Value) (h : Hp) (Q : Option Value → Hp → Prop) (x y : Int32), Wp 120 82 (ls) (.int y :: .int x :: st) h Q ↔ Wp 120 83 (ls) (.int (x + y) :: st) h Q) ∧
  (∀ (ls : Lo) (st : List Value) (n sl : Nat) (C Z : Nat → Nat) (I : Nat → Nat → Int32) (L : Nat → Nat → Int64) (R : Nat → Nat → Nat) (Q : Option Value → Hp → Prop) (i : Nat) (y : Int32), Wp 120 83 (ls) (.int y :: .ref i :: st) (n, sl, C, Z, I, L, R) Q ↔ ((inb y (Z i) = true ∧ C i = 21) ∧ Wp 120 84 (ls) (.int (I i (ix y)) :: st) (n, sl, C, Z, I, L, R) Q)) ∧
  (∀ (ls : Lo) (st : List Value) (n sl : Nat) (C Z : Nat → Nat) (I : Nat → Nat → Int32) (L : Nat → Nat → Int64) (R : Nat → Nat → Nat) (Q : Option Value → Hp → Prop) (i : Nat) (x y : Int32), Wp 120 84 (ls) (.int x :: .int y :: .ref i :: st) (n, sl, C, Z, I, L, R) Q ↔ ((inb y (Z i) = true ∧ C i = 21) ∧ Wp 120 85 (ls) (st) (n, sl, C, Z, u2 I i (ix y) x, L, R) Q)) ∧
  (∀ (ls : Lo) (st : List Value) (h : Hp) (Q : Option Value → Hp → Prop)  (i : Nat), Wp 120 85 (some (.ref i) :: ls) (st) h Q ↔ Wp 120 86 (some (.ref i) :: ls) (.ref i :: st) h Q) ∧
  (∀ (ls : Lo) (st : List Value) (n sl : Nat) (C Z : Nat → Nat) (I : Nat → Nat → Int32) (L : Nat → Nat → Int64) (R : Nat → Nat → Nat) (Q : Option Value → Hp → Prop) (i : Nat), Wp 120 86 (ls) (.ref i :: st) (n, sl, C, Z, I, L, R) Q ↔ (C i = 11 ∧ Wp 120 89 (ls) (.ref (R i 10) :: st) (n, sl, C, Z, I, L, R) Q)) ∧
  (∀ (ls : Lo) (st : List Value) (h : Hp) (Q : Option Value → Hp → Prop) (l0 l1 l2 : Option Value) (x : Int32), Wp 120 89 (l0 :: l1 :: l2 :: some (.int x) :: ls) (st) h Q ↔ Wp 120 90 (l0 :: l1 :: l2 :: some (.int x) :: ls) (.int x :: st) h Q) ∧
  (∀ (ls : Lo) (st : List Value) (h : Hp) (Q : Option Value → Hp → Prop)  (i : Nat), Wp 120 90 (some (.ref i) :: ls) (st) h Q ↔ Wp 120 91 (some (.ref i) :: ls) (.ref i :: st) h Q) ∧
  (∀ (ls : Lo) (st : List Value) (n sl : Nat) (C Z : Nat → Nat) (I : Nat → Nat → Int32) (L : Nat → Nat → Int64) (R : Nat → Nat → Nat) (Q : Option Value → Hp → Prop) (i : Nat), Wp 120 91 (ls) (.ref i :: st) (n, sl, C, Z, I, L, R) Q ↔ (C i = 11 ∧ Wp 120 94 (ls) (.ref (R i 7) :: st) (n, sl, C, Z, I, L, R) Q)) ∧
  (∀ (ls : Lo) (st : List Value) (h : Hp) (Q : Option Value → Hp → Prop), Wp 120 94 (ls) (st) h Q ↔ Wp 120 95 (ls) (.int (3) :: st) h Q) ∧
  (∀ (ls : Lo) (st : List Value) (h : Hp) (Q : Option Value → Hp → Prop) (l0 : Option Value) (x : Int32), Wp 120 95 (l0 :: some (.int x) :: ls) (st) h Q ↔ Wp 120 96 (l0 :: some (.int x) :: ls) (.int x :: st) h Q) ∧
  (∀ (ls : Lo) (st : List Value) (h : Hp) (Q : Option Value → Hp → Prop) (x y : Int32), Wp 120 96 (ls) (.int y :: .int x :: st) h Q ↔ Wp 120 97 (ls) (.int (x * y) :: st) h Q) ∧
  (∀ (ls : Lo) (st : List Value) (h : Hp) (Q : Option Value → Hp → Prop) (l0 l1 l2 l3 : Option Value) (x : Int32), Wp 120 97 (l0 :: l1 :: l2 :: l3 :: some (.int x) :: ls) (st) h Q ↔ Wp 120 99 (l0 :: l1 :: l2 :: l3 :: some (.int x) :: ls) (.int x :: st) h Q) ∧
  (∀ (ls : Lo) (st : List Value) (h : Hp) (Q : Option Value → Hp → Prop) (x y : Int32), Wp 120 99 (ls) (.int y :: .int x :: st) h Q ↔ Wp 120 100 (ls) (.int (x + y) :: st) h Q) ∧
  (∀ (ls : Lo) (st : List Value) (n sl : Nat) (C Z : Nat → Nat) (I : Nat → Nat → Int32) (L : Nat → Nat → Int64) (R : Nat → Nat → Nat) (Q : Option Value → Hp → Prop) (i : Nat) (y : Int32), Wp 120 100 (ls) (.int y :: .ref i :: st) (n, sl, C, Z, I, L, R) Q ↔ ((inb y (Z i) = true ∧ C i = 21) ∧ Wp 120 101 (ls) (.int (I i (ix y)) :: st) (n, sl, C, Z, I, L, R) Q)) ∧
  (∀ (ls : Lo) (st : List Value) (n sl : Nat) (C Z : Nat → Nat) (I : Nat → Nat → Int32) (L : Nat → Nat → Int64) (R : Nat → Nat → Nat) (Q : Option Value → Hp → Prop) (i : Nat) (x y : Int32), Wp 120 101 (ls) (.int x :: .int y :: .ref i :: st) (n, sl, C, Z, I, L, R) Q ↔ ((inb y (Z i) = true ∧ C i = 21) ∧ Wp 120 102 (ls) (st) (n, sl, C, Z, u2 I i (ix y) x, L, R) Q)) ∧
  (∀ (ls : Lo) (st : List Value) (h : Hp) (Q : Option Value → Hp → Prop), Wp 120 102 (ls) (st) h Q ↔ Wp 120 103 (ls) (.int (0) :: st) h Q) ∧
  (∀ (ls : Lo) (st : List Value) (h : Hp) (Q : Option Value → Hp → Prop) (l0 l1 l2 l3 l4 l5 : Option Value) (x : Int32), Wp 120 103 (l0 :: l1 :: l2 :: l3 :: l4 :: l5 :: ls) (.int x :: st) h Q ↔ Wp 120 105 (l0 :: l1 :: l2 :: l3 :: clr l4 :: some (.int x) :: ls) (st) h Q) ∧
  (∀ (ls : Lo) (st : List Value) (h : Hp) (Q : Option Value → Hp → Prop), Wp 120 105 (ls) (st) h Q ↔ Wp 120 106 (ls) (.int (0) :: st) h Q) ∧
  (∀ (ls : Lo) (st : List Value) (h : Hp) (Q : Option Value → Hp → Prop) (l0 l1 l2 l3 l4 l5 l6 : Option Value) (x : Int32), Wp 120 106 (l0 :: l1 :: l2 :: l3 :: l4 :: l5 :: l6 :: ls) (.int x :: st) h Q ↔ Wp 120 108 (l0 :: l1 :: l2 :: l3 :: l4 :: clr l5 :: some (.int x) :: ls) (st) h Q) ∧
  (∀ (ls : Lo) (st : List Value) (h : Hp) (Q : Option Value → Hp → Prop) (l0 l1 l2 l3 l4 l5 : Option Value) (x : Int32), Wp 120 108 (l0 :: l1 :: l2 :: l3 :: l4 :: l5 :: some (.int x) :: ls) (st) h Q ↔ Wp 120 110 (l0 :: l1 :: l2 :: l3 :: l4 :: l5 :: some (.int x) :: ls) (.int x :: st) h Q) ∧
  (∀ (ls : Lo) (st : List Value) (h : Hp) (Q : Option Value → Hp → Prop)  (i : Nat), Wp 120 110 (some (.ref i) :: ls) (st) h Q ↔ Wp 120 111 (some (.ref i) :: ls) (.ref i :: st) h Q) ∧
  (∀ (ls : Lo) (st : List Value) (n sl : Nat) (C Z : Nat → Nat) (I : Nat → Nat → Int32) (L : Nat → Nat → Int64) (R : Nat → Nat → Nat) (Q : Option Value → Hp → Prop) (i : Nat), Wp 120 111 (ls) (.ref i :: st) (n, sl, C, Z, I, L, R) Q ↔ (C i = 11 ∧ Wp 120 114 (ls) (.ref (R i 2) :: st) (n, sl, C, Z, I, L, R) Q)) ∧
  (∀ (ls : Lo) (st : List Value) (h : Hp) (Q : Option Value → Hp → Prop) (l0 : Option Value) (x : Int32), Wp 120 114 (l0 :: some (.int x) :: ls) (st) h Q ↔ Wp 120 115 (l0 :: some (.int x) :: ls) (.int x :: st) h Q) ∧
  (∀ (ls : Lo) (st : List Value) (n sl : Nat) (C Z : Nat → Nat) (I : Nat → Nat → Int32) (L : Nat → Nat → Int64) (R : Nat → Nat → Nat) (Q : Option Value → Hp → Prop) (i : Nat) (y : Int32), Wp 120 115 (ls) (.int y :: .ref i :: st) (n, sl, C, Z, I, L, R) Q ↔ ((inb y (Z i) = true ∧ C i = 21) ∧ Wp 120 116 (ls) (.int (I i (ix y)) :: st) (n, sl, C, Z, I, L, R) Q)) ∧
  (∀ (ls : Lo) (st : List Value) (h : Hp) (Q : Option Value → Hp → Prop) (x y : Int32), Wp 120 116 (ls) (.int y :: .int x :: st) h Q ↔ Br 120 158 119 ls st h Q (y ≤ x)) := ⟨by intro ls st h Q x y; exact e_iadd d120_82,
  by intro ls st n sl C Z I L R Q i y; exact e_iald d120_83,
  by intro ls st n sl C Z I L R Q i x y; exact e_iast d120_84,
  by intro ls st h Q i; exact e_aload_n d120_85 rfl,
  by intro ls st n sl C Z I L R Q i; exact e_get (g := 10) (s := 10) (ty := 2) d120_86 rfl rfl (inG_ne (by decide)),
  by intro ls st h Q l0 l1 l2 x; exact e_iload_n d120_89 rfl,
  by intro ls st h Q i; exact e_aload_n d120_90 rfl,
  by intro ls st n sl C Z I L R Q i; exact e_get (g := 10) (s := 7) (ty := 2) d120_91 rfl rfl (inG_ne (by decide)),
  by intro ls st h Q; exact e_iconst d120_94 rfl,
  by intro ls st h Q l0 x; exact e_iload_n d120_95 rfl,
  by intro ls st h Q x y; exact e_imul d120_96,
  by intro ls st h Q l0 l1 l2 l3 x; exact e_iload d120_97 rfl,
  by intro ls st h Q x y; exact e_iadd d120_99,
  by intro ls st n sl C Z I L R Q i y; exact e_iald d120_100,
  by intro ls st n sl C Z I L R Q i x y; exact e_iast d120_101,
  by intro ls st h Q; exact e_iconst d120_102 rfl,
  by intro ls st h Q l0 l1 l2 l3 l4 l5 x; exact e_istore d120_103 rfl,
  by intro ls st h Q; exact e_iconst d120_105 rfl,
  by intro ls st h Q l0 l1 l2 l3 l4 l5 l6 x; exact e_istore d120_106 rfl,
  by intro ls st h Q l0 l1 l2 l3 l4 l5 x; exact e_iload d120_108 rfl,
  by intro ls st h Q i; exact e_aload_n d120_110 rfl,
  by intro ls st n sl C Z I L R Q i; exact e_get (g := 10) (s := 2) (ty := 2) d120_111 rfl rfl (inG_ne (by decide)),
  by intro ls st h Q l0 x; exact e_iload_n d120_114 rfl,
  by intro ls st n sl C Z I L R Q i y; exact e_iald d120_115,
  by intro ls st h Q x y; exact e_ic d120_116 (by decide) c_ge⟩
set_option maxRecDepth 20000 in
theorem S120_3 : (∀ (ls : Lo) (st : List Value) (h : Hp) (Q : Option Value → Hp → Prop) (l0 l1 : Option Value) (x : Int32), Wp 120 119 (l0 :: l1 :: some (.int x) :: ls) (st) h Q ↔ Wp 120 120 (l0 :: l1 :: some (.int x) :: ls) (.int x :: st) h Q) ∧
  (∀ (ls : Lo) (st : List Value) (h : Hp) (Q : Option Value → Hp → Prop) (l0 l1 l2 l3 l4 l5 : Option Value) (x : Int32), Wp 120 120 (l0 :: l1 :: l2 :: l3 :: l4 :: l5 :: some (.int x) :: ls) (st) h Q ↔ Wp 120 122 (l0 :: l1 :: l2 :: l3 :: l4 :: l5 :: some (.int x) :: ls) (.int x :: st) h Q) ∧
  (∀ (ls : Lo) (st : List Value) (h : Hp) (Q : Option Value → Hp → Prop) (x y : Int32), Wp 120 122 (ls) (.int y :: .int x :: st) h Q ↔ Wp 120 123 (ls) (.int (x >>> (y &&& 31)) :: st) h Q) ∧
  (∀ (ls : Lo) (st : List Value) (h : Hp) (Q : Option Value → Hp → Prop), Wp 120 123 (ls) (st) h Q ↔ Wp 120 124 (ls) (.int (1) :: st) h Q) ∧
  (∀ (ls : Lo) (st : List Value) (h : Hp) (Q : Option Value → Hp → Prop) (x y : Int32), Wp 120 124 (ls) (.int y :: .int x :: st) h Q ↔ Wp 120 125 (ls) (.int (x &&& y) :: st) h Q) ∧
  (∀ (ls : Lo) (st : List Value) (h : Hp) (Q : Option Value → Hp → Prop), Wp 120 125 (ls) (st) h Q ↔ Wp 120 126 (ls) (.int (1) :: st) h Q) ∧
  (∀ (ls : Lo) (st : List Value) (h : Hp) (Q : Option Value → Hp → Prop) (x y : Int32), Wp 120 126 (ls) (.int y :: .int x :: st) h Q ↔ Br 120 152 129 ls st h Q (¬ x = y)) ∧
  (∀ (ls : Lo) (st : List Value) (h : Hp) (Q : Option Value → Hp → Prop)  (i : Nat), Wp 120 129 (some (.ref i) :: ls) (st) h Q ↔ Wp 120 130 (some (.ref i) :: ls) (.ref i :: st) h Q) ∧
  (∀ (ls : Lo) (st : List Value) (n sl : Nat) (C Z : Nat → Nat) (I : Nat → Nat → Int32) (L : Nat → Nat → Int64) (R : Nat → Nat → Nat) (Q : Option Value → Hp → Prop) (i : Nat), Wp 120 130 (ls) (.ref i :: st) (n, sl, C, Z, I, L, R) Q ↔ (C i = 11 ∧ Wp 120 133 (ls) (.ref (R i 8) :: st) (n, sl, C, Z, I, L, R) Q)) ∧
  (∀ (ls : Lo) (st : List Value) (h : Hp) (Q : Option Value → Hp → Prop), Wp 120 133 (ls) (st) h Q ↔ Wp 120 134 (ls) (.int (3) :: st) h Q) ∧
  (∀ (ls : Lo) (st : List Value) (h : Hp) (Q : Option Value → Hp → Prop) (l0 l1 l2 : Option Value) (x : Int32), Wp 120 134 (l0 :: l1 :: l2 :: some (.int x) :: ls) (st) h Q ↔ Wp 120 135 (l0 :: l1 :: l2 :: some (.int x) :: ls) (.int x :: st) h Q) ∧
  (∀ (ls : Lo) (st : List Value) (h : Hp) (Q : Option Value → Hp → Prop) (x y : Int32), Wp 120 135 (ls) (.int y :: .int x :: st) h Q ↔ Wp 120 136 (ls) (.int (x * y) :: st) h Q) ∧
  (∀ (ls : Lo) (st : List Value) (h : Hp) (Q : Option Value → Hp → Prop) (l0 l1 l2 l3 l4 : Option Value) (x : Int32), Wp 120 136 (l0 :: l1 :: l2 :: l3 :: l4 :: some (.int x) :: ls) (st) h Q ↔ Wp 120 138 (l0 :: l1 :: l2 :: l3 :: l4 :: some (.int x) :: ls) (.int x :: st) h Q) ∧
  (∀ (ls : Lo) (st : List Value) (h : Hp) (Q : Option Value → Hp → Prop) (l0 l1 l2 l3 l4 : Option Value) (x : Int32), Wp 120 138 (l0 :: l1 :: l2 :: l3 :: l4 :: some (.int x) :: ls) (st) h Q ↔ Wp 120 141 (l0 :: l1 :: l2 :: l3 :: clr l4 :: some (.int (x + (1))) :: ls) (st) h Q) ∧
  (∀ (ls : Lo) (st : List Value) (h : Hp) (Q : Option Value → Hp → Prop) (x y : Int32), Wp 120 141 (ls) (.int y :: .int x :: st) h Q ↔ Wp 120 142 (ls) (.int (x + y) :: st) h Q) ∧
  (∀ (ls : Lo) (st : List Value) (h : Hp) (Q : Option Value → Hp → Prop)  (i : Nat), Wp 120 142 (some (.ref i) :: ls) (st) h Q ↔ Wp 120 143 (some (.ref i) :: ls) (.ref i :: st) h Q) ∧
  (∀ (ls : Lo) (st : List Value) (h : Hp) (Q : Option Value → Hp → Prop) (l0 : Option Value) (x : Int32), Wp 120 143 (l0 :: some (.int x) :: ls) (st) h Q ↔ Wp 120 144 (l0 :: some (.int x) :: ls) (.int x :: st) h Q) ∧
  (∀ (ls : Lo) (st : List Value) (h : Hp) (Q : Option Value → Hp → Prop) (l0 l1 l2 l3 : Option Value) (x : Int32), Wp 120 144 (l0 :: l1 :: l2 :: l3 :: some (.int x) :: ls) (st) h Q ↔ Wp 120 146 (l0 :: l1 :: l2 :: l3 :: some (.int x) :: ls) (.int x :: st) h Q) ∧
  (∀ (ls : Lo) (st : List Value) (h : Hp) (Q : Option Value → Hp → Prop) (l0 l1 l2 l3 l4 l5 : Option Value) (x : Int32), Wp 120 146 (l0 :: l1 :: l2 :: l3 :: l4 :: l5 :: some (.int x) :: ls) (st) h Q ↔ Wp 120 148 (l0 :: l1 :: l2 :: l3 :: l4 :: l5 :: some (.int x) :: ls) (.int x :: st) h Q) ∧
  (∀ (ls : Lo) (st : List Value) (n sl : Nat) (C Z : Nat → Nat) (I : Nat → Nat → Int32) (L : Nat → Nat → Int64) (R : Nat → Nat → Nat) (Q : Option Value → Hp → Prop) (x0 : Int32) (x1 : Int32) (x2 : Int32) (i : Nat), C i = 11 → (Wp 120 148 (ls) (.int x2 :: .int x1 :: .int x0 :: .ref i :: st) (n, sl, C, Z, I, L, R) Q ↔ (wsum st ≤ 8 ∧ Call 104 [some (.ref i), some (.int x0), some (.int x1), some (.int x2)] (n, sl, C, Z, I, L, R) 120 151 ls st Q))) ∧
  (∀ (ls : Lo) (st : List Value) (n sl : Nat) (C Z : Nat → Nat) (I : Nat → Nat → Int32) (L : Nat → Nat → Int64) (R : Nat → Nat → Nat) (Q : Option Value → Hp → Prop) (i : Nat) (x y : Int32), Wp 120 151 (ls) (.int x :: .int y :: .ref i :: st) (n, sl, C, Z, I, L, R) Q ↔ ((inb y (Z i) = true ∧ C i = 21) ∧ Wp 120 152 (ls) (st) (n, sl, C, Z, u2 I i (ix y) x, L, R) Q)) ∧
  (∀ (ls : Lo) (st : List Value) (h : Hp) (Q : Option Value → Hp → Prop) (l0 l1 l2 l3 l4 l5 : Option Value) (x : Int32), Wp 120 152 (l0 :: l1 :: l2 :: l3 :: l4 :: l5 :: some (.int x) :: ls) (st) h Q ↔ Wp 120 155 (l0 :: l1 :: l2 :: l3 :: l4 :: clr l5 :: some (.int (x + (1))) :: ls) (st) h Q) ∧
  (∀ (ls : Lo) (st : List Value) (h : Hp) (Q : Option Value → Hp → Prop), Wp 120 155 (ls) (st) h Q ↔ Wp 120 108 (ls) (st) h Q) ∧
  (∀ (ls : Lo) (st : List Value) (h : Hp) (Q : Option Value → Hp → Prop) (l0 l1 l2 : Option Value) (x : Int32), Wp 120 158 (l0 :: l1 :: l2 :: some (.int x) :: ls) (st) h Q ↔ Wp 120 161 (l0 :: l1 :: clr l2 :: some (.int (x + (1))) :: ls) (st) h Q) ∧
  (∀ (ls : Lo) (st : List Value) (h : Hp) (Q : Option Value → Hp → Prop) (l0 l1 l2 l3 : Option Value) (x : Int32), Wp 120 161 (l0 :: l1 :: l2 :: l3 :: some (.int x) :: ls) (st) h Q ↔ Wp 120 164 (l0 :: l1 :: l2 :: clr l3 :: some (.int (x + (1))) :: ls) (st) h Q) := ⟨by intro ls st h Q l0 l1 x; exact e_iload_n d120_119 rfl,
  by intro ls st h Q l0 l1 l2 l3 l4 l5 x; exact e_iload d120_120 rfl,
  by intro ls st h Q x y; exact e_ishr d120_122,
  by intro ls st h Q; exact e_iconst d120_123 rfl,
  by intro ls st h Q x y; exact e_iand d120_124,
  by intro ls st h Q; exact e_iconst d120_125 rfl,
  by intro ls st h Q x y; exact e_ic d120_126 (by decide) c_ne,
  by intro ls st h Q i; exact e_aload_n d120_129 rfl,
  by intro ls st n sl C Z I L R Q i; exact e_get (g := 10) (s := 8) (ty := 2) d120_130 rfl rfl (inG_ne (by decide)),
  by intro ls st h Q; exact e_iconst d120_133 rfl,
  by intro ls st h Q l0 l1 l2 x; exact e_iload_n d120_134 rfl,
  by intro ls st h Q x y; exact e_imul d120_135,
  by intro ls st h Q l0 l1 l2 l3 l4 x; exact e_iload d120_136 rfl,
  by intro ls st h Q l0 l1 l2 l3 l4 x; exact e_iinc d120_138 rfl rfl rfl,
  by intro ls st h Q x y; exact e_iadd d120_141,
  by intro ls st h Q i; exact e_aload_n d120_142 rfl,
  by intro ls st h Q l0 x; exact e_iload_n d120_143 rfl,
  by intro ls st h Q l0 l1 l2 l3 x; exact e_iload d120_144 rfl,
  by intro ls st h Q l0 l1 l2 l3 l4 l5 x; exact e_iload d120_146 rfl,
  by intro ls st n sl C Z I L R Q x0 x1 x2 i hh; exact e_iv (k2 := 104) (c := 11) (as := [.int x0, .int x1, .int x2]) d120_148 rfl (by decide) rfl rfl (by decide +kernel) (Nat.le_of_ble_eq_true rfl) rfl hh,
  by intro ls st n sl C Z I L R Q i x y; exact e_iast d120_151,
  by intro ls st h Q l0 l1 l2 l3 l4 l5 x; exact e_iinc d120_152 rfl rfl rfl,
  by intro ls st h Q; exact e_goto d120_155 (by decide),
  by intro ls st h Q l0 l1 l2 x; exact e_iinc d120_158 rfl rfl rfl,
  by intro ls st h Q l0 l1 l2 l3 x; exact e_iinc d120_161 rfl rfl rfl⟩
set_option maxRecDepth 20000 in
theorem S120_4 : (∀ (ls : Lo) (st : List Value) (h : Hp) (Q : Option Value → Hp → Prop), Wp 120 164 (ls) (st) h Q ↔ Wp 120 45 (ls) (st) h Q) ∧
  (∀ (ls : Lo) (st : List Value) (h : Hp) (Q : Option Value → Hp → Prop)  (i : Nat), Wp 120 167 (some (.ref i) :: ls) (st) h Q ↔ Wp 120 168 (some (.ref i) :: ls) (.ref i :: st) h Q) ∧
  (∀ (ls : Lo) (st : List Value) (h : Hp) (Q : Option Value → Hp → Prop), Wp 120 168 (ls) (st) h Q ↔ Wp 120 169 (ls) (.int (3) :: st) h Q) ∧
  (∀ (ls : Lo) (st : List Value) (h : Hp) (Q : Option Value → Hp → Prop) (l0 l1 l2 : Option Value) (x : Int32), Wp 120 169 (l0 :: l1 :: l2 :: some (.int x) :: ls) (st) h Q ↔ Wp 120 170 (l0 :: l1 :: l2 :: some (.int x) :: ls) (.int x :: st) h Q) ∧
  (∀ (ls : Lo) (st : List Value) (h : Hp) (Q : Option Value → Hp → Prop)  (i : Nat), Wp 120 170 (some (.ref i) :: ls) (st) h Q ↔ Wp 120 171 (some (.ref i) :: ls) (.ref i :: st) h Q) ∧
  (∀ (ls : Lo) (st : List Value) (n sl : Nat) (C Z : Nat → Nat) (I : Nat → Nat → Int32) (L : Nat → Nat → Int64) (R : Nat → Nat → Nat) (Q : Option Value → Hp → Prop) (i : Nat), Wp 120 171 (ls) (.ref i :: st) (n, sl, C, Z, I, L, R) Q ↔ (C i = 11 ∧ Wp 120 174 (ls) (.ref (R i 3) :: st) (n, sl, C, Z, I, L, R) Q)) ∧
  (∀ (ls : Lo) (st : List Value) (h : Hp) (Q : Option Value → Hp → Prop) (l0 : Option Value) (x : Int32), Wp 120 174 (l0 :: some (.int x) :: ls) (st) h Q ↔ Wp 120 175 (l0 :: some (.int x) :: ls) (.int x :: st) h Q) ∧
  (∀ (ls : Lo) (st : List Value) (n sl : Nat) (C Z : Nat → Nat) (I : Nat → Nat → Int32) (L : Nat → Nat → Int64) (R : Nat → Nat → Nat) (Q : Option Value → Hp → Prop) (i : Nat) (y : Int32), Wp 120 175 (ls) (.int y :: .ref i :: st) (n, sl, C, Z, I, L, R) Q ↔ ((inb y (Z i) = true ∧ C i = 21) ∧ Wp 120 176 (ls) (.int (I i (ix y)) :: st) (n, sl, C, Z, I, L, R) Q)) ∧
  (∀ (ls : Lo) (st : List Value) (h : Hp) (Q : Option Value → Hp → Prop)  (i : Nat), Wp 120 176 (some (.ref i) :: ls) (st) h Q ↔ Wp 120 177 (some (.ref i) :: ls) (.ref i :: st) h Q) ∧
  (∀ (ls : Lo) (st : List Value) (n sl : Nat) (C Z : Nat → Nat) (I : Nat → Nat → Int32) (L : Nat → Nat → Int64) (R : Nat → Nat → Nat) (Q : Option Value → Hp → Prop) (i : Nat), Wp 120 177 (ls) (.ref i :: st) (n, sl, C, Z, I, L, R) Q ↔ (C i = 11 ∧ Wp 120 180 (ls) (.ref (R i 4) :: st) (n, sl, C, Z, I, L, R) Q)) ∧
  (∀ (ls : Lo) (st : List Value) (h : Hp) (Q : Option Value → Hp → Prop) (l0 : Option Value) (x : Int32), Wp 120 180 (l0 :: some (.int x) :: ls) (st) h Q ↔ Wp 120 181 (l0 :: some (.int x) :: ls) (.int x :: st) h Q) ∧
  (∀ (ls : Lo) (st : List Value) (n sl : Nat) (C Z : Nat → Nat) (I : Nat → Nat → Int32) (L : Nat → Nat → Int64) (R : Nat → Nat → Nat) (Q : Option Value → Hp → Prop) (i : Nat) (y : Int32), Wp 120 181 (ls) (.int y :: .ref i :: st) (n, sl, C, Z, I, L, R) Q ↔ ((inb y (Z i) = true ∧ C i = 21) ∧ Wp 120 182 (ls) (.int (I i (ix y)) :: st) (n, sl, C, Z, I, L, R) Q)) ∧
  (∀ (ls : Lo) (st : List Value) (n sl : Nat) (C Z : Nat → Nat) (I : Nat → Nat → Int32) (L : Nat → Nat → Int64) (R : Nat → Nat → Nat) (Q : Option Value → Hp → Prop) (x0 : Int32) (x1 : Int32) (x2 : Int32) (x3 : Int32) (i : Nat), C i = 11 → (Wp 120 182 (ls) (.int x3 :: .int x2 :: .int x1 :: .int x0 :: .ref i :: st) (n, sl, C, Z, I, L, R) Q ↔ (wsum st ≤ 8 ∧ Call 115 [some (.ref i), some (.int x0), some (.int x1), some (.int x2), some (.int x3), none, none, none, none] (n, sl, C, Z, I, L, R) 120 185 ls st Q))) ∧
  (∀ (ls : Lo) (h : Hp) (Q : Option Value → Hp → Prop) (x : Int32), Wp 120 185 (ls) ([.int x]) h Q ↔ Q (some (.int x)) h) := ⟨by intro ls st h Q; exact e_goto d120_164 (by decide),
  by intro ls st h Q i; exact e_aload_n d120_167 rfl,
  by intro ls st h Q; exact e_iconst d120_168 rfl,
  by intro ls st h Q l0 l1 l2 x; exact e_iload_n d120_169 rfl,
  by intro ls st h Q i; exact e_aload_n d120_170 rfl,
  by intro ls st n sl C Z I L R Q i; exact e_get (g := 10) (s := 3) (ty := 2) d120_171 rfl rfl (inG_ne (by decide)),
  by intro ls st h Q l0 x; exact e_iload_n d120_174 rfl,
  by intro ls st n sl C Z I L R Q i y; exact e_iald d120_175,
  by intro ls st h Q i; exact e_aload_n d120_176 rfl,
  by intro ls st n sl C Z I L R Q i; exact e_get (g := 10) (s := 4) (ty := 2) d120_177 rfl rfl (inG_ne (by decide)),
  by intro ls st h Q l0 x; exact e_iload_n d120_180 rfl,
  by intro ls st n sl C Z I L R Q i y; exact e_iald d120_181,
  by intro ls st n sl C Z I L R Q x0 x1 x2 x3 i hh; exact e_iv (k2 := 115) (c := 11) (as := [.int x0, .int x1, .int x2, .int x3]) d120_182 rfl (by decide) rfl rfl (by decide +kernel) (Nat.le_of_ble_eq_true rfl) rfl hh,
  by intros; exact e_rI (p := True) d120_185 rfl⟩
theorem d121_0 : decode (byt 121) 0 = .ok (.aload_n 0, 1) := by decide +kernel
theorem d121_1 : decode (byt 121) 1 = .ok (.getfield 83, 3) := by decide +kernel
theorem d121_4 : decode (byt 121) 4 = .ok (.ifCond .ne 6, 3) := by decide +kernel
theorem d121_7 : decode (byt 121) 7 = .ok (.bipush (-3), 2) := by decide +kernel
theorem d121_9 : decode (byt 121) 9 = .ok (.ireturn, 1) := by decide +kernel
theorem d121_10 : decode (byt 121) 10 = .ok (.aload_n 0, 1) := by decide +kernel
theorem d121_11 : decode (byt 121) 11 = .ok (.dup, 1) := by decide +kernel
theorem d121_12 : decode (byt 121) 12 = .ok (.getfield 83, 3) := by decide +kernel
theorem d121_15 : decode (byt 121) 15 = .ok (.iconst 1, 1) := by decide +kernel
theorem d121_16 : decode (byt 121) 16 = .ok (.isub, 1) := by decide +kernel
theorem d121_17 : decode (byt 121) 17 = .ok (.dup_x1, 1) := by decide +kernel
theorem d121_18 : decode (byt 121) 18 = .ok (.putfield 83, 3) := by decide +kernel
theorem d121_21 : decode (byt 121) 21 = .ok (.ireturn, 1) := by decide +kernel
set_option maxRecDepth 20000 in
theorem S121_0 : (∀ (ls : Lo) (st : List Value) (h : Hp) (Q : Option Value → Hp → Prop)  (i : Nat), Wp 121 0 (some (.ref i) :: ls) (st) h Q ↔ Wp 121 1 (some (.ref i) :: ls) (.ref i :: st) h Q) ∧
  (∀ (ls : Lo) (st : List Value) (n sl : Nat) (C Z : Nat → Nat) (I : Nat → Nat → Int32) (L : Nat → Nat → Int64) (R : Nat → Nat → Nat) (Q : Option Value → Hp → Prop) (i : Nat), Wp 121 1 (ls) (.ref i :: st) (n, sl, C, Z, I, L, R) Q ↔ (C i = 11 ∧ Wp 121 4 (ls) (.int (I i 0) :: st) (n, sl, C, Z, I, L, R) Q)) ∧
  (∀ (ls : Lo) (st : List Value) (h : Hp) (Q : Option Value → Hp → Prop) (x : Int32), Wp 121 4 (ls) (.int x :: st) h Q ↔ Br 121 10 7 ls st h Q (¬ x = 0)) ∧
  (∀ (ls : Lo) (st : List Value) (h : Hp) (Q : Option Value → Hp → Prop), Wp 121 7 (ls) (st) h Q ↔ Wp 121 9 (ls) (.int (-3) :: st) h Q) ∧
  (∀ (ls : Lo) (h : Hp) (Q : Option Value → Hp → Prop) (x : Int32), Wp 121 9 (ls) ([.int x]) h Q ↔ Q (some (.int x)) h) ∧
  (∀ (ls : Lo) (st : List Value) (h : Hp) (Q : Option Value → Hp → Prop)  (i : Nat), Wp 121 10 (some (.ref i) :: ls) (st) h Q ↔ Wp 121 11 (some (.ref i) :: ls) (.ref i :: st) h Q) ∧
  (∀ (ls : Lo) (st : List Value) (h : Hp) (Q : Option Value → Hp → Prop) (x : Int32), Wp 121 11 (ls) (.int x :: st) h Q ↔ Wp 121 12 (ls) (.int x :: .int x :: st) h Q) ∧
  (∀ (ls : Lo) (st : List Value) (h : Hp) (Q : Option Value → Hp → Prop) (i : Nat), Wp 121 11 (ls) (.ref i :: st) h Q ↔ Wp 121 12 (ls) (.ref i :: .ref i :: st) h Q) ∧
  (∀ (ls : Lo) (st : List Value) (n sl : Nat) (C Z : Nat → Nat) (I : Nat → Nat → Int32) (L : Nat → Nat → Int64) (R : Nat → Nat → Nat) (Q : Option Value → Hp → Prop) (i : Nat), Wp 121 12 (ls) (.ref i :: st) (n, sl, C, Z, I, L, R) Q ↔ (C i = 11 ∧ Wp 121 15 (ls) (.int (I i 0) :: st) (n, sl, C, Z, I, L, R) Q)) ∧
  (∀ (ls : Lo) (st : List Value) (h : Hp) (Q : Option Value → Hp → Prop), Wp 121 15 (ls) (st) h Q ↔ Wp 121 16 (ls) (.int (1) :: st) h Q) ∧
  (∀ (ls : Lo) (st : List Value) (h : Hp) (Q : Option Value → Hp → Prop) (x y : Int32), Wp 121 16 (ls) (.int y :: .int x :: st) h Q ↔ Wp 121 17 (ls) (.int (x - y) :: st) h Q) ∧
  (∀ (ls : Lo) (st : List Value) (h : Hp) (Q : Option Value → Hp → Prop) (x : Int32) (i : Nat), Wp 121 17 (ls) (.int x :: .ref i :: st) h Q ↔ Wp 121 18 (ls) (.int x :: .ref i :: .int x :: st) h Q) ∧
  (∀ (ls : Lo) (st : List Value) (n sl : Nat) (C Z : Nat → Nat) (I : Nat → Nat → Int32) (L : Nat → Nat → Int64) (R : Nat → Nat → Nat) (Q : Option Value → Hp → Prop) (i : Nat) (x : Int32), Wp 121 18 (ls) (.int x :: .ref i :: st) (n, sl, C, Z, I, L, R) Q ↔ (C i = 11 ∧ Wp 121 21 (ls) (st) (n, sl, C, Z, u2 I i 0 x, L, R) Q)) ∧
  (∀ (ls : Lo) (h : Hp) (Q : Option Value → Hp → Prop) (x : Int32), Wp 121 21 (ls) ([.int x]) h Q ↔ Q (some (.int x)) h) := ⟨by intro ls st h Q i; exact e_aload_n d121_0 rfl,
  by intro ls st n sl C Z I L R Q i; exact e_get (g := 10) (s := 0) (ty := 0) d121_1 rfl rfl (inG_ne (by decide)),
  by intro ls st h Q x; exact e_if d121_4 (by decide) c_ne,
  by intro ls st h Q; exact e_bipush d121_7 rfl,
  by intros; exact e_rI (p := True) d121_9 rfl,
  by intro ls st h Q i; exact e_aload_n d121_10 rfl,
  by intro ls st h Q x; exact e_dupI d121_11,
  by intro ls st h Q i; exact e_dupR d121_11,
  by intro ls st n sl C Z I L R Q i; exact e_get (g := 10) (s := 0) (ty := 0) d121_12 rfl rfl (inG_ne (by decide)),
  by intro ls st h Q; exact e_iconst d121_15 rfl,
  by intro ls st h Q x y; exact e_isub d121_16,
  by intro ls st h Q x i; exact e_dx1 d121_17,
  by intro ls st n sl C Z I L R Q i x; exact e_putI (g := 10) (s := 0) d121_18 rfl (Or.inl rfl) (inG_ne (by decide)),
  by intros; exact e_rI (p := True) d121_21 rfl⟩
theorem d122_0 : decode (byt 122) 0 = .ok (.iconst 0, 1) := by decide +kernel
theorem d122_1 : decode (byt 122) 1 = .ok (.istore_n 3, 1) := by decide +kernel
theorem d122_2 : decode (byt 122) 2 = .ok (.iload_n 3, 1) := by decide +kernel
theorem d122_3 : decode (byt 122) 3 = .ok (.aload_n 0, 1) := by decide +kernel
theorem d122_4 : decode (byt 122) 4 = .ok (.getfield 13, 3) := by decide +kernel
theorem d122_7 : decode (byt 122) 7 = .ok (.iload_n 1, 1) := by decide +kernel
theorem d122_8 : decode (byt 122) 8 = .ok (.iaload, 1) := by decide +kernel
theorem d122_9 : decode (byt 122) 9 = .ok (.if_icmp .ge 26, 3) := by decide +kernel
theorem d122_12 : decode (byt 122) 12 = .ok (.aload_n 0, 1) := by decide +kernel
theorem d122_13 : decode (byt 122) 13 = .ok (.getfield 77, 3) := by decide +kernel
theorem d122_16 : decode (byt 122) 16 = .ok (.iload_n 3, 1) := by decide +kernel
theorem d122_17 : decode (byt 122) 17 = .ok (.aload_n 0, 1) := by decide +kernel
theorem d122_18 : decode (byt 122) 18 = .ok (.getfield 25, 3) := by decide +kernel
theorem d122_21 : decode (byt 122) 21 = .ok (.iconst 3, 1) := by decide +kernel
theorem d122_22 : decode (byt 122) 22 = .ok (.iload_n 1, 1) := by decide +kernel
theorem d122_23 : decode (byt 122) 23 = .ok (.imul, 1) := by decide +kernel
theorem d122_24 : decode (byt 122) 24 = .ok (.iload_n 3, 1) := by decide +kernel
theorem d122_25 : decode (byt 122) 25 = .ok (.iadd, 1) := by decide +kernel
theorem d122_26 : decode (byt 122) 26 = .ok (.iaload, 1) := by decide +kernel
theorem d122_27 : decode (byt 122) 27 = .ok (.i2l, 1) := by decide +kernel
theorem d122_28 : decode (byt 122) 28 = .ok (.lastore, 1) := by decide +kernel
theorem d122_29 : decode (byt 122) 29 = .ok (.iinc 3 1, 3) := by decide +kernel
theorem d122_32 : decode (byt 122) 32 = .ok (.goto (-30), 3) := by decide +kernel
theorem d122_35 : decode (byt 122) 35 = .ok (.iconst 0, 1) := by decide +kernel
theorem d122_36 : decode (byt 122) 36 = .ok (.istore_n 3, 1) := by decide +kernel
theorem d122_37 : decode (byt 122) 37 = .ok (.iload_n 3, 1) := by decide +kernel
theorem d122_38 : decode (byt 122) 38 = .ok (.iload_n 2, 1) := by decide +kernel
theorem d122_39 : decode (byt 122) 39 = .ok (.if_icmp .ge 14, 3) := by decide +kernel
theorem d122_42 : decode (byt 122) 42 = .ok (.aload_n 0, 1) := by decide +kernel
theorem d122_43 : decode (byt 122) 43 = .ok (.iload_n 1, 1) := by decide +kernel
theorem d122_44 : decode (byt 122) 44 = .ok (.invokevirtual 128, 3) := by decide +kernel
theorem d122_47 : decode (byt 122) 47 = .ok (.iinc 3 1, 3) := by decide +kernel
theorem d122_50 : decode (byt 122) 50 = .ok (.goto (-13), 3) := by decide +kernel
theorem d122_53 : decode (byt 122) 53 = .ok (.lconst 0, 1) := by decide +kernel
theorem d122_54 : decode (byt 122) 54 = .ok (.lstore_n 3, 1) := by decide +kernel
theorem d122_55 : decode (byt 122) 55 = .ok (.iconst 0, 1) := by decide +kernel
theorem d122_56 : decode (byt 122) 56 = .ok (.istore 5, 2) := by decide +kernel
theorem d122_58 : decode (byt 122) 58 = .ok (.iload 5, 2) := by decide +kernel
theorem d122_60 : decode (byt 122) 60 = .ok (.aload_n 0, 1) := by decide +kernel
theorem d122_61 : decode (byt 122) 61 = .ok (.getfield 13, 3) := by decide +kernel
theorem d122_64 : decode (byt 122) 64 = .ok (.iload_n 1, 1) := by decide +kernel
theorem d122_65 : decode (byt 122) 65 = .ok (.iaload, 1) := by decide +kernel
theorem d122_66 : decode (byt 122) 66 = .ok (.if_icmp .ge 32, 3) := by decide +kernel
theorem d122_69 : decode (byt 122) 69 = .ok (.lload_n 3, 1) := by decide +kernel
theorem d122_70 : decode (byt 122) 70 = .ok (.aload_n 0, 1) := by decide +kernel
theorem d122_71 : decode (byt 122) 71 = .ok (.getfield 28, 3) := by decide +kernel
theorem d122_74 : decode (byt 122) 74 = .ok (.iconst 3, 1) := by decide +kernel
theorem d122_75 : decode (byt 122) 75 = .ok (.iload_n 1, 1) := by decide +kernel
theorem d122_76 : decode (byt 122) 76 = .ok (.imul, 1) := by decide +kernel
theorem d122_77 : decode (byt 122) 77 = .ok (.iload 5, 2) := by decide +kernel
theorem d122_79 : decode (byt 122) 79 = .ok (.iadd, 1) := by decide +kernel
theorem d122_80 : decode (byt 122) 80 = .ok (.iaload, 1) := by decide +kernel
theorem d122_81 : decode (byt 122) 81 = .ok (.i2l, 1) := by decide +kernel
theorem d122_82 : decode (byt 122) 82 = .ok (.aload_n 0, 1) := by decide +kernel
theorem d122_83 : decode (byt 122) 83 = .ok (.getfield 77, 3) := by decide +kernel
theorem d122_86 : decode (byt 122) 86 = .ok (.iload 5, 2) := by decide +kernel
theorem d122_88 : decode (byt 122) 88 = .ok (.laload, 1) := by decide +kernel
theorem d122_89 : decode (byt 122) 89 = .ok (.lmul, 1) := by decide +kernel
theorem d122_90 : decode (byt 122) 90 = .ok (.ladd, 1) := by decide +kernel
theorem d122_91 : decode (byt 122) 91 = .ok (.lstore_n 3, 1) := by decide +kernel
theorem d122_92 : decode (byt 122) 92 = .ok (.iinc 5 1, 3) := by decide +kernel
theorem d122_95 : decode (byt 122) 95 = .ok (.goto (-37), 3) := by decide +kernel
theorem d122_98 : decode (byt 122) 98 = .ok (.lload_n 3, 1) := by decide +kernel
theorem d122_99 : decode (byt 122) 99 = .ok (.lreturn, 1) := by decide +kernel
set_option maxRecDepth 20000 in
theorem S122_0 : (∀ (ls : Lo) (st : List Value) (h : Hp) (Q : Option Value → Hp → Prop), Wp 122 0 (ls) (st) h Q ↔ Wp 122 1 (ls) (.int (0) :: st) h Q) ∧
  (∀ (ls : Lo) (st : List Value) (h : Hp) (Q : Option Value → Hp → Prop) (l0 l1 l2 l3 : Option Value) (x : Int32), Wp 122 1 (l0 :: l1 :: l2 :: l3 :: ls) (.int x :: st) h Q ↔ Wp 122 2 (l0 :: l1 :: clr l2 :: some (.int x) :: ls) (st) h Q) ∧
  (∀ (ls : Lo) (st : List Value) (h : Hp) (Q : Option Value → Hp → Prop) (l0 l1 l2 : Option Value) (x : Int32), Wp 122 2 (l0 :: l1 :: l2 :: some (.int x) :: ls) (st) h Q ↔ Wp 122 3 (l0 :: l1 :: l2 :: some (.int x) :: ls) (.int x :: st) h Q) ∧
  (∀ (ls : Lo) (st : List Value) (h : Hp) (Q : Option Value → Hp → Prop)  (i : Nat), Wp 122 3 (some (.ref i) :: ls) (st) h Q ↔ Wp 122 4 (some (.ref i) :: ls) (.ref i :: st) h Q) ∧
  (∀ (ls : Lo) (st : List Value) (n sl : Nat) (C Z : Nat → Nat) (I : Nat → Nat → Int32) (L : Nat → Nat → Int64) (R : Nat → Nat → Nat) (Q : Option Value → Hp → Prop) (i : Nat), Wp 122 4 (ls) (.ref i :: st) (n, sl, C, Z, I, L, R) Q ↔ (C i = 11 ∧ Wp 122 7 (ls) (.ref (R i 2) :: st) (n, sl, C, Z, I, L, R) Q)) ∧
  (∀ (ls : Lo) (st : List Value) (h : Hp) (Q : Option Value → Hp → Prop) (l0 : Option Value) (x : Int32), Wp 122 7 (l0 :: some (.int x) :: ls) (st) h Q ↔ Wp 122 8 (l0 :: some (.int x) :: ls) (.int x :: st) h Q) ∧
  (∀ (ls : Lo) (st : List Value) (n sl : Nat) (C Z : Nat → Nat) (I : Nat → Nat → Int32) (L : Nat → Nat → Int64) (R : Nat → Nat → Nat) (Q : Option Value → Hp → Prop) (i : Nat) (y : Int32), Wp 122 8 (ls) (.int y :: .ref i :: st) (n, sl, C, Z, I, L, R) Q ↔ ((inb y (Z i) = true ∧ C i = 21) ∧ Wp 122 9 (ls) (.int (I i (ix y)) :: st) (n, sl, C, Z, I, L, R) Q)) ∧
  (∀ (ls : Lo) (st : List Value) (h : Hp) (Q : Option Value → Hp → Prop) (x y : Int32), Wp 122 9 (ls) (.int y :: .int x :: st) h Q ↔ Br 122 35 12 ls st h Q (y ≤ x)) ∧
  (∀ (ls : Lo) (st : List Value) (h : Hp) (Q : Option Value → Hp → Prop)  (i : Nat), Wp 122 12 (some (.ref i) :: ls) (st) h Q ↔ Wp 122 13 (some (.ref i) :: ls) (.ref i :: st) h Q) ∧
  (∀ (ls : Lo) (st : List Value) (n sl : Nat) (C Z : Nat → Nat) (I : Nat → Nat → Int32) (L : Nat → Nat → Int64) (R : Nat → Nat → Nat) (Q : Option Value → Hp → Prop) (i : Nat), Wp 122 13 (ls) (.ref i :: st) (n, sl, C, Z, I, L, R) Q ↔ (C i = 11 ∧ Wp 122 16 (ls) (.ref (R i 26) :: st) (n, sl, C, Z, I, L, R) Q)) ∧
  (∀ (ls : Lo) (st : List Value) (h : Hp) (Q : Option Value → Hp → Prop) (l0 l1 l2 : Option Value) (x : Int32), Wp 122 16 (l0 :: l1 :: l2 :: some (.int x) :: ls) (st) h Q ↔ Wp 122 17 (l0 :: l1 :: l2 :: some (.int x) :: ls) (.int x :: st) h Q) ∧
  (∀ (ls : Lo) (st : List Value) (h : Hp) (Q : Option Value → Hp → Prop)  (i : Nat), Wp 122 17 (some (.ref i) :: ls) (st) h Q ↔ Wp 122 18 (some (.ref i) :: ls) (.ref i :: st) h Q) ∧
  (∀ (ls : Lo) (st : List Value) (n sl : Nat) (C Z : Nat → Nat) (I : Nat → Nat → Int32) (L : Nat → Nat → Int64) (R : Nat → Nat → Nat) (Q : Option Value → Hp → Prop) (i : Nat), Wp 122 18 (ls) (.ref i :: st) (n, sl, C, Z, I, L, R) Q ↔ (C i = 11 ∧ Wp 122 21 (ls) (.ref (R i 6) :: st) (n, sl, C, Z, I, L, R) Q)) ∧
  (∀ (ls : Lo) (st : List Value) (h : Hp) (Q : Option Value → Hp → Prop), Wp 122 21 (ls) (st) h Q ↔ Wp 122 22 (ls) (.int (3) :: st) h Q) ∧
  (∀ (ls : Lo) (st : List Value) (h : Hp) (Q : Option Value → Hp → Prop) (l0 : Option Value) (x : Int32), Wp 122 22 (l0 :: some (.int x) :: ls) (st) h Q ↔ Wp 122 23 (l0 :: some (.int x) :: ls) (.int x :: st) h Q) ∧
  (∀ (ls : Lo) (st : List Value) (h : Hp) (Q : Option Value → Hp → Prop) (x y : Int32), Wp 122 23 (ls) (.int y :: .int x :: st) h Q ↔ Wp 122 24 (ls) (.int (x * y) :: st) h Q) ∧
  (∀ (ls : Lo) (st : List Value) (h : Hp) (Q : Option Value → Hp → Prop) (l0 l1 l2 : Option Value) (x : Int32), Wp 122 24 (l0 :: l1 :: l2 :: some (.int x) :: ls) (st) h Q ↔ Wp 122 25 (l0 :: l1 :: l2 :: some (.int x) :: ls) (.int x :: st) h Q) ∧
  (∀ (ls : Lo) (st : List Value) (h : Hp) (Q : Option Value → Hp → Prop) (x y : Int32), Wp 122 25 (ls) (.int y :: .int x :: st) h Q ↔ Wp 122 26 (ls) (.int (x + y) :: st) h Q) ∧
  (∀ (ls : Lo) (st : List Value) (n sl : Nat) (C Z : Nat → Nat) (I : Nat → Nat → Int32) (L : Nat → Nat → Int64) (R : Nat → Nat → Nat) (Q : Option Value → Hp → Prop) (i : Nat) (y : Int32), Wp 122 26 (ls) (.int y :: .ref i :: st) (n, sl, C, Z, I, L, R) Q ↔ ((inb y (Z i) = true ∧ C i = 21) ∧ Wp 122 27 (ls) (.int (I i (ix y)) :: st) (n, sl, C, Z, I, L, R) Q)) ∧
  (∀ (ls : Lo) (st : List Value) (h : Hp) (Q : Option Value → Hp → Prop) (x : Int32), Wp 122 27 (ls) (.int x :: st) h Q ↔ Wp 122 28 (ls) (.long x.toInt64 :: st) h Q) ∧
  (∀ (ls : Lo) (st : List Value) (n sl : Nat) (C Z : Nat → Nat) (I : Nat → Nat → Int32) (L : Nat → Nat → Int64) (R : Nat → Nat → Nat) (Q : Option Value → Hp → Prop) (i : Nat) (y : Int32) (a : Int64), Wp 122 28 (ls) (.long a :: .int y :: .ref i :: st) (n, sl, C, Z, I, L, R) Q ↔ ((inb y (Z i) = true ∧ C i = 22) ∧ Wp 122 29 (ls) (st) (n, sl, C, Z, I, u2 L i (ix y) a, R) Q)) ∧
  (∀ (ls : Lo) (st : List Value) (h : Hp) (Q : Option Value → Hp → Prop) (l0 l1 l2 : Option Value) (x : Int32), Wp 122 29 (l0 :: l1 :: l2 :: some (.int x) :: ls) (st) h Q ↔ Wp 122 32 (l0 :: l1 :: clr l2 :: some (.int (x + (1))) :: ls) (st) h Q) ∧
  (∀ (ls : Lo) (st : List Value) (h : Hp) (Q : Option Value → Hp → Prop), Wp 122 32 (ls) (st) h Q ↔ Wp 122 2 (ls) (st) h Q) ∧
  (∀ (ls : Lo) (st : List Value) (h : Hp) (Q : Option Value → Hp → Prop), Wp 122 35 (ls) (st) h Q ↔ Wp 122 36 (ls) (.int (0) :: st) h Q) ∧
  (∀ (ls : Lo) (st : List Value) (h : Hp) (Q : Option Value → Hp → Prop) (l0 l1 l2 l3 : Option Value) (x : Int32), Wp 122 36 (l0 :: l1 :: l2 :: l3 :: ls) (.int x :: st) h Q ↔ Wp 122 37 (l0 :: l1 :: clr l2 :: some (.int x) :: ls) (st) h Q) := ⟨by intro ls st h Q; exact e_iconst d122_0 rfl,
  by intro ls st h Q l0 l1 l2 l3 x; exact e_istore_n d122_1 rfl,
  by intro ls st h Q l0 l1 l2 x; exact e_iload_n d122_2 rfl,
  by intro ls st h Q i; exact e_aload_n d122_3 rfl,
  by intro ls st n sl C Z I L R Q i; exact e_get (g := 10) (s := 2) (ty := 2) d122_4 rfl rfl (inG_ne (by decide)),
  by intro ls st h Q l0 x; exact e_iload_n d122_7 rfl,
  by intro ls st n sl C Z I L R Q i y; exact e_iald d122_8,
  by intro ls st h Q x y; exact e_ic d122_9 (by decide) c_ge,
  by intro ls st h Q i; exact e_aload_n d122_12 rfl,
  by intro ls st n sl C Z I L R Q i; exact e_get (g := 10) (s := 26) (ty := 2) d122_13 rfl rfl (inG_ne (by decide)),
  by intro ls st h Q l0 l1 l2 x; exact e_iload_n d122_16 rfl,
  by intro ls st h Q i; exact e_aload_n d122_17 rfl,
  by intro ls st n sl C Z I L R Q i; exact e_get (g := 10) (s := 6) (ty := 2) d122_18 rfl rfl (inG_ne (by decide)),
  by intro ls st h Q; exact e_iconst d122_21 rfl,
  by intro ls st h Q l0 x; exact e_iload_n d122_22 rfl,
  by intro ls st h Q x y; exact e_imul d122_23,
  by intro ls st h Q l0 l1 l2 x; exact e_iload_n d122_24 rfl,
  by intro ls st h Q x y; exact e_iadd d122_25,
  by intro ls st n sl C Z I L R Q i y; exact e_iald d122_26,
  by intro ls st h Q x; exact e_i2l d122_27,
  by intro ls st n sl C Z I L R Q i y a; exact e_last d122_28,
  by intro ls st h Q l0 l1 l2 x; exact e_iinc d122_29 rfl rfl rfl,
  by intro ls st h Q; exact e_goto d122_32 (by decide),
  by intro ls st h Q; exact e_iconst d122_35 rfl,
  by intro ls st h Q l0 l1 l2 l3 x; exact e_istore_n d122_36 rfl⟩
set_option maxRecDepth 20000 in
theorem S122_1 : (∀ (ls : Lo) (st : List Value) (h : Hp) (Q : Option Value → Hp → Prop) (l0 l1 l2 : Option Value) (x : Int32), Wp 122 37 (l0 :: l1 :: l2 :: some (.int x) :: ls) (st) h Q ↔ Wp 122 38 (l0 :: l1 :: l2 :: some (.int x) :: ls) (.int x :: st) h Q) ∧
  (∀ (ls : Lo) (st : List Value) (h : Hp) (Q : Option Value → Hp → Prop) (l0 l1 : Option Value) (x : Int32), Wp 122 38 (l0 :: l1 :: some (.int x) :: ls) (st) h Q ↔ Wp 122 39 (l0 :: l1 :: some (.int x) :: ls) (.int x :: st) h Q) ∧
  (∀ (ls : Lo) (st : List Value) (h : Hp) (Q : Option Value → Hp → Prop) (x y : Int32), Wp 122 39 (ls) (.int y :: .int x :: st) h Q ↔ Br 122 53 42 ls st h Q (y ≤ x)) ∧
  (∀ (ls : Lo) (st : List Value) (h : Hp) (Q : Option Value → Hp → Prop)  (i : Nat), Wp 122 42 (some (.ref i) :: ls) (st) h Q ↔ Wp 122 43 (some (.ref i) :: ls) (.ref i :: st) h Q) ∧
  (∀ (ls : Lo) (st : List Value) (h : Hp) (Q : Option Value → Hp → Prop) (l0 : Option Value) (x : Int32), Wp 122 43 (l0 :: some (.int x) :: ls) (st) h Q ↔ Wp 122 44 (l0 :: some (.int x) :: ls) (.int x :: st) h Q) ∧
  (∀ (ls : Lo) (st : List Value) (n sl : Nat) (C Z : Nat → Nat) (I : Nat → Nat → Int32) (L : Nat → Nat → Int64) (R : Nat → Nat → Nat) (Q : Option Value → Hp → Prop) (x0 : Int32) (i : Nat), C i = 11 → (Wp 122 44 (ls) (.int x0 :: .ref i :: st) (n, sl, C, Z, I, L, R) Q ↔ (wsum st ≤ 8 ∧ Call 123 [some (.ref i), some (.int x0), none, none] (n, sl, C, Z, I, L, R) 122 47 ls st Q))) ∧
  (∀ (ls : Lo) (st : List Value) (h : Hp) (Q : Option Value → Hp → Prop) (l0 l1 l2 : Option Value) (x : Int32), Wp 122 47 (l0 :: l1 :: l2 :: some (.int x) :: ls) (st) h Q ↔ Wp 122 50 (l0 :: l1 :: clr l2 :: some (.int (x + (1))) :: ls) (st) h Q) ∧
  (∀ (ls : Lo) (st : List Value) (h : Hp) (Q : Option Value → Hp → Prop), Wp 122 50 (ls) (st) h Q ↔ Wp 122 37 (ls) (st) h Q) ∧
  (∀ (ls : Lo) (st : List Value) (h : Hp) (Q : Option Value → Hp → Prop), Wp 122 53 (ls) (st) h Q ↔ Wp 122 54 (ls) (.long 0 :: st) h Q) ∧
  (∀ (ls : Lo) (st : List Value) (h : Hp) (Q : Option Value → Hp → Prop) (l0 l1 l2 l3 l4 : Option Value) (a : Int64), Wp 122 54 (l0 :: l1 :: l2 :: l3 :: l4 :: ls) (.long a :: st) h Q ↔ Wp 122 55 (l0 :: l1 :: clr l2 :: some (.long a) :: none :: ls) (st) h Q) ∧
  (∀ (ls : Lo) (st : List Value) (h : Hp) (Q : Option Value → Hp → Prop), Wp 122 55 (ls) (st) h Q ↔ Wp 122 56 (ls) (.int (0) :: st) h Q) ∧
  (∀ (ls : Lo) (st : List Value) (h : Hp) (Q : Option Value → Hp → Prop) (l0 l1 l2 l3 l4 l5 : Option Value) (x : Int32), Wp 122 56 (l0 :: l1 :: l2 :: l3 :: l4 :: l5 :: ls) (.int x :: st) h Q ↔ Wp 122 58 (l0 :: l1 :: l2 :: l3 :: clr l4 :: some (.int x) :: ls) (st) h Q) ∧
  (∀ (ls : Lo) (st : List Value) (h : Hp) (Q : Option Value → Hp → Prop) (l0 l1 l2 l3 l4 : Option Value) (x : Int32), Wp 122 58 (l0 :: l1 :: l2 :: l3 :: l4 :: some (.int x) :: ls) (st) h Q ↔ Wp 122 60 (l0 :: l1 :: l2 :: l3 :: l4 :: some (.int x) :: ls) (.int x :: st) h Q) ∧
  (∀ (ls : Lo) (st : List Value) (h : Hp) (Q : Option Value → Hp → Prop)  (i : Nat), Wp 122 60 (some (.ref i) :: ls) (st) h Q ↔ Wp 122 61 (some (.ref i) :: ls) (.ref i :: st) h Q) ∧
  (∀ (ls : Lo) (st : List Value) (n sl : Nat) (C Z : Nat → Nat) (I : Nat → Nat → Int32) (L : Nat → Nat → Int64) (R : Nat → Nat → Nat) (Q : Option Value → Hp → Prop) (i : Nat), Wp 122 61 (ls) (.ref i :: st) (n, sl, C, Z, I, L, R) Q ↔ (C i = 11 ∧ Wp 122 64 (ls) (.ref (R i 2) :: st) (n, sl, C, Z, I, L, R) Q)) ∧
  (∀ (ls : Lo) (st : List Value) (h : Hp) (Q : Option Value → Hp → Prop) (l0 : Option Value) (x : Int32), Wp 122 64 (l0 :: some (.int x) :: ls) (st) h Q ↔ Wp 122 65 (l0 :: some (.int x) :: ls) (.int x :: st) h Q) ∧
  (∀ (ls : Lo) (st : List Value) (n sl : Nat) (C Z : Nat → Nat) (I : Nat → Nat → Int32) (L : Nat → Nat → Int64) (R : Nat → Nat → Nat) (Q : Option Value → Hp → Prop) (i : Nat) (y : Int32), Wp 122 65 (ls) (.int y :: .ref i :: st) (n, sl, C, Z, I, L, R) Q ↔ ((inb y (Z i) = true ∧ C i = 21) ∧ Wp 122 66 (ls) (.int (I i (ix y)) :: st) (n, sl, C, Z, I, L, R) Q)) ∧
  (∀ (ls : Lo) (st : List Value) (h : Hp) (Q : Option Value → Hp → Prop) (x y : Int32), Wp 122 66 (ls) (.int y :: .int x :: st) h Q ↔ Br 122 98 69 ls st h Q (y ≤ x)) ∧
  (∀ (ls : Lo) (st : List Value) (h : Hp) (Q : Option Value → Hp → Prop) (l0 l1 l2 : Option Value) (a : Int64), Wp 122 69 (l0 :: l1 :: l2 :: some (.long a) :: ls) (st) h Q ↔ Wp 122 70 (l0 :: l1 :: l2 :: some (.long a) :: ls) (.long a :: st) h Q) ∧
  (∀ (ls : Lo) (st : List Value) (h : Hp) (Q : Option Value → Hp → Prop)  (i : Nat), Wp 122 70 (some (.ref i) :: ls) (st) h Q ↔ Wp 122 71 (some (.ref i) :: ls) (.ref i :: st) h Q) ∧
  (∀ (ls : Lo) (st : List Value) (n sl : Nat) (C Z : Nat → Nat) (I : Nat → Nat → Int32) (L : Nat → Nat → Int64) (R : Nat → Nat → Nat) (Q : Option Value → Hp → Prop) (i : Nat), Wp 122 71 (ls) (.ref i :: st) (n, sl, C, Z, I, L, R) Q ↔ (C i = 11 ∧ Wp 122 74 (ls) (.ref (R i 7) :: st) (n, sl, C, Z, I, L, R) Q)) ∧
  (∀ (ls : Lo) (st : List Value) (h : Hp) (Q : Option Value → Hp → Prop), Wp 122 74 (ls) (st) h Q ↔ Wp 122 75 (ls) (.int (3) :: st) h Q) ∧
  (∀ (ls : Lo) (st : List Value) (h : Hp) (Q : Option Value → Hp → Prop) (l0 : Option Value) (x : Int32), Wp 122 75 (l0 :: some (.int x) :: ls) (st) h Q ↔ Wp 122 76 (l0 :: some (.int x) :: ls) (.int x :: st) h Q) ∧
  (∀ (ls : Lo) (st : List Value) (h : Hp) (Q : Option Value → Hp → Prop) (x y : Int32), Wp 122 76 (ls) (.int y :: .int x :: st) h Q ↔ Wp 122 77 (ls) (.int (x * y) :: st) h Q) ∧
  (∀ (ls : Lo) (st : List Value) (h : Hp) (Q : Option Value → Hp → Prop) (l0 l1 l2 l3 l4 : Option Value) (x : Int32), Wp 122 77 (l0 :: l1 :: l2 :: l3 :: l4 :: some (.int x) :: ls) (st) h Q ↔ Wp 122 79 (l0 :: l1 :: l2 :: l3 :: l4 :: some (.int x) :: ls) (.int x :: st) h Q) := ⟨by intro ls st h Q l0 l1 l2 x; exact e_iload_n d122_37 rfl,
  by intro ls st h Q l0 l1 x; exact e_iload_n d122_38 rfl,
  by intro ls st h Q x y; exact e_ic d122_39 (by decide) c_ge,
  by intro ls st h Q i; exact e_aload_n d122_42 rfl,
  by intro ls st h Q l0 x; exact e_iload_n d122_43 rfl,
  by intro ls st n sl C Z I L R Q x0 i hh; exact e_iv (k2 := 123) (c := 11) (as := [.int x0]) d122_44 rfl (by decide) rfl rfl (by decide +kernel) (Nat.le_of_ble_eq_true rfl) rfl hh,
  by intro ls st h Q l0 l1 l2 x; exact e_iinc d122_47 rfl rfl rfl,
  by intro ls st h Q; exact e_goto d122_50 (by decide),
  by intro ls st h Q; exact e_lconst d122_53 rfl,
  by intro ls st h Q l0 l1 l2 l3 l4 a; exact e_lstore_n d122_54 rfl,
  by intro ls st h Q; exact e_iconst d122_55 rfl,
  by intro ls st h Q l0 l1 l2 l3 l4 l5 x; exact e_istore d122_56 rfl,
  by intro ls st h Q l0 l1 l2 l3 l4 x; exact e_iload d122_58 rfl,
  by intro ls st h Q i; exact e_aload_n d122_60 rfl,
  by intro ls st n sl C Z I L R Q i; exact e_get (g := 10) (s := 2) (ty := 2) d122_61 rfl rfl (inG_ne (by decide)),
  by intro ls st h Q l0 x; exact e_iload_n d122_64 rfl,
  by intro ls st n sl C Z I L R Q i y; exact e_iald d122_65,
  by intro ls st h Q x y; exact e_ic d122_66 (by decide) c_ge,
  by intro ls st h Q l0 l1 l2 a; exact e_lload_n d122_69 rfl,
  by intro ls st h Q i; exact e_aload_n d122_70 rfl,
  by intro ls st n sl C Z I L R Q i; exact e_get (g := 10) (s := 7) (ty := 2) d122_71 rfl rfl (inG_ne (by decide)),
  by intro ls st h Q; exact e_iconst d122_74 rfl,
  by intro ls st h Q l0 x; exact e_iload_n d122_75 rfl,
  by intro ls st h Q x y; exact e_imul d122_76,
  by intro ls st h Q l0 l1 l2 l3 l4 x; exact e_iload d122_77 rfl⟩
set_option maxRecDepth 20000 in
theorem S122_2 : (∀ (ls : Lo) (st : List Value) (h : Hp) (Q : Option Value → Hp → Prop) (x y : Int32), Wp 122 79 (ls) (.int y :: .int x :: st) h Q ↔ Wp 122 80 (ls) (.int (x + y) :: st) h Q) ∧
  (∀ (ls : Lo) (st : List Value) (n sl : Nat) (C Z : Nat → Nat) (I : Nat → Nat → Int32) (L : Nat → Nat → Int64) (R : Nat → Nat → Nat) (Q : Option Value → Hp → Prop) (i : Nat) (y : Int32), Wp 122 80 (ls) (.int y :: .ref i :: st) (n, sl, C, Z, I, L, R) Q ↔ ((inb y (Z i) = true ∧ C i = 21) ∧ Wp 122 81 (ls) (.int (I i (ix y)) :: st) (n, sl, C, Z, I, L, R) Q)) ∧
  (∀ (ls : Lo) (st : List Value) (h : Hp) (Q : Option Value → Hp → Prop) (x : Int32), Wp 122 81 (ls) (.int x :: st) h Q ↔ Wp 122 82 (ls) (.long x.toInt64 :: st) h Q) ∧
  (∀ (ls : Lo) (st : List Value) (h : Hp) (Q : Option Value → Hp → Prop)  (i : Nat), Wp 122 82 (some (.ref i) :: ls) (st) h Q ↔ Wp 122 83 (some (.ref i) :: ls) (.ref i :: st) h Q) ∧
  (∀ (ls : Lo) (st : List Value) (n sl : Nat) (C Z : Nat → Nat) (I : Nat → Nat → Int32) (L : Nat → Nat → Int64) (R : Nat → Nat → Nat) (Q : Option Value → Hp → Prop) (i : Nat), Wp 122 83 (ls) (.ref i :: st) (n, sl, C, Z, I, L, R) Q ↔ (C i = 11 ∧ Wp 122 86 (ls) (.ref (R i 26) :: st) (n, sl, C, Z, I, L, R) Q)) ∧
  (∀ (ls : Lo) (st : List Value) (h : Hp) (Q : Option Value → Hp → Prop) (l0 l1 l2 l3 l4 : Option Value) (x : Int32), Wp 122 86 (l0 :: l1 :: l2 :: l3 :: l4 :: some (.int x) :: ls) (st) h Q ↔ Wp 122 88 (l0 :: l1 :: l2 :: l3 :: l4 :: some (.int x) :: ls) (.int x :: st) h Q) ∧
  (∀ (ls : Lo) (st : List Value) (n sl : Nat) (C Z : Nat → Nat) (I : Nat → Nat → Int32) (L : Nat → Nat → Int64) (R : Nat → Nat → Nat) (Q : Option Value → Hp → Prop) (i : Nat) (y : Int32), Wp 122 88 (ls) (.int y :: .ref i :: st) (n, sl, C, Z, I, L, R) Q ↔ ((inb y (Z i) = true ∧ C i = 22) ∧ Wp 122 89 (ls) (.long (L i (ix y)) :: st) (n, sl, C, Z, I, L, R) Q)) ∧
  (∀ (ls : Lo) (st : List Value) (h : Hp) (Q : Option Value → Hp → Prop) (a b : Int64), Wp 122 89 (ls) (.long b :: .long a :: st) h Q ↔ Wp 122 90 (ls) (.long (a * b) :: st) h Q) ∧
  (∀ (ls : Lo) (st : List Value) (h : Hp) (Q : Option Value → Hp → Prop) (a b : Int64), Wp 122 90 (ls) (.long b :: .long a :: st) h Q ↔ Wp 122 91 (ls) (.long (a + b) :: st) h Q) ∧
  (∀ (ls : Lo) (st : List Value) (h : Hp) (Q : Option Value → Hp → Prop) (l0 l1 l2 l3 l4 : Option Value) (a : Int64), Wp 122 91 (l0 :: l1 :: l2 :: l3 :: l4 :: ls) (.long a :: st) h Q ↔ Wp 122 92 (l0 :: l1 :: clr l2 :: some (.long a) :: none :: ls) (st) h Q) ∧
  (∀ (ls : Lo) (st : List Value) (h : Hp) (Q : Option Value → Hp → Prop) (l0 l1 l2 l3 l4 : Option Value) (x : Int32), Wp 122 92 (l0 :: l1 :: l2 :: l3 :: l4 :: some (.int x) :: ls) (st) h Q ↔ Wp 122 95 (l0 :: l1 :: l2 :: l3 :: clr l4 :: some (.int (x + (1))) :: ls) (st) h Q) ∧
  (∀ (ls : Lo) (st : List Value) (h : Hp) (Q : Option Value → Hp → Prop), Wp 122 95 (ls) (st) h Q ↔ Wp 122 58 (ls) (st) h Q) ∧
  (∀ (ls : Lo) (st : List Value) (h : Hp) (Q : Option Value → Hp → Prop) (l0 l1 l2 : Option Value) (a : Int64), Wp 122 98 (l0 :: l1 :: l2 :: some (.long a) :: ls) (st) h Q ↔ Wp 122 99 (l0 :: l1 :: l2 :: some (.long a) :: ls) (.long a :: st) h Q) ∧
  (∀ (ls : Lo) (h : Hp) (Q : Option Value → Hp → Prop) (a : Int64), Wp 122 99 (ls) ([.long a]) h Q ↔ Q (some (.long a)) h) := ⟨by intro ls st h Q x y; exact e_iadd d122_79,
  by intro ls st n sl C Z I L R Q i y; exact e_iald d122_80,
  by intro ls st h Q x; exact e_i2l d122_81,
  by intro ls st h Q i; exact e_aload_n d122_82 rfl,
  by intro ls st n sl C Z I L R Q i; exact e_get (g := 10) (s := 26) (ty := 2) d122_83 rfl rfl (inG_ne (by decide)),
  by intro ls st h Q l0 l1 l2 l3 l4 x; exact e_iload d122_86 rfl,
  by intro ls st n sl C Z I L R Q i y; exact e_lald d122_88,
  by intro ls st h Q a b; exact e_lmul d122_89,
  by intro ls st h Q a b; exact e_ladd d122_90,
  by intro ls st h Q l0 l1 l2 l3 l4 a; exact e_lstore_n d122_91 rfl,
  by intro ls st h Q l0 l1 l2 l3 l4 x; exact e_iinc d122_92 rfl rfl rfl,
  by intro ls st h Q; exact e_goto d122_95 (by decide),
  by intro ls st h Q l0 l1 l2 a; exact e_lload_n d122_98 rfl,
  by intros; exact e_rL d122_99 rfl⟩
theorem d123_0 : decode (byt 123) 0 = .ok (.iconst 0, 1) := by decide +kernel
theorem d123_1 : decode (byt 123) 1 = .ok (.istore_n 2, 1) := by decide +kernel
theorem d123_2 : decode (byt 123) 2 = .ok (.iload_n 2, 1) := by decide +kernel
theorem d123_3 : decode (byt 123) 3 = .ok (.aload_n 0, 1) := by decide +kernel
theorem d123_4 : decode (byt 123) 4 = .ok (.getfield 13, 3) := by decide +kernel
theorem d123_7 : decode (byt 123) 7 = .ok (.iload_n 1, 1) := by decide +kernel
theorem d123_8 : decode (byt 123) 8 = .ok (.iaload, 1) := by decide +kernel
theorem d123_9 : decode (byt 123) 9 = .ok (.if_icmp .ge 58, 3) := by decide +kernel
theorem d123_12 : decode (byt 123) 12 = .ok (.aload_n 0, 1) := by decide +kernel
theorem d123_13 : decode (byt 123) 13 = .ok (.getfield 80, 3) := by decide +kernel
theorem d123_16 : decode (byt 123) 16 = .ok (.iload_n 2, 1) := by decide +kernel
theorem d123_17 : decode (byt 123) 17 = .ok (.lconst 0, 1) := by decide +kernel
theorem d123_18 : decode (byt 123) 18 = .ok (.lastore, 1) := by decide +kernel
theorem d123_19 : decode (byt 123) 19 = .ok (.iconst 0, 1) := by decide +kernel
theorem d123_20 : decode (byt 123) 20 = .ok (.istore_n 3, 1) := by decide +kernel
theorem d123_21 : decode (byt 123) 21 = .ok (.iload_n 3, 1) := by decide +kernel
theorem d123_22 : decode (byt 123) 22 = .ok (.aload_n 0, 1) := by decide +kernel
theorem d123_23 : decode (byt 123) 23 = .ok (.getfield 13, 3) := by decide +kernel
theorem d123_26 : decode (byt 123) 26 = .ok (.iload_n 1, 1) := by decide +kernel
theorem d123_27 : decode (byt 123) 27 = .ok (.iaload, 1) := by decide +kernel
theorem d123_28 : decode (byt 123) 28 = .ok (.if_icmp .ge 33, 3) := by decide +kernel
theorem d123_31 : decode (byt 123) 31 = .ok (.aload_n 0, 1) := by decide +kernel
theorem d123_32 : decode (byt 123) 32 = .ok (.getfield 80, 3) := by decide +kernel
theorem d123_35 : decode (byt 123) 35 = .ok (.iload_n 2, 1) := by decide +kernel
theorem d123_36 : decode (byt 123) 36 = .ok (.dup2, 1) := by decide +kernel
theorem d123_37 : decode (byt 123) 37 = .ok (.laload, 1) := by decide +kernel
theorem d123_38 : decode (byt 123) 38 = .ok (.aload_n 0, 1) := by decide +kernel
theorem d123_39 : decode (byt 123) 39 = .ok (.iload_n 1, 1) := by decide +kernel
theorem d123_40 : decode (byt 123) 40 = .ok (.iload_n 2, 1) := by decide +kernel
theorem d123_41 : decode (byt 123) 41 = .ok (.iload_n 3, 1) := by decide +kernel
theorem d123_42 : decode (byt 123) 42 = .ok (.invokevirtual 102, 3) := by decide +kernel
theorem d123_45 : decode (byt 123) 45 = .ok (.i2l, 1) := by decide +kernel
theorem d123_46 : decode (byt 123) 46 = .ok (.aload_n 0, 1) := by decide +kernel
theorem d123_47 : decode (byt 123) 47 = .ok (.getfield 77, 3) := by decide +kernel
theorem d123_50 : decode (byt 123) 50 = .ok (.iload_n 3, 1) := by decide +kernel
theorem d123_51 : decode (byt 123) 51 = .ok (.laload, 1) := by decide +kernel
theorem d123_52 : decode (byt 123) 52 = .ok (.lmul, 1) := by decide +kernel
theorem d123_53 : decode (byt 123) 53 = .ok (.ladd, 1) := by decide +kernel
theorem d123_54 : decode (byt 123) 54 = .ok (.lastore, 1) := by decide +kernel
theorem d123_55 : decode (byt 123) 55 = .ok (.iinc 3 1, 3) := by decide +kernel
theorem d123_58 : decode (byt 123) 58 = .ok (.goto (-37), 3) := by decide +kernel
theorem d123_61 : decode (byt 123) 61 = .ok (.iinc 2 1, 3) := by decide +kernel
theorem d123_64 : decode (byt 123) 64 = .ok (.goto (-62), 3) := by decide +kernel
theorem d123_67 : decode (byt 123) 67 = .ok (.iconst 0, 1) := by decide +kernel
theorem d123_68 : decode (byt 123) 68 = .ok (.istore_n 2, 1) := by decide +kernel
theorem d123_69 : decode (byt 123) 69 = .ok (.iload_n 2, 1) := by decide +kernel
theorem d123_70 : decode (byt 123) 70 = .ok (.aload_n 0, 1) := by decide +kernel
theorem d123_71 : decode (byt 123) 71 = .ok (.getfield 13, 3) := by decide +kernel
theorem d123_74 : decode (byt 123) 74 = .ok (.iload_n 1, 1) := by decide +kernel
theorem d123_75 : decode (byt 123) 75 = .ok (.iaload, 1) := by decide +kernel
theorem d123_76 : decode (byt 123) 76 = .ok (.if_icmp .ge 21, 3) := by decide +kernel
theorem d123_79 : decode (byt 123) 79 = .ok (.aload_n 0, 1) := by decide +kernel
theorem d123_80 : decode (byt 123) 80 = .ok (.getfield 77, 3) := by decide +kernel
theorem d123_83 : decode (byt 123) 83 = .ok (.iload_n 2, 1) := by decide +kernel
theorem d123_84 : decode (byt 123) 84 = .ok (.aload_n 0, 1) := by decide +kernel
theorem d123_85 : decode (byt 123) 85 = .ok (.getfield 80, 3) := by decide +kernel
theorem d123_88 : decode (byt 123) 88 = .ok (.iload_n 2, 1) := by decide +kernel
theorem d123_89 : decode (byt 123) 89 = .ok (.laload, 1) := by decide +kernel
theorem d123_90 : decode (byt 123) 90 = .ok (.lastore, 1) := by decide +kernel
theorem d123_91 : decode (byt 123) 91 = .ok (.iinc 2 1, 3) := by decide +kernel
theorem d123_94 : decode (byt 123) 94 = .ok (.goto (-25), 3) := by decide +kernel
theorem d123_97 : decode (byt 123) 97 = .ok (.return_, 1) := by decide +kernel
set_option maxRecDepth 20000 in
theorem S123_0 : (∀ (ls : Lo) (st : List Value) (h : Hp) (Q : Option Value → Hp → Prop), Wp 123 0 (ls) (st) h Q ↔ Wp 123 1 (ls) (.int (0) :: st) h Q) ∧
  (∀ (ls : Lo) (st : List Value) (h : Hp) (Q : Option Value → Hp → Prop) (l0 l1 l2 : Option Value) (x : Int32), Wp 123 1 (l0 :: l1 :: l2 :: ls) (.int x :: st) h Q ↔ Wp 123 2 (l0 :: clr l1 :: some (.int x) :: ls) (st) h Q) ∧
  (∀ (ls : Lo) (st : List Value) (h : Hp) (Q : Option Value → Hp → Prop) (l0 l1 : Option Value) (x : Int32), Wp 123 2 (l0 :: l1 :: some (.int x) :: ls) (st) h Q ↔ Wp 123 3 (l0 :: l1 :: some (.int x) :: ls) (.int x :: st) h Q) ∧
  (∀ (ls : Lo) (st : List Value) (h : Hp) (Q : Option Value → Hp → Prop)  (i : Nat), Wp 123 3 (some (.ref i) :: ls) (st) h Q ↔ Wp 123 4 (some (.ref i) :: ls) (.ref i :: st) h Q) ∧
  (∀ (ls : Lo) (st : List Value) (n sl : Nat) (C Z : Nat → Nat) (I : Nat → Nat → Int32) (L : Nat → Nat → Int64) (R : Nat → Nat → Nat) (Q : Option Value → Hp → Prop) (i : Nat), Wp 123 4 (ls) (.ref i :: st) (n, sl, C, Z, I, L, R) Q ↔ (C i = 11 ∧ Wp 123 7 (ls) (.ref (R i 2) :: st) (n, sl, C, Z, I, L, R) Q)) ∧
  (∀ (ls : Lo) (st : List Value) (h : Hp) (Q : Option Value → Hp → Prop) (l0 : Option Value) (x : Int32), Wp 123 7 (l0 :: some (.int x) :: ls) (st) h Q ↔ Wp 123 8 (l0 :: some (.int x) :: ls) (.int x :: st) h Q) ∧
  (∀ (ls : Lo) (st : List Value) (n sl : Nat) (C Z : Nat → Nat) (I : Nat → Nat → Int32) (L : Nat → Nat → Int64) (R : Nat → Nat → Nat) (Q : Option Value → Hp → Prop) (i : Nat) (y : Int32), Wp 123 8 (ls) (.int y :: .ref i :: st) (n, sl, C, Z, I, L, R) Q ↔ ((inb y (Z i) = true ∧ C i = 21) ∧ Wp 123 9 (ls) (.int (I i (ix y)) :: st) (n, sl, C, Z, I, L, R) Q)) ∧
  (∀ (ls : Lo) (st : List Value) (h : Hp) (Q : Option Value → Hp → Prop) (x y : Int32), Wp 123 9 (ls) (.int y :: .int x :: st) h Q ↔ Br 123 67 12 ls st h Q (y ≤ x)) ∧
  (∀ (ls : Lo) (st : List Value) (h : Hp) (Q : Option Value → Hp → Prop)  (i : Nat), Wp 123 12 (some (.ref i) :: ls) (st) h Q ↔ Wp 123 13 (some (.ref i) :: ls) (.ref i :: st) h Q) ∧
  (∀ (ls : Lo) (st : List Value) (n sl : Nat) (C Z : Nat → Nat) (I : Nat → Nat → Int32) (L : Nat → Nat → Int64) (R : Nat → Nat → Nat) (Q : Option Value → Hp → Prop) (i : Nat), Wp 123 13 (ls) (.ref i :: st) (n, sl, C, Z, I, L, R) Q ↔ (C i = 11 ∧ Wp 123 16 (ls) (.ref (R i 27) :: st) (n, sl, C, Z, I, L, R) Q)) ∧
  (∀ (ls : Lo) (st : List Value) (h : Hp) (Q : Option Value → Hp → Prop) (l0 l1 : Option Value) (x : Int32), Wp 123 16 (l0 :: l1 :: some (.int x) :: ls) (st) h Q ↔ Wp 123 17 (l0 :: l1 :: some (.int x) :: ls) (.int x :: st) h Q) ∧
  (∀ (ls : Lo) (st : List Value) (h : Hp) (Q : Option Value → Hp → Prop), Wp 123 17 (ls) (st) h Q ↔ Wp 123 18 (ls) (.long 0 :: st) h Q) ∧
  (∀ (ls : Lo) (st : List Value) (n sl : Nat) (C Z : Nat → Nat) (I : Nat → Nat → Int32) (L : Nat → Nat → Int64) (R : Nat → Nat → Nat) (Q : Option Value → Hp → Prop) (i : Nat) (y : Int32) (a : Int64), Wp 123 18 (ls) (.long a :: .int y :: .ref i :: st) (n, sl, C, Z, I, L, R) Q ↔ ((inb y (Z i) = true ∧ C i = 22) ∧ Wp 123 19 (ls) (st) (n, sl, C, Z, I, u2 L i (ix y) a, R) Q)) ∧
  (∀ (ls : Lo) (st : List Value) (h : Hp) (Q : Option Value → Hp → Prop), Wp 123 19 (ls) (st) h Q ↔ Wp 123 20 (ls) (.int (0) :: st) h Q) ∧
  (∀ (ls : Lo) (st : List Value) (h : Hp) (Q : Option Value → Hp → Prop) (l0 l1 l2 l3 : Option Value) (x : Int32), Wp 123 20 (l0 :: l1 :: l2 :: l3 :: ls) (.int x :: st) h Q ↔ Wp 123 21 (l0 :: l1 :: clr l2 :: some (.int x) :: ls) (st) h Q) ∧
  (∀ (ls : Lo) (st : List Value) (h : Hp) (Q : Option Value → Hp → Prop) (l0 l1 l2 : Option Value) (x : Int32), Wp 123 21 (l0 :: l1 :: l2 :: some (.int x) :: ls) (st) h Q ↔ Wp 123 22 (l0 :: l1 :: l2 :: some (.int x) :: ls) (.int x :: st) h Q) ∧
  (∀ (ls : Lo) (st : List Value) (h : Hp) (Q : Option Value → Hp → Prop)  (i : Nat), Wp 123 22 (some (.ref i) :: ls) (st) h Q ↔ Wp 123 23 (some (.ref i) :: ls) (.ref i :: st) h Q) ∧
  (∀ (ls : Lo) (st : List Value) (n sl : Nat) (C Z : Nat → Nat) (I : Nat → Nat → Int32) (L : Nat → Nat → Int64) (R : Nat → Nat → Nat) (Q : Option Value → Hp → Prop) (i : Nat), Wp 123 23 (ls) (.ref i :: st) (n, sl, C, Z, I, L, R) Q ↔ (C i = 11 ∧ Wp 123 26 (ls) (.ref (R i 2) :: st) (n, sl, C, Z, I, L, R) Q)) ∧
  (∀ (ls : Lo) (st : List Value) (h : Hp) (Q : Option Value → Hp → Prop) (l0 : Option Value) (x : Int32), Wp 123 26 (l0 :: some (.int x) :: ls) (st) h Q ↔ Wp 123 27 (l0 :: some (.int x) :: ls) (.int x :: st) h Q) ∧
  (∀ (ls : Lo) (st : List Value) (n sl : Nat) (C Z : Nat → Nat) (I : Nat → Nat → Int32) (L : Nat → Nat → Int64) (R : Nat → Nat → Nat) (Q : Option Value → Hp → Prop) (i : Nat) (y : Int32), Wp 123 27 (ls) (.int y :: .ref i :: st) (n, sl, C, Z, I, L, R) Q ↔ ((inb y (Z i) = true ∧ C i = 21) ∧ Wp 123 28 (ls) (.int (I i (ix y)) :: st) (n, sl, C, Z, I, L, R) Q)) ∧
  (∀ (ls : Lo) (st : List Value) (h : Hp) (Q : Option Value → Hp → Prop) (x y : Int32), Wp 123 28 (ls) (.int y :: .int x :: st) h Q ↔ Br 123 61 31 ls st h Q (y ≤ x)) ∧
  (∀ (ls : Lo) (st : List Value) (h : Hp) (Q : Option Value → Hp → Prop)  (i : Nat), Wp 123 31 (some (.ref i) :: ls) (st) h Q ↔ Wp 123 32 (some (.ref i) :: ls) (.ref i :: st) h Q) ∧
  (∀ (ls : Lo) (st : List Value) (n sl : Nat) (C Z : Nat → Nat) (I : Nat → Nat → Int32) (L : Nat → Nat → Int64) (R : Nat → Nat → Nat) (Q : Option Value → Hp → Prop) (i : Nat), Wp 123 32 (ls) (.ref i :: st) (n, sl, C, Z, I, L, R) Q ↔ (C i = 11 ∧ Wp 123 35 (ls) (.ref (R i 27) :: st) (n, sl, C, Z, I, L, R) Q)) ∧
  (∀ (ls : Lo) (st : List Value) (h : Hp) (Q : Option Value → Hp → Prop) (l0 l1 : Option Value) (x : Int32), Wp 123 35 (l0 :: l1 :: some (.int x) :: ls) (st) h Q ↔ Wp 123 36 (l0 :: l1 :: some (.int x) :: ls) (.int x :: st) h Q) ∧
  (∀ (ls : Lo) (st : List Value) (h : Hp) (Q : Option Value → Hp → Prop) (x : Int32) (i : Nat), Wp 123 36 (ls) (.int x :: .ref i :: st) h Q ↔ Wp 123 37 (ls) (.int x :: .ref i :: .int x :: .ref i :: st) h Q) := ⟨by intro ls st h Q; exact e_iconst d123_0 rfl,
  by intro ls st h Q l0 l1 l2 x; exact e_istore_n d123_1 rfl,
  by intro ls st h Q l0 l1 x; exact e_iload_n d123_2 rfl,
  by intro ls st h Q i; exact e_aload_n d123_3 rfl,
  by intro ls st n sl C Z I L R Q i; exact e_get (g := 10) (s := 2) (ty := 2) d123_4 rfl rfl (inG_ne (by decide)),
  by intro ls st h Q l0 x; exact e_iload_n d123_7 rfl,
  by intro ls st n sl C Z I L R Q i y; exact e_iald d123_8,
  by intro ls st h Q x y; exact e_ic d123_9 (by decide) c_ge,
  by intro ls st h Q i; exact e_aload_n d123_12 rfl,
  by intro ls st n sl C Z I L R Q i; exact e_get (g := 10) (s := 27) (ty := 2) d123_13 rfl rfl (inG_ne (by decide)),
  by intro ls st h Q l0 l1 x; exact e_iload_n d123_16 rfl,
  by intro ls st h Q; exact e_lconst d123_17 rfl,
  by intro ls st n sl C Z I L R Q i y a; exact e_last d123_18,
  by intro ls st h Q; exact e_iconst d123_19 rfl,
  by intro ls st h Q l0 l1 l2 l3 x; exact e_istore_n d123_20 rfl,
  by intro ls st h Q l0 l1 l2 x; exact e_iload_n d123_21 rfl,
  by intro ls st h Q i; exact e_aload_n d123_22 rfl,
  by intro ls st n sl C Z I L R Q i; exact e_get (g := 10) (s := 2) (ty := 2) d123_23 rfl rfl (inG_ne (by decide)),
  by intro ls st h Q l0 x; exact e_iload_n d123_26 rfl,
  by intro ls st n sl C Z I L R Q i y; exact e_iald d123_27,
  by intro ls st h Q x y; exact e_ic d123_28 (by decide) c_ge,
  by intro ls st h Q i; exact e_aload_n d123_31 rfl,
  by intro ls st n sl C Z I L R Q i; exact e_get (g := 10) (s := 27) (ty := 2) d123_32 rfl rfl (inG_ne (by decide)),
  by intro ls st h Q l0 l1 x; exact e_iload_n d123_35 rfl,
  by intro ls st h Q x i; exact e_dup2R d123_36⟩
set_option maxRecDepth 20000 in
theorem S123_1 : (∀ (ls : Lo) (st : List Value) (h : Hp) (Q : Option Value → Hp → Prop) (a : Int64), Wp 123 36 (ls) (.long a :: st) h Q ↔ Wp 123 37 (ls) (.long a :: .long a :: st) h Q) ∧
  (∀ (ls : Lo) (st : List Value) (n sl : Nat) (C Z : Nat → Nat) (I : Nat → Nat → Int32) (L : Nat → Nat → Int64) (R : Nat → Nat → Nat) (Q : Option Value → Hp → Prop) (i : Nat) (y : Int32), Wp 123 37 (ls) (.int y :: .ref i :: st) (n, sl, C, Z, I, L, R) Q ↔ ((inb y (Z i) = true ∧ C i = 22) ∧ Wp 123 38 (ls) (.long (L i (ix y)) :: st) (n, sl, C, Z, I, L, R) Q)) ∧
  (∀ (ls : Lo) (st : List Value) (h : Hp) (Q : Option Value → Hp → Prop)  (i : Nat), Wp 123 38 (some (.ref i) :: ls) (st) h Q ↔ Wp 123 39 (some (.ref i) :: ls) (.ref i :: st) h Q) ∧
  (∀ (ls : Lo) (st : List Value) (h : Hp) (Q : Option Value → Hp → Prop) (l0 : Option Value) (x : Int32), Wp 123 39 (l0 :: some (.int x) :: ls) (st) h Q ↔ Wp 123 40 (l0 :: some (.int x) :: ls) (.int x :: st) h Q) ∧
  (∀ (ls : Lo) (st : List Value) (h : Hp) (Q : Option Value → Hp → Prop) (l0 l1 : Option Value) (x : Int32), Wp 123 40 (l0 :: l1 :: some (.int x) :: ls) (st) h Q ↔ Wp 123 41 (l0 :: l1 :: some (.int x) :: ls) (.int x :: st) h Q) ∧
  (∀ (ls : Lo) (st : List Value) (h : Hp) (Q : Option Value → Hp → Prop) (l0 l1 l2 : Option Value) (x : Int32), Wp 123 41 (l0 :: l1 :: l2 :: some (.int x) :: ls) (st) h Q ↔ Wp 123 42 (l0 :: l1 :: l2 :: some (.int x) :: ls) (.int x :: st) h Q) ∧
  (∀ (ls : Lo) (st : List Value) (n sl : Nat) (C Z : Nat → Nat) (I : Nat → Nat → Int32) (L : Nat → Nat → Int64) (R : Nat → Nat → Nat) (Q : Option Value → Hp → Prop) (x0 : Int32) (x1 : Int32) (x2 : Int32) (i : Nat), C i = 11 → (Wp 123 42 (ls) (.int x2 :: .int x1 :: .int x0 :: .ref i :: st) (n, sl, C, Z, I, L, R) Q ↔ (wsum st ≤ 8 ∧ Call 104 [some (.ref i), some (.int x0), some (.int x1), some (.int x2)] (n, sl, C, Z, I, L, R) 123 45 ls st Q))) ∧
  (∀ (ls : Lo) (st : List Value) (h : Hp) (Q : Option Value → Hp → Prop) (x : Int32), Wp 123 45 (ls) (.int x :: st) h Q ↔ Wp 123 46 (ls) (.long x.toInt64 :: st) h Q) ∧
  (∀ (ls : Lo) (st : List Value) (h : Hp) (Q : Option Value → Hp → Prop)  (i : Nat), Wp 123 46 (some (.ref i) :: ls) (st) h Q ↔ Wp 123 47 (some (.ref i) :: ls) (.ref i :: st) h Q) ∧
  (∀ (ls : Lo) (st : List Value) (n sl : Nat) (C Z : Nat → Nat) (I : Nat → Nat → Int32) (L : Nat → Nat → Int64) (R : Nat → Nat → Nat) (Q : Option Value → Hp → Prop) (i : Nat), Wp 123 47 (ls) (.ref i :: st) (n, sl, C, Z, I, L, R) Q ↔ (C i = 11 ∧ Wp 123 50 (ls) (.ref (R i 26) :: st) (n, sl, C, Z, I, L, R) Q)) ∧
  (∀ (ls : Lo) (st : List Value) (h : Hp) (Q : Option Value → Hp → Prop) (l0 l1 l2 : Option Value) (x : Int32), Wp 123 50 (l0 :: l1 :: l2 :: some (.int x) :: ls) (st) h Q ↔ Wp 123 51 (l0 :: l1 :: l2 :: some (.int x) :: ls) (.int x :: st) h Q) ∧
  (∀ (ls : Lo) (st : List Value) (n sl : Nat) (C Z : Nat → Nat) (I : Nat → Nat → Int32) (L : Nat → Nat → Int64) (R : Nat → Nat → Nat) (Q : Option Value → Hp → Prop) (i : Nat) (y : Int32), Wp 123 51 (ls) (.int y :: .ref i :: st) (n, sl, C, Z, I, L, R) Q ↔ ((inb y (Z i) = true ∧ C i = 22) ∧ Wp 123 52 (ls) (.long (L i (ix y)) :: st) (n, sl, C, Z, I, L, R) Q)) ∧
  (∀ (ls : Lo) (st : List Value) (h : Hp) (Q : Option Value → Hp → Prop) (a b : Int64), Wp 123 52 (ls) (.long b :: .long a :: st) h Q ↔ Wp 123 53 (ls) (.long (a * b) :: st) h Q) ∧
  (∀ (ls : Lo) (st : List Value) (h : Hp) (Q : Option Value → Hp → Prop) (a b : Int64), Wp 123 53 (ls) (.long b :: .long a :: st) h Q ↔ Wp 123 54 (ls) (.long (a + b) :: st) h Q) ∧
  (∀ (ls : Lo) (st : List Value) (n sl : Nat) (C Z : Nat → Nat) (I : Nat → Nat → Int32) (L : Nat → Nat → Int64) (R : Nat → Nat → Nat) (Q : Option Value → Hp → Prop) (i : Nat) (y : Int32) (a : Int64), Wp 123 54 (ls) (.long a :: .int y :: .ref i :: st) (n, sl, C, Z, I, L, R) Q ↔ ((inb y (Z i) = true ∧ C i = 22) ∧ Wp 123 55 (ls) (st) (n, sl, C, Z, I, u2 L i (ix y) a, R) Q)) ∧
  (∀ (ls : Lo) (st : List Value) (h : Hp) (Q : Option Value → Hp → Prop) (l0 l1 l2 : Option Value) (x : Int32), Wp 123 55 (l0 :: l1 :: l2 :: some (.int x) :: ls) (st) h Q ↔ Wp 123 58 (l0 :: l1 :: clr l2 :: some (.int (x + (1))) :: ls) (st) h Q) ∧
  (∀ (ls : Lo) (st : List Value) (h : Hp) (Q : Option Value → Hp → Prop), Wp 123 58 (ls) (st) h Q ↔ Wp 123 21 (ls) (st) h Q) ∧
  (∀ (ls : Lo) (st : List Value) (h : Hp) (Q : Option Value → Hp → Prop) (l0 l1 : Option Value) (x : Int32), Wp 123 61 (l0 :: l1 :: some (.int x) :: ls) (st) h Q ↔ Wp 123 64 (l0 :: clr l1 :: some (.int (x + (1))) :: ls) (st) h Q) ∧
  (∀ (ls : Lo) (st : List Value) (h : Hp) (Q : Option Value → Hp → Prop), Wp 123 64 (ls) (st) h Q ↔ Wp 123 2 (ls) (st) h Q) ∧
  (∀ (ls : Lo) (st : List Value) (h : Hp) (Q : Option Value → Hp → Prop), Wp 123 67 (ls) (st) h Q ↔ Wp 123 68 (ls) (.int (0) :: st) h Q) ∧
  (∀ (ls : Lo) (st : List Value) (h : Hp) (Q : Option Value → Hp → Prop) (l0 l1 l2 : Option Value) (x : Int32), Wp 123 68 (l0 :: l1 :: l2 :: ls) (.int x :: st) h Q ↔ Wp 123 69 (l0 :: clr l1 :: some (.int x) :: ls) (st) h Q) ∧
  (∀ (ls : Lo) (st : List Value) (h : Hp) (Q : Option Value → Hp → Prop) (l0 l1 : Option Value) (x : Int32), Wp 123 69 (l0 :: l1 :: some (.int x) :: ls) (st) h Q ↔ Wp 123 70 (l0 :: l1 :: some (.int x) :: ls) (.int x :: st) h Q) ∧
  (∀ (ls : Lo) (st : List Value) (h : Hp) (Q : Option Value → Hp → Prop)  (i : Nat), Wp 123 70 (some (.ref i) :: ls) (st) h Q ↔ Wp 123 71 (some (.ref i) :: ls) (.ref i :: st) h Q) ∧
  (∀ (ls : Lo) (st : List Value) (n sl : Nat) (C Z : Nat → Nat) (I : Nat → Nat → Int32) (L : Nat → Nat → Int64) (R : Nat → Nat → Nat) (Q : Option Value → Hp → Prop) (i : Nat), Wp 123 71 (ls) (.ref i :: st) (n, sl, C, Z, I, L, R) Q ↔ (C i = 11 ∧ Wp 123 74 (ls) (.ref (R i 2) :: st) (n, sl, C, Z, I, L, R) Q)) ∧
  (∀ (ls : Lo) (st : List Value) (h : Hp) (Q : Option Value → Hp → Prop) (l0 : Option Value) (x : Int32), Wp 123 74 (l0 :: some (.int x) :: ls) (st) h Q ↔ Wp 123 75 (l0 :: some (.int x) :: ls) (.int x :: st) h Q) := ⟨by intro ls st h Q a; exact e_dup2L d123_36,
  by intro ls st n sl C Z I L R Q i y; exact e_lald d123_37,
  by intro ls st h Q i; exact e_aload_n d123_38 rfl,
  by intro ls st h Q l0 x; exact e_iload_n d123_39 rfl,
  by intro ls st h Q l0 l1 x; exact e_iload_n d123_40 rfl,
  by intro ls st h Q l0 l1 l2 x; exact e_iload_n d123_41 rfl,
  by intro ls st n sl C Z I L R Q x0 x1 x2 i hh; exact e_iv (k2 := 104) (c := 11) (as := [.int x0, .int x1, .int x2]) d123_42 rfl (by decide) rfl rfl (by decide +kernel) (Nat.le_of_ble_eq_true rfl) rfl hh,
  by intro ls st h Q x; exact e_i2l d123_45,
  by intro ls st h Q i; exact e_aload_n d123_46 rfl,
  by intro ls st n sl C Z I L R Q i; exact e_get (g := 10) (s := 26) (ty := 2) d123_47 rfl rfl (inG_ne (by decide)),
  by intro ls st h Q l0 l1 l2 x; exact e_iload_n d123_50 rfl,
  by intro ls st n sl C Z I L R Q i y; exact e_lald d123_51,
  by intro ls st h Q a b; exact e_lmul d123_52,
  by intro ls st h Q a b; exact e_ladd d123_53,
  by intro ls st n sl C Z I L R Q i y a; exact e_last d123_54,
  by intro ls st h Q l0 l1 l2 x; exact e_iinc d123_55 rfl rfl rfl,
  by intro ls st h Q; exact e_goto d123_58 (by decide),
  by intro ls st h Q l0 l1 x; exact e_iinc d123_61 rfl rfl rfl,
  by intro ls st h Q; exact e_goto d123_64 (by decide),
  by intro ls st h Q; exact e_iconst d123_67 rfl,
  by intro ls st h Q l0 l1 l2 x; exact e_istore_n d123_68 rfl,
  by intro ls st h Q l0 l1 x; exact e_iload_n d123_69 rfl,
  by intro ls st h Q i; exact e_aload_n d123_70 rfl,
  by intro ls st n sl C Z I L R Q i; exact e_get (g := 10) (s := 2) (ty := 2) d123_71 rfl rfl (inG_ne (by decide)),
  by intro ls st h Q l0 x; exact e_iload_n d123_74 rfl⟩
set_option maxRecDepth 20000 in
theorem S123_2 : (∀ (ls : Lo) (st : List Value) (n sl : Nat) (C Z : Nat → Nat) (I : Nat → Nat → Int32) (L : Nat → Nat → Int64) (R : Nat → Nat → Nat) (Q : Option Value → Hp → Prop) (i : Nat) (y : Int32), Wp 123 75 (ls) (.int y :: .ref i :: st) (n, sl, C, Z, I, L, R) Q ↔ ((inb y (Z i) = true ∧ C i = 21) ∧ Wp 123 76 (ls) (.int (I i (ix y)) :: st) (n, sl, C, Z, I, L, R) Q)) ∧
  (∀ (ls : Lo) (st : List Value) (h : Hp) (Q : Option Value → Hp → Prop) (x y : Int32), Wp 123 76 (ls) (.int y :: .int x :: st) h Q ↔ Br 123 97 79 ls st h Q (y ≤ x)) ∧
  (∀ (ls : Lo) (st : List Value) (h : Hp) (Q : Option Value → Hp → Prop)  (i : Nat), Wp 123 79 (some (.ref i) :: ls) (st) h Q ↔ Wp 123 80 (some (.ref i) :: ls) (.ref i :: st) h Q) ∧
  (∀ (ls : Lo) (st : List Value) (n sl : Nat) (C Z : Nat → Nat) (I : Nat → Nat → Int32) (L : Nat → Nat → Int64) (R : Nat → Nat → Nat) (Q : Option Value → Hp → Prop) (i : Nat), Wp 123 80 (ls) (.ref i :: st) (n, sl, C, Z, I, L, R) Q ↔ (C i = 11 ∧ Wp 123 83 (ls) (.ref (R i 26) :: st) (n, sl, C, Z, I, L, R) Q)) ∧
  (∀ (ls : Lo) (st : List Value) (h : Hp) (Q : Option Value → Hp → Prop) (l0 l1 : Option Value) (x : Int32), Wp 123 83 (l0 :: l1 :: some (.int x) :: ls) (st) h Q ↔ Wp 123 84 (l0 :: l1 :: some (.int x) :: ls) (.int x :: st) h Q) ∧
  (∀ (ls : Lo) (st : List Value) (h : Hp) (Q : Option Value → Hp → Prop)  (i : Nat), Wp 123 84 (some (.ref i) :: ls) (st) h Q ↔ Wp 123 85 (some (.ref i) :: ls) (.ref i :: st) h Q) ∧
  (∀ (ls : Lo) (st : List Value) (n sl : Nat) (C Z : Nat → Nat) (I : Nat → Nat → Int32) (L : Nat → Nat → Int64) (R : Nat → Nat → Nat) (Q : Option Value → Hp → Prop) (i : Nat), Wp 123 85 (ls) (.ref i :: st) (n, sl, C, Z, I, L, R) Q ↔ (C i = 11 ∧ Wp 123 88 (ls) (.ref (R i 27) :: st) (n, sl, C, Z, I, L, R) Q)) ∧
  (∀ (ls : Lo) (st : List Value) (h : Hp) (Q : Option Value → Hp → Prop) (l0 l1 : Option Value) (x : Int32), Wp 123 88 (l0 :: l1 :: some (.int x) :: ls) (st) h Q ↔ Wp 123 89 (l0 :: l1 :: some (.int x) :: ls) (.int x :: st) h Q) ∧
  (∀ (ls : Lo) (st : List Value) (n sl : Nat) (C Z : Nat → Nat) (I : Nat → Nat → Int32) (L : Nat → Nat → Int64) (R : Nat → Nat → Nat) (Q : Option Value → Hp → Prop) (i : Nat) (y : Int32), Wp 123 89 (ls) (.int y :: .ref i :: st) (n, sl, C, Z, I, L, R) Q ↔ ((inb y (Z i) = true ∧ C i = 22) ∧ Wp 123 90 (ls) (.long (L i (ix y)) :: st) (n, sl, C, Z, I, L, R) Q)) ∧
  (∀ (ls : Lo) (st : List Value) (n sl : Nat) (C Z : Nat → Nat) (I : Nat → Nat → Int32) (L : Nat → Nat → Int64) (R : Nat → Nat → Nat) (Q : Option Value → Hp → Prop) (i : Nat) (y : Int32) (a : Int64), Wp 123 90 (ls) (.long a :: .int y :: .ref i :: st) (n, sl, C, Z, I, L, R) Q ↔ ((inb y (Z i) = true ∧ C i = 22) ∧ Wp 123 91 (ls) (st) (n, sl, C, Z, I, u2 L i (ix y) a, R) Q)) ∧
  (∀ (ls : Lo) (st : List Value) (h : Hp) (Q : Option Value → Hp → Prop) (l0 l1 : Option Value) (x : Int32), Wp 123 91 (l0 :: l1 :: some (.int x) :: ls) (st) h Q ↔ Wp 123 94 (l0 :: clr l1 :: some (.int (x + (1))) :: ls) (st) h Q) ∧
  (∀ (ls : Lo) (st : List Value) (h : Hp) (Q : Option Value → Hp → Prop), Wp 123 94 (ls) (st) h Q ↔ Wp 123 69 (ls) (st) h Q) ∧
  (∀ (ls : Lo) (h : Hp) (Q : Option Value → Hp → Prop), Wp 123 97 (ls) ([]) h Q ↔ Q none h) := ⟨by intro ls st n sl C Z I L R Q i y; exact e_iald d123_75,
  by intro ls st h Q x y; exact e_ic d123_76 (by decide) c_ge,
  by intro ls st h Q i; exact e_aload_n d123_79 rfl,
  by intro ls st n sl C Z I L R Q i; exact e_get (g := 10) (s := 26) (ty := 2) d123_80 rfl rfl (inG_ne (by decide)),
  by intro ls st h Q l0 l1 x; exact e_iload_n d123_83 rfl,
  by intro ls st h Q i; exact e_aload_n d123_84 rfl,
  by intro ls st n sl C Z I L R Q i; exact e_get (g := 10) (s := 27) (ty := 2) d123_85 rfl rfl (inG_ne (by decide)),
  by intro ls st h Q l0 l1 x; exact e_iload_n d123_88 rfl,
  by intro ls st n sl C Z I L R Q i y; exact e_lald d123_89,
  by intro ls st n sl C Z I L R Q i y a; exact e_last d123_90,
  by intro ls st h Q l0 l1 x; exact e_iinc d123_91 rfl rfl rfl,
  by intro ls st h Q; exact e_goto d123_94 (by decide),
  by intros; exact e_rV d123_97 rfl⟩
theorem d124_0 : decode (byt 124) 0 = .ok (.aload_n 0, 1) := by decide +kernel
theorem d124_1 : decode (byt 124) 1 = .ok (.iload_n 1, 1) := by decide +kernel
theorem d124_2 : decode (byt 124) 2 = .ok (.iload_n 2, 1) := by decide +kernel
theorem d124_3 : decode (byt 124) 3 = .ok (.iload_n 2, 1) := by decide +kernel
theorem d124_4 : decode (byt 124) 4 = .ok (.invokevirtual 102, 3) := by decide +kernel
theorem d124_7 : decode (byt 124) 7 = .ok (.i2l, 1) := by decide +kernel
theorem d124_8 : decode (byt 124) 8 = .ok (.aload_n 0, 1) := by decide +kernel
theorem d124_9 : decode (byt 124) 9 = .ok (.iload_n 1, 1) := by decide +kernel
theorem d124_10 : decode (byt 124) 10 = .ok (.iload_n 3, 1) := by decide +kernel
theorem d124_11 : decode (byt 124) 11 = .ok (.iload_n 3, 1) := by decide +kernel
theorem d124_12 : decode (byt 124) 12 = .ok (.invokevirtual 102, 3) := by decide +kernel
theorem d124_15 : decode (byt 124) 15 = .ok (.i2l, 1) := by decide +kernel
theorem d124_16 : decode (byt 124) 16 = .ok (.lmul, 1) := by decide +kernel
theorem d124_17 : decode (byt 124) 17 = .ok (.aload_n 0, 1) := by decide +kernel
theorem d124_18 : decode (byt 124) 18 = .ok (.iload_n 1, 1) := by decide +kernel
theorem d124_19 : decode (byt 124) 19 = .ok (.iload_n 2, 1) := by decide +kernel
theorem d124_20 : decode (byt 124) 20 = .ok (.iload_n 3, 1) := by decide +kernel
theorem d124_21 : decode (byt 124) 21 = .ok (.invokevirtual 102, 3) := by decide +kernel
theorem d124_24 : decode (byt 124) 24 = .ok (.i2l, 1) := by decide +kernel
theorem d124_25 : decode (byt 124) 25 = .ok (.aload_n 0, 1) := by decide +kernel
theorem d124_26 : decode (byt 124) 26 = .ok (.iload_n 1, 1) := by decide +kernel
theorem d124_27 : decode (byt 124) 27 = .ok (.iload_n 3, 1) := by decide +kernel
theorem d124_28 : decode (byt 124) 28 = .ok (.iload_n 2, 1) := by decide +kernel
theorem d124_29 : decode (byt 124) 29 = .ok (.invokevirtual 102, 3) := by decide +kernel
theorem d124_32 : decode (byt 124) 32 = .ok (.i2l, 1) := by decide +kernel
theorem d124_33 : decode (byt 124) 33 = .ok (.lmul, 1) := by decide +kernel
theorem d124_34 : decode (byt 124) 34 = .ok (.lsub, 1) := by decide +kernel
theorem d124_35 : decode (byt 124) 35 = .ok (.lreturn, 1) := by decide +kernel
set_option maxRecDepth 20000 in
theorem S124_0 : (∀ (ls : Lo) (st : List Value) (h : Hp) (Q : Option Value → Hp → Prop)  (i : Nat), Wp 124 0 (some (.ref i) :: ls) (st) h Q ↔ Wp 124 1 (some (.ref i) :: ls) (.ref i :: st) h Q) ∧
  (∀ (ls : Lo) (st : List Value) (h : Hp) (Q : Option Value → Hp → Prop) (l0 : Option Value) (x : Int32), Wp 124 1 (l0 :: some (.int x) :: ls) (st) h Q ↔ Wp 124 2 (l0 :: some (.int x) :: ls) (.int x :: st) h Q) ∧
  (∀ (ls : Lo) (st : List Value) (h : Hp) (Q : Option Value → Hp → Prop) (l0 l1 : Option Value) (x : Int32), Wp 124 2 (l0 :: l1 :: some (.int x) :: ls) (st) h Q ↔ Wp 124 3 (l0 :: l1 :: some (.int x) :: ls) (.int x :: st) h Q) ∧
  (∀ (ls : Lo) (st : List Value) (h : Hp) (Q : Option Value → Hp → Prop) (l0 l1 : Option Value) (x : Int32), Wp 124 3 (l0 :: l1 :: some (.int x) :: ls) (st) h Q ↔ Wp 124 4 (l0 :: l1 :: some (.int x) :: ls) (.int x :: st) h Q) ∧
  (∀ (ls : Lo) (st : List Value) (n sl : Nat) (C Z : Nat → Nat) (I : Nat → Nat → Int32) (L : Nat → Nat → Int64) (R : Nat → Nat → Nat) (Q : Option Value → Hp → Prop) (x0 : Int32) (x1 : Int32) (x2 : Int32) (i : Nat), C i = 11 → (Wp 124 4 (ls) (.int x2 :: .int x1 :: .int x0 :: .ref i :: st) (n, sl, C, Z, I, L, R) Q ↔ (wsum st ≤ 8 ∧ Call 104 [some (.ref i), some (.int x0), some (.int x1), some (.int x2)] (n, sl, C, Z, I, L, R) 124 7 ls st Q))) ∧
  (∀ (ls : Lo) (st : List Value) (h : Hp) (Q : Option Value → Hp → Prop) (x : Int32), Wp 124 7 (ls) (.int x :: st) h Q ↔ Wp 124 8 (ls) (.long x.toInt64 :: st) h Q) ∧
  (∀ (ls : Lo) (st : List Value) (h : Hp) (Q : Option Value → Hp → Prop)  (i : Nat), Wp 124 8 (some (.ref i) :: ls) (st) h Q ↔ Wp 124 9 (some (.ref i) :: ls) (.ref i :: st) h Q) ∧
  (∀ (ls : Lo) (st : List Value) (h : Hp) (Q : Option Value → Hp → Prop) (l0 : Option Value) (x : Int32), Wp 124 9 (l0 :: some (.int x) :: ls) (st) h Q ↔ Wp 124 10 (l0 :: some (.int x) :: ls) (.int x :: st) h Q) ∧
  (∀ (ls : Lo) (st : List Value) (h : Hp) (Q : Option Value → Hp → Prop) (l0 l1 l2 : Option Value) (x : Int32), Wp 124 10 (l0 :: l1 :: l2 :: some (.int x) :: ls) (st) h Q ↔ Wp 124 11 (l0 :: l1 :: l2 :: some (.int x) :: ls) (.int x :: st) h Q) ∧
  (∀ (ls : Lo) (st : List Value) (h : Hp) (Q : Option Value → Hp → Prop) (l0 l1 l2 : Option Value) (x : Int32), Wp 124 11 (l0 :: l1 :: l2 :: some (.int x) :: ls) (st) h Q ↔ Wp 124 12 (l0 :: l1 :: l2 :: some (.int x) :: ls) (.int x :: st) h Q) ∧
  (∀ (ls : Lo) (st : List Value) (n sl : Nat) (C Z : Nat → Nat) (I : Nat → Nat → Int32) (L : Nat → Nat → Int64) (R : Nat → Nat → Nat) (Q : Option Value → Hp → Prop) (x0 : Int32) (x1 : Int32) (x2 : Int32) (i : Nat), C i = 11 → (Wp 124 12 (ls) (.int x2 :: .int x1 :: .int x0 :: .ref i :: st) (n, sl, C, Z, I, L, R) Q ↔ (wsum st ≤ 8 ∧ Call 104 [some (.ref i), some (.int x0), some (.int x1), some (.int x2)] (n, sl, C, Z, I, L, R) 124 15 ls st Q))) ∧
  (∀ (ls : Lo) (st : List Value) (h : Hp) (Q : Option Value → Hp → Prop) (x : Int32), Wp 124 15 (ls) (.int x :: st) h Q ↔ Wp 124 16 (ls) (.long x.toInt64 :: st) h Q) ∧
  (∀ (ls : Lo) (st : List Value) (h : Hp) (Q : Option Value → Hp → Prop) (a b : Int64), Wp 124 16 (ls) (.long b :: .long a :: st) h Q ↔ Wp 124 17 (ls) (.long (a * b) :: st) h Q) ∧
  (∀ (ls : Lo) (st : List Value) (h : Hp) (Q : Option Value → Hp → Prop)  (i : Nat), Wp 124 17 (some (.ref i) :: ls) (st) h Q ↔ Wp 124 18 (some (.ref i) :: ls) (.ref i :: st) h Q) ∧
  (∀ (ls : Lo) (st : List Value) (h : Hp) (Q : Option Value → Hp → Prop) (l0 : Option Value) (x : Int32), Wp 124 18 (l0 :: some (.int x) :: ls) (st) h Q ↔ Wp 124 19 (l0 :: some (.int x) :: ls) (.int x :: st) h Q) ∧
  (∀ (ls : Lo) (st : List Value) (h : Hp) (Q : Option Value → Hp → Prop) (l0 l1 : Option Value) (x : Int32), Wp 124 19 (l0 :: l1 :: some (.int x) :: ls) (st) h Q ↔ Wp 124 20 (l0 :: l1 :: some (.int x) :: ls) (.int x :: st) h Q) ∧
  (∀ (ls : Lo) (st : List Value) (h : Hp) (Q : Option Value → Hp → Prop) (l0 l1 l2 : Option Value) (x : Int32), Wp 124 20 (l0 :: l1 :: l2 :: some (.int x) :: ls) (st) h Q ↔ Wp 124 21 (l0 :: l1 :: l2 :: some (.int x) :: ls) (.int x :: st) h Q) ∧
  (∀ (ls : Lo) (st : List Value) (n sl : Nat) (C Z : Nat → Nat) (I : Nat → Nat → Int32) (L : Nat → Nat → Int64) (R : Nat → Nat → Nat) (Q : Option Value → Hp → Prop) (x0 : Int32) (x1 : Int32) (x2 : Int32) (i : Nat), C i = 11 → (Wp 124 21 (ls) (.int x2 :: .int x1 :: .int x0 :: .ref i :: st) (n, sl, C, Z, I, L, R) Q ↔ (wsum st ≤ 8 ∧ Call 104 [some (.ref i), some (.int x0), some (.int x1), some (.int x2)] (n, sl, C, Z, I, L, R) 124 24 ls st Q))) ∧
  (∀ (ls : Lo) (st : List Value) (h : Hp) (Q : Option Value → Hp → Prop) (x : Int32), Wp 124 24 (ls) (.int x :: st) h Q ↔ Wp 124 25 (ls) (.long x.toInt64 :: st) h Q) ∧
  (∀ (ls : Lo) (st : List Value) (h : Hp) (Q : Option Value → Hp → Prop)  (i : Nat), Wp 124 25 (some (.ref i) :: ls) (st) h Q ↔ Wp 124 26 (some (.ref i) :: ls) (.ref i :: st) h Q) ∧
  (∀ (ls : Lo) (st : List Value) (h : Hp) (Q : Option Value → Hp → Prop) (l0 : Option Value) (x : Int32), Wp 124 26 (l0 :: some (.int x) :: ls) (st) h Q ↔ Wp 124 27 (l0 :: some (.int x) :: ls) (.int x :: st) h Q) ∧
  (∀ (ls : Lo) (st : List Value) (h : Hp) (Q : Option Value → Hp → Prop) (l0 l1 l2 : Option Value) (x : Int32), Wp 124 27 (l0 :: l1 :: l2 :: some (.int x) :: ls) (st) h Q ↔ Wp 124 28 (l0 :: l1 :: l2 :: some (.int x) :: ls) (.int x :: st) h Q) ∧
  (∀ (ls : Lo) (st : List Value) (h : Hp) (Q : Option Value → Hp → Prop) (l0 l1 : Option Value) (x : Int32), Wp 124 28 (l0 :: l1 :: some (.int x) :: ls) (st) h Q ↔ Wp 124 29 (l0 :: l1 :: some (.int x) :: ls) (.int x :: st) h Q) ∧
  (∀ (ls : Lo) (st : List Value) (n sl : Nat) (C Z : Nat → Nat) (I : Nat → Nat → Int32) (L : Nat → Nat → Int64) (R : Nat → Nat → Nat) (Q : Option Value → Hp → Prop) (x0 : Int32) (x1 : Int32) (x2 : Int32) (i : Nat), C i = 11 → (Wp 124 29 (ls) (.int x2 :: .int x1 :: .int x0 :: .ref i :: st) (n, sl, C, Z, I, L, R) Q ↔ (wsum st ≤ 8 ∧ Call 104 [some (.ref i), some (.int x0), some (.int x1), some (.int x2)] (n, sl, C, Z, I, L, R) 124 32 ls st Q))) ∧
  (∀ (ls : Lo) (st : List Value) (h : Hp) (Q : Option Value → Hp → Prop) (x : Int32), Wp 124 32 (ls) (.int x :: st) h Q ↔ Wp 124 33 (ls) (.long x.toInt64 :: st) h Q) := ⟨by intro ls st h Q i; exact e_aload_n d124_0 rfl,
  by intro ls st h Q l0 x; exact e_iload_n d124_1 rfl,
  by intro ls st h Q l0 l1 x; exact e_iload_n d124_2 rfl,
  by intro ls st h Q l0 l1 x; exact e_iload_n d124_3 rfl,
  by intro ls st n sl C Z I L R Q x0 x1 x2 i hh; exact e_iv (k2 := 104) (c := 11) (as := [.int x0, .int x1, .int x2]) d124_4 rfl (by decide) rfl rfl (by decide +kernel) (Nat.le_of_ble_eq_true rfl) rfl hh,
  by intro ls st h Q x; exact e_i2l d124_7,
  by intro ls st h Q i; exact e_aload_n d124_8 rfl,
  by intro ls st h Q l0 x; exact e_iload_n d124_9 rfl,
  by intro ls st h Q l0 l1 l2 x; exact e_iload_n d124_10 rfl,
  by intro ls st h Q l0 l1 l2 x; exact e_iload_n d124_11 rfl,
  by intro ls st n sl C Z I L R Q x0 x1 x2 i hh; exact e_iv (k2 := 104) (c := 11) (as := [.int x0, .int x1, .int x2]) d124_12 rfl (by decide) rfl rfl (by decide +kernel) (Nat.le_of_ble_eq_true rfl) rfl hh,
  by intro ls st h Q x; exact e_i2l d124_15,
  by intro ls st h Q a b; exact e_lmul d124_16,
  by intro ls st h Q i; exact e_aload_n d124_17 rfl,
  by intro ls st h Q l0 x; exact e_iload_n d124_18 rfl,
  by intro ls st h Q l0 l1 x; exact e_iload_n d124_19 rfl,
  by intro ls st h Q l0 l1 l2 x; exact e_iload_n d124_20 rfl,
  by intro ls st n sl C Z I L R Q x0 x1 x2 i hh; exact e_iv (k2 := 104) (c := 11) (as := [.int x0, .int x1, .int x2]) d124_21 rfl (by decide) rfl rfl (by decide +kernel) (Nat.le_of_ble_eq_true rfl) rfl hh,
  by intro ls st h Q x; exact e_i2l d124_24,
  by intro ls st h Q i; exact e_aload_n d124_25 rfl,
  by intro ls st h Q l0 x; exact e_iload_n d124_26 rfl,
  by intro ls st h Q l0 l1 l2 x; exact e_iload_n d124_27 rfl,
  by intro ls st h Q l0 l1 x; exact e_iload_n d124_28 rfl,
  by intro ls st n sl C Z I L R Q x0 x1 x2 i hh; exact e_iv (k2 := 104) (c := 11) (as := [.int x0, .int x1, .int x2]) d124_29 rfl (by decide) rfl rfl (by decide +kernel) (Nat.le_of_ble_eq_true rfl) rfl hh,
  by intro ls st h Q x; exact e_i2l d124_32⟩
set_option maxRecDepth 20000 in
theorem S124_1 : (∀ (ls : Lo) (st : List Value) (h : Hp) (Q : Option Value → Hp → Prop) (a b : Int64), Wp 124 33 (ls) (.long b :: .long a :: st) h Q ↔ Wp 124 34 (ls) (.long (a * b) :: st) h Q) ∧
  (∀ (ls : Lo) (st : List Value) (h : Hp) (Q : Option Value → Hp → Prop) (a b : Int64), Wp 124 34 (ls) (.long b :: .long a :: st) h Q ↔ Wp 124 35 (ls) (.long (a - b) :: st) h Q) ∧
  (∀ (ls : Lo) (h : Hp) (Q : Option Value → Hp → Prop) (a : Int64), Wp 124 35 (ls) ([.long a]) h Q ↔ Q (some (.long a)) h) := ⟨by intro ls st h Q a b; exact e_lmul d124_33,
  by intro ls st h Q a b; exact e_lsub d124_34,
  by intros; exact e_rL d124_35 rfl⟩
theorem d125_0 : decode (byt 125) 0 = .ok (.aload_n 0, 1) := by decide +kernel
theorem d125_1 : decode (byt 125) 1 = .ok (.getfield 13, 3) := by decide +kernel
theorem d125_4 : decode (byt 125) 4 = .ok (.iload_n 1, 1) := by decide +kernel
theorem d125_5 : decode (byt 125) 5 = .ok (.iaload, 1) := by decide +kernel
theorem d125_6 : decode (byt 125) 6 = .ok (.istore_n 2, 1) := by decide +kernel
theorem d125_7 : decode (byt 125) 7 = .ok (.lconst 0, 1) := by decide +kernel
theorem d125_8 : decode (byt 125) 8 = .ok (.lstore_n 3, 1) := by decide +kernel
theorem d125_9 : decode (byt 125) 9 = .ok (.lconst 0, 1) := by decide +kernel
theorem d125_10 : decode (byt 125) 10 = .ok (.lstore 5, 2) := by decide +kernel
theorem d125_12 : decode (byt 125) 12 = .ok (.iconst 0, 1) := by decide +kernel
theorem d125_13 : decode (byt 125) 13 = .ok (.istore 7, 2) := by decide +kernel
theorem d125_15 : decode (byt 125) 15 = .ok (.iload 7, 2) := by decide +kernel
theorem d125_17 : decode (byt 125) 17 = .ok (.iload_n 2, 1) := by decide +kernel
theorem d125_18 : decode (byt 125) 18 = .ok (.if_icmp .ge 52, 3) := by decide +kernel
theorem d125_21 : decode (byt 125) 21 = .ok (.lload_n 3, 1) := by decide +kernel
theorem d125_22 : decode (byt 125) 22 = .ok (.aload_n 0, 1) := by decide +kernel
theorem d125_23 : decode (byt 125) 23 = .ok (.iload_n 1, 1) := by decide +kernel
theorem d125_24 : decode (byt 125) 24 = .ok (.iload 7, 2) := by decide +kernel
theorem d125_26 : decode (byt 125) 26 = .ok (.iload 7, 2) := by decide +kernel
theorem d125_28 : decode (byt 125) 28 = .ok (.invokevirtual 102, 3) := by decide +kernel
theorem d125_31 : decode (byt 125) 31 = .ok (.i2l, 1) := by decide +kernel
theorem d125_32 : decode (byt 125) 32 = .ok (.ladd, 1) := by decide +kernel
theorem d125_33 : decode (byt 125) 33 = .ok (.lstore_n 3, 1) := by decide +kernel
theorem d125_34 : decode (byt 125) 34 = .ok (.iconst 0, 1) := by decide +kernel
theorem d125_35 : decode (byt 125) 35 = .ok (.istore 8, 2) := by decide +kernel
theorem d125_37 : decode (byt 125) 37 = .ok (.iload 8, 2) := by decide +kernel
theorem d125_39 : decode (byt 125) 39 = .ok (.iload 7, 2) := by decide +kernel
theorem d125_41 : decode (byt 125) 41 = .ok (.if_icmp .ge 23, 3) := by decide +kernel
theorem d125_44 : decode (byt 125) 44 = .ok (.lload 5, 2) := by decide +kernel
theorem d125_46 : decode (byt 125) 46 = .ok (.aload_n 0, 1) := by decide +kernel
theorem d125_47 : decode (byt 125) 47 = .ok (.iload_n 1, 1) := by decide +kernel
theorem d125_48 : decode (byt 125) 48 = .ok (.iload 7, 2) := by decide +kernel
theorem d125_50 : decode (byt 125) 50 = .ok (.iload 8, 2) := by decide +kernel
theorem d125_52 : decode (byt 125) 52 = .ok (.invokevirtual 132, 3) := by decide +kernel
theorem d125_55 : decode (byt 125) 55 = .ok (.ladd, 1) := by decide +kernel
theorem d125_56 : decode (byt 125) 56 = .ok (.lstore 5, 2) := by decide +kernel
theorem d125_58 : decode (byt 125) 58 = .ok (.iinc 8 1, 3) := by decide +kernel
theorem d125_61 : decode (byt 125) 61 = .ok (.goto (-24), 3) := by decide +kernel
theorem d125_64 : decode (byt 125) 64 = .ok (.iinc 7 1, 3) := by decide +kernel
theorem d125_67 : decode (byt 125) 67 = .ok (.goto (-52), 3) := by decide +kernel
theorem d125_70 : decode (byt 125) 70 = .ok (.iconst 0, 1) := by decide +kernel
theorem d125_71 : decode (byt 125) 71 = .ok (.istore 7, 2) := by decide +kernel
theorem d125_73 : decode (byt 125) 73 = .ok (.iload 7, 2) := by decide +kernel
theorem d125_75 : decode (byt 125) 75 = .ok (.iconst 4, 1) := by decide +kernel
theorem d125_76 : decode (byt 125) 76 = .ok (.if_icmp .ge 17, 3) := by decide +kernel
theorem d125_79 : decode (byt 125) 79 = .ok (.aload_n 0, 1) := by decide +kernel
theorem d125_80 : decode (byt 125) 80 = .ok (.getfield 62, 3) := by decide +kernel
theorem d125_83 : decode (byt 125) 83 = .ok (.iload 7, 2) := by decide +kernel
theorem d125_85 : decode (byt 125) 85 = .ok (.lconst 0, 1) := by decide +kernel
theorem d125_86 : decode (byt 125) 86 = .ok (.lastore, 1) := by decide +kernel
theorem d125_87 : decode (byt 125) 87 = .ok (.iinc 7 1, 3) := by decide +kernel
theorem d125_90 : decode (byt 125) 90 = .ok (.goto (-17), 3) := by decide +kernel
theorem d125_93 : decode (byt 125) 93 = .ok (.aload_n 0, 1) := by decide +kernel
theorem d125_94 : decode (byt 125) 94 = .ok (.getfield 62, 3) := by decide +kernel
theorem d125_97 : decode (byt 125) 97 = .ok (.iload_n 2, 1) := by decide +kernel
theorem d125_98 : decode (byt 125) 98 = .ok (.lconst 1, 1) := by decide +kernel
theorem d125_99 : decode (byt 125) 99 = .ok (.lastore, 1) := by decide +kernel
theorem d125_100 : decode (byt 125) 100 = .ok (.iload_n 2, 1) := by decide +kernel
theorem d125_101 : decode (byt 125) 101 = .ok (.ifCond .le 13, 3) := by decide +kernel
theorem d125_104 : decode (byt 125) 104 = .ok (.aload_n 0, 1) := by decide +kernel
theorem d125_105 : decode (byt 125) 105 = .ok (.getfield 62, 3) := by decide +kernel
theorem d125_108 : decode (byt 125) 108 = .ok (.iload_n 2, 1) := by decide +kernel
theorem d125_109 : decode (byt 125) 109 = .ok (.iconst 1, 1) := by decide +kernel
theorem d125_110 : decode (byt 125) 110 = .ok (.isub, 1) := by decide +kernel
theorem d125_111 : decode (byt 125) 111 = .ok (.lload_n 3, 1) := by decide +kernel
theorem d125_112 : decode (byt 125) 112 = .ok (.lneg, 1) := by decide +kernel
theorem d125_113 : decode (byt 125) 113 = .ok (.lastore, 1) := by decide +kernel
theorem d125_114 : decode (byt 125) 114 = .ok (.iload_n 2, 1) := by decide +kernel
theorem d125_115 : decode (byt 125) 115 = .ok (.iconst 1, 1) := by decide +kernel
theorem d125_116 : decode (byt 125) 116 = .ok (.if_icmp .le 13, 3) := by decide +kernel
theorem d125_119 : decode (byt 125) 119 = .ok (.aload_n 0, 1) := by decide +kernel
theorem d125_120 : decode (byt 125) 120 = .ok (.getfield 62, 3) := by decide +kernel
theorem d125_123 : decode (byt 125) 123 = .ok (.iload_n 2, 1) := by decide +kernel
theorem d125_124 : decode (byt 125) 124 = .ok (.iconst 2, 1) := by decide +kernel
theorem d125_125 : decode (byt 125) 125 = .ok (.isub, 1) := by decide +kernel
theorem d125_126 : decode (byt 125) 126 = .ok (.lload 5, 2) := by decide +kernel
theorem d125_128 : decode (byt 125) 128 = .ok (.lastore, 1) := by decide +kernel
theorem d125_129 : decode (byt 125) 129 = .ok (.iload_n 2, 1) := by decide +kernel
theorem d125_130 : decode (byt 125) 130 = .ok (.iconst 2, 1) := by decide +kernel
theorem d125_131 : decode (byt 125) 131 = .ok (.if_icmp .le 156, 3) := by decide +kernel
theorem d125_134 : decode (byt 125) 134 = .ok (.aload_n 0, 1) := by decide +kernel
theorem d125_135 : decode (byt 125) 135 = .ok (.iload_n 1, 1) := by decide +kernel
theorem d125_136 : decode (byt 125) 136 = .ok (.iconst 0, 1) := by decide +kernel
theorem d125_137 : decode (byt 125) 137 = .ok (.iconst 0, 1) := by decide +kernel
theorem d125_138 : decode (byt 125) 138 = .ok (.invokevirtual 102, 3) := by decide +kernel
theorem d125_141 : decode (byt 125) 141 = .ok (.i2l, 1) := by decide +kernel
theorem d125_142 : decode (byt 125) 142 = .ok (.aload_n 0, 1) := by decide +kernel
theorem d125_143 : decode (byt 125) 143 = .ok (.iload_n 1, 1) := by decide +kernel
theorem d125_144 : decode (byt 125) 144 = .ok (.iconst 1, 1) := by decide +kernel
theorem d125_145 : decode (byt 125) 145 = .ok (.iconst 1, 1) := by decide +kernel
theorem d125_146 : decode (byt 125) 146 = .ok (.invokevirtual 102, 3) := by decide +kernel
theorem d125_149 : decode (byt 125) 149 = .ok (.i2l, 1) := by decide +kernel
theorem d125_150 : decode (byt 125) 150 = .ok (.aload_n 0, 1) := by decide +kernel
theorem d125_151 : decode (byt 125) 151 = .ok (.iload_n 1, 1) := by decide +kernel
theorem d125_152 : decode (byt 125) 152 = .ok (.iconst 2, 1) := by decide +kernel
theorem d125_153 : decode (byt 125) 153 = .ok (.iconst 2, 1) := by decide +kernel
theorem d125_154 : decode (byt 125) 154 = .ok (.invokevirtual 102, 3) := by decide +kernel
theorem d125_157 : decode (byt 125) 157 = .ok (.i2l, 1) := by decide +kernel
theorem d125_158 : decode (byt 125) 158 = .ok (.lmul, 1) := by decide +kernel
theorem d125_159 : decode (byt 125) 159 = .ok (.aload_n 0, 1) := by decide +kernel
theorem d125_160 : decode (byt 125) 160 = .ok (.iload_n 1, 1) := by decide +kernel
theorem d125_161 : decode (byt 125) 161 = .ok (.iconst 1, 1) := by decide +kernel
theorem d125_162 : decode (byt 125) 162 = .ok (.iconst 2, 1) := by decide +kernel
theorem d125_163 : decode (byt 125) 163 = .ok (.invokevirtual 102, 3) := by decide +kernel
theorem d125_166 : decode (byt 125) 166 = .ok (.i2l, 1) := by decide +kernel
theorem d125_167 : decode (byt 125) 167 = .ok (.aload_n 0, 1) := by decide +kernel
theorem d125_168 : decode (byt 125) 168 = .ok (.iload_n 1, 1) := by decide +kernel
theorem d125_169 : decode (byt 125) 169 = .ok (.iconst 2, 1) := by decide +kernel
theorem d125_170 : decode (byt 125) 170 = .ok (.iconst 1, 1) := by decide +kernel
theorem d125_171 : decode (byt 125) 171 = .ok (.invokevirtual 102, 3) := by decide +kernel
theorem d125_174 : decode (byt 125) 174 = .ok (.i2l, 1) := by decide +kernel
theorem d125_175 : decode (byt 125) 175 = .ok (.lmul, 1) := by decide +kernel
theorem d125_176 : decode (byt 125) 176 = .ok (.lsub, 1) := by decide +kernel
theorem d125_177 : decode (byt 125) 177 = .ok (.lmul, 1) := by decide +kernel
theorem d125_178 : decode (byt 125) 178 = .ok (.lstore 7, 2) := by decide +kernel
theorem d125_180 : decode (byt 125) 180 = .ok (.aload_n 0, 1) := by decide +kernel
theorem d125_181 : decode (byt 125) 181 = .ok (.iload_n 1, 1) := by decide +kernel
theorem d125_182 : decode (byt 125) 182 = .ok (.iconst 0, 1) := by decide +kernel
theorem d125_183 : decode (byt 125) 183 = .ok (.iconst 1, 1) := by decide +kernel
theorem d125_184 : decode (byt 125) 184 = .ok (.invokevirtual 102, 3) := by decide +kernel
theorem d125_187 : decode (byt 125) 187 = .ok (.i2l, 1) := by decide +kernel
theorem d125_188 : decode (byt 125) 188 = .ok (.aload_n 0, 1) := by decide +kernel
theorem d125_189 : decode (byt 125) 189 = .ok (.iload_n 1, 1) := by decide +kernel
theorem d125_190 : decode (byt 125) 190 = .ok (.iconst 1, 1) := by decide +kernel
theorem d125_191 : decode (byt 125) 191 = .ok (.iconst 0, 1) := by decide +kernel
theorem d125_192 : decode (byt 125) 192 = .ok (.invokevirtual 102, 3) := by decide +kernel
theorem d125_195 : decode (byt 125) 195 = .ok (.i2l, 1) := by decide +kernel
theorem d125_196 : decode (byt 125) 196 = .ok (.aload_n 0, 1) := by decide +kernel
theorem d125_197 : decode (byt 125) 197 = .ok (.iload_n 1, 1) := by decide +kernel
theorem d125_198 : decode (byt 125) 198 = .ok (.iconst 2, 1) := by decide +kernel
theorem d125_199 : decode (byt 125) 199 = .ok (.iconst 2, 1) := by decide +kernel
theorem d125_200 : decode (byt 125) 200 = .ok (.invokevirtual 102, 3) := by decide +kernel
theorem d125_203 : decode (byt 125) 203 = .ok (.i2l, 1) := by decide +kernel
theorem d125_204 : decode (byt 125) 204 = .ok (.lmul, 1) := by decide +kernel
theorem d125_205 : decode (byt 125) 205 = .ok (.aload_n 0, 1) := by decide +kernel
theorem d125_206 : decode (byt 125) 206 = .ok (.iload_n 1, 1) := by decide +kernel
theorem d125_207 : decode (byt 125) 207 = .ok (.iconst 1, 1) := by decide +kernel
theorem d125_208 : decode (byt 125) 208 = .ok (.iconst 2, 1) := by decide +kernel
theorem d125_209 : decode (byt 125) 209 = .ok (.invokevirtual 102, 3) := by decide +kernel
theorem d125_212 : decode (byt 125) 212 = .ok (.i2l, 1) := by decide +kernel
theorem d125_213 : decode (byt 125) 213 = .ok (.aload_n 0, 1) := by decide +kernel
theorem d125_214 : decode (byt 125) 214 = .ok (.iload_n 1, 1) := by decide +kernel
theorem d125_215 : decode (byt 125) 215 = .ok (.iconst 2, 1) := by decide +kernel
theorem d125_216 : decode (byt 125) 216 = .ok (.iconst 0, 1) := by decide +kernel
theorem d125_217 : decode (byt 125) 217 = .ok (.invokevirtual 102, 3) := by decide +kernel
theorem d125_220 : decode (byt 125) 220 = .ok (.i2l, 1) := by decide +kernel
theorem d125_221 : decode (byt 125) 221 = .ok (.lmul, 1) := by decide +kernel
theorem d125_222 : decode (byt 125) 222 = .ok (.lsub, 1) := by decide +kernel
theorem d125_223 : decode (byt 125) 223 = .ok (.lmul, 1) := by decide +kernel
theorem d125_224 : decode (byt 125) 224 = .ok (.lstore 9, 2) := by decide +kernel
theorem d125_226 : decode (byt 125) 226 = .ok (.aload_n 0, 1) := by decide +kernel
theorem d125_227 : decode (byt 125) 227 = .ok (.iload_n 1, 1) := by decide +kernel
theorem d125_228 : decode (byt 125) 228 = .ok (.iconst 0, 1) := by decide +kernel
theorem d125_229 : decode (byt 125) 229 = .ok (.iconst 2, 1) := by decide +kernel
theorem d125_230 : decode (byt 125) 230 = .ok (.invokevirtual 102, 3) := by decide +kernel
theorem d125_233 : decode (byt 125) 233 = .ok (.i2l, 1) := by decide +kernel
theorem d125_234 : decode (byt 125) 234 = .ok (.aload_n 0, 1) := by decide +kernel
theorem d125_235 : decode (byt 125) 235 = .ok (.iload_n 1, 1) := by decide +kernel
theorem d125_236 : decode (byt 125) 236 = .ok (.iconst 1, 1) := by decide +kernel
theorem d125_237 : decode (byt 125) 237 = .ok (.iconst 0, 1) := by decide +kernel
theorem d125_238 : decode (byt 125) 238 = .ok (.invokevirtual 102, 3) := by decide +kernel
theorem d125_241 : decode (byt 125) 241 = .ok (.i2l, 1) := by decide +kernel
theorem d125_242 : decode (byt 125) 242 = .ok (.aload_n 0, 1) := by decide +kernel
theorem d125_243 : decode (byt 125) 243 = .ok (.iload_n 1, 1) := by decide +kernel
theorem d125_244 : decode (byt 125) 244 = .ok (.iconst 2, 1) := by decide +kernel
theorem d125_245 : decode (byt 125) 245 = .ok (.iconst 1, 1) := by decide +kernel
theorem d125_246 : decode (byt 125) 246 = .ok (.invokevirtual 102, 3) := by decide +kernel
theorem d125_249 : decode (byt 125) 249 = .ok (.i2l, 1) := by decide +kernel
theorem d125_250 : decode (byt 125) 250 = .ok (.lmul, 1) := by decide +kernel
theorem d125_251 : decode (byt 125) 251 = .ok (.aload_n 0, 1) := by decide +kernel
theorem d125_252 : decode (byt 125) 252 = .ok (.iload_n 1, 1) := by decide +kernel
theorem d125_253 : decode (byt 125) 253 = .ok (.iconst 1, 1) := by decide +kernel
theorem d125_254 : decode (byt 125) 254 = .ok (.iconst 1, 1) := by decide +kernel
theorem d125_255 : decode (byt 125) 255 = .ok (.invokevirtual 102, 3) := by decide +kernel
theorem d125_258 : decode (byt 125) 258 = .ok (.i2l, 1) := by decide +kernel
theorem d125_259 : decode (byt 125) 259 = .ok (.aload_n 0, 1) := by decide +kernel
theorem d125_260 : decode (byt 125) 260 = .ok (.iload_n 1, 1) := by decide +kernel
theorem d125_261 : decode (byt 125) 261 = .ok (.iconst 2, 1) := by decide +kernel
theorem d125_262 : decode (byt 125) 262 = .ok (.iconst 0, 1) := by decide +kernel
theorem d125_263 : decode (byt 125) 263 = .ok (.invokevirtual 102, 3) := by decide +kernel
theorem d125_266 : decode (byt 125) 266 = .ok (.i2l, 1) := by decide +kernel
theorem d125_267 : decode (byt 125) 267 = .ok (.lmul, 1) := by decide +kernel
theorem d125_268 : decode (byt 125) 268 = .ok (.lsub, 1) := by decide +kernel
theorem d125_269 : decode (byt 125) 269 = .ok (.lmul, 1) := by decide +kernel
theorem d125_270 : decode (byt 125) 270 = .ok (.lstore 11, 2) := by decide +kernel
theorem d125_272 : decode (byt 125) 272 = .ok (.aload_n 0, 1) := by decide +kernel
theorem d125_273 : decode (byt 125) 273 = .ok (.getfield 62, 3) := by decide +kernel
theorem d125_276 : decode (byt 125) 276 = .ok (.iconst 0, 1) := by decide +kernel
theorem d125_277 : decode (byt 125) 277 = .ok (.lload 7, 2) := by decide +kernel
theorem d125_279 : decode (byt 125) 279 = .ok (.lload 9, 2) := by decide +kernel
theorem d125_281 : decode (byt 125) 281 = .ok (.lsub, 1) := by decide +kernel
theorem d125_282 : decode (byt 125) 282 = .ok (.lload 11, 2) := by decide +kernel
theorem d125_284 : decode (byt 125) 284 = .ok (.ladd, 1) := by decide +kernel
theorem d125_285 : decode (byt 125) 285 = .ok (.lneg, 1) := by decide +kernel
theorem d125_286 : decode (byt 125) 286 = .ok (.lastore, 1) := by decide +kernel
theorem d125_287 : decode (byt 125) 287 = .ok (.return_, 1) := by decide +kernel
set_option maxRecDepth 20000 in
theorem S125_0 : (∀ (ls : Lo) (st : List Value) (h : Hp) (Q : Option Value → Hp → Prop)  (i : Nat), Wp 125 0 (some (.ref i) :: ls) (st) h Q ↔ Wp 125 1 (some (.ref i) :: ls) (.ref i :: st) h Q) ∧
  (∀ (ls : Lo) (st : List Value) (n sl : Nat) (C Z : Nat → Nat) (I : Nat → Nat → Int32) (L : Nat → Nat → Int64) (R : Nat → Nat → Nat) (Q : Option Value → Hp → Prop) (i : Nat), Wp 125 1 (ls) (.ref i :: st) (n, sl, C, Z, I, L, R) Q ↔ (C i = 11 ∧ Wp 125 4 (ls) (.ref (R i 2) :: st) (n, sl, C, Z, I, L, R) Q)) ∧
  (∀ (ls : Lo) (st : List Value) (h : Hp) (Q : Option Value → Hp → Prop) (l0 : Option Value) (x : Int32), Wp 125 4 (l0 :: some (.int x) :: ls) (st) h Q ↔ Wp 125 5 (l0 :: some (.int x) :: ls) (.int x :: st) h Q) ∧
  (∀ (ls : Lo) (st : List Value) (n sl : Nat) (C Z : Nat → Nat) (I : Nat → Nat → Int32) (L : Nat → Nat → Int64) (R : Nat → Nat → Nat) (Q : Option Value → Hp → Prop) (i : Nat) (y : Int32), Wp 125 5 (ls) (.int y :: .ref i :: st) (n, sl, C, Z, I, L, R) Q ↔ ((inb y (Z i) = true ∧ C i = 21) ∧ Wp 125 6 (ls) (.int (I i (ix y)) :: st) (n, sl, C, Z, I, L, R) Q)) ∧
  (∀ (ls : Lo) (st : List Value) (h : Hp) (Q : Option Value → Hp → Prop) (l0 l1 l2 : Option Value) (x : Int32), Wp 125 6 (l0 :: l1 :: l2 :: ls) (.int x :: st) h Q ↔ Wp 125 7 (l0 :: clr l1 :: some (.int x) :: ls) (st) h Q) ∧
  (∀ (ls : Lo) (st : List Value) (h : Hp) (Q : Option Value → Hp → Prop), Wp 125 7 (ls) (st) h Q ↔ Wp 125 8 (ls) (.long 0 :: st) h Q) ∧
  (∀ (ls : Lo) (st : List Value) (h : Hp) (Q : Option Value → Hp → Prop) (l0 l1 l2 l3 l4 : Option Value) (a : Int64), Wp 125 8 (l0 :: l1 :: l2 :: l3 :: l4 :: ls) (.long a :: st) h Q ↔ Wp 125 9 (l0 :: l1 :: clr l2 :: some (.long a) :: none :: ls) (st) h Q) ∧
  (∀ (ls : Lo) (st : List Value) (h : Hp) (Q : Option Value → Hp → Prop), Wp 125 9 (ls) (st) h Q ↔ Wp 125 10 (ls) (.long 0 :: st) h Q) ∧
  (∀ (ls : Lo) (st : List Value) (h : Hp) (Q : Option Value → Hp → Prop) (l0 l1 l2 l3 l4 l5 l6 : Option Value) (a : Int64), Wp 125 10 (l0 :: l1 :: l2 :: l3 :: l4 :: l5 :: l6 :: ls) (.long a :: st) h Q ↔ Wp 125 12 (l0 :: l1 :: l2 :: l3 :: clr l4 :: some (.long a) :: none :: ls) (st) h Q) ∧
  (∀ (ls : Lo) (st : List Value) (h : Hp) (Q : Option Value → Hp → Prop), Wp 125 12 (ls) (st) h Q ↔ Wp 125 13 (ls) (.int (0) :: st) h Q) ∧
  (∀ (ls : Lo) (st : List Value) (h : Hp) (Q : Option Value → Hp → Prop) (l0 l1 l2 l3 l4 l5 l6 l7 : Option Value) (x : Int32), Wp 125 13 (l0 :: l1 :: l2 :: l3 :: l4 :: l5 :: l6 :: l7 :: ls) (.int x :: st) h Q ↔ Wp 125 15 (l0 :: l1 :: l2 :: l3 :: l4 :: l5 :: clr l6 :: some (.int x) :: ls) (st) h Q) ∧
  (∀ (ls : Lo) (st : List Value) (h : Hp) (Q : Option Value → Hp → Prop) (l0 l1 l2 l3 l4 l5 l6 : Option Value) (x : Int32), Wp 125 15 (l0 :: l1 :: l2 :: l3 :: l4 :: l5 :: l6 :: some (.int x) :: ls) (st) h Q ↔ Wp 125 17 (l0 :: l1 :: l2 :: l3 :: l4 :: l5 :: l6 :: some (.int x) :: ls) (.int x :: st) h Q) ∧
  (∀ (ls : Lo) (st : List Value) (h : Hp) (Q : Option Value → Hp → Prop) (l0 l1 : Option Value) (x : Int32), Wp 125 17 (l0 :: l1 :: some (.int x) :: ls) (st) h Q ↔ Wp 125 18 (l0 :: l1 :: some (.int x) :: ls) (.int x :: st) h Q) ∧
  (∀ (ls : Lo) (st : List Value) (h : Hp) (Q : Option Value → Hp → Prop) (x y : Int32), Wp 125 18 (ls) (.int y :: .int x :: st) h Q ↔ Br 125 70 21 ls st h Q (y ≤ x)) ∧
  (∀ (ls : Lo) (st : List Value) (h : Hp) (Q : Option Value → Hp → Prop) (l0 l1 l2 : Option Value) (a : Int64), Wp 125 21 (l0 :: l1 :: l2 :: some (.long a) :: ls) (st) h Q ↔ Wp 125 22 (l0 :: l1 :: l2 :: some (.long a) :: ls) (.long a :: st) h Q) ∧
  (∀ (ls : Lo) (st : List Value) (h : Hp) (Q : Option Value → Hp → Prop)  (i : Nat), Wp 125 22 (some (.ref i) :: ls) (st) h Q ↔ Wp 125 23 (some (.ref i) :: ls) (.ref i :: st) h Q) ∧
  (∀ (ls : Lo) (st : List Value) (h : Hp) (Q : Option Value → Hp → Prop) (l0 : Option Value) (x : Int32), Wp 125 23 (l0 :: some (.int x) :: ls) (st) h Q ↔ Wp 125 24 (l0 :: some (.int x) :: ls) (.int x :: st) h Q) ∧
  (∀ (ls : Lo) (st : List Value) (h : Hp) (Q : Option Value → Hp → Prop) (l0 l1 l2 l3 l4 l5 l6 : Option Value) (x : Int32), Wp 125 24 (l0 :: l1 :: l2 :: l3 :: l4 :: l5 :: l6 :: some (.int x) :: ls) (st) h Q ↔ Wp 125 26 (l0 :: l1 :: l2 :: l3 :: l4 :: l5 :: l6 :: some (.int x) :: ls) (.int x :: st) h Q) ∧
  (∀ (ls : Lo) (st : List Value) (h : Hp) (Q : Option Value → Hp → Prop) (l0 l1 l2 l3 l4 l5 l6 : Option Value) (x : Int32), Wp 125 26 (l0 :: l1 :: l2 :: l3 :: l4 :: l5 :: l6 :: some (.int x) :: ls) (st) h Q ↔ Wp 125 28 (l0 :: l1 :: l2 :: l3 :: l4 :: l5 :: l6 :: some (.int x) :: ls) (.int x :: st) h Q) ∧
  (∀ (ls : Lo) (st : List Value) (n sl : Nat) (C Z : Nat → Nat) (I : Nat → Nat → Int32) (L : Nat → Nat → Int64) (R : Nat → Nat → Nat) (Q : Option Value → Hp → Prop) (x0 : Int32) (x1 : Int32) (x2 : Int32) (i : Nat), C i = 11 → (Wp 125 28 (ls) (.int x2 :: .int x1 :: .int x0 :: .ref i :: st) (n, sl, C, Z, I, L, R) Q ↔ (wsum st ≤ 8 ∧ Call 104 [some (.ref i), some (.int x0), some (.int x1), some (.int x2)] (n, sl, C, Z, I, L, R) 125 31 ls st Q))) ∧
  (∀ (ls : Lo) (st : List Value) (h : Hp) (Q : Option Value → Hp → Prop) (x : Int32), Wp 125 31 (ls) (.int x :: st) h Q ↔ Wp 125 32 (ls) (.long x.toInt64 :: st) h Q) ∧
  (∀ (ls : Lo) (st : List Value) (h : Hp) (Q : Option Value → Hp → Prop) (a b : Int64), Wp 125 32 (ls) (.long b :: .long a :: st) h Q ↔ Wp 125 33 (ls) (.long (a + b) :: st) h Q) ∧
  (∀ (ls : Lo) (st : List Value) (h : Hp) (Q : Option Value → Hp → Prop) (l0 l1 l2 l3 l4 : Option Value) (a : Int64), Wp 125 33 (l0 :: l1 :: l2 :: l3 :: l4 :: ls) (.long a :: st) h Q ↔ Wp 125 34 (l0 :: l1 :: clr l2 :: some (.long a) :: none :: ls) (st) h Q) ∧
  (∀ (ls : Lo) (st : List Value) (h : Hp) (Q : Option Value → Hp → Prop), Wp 125 34 (ls) (st) h Q ↔ Wp 125 35 (ls) (.int (0) :: st) h Q) ∧
  (∀ (ls : Lo) (st : List Value) (h : Hp) (Q : Option Value → Hp → Prop) (l0 l1 l2 l3 l4 l5 l6 l7 l8 : Option Value) (x : Int32), Wp 125 35 (l0 :: l1 :: l2 :: l3 :: l4 :: l5 :: l6 :: l7 :: l8 :: ls) (.int x :: st) h Q ↔ Wp 125 37 (l0 :: l1 :: l2 :: l3 :: l4 :: l5 :: l6 :: clr l7 :: some (.int x) :: ls) (st) h Q) := ⟨by intro ls st h Q i; exact e_aload_n d125_0 rfl,
  by intro ls st n sl C Z I L R Q i; exact e_get (g := 10) (s := 2) (ty := 2) d125_1 rfl rfl (inG_ne (by decide)),
  by intro ls st h Q l0 x; exact e_iload_n d125_4 rfl,
  by intro ls st n sl C Z I L R Q i y; exact e_iald d125_5,
  by intro ls st h Q l0 l1 l2 x; exact e_istore_n d125_6 rfl,
  by intro ls st h Q; exact e_lconst d125_7 rfl,
  by intro ls st h Q l0 l1 l2 l3 l4 a; exact e_lstore_n d125_8 rfl,
  by intro ls st h Q; exact e_lconst d125_9 rfl,
  by intro ls st h Q l0 l1 l2 l3 l4 l5 l6 a; exact e_lstore d125_10 rfl,
  by intro ls st h Q; exact e_iconst d125_12 rfl,
  by intro ls st h Q l0 l1 l2 l3 l4 l5 l6 l7 x; exact e_istore d125_13 rfl,
  by intro ls st h Q l0 l1 l2 l3 l4 l5 l6 x; exact e_iload d125_15 rfl,
  by intro ls st h Q l0 l1 x; exact e_iload_n d125_17 rfl,
  by intro ls st h Q x y; exact e_ic d125_18 (by decide) c_ge,
  by intro ls st h Q l0 l1 l2 a; exact e_lload_n d125_21 rfl,
  by intro ls st h Q i; exact e_aload_n d125_22 rfl,
  by intro ls st h Q l0 x; exact e_iload_n d125_23 rfl,
  by intro ls st h Q l0 l1 l2 l3 l4 l5 l6 x; exact e_iload d125_24 rfl,
  by intro ls st h Q l0 l1 l2 l3 l4 l5 l6 x; exact e_iload d125_26 rfl,
  by intro ls st n sl C Z I L R Q x0 x1 x2 i hh; exact e_iv (k2 := 104) (c := 11) (as := [.int x0, .int x1, .int x2]) d125_28 rfl (by decide) rfl rfl (by decide +kernel) (Nat.le_of_ble_eq_true rfl) rfl hh,
  by intro ls st h Q x; exact e_i2l d125_31,
  by intro ls st h Q a b; exact e_ladd d125_32,
  by intro ls st h Q l0 l1 l2 l3 l4 a; exact e_lstore_n d125_33 rfl,
  by intro ls st h Q; exact e_iconst d125_34 rfl,
  by intro ls st h Q l0 l1 l2 l3 l4 l5 l6 l7 l8 x; exact e_istore d125_35 rfl⟩
set_option maxRecDepth 20000 in
theorem S125_1 : (∀ (ls : Lo) (st : List Value) (h : Hp) (Q : Option Value → Hp → Prop) (l0 l1 l2 l3 l4 l5 l6 l7 : Option Value) (x : Int32), Wp 125 37 (l0 :: l1 :: l2 :: l3 :: l4 :: l5 :: l6 :: l7 :: some (.int x) :: ls) (st) h Q ↔ Wp 125 39 (l0 :: l1 :: l2 :: l3 :: l4 :: l5 :: l6 :: l7 :: some (.int x) :: ls) (.int x :: st) h Q) ∧
  (∀ (ls : Lo) (st : List Value) (h : Hp) (Q : Option Value → Hp → Prop) (l0 l1 l2 l3 l4 l5 l6 : Option Value) (x : Int32), Wp 125 39 (l0 :: l1 :: l2 :: l3 :: l4 :: l5 :: l6 :: some (.int x) :: ls) (st) h Q ↔ Wp 125 41 (l0 :: l1 :: l2 :: l3 :: l4 :: l5 :: l6 :: some (.int x) :: ls) (.int x :: st) h Q) ∧
  (∀ (ls : Lo) (st : List Value) (h : Hp) (Q : Option Value → Hp → Prop) (x y : Int32), Wp 125 41 (ls) (.int y :: .int x :: st) h Q ↔ Br 125 64 44 ls st h Q (y ≤ x)) ∧
  (∀ (ls : Lo) (st : List Value) (h : Hp) (Q : Option Value → Hp → Prop) (l0 l1 l2 l3 l4 : Option Value) (a : Int64), Wp 125 44 (l0 :: l1 :: l2 :: l3 :: l4 :: some (.long a) :: ls) (st) h Q ↔ Wp 125 46 (l0 :: l1 :: l2 :: l3 :: l4 :: some (.long a) :: ls) (.long a :: st) h Q) ∧
  (∀ (ls : Lo) (st : List Value) (h : Hp) (Q : Option Value → Hp → Prop)  (i : Nat), Wp 125 46 (some (.ref i) :: ls) (st) h Q ↔ Wp 125 47 (some (.ref i) :: ls) (.ref i :: st) h Q) ∧
  (∀ (ls : Lo) (st : List Value) (h : Hp) (Q : Option Value → Hp → Prop) (l0 : Option Value) (x : Int32), Wp 125 47 (l0 :: some (.int x) :: ls) (st) h Q ↔ Wp 125 48 (l0 :: some (.int x) :: ls) (.int x :: st) h Q) ∧
  (∀ (ls : Lo) (st : List Value) (h : Hp) (Q : Option Value → Hp → Prop) (l0 l1 l2 l3 l4 l5 l6 : Option Value) (x : Int32), Wp 125 48 (l0 :: l1 :: l2 :: l3 :: l4 :: l5 :: l6 :: some (.int x) :: ls) (st) h Q ↔ Wp 125 50 (l0 :: l1 :: l2 :: l3 :: l4 :: l5 :: l6 :: some (.int x) :: ls) (.int x :: st) h Q) ∧
  (∀ (ls : Lo) (st : List Value) (h : Hp) (Q : Option Value → Hp → Prop) (l0 l1 l2 l3 l4 l5 l6 l7 : Option Value) (x : Int32), Wp 125 50 (l0 :: l1 :: l2 :: l3 :: l4 :: l5 :: l6 :: l7 :: some (.int x) :: ls) (st) h Q ↔ Wp 125 52 (l0 :: l1 :: l2 :: l3 :: l4 :: l5 :: l6 :: l7 :: some (.int x) :: ls) (.int x :: st) h Q) ∧
  (∀ (ls : Lo) (st : List Value) (n sl : Nat) (C Z : Nat → Nat) (I : Nat → Nat → Int32) (L : Nat → Nat → Int64) (R : Nat → Nat → Nat) (Q : Option Value → Hp → Prop) (x0 : Int32) (x1 : Int32) (x2 : Int32) (i : Nat), C i = 11 → (Wp 125 52 (ls) (.int x2 :: .int x1 :: .int x0 :: .ref i :: st) (n, sl, C, Z, I, L, R) Q ↔ (wsum st ≤ 8 ∧ Call 124 [some (.ref i), some (.int x0), some (.int x1), some (.int x2)] (n, sl, C, Z, I, L, R) 125 55 ls st Q))) ∧
  (∀ (ls : Lo) (st : List Value) (h : Hp) (Q : Option Value → Hp → Prop) (a b : Int64), Wp 125 55 (ls) (.long b :: .long a :: st) h Q ↔ Wp 125 56 (ls) (.long (a + b) :: st) h Q) ∧
  (∀ (ls : Lo) (st : List Value) (h : Hp) (Q : Option Value → Hp → Prop) (l0 l1 l2 l3 l4 l5 l6 : Option Value) (a : Int64), Wp 125 56 (l0 :: l1 :: l2 :: l3 :: l4 :: l5 :: l6 :: ls) (.long a :: st) h Q ↔ Wp 125 58 (l0 :: l1 :: l2 :: l3 :: clr l4 :: some (.long a) :: none :: ls) (st) h Q) ∧
  (∀ (ls : Lo) (st : List Value) (h : Hp) (Q : Option Value → Hp → Prop) (l0 l1 l2 l3 l4 l5 l6 l7 : Option Value) (x : Int32), Wp 125 58 (l0 :: l1 :: l2 :: l3 :: l4 :: l5 :: l6 :: l7 :: some (.int x) :: ls) (st) h Q ↔ Wp 125 61 (l0 :: l1 :: l2 :: l3 :: l4 :: l5 :: l6 :: clr l7 :: some (.int (x + (1))) :: ls) (st) h Q) ∧
  (∀ (ls : Lo) (st : List Value) (h : Hp) (Q : Option Value → Hp → Prop), Wp 125 61 (ls) (st) h Q ↔ Wp 125 37 (ls) (st) h Q) ∧
  (∀ (ls : Lo) (st : List Value) (h : Hp) (Q : Option Value → Hp → Prop) (l0 l1 l2 l3 l4 l5 l6 : Option Value) (x : Int32), Wp 125 64 (l0 :: l1 :: l2 :: l3 :: l4 :: l5 :: l6 :: some (.int x) :: ls) (st) h Q ↔ Wp 125 67 (l0 :: l1 :: l2 :: l3 :: l4 :: l5 :: clr l6 :: some (.int (x + (1))) :: ls) (st) h Q) ∧
  (∀ (ls : Lo) (st : List Value) (h : Hp) (Q : Option Value → Hp → Prop), Wp 125 67 (ls) (st) h Q ↔ Wp 125 15 (ls) (st) h Q) ∧
  (∀ (ls : Lo) (st : List Value) (h : Hp) (Q : Option Value → Hp → Prop), Wp 125 70 (ls) (st) h Q ↔ Wp 125 71 (ls) (.int (0) :: st) h Q) ∧
  (∀ (ls : Lo) (st : List Value) (h : Hp) (Q : Option Value → Hp → Prop) (l0 l1 l2 l3 l4 l5 l6 l7 : Option Value) (x : Int32), Wp 125 71 (l0 :: l1 :: l2 :: l3 :: l4 :: l5 :: l6 :: l7 :: ls) (.int x :: st) h Q ↔ Wp 125 73 (l0 :: l1 :: l2 :: l3 :: l4 :: l5 :: clr l6 :: some (.int x) :: ls) (st) h Q) ∧
  (∀ (ls : Lo) (st : List Value) (h : Hp) (Q : Option Value → Hp → Prop) (l0 l1 l2 l3 l4 l5 l6 : Option Value) (x : Int32), Wp 125 73 (l0 :: l1 :: l2 :: l3 :: l4 :: l5 :: l6 :: some (.int x) :: ls) (st) h Q ↔ Wp 125 75 (l0 :: l1 :: l2 :: l3 :: l4 :: l5 :: l6 :: some (.int x) :: ls) (.int x :: st) h Q) ∧
  (∀ (ls : Lo) (st : List Value) (h : Hp) (Q : Option Value → Hp → Prop), Wp 125 75 (ls) (st) h Q ↔ Wp 125 76 (ls) (.int (4) :: st) h Q) ∧
  (∀ (ls : Lo) (st : List Value) (h : Hp) (Q : Option Value → Hp → Prop) (x y : Int32), Wp 125 76 (ls) (.int y :: .int x :: st) h Q ↔ Br 125 93 79 ls st h Q (y ≤ x)) ∧
  (∀ (ls : Lo) (st : List Value) (h : Hp) (Q : Option Value → Hp → Prop)  (i : Nat), Wp 125 79 (some (.ref i) :: ls) (st) h Q ↔ Wp 125 80 (some (.ref i) :: ls) (.ref i :: st) h Q) ∧
  (∀ (ls : Lo) (st : List Value) (n sl : Nat) (C Z : Nat → Nat) (I : Nat → Nat → Int32) (L : Nat → Nat → Int64) (R : Nat → Nat → Nat) (Q : Option Value → Hp → Prop) (i : Nat), Wp 125 80 (ls) (.ref i :: st) (n, sl, C, Z, I, L, R) Q ↔ (C i = 11 ∧ Wp 125 83 (ls) (.ref (R i 21) :: st) (n, sl, C, Z, I, L, R) Q)) ∧
  (∀ (ls : Lo) (st : List Value) (h : Hp) (Q : Option Value → Hp → Prop) (l0 l1 l2 l3 l4 l5 l6 : Option Value) (x : Int32), Wp 125 83 (l0 :: l1 :: l2 :: l3 :: l4 :: l5 :: l6 :: some (.int x) :: ls) (st) h Q ↔ Wp 125 85 (l0 :: l1 :: l2 :: l3 :: l4 :: l5 :: l6 :: some (.int x) :: ls) (.int x :: st) h Q) ∧
  (∀ (ls : Lo) (st : List Value) (h : Hp) (Q : Option Value → Hp → Prop), Wp 125 85 (ls) (st) h Q ↔ Wp 125 86 (ls) (.long 0 :: st) h Q) ∧
  (∀ (ls : Lo) (st : List Value) (n sl : Nat) (C Z : Nat → Nat) (I : Nat → Nat → Int32) (L : Nat → Nat → Int64) (R : Nat → Nat → Nat) (Q : Option Value → Hp → Prop) (i : Nat) (y : Int32) (a : Int64), Wp 125 86 (ls) (.long a :: .int y :: .ref i :: st) (n, sl, C, Z, I, L, R) Q ↔ ((inb y (Z i) = true ∧ C i = 22) ∧ Wp 125 87 (ls) (st) (n, sl, C, Z, I, u2 L i (ix y) a, R) Q)) := ⟨by intro ls st h Q l0 l1 l2 l3 l4 l5 l6 l7 x; exact e_iload d125_37 rfl,
  by intro ls st h Q l0 l1 l2 l3 l4 l5 l6 x; exact e_iload d125_39 rfl,
  by intro ls st h Q x y; exact e_ic d125_41 (by decide) c_ge,
  by intro ls st h Q l0 l1 l2 l3 l4 a; exact e_lload d125_44 rfl,
  by intro ls st h Q i; exact e_aload_n d125_46 rfl,
  by intro ls st h Q l0 x; exact e_iload_n d125_47 rfl,
  by intro ls st h Q l0 l1 l2 l3 l4 l5 l6 x; exact e_iload d125_48 rfl,
  by intro ls st h Q l0 l1 l2 l3 l4 l5 l6 l7 x; exact e_iload d125_50 rfl,
  by intro ls st n sl C Z I L R Q x0 x1 x2 i hh; exact e_iv (k2 := 124) (c := 11) (as := [.int x0, .int x1, .int x2]) d125_52 rfl (by decide) rfl rfl (by decide +kernel) (Nat.le_of_ble_eq_true rfl) rfl hh,
  by intro ls st h Q a b; exact e_ladd d125_55,
  by intro ls st h Q l0 l1 l2 l3 l4 l5 l6 a; exact e_lstore d125_56 rfl,
  by intro ls st h Q l0 l1 l2 l3 l4 l5 l6 l7 x; exact e_iinc d125_58 rfl rfl rfl,
  by intro ls st h Q; exact e_goto d125_61 (by decide),
  by intro ls st h Q l0 l1 l2 l3 l4 l5 l6 x; exact e_iinc d125_64 rfl rfl rfl,
  by intro ls st h Q; exact e_goto d125_67 (by decide),
  by intro ls st h Q; exact e_iconst d125_70 rfl,
  by intro ls st h Q l0 l1 l2 l3 l4 l5 l6 l7 x; exact e_istore d125_71 rfl,
  by intro ls st h Q l0 l1 l2 l3 l4 l5 l6 x; exact e_iload d125_73 rfl,
  by intro ls st h Q; exact e_iconst d125_75 rfl,
  by intro ls st h Q x y; exact e_ic d125_76 (by decide) c_ge,
  by intro ls st h Q i; exact e_aload_n d125_79 rfl,
  by intro ls st n sl C Z I L R Q i; exact e_get (g := 10) (s := 21) (ty := 2) d125_80 rfl rfl (inG_ne (by decide)),
  by intro ls st h Q l0 l1 l2 l3 l4 l5 l6 x; exact e_iload d125_83 rfl,
  by intro ls st h Q; exact e_lconst d125_85 rfl,
  by intro ls st n sl C Z I L R Q i y a; exact e_last d125_86⟩
set_option maxRecDepth 20000 in
theorem S125_2 : (∀ (ls : Lo) (st : List Value) (h : Hp) (Q : Option Value → Hp → Prop) (l0 l1 l2 l3 l4 l5 l6 : Option Value) (x : Int32), Wp 125 87 (l0 :: l1 :: l2 :: l3 :: l4 :: l5 :: l6 :: some (.int x) :: ls) (st) h Q ↔ Wp 125 90 (l0 :: l1 :: l2 :: l3 :: l4 :: l5 :: clr l6 :: some (.int (x + (1))) :: ls) (st) h Q) ∧
  (∀ (ls : Lo) (st : List Value) (h : Hp) (Q : Option Value → Hp → Prop), Wp 125 90 (ls) (st) h Q ↔ Wp 125 73 (ls) (st) h Q) ∧
  (∀ (ls : Lo) (st : List Value) (h : Hp) (Q : Option Value → Hp → Prop)  (i : Nat), Wp 125 93 (some (.ref i) :: ls) (st) h Q ↔ Wp 125 94 (some (.ref i) :: ls) (.ref i :: st) h Q) ∧
  (∀ (ls : Lo) (st : List Value) (n sl : Nat) (C Z : Nat → Nat) (I : Nat → Nat → Int32) (L : Nat → Nat → Int64) (R : Nat → Nat → Nat) (Q : Option Value → Hp → Prop) (i : Nat), Wp 125 94 (ls) (.ref i :: st) (n, sl, C, Z, I, L, R) Q ↔ (C i = 11 ∧ Wp 125 97 (ls) (.ref (R i 21) :: st) (n, sl, C, Z, I, L, R) Q)) ∧
  (∀ (ls : Lo) (st : List Value) (h : Hp) (Q : Option Value → Hp → Prop) (l0 l1 : Option Value) (x : Int32), Wp 125 97 (l0 :: l1 :: some (.int x) :: ls) (st) h Q ↔ Wp 125 98 (l0 :: l1 :: some (.int x) :: ls) (.int x :: st) h Q) ∧
  (∀ (ls : Lo) (st : List Value) (h : Hp) (Q : Option Value → Hp → Prop), Wp 125 98 (ls) (st) h Q ↔ Wp 125 99 (ls) (.long 1 :: st) h Q) ∧
  (∀ (ls : Lo) (st : List Value) (n sl : Nat) (C Z : Nat → Nat) (I : Nat → Nat → Int32) (L : Nat → Nat → Int64) (R : Nat → Nat → Nat) (Q : Option Value → Hp → Prop) (i : Nat) (y : Int32) (a : Int64), Wp 125 99 (ls) (.long a :: .int y :: .ref i :: st) (n, sl, C, Z, I, L, R) Q ↔ ((inb y (Z i) = true ∧ C i = 22) ∧ Wp 125 100 (ls) (st) (n, sl, C, Z, I, u2 L i (ix y) a, R) Q)) ∧
  (∀ (ls : Lo) (st : List Value) (h : Hp) (Q : Option Value → Hp → Prop) (l0 l1 : Option Value) (x : Int32), Wp 125 100 (l0 :: l1 :: some (.int x) :: ls) (st) h Q ↔ Wp 125 101 (l0 :: l1 :: some (.int x) :: ls) (.int x :: st) h Q) ∧
  (∀ (ls : Lo) (st : List Value) (h : Hp) (Q : Option Value → Hp → Prop) (x : Int32), Wp 125 101 (ls) (.int x :: st) h Q ↔ Br 125 114 104 ls st h Q (x ≤ 0)) ∧
  (∀ (ls : Lo) (st : List Value) (h : Hp) (Q : Option Value → Hp → Prop)  (i : Nat), Wp 125 104 (some (.ref i) :: ls) (st) h Q ↔ Wp 125 105 (some (.ref i) :: ls) (.ref i :: st) h Q) ∧
  (∀ (ls : Lo) (st : List Value) (n sl : Nat) (C Z : Nat → Nat) (I : Nat → Nat → Int32) (L : Nat → Nat → Int64) (R : Nat → Nat → Nat) (Q : Option Value → Hp → Prop) (i : Nat), Wp 125 105 (ls) (.ref i :: st) (n, sl, C, Z, I, L, R) Q ↔ (C i = 11 ∧ Wp 125 108 (ls) (.ref (R i 21) :: st) (n, sl, C, Z, I, L, R) Q)) ∧
  (∀ (ls : Lo) (st : List Value) (h : Hp) (Q : Option Value → Hp → Prop) (l0 l1 : Option Value) (x : Int32), Wp 125 108 (l0 :: l1 :: some (.int x) :: ls) (st) h Q ↔ Wp 125 109 (l0 :: l1 :: some (.int x) :: ls) (.int x :: st) h Q) ∧
  (∀ (ls : Lo) (st : List Value) (h : Hp) (Q : Option Value → Hp → Prop), Wp 125 109 (ls) (st) h Q ↔ Wp 125 110 (ls) (.int (1) :: st) h Q) ∧
  (∀ (ls : Lo) (st : List Value) (h : Hp) (Q : Option Value → Hp → Prop) (x y : Int32), Wp 125 110 (ls) (.int y :: .int x :: st) h Q ↔ Wp 125 111 (ls) (.int (x - y) :: st) h Q) ∧
  (∀ (ls : Lo) (st : List Value) (h : Hp) (Q : Option Value → Hp → Prop) (l0 l1 l2 : Option Value) (a : Int64), Wp 125 111 (l0 :: l1 :: l2 :: some (.long a) :: ls) (st) h Q ↔ Wp 125 112 (l0 :: l1 :: l2 :: some (.long a) :: ls) (.long a :: st) h Q) ∧
  (∀ (ls : Lo) (st : List Value) (h : Hp) (Q : Option Value → Hp → Prop) (a : Int64), Wp 125 112 (ls) (.long a :: st) h Q ↔ Wp 125 113 (ls) (.long (-a) :: st) h Q) ∧
  (∀ (ls : Lo) (st : List Value) (n sl : Nat) (C Z : Nat → Nat) (I : Nat → Nat → Int32) (L : Nat → Nat → Int64) (R : Nat → Nat → Nat) (Q : Option Value → Hp → Prop) (i : Nat) (y : Int32) (a : Int64), Wp 125 113 (ls) (.long a :: .int y :: .ref i :: st) (n, sl, C, Z, I, L, R) Q ↔ ((inb y (Z i) = true ∧ C i = 22) ∧ Wp 125 114 (ls) (st) (n, sl, C, Z, I, u2 L i (ix y) a, R) Q)) ∧
  (∀ (ls : Lo) (st : List Value) (h : Hp) (Q : Option Value → Hp → Prop) (l0 l1 : Option Value) (x : Int32), Wp 125 114 (l0 :: l1 :: some (.int x) :: ls) (st) h Q ↔ Wp 125 115 (l0 :: l1 :: some (.int x) :: ls) (.int x :: st) h Q) ∧
  (∀ (ls : Lo) (st : List Value) (h : Hp) (Q : Option Value → Hp → Prop), Wp 125 115 (ls) (st) h Q ↔ Wp 125 116 (ls) (.int (1) :: st) h Q) ∧
  (∀ (ls : Lo) (st : List Value) (h : Hp) (Q : Option Value → Hp → Prop) (x y : Int32), Wp 125 116 (ls) (.int y :: .int x :: st) h Q ↔ Br 125 129 119 ls st h Q (x ≤ y)) ∧
  (∀ (ls : Lo) (st : List Value) (h : Hp) (Q : Option Value → Hp → Prop)  (i : Nat), Wp 125 119 (some (.ref i) :: ls) (st) h Q ↔ Wp 125 120 (some (.ref i) :: ls) (.ref i :: st) h Q) ∧
  (∀ (ls : Lo) (st : List Value) (n sl : Nat) (C Z : Nat → Nat) (I : Nat → Nat → Int32) (L : Nat → Nat → Int64) (R : Nat → Nat → Nat) (Q : Option Value → Hp → Prop) (i : Nat), Wp 125 120 (ls) (.ref i :: st) (n, sl, C, Z, I, L, R) Q ↔ (C i = 11 ∧ Wp 125 123 (ls) (.ref (R i 21) :: st) (n, sl, C, Z, I, L, R) Q)) ∧
  (∀ (ls : Lo) (st : List Value) (h : Hp) (Q : Option Value → Hp → Prop) (l0 l1 : Option Value) (x : Int32), Wp 125 123 (l0 :: l1 :: some (.int x) :: ls) (st) h Q ↔ Wp 125 124 (l0 :: l1 :: some (.int x) :: ls) (.int x :: st) h Q) ∧
  (∀ (ls : Lo) (st : List Value) (h : Hp) (Q : Option Value → Hp → Prop), Wp 125 124 (ls) (st) h Q ↔ Wp 125 125 (ls) (.int (2) :: st) h Q) ∧
  (∀ (ls : Lo) (st : List Value) (h : Hp) (Q : Option Value → Hp → Prop) (x y : Int32), Wp 125 125 (ls) (.int y :: .int x :: st) h Q ↔ Wp 125 126 (ls) (.int (x - y) :: st) h Q) := ⟨by intro ls st h Q l0 l1 l2 l3 l4 l5 l6 x; exact e_iinc d125_87 rfl rfl rfl,
  by intro ls st h Q; exact e_goto d125_90 (by decide),
  by intro ls st h Q i; exact e_aload_n d125_93 rfl,
  by intro ls st n sl C Z I L R Q i; exact e_get (g := 10) (s := 21) (ty := 2) d125_94 rfl rfl (inG_ne (by decide)),
  by intro ls st h Q l0 l1 x; exact e_iload_n d125_97 rfl,
  by intro ls st h Q; exact e_lconst d125_98 rfl,
  by intro ls st n sl C Z I L R Q i y a; exact e_last d125_99,
  by intro ls st h Q l0 l1 x; exact e_iload_n d125_100 rfl,
  by intro ls st h Q x; exact e_if d125_101 (by decide) c_le,
  by intro ls st h Q i; exact e_aload_n d125_104 rfl,
  by intro ls st n sl C Z I L R Q i; exact e_get (g := 10) (s := 21) (ty := 2) d125_105 rfl rfl (inG_ne (by decide)),
  by intro ls st h Q l0 l1 x; exact e_iload_n d125_108 rfl,
  by intro ls st h Q; exact e_iconst d125_109 rfl,
  by intro ls st h Q x y; exact e_isub d125_110,
  by intro ls st h Q l0 l1 l2 a; exact e_lload_n d125_111 rfl,
  by intro ls st h Q a; exact e_lneg d125_112,
  by intro ls st n sl C Z I L R Q i y a; exact e_last d125_113,
  by intro ls st h Q l0 l1 x; exact e_iload_n d125_114 rfl,
  by intro ls st h Q; exact e_iconst d125_115 rfl,
  by intro ls st h Q x y; exact e_ic d125_116 (by decide) c_le,
  by intro ls st h Q i; exact e_aload_n d125_119 rfl,
  by intro ls st n sl C Z I L R Q i; exact e_get (g := 10) (s := 21) (ty := 2) d125_120 rfl rfl (inG_ne (by decide)),
  by intro ls st h Q l0 l1 x; exact e_iload_n d125_123 rfl,
  by intro ls st h Q; exact e_iconst d125_124 rfl,
  by intro ls st h Q x y; exact e_isub d125_125⟩
set_option maxRecDepth 20000 in
theorem S125_3 : (∀ (ls : Lo) (st : List Value) (h : Hp) (Q : Option Value → Hp → Prop) (l0 l1 l2 l3 l4 : Option Value) (a : Int64), Wp 125 126 (l0 :: l1 :: l2 :: l3 :: l4 :: some (.long a) :: ls) (st) h Q ↔ Wp 125 128 (l0 :: l1 :: l2 :: l3 :: l4 :: some (.long a) :: ls) (.long a :: st) h Q) ∧
  (∀ (ls : Lo) (st : List Value) (n sl : Nat) (C Z : Nat → Nat) (I : Nat → Nat → Int32) (L : Nat → Nat → Int64) (R : Nat → Nat → Nat) (Q : Option Value → Hp → Prop) (i : Nat) (y : Int32) (a : Int64), Wp 125 128 (ls) (.long a :: .int y :: .ref i :: st) (n, sl, C, Z, I, L, R) Q ↔ ((inb y (Z i) = true ∧ C i = 22) ∧ Wp 125 129 (ls) (st) (n, sl, C, Z, I, u2 L i (ix y) a, R) Q)) ∧
  (∀ (ls : Lo) (st : List Value) (h : Hp) (Q : Option Value → Hp → Prop) (l0 l1 : Option Value) (x : Int32), Wp 125 129 (l0 :: l1 :: some (.int x) :: ls) (st) h Q ↔ Wp 125 130 (l0 :: l1 :: some (.int x) :: ls) (.int x :: st) h Q) ∧
  (∀ (ls : Lo) (st : List Value) (h : Hp) (Q : Option Value → Hp → Prop), Wp 125 130 (ls) (st) h Q ↔ Wp 125 131 (ls) (.int (2) :: st) h Q) ∧
  (∀ (ls : Lo) (st : List Value) (h : Hp) (Q : Option Value → Hp → Prop) (x y : Int32), Wp 125 131 (ls) (.int y :: .int x :: st) h Q ↔ Br 125 287 134 ls st h Q (x ≤ y)) ∧
  (∀ (ls : Lo) (st : List Value) (h : Hp) (Q : Option Value → Hp → Prop)  (i : Nat), Wp 125 134 (some (.ref i) :: ls) (st) h Q ↔ Wp 125 135 (some (.ref i) :: ls) (.ref i :: st) h Q) ∧
  (∀ (ls : Lo) (st : List Value) (h : Hp) (Q : Option Value → Hp → Prop) (l0 : Option Value) (x : Int32), Wp 125 135 (l0 :: some (.int x) :: ls) (st) h Q ↔ Wp 125 136 (l0 :: some (.int x) :: ls) (.int x :: st) h Q) ∧
  (∀ (ls : Lo) (st : List Value) (h : Hp) (Q : Option Value → Hp → Prop), Wp 125 136 (ls) (st) h Q ↔ Wp 125 137 (ls) (.int (0) :: st) h Q) ∧
  (∀ (ls : Lo) (st : List Value) (h : Hp) (Q : Option Value → Hp → Prop), Wp 125 137 (ls) (st) h Q ↔ Wp 125 138 (ls) (.int (0) :: st) h Q) ∧
  (∀ (ls : Lo) (st : List Value) (n sl : Nat) (C Z : Nat → Nat) (I : Nat → Nat → Int32) (L : Nat → Nat → Int64) (R : Nat → Nat → Nat) (Q : Option Value → Hp → Prop) (x0 : Int32) (x1 : Int32) (x2 : Int32) (i : Nat), C i = 11 → (Wp 125 138 (ls) (.int x2 :: .int x1 :: .int x0 :: .ref i :: st) (n, sl, C, Z, I, L, R) Q ↔ (wsum st ≤ 8 ∧ Call 104 [some (.ref i), some (.int x0), some (.int x1), some (.int x2)] (n, sl, C, Z, I, L, R) 125 141 ls st Q))) ∧
  (∀ (ls : Lo) (st : List Value) (h : Hp) (Q : Option Value → Hp → Prop) (x : Int32), Wp 125 141 (ls) (.int x :: st) h Q ↔ Wp 125 142 (ls) (.long x.toInt64 :: st) h Q) ∧
  (∀ (ls : Lo) (st : List Value) (h : Hp) (Q : Option Value → Hp → Prop)  (i : Nat), Wp 125 142 (some (.ref i) :: ls) (st) h Q ↔ Wp 125 143 (some (.ref i) :: ls) (.ref i :: st) h Q) ∧
  (∀ (ls : Lo) (st : List Value) (h : Hp) (Q : Option Value → Hp → Prop) (l0 : Option Value) (x : Int32), Wp 125 143 (l0 :: some (.int x) :: ls) (st) h Q ↔ Wp 125 144 (l0 :: some (.int x) :: ls) (.int x :: st) h Q) ∧
  (∀ (ls : Lo) (st : List Value) (h : Hp) (Q : Option Value → Hp → Prop), Wp 125 144 (ls) (st) h Q ↔ Wp 125 145 (ls) (.int (1) :: st) h Q) ∧
  (∀ (ls : Lo) (st : List Value) (h : Hp) (Q : Option Value → Hp → Prop), Wp 125 145 (ls) (st) h Q ↔ Wp 125 146 (ls) (.int (1) :: st) h Q) ∧
  (∀ (ls : Lo) (st : List Value) (n sl : Nat) (C Z : Nat → Nat) (I : Nat → Nat → Int32) (L : Nat → Nat → Int64) (R : Nat → Nat → Nat) (Q : Option Value → Hp → Prop) (x0 : Int32) (x1 : Int32) (x2 : Int32) (i : Nat), C i = 11 → (Wp 125 146 (ls) (.int x2 :: .int x1 :: .int x0 :: .ref i :: st) (n, sl, C, Z, I, L, R) Q ↔ (wsum st ≤ 8 ∧ Call 104 [some (.ref i), some (.int x0), some (.int x1), some (.int x2)] (n, sl, C, Z, I, L, R) 125 149 ls st Q))) ∧
  (∀ (ls : Lo) (st : List Value) (h : Hp) (Q : Option Value → Hp → Prop) (x : Int32), Wp 125 149 (ls) (.int x :: st) h Q ↔ Wp 125 150 (ls) (.long x.toInt64 :: st) h Q) ∧
  (∀ (ls : Lo) (st : List Value) (h : Hp) (Q : Option Value → Hp → Prop)  (i : Nat), Wp 125 150 (some (.ref i) :: ls) (st) h Q ↔ Wp 125 151 (some (.ref i) :: ls) (.ref i :: st) h Q) ∧
  (∀ (ls : Lo) (st : List Value) (h : Hp) (Q : Option Value → Hp → Prop) (l0 : Option Value) (x : Int32), Wp 125 151 (l0 :: some (.int x) :: ls) (st) h Q ↔ Wp 125 152 (l0 :: some (.int x) :: ls) (.int x :: st) h Q) ∧
  (∀ (ls : Lo) (st : List Value) (h : Hp) (Q : Option Value → Hp → Prop), Wp 125 152 (ls) (st) h Q ↔ Wp 125 153 (ls) (.int (2) :: st) h Q) ∧
  (∀ (ls : Lo) (st : List Value) (h : Hp) (Q : Option Value → Hp → Prop), Wp 125 153 (ls) (st) h Q ↔ Wp 125 154 (ls) (.int (2) :: st) h Q) ∧
  (∀ (ls : Lo) (st : List Value) (n sl : Nat) (C Z : Nat → Nat) (I : Nat → Nat → Int32) (L : Nat → Nat → Int64) (R : Nat → Nat → Nat) (Q : Option Value → Hp → Prop) (x0 : Int32) (x1 : Int32) (x2 : Int32) (i : Nat), C i = 11 → (Wp 125 154 (ls) (.int x2 :: .int x1 :: .int x0 :: .ref i :: st) (n, sl, C, Z, I, L, R) Q ↔ (wsum st ≤ 8 ∧ Call 104 [some (.ref i), some (.int x0), some (.int x1), some (.int x2)] (n, sl, C, Z, I, L, R) 125 157 ls st Q))) ∧
  (∀ (ls : Lo) (st : List Value) (h : Hp) (Q : Option Value → Hp → Prop) (x : Int32), Wp 125 157 (ls) (.int x :: st) h Q ↔ Wp 125 158 (ls) (.long x.toInt64 :: st) h Q) ∧
  (∀ (ls : Lo) (st : List Value) (h : Hp) (Q : Option Value → Hp → Prop) (a b : Int64), Wp 125 158 (ls) (.long b :: .long a :: st) h Q ↔ Wp 125 159 (ls) (.long (a * b) :: st) h Q) ∧
  (∀ (ls : Lo) (st : List Value) (h : Hp) (Q : Option Value → Hp → Prop)  (i : Nat), Wp 125 159 (some (.ref i) :: ls) (st) h Q ↔ Wp 125 160 (some (.ref i) :: ls) (.ref i :: st) h Q) := ⟨by intro ls st h Q l0 l1 l2 l3 l4 a; exact e_lload d125_126 rfl,
  by intro ls st n sl C Z I L R Q i y a; exact e_last d125_128,
  by intro ls st h Q l0 l1 x; exact e_iload_n d125_129 rfl,
  by intro ls st h Q; exact e_iconst d125_130 rfl,
  by intro ls st h Q x y; exact e_ic d125_131 (by decide) c_le,
  by intro ls st h Q i; exact e_aload_n d125_134 rfl,
  by intro ls st h Q l0 x; exact e_iload_n d125_135 rfl,
  by intro ls st h Q; exact e_iconst d125_136 rfl,
  by intro ls st h Q; exact e_iconst d125_137 rfl,
  by intro ls st n sl C Z I L R Q x0 x1 x2 i hh; exact e_iv (k2 := 104) (c := 11) (as := [.int x0, .int x1, .int x2]) d125_138 rfl (by decide) rfl rfl (by decide +kernel) (Nat.le_of_ble_eq_true rfl) rfl hh,
  by intro ls st h Q x; exact e_i2l d125_141,
  by intro ls st h Q i; exact e_aload_n d125_142 rfl,
  by intro ls st h Q l0 x; exact e_iload_n d125_143 rfl,
  by intro ls st h Q; exact e_iconst d125_144 rfl,
  by intro ls st h Q; exact e_iconst d125_145 rfl,
  by intro ls st n sl C Z I L R Q x0 x1 x2 i hh; exact e_iv (k2 := 104) (c := 11) (as := [.int x0, .int x1, .int x2]) d125_146 rfl (by decide) rfl rfl (by decide +kernel) (Nat.le_of_ble_eq_true rfl) rfl hh,
  by intro ls st h Q x; exact e_i2l d125_149,
  by intro ls st h Q i; exact e_aload_n d125_150 rfl,
  by intro ls st h Q l0 x; exact e_iload_n d125_151 rfl,
  by intro ls st h Q; exact e_iconst d125_152 rfl,
  by intro ls st h Q; exact e_iconst d125_153 rfl,
  by intro ls st n sl C Z I L R Q x0 x1 x2 i hh; exact e_iv (k2 := 104) (c := 11) (as := [.int x0, .int x1, .int x2]) d125_154 rfl (by decide) rfl rfl (by decide +kernel) (Nat.le_of_ble_eq_true rfl) rfl hh,
  by intro ls st h Q x; exact e_i2l d125_157,
  by intro ls st h Q a b; exact e_lmul d125_158,
  by intro ls st h Q i; exact e_aload_n d125_159 rfl⟩
set_option maxRecDepth 20000 in
theorem S125_4 : (∀ (ls : Lo) (st : List Value) (h : Hp) (Q : Option Value → Hp → Prop) (l0 : Option Value) (x : Int32), Wp 125 160 (l0 :: some (.int x) :: ls) (st) h Q ↔ Wp 125 161 (l0 :: some (.int x) :: ls) (.int x :: st) h Q) ∧
  (∀ (ls : Lo) (st : List Value) (h : Hp) (Q : Option Value → Hp → Prop), Wp 125 161 (ls) (st) h Q ↔ Wp 125 162 (ls) (.int (1) :: st) h Q) ∧
  (∀ (ls : Lo) (st : List Value) (h : Hp) (Q : Option Value → Hp → Prop), Wp 125 162 (ls) (st) h Q ↔ Wp 125 163 (ls) (.int (2) :: st) h Q) ∧
  (∀ (ls : Lo) (st : List Value) (n sl : Nat) (C Z : Nat → Nat) (I : Nat → Nat → Int32) (L : Nat → Nat → Int64) (R : Nat → Nat → Nat) (Q : Option Value → Hp → Prop) (x0 : Int32) (x1 : Int32) (x2 : Int32) (i : Nat), C i = 11 → (Wp 125 163 (ls) (.int x2 :: .int x1 :: .int x0 :: .ref i :: st) (n, sl, C, Z, I, L, R) Q ↔ (wsum st ≤ 8 ∧ Call 104 [some (.ref i), some (.int x0), some (.int x1), some (.int x2)] (n, sl, C, Z, I, L, R) 125 166 ls st Q))) ∧
  (∀ (ls : Lo) (st : List Value) (h : Hp) (Q : Option Value → Hp → Prop) (x : Int32), Wp 125 166 (ls) (.int x :: st) h Q ↔ Wp 125 167 (ls) (.long x.toInt64 :: st) h Q) ∧
  (∀ (ls : Lo) (st : List Value) (h : Hp) (Q : Option Value → Hp → Prop)  (i : Nat), Wp 125 167 (some (.ref i) :: ls) (st) h Q ↔ Wp 125 168 (some (.ref i) :: ls) (.ref i :: st) h Q) ∧
  (∀ (ls : Lo) (st : List Value) (h : Hp) (Q : Option Value → Hp → Prop) (l0 : Option Value) (x : Int32), Wp 125 168 (l0 :: some (.int x) :: ls) (st) h Q ↔ Wp 125 169 (l0 :: some (.int x) :: ls) (.int x :: st) h Q) ∧
  (∀ (ls : Lo) (st : List Value) (h : Hp) (Q : Option Value → Hp → Prop), Wp 125 169 (ls) (st) h Q ↔ Wp 125 170 (ls) (.int (2) :: st) h Q) ∧
  (∀ (ls : Lo) (st : List Value) (h : Hp) (Q : Option Value → Hp → Prop), Wp 125 170 (ls) (st) h Q ↔ Wp 125 171 (ls) (.int (1) :: st) h Q) ∧
  (∀ (ls : Lo) (st : List Value) (n sl : Nat) (C Z : Nat → Nat) (I : Nat → Nat → Int32) (L : Nat → Nat → Int64) (R : Nat → Nat → Nat) (Q : Option Value → Hp → Prop) (x0 : Int32) (x1 : Int32) (x2 : Int32) (i : Nat), C i = 11 → (Wp 125 171 (ls) (.int x2 :: .int x1 :: .int x0 :: .ref i :: st) (n, sl, C, Z, I, L, R) Q ↔ (wsum st ≤ 8 ∧ Call 104 [some (.ref i), some (.int x0), some (.int x1), some (.int x2)] (n, sl, C, Z, I, L, R) 125 174 ls st Q))) ∧
  (∀ (ls : Lo) (st : List Value) (h : Hp) (Q : Option Value → Hp → Prop) (x : Int32), Wp 125 174 (ls) (.int x :: st) h Q ↔ Wp 125 175 (ls) (.long x.toInt64 :: st) h Q) ∧
  (∀ (ls : Lo) (st : List Value) (h : Hp) (Q : Option Value → Hp → Prop) (a b : Int64), Wp 125 175 (ls) (.long b :: .long a :: st) h Q ↔ Wp 125 176 (ls) (.long (a * b) :: st) h Q) ∧
  (∀ (ls : Lo) (st : List Value) (h : Hp) (Q : Option Value → Hp → Prop) (a b : Int64), Wp 125 176 (ls) (.long b :: .long a :: st) h Q ↔ Wp 125 177 (ls) (.long (a - b) :: st) h Q) ∧
  (∀ (ls : Lo) (st : List Value) (h : Hp) (Q : Option Value → Hp → Prop) (a b : Int64), Wp 125 177 (ls) (.long b :: .long a :: st) h Q ↔ Wp 125 178 (ls) (.long (a * b) :: st) h Q) ∧
  (∀ (ls : Lo) (st : List Value) (h : Hp) (Q : Option Value → Hp → Prop) (l0 l1 l2 l3 l4 l5 l6 l7 l8 : Option Value) (a : Int64), Wp 125 178 (l0 :: l1 :: l2 :: l3 :: l4 :: l5 :: l6 :: l7 :: l8 :: ls) (.long a :: st) h Q ↔ Wp 125 180 (l0 :: l1 :: l2 :: l3 :: l4 :: l5 :: clr l6 :: some (.long a) :: none :: ls) (st) h Q) ∧
  (∀ (ls : Lo) (st : List Value) (h : Hp) (Q : Option Value → Hp → Prop)  (i : Nat), Wp 125 180 (some (.ref i) :: ls) (st) h Q ↔ Wp 125 181 (some (.ref i) :: ls) (.ref i :: st) h Q) ∧
  (∀ (ls : Lo) (st : List Value) (h : Hp) (Q : Option Value → Hp → Prop) (l0 : Option Value) (x : Int32), Wp 125 181 (l0 :: some (.int x) :: ls) (st) h Q ↔ Wp 125 182 (l0 :: some (.int x) :: ls) (.int x :: st) h Q) ∧
  (∀ (ls : Lo) (st : List Value) (h : Hp) (Q : Option Value → Hp → Prop), Wp 125 182 (ls) (st) h Q ↔ Wp 125 183 (ls) (.int (0) :: st) h Q) ∧
  (∀ (ls : Lo) (st : List Value) (h : Hp) (Q : Option Value → Hp → Prop), Wp 125 183 (ls) (st) h Q ↔ Wp 125 184 (ls) (.int (1) :: st) h Q) ∧
  (∀ (ls : Lo) (st : List Value) (n sl : Nat) (C Z : Nat → Nat) (I : Nat → Nat → Int32) (L : Nat → Nat → Int64) (R : Nat → Nat → Nat) (Q : Option Value → Hp → Prop) (x0 : Int32) (x1 : Int32) (x2 : Int32) (i : Nat), C i = 11 → (Wp 125 184 (ls) (.int x2 :: .int x1 :: .int x0 :: .ref i :: st) (n, sl, C, Z, I, L, R) Q ↔ (wsum st ≤ 8 ∧ Call 104 [some (.ref i), some (.int x0), some (.int x1), some (.int x2)] (n, sl, C, Z, I, L, R) 125 187 ls st Q))) ∧
  (∀ (ls : Lo) (st : List Value) (h : Hp) (Q : Option Value → Hp → Prop) (x : Int32), Wp 125 187 (ls) (.int x :: st) h Q ↔ Wp 125 188 (ls) (.long x.toInt64 :: st) h Q) ∧
  (∀ (ls : Lo) (st : List Value) (h : Hp) (Q : Option Value → Hp → Prop)  (i : Nat), Wp 125 188 (some (.ref i) :: ls) (st) h Q ↔ Wp 125 189 (some (.ref i) :: ls) (.ref i :: st) h Q) ∧
  (∀ (ls : Lo) (st : List Value) (h : Hp) (Q : Option Value → Hp → Prop) (l0 : Option Value) (x : Int32), Wp 125 189 (l0 :: some (.int x) :: ls) (st) h Q ↔ Wp 125 190 (l0 :: some (.int x) :: ls) (.int x :: st) h Q) ∧
  (∀ (ls : Lo) (st : List Value) (h : Hp) (Q : Option Value → Hp → Prop), Wp 125 190 (ls) (st) h Q ↔ Wp 125 191 (ls) (.int (1) :: st) h Q) ∧
  (∀ (ls : Lo) (st : List Value) (h : Hp) (Q : Option Value → Hp → Prop), Wp 125 191 (ls) (st) h Q ↔ Wp 125 192 (ls) (.int (0) :: st) h Q) := ⟨by intro ls st h Q l0 x; exact e_iload_n d125_160 rfl,
  by intro ls st h Q; exact e_iconst d125_161 rfl,
  by intro ls st h Q; exact e_iconst d125_162 rfl,
  by intro ls st n sl C Z I L R Q x0 x1 x2 i hh; exact e_iv (k2 := 104) (c := 11) (as := [.int x0, .int x1, .int x2]) d125_163 rfl (by decide) rfl rfl (by decide +kernel) (Nat.le_of_ble_eq_true rfl) rfl hh,
  by intro ls st h Q x; exact e_i2l d125_166,
  by intro ls st h Q i; exact e_aload_n d125_167 rfl,
  by intro ls st h Q l0 x; exact e_iload_n d125_168 rfl,
  by intro ls st h Q; exact e_iconst d125_169 rfl,
  by intro ls st h Q; exact e_iconst d125_170 rfl,
  by intro ls st n sl C Z I L R Q x0 x1 x2 i hh; exact e_iv (k2 := 104) (c := 11) (as := [.int x0, .int x1, .int x2]) d125_171 rfl (by decide) rfl rfl (by decide +kernel) (Nat.le_of_ble_eq_true rfl) rfl hh,
  by intro ls st h Q x; exact e_i2l d125_174,
  by intro ls st h Q a b; exact e_lmul d125_175,
  by intro ls st h Q a b; exact e_lsub d125_176,
  by intro ls st h Q a b; exact e_lmul d125_177,
  by intro ls st h Q l0 l1 l2 l3 l4 l5 l6 l7 l8 a; exact e_lstore d125_178 rfl,
  by intro ls st h Q i; exact e_aload_n d125_180 rfl,
  by intro ls st h Q l0 x; exact e_iload_n d125_181 rfl,
  by intro ls st h Q; exact e_iconst d125_182 rfl,
  by intro ls st h Q; exact e_iconst d125_183 rfl,
  by intro ls st n sl C Z I L R Q x0 x1 x2 i hh; exact e_iv (k2 := 104) (c := 11) (as := [.int x0, .int x1, .int x2]) d125_184 rfl (by decide) rfl rfl (by decide +kernel) (Nat.le_of_ble_eq_true rfl) rfl hh,
  by intro ls st h Q x; exact e_i2l d125_187,
  by intro ls st h Q i; exact e_aload_n d125_188 rfl,
  by intro ls st h Q l0 x; exact e_iload_n d125_189 rfl,
  by intro ls st h Q; exact e_iconst d125_190 rfl,
  by intro ls st h Q; exact e_iconst d125_191 rfl⟩
set_option maxRecDepth 20000 in
theorem S125_5 : (∀ (ls : Lo) (st : List Value) (n sl : Nat) (C Z : Nat → Nat) (I : Nat → Nat → Int32) (L : Nat → Nat → Int64) (R : Nat → Nat → Nat) (Q : Option Value → Hp → Prop) (x0 : Int32) (x1 : Int32) (x2 : Int32) (i : Nat), C i = 11 → (Wp 125 192 (ls) (.int x2 :: .int x1 :: .int x0 :: .ref i :: st) (n, sl, C, Z, I, L, R) Q ↔ (wsum st ≤ 8 ∧ Call 104 [some (.ref i), some (.int x0), some (.int x1), some (.int x2)] (n, sl, C, Z, I, L, R) 125 195 ls st Q))) ∧
  (∀ (ls : Lo) (st : List Value) (h : Hp) (Q : Option Value → Hp → Prop) (x : Int32), Wp 125 195 (ls) (.int x :: st) h Q ↔ Wp 125 196 (ls) (.long x.toInt64 :: st) h Q) ∧
  (∀ (ls : Lo) (st : List Value) (h : Hp) (Q : Option Value → Hp → Prop)  (i : Nat), Wp 125 196 (some (.ref i) :: ls) (st) h Q ↔ Wp 125 197 (some (.ref i) :: ls) (.ref i :: st) h Q) ∧
  (∀ (ls : Lo) (st : List Value) (h : Hp) (Q : Option Value → Hp → Prop) (l0 : Option Value) (x : Int32), Wp 125 197 (l0 :: some (.int x) :: ls) (st) h Q ↔ Wp 125 198 (l0 :: some (.int x) :: ls) (.int x :: st) h Q) ∧
  (∀ (ls : Lo) (st : List Value) (h : Hp) (Q : Option Value → Hp → Prop), Wp 125 198 (ls) (st) h Q ↔ Wp 125 199 (ls) (.int (2) :: st) h Q) ∧
  (∀ (ls : Lo) (st : List Value) (h : Hp) (Q : Option Value → Hp → Prop), Wp 125 199 (ls) (st) h Q ↔ Wp 125 200 (ls) (.int (2) :: st) h Q) ∧
  (∀ (ls : Lo) (st : List Value) (n sl : Nat) (C Z : Nat → Nat) (I : Nat → Nat → Int32) (L : Nat → Nat → Int64) (R : Nat → Nat → Nat) (Q : Option Value → Hp → Prop) (x0 : Int32) (x1 : Int32) (x2 : Int32) (i : Nat), C i = 11 → (Wp 125 200 (ls) (.int x2 :: .int x1 :: .int x0 :: .ref i :: st) (n, sl, C, Z, I, L, R) Q ↔ (wsum st ≤ 8 ∧ Call 104 [some (.ref i), some (.int x0), some (.int x1), some (.int x2)] (n, sl, C, Z, I, L, R) 125 203 ls st Q))) ∧
  (∀ (ls : Lo) (st : List Value) (h : Hp) (Q : Option Value → Hp → Prop) (x : Int32), Wp 125 203 (ls) (.int x :: st) h Q ↔ Wp 125 204 (ls) (.long x.toInt64 :: st) h Q) ∧
  (∀ (ls : Lo) (st : List Value) (h : Hp) (Q : Option Value → Hp → Prop) (a b : Int64), Wp 125 204 (ls) (.long b :: .long a :: st) h Q ↔ Wp 125 205 (ls) (.long (a * b) :: st) h Q) ∧
  (∀ (ls : Lo) (st : List Value) (h : Hp) (Q : Option Value → Hp → Prop)  (i : Nat), Wp 125 205 (some (.ref i) :: ls) (st) h Q ↔ Wp 125 206 (some (.ref i) :: ls) (.ref i :: st) h Q) ∧
  (∀ (ls : Lo) (st : List Value) (h : Hp) (Q : Option Value → Hp → Prop) (l0 : Option Value) (x : Int32), Wp 125 206 (l0 :: some (.int x) :: ls) (st) h Q ↔ Wp 125 207 (l0 :: some (.int x) :: ls) (.int x :: st) h Q) ∧
  (∀ (ls : Lo) (st : List Value) (h : Hp) (Q : Option Value → Hp → Prop), Wp 125 207 (ls) (st) h Q ↔ Wp 125 208 (ls) (.int (1) :: st) h Q) ∧
  (∀ (ls : Lo) (st : List Value) (h : Hp) (Q : Option Value → Hp → Prop), Wp 125 208 (ls) (st) h Q ↔ Wp 125 209 (ls) (.int (2) :: st) h Q) ∧
  (∀ (ls : Lo) (st : List Value) (n sl : Nat) (C Z : Nat → Nat) (I : Nat → Nat → Int32) (L : Nat → Nat → Int64) (R : Nat → Nat → Nat) (Q : Option Value → Hp → Prop) (x0 : Int32) (x1 : Int32) (x2 : Int32) (i : Nat), C i = 11 → (Wp 125 209 (ls) (.int x2 :: .int x1 :: .int x0 :: .ref i :: st) (n, sl, C, Z, I, L, R) Q ↔ (wsum st ≤ 8 ∧ Call 104 [some (.ref i), some (.int x0), some (.int x1), some (.int x2)] (n, sl, C, Z, I, L, R) 125 212 ls st Q))) ∧
  (∀ (ls : Lo) (st : List Value) (h : Hp) (Q : Option Value → Hp → Prop) (x : Int32), Wp 125 212 (ls) (.int x :: st) h Q ↔ Wp 125 213 (ls) (.long x.toInt64 :: st) h Q) ∧
  (∀ (ls : Lo) (st : List Value) (h : Hp) (Q : Option Value → Hp → Prop)  (i : Nat), Wp 125 213 (some (.ref i) :: ls) (st) h Q ↔ Wp 125 214 (some (.ref i) :: ls) (.ref i :: st) h Q) ∧
  (∀ (ls : Lo) (st : List Value) (h : Hp) (Q : Option Value → Hp → Prop) (l0 : Option Value) (x : Int32), Wp 125 214 (l0 :: some (.int x) :: ls) (st) h Q ↔ Wp 125 215 (l0 :: some (.int x) :: ls) (.int x :: st) h Q) ∧
  (∀ (ls : Lo) (st : List Value) (h : Hp) (Q : Option Value → Hp → Prop), Wp 125 215 (ls) (st) h Q ↔ Wp 125 216 (ls) (.int (2) :: st) h Q) ∧
  (∀ (ls : Lo) (st : List Value) (h : Hp) (Q : Option Value → Hp → Prop), Wp 125 216 (ls) (st) h Q ↔ Wp 125 217 (ls) (.int (0) :: st) h Q) ∧
  (∀ (ls : Lo) (st : List Value) (n sl : Nat) (C Z : Nat → Nat) (I : Nat → Nat → Int32) (L : Nat → Nat → Int64) (R : Nat → Nat → Nat) (Q : Option Value → Hp → Prop) (x0 : Int32) (x1 : Int32) (x2 : Int32) (i : Nat), C i = 11 → (Wp 125 217 (ls) (.int x2 :: .int x1 :: .int x0 :: .ref i :: st) (n, sl, C, Z, I, L, R) Q ↔ (wsum st ≤ 8 ∧ Call 104 [some (.ref i), some (.int x0), some (.int x1), some (.int x2)] (n, sl, C, Z, I, L, R) 125 220 ls st Q))) ∧
  (∀ (ls : Lo) (st : List Value) (h : Hp) (Q : Option Value → Hp → Prop) (x : Int32), Wp 125 220 (ls) (.int x :: st) h Q ↔ Wp 125 221 (ls) (.long x.toInt64 :: st) h Q) ∧
  (∀ (ls : Lo) (st : List Value) (h : Hp) (Q : Option Value → Hp → Prop) (a b : Int64), Wp 125 221 (ls) (.long b :: .long a :: st) h Q ↔ Wp 125 222 (ls) (.long (a * b) :: st) h Q) ∧
  (∀ (ls : Lo) (st : List Value) (h : Hp) (Q : Option Value → Hp → Prop) (a b : Int64), Wp 125 222 (ls) (.long b :: .long a :: st) h Q ↔ Wp 125 223 (ls) (.long (a - b) :: st) h Q) ∧
  (∀ (ls : Lo) (st : List Value) (h : Hp) (Q : Option Value → Hp → Prop) (a b : Int64), Wp 125 223 (ls) (.long b :: .long a :: st) h Q ↔ Wp 125 224 (ls) (.long (a * b) :: st) h Q) ∧
  (∀ (ls : Lo) (st : List Value) (h : Hp) (Q : Option Value → Hp → Prop) (l0 l1 l2 l3 l4 l5 l6 l7 l8 l9 l10 : Option Value) (a : Int64), Wp 125 224 (l0 :: l1 :: l2 :: l3 :: l4 :: l5 :: l6 :: l7 :: l8 :: l9 :: l10 :: ls) (.long a :: st) h Q ↔ Wp 125 226 (l0 :: l1 :: l2 :: l3 :: l4 :: l5 :: l6 :: l7 :: clr l8 :: some (.long a) :: none :: ls) (st) h Q) := ⟨by intro ls st n sl C Z I L R Q x0 x1 x2 i hh; exact e_iv (k2 := 104) (c := 11) (as := [.int x0, .int x1, .int x2]) d125_192 rfl (by decide) rfl rfl (by decide +kernel) (Nat.le_of_ble_eq_true rfl) rfl hh,
  by intro ls st h Q x; exact e_i2l d125_195,
  by intro ls st h Q i; exact e_aload_n d125_196 rfl,
  by intro ls st h Q l0 x; exact e_iload_n d125_197 rfl,
  by intro ls st h Q; exact e_iconst d125_198 rfl,
  by intro ls st h Q; exact e_iconst d125_199 rfl,
  by intro ls st n sl C Z I L R Q x0 x1 x2 i hh; exact e_iv (k2 := 104) (c := 11) (as := [.int x0, .int x1, .int x2]) d125_200 rfl (by decide) rfl rfl (by decide +kernel) (Nat.le_of_ble_eq_true rfl) rfl hh,
  by intro ls st h Q x; exact e_i2l d125_203,
  by intro ls st h Q a b; exact e_lmul d125_204,
  by intro ls st h Q i; exact e_aload_n d125_205 rfl,
  by intro ls st h Q l0 x; exact e_iload_n d125_206 rfl,
  by intro ls st h Q; exact e_iconst d125_207 rfl,
  by intro ls st h Q; exact e_iconst d125_208 rfl,
  by intro ls st n sl C Z I L R Q x0 x1 x2 i hh; exact e_iv (k2 := 104) (c := 11) (as := [.int x0, .int x1, .int x2]) d125_209 rfl (by decide) rfl rfl (by decide +kernel) (Nat.le_of_ble_eq_true rfl) rfl hh,
  by intro ls st h Q x; exact e_i2l d125_212,
  by intro ls st h Q i; exact e_aload_n d125_213 rfl,
  by intro ls st h Q l0 x; exact e_iload_n d125_214 rfl,
  by intro ls st h Q; exact e_iconst d125_215 rfl,
  by intro ls st h Q; exact e_iconst d125_216 rfl,
  by intro ls st n sl C Z I L R Q x0 x1 x2 i hh; exact e_iv (k2 := 104) (c := 11) (as := [.int x0, .int x1, .int x2]) d125_217 rfl (by decide) rfl rfl (by decide +kernel) (Nat.le_of_ble_eq_true rfl) rfl hh,
  by intro ls st h Q x; exact e_i2l d125_220,
  by intro ls st h Q a b; exact e_lmul d125_221,
  by intro ls st h Q a b; exact e_lsub d125_222,
  by intro ls st h Q a b; exact e_lmul d125_223,
  by intro ls st h Q l0 l1 l2 l3 l4 l5 l6 l7 l8 l9 l10 a; exact e_lstore d125_224 rfl⟩
set_option maxRecDepth 20000 in
theorem S125_6 : (∀ (ls : Lo) (st : List Value) (h : Hp) (Q : Option Value → Hp → Prop)  (i : Nat), Wp 125 226 (some (.ref i) :: ls) (st) h Q ↔ Wp 125 227 (some (.ref i) :: ls) (.ref i :: st) h Q) ∧
  (∀ (ls : Lo) (st : List Value) (h : Hp) (Q : Option Value → Hp → Prop) (l0 : Option Value) (x : Int32), Wp 125 227 (l0 :: some (.int x) :: ls) (st) h Q ↔ Wp 125 228 (l0 :: some (.int x) :: ls) (.int x :: st) h Q) ∧
  (∀ (ls : Lo) (st : List Value) (h : Hp) (Q : Option Value → Hp → Prop), Wp 125 228 (ls) (st) h Q ↔ Wp 125 229 (ls) (.int (0) :: st) h Q) ∧
  (∀ (ls : Lo) (st : List Value) (h : Hp) (Q : Option Value → Hp → Prop), Wp 125 229 (ls) (st) h Q ↔ Wp 125 230 (ls) (.int (2) :: st) h Q) ∧
  (∀ (ls : Lo) (st : List Value) (n sl : Nat) (C Z : Nat → Nat) (I : Nat → Nat → Int32) (L : Nat → Nat → Int64) (R : Nat → Nat → Nat) (Q : Option Value → Hp → Prop) (x0 : Int32) (x1 : Int32) (x2 : Int32) (i : Nat), C i = 11 → (Wp 125 230 (ls) (.int x2 :: .int x1 :: .int x0 :: .ref i :: st) (n, sl, C, Z, I, L, R) Q ↔ (wsum st ≤ 8 ∧ Call 104 [some (.ref i), some (.int x0), some (.int x1), some (.int x2)] (n, sl, C, Z, I, L, R) 125 233 ls st Q))) ∧
  (∀ (ls : Lo) (st : List Value) (h : Hp) (Q : Option Value → Hp → Prop) (x : Int32), Wp 125 233 (ls) (.int x :: st) h Q ↔ Wp 125 234 (ls) (.long x.toInt64 :: st) h Q) ∧
  (∀ (ls : Lo) (st : List Value) (h : Hp) (Q : Option Value → Hp → Prop)  (i : Nat), Wp 125 234 (some (.ref i) :: ls) (st) h Q ↔ Wp 125 235 (some (.ref i) :: ls) (.ref i :: st) h Q) ∧
  (∀ (ls : Lo) (st : List Value) (h : Hp) (Q : Option Value → Hp → Prop) (l0 : Option Value) (x : Int32), Wp 125 235 (l0 :: some (.int x) :: ls) (st) h Q ↔ Wp 125 236 (l0 :: some (.int x) :: ls) (.int x :: st) h Q) ∧
  (∀ (ls : Lo) (st : List Value) (h : Hp) (Q : Option Value → Hp → Prop), Wp 125 236 (ls) (st) h Q ↔ Wp 125 237 (ls) (.int (1) :: st) h Q) ∧
  (∀ (ls : Lo) (st : List Value) (h : Hp) (Q : Option Value → Hp → Prop), Wp 125 237 (ls) (st) h Q ↔ Wp 125 238 (ls) (.int (0) :: st) h Q) ∧
  (∀ (ls : Lo) (st : List Value) (n sl : Nat) (C Z : Nat → Nat) (I : Nat → Nat → Int32) (L : Nat → Nat → Int64) (R : Nat → Nat → Nat) (Q : Option Value → Hp → Prop) (x0 : Int32) (x1 : Int32) (x2 : Int32) (i : Nat), C i = 11 → (Wp 125 238 (ls) (.int x2 :: .int x1 :: .int x0 :: .ref i :: st) (n, sl, C, Z, I, L, R) Q ↔ (wsum st ≤ 8 ∧ Call 104 [some (.ref i), some (.int x0), some (.int x1), some (.int x2)] (n, sl, C, Z, I, L, R) 125 241 ls st Q))) ∧
  (∀ (ls : Lo) (st : List Value) (h : Hp) (Q : Option Value → Hp → Prop) (x : Int32), Wp 125 241 (ls) (.int x :: st) h Q ↔ Wp 125 242 (ls) (.long x.toInt64 :: st) h Q) ∧
  (∀ (ls : Lo) (st : List Value) (h : Hp) (Q : Option Value → Hp → Prop)  (i : Nat), Wp 125 242 (some (.ref i) :: ls) (st) h Q ↔ Wp 125 243 (some (.ref i) :: ls) (.ref i :: st) h Q) ∧
  (∀ (ls : Lo) (st : List Value) (h : Hp) (Q : Option Value → Hp → Prop) (l0 : Option Value) (x : Int32), Wp 125 243 (l0 :: some (.int x) :: ls) (st) h Q ↔ Wp 125 244 (l0 :: some (.int x) :: ls) (.int x :: st) h Q) ∧
  (∀ (ls : Lo) (st : List Value) (h : Hp) (Q : Option Value → Hp → Prop), Wp 125 244 (ls) (st) h Q ↔ Wp 125 245 (ls) (.int (2) :: st) h Q) ∧
  (∀ (ls : Lo) (st : List Value) (h : Hp) (Q : Option Value → Hp → Prop), Wp 125 245 (ls) (st) h Q ↔ Wp 125 246 (ls) (.int (1) :: st) h Q) ∧
  (∀ (ls : Lo) (st : List Value) (n sl : Nat) (C Z : Nat → Nat) (I : Nat → Nat → Int32) (L : Nat → Nat → Int64) (R : Nat → Nat → Nat) (Q : Option Value → Hp → Prop) (x0 : Int32) (x1 : Int32) (x2 : Int32) (i : Nat), C i = 11 → (Wp 125 246 (ls) (.int x2 :: .int x1 :: .int x0 :: .ref i :: st) (n, sl, C, Z, I, L, R) Q ↔ (wsum st ≤ 8 ∧ Call 104 [some (.ref i), some (.int x0), some (.int x1), some (.int x2)] (n, sl, C, Z, I, L, R) 125 249 ls st Q))) ∧
  (∀ (ls : Lo) (st : List Value) (h : Hp) (Q : Option Value → Hp → Prop) (x : Int32), Wp 125 249 (ls) (.int x :: st) h Q ↔ Wp 125 250 (ls) (.long x.toInt64 :: st) h Q) ∧
  (∀ (ls : Lo) (st : List Value) (h : Hp) (Q : Option Value → Hp → Prop) (a b : Int64), Wp 125 250 (ls) (.long b :: .long a :: st) h Q ↔ Wp 125 251 (ls) (.long (a * b) :: st) h Q) ∧
  (∀ (ls : Lo) (st : List Value) (h : Hp) (Q : Option Value → Hp → Prop)  (i : Nat), Wp 125 251 (some (.ref i) :: ls) (st) h Q ↔ Wp 125 252 (some (.ref i) :: ls) (.ref i :: st) h Q) ∧
  (∀ (ls : Lo) (st : List Value) (h : Hp) (Q : Option Value → Hp → Prop) (l0 : Option Value) (x : Int32), Wp 125 252 (l0 :: some (.int x) :: ls) (st) h Q ↔ Wp 125 253 (l0 :: some (.int x) :: ls) (.int x :: st) h Q) ∧
  (∀ (ls : Lo) (st : List Value) (h : Hp) (Q : Option Value → Hp → Prop), Wp 125 253 (ls) (st) h Q ↔ Wp 125 254 (ls) (.int (1) :: st) h Q) ∧
  (∀ (ls : Lo) (st : List Value) (h : Hp) (Q : Option Value → Hp → Prop), Wp 125 254 (ls) (st) h Q ↔ Wp 125 255 (ls) (.int (1) :: st) h Q) ∧
  (∀ (ls : Lo) (st : List Value) (n sl : Nat) (C Z : Nat → Nat) (I : Nat → Nat → Int32) (L : Nat → Nat → Int64) (R : Nat → Nat → Nat) (Q : Option Value → Hp → Prop) (x0 : Int32) (x1 : Int32) (x2 : Int32) (i : Nat), C i = 11 → (Wp 125 255 (ls) (.int x2 :: .int x1 :: .int x0 :: .ref i :: st) (n, sl, C, Z, I, L, R) Q ↔ (wsum st ≤ 8 ∧ Call 104 [some (.ref i), some (.int x0), some (.int x1), some (.int x2)] (n, sl, C, Z, I, L, R) 125 258 ls st Q))) ∧
  (∀ (ls : Lo) (st : List Value) (h : Hp) (Q : Option Value → Hp → Prop) (x : Int32), Wp 125 258 (ls) (.int x :: st) h Q ↔ Wp 125 259 (ls) (.long x.toInt64 :: st) h Q) := ⟨by intro ls st h Q i; exact e_aload_n d125_226 rfl,
  by intro ls st h Q l0 x; exact e_iload_n d125_227 rfl,
  by intro ls st h Q; exact e_iconst d125_228 rfl,
  by intro ls st h Q; exact e_iconst d125_229 rfl,
  by intro ls st n sl C Z I L R Q x0 x1 x2 i hh; exact e_iv (k2 := 104) (c := 11) (as := [.int x0, .int x1, .int x2]) d125_230 rfl (by decide) rfl rfl (by decide +kernel) (Nat.le_of_ble_eq_true rfl) rfl hh,
  by intro ls st h Q x; exact e_i2l d125_233,
  by intro ls st h Q i; exact e_aload_n d125_234 rfl,
  by intro ls st h Q l0 x; exact e_iload_n d125_235 rfl,
  by intro ls st h Q; exact e_iconst d125_236 rfl,
  by intro ls st h Q; exact e_iconst d125_237 rfl,
  by intro ls st n sl C Z I L R Q x0 x1 x2 i hh; exact e_iv (k2 := 104) (c := 11) (as := [.int x0, .int x1, .int x2]) d125_238 rfl (by decide) rfl rfl (by decide +kernel) (Nat.le_of_ble_eq_true rfl) rfl hh,
  by intro ls st h Q x; exact e_i2l d125_241,
  by intro ls st h Q i; exact e_aload_n d125_242 rfl,
  by intro ls st h Q l0 x; exact e_iload_n d125_243 rfl,
  by intro ls st h Q; exact e_iconst d125_244 rfl,
  by intro ls st h Q; exact e_iconst d125_245 rfl,
  by intro ls st n sl C Z I L R Q x0 x1 x2 i hh; exact e_iv (k2 := 104) (c := 11) (as := [.int x0, .int x1, .int x2]) d125_246 rfl (by decide) rfl rfl (by decide +kernel) (Nat.le_of_ble_eq_true rfl) rfl hh,
  by intro ls st h Q x; exact e_i2l d125_249,
  by intro ls st h Q a b; exact e_lmul d125_250,
  by intro ls st h Q i; exact e_aload_n d125_251 rfl,
  by intro ls st h Q l0 x; exact e_iload_n d125_252 rfl,
  by intro ls st h Q; exact e_iconst d125_253 rfl,
  by intro ls st h Q; exact e_iconst d125_254 rfl,
  by intro ls st n sl C Z I L R Q x0 x1 x2 i hh; exact e_iv (k2 := 104) (c := 11) (as := [.int x0, .int x1, .int x2]) d125_255 rfl (by decide) rfl rfl (by decide +kernel) (Nat.le_of_ble_eq_true rfl) rfl hh,
  by intro ls st h Q x; exact e_i2l d125_258⟩
set_option maxRecDepth 20000 in
theorem S125_7 : (∀ (ls : Lo) (st : List Value) (h : Hp) (Q : Option Value → Hp → Prop)  (i : Nat), Wp 125 259 (some (.ref i) :: ls) (st) h Q ↔ Wp 125 260 (some (.ref i) :: ls) (.ref i :: st) h Q) ∧
  (∀ (ls : Lo) (st : List Value) (h : Hp) (Q : Option Value → Hp → Prop) (l0 : Option Value) (x : Int32), Wp 125 260 (l0 :: some (.int x) :: ls) (st) h Q ↔ Wp 125 261 (l0 :: some (.int x) :: ls) (.int x :: st) h Q) ∧
  (∀ (ls : Lo) (st : List Value) (h : Hp) (Q : Option Value → Hp → Prop), Wp 125 261 (ls) (st) h Q ↔ Wp 125 262 (ls) (.int (2) :: st) h Q) ∧
  (∀ (ls : Lo) (st : List Value) (h : Hp) (Q : Option Value → Hp → Prop), Wp 125 262 (ls) (st) h Q ↔ Wp 125 263 (ls) (.int (0) :: st) h Q) ∧
  (∀ (ls : Lo) (st : List Value) (n sl : Nat) (C Z : Nat → Nat) (I : Nat → Nat → Int32) (L : Nat → Nat → Int64) (R : Nat → Nat → Nat) (Q : Option Value → Hp → Prop) (x0 : Int32) (x1 : Int32) (x2 : Int32) (i : Nat), C i = 11 → (Wp 125 263 (ls) (.int x2 :: .int x1 :: .int x0 :: .ref i :: st) (n, sl, C, Z, I, L, R) Q ↔ (wsum st ≤ 8 ∧ Call 104 [some (.ref i), some (.int x0), some (.int x1), some (.int x2)] (n, sl, C, Z, I, L, R) 125 266 ls st Q))) ∧
  (∀ (ls : Lo) (st : List Value) (h : Hp) (Q : Option Value → Hp → Prop) (x : Int32), Wp 125 266 (ls) (.int x :: st) h Q ↔ Wp 125 267 (ls) (.long x.toInt64 :: st) h Q) ∧
  (∀ (ls : Lo) (st : List Value) (h : Hp) (Q : Option Value → Hp → Prop) (a b : Int64), Wp 125 267 (ls) (.long b :: .long a :: st) h Q ↔ Wp 125 268 (ls) (.long (a * b) :: st) h Q) ∧
  (∀ (ls : Lo) (st : List Value) (h : Hp) (Q : Option Value → Hp → Prop) (a b : Int64), Wp 125 268 (ls) (.long b :: .long a :: st) h Q ↔ Wp 125 269 (ls) (.long (a - b) :: st) h Q) ∧
  (∀ (ls : Lo) (st : List Value) (h : Hp) (Q : Option Value → Hp → Prop) (a b : Int64), Wp 125 269 (ls) (.long b :: .long a :: st) h Q ↔ Wp 125 270 (ls) (.long (a * b) :: st) h Q) ∧
  (∀ (ls : Lo) (st : List Value) (h : Hp) (Q : Option Value → Hp → Prop) (l0 l1 l2 l3 l4 l5 l6 l7 l8 l9 l10 l11 l12 : Option Value) (a : Int64), Wp 125 270 (l0 :: l1 :: l2 :: l3 :: l4 :: l5 :: l6 :: l7 :: l8 :: l9 :: l10 :: l11 :: l12 :: ls) (.long a :: st) h Q ↔ Wp 125 272 (l0 :: l1 :: l2 :: l3 :: l4 :: l5 :: l6 :: l7 :: l8 :: l9 :: clr l10 :: some (.long a) :: none :: ls) (st) h Q) ∧
  (∀ (ls : Lo) (st : List Value) (h : Hp) (Q : Option Value → Hp → Prop)  (i : Nat), Wp 125 272 (some (.ref i) :: ls) (st) h Q ↔ Wp 125 273 (some (.ref i) :: ls) (.ref i :: st) h Q) ∧
  (∀ (ls : Lo) (st : List Value) (n sl : Nat) (C Z : Nat → Nat) (I : Nat → Nat → Int32) (L : Nat → Nat → Int64) (R : Nat → Nat → Nat) (Q : Option Value → Hp → Prop) (i : Nat), Wp 125 273 (ls) (.ref i :: st) (n, sl, C, Z, I, L, R) Q ↔ (C i = 11 ∧ Wp 125 276 (ls) (.ref (R i 21) :: st) (n, sl, C, Z, I, L, R) Q)) ∧
  (∀ (ls : Lo) (st : List Value) (h : Hp) (Q : Option Value → Hp → Prop), Wp 125 276 (ls) (st) h Q ↔ Wp 125 277 (ls) (.int (0) :: st) h Q) ∧
  (∀ (ls : Lo) (st : List Value) (h : Hp) (Q : Option Value → Hp → Prop) (l0 l1 l2 l3 l4 l5 l6 : Option Value) (a : Int64), Wp 125 277 (l0 :: l1 :: l2 :: l3 :: l4 :: l5 :: l6 :: some (.long a) :: ls) (st) h Q ↔ Wp 125 279 (l0 :: l1 :: l2 :: l3 :: l4 :: l5 :: l6 :: some (.long a) :: ls) (.long a :: st) h Q) ∧
  (∀ (ls : Lo) (st : List Value) (h : Hp) (Q : Option Value → Hp → Prop) (l0 l1 l2 l3 l4 l5 l6 l7 l8 : Option Value) (a : Int64), Wp 125 279 (l0 :: l1 :: l2 :: l3 :: l4 :: l5 :: l6 :: l7 :: l8 :: some (.long a) :: ls) (st) h Q ↔ Wp 125 281 (l0 :: l1 :: l2 :: l3 :: l4 :: l5 :: l6 :: l7 :: l8 :: some (.long a) :: ls) (.long a :: st) h Q) ∧
  (∀ (ls : Lo) (st : List Value) (h : Hp) (Q : Option Value → Hp → Prop) (a b : Int64), Wp 125 281 (ls) (.long b :: .long a :: st) h Q ↔ Wp 125 282 (ls) (.long (a - b) :: st) h Q) ∧
  (∀ (ls : Lo) (st : List Value) (h : Hp) (Q : Option Value → Hp → Prop) (l0 l1 l2 l3 l4 l5 l6 l7 l8 l9 l10 : Option Value) (a : Int64), Wp 125 282 (l0 :: l1 :: l2 :: l3 :: l4 :: l5 :: l6 :: l7 :: l8 :: l9 :: l10 :: some (.long a) :: ls) (st) h Q ↔ Wp 125 284 (l0 :: l1 :: l2 :: l3 :: l4 :: l5 :: l6 :: l7 :: l8 :: l9 :: l10 :: some (.long a) :: ls) (.long a :: st) h Q) ∧
  (∀ (ls : Lo) (st : List Value) (h : Hp) (Q : Option Value → Hp → Prop) (a b : Int64), Wp 125 284 (ls) (.long b :: .long a :: st) h Q ↔ Wp 125 285 (ls) (.long (a + b) :: st) h Q) ∧
  (∀ (ls : Lo) (st : List Value) (h : Hp) (Q : Option Value → Hp → Prop) (a : Int64), Wp 125 285 (ls) (.long a :: st) h Q ↔ Wp 125 286 (ls) (.long (-a) :: st) h Q) ∧
  (∀ (ls : Lo) (st : List Value) (n sl : Nat) (C Z : Nat → Nat) (I : Nat → Nat → Int32) (L : Nat → Nat → Int64) (R : Nat → Nat → Nat) (Q : Option Value → Hp → Prop) (i : Nat) (y : Int32) (a : Int64), Wp 125 286 (ls) (.long a :: .int y :: .ref i :: st) (n, sl, C, Z, I, L, R) Q ↔ ((inb y (Z i) = true ∧ C i = 22) ∧ Wp 125 287 (ls) (st) (n, sl, C, Z, I, u2 L i (ix y) a, R) Q)) ∧
  (∀ (ls : Lo) (h : Hp) (Q : Option Value → Hp → Prop), Wp 125 287 (ls) ([]) h Q ↔ Q none h) := ⟨by intro ls st h Q i; exact e_aload_n d125_259 rfl,
  by intro ls st h Q l0 x; exact e_iload_n d125_260 rfl,
  by intro ls st h Q; exact e_iconst d125_261 rfl,
  by intro ls st h Q; exact e_iconst d125_262 rfl,
  by intro ls st n sl C Z I L R Q x0 x1 x2 i hh; exact e_iv (k2 := 104) (c := 11) (as := [.int x0, .int x1, .int x2]) d125_263 rfl (by decide) rfl rfl (by decide +kernel) (Nat.le_of_ble_eq_true rfl) rfl hh,
  by intro ls st h Q x; exact e_i2l d125_266,
  by intro ls st h Q a b; exact e_lmul d125_267,
  by intro ls st h Q a b; exact e_lsub d125_268,
  by intro ls st h Q a b; exact e_lmul d125_269,
  by intro ls st h Q l0 l1 l2 l3 l4 l5 l6 l7 l8 l9 l10 l11 l12 a; exact e_lstore d125_270 rfl,
  by intro ls st h Q i; exact e_aload_n d125_272 rfl,
  by intro ls st n sl C Z I L R Q i; exact e_get (g := 10) (s := 21) (ty := 2) d125_273 rfl rfl (inG_ne (by decide)),
  by intro ls st h Q; exact e_iconst d125_276 rfl,
  by intro ls st h Q l0 l1 l2 l3 l4 l5 l6 a; exact e_lload d125_277 rfl,
  by intro ls st h Q l0 l1 l2 l3 l4 l5 l6 l7 l8 a; exact e_lload d125_279 rfl,
  by intro ls st h Q a b; exact e_lsub d125_281,
  by intro ls st h Q l0 l1 l2 l3 l4 l5 l6 l7 l8 l9 l10 a; exact e_lload d125_282 rfl,
  by intro ls st h Q a b; exact e_ladd d125_284,
  by intro ls st h Q a; exact e_lneg d125_285,
  by intro ls st n sl C Z I L R Q i y a; exact e_last d125_286,
  by intros; exact e_rV d125_287 rfl⟩
