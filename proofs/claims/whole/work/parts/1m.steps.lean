theorem d164_0 : decode (byt 164) 0 = .ok (.aload_n 0, 1) := by decide +kernel
theorem d164_1 : decode (byt 164) 1 = .ok (.iload_n 1, 1) := by decide +kernel
theorem d164_2 : decode (byt 164) 2 = .ok (.invokevirtual 105, 3) := by decide +kernel
theorem d164_5 : decode (byt 164) 5 = .ok (.ifCond .eq 19, 3) := by decide +kernel
theorem d164_8 : decode (byt 164) 8 = .ok (.iload_n 2, 1) := by decide +kernel
theorem d164_9 : decode (byt 164) 9 = .ok (.invokestatic 238, 3) := by decide +kernel
theorem d164_12 : decode (byt 164) 12 = .ok (.ifCond .eq 12, 3) := by decide +kernel
theorem d164_15 : decode (byt 164) 15 = .ok (.iload_n 3, 1) := by decide +kernel
theorem d164_16 : decode (byt 164) 16 = .ok (.ifCond .lt 8, 3) := by decide +kernel
theorem d164_19 : decode (byt 164) 19 = .ok (.iload_n 3, 1) := by decide +kernel
theorem d164_20 : decode (byt 164) 20 = .ok (.iconst 2, 1) := by decide +kernel
theorem d164_21 : decode (byt 164) 21 = .ok (.if_icmp .le 6, 3) := by decide +kernel
theorem d164_24 : decode (byt 164) 24 = .ok (.bipush (-2), 2) := by decide +kernel
theorem d164_26 : decode (byt 164) 26 = .ok (.ireturn, 1) := by decide +kernel
theorem d164_27 : decode (byt 164) 27 = .ok (.aload_n 0, 1) := by decide +kernel
theorem d164_28 : decode (byt 164) 28 = .ok (.getfield 7, 3) := by decide +kernel
theorem d164_31 : decode (byt 164) 31 = .ok (.iload_n 1, 1) := by decide +kernel
theorem d164_32 : decode (byt 164) 32 = .ok (.iaload, 1) := by decide +kernel
theorem d164_33 : decode (byt 164) 33 = .ok (.iconst 1, 1) := by decide +kernel
theorem d164_34 : decode (byt 164) 34 = .ok (.if_icmp .le 6, 3) := by decide +kernel
theorem d164_37 : decode (byt 164) 37 = .ok (.bipush (-3), 2) := by decide +kernel
theorem d164_39 : decode (byt 164) 39 = .ok (.ireturn, 1) := by decide +kernel
theorem d164_40 : decode (byt 164) 40 = .ok (.aload_n 0, 1) := by decide +kernel
theorem d164_41 : decode (byt 164) 41 = .ok (.getfield 47, 3) := by decide +kernel
theorem d164_44 : decode (byt 164) 44 = .ok (.iload_n 2, 1) := by decide +kernel
theorem d164_45 : decode (byt 164) 45 = .ok (.iaload, 1) := by decide +kernel
theorem d164_46 : decode (byt 164) 46 = .ok (.ifCond .lt 16, 3) := by decide +kernel
theorem d164_49 : decode (byt 164) 49 = .ok (.aload_n 0, 1) := by decide +kernel
theorem d164_50 : decode (byt 164) 50 = .ok (.getfield 47, 3) := by decide +kernel
theorem d164_53 : decode (byt 164) 53 = .ok (.iload_n 2, 1) := by decide +kernel
theorem d164_54 : decode (byt 164) 54 = .ok (.iaload, 1) := by decide +kernel
theorem d164_55 : decode (byt 164) 55 = .ok (.iload_n 3, 1) := by decide +kernel
theorem d164_56 : decode (byt 164) 56 = .ok (.if_icmp .eq 6, 3) := by decide +kernel
theorem d164_59 : decode (byt 164) 59 = .ok (.bipush (-13), 2) := by decide +kernel
theorem d164_61 : decode (byt 164) 61 = .ok (.ireturn, 1) := by decide +kernel
theorem d164_62 : decode (byt 164) 62 = .ok (.aload_n 0, 1) := by decide +kernel
theorem d164_63 : decode (byt 164) 63 = .ok (.getfield 47, 3) := by decide +kernel
theorem d164_66 : decode (byt 164) 66 = .ok (.iload_n 2, 1) := by decide +kernel
theorem d164_67 : decode (byt 164) 67 = .ok (.iaload, 1) := by decide +kernel
theorem d164_68 : decode (byt 164) 68 = .ok (.ifCond .ge 6, 3) := by decide +kernel
theorem d164_71 : decode (byt 164) 71 = .ok (.bipush (-11), 2) := by decide +kernel
theorem d164_73 : decode (byt 164) 73 = .ok (.ireturn, 1) := by decide +kernel
theorem d164_74 : decode (byt 164) 74 = .ok (.aload_n 0, 1) := by decide +kernel
theorem d164_75 : decode (byt 164) 75 = .ok (.getfield 13, 3) := by decide +kernel
theorem d164_78 : decode (byt 164) 78 = .ok (.iload_n 1, 1) := by decide +kernel
theorem d164_79 : decode (byt 164) 79 = .ok (.iaload, 1) := by decide +kernel
theorem d164_80 : decode (byt 164) 80 = .ok (.aload_n 0, 1) := by decide +kernel
theorem d164_81 : decode (byt 164) 81 = .ok (.getfield 13, 3) := by decide +kernel
theorem d164_84 : decode (byt 164) 84 = .ok (.iload_n 1, 1) := by decide +kernel
theorem d164_85 : decode (byt 164) 85 = .ok (.iaload, 1) := by decide +kernel
theorem d164_86 : decode (byt 164) 86 = .ok (.imul, 1) := by decide +kernel
theorem d164_87 : decode (byt 164) 87 = .ok (.istore 5, 2) := by decide +kernel
theorem d164_89 : decode (byt 164) 89 = .ok (.iload 5, 2) := by decide +kernel
theorem d164_91 : decode (byt 164) 91 = .ok (.ifCond .ne 5, 3) := by decide +kernel
theorem d164_94 : decode (byt 164) 94 = .ok (.iconst 1, 1) := by decide +kernel
theorem d164_95 : decode (byt 164) 95 = .ok (.ireturn, 1) := by decide +kernel
theorem d164_96 : decode (byt 164) 96 = .ok (.iload 4, 2) := by decide +kernel
theorem d164_98 : decode (byt 164) 98 = .ok (.ifCond .lt 17, 3) := by decide +kernel
theorem d164_101 : decode (byt 164) 101 = .ok (.iload 4, 2) := by decide +kernel
theorem d164_103 : decode (byt 164) 103 = .ok (.aload_n 0, 1) := by decide +kernel
theorem d164_104 : decode (byt 164) 104 = .ok (.getfield 50, 3) := by decide +kernel
theorem d164_107 : decode (byt 164) 107 = .ok (.iload_n 2, 1) := by decide +kernel
theorem d164_108 : decode (byt 164) 108 = .ok (.iaload, 1) := by decide +kernel
theorem d164_109 : decode (byt 164) 109 = .ok (.iload 5, 2) := by decide +kernel
theorem d164_111 : decode (byt 164) 111 = .ok (.isub, 1) := by decide +kernel
theorem d164_112 : decode (byt 164) 112 = .ok (.if_icmp .le 6, 3) := by decide +kernel
theorem d164_115 : decode (byt 164) 115 = .ok (.bipush (-12), 2) := by decide +kernel
theorem d164_117 : decode (byt 164) 117 = .ok (.ireturn, 1) := by decide +kernel
theorem d164_118 : decode (byt 164) 118 = .ok (.iconst 0, 1) := by decide +kernel
theorem d164_119 : decode (byt 164) 119 = .ok (.istore 6, 2) := by decide +kernel
theorem d164_121 : decode (byt 164) 121 = .ok (.iload 6, 2) := by decide +kernel
theorem d164_123 : decode (byt 164) 123 = .ok (.iload 5, 2) := by decide +kernel
theorem d164_125 : decode (byt 164) 125 = .ok (.if_icmp .ge 47, 3) := by decide +kernel
theorem d164_128 : decode (byt 164) 128 = .ok (.aload_n 0, 1) := by decide +kernel
theorem d164_129 : decode (byt 164) 129 = .ok (.getfield 53, 3) := by decide +kernel
theorem d164_132 : decode (byt 164) 132 = .ok (.bipush 40, 2) := by decide +kernel
theorem d164_134 : decode (byt 164) 134 = .ok (.iload_n 2, 1) := by decide +kernel
theorem d164_135 : decode (byt 164) 135 = .ok (.imul, 1) := by decide +kernel
theorem d164_136 : decode (byt 164) 136 = .ok (.iload 4, 2) := by decide +kernel
theorem d164_138 : decode (byt 164) 138 = .ok (.iadd, 1) := by decide +kernel
theorem d164_139 : decode (byt 164) 139 = .ok (.iload 6, 2) := by decide +kernel
theorem d164_141 : decode (byt 164) 141 = .ok (.iadd, 1) := by decide +kernel
theorem d164_142 : decode (byt 164) 142 = .ok (.laload, 1) := by decide +kernel
theorem d164_143 : decode (byt 164) 143 = .ok (.lstore 7, 2) := by decide +kernel
theorem d164_145 : decode (byt 164) 145 = .ok (.lload 7, 2) := by decide +kernel
theorem d164_147 : decode (byt 164) 147 = .ok (.ldc2_w 241, 3) := by decide +kernel
theorem d164_150 : decode (byt 164) 150 = .ok (.lcmp, 1) := by decide +kernel
theorem d164_151 : decode (byt 164) 151 = .ok (.ifCond .lt 12, 3) := by decide +kernel
theorem d164_154 : decode (byt 164) 154 = .ok (.lload 7, 2) := by decide +kernel
theorem d164_156 : decode (byt 164) 156 = .ok (.ldc2_w 243, 3) := by decide +kernel
theorem d164_159 : decode (byt 164) 159 = .ok (.lcmp, 1) := by decide +kernel
theorem d164_160 : decode (byt 164) 160 = .ok (.ifCond .le 6, 3) := by decide +kernel
theorem d164_163 : decode (byt 164) 163 = .ok (.bipush (-2), 2) := by decide +kernel
theorem d164_165 : decode (byt 164) 165 = .ok (.ireturn, 1) := by decide +kernel
theorem d164_166 : decode (byt 164) 166 = .ok (.iinc 6 1, 3) := by decide +kernel
theorem d164_169 : decode (byt 164) 169 = .ok (.goto (-48), 3) := by decide +kernel
theorem d164_172 : decode (byt 164) 172 = .ok (.iconst 0, 1) := by decide +kernel
theorem d164_173 : decode (byt 164) 173 = .ok (.istore 6, 2) := by decide +kernel
theorem d164_175 : decode (byt 164) 175 = .ok (.iload 6, 2) := by decide +kernel
theorem d164_177 : decode (byt 164) 177 = .ok (.iload 5, 2) := by decide +kernel
theorem d164_179 : decode (byt 164) 179 = .ok (.if_icmp .ge 56, 3) := by decide +kernel
theorem d164_182 : decode (byt 164) 182 = .ok (.aload_n 0, 1) := by decide +kernel
theorem d164_183 : decode (byt 164) 183 = .ok (.getfield 22, 3) := by decide +kernel
theorem d164_186 : decode (byt 164) 186 = .ok (.bipush 9, 2) := by decide +kernel
theorem d164_188 : decode (byt 164) 188 = .ok (.iload_n 1, 1) := by decide +kernel
theorem d164_189 : decode (byt 164) 189 = .ok (.imul, 1) := by decide +kernel
theorem d164_190 : decode (byt 164) 190 = .ok (.iconst 3, 1) := by decide +kernel
theorem d164_191 : decode (byt 164) 191 = .ok (.iload 6, 2) := by decide +kernel
theorem d164_193 : decode (byt 164) 193 = .ok (.aload_n 0, 1) := by decide +kernel
theorem d164_194 : decode (byt 164) 194 = .ok (.getfield 13, 3) := by decide +kernel
theorem d164_197 : decode (byt 164) 197 = .ok (.iload_n 1, 1) := by decide +kernel
theorem d164_198 : decode (byt 164) 198 = .ok (.iaload, 1) := by decide +kernel
theorem d164_199 : decode (byt 164) 199 = .ok (.idiv, 1) := by decide +kernel
theorem d164_200 : decode (byt 164) 200 = .ok (.imul, 1) := by decide +kernel
theorem d164_201 : decode (byt 164) 201 = .ok (.iadd, 1) := by decide +kernel
theorem d164_202 : decode (byt 164) 202 = .ok (.iload 6, 2) := by decide +kernel
theorem d164_204 : decode (byt 164) 204 = .ok (.aload_n 0, 1) := by decide +kernel
theorem d164_205 : decode (byt 164) 205 = .ok (.getfield 13, 3) := by decide +kernel
theorem d164_208 : decode (byt 164) 208 = .ok (.iload_n 1, 1) := by decide +kernel
theorem d164_209 : decode (byt 164) 209 = .ok (.iaload, 1) := by decide +kernel
theorem d164_210 : decode (byt 164) 210 = .ok (.irem, 1) := by decide +kernel
theorem d164_211 : decode (byt 164) 211 = .ok (.iadd, 1) := by decide +kernel
theorem d164_212 : decode (byt 164) 212 = .ok (.aload_n 0, 1) := by decide +kernel
theorem d164_213 : decode (byt 164) 213 = .ok (.getfield 53, 3) := by decide +kernel
theorem d164_216 : decode (byt 164) 216 = .ok (.bipush 40, 2) := by decide +kernel
theorem d164_218 : decode (byt 164) 218 = .ok (.iload_n 2, 1) := by decide +kernel
theorem d164_219 : decode (byt 164) 219 = .ok (.imul, 1) := by decide +kernel
theorem d164_220 : decode (byt 164) 220 = .ok (.iload 4, 2) := by decide +kernel
theorem d164_222 : decode (byt 164) 222 = .ok (.iadd, 1) := by decide +kernel
theorem d164_223 : decode (byt 164) 223 = .ok (.iload 6, 2) := by decide +kernel
theorem d164_225 : decode (byt 164) 225 = .ok (.iadd, 1) := by decide +kernel
theorem d164_226 : decode (byt 164) 226 = .ok (.laload, 1) := by decide +kernel
theorem d164_227 : decode (byt 164) 227 = .ok (.l2i, 1) := by decide +kernel
theorem d164_228 : decode (byt 164) 228 = .ok (.iastore, 1) := by decide +kernel
theorem d164_229 : decode (byt 164) 229 = .ok (.iinc 6 1, 3) := by decide +kernel
theorem d164_232 : decode (byt 164) 232 = .ok (.goto (-57), 3) := by decide +kernel
theorem d164_235 : decode (byt 164) 235 = .ok (.iconst 1, 1) := by decide +kernel
theorem d164_236 : decode (byt 164) 236 = .ok (.ireturn, 1) := by decide +kernel
set_option maxRecDepth 20000 in
theorem S164_0 : (∀ (ls : Lo) (st : List Value) (h : Hp) (Q : Option Value → Hp → Prop)  (i : Nat), Wp 164 0 (some (.ref i) :: ls) (st) h Q ↔ Wp 164 1 (some (.ref i) :: ls) (.ref i :: st) h Q) ∧
  (∀ (ls : Lo) (st : List Value) (h : Hp) (Q : Option Value → Hp → Prop) (l0 : Option Value) (x : Int32), Wp 164 1 (l0 :: some (.int x) :: ls) (st) h Q ↔ Wp 164 2 (l0 :: some (.int x) :: ls) (.int x :: st) h Q) ∧
  (∀ (ls : Lo) (st : List Value) (n sl : Nat) (C Z : Nat → Nat) (I : Nat → Nat → Int32) (L : Nat → Nat → Int64) (R : Nat → Nat → Nat) (Q : Option Value → Hp → Prop) (x0 : Int32) (i : Nat), C i = 11 → (Wp 164 2 (ls) (.int x0 :: .ref i :: st) (n, sl, C, Z, I, L, R) Q ↔ (wsum st ≤ 8 ∧ Call 103 [some (.ref i), some (.int x0)] (n, sl, C, Z, I, L, R) 164 5 ls st Q))) ∧
  (∀ (ls : Lo) (st : List Value) (h : Hp) (Q : Option Value → Hp → Prop) (x : Int32), Wp 164 5 (ls) (.int x :: st) h Q ↔ Br 164 24 8 ls st h Q (x = 0)) ∧
  (∀ (ls : Lo) (st : List Value) (h : Hp) (Q : Option Value → Hp → Prop) (l0 l1 : Option Value) (x : Int32), Wp 164 8 (l0 :: l1 :: some (.int x) :: ls) (st) h Q ↔ Wp 164 9 (l0 :: l1 :: some (.int x) :: ls) (.int x :: st) h Q) ∧
  (∀ (ls : Lo) (st : List Value) (h : Hp) (Q : Option Value → Hp → Prop) (x0 : Int32), Wp 164 9 (ls) (.int x0 :: st) h Q ↔ (wsum st ≤ 8 ∧ Call 161 [some (.int x0)] h 164 12 ls st Q)) ∧
  (∀ (ls : Lo) (st : List Value) (h : Hp) (Q : Option Value → Hp → Prop) (x : Int32), Wp 164 12 (ls) (.int x :: st) h Q ↔ Br 164 24 15 ls st h Q (x = 0)) ∧
  (∀ (ls : Lo) (st : List Value) (h : Hp) (Q : Option Value → Hp → Prop) (l0 l1 l2 : Option Value) (x : Int32), Wp 164 15 (l0 :: l1 :: l2 :: some (.int x) :: ls) (st) h Q ↔ Wp 164 16 (l0 :: l1 :: l2 :: some (.int x) :: ls) (.int x :: st) h Q) ∧
  (∀ (ls : Lo) (st : List Value) (h : Hp) (Q : Option Value → Hp → Prop) (x : Int32), Wp 164 16 (ls) (.int x :: st) h Q ↔ Br 164 24 19 ls st h Q (x < 0)) ∧
  (∀ (ls : Lo) (st : List Value) (h : Hp) (Q : Option Value → Hp → Prop) (l0 l1 l2 : Option Value) (x : Int32), Wp 164 19 (l0 :: l1 :: l2 :: some (.int x) :: ls) (st) h Q ↔ Wp 164 20 (l0 :: l1 :: l2 :: some (.int x) :: ls) (.int x :: st) h Q) ∧
  (∀ (ls : Lo) (st : List Value) (h : Hp) (Q : Option Value → Hp → Prop), Wp 164 20 (ls) (st) h Q ↔ Wp 164 21 (ls) (.int (2) :: st) h Q) ∧
  (∀ (ls : Lo) (st : List Value) (h : Hp) (Q : Option Value → Hp → Prop) (x y : Int32), Wp 164 21 (ls) (.int y :: .int x :: st) h Q ↔ Br 164 27 24 ls st h Q (x ≤ y)) ∧
  (∀ (ls : Lo) (st : List Value) (h : Hp) (Q : Option Value → Hp → Prop), Wp 164 24 (ls) (st) h Q ↔ Wp 164 26 (ls) (.int (-2) :: st) h Q) ∧
  (∀ (ls : Lo) (h : Hp) (Q : Option Value → Hp → Prop) (x : Int32), Wp 164 26 (ls) ([.int x]) h Q ↔ Q (some (.int x)) h) ∧
  (∀ (ls : Lo) (st : List Value) (h : Hp) (Q : Option Value → Hp → Prop)  (i : Nat), Wp 164 27 (some (.ref i) :: ls) (st) h Q ↔ Wp 164 28 (some (.ref i) :: ls) (.ref i :: st) h Q) ∧
  (∀ (ls : Lo) (st : List Value) (n sl : Nat) (C Z : Nat → Nat) (I : Nat → Nat → Int32) (L : Nat → Nat → Int64) (R : Nat → Nat → Nat) (Q : Option Value → Hp → Prop) (i : Nat), Wp 164 28 (ls) (.ref i :: st) (n, sl, C, Z, I, L, R) Q ↔ (C i = 11 ∧ Wp 164 31 (ls) (.ref (R i 1) :: st) (n, sl, C, Z, I, L, R) Q)) ∧
  (∀ (ls : Lo) (st : List Value) (h : Hp) (Q : Option Value → Hp → Prop) (l0 : Option Value) (x : Int32), Wp 164 31 (l0 :: some (.int x) :: ls) (st) h Q ↔ Wp 164 32 (l0 :: some (.int x) :: ls) (.int x :: st) h Q) ∧
  (∀ (ls : Lo) (st : List Value) (n sl : Nat) (C Z : Nat → Nat) (I : Nat → Nat → Int32) (L : Nat → Nat → Int64) (R : Nat → Nat → Nat) (Q : Option Value → Hp → Prop) (i : Nat) (y : Int32), Wp 164 32 (ls) (.int y :: .ref i :: st) (n, sl, C, Z, I, L, R) Q ↔ ((inb y (Z i) = true ∧ C i = 21) ∧ Wp 164 33 (ls) (.int (I i (ix y)) :: st) (n, sl, C, Z, I, L, R) Q)) ∧
  (∀ (ls : Lo) (st : List Value) (h : Hp) (Q : Option Value → Hp → Prop), Wp 164 33 (ls) (st) h Q ↔ Wp 164 34 (ls) (.int (1) :: st) h Q) ∧
  (∀ (ls : Lo) (st : List Value) (h : Hp) (Q : Option Value → Hp → Prop) (x y : Int32), Wp 164 34 (ls) (.int y :: .int x :: st) h Q ↔ Br 164 40 37 ls st h Q (x ≤ y)) ∧
  (∀ (ls : Lo) (st : List Value) (h : Hp) (Q : Option Value → Hp → Prop), Wp 164 37 (ls) (st) h Q ↔ Wp 164 39 (ls) (.int (-3) :: st) h Q) ∧
  (∀ (ls : Lo) (h : Hp) (Q : Option Value → Hp → Prop) (x : Int32), Wp 164 39 (ls) ([.int x]) h Q ↔ Q (some (.int x)) h) ∧
  (∀ (ls : Lo) (st : List Value) (h : Hp) (Q : Option Value → Hp → Prop)  (i : Nat), Wp 164 40 (some (.ref i) :: ls) (st) h Q ↔ Wp 164 41 (some (.ref i) :: ls) (.ref i :: st) h Q) ∧
  (∀ (ls : Lo) (st : List Value) (n sl : Nat) (C Z : Nat → Nat) (I : Nat → Nat → Int32) (L : Nat → Nat → Int64) (R : Nat → Nat → Nat) (Q : Option Value → Hp → Prop) (i : Nat), Wp 164 41 (ls) (.ref i :: st) (n, sl, C, Z, I, L, R) Q ↔ (C i = 11 ∧ Wp 164 44 (ls) (.ref (R i 15) :: st) (n, sl, C, Z, I, L, R) Q)) ∧
  (∀ (ls : Lo) (st : List Value) (h : Hp) (Q : Option Value → Hp → Prop) (l0 l1 : Option Value) (x : Int32), Wp 164 44 (l0 :: l1 :: some (.int x) :: ls) (st) h Q ↔ Wp 164 45 (l0 :: l1 :: some (.int x) :: ls) (.int x :: st) h Q) := ⟨by intro ls st h Q i; exact e_aload_n d164_0 rfl,
  by intro ls st h Q l0 x; exact e_iload_n d164_1 rfl,
  by intro ls st n sl C Z I L R Q x0 i hh; exact e_iv (k2 := 103) (c := 11) (as := [.int x0]) d164_2 rfl (by decide) rfl rfl (by decide +kernel) (Nat.le_of_ble_eq_true rfl) rfl hh,
  by intro ls st h Q x; exact e_if d164_5 (by decide) c_eq,
  by intro ls st h Q l0 l1 x; exact e_iload_n d164_8 rfl,
  by intro ls st h Q x0; exact e_is (k2 := 161) (as := [.int x0]) d164_9 rfl (by decide) rfl rfl (by decide +kernel) (Nat.le_of_ble_eq_true rfl) rfl,
  by intro ls st h Q x; exact e_if d164_12 (by decide) c_eq,
  by intro ls st h Q l0 l1 l2 x; exact e_iload_n d164_15 rfl,
  by intro ls st h Q x; exact e_if d164_16 (by decide) c_lt,
  by intro ls st h Q l0 l1 l2 x; exact e_iload_n d164_19 rfl,
  by intro ls st h Q; exact e_iconst d164_20 rfl,
  by intro ls st h Q x y; exact e_ic d164_21 (by decide) c_le,
  by intro ls st h Q; exact e_bipush d164_24 rfl,
  by intros; exact e_rI (p := True) d164_26 rfl,
  by intro ls st h Q i; exact e_aload_n d164_27 rfl,
  by intro ls st n sl C Z I L R Q i; exact e_get (g := 10) (s := 1) (ty := 2) d164_28 rfl rfl (inG_ne (by decide)),
  by intro ls st h Q l0 x; exact e_iload_n d164_31 rfl,
  by intro ls st n sl C Z I L R Q i y; exact e_iald d164_32,
  by intro ls st h Q; exact e_iconst d164_33 rfl,
  by intro ls st h Q x y; exact e_ic d164_34 (by decide) c_le,
  by intro ls st h Q; exact e_bipush d164_37 rfl,
  by intros; exact e_rI (p := True) d164_39 rfl,
  by intro ls st h Q i; exact e_aload_n d164_40 rfl,
  by intro ls st n sl C Z I L R Q i; exact e_get (g := 10) (s := 15) (ty := 2) d164_41 rfl rfl (inG_ne (by decide)),
  by intro ls st h Q l0 l1 x; exact e_iload_n d164_44 rfl⟩
set_option maxRecDepth 20000 in
theorem S164_1 : (∀ (ls : Lo) (st : List Value) (n sl : Nat) (C Z : Nat → Nat) (I : Nat → Nat → Int32) (L : Nat → Nat → Int64) (R : Nat → Nat → Nat) (Q : Option Value → Hp → Prop) (i : Nat) (y : Int32), Wp 164 45 (ls) (.int y :: .ref i :: st) (n, sl, C, Z, I, L, R) Q ↔ ((inb y (Z i) = true ∧ C i = 21) ∧ Wp 164 46 (ls) (.int (I i (ix y)) :: st) (n, sl, C, Z, I, L, R) Q)) ∧
  (∀ (ls : Lo) (st : List Value) (h : Hp) (Q : Option Value → Hp → Prop) (x : Int32), Wp 164 46 (ls) (.int x :: st) h Q ↔ Br 164 62 49 ls st h Q (x < 0)) ∧
  (∀ (ls : Lo) (st : List Value) (h : Hp) (Q : Option Value → Hp → Prop)  (i : Nat), Wp 164 49 (some (.ref i) :: ls) (st) h Q ↔ Wp 164 50 (some (.ref i) :: ls) (.ref i :: st) h Q) ∧
  (∀ (ls : Lo) (st : List Value) (n sl : Nat) (C Z : Nat → Nat) (I : Nat → Nat → Int32) (L : Nat → Nat → Int64) (R : Nat → Nat → Nat) (Q : Option Value → Hp → Prop) (i : Nat), Wp 164 50 (ls) (.ref i :: st) (n, sl, C, Z, I, L, R) Q ↔ (C i = 11 ∧ Wp 164 53 (ls) (.ref (R i 15) :: st) (n, sl, C, Z, I, L, R) Q)) ∧
  (∀ (ls : Lo) (st : List Value) (h : Hp) (Q : Option Value → Hp → Prop) (l0 l1 : Option Value) (x : Int32), Wp 164 53 (l0 :: l1 :: some (.int x) :: ls) (st) h Q ↔ Wp 164 54 (l0 :: l1 :: some (.int x) :: ls) (.int x :: st) h Q) ∧
  (∀ (ls : Lo) (st : List Value) (n sl : Nat) (C Z : Nat → Nat) (I : Nat → Nat → Int32) (L : Nat → Nat → Int64) (R : Nat → Nat → Nat) (Q : Option Value → Hp → Prop) (i : Nat) (y : Int32), Wp 164 54 (ls) (.int y :: .ref i :: st) (n, sl, C, Z, I, L, R) Q ↔ ((inb y (Z i) = true ∧ C i = 21) ∧ Wp 164 55 (ls) (.int (I i (ix y)) :: st) (n, sl, C, Z, I, L, R) Q)) ∧
  (∀ (ls : Lo) (st : List Value) (h : Hp) (Q : Option Value → Hp → Prop) (l0 l1 l2 : Option Value) (x : Int32), Wp 164 55 (l0 :: l1 :: l2 :: some (.int x) :: ls) (st) h Q ↔ Wp 164 56 (l0 :: l1 :: l2 :: some (.int x) :: ls) (.int x :: st) h Q) ∧
  (∀ (ls : Lo) (st : List Value) (h : Hp) (Q : Option Value → Hp → Prop) (x y : Int32), Wp 164 56 (ls) (.int y :: .int x :: st) h Q ↔ Br 164 62 59 ls st h Q (x = y)) ∧
  (∀ (ls : Lo) (st : List Value) (h : Hp) (Q : Option Value → Hp → Prop), Wp 164 59 (ls) (st) h Q ↔ Wp 164 61 (ls) (.int (-13) :: st) h Q) ∧
  (∀ (ls : Lo) (h : Hp) (Q : Option Value → Hp → Prop) (x : Int32), Wp 164 61 (ls) ([.int x]) h Q ↔ Q (some (.int x)) h) ∧
  (∀ (ls : Lo) (st : List Value) (h : Hp) (Q : Option Value → Hp → Prop)  (i : Nat), Wp 164 62 (some (.ref i) :: ls) (st) h Q ↔ Wp 164 63 (some (.ref i) :: ls) (.ref i :: st) h Q) ∧
  (∀ (ls : Lo) (st : List Value) (n sl : Nat) (C Z : Nat → Nat) (I : Nat → Nat → Int32) (L : Nat → Nat → Int64) (R : Nat → Nat → Nat) (Q : Option Value → Hp → Prop) (i : Nat), Wp 164 63 (ls) (.ref i :: st) (n, sl, C, Z, I, L, R) Q ↔ (C i = 11 ∧ Wp 164 66 (ls) (.ref (R i 15) :: st) (n, sl, C, Z, I, L, R) Q)) ∧
  (∀ (ls : Lo) (st : List Value) (h : Hp) (Q : Option Value → Hp → Prop) (l0 l1 : Option Value) (x : Int32), Wp 164 66 (l0 :: l1 :: some (.int x) :: ls) (st) h Q ↔ Wp 164 67 (l0 :: l1 :: some (.int x) :: ls) (.int x :: st) h Q) ∧
  (∀ (ls : Lo) (st : List Value) (n sl : Nat) (C Z : Nat → Nat) (I : Nat → Nat → Int32) (L : Nat → Nat → Int64) (R : Nat → Nat → Nat) (Q : Option Value → Hp → Prop) (i : Nat) (y : Int32), Wp 164 67 (ls) (.int y :: .ref i :: st) (n, sl, C, Z, I, L, R) Q ↔ ((inb y (Z i) = true ∧ C i = 21) ∧ Wp 164 68 (ls) (.int (I i (ix y)) :: st) (n, sl, C, Z, I, L, R) Q)) ∧
  (∀ (ls : Lo) (st : List Value) (h : Hp) (Q : Option Value → Hp → Prop) (x : Int32), Wp 164 68 (ls) (.int x :: st) h Q ↔ Br 164 74 71 ls st h Q (0 ≤ x)) ∧
  (∀ (ls : Lo) (st : List Value) (h : Hp) (Q : Option Value → Hp → Prop), Wp 164 71 (ls) (st) h Q ↔ Wp 164 73 (ls) (.int (-11) :: st) h Q) ∧
  (∀ (ls : Lo) (h : Hp) (Q : Option Value → Hp → Prop) (x : Int32), Wp 164 73 (ls) ([.int x]) h Q ↔ Q (some (.int x)) h) ∧
  (∀ (ls : Lo) (st : List Value) (h : Hp) (Q : Option Value → Hp → Prop)  (i : Nat), Wp 164 74 (some (.ref i) :: ls) (st) h Q ↔ Wp 164 75 (some (.ref i) :: ls) (.ref i :: st) h Q) ∧
  (∀ (ls : Lo) (st : List Value) (n sl : Nat) (C Z : Nat → Nat) (I : Nat → Nat → Int32) (L : Nat → Nat → Int64) (R : Nat → Nat → Nat) (Q : Option Value → Hp → Prop) (i : Nat), Wp 164 75 (ls) (.ref i :: st) (n, sl, C, Z, I, L, R) Q ↔ (C i = 11 ∧ Wp 164 78 (ls) (.ref (R i 2) :: st) (n, sl, C, Z, I, L, R) Q)) ∧
  (∀ (ls : Lo) (st : List Value) (h : Hp) (Q : Option Value → Hp → Prop) (l0 : Option Value) (x : Int32), Wp 164 78 (l0 :: some (.int x) :: ls) (st) h Q ↔ Wp 164 79 (l0 :: some (.int x) :: ls) (.int x :: st) h Q) ∧
  (∀ (ls : Lo) (st : List Value) (n sl : Nat) (C Z : Nat → Nat) (I : Nat → Nat → Int32) (L : Nat → Nat → Int64) (R : Nat → Nat → Nat) (Q : Option Value → Hp → Prop) (i : Nat) (y : Int32), Wp 164 79 (ls) (.int y :: .ref i :: st) (n, sl, C, Z, I, L, R) Q ↔ ((inb y (Z i) = true ∧ C i = 21) ∧ Wp 164 80 (ls) (.int (I i (ix y)) :: st) (n, sl, C, Z, I, L, R) Q)) ∧
  (∀ (ls : Lo) (st : List Value) (h : Hp) (Q : Option Value → Hp → Prop)  (i : Nat), Wp 164 80 (some (.ref i) :: ls) (st) h Q ↔ Wp 164 81 (some (.ref i) :: ls) (.ref i :: st) h Q) ∧
  (∀ (ls : Lo) (st : List Value) (n sl : Nat) (C Z : Nat → Nat) (I : Nat → Nat → Int32) (L : Nat → Nat → Int64) (R : Nat → Nat → Nat) (Q : Option Value → Hp → Prop) (i : Nat), Wp 164 81 (ls) (.ref i :: st) (n, sl, C, Z, I, L, R) Q ↔ (C i = 11 ∧ Wp 164 84 (ls) (.ref (R i 2) :: st) (n, sl, C, Z, I, L, R) Q)) ∧
  (∀ (ls : Lo) (st : List Value) (h : Hp) (Q : Option Value → Hp → Prop) (l0 : Option Value) (x : Int32), Wp 164 84 (l0 :: some (.int x) :: ls) (st) h Q ↔ Wp 164 85 (l0 :: some (.int x) :: ls) (.int x :: st) h Q) ∧
  (∀ (ls : Lo) (st : List Value) (n sl : Nat) (C Z : Nat → Nat) (I : Nat → Nat → Int32) (L : Nat → Nat → Int64) (R : Nat → Nat → Nat) (Q : Option Value → Hp → Prop) (i : Nat) (y : Int32), Wp 164 85 (ls) (.int y :: .ref i :: st) (n, sl, C, Z, I, L, R) Q ↔ ((inb y (Z i) = true ∧ C i = 21) ∧ Wp 164 86 (ls) (.int (I i (ix y)) :: st) (n, sl, C, Z, I, L, R) Q)) := ⟨by intro ls st n sl C Z I L R Q i y; exact e_iald d164_45,
  by intro ls st h Q x; exact e_if d164_46 (by decide) c_lt,
  by intro ls st h Q i; exact e_aload_n d164_49 rfl,
  by intro ls st n sl C Z I L R Q i; exact e_get (g := 10) (s := 15) (ty := 2) d164_50 rfl rfl (inG_ne (by decide)),
  by intro ls st h Q l0 l1 x; exact e_iload_n d164_53 rfl,
  by intro ls st n sl C Z I L R Q i y; exact e_iald d164_54,
  by intro ls st h Q l0 l1 l2 x; exact e_iload_n d164_55 rfl,
  by intro ls st h Q x y; exact e_ic d164_56 (by decide) c_eq,
  by intro ls st h Q; exact e_bipush d164_59 rfl,
  by intros; exact e_rI (p := True) d164_61 rfl,
  by intro ls st h Q i; exact e_aload_n d164_62 rfl,
  by intro ls st n sl C Z I L R Q i; exact e_get (g := 10) (s := 15) (ty := 2) d164_63 rfl rfl (inG_ne (by decide)),
  by intro ls st h Q l0 l1 x; exact e_iload_n d164_66 rfl,
  by intro ls st n sl C Z I L R Q i y; exact e_iald d164_67,
  by intro ls st h Q x; exact e_if d164_68 (by decide) c_ge,
  by intro ls st h Q; exact e_bipush d164_71 rfl,
  by intros; exact e_rI (p := True) d164_73 rfl,
  by intro ls st h Q i; exact e_aload_n d164_74 rfl,
  by intro ls st n sl C Z I L R Q i; exact e_get (g := 10) (s := 2) (ty := 2) d164_75 rfl rfl (inG_ne (by decide)),
  by intro ls st h Q l0 x; exact e_iload_n d164_78 rfl,
  by intro ls st n sl C Z I L R Q i y; exact e_iald d164_79,
  by intro ls st h Q i; exact e_aload_n d164_80 rfl,
  by intro ls st n sl C Z I L R Q i; exact e_get (g := 10) (s := 2) (ty := 2) d164_81 rfl rfl (inG_ne (by decide)),
  by intro ls st h Q l0 x; exact e_iload_n d164_84 rfl,
  by intro ls st n sl C Z I L R Q i y; exact e_iald d164_85⟩
set_option maxRecDepth 20000 in
theorem S164_2 : (∀ (ls : Lo) (st : List Value) (h : Hp) (Q : Option Value → Hp → Prop) (x y : Int32), Wp 164 86 (ls) (.int y :: .int x :: st) h Q ↔ Wp 164 87 (ls) (.int (x * y) :: st) h Q) ∧
  (∀ (ls : Lo) (st : List Value) (h : Hp) (Q : Option Value → Hp → Prop) (l0 l1 l2 l3 l4 l5 : Option Value) (x : Int32), Wp 164 87 (l0 :: l1 :: l2 :: l3 :: l4 :: l5 :: ls) (.int x :: st) h Q ↔ Wp 164 89 (l0 :: l1 :: l2 :: l3 :: clr l4 :: some (.int x) :: ls) (st) h Q) ∧
  (∀ (ls : Lo) (st : List Value) (h : Hp) (Q : Option Value → Hp → Prop) (l0 l1 l2 l3 l4 : Option Value) (x : Int32), Wp 164 89 (l0 :: l1 :: l2 :: l3 :: l4 :: some (.int x) :: ls) (st) h Q ↔ Wp 164 91 (l0 :: l1 :: l2 :: l3 :: l4 :: some (.int x) :: ls) (.int x :: st) h Q) ∧
  (∀ (ls : Lo) (st : List Value) (h : Hp) (Q : Option Value → Hp → Prop) (x : Int32), Wp 164 91 (ls) (.int x :: st) h Q ↔ Br 164 96 94 ls st h Q (¬ x = 0)) ∧
  (∀ (ls : Lo) (st : List Value) (h : Hp) (Q : Option Value → Hp → Prop), Wp 164 94 (ls) (st) h Q ↔ Wp 164 95 (ls) (.int (1) :: st) h Q) ∧
  (∀ (ls : Lo) (h : Hp) (Q : Option Value → Hp → Prop) (x : Int32), Wp 164 95 (ls) ([.int x]) h Q ↔ Q (some (.int x)) h) ∧
  (∀ (ls : Lo) (st : List Value) (h : Hp) (Q : Option Value → Hp → Prop) (l0 l1 l2 l3 : Option Value) (x : Int32), Wp 164 96 (l0 :: l1 :: l2 :: l3 :: some (.int x) :: ls) (st) h Q ↔ Wp 164 98 (l0 :: l1 :: l2 :: l3 :: some (.int x) :: ls) (.int x :: st) h Q) ∧
  (∀ (ls : Lo) (st : List Value) (h : Hp) (Q : Option Value → Hp → Prop) (x : Int32), Wp 164 98 (ls) (.int x :: st) h Q ↔ Br 164 115 101 ls st h Q (x < 0)) ∧
  (∀ (ls : Lo) (st : List Value) (h : Hp) (Q : Option Value → Hp → Prop) (l0 l1 l2 l3 : Option Value) (x : Int32), Wp 164 101 (l0 :: l1 :: l2 :: l3 :: some (.int x) :: ls) (st) h Q ↔ Wp 164 103 (l0 :: l1 :: l2 :: l3 :: some (.int x) :: ls) (.int x :: st) h Q) ∧
  (∀ (ls : Lo) (st : List Value) (h : Hp) (Q : Option Value → Hp → Prop)  (i : Nat), Wp 164 103 (some (.ref i) :: ls) (st) h Q ↔ Wp 164 104 (some (.ref i) :: ls) (.ref i :: st) h Q) ∧
  (∀ (ls : Lo) (st : List Value) (n sl : Nat) (C Z : Nat → Nat) (I : Nat → Nat → Int32) (L : Nat → Nat → Int64) (R : Nat → Nat → Nat) (Q : Option Value → Hp → Prop) (i : Nat), Wp 164 104 (ls) (.ref i :: st) (n, sl, C, Z, I, L, R) Q ↔ (C i = 11 ∧ Wp 164 107 (ls) (.ref (R i 16) :: st) (n, sl, C, Z, I, L, R) Q)) ∧
  (∀ (ls : Lo) (st : List Value) (h : Hp) (Q : Option Value → Hp → Prop) (l0 l1 : Option Value) (x : Int32), Wp 164 107 (l0 :: l1 :: some (.int x) :: ls) (st) h Q ↔ Wp 164 108 (l0 :: l1 :: some (.int x) :: ls) (.int x :: st) h Q) ∧
  (∀ (ls : Lo) (st : List Value) (n sl : Nat) (C Z : Nat → Nat) (I : Nat → Nat → Int32) (L : Nat → Nat → Int64) (R : Nat → Nat → Nat) (Q : Option Value → Hp → Prop) (i : Nat) (y : Int32), Wp 164 108 (ls) (.int y :: .ref i :: st) (n, sl, C, Z, I, L, R) Q ↔ ((inb y (Z i) = true ∧ C i = 21) ∧ Wp 164 109 (ls) (.int (I i (ix y)) :: st) (n, sl, C, Z, I, L, R) Q)) ∧
  (∀ (ls : Lo) (st : List Value) (h : Hp) (Q : Option Value → Hp → Prop) (l0 l1 l2 l3 l4 : Option Value) (x : Int32), Wp 164 109 (l0 :: l1 :: l2 :: l3 :: l4 :: some (.int x) :: ls) (st) h Q ↔ Wp 164 111 (l0 :: l1 :: l2 :: l3 :: l4 :: some (.int x) :: ls) (.int x :: st) h Q) ∧
  (∀ (ls : Lo) (st : List Value) (h : Hp) (Q : Option Value → Hp → Prop) (x y : Int32), Wp 164 111 (ls) (.int y :: .int x :: st) h Q ↔ Wp 164 112 (ls) (.int (x - y) :: st) h Q) ∧
  (∀ (ls : Lo) (st : List Value) (h : Hp) (Q : Option Value → Hp → Prop) (x y : Int32), Wp 164 112 (ls) (.int y :: .int x :: st) h Q ↔ Br 164 118 115 ls st h Q (x ≤ y)) ∧
  (∀ (ls : Lo) (st : List Value) (h : Hp) (Q : Option Value → Hp → Prop), Wp 164 115 (ls) (st) h Q ↔ Wp 164 117 (ls) (.int (-12) :: st) h Q) ∧
  (∀ (ls : Lo) (h : Hp) (Q : Option Value → Hp → Prop) (x : Int32), Wp 164 117 (ls) ([.int x]) h Q ↔ Q (some (.int x)) h) ∧
  (∀ (ls : Lo) (st : List Value) (h : Hp) (Q : Option Value → Hp → Prop), Wp 164 118 (ls) (st) h Q ↔ Wp 164 119 (ls) (.int (0) :: st) h Q) ∧
  (∀ (ls : Lo) (st : List Value) (h : Hp) (Q : Option Value → Hp → Prop) (l0 l1 l2 l3 l4 l5 l6 : Option Value) (x : Int32), Wp 164 119 (l0 :: l1 :: l2 :: l3 :: l4 :: l5 :: l6 :: ls) (.int x :: st) h Q ↔ Wp 164 121 (l0 :: l1 :: l2 :: l3 :: l4 :: clr l5 :: some (.int x) :: ls) (st) h Q) ∧
  (∀ (ls : Lo) (st : List Value) (h : Hp) (Q : Option Value → Hp → Prop) (l0 l1 l2 l3 l4 l5 : Option Value) (x : Int32), Wp 164 121 (l0 :: l1 :: l2 :: l3 :: l4 :: l5 :: some (.int x) :: ls) (st) h Q ↔ Wp 164 123 (l0 :: l1 :: l2 :: l3 :: l4 :: l5 :: some (.int x) :: ls) (.int x :: st) h Q) ∧
  (∀ (ls : Lo) (st : List Value) (h : Hp) (Q : Option Value → Hp → Prop) (l0 l1 l2 l3 l4 : Option Value) (x : Int32), Wp 164 123 (l0 :: l1 :: l2 :: l3 :: l4 :: some (.int x) :: ls) (st) h Q ↔ Wp 164 125 (l0 :: l1 :: l2 :: l3 :: l4 :: some (.int x) :: ls) (.int x :: st) h Q) ∧
  (∀ (ls : Lo) (st : List Value) (h : Hp) (Q : Option Value → Hp → Prop) (x y : Int32), Wp 164 125 (ls) (.int y :: .int x :: st) h Q ↔ Br 164 172 128 ls st h Q (y ≤ x)) ∧
  (∀ (ls : Lo) (st : List Value) (h : Hp) (Q : Option Value → Hp → Prop)  (i : Nat), Wp 164 128 (some (.ref i) :: ls) (st) h Q ↔ Wp 164 129 (some (.ref i) :: ls) (.ref i :: st) h Q) ∧
  (∀ (ls : Lo) (st : List Value) (n sl : Nat) (C Z : Nat → Nat) (I : Nat → Nat → Int32) (L : Nat → Nat → Int64) (R : Nat → Nat → Nat) (Q : Option Value → Hp → Prop) (i : Nat), Wp 164 129 (ls) (.ref i :: st) (n, sl, C, Z, I, L, R) Q ↔ (C i = 11 ∧ Wp 164 132 (ls) (.ref (R i 17) :: st) (n, sl, C, Z, I, L, R) Q)) := ⟨by intro ls st h Q x y; exact e_imul d164_86,
  by intro ls st h Q l0 l1 l2 l3 l4 l5 x; exact e_istore d164_87 rfl,
  by intro ls st h Q l0 l1 l2 l3 l4 x; exact e_iload d164_89 rfl,
  by intro ls st h Q x; exact e_if d164_91 (by decide) c_ne,
  by intro ls st h Q; exact e_iconst d164_94 rfl,
  by intros; exact e_rI (p := True) d164_95 rfl,
  by intro ls st h Q l0 l1 l2 l3 x; exact e_iload d164_96 rfl,
  by intro ls st h Q x; exact e_if d164_98 (by decide) c_lt,
  by intro ls st h Q l0 l1 l2 l3 x; exact e_iload d164_101 rfl,
  by intro ls st h Q i; exact e_aload_n d164_103 rfl,
  by intro ls st n sl C Z I L R Q i; exact e_get (g := 10) (s := 16) (ty := 2) d164_104 rfl rfl (inG_ne (by decide)),
  by intro ls st h Q l0 l1 x; exact e_iload_n d164_107 rfl,
  by intro ls st n sl C Z I L R Q i y; exact e_iald d164_108,
  by intro ls st h Q l0 l1 l2 l3 l4 x; exact e_iload d164_109 rfl,
  by intro ls st h Q x y; exact e_isub d164_111,
  by intro ls st h Q x y; exact e_ic d164_112 (by decide) c_le,
  by intro ls st h Q; exact e_bipush d164_115 rfl,
  by intros; exact e_rI (p := True) d164_117 rfl,
  by intro ls st h Q; exact e_iconst d164_118 rfl,
  by intro ls st h Q l0 l1 l2 l3 l4 l5 l6 x; exact e_istore d164_119 rfl,
  by intro ls st h Q l0 l1 l2 l3 l4 l5 x; exact e_iload d164_121 rfl,
  by intro ls st h Q l0 l1 l2 l3 l4 x; exact e_iload d164_123 rfl,
  by intro ls st h Q x y; exact e_ic d164_125 (by decide) c_ge,
  by intro ls st h Q i; exact e_aload_n d164_128 rfl,
  by intro ls st n sl C Z I L R Q i; exact e_get (g := 10) (s := 17) (ty := 2) d164_129 rfl rfl (inG_ne (by decide))⟩
set_option maxRecDepth 20000 in
theorem S164_3 : (∀ (ls : Lo) (st : List Value) (h : Hp) (Q : Option Value → Hp → Prop), Wp 164 132 (ls) (st) h Q ↔ Wp 164 134 (ls) (.int (40) :: st) h Q) ∧
  (∀ (ls : Lo) (st : List Value) (h : Hp) (Q : Option Value → Hp → Prop) (l0 l1 : Option Value) (x : Int32), Wp 164 134 (l0 :: l1 :: some (.int x) :: ls) (st) h Q ↔ Wp 164 135 (l0 :: l1 :: some (.int x) :: ls) (.int x :: st) h Q) ∧
  (∀ (ls : Lo) (st : List Value) (h : Hp) (Q : Option Value → Hp → Prop) (x y : Int32), Wp 164 135 (ls) (.int y :: .int x :: st) h Q ↔ Wp 164 136 (ls) (.int (x * y) :: st) h Q) ∧
  (∀ (ls : Lo) (st : List Value) (h : Hp) (Q : Option Value → Hp → Prop) (l0 l1 l2 l3 : Option Value) (x : Int32), Wp 164 136 (l0 :: l1 :: l2 :: l3 :: some (.int x) :: ls) (st) h Q ↔ Wp 164 138 (l0 :: l1 :: l2 :: l3 :: some (.int x) :: ls) (.int x :: st) h Q) ∧
  (∀ (ls : Lo) (st : List Value) (h : Hp) (Q : Option Value → Hp → Prop) (x y : Int32), Wp 164 138 (ls) (.int y :: .int x :: st) h Q ↔ Wp 164 139 (ls) (.int (x + y) :: st) h Q) ∧
  (∀ (ls : Lo) (st : List Value) (h : Hp) (Q : Option Value → Hp → Prop) (l0 l1 l2 l3 l4 l5 : Option Value) (x : Int32), Wp 164 139 (l0 :: l1 :: l2 :: l3 :: l4 :: l5 :: some (.int x) :: ls) (st) h Q ↔ Wp 164 141 (l0 :: l1 :: l2 :: l3 :: l4 :: l5 :: some (.int x) :: ls) (.int x :: st) h Q) ∧
  (∀ (ls : Lo) (st : List Value) (h : Hp) (Q : Option Value → Hp → Prop) (x y : Int32), Wp 164 141 (ls) (.int y :: .int x :: st) h Q ↔ Wp 164 142 (ls) (.int (x + y) :: st) h Q) ∧
  (∀ (ls : Lo) (st : List Value) (n sl : Nat) (C Z : Nat → Nat) (I : Nat → Nat → Int32) (L : Nat → Nat → Int64) (R : Nat → Nat → Nat) (Q : Option Value → Hp → Prop) (i : Nat) (y : Int32), Wp 164 142 (ls) (.int y :: .ref i :: st) (n, sl, C, Z, I, L, R) Q ↔ ((inb y (Z i) = true ∧ C i = 22) ∧ Wp 164 143 (ls) (.long (L i (ix y)) :: st) (n, sl, C, Z, I, L, R) Q)) ∧
  (∀ (ls : Lo) (st : List Value) (h : Hp) (Q : Option Value → Hp → Prop) (l0 l1 l2 l3 l4 l5 l6 l7 l8 : Option Value) (a : Int64), Wp 164 143 (l0 :: l1 :: l2 :: l3 :: l4 :: l5 :: l6 :: l7 :: l8 :: ls) (.long a :: st) h Q ↔ Wp 164 145 (l0 :: l1 :: l2 :: l3 :: l4 :: l5 :: clr l6 :: some (.long a) :: none :: ls) (st) h Q) ∧
  (∀ (ls : Lo) (st : List Value) (h : Hp) (Q : Option Value → Hp → Prop) (l0 l1 l2 l3 l4 l5 l6 : Option Value) (a : Int64), Wp 164 145 (l0 :: l1 :: l2 :: l3 :: l4 :: l5 :: l6 :: some (.long a) :: ls) (st) h Q ↔ Wp 164 147 (l0 :: l1 :: l2 :: l3 :: l4 :: l5 :: l6 :: some (.long a) :: ls) (.long a :: st) h Q) ∧
  (∀ (ls : Lo) (st : List Value) (h : Hp) (Q : Option Value → Hp → Prop), Wp 164 147 (ls) (st) h Q ↔ Wp 164 150 (ls) (.long (-3) :: st) h Q) ∧
  (∀ (ls : Lo) (st : List Value) (h : Hp) (Q : Option Value → Hp → Prop) (a b : Int64), Wp 164 150 (ls) (.long b :: .long a :: st) h Q ↔ Wp 164 151 (ls) (.int (lg_cmp a b) :: st) h Q) ∧
  (∀ (ls : Lo) (st : List Value) (h : Hp) (Q : Option Value → Hp → Prop) (x : Int32), Wp 164 151 (ls) (.int x :: st) h Q ↔ Br 164 163 154 ls st h Q (x < 0)) ∧
  (∀ (ls : Lo) (st : List Value) (h : Hp) (Q : Option Value → Hp → Prop) (l0 l1 l2 l3 l4 l5 l6 : Option Value) (a : Int64), Wp 164 154 (l0 :: l1 :: l2 :: l3 :: l4 :: l5 :: l6 :: some (.long a) :: ls) (st) h Q ↔ Wp 164 156 (l0 :: l1 :: l2 :: l3 :: l4 :: l5 :: l6 :: some (.long a) :: ls) (.long a :: st) h Q) ∧
  (∀ (ls : Lo) (st : List Value) (h : Hp) (Q : Option Value → Hp → Prop), Wp 164 156 (ls) (st) h Q ↔ Wp 164 159 (ls) (.long (3) :: st) h Q) ∧
  (∀ (ls : Lo) (st : List Value) (h : Hp) (Q : Option Value → Hp → Prop) (a b : Int64), Wp 164 159 (ls) (.long b :: .long a :: st) h Q ↔ Wp 164 160 (ls) (.int (lg_cmp a b) :: st) h Q) ∧
  (∀ (ls : Lo) (st : List Value) (h : Hp) (Q : Option Value → Hp → Prop) (x : Int32), Wp 164 160 (ls) (.int x :: st) h Q ↔ Br 164 166 163 ls st h Q (x ≤ 0)) ∧
  (∀ (ls : Lo) (st : List Value) (h : Hp) (Q : Option Value → Hp → Prop), Wp 164 163 (ls) (st) h Q ↔ Wp 164 165 (ls) (.int (-2) :: st) h Q) ∧
  (∀ (ls : Lo) (h : Hp) (Q : Option Value → Hp → Prop) (x : Int32), Wp 164 165 (ls) ([.int x]) h Q ↔ Q (some (.int x)) h) ∧
  (∀ (ls : Lo) (st : List Value) (h : Hp) (Q : Option Value → Hp → Prop) (l0 l1 l2 l3 l4 l5 : Option Value) (x : Int32), Wp 164 166 (l0 :: l1 :: l2 :: l3 :: l4 :: l5 :: some (.int x) :: ls) (st) h Q ↔ Wp 164 169 (l0 :: l1 :: l2 :: l3 :: l4 :: clr l5 :: some (.int (x + (1))) :: ls) (st) h Q) ∧
  (∀ (ls : Lo) (st : List Value) (h : Hp) (Q : Option Value → Hp → Prop), Wp 164 169 (ls) (st) h Q ↔ Wp 164 121 (ls) (st) h Q) ∧
  (∀ (ls : Lo) (st : List Value) (h : Hp) (Q : Option Value → Hp → Prop), Wp 164 172 (ls) (st) h Q ↔ Wp 164 173 (ls) (.int (0) :: st) h Q) ∧
  (∀ (ls : Lo) (st : List Value) (h : Hp) (Q : Option Value → Hp → Prop) (l0 l1 l2 l3 l4 l5 l6 : Option Value) (x : Int32), Wp 164 173 (l0 :: l1 :: l2 :: l3 :: l4 :: l5 :: l6 :: ls) (.int x :: st) h Q ↔ Wp 164 175 (l0 :: l1 :: l2 :: l3 :: l4 :: clr l5 :: some (.int x) :: ls) (st) h Q) ∧
  (∀ (ls : Lo) (st : List Value) (h : Hp) (Q : Option Value → Hp → Prop) (l0 l1 l2 l3 l4 l5 : Option Value) (x : Int32), Wp 164 175 (l0 :: l1 :: l2 :: l3 :: l4 :: l5 :: some (.int x) :: ls) (st) h Q ↔ Wp 164 177 (l0 :: l1 :: l2 :: l3 :: l4 :: l5 :: some (.int x) :: ls) (.int x :: st) h Q) ∧
  (∀ (ls : Lo) (st : List Value) (h : Hp) (Q : Option Value → Hp → Prop) (l0 l1 l2 l3 l4 : Option Value) (x : Int32), Wp 164 177 (l0 :: l1 :: l2 :: l3 :: l4 :: some (.int x) :: ls) (st) h Q ↔ Wp 164 179 (l0 :: l1 :: l2 :: l3 :: l4 :: some (.int x) :: ls) (.int x :: st) h Q) := ⟨by intro ls st h Q; exact e_bipush d164_132 rfl,
  by intro ls st h Q l0 l1 x; exact e_iload_n d164_134 rfl,
  by intro ls st h Q x y; exact e_imul d164_135,
  by intro ls st h Q l0 l1 l2 l3 x; exact e_iload d164_136 rfl,
  by intro ls st h Q x y; exact e_iadd d164_138,
  by intro ls st h Q l0 l1 l2 l3 l4 l5 x; exact e_iload d164_139 rfl,
  by intro ls st h Q x y; exact e_iadd d164_141,
  by intro ls st n sl C Z I L R Q i y; exact e_lald d164_142,
  by intro ls st h Q l0 l1 l2 l3 l4 l5 l6 l7 l8 a; exact e_lstore d164_143 rfl,
  by intro ls st h Q l0 l1 l2 l3 l4 l5 l6 a; exact e_lload d164_145 rfl,
  by intro ls st h Q; exact e_ldc2 (p := 1099) d164_147 rfl,
  by intro ls st h Q a b; exact e_lcmp d164_150,
  by intro ls st h Q x; exact e_if d164_151 (by decide) c_lt,
  by intro ls st h Q l0 l1 l2 l3 l4 l5 l6 a; exact e_lload d164_154 rfl,
  by intro ls st h Q; exact e_ldc2 (p := 1100) d164_156 rfl,
  by intro ls st h Q a b; exact e_lcmp d164_159,
  by intro ls st h Q x; exact e_if d164_160 (by decide) c_le,
  by intro ls st h Q; exact e_bipush d164_163 rfl,
  by intros; exact e_rI (p := True) d164_165 rfl,
  by intro ls st h Q l0 l1 l2 l3 l4 l5 x; exact e_iinc d164_166 rfl rfl rfl,
  by intro ls st h Q; exact e_goto d164_169 (by decide),
  by intro ls st h Q; exact e_iconst d164_172 rfl,
  by intro ls st h Q l0 l1 l2 l3 l4 l5 l6 x; exact e_istore d164_173 rfl,
  by intro ls st h Q l0 l1 l2 l3 l4 l5 x; exact e_iload d164_175 rfl,
  by intro ls st h Q l0 l1 l2 l3 l4 x; exact e_iload d164_177 rfl⟩
set_option maxRecDepth 20000 in
theorem S164_4 : (∀ (ls : Lo) (st : List Value) (h : Hp) (Q : Option Value → Hp → Prop) (x y : Int32), Wp 164 179 (ls) (.int y :: .int x :: st) h Q ↔ Br 164 235 182 ls st h Q (y ≤ x)) ∧
  (∀ (ls : Lo) (st : List Value) (h : Hp) (Q : Option Value → Hp → Prop)  (i : Nat), Wp 164 182 (some (.ref i) :: ls) (st) h Q ↔ Wp 164 183 (some (.ref i) :: ls) (.ref i :: st) h Q) ∧
  (∀ (ls : Lo) (st : List Value) (n sl : Nat) (C Z : Nat → Nat) (I : Nat → Nat → Int32) (L : Nat → Nat → Int64) (R : Nat → Nat → Nat) (Q : Option Value → Hp → Prop) (i : Nat), Wp 164 183 (ls) (.ref i :: st) (n, sl, C, Z, I, L, R) Q ↔ (C i = 11 ∧ Wp 164 186 (ls) (.ref (R i 5) :: st) (n, sl, C, Z, I, L, R) Q)) ∧
  (∀ (ls : Lo) (st : List Value) (h : Hp) (Q : Option Value → Hp → Prop), Wp 164 186 (ls) (st) h Q ↔ Wp 164 188 (ls) (.int (9) :: st) h Q) ∧
  (∀ (ls : Lo) (st : List Value) (h : Hp) (Q : Option Value → Hp → Prop) (l0 : Option Value) (x : Int32), Wp 164 188 (l0 :: some (.int x) :: ls) (st) h Q ↔ Wp 164 189 (l0 :: some (.int x) :: ls) (.int x :: st) h Q) ∧
  (∀ (ls : Lo) (st : List Value) (h : Hp) (Q : Option Value → Hp → Prop) (x y : Int32), Wp 164 189 (ls) (.int y :: .int x :: st) h Q ↔ Wp 164 190 (ls) (.int (x * y) :: st) h Q) ∧
  (∀ (ls : Lo) (st : List Value) (h : Hp) (Q : Option Value → Hp → Prop), Wp 164 190 (ls) (st) h Q ↔ Wp 164 191 (ls) (.int (3) :: st) h Q) ∧
  (∀ (ls : Lo) (st : List Value) (h : Hp) (Q : Option Value → Hp → Prop) (l0 l1 l2 l3 l4 l5 : Option Value) (x : Int32), Wp 164 191 (l0 :: l1 :: l2 :: l3 :: l4 :: l5 :: some (.int x) :: ls) (st) h Q ↔ Wp 164 193 (l0 :: l1 :: l2 :: l3 :: l4 :: l5 :: some (.int x) :: ls) (.int x :: st) h Q) ∧
  (∀ (ls : Lo) (st : List Value) (h : Hp) (Q : Option Value → Hp → Prop)  (i : Nat), Wp 164 193 (some (.ref i) :: ls) (st) h Q ↔ Wp 164 194 (some (.ref i) :: ls) (.ref i :: st) h Q) ∧
  (∀ (ls : Lo) (st : List Value) (n sl : Nat) (C Z : Nat → Nat) (I : Nat → Nat → Int32) (L : Nat → Nat → Int64) (R : Nat → Nat → Nat) (Q : Option Value → Hp → Prop) (i : Nat), Wp 164 194 (ls) (.ref i :: st) (n, sl, C, Z, I, L, R) Q ↔ (C i = 11 ∧ Wp 164 197 (ls) (.ref (R i 2) :: st) (n, sl, C, Z, I, L, R) Q)) ∧
  (∀ (ls : Lo) (st : List Value) (h : Hp) (Q : Option Value → Hp → Prop) (l0 : Option Value) (x : Int32), Wp 164 197 (l0 :: some (.int x) :: ls) (st) h Q ↔ Wp 164 198 (l0 :: some (.int x) :: ls) (.int x :: st) h Q) ∧
  (∀ (ls : Lo) (st : List Value) (n sl : Nat) (C Z : Nat → Nat) (I : Nat → Nat → Int32) (L : Nat → Nat → Int64) (R : Nat → Nat → Nat) (Q : Option Value → Hp → Prop) (i : Nat) (y : Int32), Wp 164 198 (ls) (.int y :: .ref i :: st) (n, sl, C, Z, I, L, R) Q ↔ ((inb y (Z i) = true ∧ C i = 21) ∧ Wp 164 199 (ls) (.int (I i (ix y)) :: st) (n, sl, C, Z, I, L, R) Q)) ∧
  (∀ (ls : Lo) (st : List Value) (h : Hp) (Q : Option Value → Hp → Prop) (x y : Int32), Wp 164 199 (ls) (.int y :: .int x :: st) h Q ↔ (¬ y = 0 ∧ Wp 164 200 (ls) (.int (x / y) :: st) h Q)) ∧
  (∀ (ls : Lo) (st : List Value) (h : Hp) (Q : Option Value → Hp → Prop) (x y : Int32), Wp 164 200 (ls) (.int y :: .int x :: st) h Q ↔ Wp 164 201 (ls) (.int (x * y) :: st) h Q) ∧
  (∀ (ls : Lo) (st : List Value) (h : Hp) (Q : Option Value → Hp → Prop) (x y : Int32), Wp 164 201 (ls) (.int y :: .int x :: st) h Q ↔ Wp 164 202 (ls) (.int (x + y) :: st) h Q) ∧
  (∀ (ls : Lo) (st : List Value) (h : Hp) (Q : Option Value → Hp → Prop) (l0 l1 l2 l3 l4 l5 : Option Value) (x : Int32), Wp 164 202 (l0 :: l1 :: l2 :: l3 :: l4 :: l5 :: some (.int x) :: ls) (st) h Q ↔ Wp 164 204 (l0 :: l1 :: l2 :: l3 :: l4 :: l5 :: some (.int x) :: ls) (.int x :: st) h Q) ∧
  (∀ (ls : Lo) (st : List Value) (h : Hp) (Q : Option Value → Hp → Prop)  (i : Nat), Wp 164 204 (some (.ref i) :: ls) (st) h Q ↔ Wp 164 205 (some (.ref i) :: ls) (.ref i :: st) h Q) ∧
  (∀ (ls : Lo) (st : List Value) (n sl : Nat) (C Z : Nat → Nat) (I : Nat → Nat → Int32) (L : Nat → Nat → Int64) (R : Nat → Nat → Nat) (Q : Option Value → Hp → Prop) (i : Nat), Wp 164 205 (ls) (.ref i :: st) (n, sl, C, Z, I, L, R) Q ↔ (C i = 11 ∧ Wp 164 208 (ls) (.ref (R i 2) :: st) (n, sl, C, Z, I, L, R) Q)) ∧
  (∀ (ls : Lo) (st : List Value) (h : Hp) (Q : Option Value → Hp → Prop) (l0 : Option Value) (x : Int32), Wp 164 208 (l0 :: some (.int x) :: ls) (st) h Q ↔ Wp 164 209 (l0 :: some (.int x) :: ls) (.int x :: st) h Q) ∧
  (∀ (ls : Lo) (st : List Value) (n sl : Nat) (C Z : Nat → Nat) (I : Nat → Nat → Int32) (L : Nat → Nat → Int64) (R : Nat → Nat → Nat) (Q : Option Value → Hp → Prop) (i : Nat) (y : Int32), Wp 164 209 (ls) (.int y :: .ref i :: st) (n, sl, C, Z, I, L, R) Q ↔ ((inb y (Z i) = true ∧ C i = 21) ∧ Wp 164 210 (ls) (.int (I i (ix y)) :: st) (n, sl, C, Z, I, L, R) Q)) ∧
  (∀ (ls : Lo) (st : List Value) (h : Hp) (Q : Option Value → Hp → Prop) (x y : Int32), Wp 164 210 (ls) (.int y :: .int x :: st) h Q ↔ (¬ y = 0 ∧ Wp 164 211 (ls) (.int (x - x / y * y) :: st) h Q)) ∧
  (∀ (ls : Lo) (st : List Value) (h : Hp) (Q : Option Value → Hp → Prop) (x y : Int32), Wp 164 211 (ls) (.int y :: .int x :: st) h Q ↔ Wp 164 212 (ls) (.int (x + y) :: st) h Q) ∧
  (∀ (ls : Lo) (st : List Value) (h : Hp) (Q : Option Value → Hp → Prop)  (i : Nat), Wp 164 212 (some (.ref i) :: ls) (st) h Q ↔ Wp 164 213 (some (.ref i) :: ls) (.ref i :: st) h Q) ∧
  (∀ (ls : Lo) (st : List Value) (n sl : Nat) (C Z : Nat → Nat) (I : Nat → Nat → Int32) (L : Nat → Nat → Int64) (R : Nat → Nat → Nat) (Q : Option Value → Hp → Prop) (i : Nat), Wp 164 213 (ls) (.ref i :: st) (n, sl, C, Z, I, L, R) Q ↔ (C i = 11 ∧ Wp 164 216 (ls) (.ref (R i 17) :: st) (n, sl, C, Z, I, L, R) Q)) ∧
  (∀ (ls : Lo) (st : List Value) (h : Hp) (Q : Option Value → Hp → Prop), Wp 164 216 (ls) (st) h Q ↔ Wp 164 218 (ls) (.int (40) :: st) h Q) := ⟨by intro ls st h Q x y; exact e_ic d164_179 (by decide) c_ge,
  by intro ls st h Q i; exact e_aload_n d164_182 rfl,
  by intro ls st n sl C Z I L R Q i; exact e_get (g := 10) (s := 5) (ty := 2) d164_183 rfl rfl (inG_ne (by decide)),
  by intro ls st h Q; exact e_bipush d164_186 rfl,
  by intro ls st h Q l0 x; exact e_iload_n d164_188 rfl,
  by intro ls st h Q x y; exact e_imul d164_189,
  by intro ls st h Q; exact e_iconst d164_190 rfl,
  by intro ls st h Q l0 l1 l2 l3 l4 l5 x; exact e_iload d164_191 rfl,
  by intro ls st h Q i; exact e_aload_n d164_193 rfl,
  by intro ls st n sl C Z I L R Q i; exact e_get (g := 10) (s := 2) (ty := 2) d164_194 rfl rfl (inG_ne (by decide)),
  by intro ls st h Q l0 x; exact e_iload_n d164_197 rfl,
  by intro ls st n sl C Z I L R Q i y; exact e_iald d164_198,
  by intro ls st h Q x y; exact e_idiv d164_199,
  by intro ls st h Q x y; exact e_imul d164_200,
  by intro ls st h Q x y; exact e_iadd d164_201,
  by intro ls st h Q l0 l1 l2 l3 l4 l5 x; exact e_iload d164_202 rfl,
  by intro ls st h Q i; exact e_aload_n d164_204 rfl,
  by intro ls st n sl C Z I L R Q i; exact e_get (g := 10) (s := 2) (ty := 2) d164_205 rfl rfl (inG_ne (by decide)),
  by intro ls st h Q l0 x; exact e_iload_n d164_208 rfl,
  by intro ls st n sl C Z I L R Q i y; exact e_iald d164_209,
  by intro ls st h Q x y; exact e_irem d164_210,
  by intro ls st h Q x y; exact e_iadd d164_211,
  by intro ls st h Q i; exact e_aload_n d164_212 rfl,
  by intro ls st n sl C Z I L R Q i; exact e_get (g := 10) (s := 17) (ty := 2) d164_213 rfl rfl (inG_ne (by decide)),
  by intro ls st h Q; exact e_bipush d164_216 rfl⟩
set_option maxRecDepth 20000 in
theorem S164_5 : (∀ (ls : Lo) (st : List Value) (h : Hp) (Q : Option Value → Hp → Prop) (l0 l1 : Option Value) (x : Int32), Wp 164 218 (l0 :: l1 :: some (.int x) :: ls) (st) h Q ↔ Wp 164 219 (l0 :: l1 :: some (.int x) :: ls) (.int x :: st) h Q) ∧
  (∀ (ls : Lo) (st : List Value) (h : Hp) (Q : Option Value → Hp → Prop) (x y : Int32), Wp 164 219 (ls) (.int y :: .int x :: st) h Q ↔ Wp 164 220 (ls) (.int (x * y) :: st) h Q) ∧
  (∀ (ls : Lo) (st : List Value) (h : Hp) (Q : Option Value → Hp → Prop) (l0 l1 l2 l3 : Option Value) (x : Int32), Wp 164 220 (l0 :: l1 :: l2 :: l3 :: some (.int x) :: ls) (st) h Q ↔ Wp 164 222 (l0 :: l1 :: l2 :: l3 :: some (.int x) :: ls) (.int x :: st) h Q) ∧
  (∀ (ls : Lo) (st : List Value) (h : Hp) (Q : Option Value → Hp → Prop) (x y : Int32), Wp 164 222 (ls) (.int y :: .int x :: st) h Q ↔ Wp 164 223 (ls) (.int (x + y) :: st) h Q) ∧
  (∀ (ls : Lo) (st : List Value) (h : Hp) (Q : Option Value → Hp → Prop) (l0 l1 l2 l3 l4 l5 : Option Value) (x : Int32), Wp 164 223 (l0 :: l1 :: l2 :: l3 :: l4 :: l5 :: some (.int x) :: ls) (st) h Q ↔ Wp 164 225 (l0 :: l1 :: l2 :: l3 :: l4 :: l5 :: some (.int x) :: ls) (.int x :: st) h Q) ∧
  (∀ (ls : Lo) (st : List Value) (h : Hp) (Q : Option Value → Hp → Prop) (x y : Int32), Wp 164 225 (ls) (.int y :: .int x :: st) h Q ↔ Wp 164 226 (ls) (.int (x + y) :: st) h Q) ∧
  (∀ (ls : Lo) (st : List Value) (n sl : Nat) (C Z : Nat → Nat) (I : Nat → Nat → Int32) (L : Nat → Nat → Int64) (R : Nat → Nat → Nat) (Q : Option Value → Hp → Prop) (i : Nat) (y : Int32), Wp 164 226 (ls) (.int y :: .ref i :: st) (n, sl, C, Z, I, L, R) Q ↔ ((inb y (Z i) = true ∧ C i = 22) ∧ Wp 164 227 (ls) (.long (L i (ix y)) :: st) (n, sl, C, Z, I, L, R) Q)) ∧
  (∀ (ls : Lo) (st : List Value) (h : Hp) (Q : Option Value → Hp → Prop) (a : Int64), Wp 164 227 (ls) (.long a :: st) h Q ↔ Wp 164 228 (ls) (.int a.toInt32 :: st) h Q) ∧
  (∀ (ls : Lo) (st : List Value) (n sl : Nat) (C Z : Nat → Nat) (I : Nat → Nat → Int32) (L : Nat → Nat → Int64) (R : Nat → Nat → Nat) (Q : Option Value → Hp → Prop) (i : Nat) (x y : Int32), Wp 164 228 (ls) (.int x :: .int y :: .ref i :: st) (n, sl, C, Z, I, L, R) Q ↔ ((inb y (Z i) = true ∧ C i = 21) ∧ Wp 164 229 (ls) (st) (n, sl, C, Z, u2 I i (ix y) x, L, R) Q)) ∧
  (∀ (ls : Lo) (st : List Value) (h : Hp) (Q : Option Value → Hp → Prop) (l0 l1 l2 l3 l4 l5 : Option Value) (x : Int32), Wp 164 229 (l0 :: l1 :: l2 :: l3 :: l4 :: l5 :: some (.int x) :: ls) (st) h Q ↔ Wp 164 232 (l0 :: l1 :: l2 :: l3 :: l4 :: clr l5 :: some (.int (x + (1))) :: ls) (st) h Q) ∧
  (∀ (ls : Lo) (st : List Value) (h : Hp) (Q : Option Value → Hp → Prop), Wp 164 232 (ls) (st) h Q ↔ Wp 164 175 (ls) (st) h Q) ∧
  (∀ (ls : Lo) (st : List Value) (h : Hp) (Q : Option Value → Hp → Prop), Wp 164 235 (ls) (st) h Q ↔ Wp 164 236 (ls) (.int (1) :: st) h Q) ∧
  (∀ (ls : Lo) (h : Hp) (Q : Option Value → Hp → Prop) (x : Int32), Wp 164 236 (ls) ([.int x]) h Q ↔ Q (some (.int x)) h) := ⟨by intro ls st h Q l0 l1 x; exact e_iload_n d164_218 rfl,
  by intro ls st h Q x y; exact e_imul d164_219,
  by intro ls st h Q l0 l1 l2 l3 x; exact e_iload d164_220 rfl,
  by intro ls st h Q x y; exact e_iadd d164_222,
  by intro ls st h Q l0 l1 l2 l3 l4 l5 x; exact e_iload d164_223 rfl,
  by intro ls st h Q x y; exact e_iadd d164_225,
  by intro ls st n sl C Z I L R Q i y; exact e_lald d164_226,
  by intro ls st h Q a; exact e_l2i d164_227,
  by intro ls st n sl C Z I L R Q i x y; exact e_iast d164_228,
  by intro ls st h Q l0 l1 l2 l3 l4 l5 x; exact e_iinc d164_229 rfl rfl rfl,
  by intro ls st h Q; exact e_goto d164_232 (by decide),
  by intro ls st h Q; exact e_iconst d164_235 rfl,
  by intros; exact e_rI (p := True) d164_236 rfl⟩
theorem d165_0 : decode (byt 165) 0 = .ok (.iload_n 1, 1) := by decide +kernel
theorem d165_1 : decode (byt 165) 1 = .ok (.invokestatic 238, 3) := by decide +kernel
theorem d165_4 : decode (byt 165) 4 = .ok (.ifCond .eq 10, 3) := by decide +kernel
theorem d165_7 : decode (byt 165) 7 = .ok (.iload_n 3, 1) := by decide +kernel
theorem d165_8 : decode (byt 165) 8 = .ok (.invokestatic 238, 3) := by decide +kernel
theorem d165_11 : decode (byt 165) 11 = .ok (.ifCond .ne 6, 3) := by decide +kernel
theorem d165_14 : decode (byt 165) 14 = .ok (.bipush (-2), 2) := by decide +kernel
theorem d165_16 : decode (byt 165) 16 = .ok (.ireturn, 1) := by decide +kernel
theorem d165_17 : decode (byt 165) 17 = .ok (.aload_n 0, 1) := by decide +kernel
theorem d165_18 : decode (byt 165) 18 = .ok (.getfield 47, 3) := by decide +kernel
theorem d165_21 : decode (byt 165) 21 = .ok (.iload_n 1, 1) := by decide +kernel
theorem d165_22 : decode (byt 165) 22 = .ok (.iaload, 1) := by decide +kernel
theorem d165_23 : decode (byt 165) 23 = .ok (.ifCond .lt 12, 3) := by decide +kernel
theorem d165_26 : decode (byt 165) 26 = .ok (.aload_n 0, 1) := by decide +kernel
theorem d165_27 : decode (byt 165) 27 = .ok (.getfield 47, 3) := by decide +kernel
theorem d165_30 : decode (byt 165) 30 = .ok (.iload_n 3, 1) := by decide +kernel
theorem d165_31 : decode (byt 165) 31 = .ok (.iaload, 1) := by decide +kernel
theorem d165_32 : decode (byt 165) 32 = .ok (.ifCond .ge 6, 3) := by decide +kernel
theorem d165_35 : decode (byt 165) 35 = .ok (.bipush (-11), 2) := by decide +kernel
theorem d165_37 : decode (byt 165) 37 = .ok (.ireturn, 1) := by decide +kernel
theorem d165_38 : decode (byt 165) 38 = .ok (.aload_n 0, 1) := by decide +kernel
theorem d165_39 : decode (byt 165) 39 = .ok (.getfield 47, 3) := by decide +kernel
theorem d165_42 : decode (byt 165) 42 = .ok (.iload_n 1, 1) := by decide +kernel
theorem d165_43 : decode (byt 165) 43 = .ok (.iaload, 1) := by decide +kernel
theorem d165_44 : decode (byt 165) 44 = .ok (.aload_n 0, 1) := by decide +kernel
theorem d165_45 : decode (byt 165) 45 = .ok (.getfield 47, 3) := by decide +kernel
theorem d165_48 : decode (byt 165) 48 = .ok (.iload_n 3, 1) := by decide +kernel
theorem d165_49 : decode (byt 165) 49 = .ok (.iaload, 1) := by decide +kernel
theorem d165_50 : decode (byt 165) 50 = .ok (.if_icmp .eq 6, 3) := by decide +kernel
theorem d165_53 : decode (byt 165) 53 = .ok (.bipush (-13), 2) := by decide +kernel
theorem d165_55 : decode (byt 165) 55 = .ok (.ireturn, 1) := by decide +kernel
theorem d165_56 : decode (byt 165) 56 = .ok (.iload 5, 2) := by decide +kernel
theorem d165_58 : decode (byt 165) 58 = .ok (.ifCond .lt 39, 3) := by decide +kernel
theorem d165_61 : decode (byt 165) 61 = .ok (.iload_n 2, 1) := by decide +kernel
theorem d165_62 : decode (byt 165) 62 = .ok (.ifCond .lt 35, 3) := by decide +kernel
theorem d165_65 : decode (byt 165) 65 = .ok (.iload 4, 2) := by decide +kernel
theorem d165_67 : decode (byt 165) 67 = .ok (.ifCond .lt 30, 3) := by decide +kernel
theorem d165_70 : decode (byt 165) 70 = .ok (.iload_n 2, 1) := by decide +kernel
theorem d165_71 : decode (byt 165) 71 = .ok (.aload_n 0, 1) := by decide +kernel
theorem d165_72 : decode (byt 165) 72 = .ok (.getfield 50, 3) := by decide +kernel
theorem d165_75 : decode (byt 165) 75 = .ok (.iload_n 1, 1) := by decide +kernel
theorem d165_76 : decode (byt 165) 76 = .ok (.iaload, 1) := by decide +kernel
theorem d165_77 : decode (byt 165) 77 = .ok (.iload 5, 2) := by decide +kernel
theorem d165_79 : decode (byt 165) 79 = .ok (.isub, 1) := by decide +kernel
theorem d165_80 : decode (byt 165) 80 = .ok (.if_icmp .gt 17, 3) := by decide +kernel
theorem d165_83 : decode (byt 165) 83 = .ok (.iload 4, 2) := by decide +kernel
theorem d165_85 : decode (byt 165) 85 = .ok (.aload_n 0, 1) := by decide +kernel
theorem d165_86 : decode (byt 165) 86 = .ok (.getfield 50, 3) := by decide +kernel
theorem d165_89 : decode (byt 165) 89 = .ok (.iload_n 3, 1) := by decide +kernel
theorem d165_90 : decode (byt 165) 90 = .ok (.iaload, 1) := by decide +kernel
theorem d165_91 : decode (byt 165) 91 = .ok (.iload 5, 2) := by decide +kernel
theorem d165_93 : decode (byt 165) 93 = .ok (.isub, 1) := by decide +kernel
theorem d165_94 : decode (byt 165) 94 = .ok (.if_icmp .le 6, 3) := by decide +kernel
theorem d165_97 : decode (byt 165) 97 = .ok (.bipush (-12), 2) := by decide +kernel
theorem d165_99 : decode (byt 165) 99 = .ok (.ireturn, 1) := by decide +kernel
theorem d165_100 : decode (byt 165) 100 = .ok (.iconst 0, 1) := by decide +kernel
theorem d165_101 : decode (byt 165) 101 = .ok (.istore 6, 2) := by decide +kernel
theorem d165_103 : decode (byt 165) 103 = .ok (.iload 6, 2) := by decide +kernel
theorem d165_105 : decode (byt 165) 105 = .ok (.iload 5, 2) := by decide +kernel
theorem d165_107 : decode (byt 165) 107 = .ok (.if_icmp .ge 30, 3) := by decide +kernel
theorem d165_110 : decode (byt 165) 110 = .ok (.aload_n 0, 1) := by decide +kernel
theorem d165_111 : decode (byt 165) 111 = .ok (.getfield 56, 3) := by decide +kernel
theorem d165_114 : decode (byt 165) 114 = .ok (.iload 6, 2) := by decide +kernel
theorem d165_116 : decode (byt 165) 116 = .ok (.aload_n 0, 1) := by decide +kernel
theorem d165_117 : decode (byt 165) 117 = .ok (.getfield 53, 3) := by decide +kernel
theorem d165_120 : decode (byt 165) 120 = .ok (.bipush 40, 2) := by decide +kernel
theorem d165_122 : decode (byt 165) 122 = .ok (.iload_n 1, 1) := by decide +kernel
theorem d165_123 : decode (byt 165) 123 = .ok (.imul, 1) := by decide +kernel
theorem d165_124 : decode (byt 165) 124 = .ok (.iload_n 2, 1) := by decide +kernel
theorem d165_125 : decode (byt 165) 125 = .ok (.iadd, 1) := by decide +kernel
theorem d165_126 : decode (byt 165) 126 = .ok (.iload 6, 2) := by decide +kernel
theorem d165_128 : decode (byt 165) 128 = .ok (.iadd, 1) := by decide +kernel
theorem d165_129 : decode (byt 165) 129 = .ok (.laload, 1) := by decide +kernel
theorem d165_130 : decode (byt 165) 130 = .ok (.lastore, 1) := by decide +kernel
theorem d165_131 : decode (byt 165) 131 = .ok (.iinc 6 1, 3) := by decide +kernel
theorem d165_134 : decode (byt 165) 134 = .ok (.goto (-31), 3) := by decide +kernel
theorem d165_137 : decode (byt 165) 137 = .ok (.iconst 0, 1) := by decide +kernel
theorem d165_138 : decode (byt 165) 138 = .ok (.istore 6, 2) := by decide +kernel
theorem d165_140 : decode (byt 165) 140 = .ok (.iload 6, 2) := by decide +kernel
theorem d165_142 : decode (byt 165) 142 = .ok (.iload 5, 2) := by decide +kernel
theorem d165_144 : decode (byt 165) 144 = .ok (.if_icmp .ge 31, 3) := by decide +kernel
theorem d165_147 : decode (byt 165) 147 = .ok (.aload_n 0, 1) := by decide +kernel
theorem d165_148 : decode (byt 165) 148 = .ok (.getfield 53, 3) := by decide +kernel
theorem d165_151 : decode (byt 165) 151 = .ok (.bipush 40, 2) := by decide +kernel
theorem d165_153 : decode (byt 165) 153 = .ok (.iload_n 3, 1) := by decide +kernel
theorem d165_154 : decode (byt 165) 154 = .ok (.imul, 1) := by decide +kernel
theorem d165_155 : decode (byt 165) 155 = .ok (.iload 4, 2) := by decide +kernel
theorem d165_157 : decode (byt 165) 157 = .ok (.iadd, 1) := by decide +kernel
theorem d165_158 : decode (byt 165) 158 = .ok (.iload 6, 2) := by decide +kernel
theorem d165_160 : decode (byt 165) 160 = .ok (.iadd, 1) := by decide +kernel
theorem d165_161 : decode (byt 165) 161 = .ok (.aload_n 0, 1) := by decide +kernel
theorem d165_162 : decode (byt 165) 162 = .ok (.getfield 56, 3) := by decide +kernel
theorem d165_165 : decode (byt 165) 165 = .ok (.iload 6, 2) := by decide +kernel
theorem d165_167 : decode (byt 165) 167 = .ok (.laload, 1) := by decide +kernel
theorem d165_168 : decode (byt 165) 168 = .ok (.lastore, 1) := by decide +kernel
theorem d165_169 : decode (byt 165) 169 = .ok (.iinc 6 1, 3) := by decide +kernel
theorem d165_172 : decode (byt 165) 172 = .ok (.goto (-32), 3) := by decide +kernel
theorem d165_175 : decode (byt 165) 175 = .ok (.iload 5, 2) := by decide +kernel
theorem d165_177 : decode (byt 165) 177 = .ok (.ireturn, 1) := by decide +kernel
set_option maxRecDepth 20000 in
theorem S165_0 : (∀ (ls : Lo) (st : List Value) (h : Hp) (Q : Option Value → Hp → Prop) (l0 : Option Value) (x : Int32), Wp 165 0 (l0 :: some (.int x) :: ls) (st) h Q ↔ Wp 165 1 (l0 :: some (.int x) :: ls) (.int x :: st) h Q) ∧
  (∀ (ls : Lo) (st : List Value) (h : Hp) (Q : Option Value → Hp → Prop) (x0 : Int32), Wp 165 1 (ls) (.int x0 :: st) h Q ↔ (wsum st ≤ 8 ∧ Call 161 [some (.int x0)] h 165 4 ls st Q)) ∧
  (∀ (ls : Lo) (st : List Value) (h : Hp) (Q : Option Value → Hp → Prop) (x : Int32), Wp 165 4 (ls) (.int x :: st) h Q ↔ Br 165 14 7 ls st h Q (x = 0)) ∧
  (∀ (ls : Lo) (st : List Value) (h : Hp) (Q : Option Value → Hp → Prop) (l0 l1 l2 : Option Value) (x : Int32), Wp 165 7 (l0 :: l1 :: l2 :: some (.int x) :: ls) (st) h Q ↔ Wp 165 8 (l0 :: l1 :: l2 :: some (.int x) :: ls) (.int x :: st) h Q) ∧
  (∀ (ls : Lo) (st : List Value) (h : Hp) (Q : Option Value → Hp → Prop) (x0 : Int32), Wp 165 8 (ls) (.int x0 :: st) h Q ↔ (wsum st ≤ 8 ∧ Call 161 [some (.int x0)] h 165 11 ls st Q)) ∧
  (∀ (ls : Lo) (st : List Value) (h : Hp) (Q : Option Value → Hp → Prop) (x : Int32), Wp 165 11 (ls) (.int x :: st) h Q ↔ Br 165 17 14 ls st h Q (¬ x = 0)) ∧
  (∀ (ls : Lo) (st : List Value) (h : Hp) (Q : Option Value → Hp → Prop), Wp 165 14 (ls) (st) h Q ↔ Wp 165 16 (ls) (.int (-2) :: st) h Q) ∧
  (∀ (ls : Lo) (h : Hp) (Q : Option Value → Hp → Prop) (x : Int32), Wp 165 16 (ls) ([.int x]) h Q ↔ Q (some (.int x)) h) ∧
  (∀ (ls : Lo) (st : List Value) (h : Hp) (Q : Option Value → Hp → Prop)  (i : Nat), Wp 165 17 (some (.ref i) :: ls) (st) h Q ↔ Wp 165 18 (some (.ref i) :: ls) (.ref i :: st) h Q) ∧
  (∀ (ls : Lo) (st : List Value) (n sl : Nat) (C Z : Nat → Nat) (I : Nat → Nat → Int32) (L : Nat → Nat → Int64) (R : Nat → Nat → Nat) (Q : Option Value → Hp → Prop) (i : Nat), Wp 165 18 (ls) (.ref i :: st) (n, sl, C, Z, I, L, R) Q ↔ (C i = 11 ∧ Wp 165 21 (ls) (.ref (R i 15) :: st) (n, sl, C, Z, I, L, R) Q)) ∧
  (∀ (ls : Lo) (st : List Value) (h : Hp) (Q : Option Value → Hp → Prop) (l0 : Option Value) (x : Int32), Wp 165 21 (l0 :: some (.int x) :: ls) (st) h Q ↔ Wp 165 22 (l0 :: some (.int x) :: ls) (.int x :: st) h Q) ∧
  (∀ (ls : Lo) (st : List Value) (n sl : Nat) (C Z : Nat → Nat) (I : Nat → Nat → Int32) (L : Nat → Nat → Int64) (R : Nat → Nat → Nat) (Q : Option Value → Hp → Prop) (i : Nat) (y : Int32), Wp 165 22 (ls) (.int y :: .ref i :: st) (n, sl, C, Z, I, L, R) Q ↔ ((inb y (Z i) = true ∧ C i = 21) ∧ Wp 165 23 (ls) (.int (I i (ix y)) :: st) (n, sl, C, Z, I, L, R) Q)) ∧
  (∀ (ls : Lo) (st : List Value) (h : Hp) (Q : Option Value → Hp → Prop) (x : Int32), Wp 165 23 (ls) (.int x :: st) h Q ↔ Br 165 35 26 ls st h Q (x < 0)) ∧
  (∀ (ls : Lo) (st : List Value) (h : Hp) (Q : Option Value → Hp → Prop)  (i : Nat), Wp 165 26 (some (.ref i) :: ls) (st) h Q ↔ Wp 165 27 (some (.ref i) :: ls) (.ref i :: st) h Q) ∧
  (∀ (ls : Lo) (st : List Value) (n sl : Nat) (C Z : Nat → Nat) (I : Nat → Nat → Int32) (L : Nat → Nat → Int64) (R : Nat → Nat → Nat) (Q : Option Value → Hp → Prop) (i : Nat), Wp 165 27 (ls) (.ref i :: st) (n, sl, C, Z, I, L, R) Q ↔ (C i = 11 ∧ Wp 165 30 (ls) (.ref (R i 15) :: st) (n, sl, C, Z, I, L, R) Q)) ∧
  (∀ (ls : Lo) (st : List Value) (h : Hp) (Q : Option Value → Hp → Prop) (l0 l1 l2 : Option Value) (x : Int32), Wp 165 30 (l0 :: l1 :: l2 :: some (.int x) :: ls) (st) h Q ↔ Wp 165 31 (l0 :: l1 :: l2 :: some (.int x) :: ls) (.int x :: st) h Q) ∧
  (∀ (ls : Lo) (st : List Value) (n sl : Nat) (C Z : Nat → Nat) (I : Nat → Nat → Int32) (L : Nat → Nat → Int64) (R : Nat → Nat → Nat) (Q : Option Value → Hp → Prop) (i : Nat) (y : Int32), Wp 165 31 (ls) (.int y :: .ref i :: st) (n, sl, C, Z, I, L, R) Q ↔ ((inb y (Z i) = true ∧ C i = 21) ∧ Wp 165 32 (ls) (.int (I i (ix y)) :: st) (n, sl, C, Z, I, L, R) Q)) ∧
  (∀ (ls : Lo) (st : List Value) (h : Hp) (Q : Option Value → Hp → Prop) (x : Int32), Wp 165 32 (ls) (.int x :: st) h Q ↔ Br 165 38 35 ls st h Q (0 ≤ x)) ∧
  (∀ (ls : Lo) (st : List Value) (h : Hp) (Q : Option Value → Hp → Prop), Wp 165 35 (ls) (st) h Q ↔ Wp 165 37 (ls) (.int (-11) :: st) h Q) ∧
  (∀ (ls : Lo) (h : Hp) (Q : Option Value → Hp → Prop) (x : Int32), Wp 165 37 (ls) ([.int x]) h Q ↔ Q (some (.int x)) h) ∧
  (∀ (ls : Lo) (st : List Value) (h : Hp) (Q : Option Value → Hp → Prop)  (i : Nat), Wp 165 38 (some (.ref i) :: ls) (st) h Q ↔ Wp 165 39 (some (.ref i) :: ls) (.ref i :: st) h Q) ∧
  (∀ (ls : Lo) (st : List Value) (n sl : Nat) (C Z : Nat → Nat) (I : Nat → Nat → Int32) (L : Nat → Nat → Int64) (R : Nat → Nat → Nat) (Q : Option Value → Hp → Prop) (i : Nat), Wp 165 39 (ls) (.ref i :: st) (n, sl, C, Z, I, L, R) Q ↔ (C i = 11 ∧ Wp 165 42 (ls) (.ref (R i 15) :: st) (n, sl, C, Z, I, L, R) Q)) ∧
  (∀ (ls : Lo) (st : List Value) (h : Hp) (Q : Option Value → Hp → Prop) (l0 : Option Value) (x : Int32), Wp 165 42 (l0 :: some (.int x) :: ls) (st) h Q ↔ Wp 165 43 (l0 :: some (.int x) :: ls) (.int x :: st) h Q) ∧
  (∀ (ls : Lo) (st : List Value) (n sl : Nat) (C Z : Nat → Nat) (I : Nat → Nat → Int32) (L : Nat → Nat → Int64) (R : Nat → Nat → Nat) (Q : Option Value → Hp → Prop) (i : Nat) (y : Int32), Wp 165 43 (ls) (.int y :: .ref i :: st) (n, sl, C, Z, I, L, R) Q ↔ ((inb y (Z i) = true ∧ C i = 21) ∧ Wp 165 44 (ls) (.int (I i (ix y)) :: st) (n, sl, C, Z, I, L, R) Q)) ∧
  (∀ (ls : Lo) (st : List Value) (h : Hp) (Q : Option Value → Hp → Prop)  (i : Nat), Wp 165 44 (some (.ref i) :: ls) (st) h Q ↔ Wp 165 45 (some (.ref i) :: ls) (.ref i :: st) h Q) := ⟨by intro ls st h Q l0 x; exact e_iload_n d165_0 rfl,
  by intro ls st h Q x0; exact e_is (k2 := 161) (as := [.int x0]) d165_1 rfl (by decide) rfl rfl (by decide +kernel) (Nat.le_of_ble_eq_true rfl) rfl,
  by intro ls st h Q x; exact e_if d165_4 (by decide) c_eq,
  by intro ls st h Q l0 l1 l2 x; exact e_iload_n d165_7 rfl,
  by intro ls st h Q x0; exact e_is (k2 := 161) (as := [.int x0]) d165_8 rfl (by decide) rfl rfl (by decide +kernel) (Nat.le_of_ble_eq_true rfl) rfl,
  by intro ls st h Q x; exact e_if d165_11 (by decide) c_ne,
  by intro ls st h Q; exact e_bipush d165_14 rfl,
  by intros; exact e_rI (p := True) d165_16 rfl,
  by intro ls st h Q i; exact e_aload_n d165_17 rfl,
  by intro ls st n sl C Z I L R Q i; exact e_get (g := 10) (s := 15) (ty := 2) d165_18 rfl rfl (inG_ne (by decide)),
  by intro ls st h Q l0 x; exact e_iload_n d165_21 rfl,
  by intro ls st n sl C Z I L R Q i y; exact e_iald d165_22,
  by intro ls st h Q x; exact e_if d165_23 (by decide) c_lt,
  by intro ls st h Q i; exact e_aload_n d165_26 rfl,
  by intro ls st n sl C Z I L R Q i; exact e_get (g := 10) (s := 15) (ty := 2) d165_27 rfl rfl (inG_ne (by decide)),
  by intro ls st h Q l0 l1 l2 x; exact e_iload_n d165_30 rfl,
  by intro ls st n sl C Z I L R Q i y; exact e_iald d165_31,
  by intro ls st h Q x; exact e_if d165_32 (by decide) c_ge,
  by intro ls st h Q; exact e_bipush d165_35 rfl,
  by intros; exact e_rI (p := True) d165_37 rfl,
  by intro ls st h Q i; exact e_aload_n d165_38 rfl,
  by intro ls st n sl C Z I L R Q i; exact e_get (g := 10) (s := 15) (ty := 2) d165_39 rfl rfl (inG_ne (by decide)),
  by intro ls st h Q l0 x; exact e_iload_n d165_42 rfl,
  by intro ls st n sl C Z I L R Q i y; exact e_iald d165_43,
  by intro ls st h Q i; exact e_aload_n d165_44 rfl⟩
set_option maxRecDepth 20000 in
theorem S165_1 : (∀ (ls : Lo) (st : List Value) (n sl : Nat) (C Z : Nat → Nat) (I : Nat → Nat → Int32) (L : Nat → Nat → Int64) (R : Nat → Nat → Nat) (Q : Option Value → Hp → Prop) (i : Nat), Wp 165 45 (ls) (.ref i :: st) (n, sl, C, Z, I, L, R) Q ↔ (C i = 11 ∧ Wp 165 48 (ls) (.ref (R i 15) :: st) (n, sl, C, Z, I, L, R) Q)) ∧
  (∀ (ls : Lo) (st : List Value) (h : Hp) (Q : Option Value → Hp → Prop) (l0 l1 l2 : Option Value) (x : Int32), Wp 165 48 (l0 :: l1 :: l2 :: some (.int x) :: ls) (st) h Q ↔ Wp 165 49 (l0 :: l1 :: l2 :: some (.int x) :: ls) (.int x :: st) h Q) ∧
  (∀ (ls : Lo) (st : List Value) (n sl : Nat) (C Z : Nat → Nat) (I : Nat → Nat → Int32) (L : Nat → Nat → Int64) (R : Nat → Nat → Nat) (Q : Option Value → Hp → Prop) (i : Nat) (y : Int32), Wp 165 49 (ls) (.int y :: .ref i :: st) (n, sl, C, Z, I, L, R) Q ↔ ((inb y (Z i) = true ∧ C i = 21) ∧ Wp 165 50 (ls) (.int (I i (ix y)) :: st) (n, sl, C, Z, I, L, R) Q)) ∧
  (∀ (ls : Lo) (st : List Value) (h : Hp) (Q : Option Value → Hp → Prop) (x y : Int32), Wp 165 50 (ls) (.int y :: .int x :: st) h Q ↔ Br 165 56 53 ls st h Q (x = y)) ∧
  (∀ (ls : Lo) (st : List Value) (h : Hp) (Q : Option Value → Hp → Prop), Wp 165 53 (ls) (st) h Q ↔ Wp 165 55 (ls) (.int (-13) :: st) h Q) ∧
  (∀ (ls : Lo) (h : Hp) (Q : Option Value → Hp → Prop) (x : Int32), Wp 165 55 (ls) ([.int x]) h Q ↔ Q (some (.int x)) h) ∧
  (∀ (ls : Lo) (st : List Value) (h : Hp) (Q : Option Value → Hp → Prop) (l0 l1 l2 l3 l4 : Option Value) (x : Int32), Wp 165 56 (l0 :: l1 :: l2 :: l3 :: l4 :: some (.int x) :: ls) (st) h Q ↔ Wp 165 58 (l0 :: l1 :: l2 :: l3 :: l4 :: some (.int x) :: ls) (.int x :: st) h Q) ∧
  (∀ (ls : Lo) (st : List Value) (h : Hp) (Q : Option Value → Hp → Prop) (x : Int32), Wp 165 58 (ls) (.int x :: st) h Q ↔ Br 165 97 61 ls st h Q (x < 0)) ∧
  (∀ (ls : Lo) (st : List Value) (h : Hp) (Q : Option Value → Hp → Prop) (l0 l1 : Option Value) (x : Int32), Wp 165 61 (l0 :: l1 :: some (.int x) :: ls) (st) h Q ↔ Wp 165 62 (l0 :: l1 :: some (.int x) :: ls) (.int x :: st) h Q) ∧
  (∀ (ls : Lo) (st : List Value) (h : Hp) (Q : Option Value → Hp → Prop) (x : Int32), Wp 165 62 (ls) (.int x :: st) h Q ↔ Br 165 97 65 ls st h Q (x < 0)) ∧
  (∀ (ls : Lo) (st : List Value) (h : Hp) (Q : Option Value → Hp → Prop) (l0 l1 l2 l3 : Option Value) (x : Int32), Wp 165 65 (l0 :: l1 :: l2 :: l3 :: some (.int x) :: ls) (st) h Q ↔ Wp 165 67 (l0 :: l1 :: l2 :: l3 :: some (.int x) :: ls) (.int x :: st) h Q) ∧
  (∀ (ls : Lo) (st : List Value) (h : Hp) (Q : Option Value → Hp → Prop) (x : Int32), Wp 165 67 (ls) (.int x :: st) h Q ↔ Br 165 97 70 ls st h Q (x < 0)) ∧
  (∀ (ls : Lo) (st : List Value) (h : Hp) (Q : Option Value → Hp → Prop) (l0 l1 : Option Value) (x : Int32), Wp 165 70 (l0 :: l1 :: some (.int x) :: ls) (st) h Q ↔ Wp 165 71 (l0 :: l1 :: some (.int x) :: ls) (.int x :: st) h Q) ∧
  (∀ (ls : Lo) (st : List Value) (h : Hp) (Q : Option Value → Hp → Prop)  (i : Nat), Wp 165 71 (some (.ref i) :: ls) (st) h Q ↔ Wp 165 72 (some (.ref i) :: ls) (.ref i :: st) h Q) ∧
  (∀ (ls : Lo) (st : List Value) (n sl : Nat) (C Z : Nat → Nat) (I : Nat → Nat → Int32) (L : Nat → Nat → Int64) (R : Nat → Nat → Nat) (Q : Option Value → Hp → Prop) (i : Nat), Wp 165 72 (ls) (.ref i :: st) (n, sl, C, Z, I, L, R) Q ↔ (C i = 11 ∧ Wp 165 75 (ls) (.ref (R i 16) :: st) (n, sl, C, Z, I, L, R) Q)) ∧
  (∀ (ls : Lo) (st : List Value) (h : Hp) (Q : Option Value → Hp → Prop) (l0 : Option Value) (x : Int32), Wp 165 75 (l0 :: some (.int x) :: ls) (st) h Q ↔ Wp 165 76 (l0 :: some (.int x) :: ls) (.int x :: st) h Q) ∧
  (∀ (ls : Lo) (st : List Value) (n sl : Nat) (C Z : Nat → Nat) (I : Nat → Nat → Int32) (L : Nat → Nat → Int64) (R : Nat → Nat → Nat) (Q : Option Value → Hp → Prop) (i : Nat) (y : Int32), Wp 165 76 (ls) (.int y :: .ref i :: st) (n, sl, C, Z, I, L, R) Q ↔ ((inb y (Z i) = true ∧ C i = 21) ∧ Wp 165 77 (ls) (.int (I i (ix y)) :: st) (n, sl, C, Z, I, L, R) Q)) ∧
  (∀ (ls : Lo) (st : List Value) (h : Hp) (Q : Option Value → Hp → Prop) (l0 l1 l2 l3 l4 : Option Value) (x : Int32), Wp 165 77 (l0 :: l1 :: l2 :: l3 :: l4 :: some (.int x) :: ls) (st) h Q ↔ Wp 165 79 (l0 :: l1 :: l2 :: l3 :: l4 :: some (.int x) :: ls) (.int x :: st) h Q) ∧
  (∀ (ls : Lo) (st : List Value) (h : Hp) (Q : Option Value → Hp → Prop) (x y : Int32), Wp 165 79 (ls) (.int y :: .int x :: st) h Q ↔ Wp 165 80 (ls) (.int (x - y) :: st) h Q) ∧
  (∀ (ls : Lo) (st : List Value) (h : Hp) (Q : Option Value → Hp → Prop) (x y : Int32), Wp 165 80 (ls) (.int y :: .int x :: st) h Q ↔ Br 165 97 83 ls st h Q (y < x)) ∧
  (∀ (ls : Lo) (st : List Value) (h : Hp) (Q : Option Value → Hp → Prop) (l0 l1 l2 l3 : Option Value) (x : Int32), Wp 165 83 (l0 :: l1 :: l2 :: l3 :: some (.int x) :: ls) (st) h Q ↔ Wp 165 85 (l0 :: l1 :: l2 :: l3 :: some (.int x) :: ls) (.int x :: st) h Q) ∧
  (∀ (ls : Lo) (st : List Value) (h : Hp) (Q : Option Value → Hp → Prop)  (i : Nat), Wp 165 85 (some (.ref i) :: ls) (st) h Q ↔ Wp 165 86 (some (.ref i) :: ls) (.ref i :: st) h Q) ∧
  (∀ (ls : Lo) (st : List Value) (n sl : Nat) (C Z : Nat → Nat) (I : Nat → Nat → Int32) (L : Nat → Nat → Int64) (R : Nat → Nat → Nat) (Q : Option Value → Hp → Prop) (i : Nat), Wp 165 86 (ls) (.ref i :: st) (n, sl, C, Z, I, L, R) Q ↔ (C i = 11 ∧ Wp 165 89 (ls) (.ref (R i 16) :: st) (n, sl, C, Z, I, L, R) Q)) ∧
  (∀ (ls : Lo) (st : List Value) (h : Hp) (Q : Option Value → Hp → Prop) (l0 l1 l2 : Option Value) (x : Int32), Wp 165 89 (l0 :: l1 :: l2 :: some (.int x) :: ls) (st) h Q ↔ Wp 165 90 (l0 :: l1 :: l2 :: some (.int x) :: ls) (.int x :: st) h Q) ∧
  (∀ (ls : Lo) (st : List Value) (n sl : Nat) (C Z : Nat → Nat) (I : Nat → Nat → Int32) (L : Nat → Nat → Int64) (R : Nat → Nat → Nat) (Q : Option Value → Hp → Prop) (i : Nat) (y : Int32), Wp 165 90 (ls) (.int y :: .ref i :: st) (n, sl, C, Z, I, L, R) Q ↔ ((inb y (Z i) = true ∧ C i = 21) ∧ Wp 165 91 (ls) (.int (I i (ix y)) :: st) (n, sl, C, Z, I, L, R) Q)) := ⟨by intro ls st n sl C Z I L R Q i; exact e_get (g := 10) (s := 15) (ty := 2) d165_45 rfl rfl (inG_ne (by decide)),
  by intro ls st h Q l0 l1 l2 x; exact e_iload_n d165_48 rfl,
  by intro ls st n sl C Z I L R Q i y; exact e_iald d165_49,
  by intro ls st h Q x y; exact e_ic d165_50 (by decide) c_eq,
  by intro ls st h Q; exact e_bipush d165_53 rfl,
  by intros; exact e_rI (p := True) d165_55 rfl,
  by intro ls st h Q l0 l1 l2 l3 l4 x; exact e_iload d165_56 rfl,
  by intro ls st h Q x; exact e_if d165_58 (by decide) c_lt,
  by intro ls st h Q l0 l1 x; exact e_iload_n d165_61 rfl,
  by intro ls st h Q x; exact e_if d165_62 (by decide) c_lt,
  by intro ls st h Q l0 l1 l2 l3 x; exact e_iload d165_65 rfl,
  by intro ls st h Q x; exact e_if d165_67 (by decide) c_lt,
  by intro ls st h Q l0 l1 x; exact e_iload_n d165_70 rfl,
  by intro ls st h Q i; exact e_aload_n d165_71 rfl,
  by intro ls st n sl C Z I L R Q i; exact e_get (g := 10) (s := 16) (ty := 2) d165_72 rfl rfl (inG_ne (by decide)),
  by intro ls st h Q l0 x; exact e_iload_n d165_75 rfl,
  by intro ls st n sl C Z I L R Q i y; exact e_iald d165_76,
  by intro ls st h Q l0 l1 l2 l3 l4 x; exact e_iload d165_77 rfl,
  by intro ls st h Q x y; exact e_isub d165_79,
  by intro ls st h Q x y; exact e_ic d165_80 (by decide) c_gt,
  by intro ls st h Q l0 l1 l2 l3 x; exact e_iload d165_83 rfl,
  by intro ls st h Q i; exact e_aload_n d165_85 rfl,
  by intro ls st n sl C Z I L R Q i; exact e_get (g := 10) (s := 16) (ty := 2) d165_86 rfl rfl (inG_ne (by decide)),
  by intro ls st h Q l0 l1 l2 x; exact e_iload_n d165_89 rfl,
  by intro ls st n sl C Z I L R Q i y; exact e_iald d165_90⟩
set_option maxRecDepth 20000 in
theorem S165_2 : (∀ (ls : Lo) (st : List Value) (h : Hp) (Q : Option Value → Hp → Prop) (l0 l1 l2 l3 l4 : Option Value) (x : Int32), Wp 165 91 (l0 :: l1 :: l2 :: l3 :: l4 :: some (.int x) :: ls) (st) h Q ↔ Wp 165 93 (l0 :: l1 :: l2 :: l3 :: l4 :: some (.int x) :: ls) (.int x :: st) h Q) ∧
  (∀ (ls : Lo) (st : List Value) (h : Hp) (Q : Option Value → Hp → Prop) (x y : Int32), Wp 165 93 (ls) (.int y :: .int x :: st) h Q ↔ Wp 165 94 (ls) (.int (x - y) :: st) h Q) ∧
  (∀ (ls : Lo) (st : List Value) (h : Hp) (Q : Option Value → Hp → Prop) (x y : Int32), Wp 165 94 (ls) (.int y :: .int x :: st) h Q ↔ Br 165 100 97 ls st h Q (x ≤ y)) ∧
  (∀ (ls : Lo) (st : List Value) (h : Hp) (Q : Option Value → Hp → Prop), Wp 165 97 (ls) (st) h Q ↔ Wp 165 99 (ls) (.int (-12) :: st) h Q) ∧
  (∀ (ls : Lo) (h : Hp) (Q : Option Value → Hp → Prop) (x : Int32), Wp 165 99 (ls) ([.int x]) h Q ↔ Q (some (.int x)) h) ∧
  (∀ (ls : Lo) (st : List Value) (h : Hp) (Q : Option Value → Hp → Prop), Wp 165 100 (ls) (st) h Q ↔ Wp 165 101 (ls) (.int (0) :: st) h Q) ∧
  (∀ (ls : Lo) (st : List Value) (h : Hp) (Q : Option Value → Hp → Prop) (l0 l1 l2 l3 l4 l5 l6 : Option Value) (x : Int32), Wp 165 101 (l0 :: l1 :: l2 :: l3 :: l4 :: l5 :: l6 :: ls) (.int x :: st) h Q ↔ Wp 165 103 (l0 :: l1 :: l2 :: l3 :: l4 :: clr l5 :: some (.int x) :: ls) (st) h Q) ∧
  (∀ (ls : Lo) (st : List Value) (h : Hp) (Q : Option Value → Hp → Prop) (l0 l1 l2 l3 l4 l5 : Option Value) (x : Int32), Wp 165 103 (l0 :: l1 :: l2 :: l3 :: l4 :: l5 :: some (.int x) :: ls) (st) h Q ↔ Wp 165 105 (l0 :: l1 :: l2 :: l3 :: l4 :: l5 :: some (.int x) :: ls) (.int x :: st) h Q) ∧
  (∀ (ls : Lo) (st : List Value) (h : Hp) (Q : Option Value → Hp → Prop) (l0 l1 l2 l3 l4 : Option Value) (x : Int32), Wp 165 105 (l0 :: l1 :: l2 :: l3 :: l4 :: some (.int x) :: ls) (st) h Q ↔ Wp 165 107 (l0 :: l1 :: l2 :: l3 :: l4 :: some (.int x) :: ls) (.int x :: st) h Q) ∧
  (∀ (ls : Lo) (st : List Value) (h : Hp) (Q : Option Value → Hp → Prop) (x y : Int32), Wp 165 107 (ls) (.int y :: .int x :: st) h Q ↔ Br 165 137 110 ls st h Q (y ≤ x)) ∧
  (∀ (ls : Lo) (st : List Value) (h : Hp) (Q : Option Value → Hp → Prop)  (i : Nat), Wp 165 110 (some (.ref i) :: ls) (st) h Q ↔ Wp 165 111 (some (.ref i) :: ls) (.ref i :: st) h Q) ∧
  (∀ (ls : Lo) (st : List Value) (n sl : Nat) (C Z : Nat → Nat) (I : Nat → Nat → Int32) (L : Nat → Nat → Int64) (R : Nat → Nat → Nat) (Q : Option Value → Hp → Prop) (i : Nat), Wp 165 111 (ls) (.ref i :: st) (n, sl, C, Z, I, L, R) Q ↔ (C i = 11 ∧ Wp 165 114 (ls) (.ref (R i 18) :: st) (n, sl, C, Z, I, L, R) Q)) ∧
  (∀ (ls : Lo) (st : List Value) (h : Hp) (Q : Option Value → Hp → Prop) (l0 l1 l2 l3 l4 l5 : Option Value) (x : Int32), Wp 165 114 (l0 :: l1 :: l2 :: l3 :: l4 :: l5 :: some (.int x) :: ls) (st) h Q ↔ Wp 165 116 (l0 :: l1 :: l2 :: l3 :: l4 :: l5 :: some (.int x) :: ls) (.int x :: st) h Q) ∧
  (∀ (ls : Lo) (st : List Value) (h : Hp) (Q : Option Value → Hp → Prop)  (i : Nat), Wp 165 116 (some (.ref i) :: ls) (st) h Q ↔ Wp 165 117 (some (.ref i) :: ls) (.ref i :: st) h Q) ∧
  (∀ (ls : Lo) (st : List Value) (n sl : Nat) (C Z : Nat → Nat) (I : Nat → Nat → Int32) (L : Nat → Nat → Int64) (R : Nat → Nat → Nat) (Q : Option Value → Hp → Prop) (i : Nat), Wp 165 117 (ls) (.ref i :: st) (n, sl, C, Z, I, L, R) Q ↔ (C i = 11 ∧ Wp 165 120 (ls) (.ref (R i 17) :: st) (n, sl, C, Z, I, L, R) Q)) ∧
  (∀ (ls : Lo) (st : List Value) (h : Hp) (Q : Option Value → Hp → Prop), Wp 165 120 (ls) (st) h Q ↔ Wp 165 122 (ls) (.int (40) :: st) h Q) ∧
  (∀ (ls : Lo) (st : List Value) (h : Hp) (Q : Option Value → Hp → Prop) (l0 : Option Value) (x : Int32), Wp 165 122 (l0 :: some (.int x) :: ls) (st) h Q ↔ Wp 165 123 (l0 :: some (.int x) :: ls) (.int x :: st) h Q) ∧
  (∀ (ls : Lo) (st : List Value) (h : Hp) (Q : Option Value → Hp → Prop) (x y : Int32), Wp 165 123 (ls) (.int y :: .int x :: st) h Q ↔ Wp 165 124 (ls) (.int (x * y) :: st) h Q) ∧
  (∀ (ls : Lo) (st : List Value) (h : Hp) (Q : Option Value → Hp → Prop) (l0 l1 : Option Value) (x : Int32), Wp 165 124 (l0 :: l1 :: some (.int x) :: ls) (st) h Q ↔ Wp 165 125 (l0 :: l1 :: some (.int x) :: ls) (.int x :: st) h Q) ∧
  (∀ (ls : Lo) (st : List Value) (h : Hp) (Q : Option Value → Hp → Prop) (x y : Int32), Wp 165 125 (ls) (.int y :: .int x :: st) h Q ↔ Wp 165 126 (ls) (.int (x + y) :: st) h Q) ∧
  (∀ (ls : Lo) (st : List Value) (h : Hp) (Q : Option Value → Hp → Prop) (l0 l1 l2 l3 l4 l5 : Option Value) (x : Int32), Wp 165 126 (l0 :: l1 :: l2 :: l3 :: l4 :: l5 :: some (.int x) :: ls) (st) h Q ↔ Wp 165 128 (l0 :: l1 :: l2 :: l3 :: l4 :: l5 :: some (.int x) :: ls) (.int x :: st) h Q) ∧
  (∀ (ls : Lo) (st : List Value) (h : Hp) (Q : Option Value → Hp → Prop) (x y : Int32), Wp 165 128 (ls) (.int y :: .int x :: st) h Q ↔ Wp 165 129 (ls) (.int (x + y) :: st) h Q) ∧
  (∀ (ls : Lo) (st : List Value) (n sl : Nat) (C Z : Nat → Nat) (I : Nat → Nat → Int32) (L : Nat → Nat → Int64) (R : Nat → Nat → Nat) (Q : Option Value → Hp → Prop) (i : Nat) (y : Int32), Wp 165 129 (ls) (.int y :: .ref i :: st) (n, sl, C, Z, I, L, R) Q ↔ ((inb y (Z i) = true ∧ C i = 22) ∧ Wp 165 130 (ls) (.long (L i (ix y)) :: st) (n, sl, C, Z, I, L, R) Q)) ∧
  (∀ (ls : Lo) (st : List Value) (n sl : Nat) (C Z : Nat → Nat) (I : Nat → Nat → Int32) (L : Nat → Nat → Int64) (R : Nat → Nat → Nat) (Q : Option Value → Hp → Prop) (i : Nat) (y : Int32) (a : Int64), Wp 165 130 (ls) (.long a :: .int y :: .ref i :: st) (n, sl, C, Z, I, L, R) Q ↔ ((inb y (Z i) = true ∧ C i = 22) ∧ Wp 165 131 (ls) (st) (n, sl, C, Z, I, u2 L i (ix y) a, R) Q)) ∧
  (∀ (ls : Lo) (st : List Value) (h : Hp) (Q : Option Value → Hp → Prop) (l0 l1 l2 l3 l4 l5 : Option Value) (x : Int32), Wp 165 131 (l0 :: l1 :: l2 :: l3 :: l4 :: l5 :: some (.int x) :: ls) (st) h Q ↔ Wp 165 134 (l0 :: l1 :: l2 :: l3 :: l4 :: clr l5 :: some (.int (x + (1))) :: ls) (st) h Q) := ⟨by intro ls st h Q l0 l1 l2 l3 l4 x; exact e_iload d165_91 rfl,
  by intro ls st h Q x y; exact e_isub d165_93,
  by intro ls st h Q x y; exact e_ic d165_94 (by decide) c_le,
  by intro ls st h Q; exact e_bipush d165_97 rfl,
  by intros; exact e_rI (p := True) d165_99 rfl,
  by intro ls st h Q; exact e_iconst d165_100 rfl,
  by intro ls st h Q l0 l1 l2 l3 l4 l5 l6 x; exact e_istore d165_101 rfl,
  by intro ls st h Q l0 l1 l2 l3 l4 l5 x; exact e_iload d165_103 rfl,
  by intro ls st h Q l0 l1 l2 l3 l4 x; exact e_iload d165_105 rfl,
  by intro ls st h Q x y; exact e_ic d165_107 (by decide) c_ge,
  by intro ls st h Q i; exact e_aload_n d165_110 rfl,
  by intro ls st n sl C Z I L R Q i; exact e_get (g := 10) (s := 18) (ty := 2) d165_111 rfl rfl (inG_ne (by decide)),
  by intro ls st h Q l0 l1 l2 l3 l4 l5 x; exact e_iload d165_114 rfl,
  by intro ls st h Q i; exact e_aload_n d165_116 rfl,
  by intro ls st n sl C Z I L R Q i; exact e_get (g := 10) (s := 17) (ty := 2) d165_117 rfl rfl (inG_ne (by decide)),
  by intro ls st h Q; exact e_bipush d165_120 rfl,
  by intro ls st h Q l0 x; exact e_iload_n d165_122 rfl,
  by intro ls st h Q x y; exact e_imul d165_123,
  by intro ls st h Q l0 l1 x; exact e_iload_n d165_124 rfl,
  by intro ls st h Q x y; exact e_iadd d165_125,
  by intro ls st h Q l0 l1 l2 l3 l4 l5 x; exact e_iload d165_126 rfl,
  by intro ls st h Q x y; exact e_iadd d165_128,
  by intro ls st n sl C Z I L R Q i y; exact e_lald d165_129,
  by intro ls st n sl C Z I L R Q i y a; exact e_last d165_130,
  by intro ls st h Q l0 l1 l2 l3 l4 l5 x; exact e_iinc d165_131 rfl rfl rfl⟩
set_option maxRecDepth 20000 in
theorem S165_3 : (∀ (ls : Lo) (st : List Value) (h : Hp) (Q : Option Value → Hp → Prop), Wp 165 134 (ls) (st) h Q ↔ Wp 165 103 (ls) (st) h Q) ∧
  (∀ (ls : Lo) (st : List Value) (h : Hp) (Q : Option Value → Hp → Prop), Wp 165 137 (ls) (st) h Q ↔ Wp 165 138 (ls) (.int (0) :: st) h Q) ∧
  (∀ (ls : Lo) (st : List Value) (h : Hp) (Q : Option Value → Hp → Prop) (l0 l1 l2 l3 l4 l5 l6 : Option Value) (x : Int32), Wp 165 138 (l0 :: l1 :: l2 :: l3 :: l4 :: l5 :: l6 :: ls) (.int x :: st) h Q ↔ Wp 165 140 (l0 :: l1 :: l2 :: l3 :: l4 :: clr l5 :: some (.int x) :: ls) (st) h Q) ∧
  (∀ (ls : Lo) (st : List Value) (h : Hp) (Q : Option Value → Hp → Prop) (l0 l1 l2 l3 l4 l5 : Option Value) (x : Int32), Wp 165 140 (l0 :: l1 :: l2 :: l3 :: l4 :: l5 :: some (.int x) :: ls) (st) h Q ↔ Wp 165 142 (l0 :: l1 :: l2 :: l3 :: l4 :: l5 :: some (.int x) :: ls) (.int x :: st) h Q) ∧
  (∀ (ls : Lo) (st : List Value) (h : Hp) (Q : Option Value → Hp → Prop) (l0 l1 l2 l3 l4 : Option Value) (x : Int32), Wp 165 142 (l0 :: l1 :: l2 :: l3 :: l4 :: some (.int x) :: ls) (st) h Q ↔ Wp 165 144 (l0 :: l1 :: l2 :: l3 :: l4 :: some (.int x) :: ls) (.int x :: st) h Q) ∧
  (∀ (ls : Lo) (st : List Value) (h : Hp) (Q : Option Value → Hp → Prop) (x y : Int32), Wp 165 144 (ls) (.int y :: .int x :: st) h Q ↔ Br 165 175 147 ls st h Q (y ≤ x)) ∧
  (∀ (ls : Lo) (st : List Value) (h : Hp) (Q : Option Value → Hp → Prop)  (i : Nat), Wp 165 147 (some (.ref i) :: ls) (st) h Q ↔ Wp 165 148 (some (.ref i) :: ls) (.ref i :: st) h Q) ∧
  (∀ (ls : Lo) (st : List Value) (n sl : Nat) (C Z : Nat → Nat) (I : Nat → Nat → Int32) (L : Nat → Nat → Int64) (R : Nat → Nat → Nat) (Q : Option Value → Hp → Prop) (i : Nat), Wp 165 148 (ls) (.ref i :: st) (n, sl, C, Z, I, L, R) Q ↔ (C i = 11 ∧ Wp 165 151 (ls) (.ref (R i 17) :: st) (n, sl, C, Z, I, L, R) Q)) ∧
  (∀ (ls : Lo) (st : List Value) (h : Hp) (Q : Option Value → Hp → Prop), Wp 165 151 (ls) (st) h Q ↔ Wp 165 153 (ls) (.int (40) :: st) h Q) ∧
  (∀ (ls : Lo) (st : List Value) (h : Hp) (Q : Option Value → Hp → Prop) (l0 l1 l2 : Option Value) (x : Int32), Wp 165 153 (l0 :: l1 :: l2 :: some (.int x) :: ls) (st) h Q ↔ Wp 165 154 (l0 :: l1 :: l2 :: some (.int x) :: ls) (.int x :: st) h Q) ∧
  (∀ (ls : Lo) (st : List Value) (h : Hp) (Q : Option Value → Hp → Prop) (x y : Int32), Wp 165 154 (ls) (.int y :: .int x :: st) h Q ↔ Wp 165 155 (ls) (.int (x * y) :: st) h Q) ∧
  (∀ (ls : Lo) (st : List Value) (h : Hp) (Q : Option Value → Hp → Prop) (l0 l1 l2 l3 : Option Value) (x : Int32), Wp 165 155 (l0 :: l1 :: l2 :: l3 :: some (.int x) :: ls) (st) h Q ↔ Wp 165 157 (l0 :: l1 :: l2 :: l3 :: some (.int x) :: ls) (.int x :: st) h Q) ∧
  (∀ (ls : Lo) (st : List Value) (h : Hp) (Q : Option Value → Hp → Prop) (x y : Int32), Wp 165 157 (ls) (.int y :: .int x :: st) h Q ↔ Wp 165 158 (ls) (.int (x + y) :: st) h Q) ∧
  (∀ (ls : Lo) (st : List Value) (h : Hp) (Q : Option Value → Hp → Prop) (l0 l1 l2 l3 l4 l5 : Option Value) (x : Int32), Wp 165 158 (l0 :: l1 :: l2 :: l3 :: l4 :: l5 :: some (.int x) :: ls) (st) h Q ↔ Wp 165 160 (l0 :: l1 :: l2 :: l3 :: l4 :: l5 :: some (.int x) :: ls) (.int x :: st) h Q) ∧
  (∀ (ls : Lo) (st : List Value) (h : Hp) (Q : Option Value → Hp → Prop) (x y : Int32), Wp 165 160 (ls) (.int y :: .int x :: st) h Q ↔ Wp 165 161 (ls) (.int (x + y) :: st) h Q) ∧
  (∀ (ls : Lo) (st : List Value) (h : Hp) (Q : Option Value → Hp → Prop)  (i : Nat), Wp 165 161 (some (.ref i) :: ls) (st) h Q ↔ Wp 165 162 (some (.ref i) :: ls) (.ref i :: st) h Q) ∧
  (∀ (ls : Lo) (st : List Value) (n sl : Nat) (C Z : Nat → Nat) (I : Nat → Nat → Int32) (L : Nat → Nat → Int64) (R : Nat → Nat → Nat) (Q : Option Value → Hp → Prop) (i : Nat), Wp 165 162 (ls) (.ref i :: st) (n, sl, C, Z, I, L, R) Q ↔ (C i = 11 ∧ Wp 165 165 (ls) (.ref (R i 18) :: st) (n, sl, C, Z, I, L, R) Q)) ∧
  (∀ (ls : Lo) (st : List Value) (h : Hp) (Q : Option Value → Hp → Prop) (l0 l1 l2 l3 l4 l5 : Option Value) (x : Int32), Wp 165 165 (l0 :: l1 :: l2 :: l3 :: l4 :: l5 :: some (.int x) :: ls) (st) h Q ↔ Wp 165 167 (l0 :: l1 :: l2 :: l3 :: l4 :: l5 :: some (.int x) :: ls) (.int x :: st) h Q) ∧
  (∀ (ls : Lo) (st : List Value) (n sl : Nat) (C Z : Nat → Nat) (I : Nat → Nat → Int32) (L : Nat → Nat → Int64) (R : Nat → Nat → Nat) (Q : Option Value → Hp → Prop) (i : Nat) (y : Int32), Wp 165 167 (ls) (.int y :: .ref i :: st) (n, sl, C, Z, I, L, R) Q ↔ ((inb y (Z i) = true ∧ C i = 22) ∧ Wp 165 168 (ls) (.long (L i (ix y)) :: st) (n, sl, C, Z, I, L, R) Q)) ∧
  (∀ (ls : Lo) (st : List Value) (n sl : Nat) (C Z : Nat → Nat) (I : Nat → Nat → Int32) (L : Nat → Nat → Int64) (R : Nat → Nat → Nat) (Q : Option Value → Hp → Prop) (i : Nat) (y : Int32) (a : Int64), Wp 165 168 (ls) (.long a :: .int y :: .ref i :: st) (n, sl, C, Z, I, L, R) Q ↔ ((inb y (Z i) = true ∧ C i = 22) ∧ Wp 165 169 (ls) (st) (n, sl, C, Z, I, u2 L i (ix y) a, R) Q)) ∧
  (∀ (ls : Lo) (st : List Value) (h : Hp) (Q : Option Value → Hp → Prop) (l0 l1 l2 l3 l4 l5 : Option Value) (x : Int32), Wp 165 169 (l0 :: l1 :: l2 :: l3 :: l4 :: l5 :: some (.int x) :: ls) (st) h Q ↔ Wp 165 172 (l0 :: l1 :: l2 :: l3 :: l4 :: clr l5 :: some (.int (x + (1))) :: ls) (st) h Q) ∧
  (∀ (ls : Lo) (st : List Value) (h : Hp) (Q : Option Value → Hp → Prop), Wp 165 172 (ls) (st) h Q ↔ Wp 165 140 (ls) (st) h Q) ∧
  (∀ (ls : Lo) (st : List Value) (h : Hp) (Q : Option Value → Hp → Prop) (l0 l1 l2 l3 l4 : Option Value) (x : Int32), Wp 165 175 (l0 :: l1 :: l2 :: l3 :: l4 :: some (.int x) :: ls) (st) h Q ↔ Wp 165 177 (l0 :: l1 :: l2 :: l3 :: l4 :: some (.int x) :: ls) (.int x :: st) h Q) ∧
  (∀ (ls : Lo) (h : Hp) (Q : Option Value → Hp → Prop) (x : Int32), Wp 165 177 (ls) ([.int x]) h Q ↔ Q (some (.int x)) h) := ⟨by intro ls st h Q; exact e_goto d165_134 (by decide),
  by intro ls st h Q; exact e_iconst d165_137 rfl,
  by intro ls st h Q l0 l1 l2 l3 l4 l5 l6 x; exact e_istore d165_138 rfl,
  by intro ls st h Q l0 l1 l2 l3 l4 l5 x; exact e_iload d165_140 rfl,
  by intro ls st h Q l0 l1 l2 l3 l4 x; exact e_iload d165_142 rfl,
  by intro ls st h Q x y; exact e_ic d165_144 (by decide) c_ge,
  by intro ls st h Q i; exact e_aload_n d165_147 rfl,
  by intro ls st n sl C Z I L R Q i; exact e_get (g := 10) (s := 17) (ty := 2) d165_148 rfl rfl (inG_ne (by decide)),
  by intro ls st h Q; exact e_bipush d165_151 rfl,
  by intro ls st h Q l0 l1 l2 x; exact e_iload_n d165_153 rfl,
  by intro ls st h Q x y; exact e_imul d165_154,
  by intro ls st h Q l0 l1 l2 l3 x; exact e_iload d165_155 rfl,
  by intro ls st h Q x y; exact e_iadd d165_157,
  by intro ls st h Q l0 l1 l2 l3 l4 l5 x; exact e_iload d165_158 rfl,
  by intro ls st h Q x y; exact e_iadd d165_160,
  by intro ls st h Q i; exact e_aload_n d165_161 rfl,
  by intro ls st n sl C Z I L R Q i; exact e_get (g := 10) (s := 18) (ty := 2) d165_162 rfl rfl (inG_ne (by decide)),
  by intro ls st h Q l0 l1 l2 l3 l4 l5 x; exact e_iload d165_165 rfl,
  by intro ls st n sl C Z I L R Q i y; exact e_lald d165_167,
  by intro ls st n sl C Z I L R Q i y a; exact e_last d165_168,
  by intro ls st h Q l0 l1 l2 l3 l4 l5 x; exact e_iinc d165_169 rfl rfl rfl,
  by intro ls st h Q; exact e_goto d165_172 (by decide),
  by intro ls st h Q l0 l1 l2 l3 l4 x; exact e_iload d165_175 rfl,
  by intros; exact e_rI (p := True) d165_177 rfl⟩
theorem d166_0 : decode (byt 166) 0 = .ok (.iload_n 2, 1) := by decide +kernel
theorem d166_1 : decode (byt 166) 1 = .ok (.ifCond .lt 8, 3) := by decide +kernel
theorem d166_4 : decode (byt 166) 4 = .ok (.iload_n 2, 1) := by decide +kernel
theorem d166_5 : decode (byt 166) 5 = .ok (.iconst 3, 1) := by decide +kernel
theorem d166_6 : decode (byt 166) 6 = .ok (.if_icmp .le 6, 3) := by decide +kernel
theorem d166_9 : decode (byt 166) 9 = .ok (.bipush (-2), 2) := by decide +kernel
theorem d166_11 : decode (byt 166) 11 = .ok (.ireturn, 1) := by decide +kernel
theorem d166_12 : decode (byt 166) 12 = .ok (.aload_n 0, 1) := by decide +kernel
theorem d166_13 : decode (byt 166) 13 = .ok (.iload_n 1, 1) := by decide +kernel
theorem d166_14 : decode (byt 166) 14 = .ok (.invokevirtual 105, 3) := by decide +kernel
theorem d166_17 : decode (byt 166) 17 = .ok (.ifCond .ne 6, 3) := by decide +kernel
theorem d166_20 : decode (byt 166) 20 = .ok (.bipush (-11), 2) := by decide +kernel
theorem d166_22 : decode (byt 166) 22 = .ok (.ireturn, 1) := by decide +kernel
theorem d166_23 : decode (byt 166) 23 = .ok (.iload_n 2, 1) := by decide +kernel
theorem d166_24 : decode (byt 166) 24 = .ok (.ifCond .eq 28, 3) := by decide +kernel
theorem d166_27 : decode (byt 166) 27 = .ok (.aload_n 0, 1) := by decide +kernel
theorem d166_28 : decode (byt 166) 28 = .ok (.getfield 7, 3) := by decide +kernel
theorem d166_31 : decode (byt 166) 31 = .ok (.iload_n 1, 1) := by decide +kernel
theorem d166_32 : decode (byt 166) 32 = .ok (.iaload, 1) := by decide +kernel
theorem d166_33 : decode (byt 166) 33 = .ok (.iload_n 2, 1) := by decide +kernel
theorem d166_34 : decode (byt 166) 34 = .ok (.if_icmp .eq 18, 3) := by decide +kernel
theorem d166_37 : decode (byt 166) 37 = .ok (.iload_n 2, 1) := by decide +kernel
theorem d166_38 : decode (byt 166) 38 = .ok (.iconst 2, 1) := by decide +kernel
theorem d166_39 : decode (byt 166) 39 = .ok (.if_icmp .ne 17, 3) := by decide +kernel
theorem d166_42 : decode (byt 166) 42 = .ok (.aload_n 0, 1) := by decide +kernel
theorem d166_43 : decode (byt 166) 43 = .ok (.getfield 7, 3) := by decide +kernel
theorem d166_46 : decode (byt 166) 46 = .ok (.iload_n 1, 1) := by decide +kernel
theorem d166_47 : decode (byt 166) 47 = .ok (.iaload, 1) := by decide +kernel
theorem d166_48 : decode (byt 166) 48 = .ok (.iconst 3, 1) := by decide +kernel
theorem d166_49 : decode (byt 166) 49 = .ok (.if_icmp .ne 7, 3) := by decide +kernel
theorem d166_52 : decode (byt 166) 52 = .ok (.iconst 1, 1) := by decide +kernel
theorem d166_53 : decode (byt 166) 53 = .ok (.goto 4, 3) := by decide +kernel
theorem d166_56 : decode (byt 166) 56 = .ok (.iconst 0, 1) := by decide +kernel
theorem d166_57 : decode (byt 166) 57 = .ok (.istore_n 3, 1) := by decide +kernel
theorem d166_58 : decode (byt 166) 58 = .ok (.iload_n 3, 1) := by decide +kernel
theorem d166_59 : decode (byt 166) 59 = .ok (.ifCond .eq 12, 3) := by decide +kernel
theorem d166_62 : decode (byt 166) 62 = .ok (.aload_n 0, 1) := by decide +kernel
theorem d166_63 : decode (byt 166) 63 = .ok (.getfield 13, 3) := by decide +kernel
theorem d166_66 : decode (byt 166) 66 = .ok (.iload_n 1, 1) := by decide +kernel
theorem d166_67 : decode (byt 166) 67 = .ok (.iaload, 1) := by decide +kernel
theorem d166_68 : decode (byt 166) 68 = .ok (.goto 5, 3) := by decide +kernel
theorem d166_71 : decode (byt 166) 71 = .ok (.bipush (-13), 2) := by decide +kernel
theorem d166_73 : decode (byt 166) 73 = .ok (.ireturn, 1) := by decide +kernel
set_option maxRecDepth 20000 in
theorem S166_0 : (∀ (ls : Lo) (st : List Value) (h : Hp) (Q : Option Value → Hp → Prop) (l0 l1 : Option Value) (x : Int32), Wp 166 0 (l0 :: l1 :: some (.int x) :: ls) (st) h Q ↔ Wp 166 1 (l0 :: l1 :: some (.int x) :: ls) (.int x :: st) h Q) ∧
  (∀ (ls : Lo) (st : List Value) (h : Hp) (Q : Option Value → Hp → Prop) (x : Int32), Wp 166 1 (ls) (.int x :: st) h Q ↔ Br 166 9 4 ls st h Q (x < 0)) ∧
  (∀ (ls : Lo) (st : List Value) (h : Hp) (Q : Option Value → Hp → Prop) (l0 l1 : Option Value) (x : Int32), Wp 166 4 (l0 :: l1 :: some (.int x) :: ls) (st) h Q ↔ Wp 166 5 (l0 :: l1 :: some (.int x) :: ls) (.int x :: st) h Q) ∧
  (∀ (ls : Lo) (st : List Value) (h : Hp) (Q : Option Value → Hp → Prop), Wp 166 5 (ls) (st) h Q ↔ Wp 166 6 (ls) (.int (3) :: st) h Q) ∧
  (∀ (ls : Lo) (st : List Value) (h : Hp) (Q : Option Value → Hp → Prop) (x y : Int32), Wp 166 6 (ls) (.int y :: .int x :: st) h Q ↔ Br 166 12 9 ls st h Q (x ≤ y)) ∧
  (∀ (ls : Lo) (st : List Value) (h : Hp) (Q : Option Value → Hp → Prop), Wp 166 9 (ls) (st) h Q ↔ Wp 166 11 (ls) (.int (-2) :: st) h Q) ∧
  (∀ (ls : Lo) (h : Hp) (Q : Option Value → Hp → Prop) (x : Int32), Wp 166 11 (ls) ([.int x]) h Q ↔ Q (some (.int x)) h) ∧
  (∀ (ls : Lo) (st : List Value) (h : Hp) (Q : Option Value → Hp → Prop)  (i : Nat), Wp 166 12 (some (.ref i) :: ls) (st) h Q ↔ Wp 166 13 (some (.ref i) :: ls) (.ref i :: st) h Q) ∧
  (∀ (ls : Lo) (st : List Value) (h : Hp) (Q : Option Value → Hp → Prop) (l0 : Option Value) (x : Int32), Wp 166 13 (l0 :: some (.int x) :: ls) (st) h Q ↔ Wp 166 14 (l0 :: some (.int x) :: ls) (.int x :: st) h Q) ∧
  (∀ (ls : Lo) (st : List Value) (n sl : Nat) (C Z : Nat → Nat) (I : Nat → Nat → Int32) (L : Nat → Nat → Int64) (R : Nat → Nat → Nat) (Q : Option Value → Hp → Prop) (x0 : Int32) (i : Nat), C i = 11 → (Wp 166 14 (ls) (.int x0 :: .ref i :: st) (n, sl, C, Z, I, L, R) Q ↔ (wsum st ≤ 8 ∧ Call 103 [some (.ref i), some (.int x0)] (n, sl, C, Z, I, L, R) 166 17 ls st Q))) ∧
  (∀ (ls : Lo) (st : List Value) (h : Hp) (Q : Option Value → Hp → Prop) (x : Int32), Wp 166 17 (ls) (.int x :: st) h Q ↔ Br 166 23 20 ls st h Q (¬ x = 0)) ∧
  (∀ (ls : Lo) (st : List Value) (h : Hp) (Q : Option Value → Hp → Prop), Wp 166 20 (ls) (st) h Q ↔ Wp 166 22 (ls) (.int (-11) :: st) h Q) ∧
  (∀ (ls : Lo) (h : Hp) (Q : Option Value → Hp → Prop) (x : Int32), Wp 166 22 (ls) ([.int x]) h Q ↔ Q (some (.int x)) h) ∧
  (∀ (ls : Lo) (st : List Value) (h : Hp) (Q : Option Value → Hp → Prop) (l0 l1 : Option Value) (x : Int32), Wp 166 23 (l0 :: l1 :: some (.int x) :: ls) (st) h Q ↔ Wp 166 24 (l0 :: l1 :: some (.int x) :: ls) (.int x :: st) h Q) ∧
  (∀ (ls : Lo) (st : List Value) (h : Hp) (Q : Option Value → Hp → Prop) (x : Int32), Wp 166 24 (ls) (.int x :: st) h Q ↔ Br 166 52 27 ls st h Q (x = 0)) ∧
  (∀ (ls : Lo) (st : List Value) (h : Hp) (Q : Option Value → Hp → Prop)  (i : Nat), Wp 166 27 (some (.ref i) :: ls) (st) h Q ↔ Wp 166 28 (some (.ref i) :: ls) (.ref i :: st) h Q) ∧
  (∀ (ls : Lo) (st : List Value) (n sl : Nat) (C Z : Nat → Nat) (I : Nat → Nat → Int32) (L : Nat → Nat → Int64) (R : Nat → Nat → Nat) (Q : Option Value → Hp → Prop) (i : Nat), Wp 166 28 (ls) (.ref i :: st) (n, sl, C, Z, I, L, R) Q ↔ (C i = 11 ∧ Wp 166 31 (ls) (.ref (R i 1) :: st) (n, sl, C, Z, I, L, R) Q)) ∧
  (∀ (ls : Lo) (st : List Value) (h : Hp) (Q : Option Value → Hp → Prop) (l0 : Option Value) (x : Int32), Wp 166 31 (l0 :: some (.int x) :: ls) (st) h Q ↔ Wp 166 32 (l0 :: some (.int x) :: ls) (.int x :: st) h Q) ∧
  (∀ (ls : Lo) (st : List Value) (n sl : Nat) (C Z : Nat → Nat) (I : Nat → Nat → Int32) (L : Nat → Nat → Int64) (R : Nat → Nat → Nat) (Q : Option Value → Hp → Prop) (i : Nat) (y : Int32), Wp 166 32 (ls) (.int y :: .ref i :: st) (n, sl, C, Z, I, L, R) Q ↔ ((inb y (Z i) = true ∧ C i = 21) ∧ Wp 166 33 (ls) (.int (I i (ix y)) :: st) (n, sl, C, Z, I, L, R) Q)) ∧
  (∀ (ls : Lo) (st : List Value) (h : Hp) (Q : Option Value → Hp → Prop) (l0 l1 : Option Value) (x : Int32), Wp 166 33 (l0 :: l1 :: some (.int x) :: ls) (st) h Q ↔ Wp 166 34 (l0 :: l1 :: some (.int x) :: ls) (.int x :: st) h Q) ∧
  (∀ (ls : Lo) (st : List Value) (h : Hp) (Q : Option Value → Hp → Prop) (x y : Int32), Wp 166 34 (ls) (.int y :: .int x :: st) h Q ↔ Br 166 52 37 ls st h Q (x = y)) ∧
  (∀ (ls : Lo) (st : List Value) (h : Hp) (Q : Option Value → Hp → Prop) (l0 l1 : Option Value) (x : Int32), Wp 166 37 (l0 :: l1 :: some (.int x) :: ls) (st) h Q ↔ Wp 166 38 (l0 :: l1 :: some (.int x) :: ls) (.int x :: st) h Q) ∧
  (∀ (ls : Lo) (st : List Value) (h : Hp) (Q : Option Value → Hp → Prop), Wp 166 38 (ls) (st) h Q ↔ Wp 166 39 (ls) (.int (2) :: st) h Q) ∧
  (∀ (ls : Lo) (st : List Value) (h : Hp) (Q : Option Value → Hp → Prop) (x y : Int32), Wp 166 39 (ls) (.int y :: .int x :: st) h Q ↔ Br 166 56 42 ls st h Q (¬ x = y)) ∧
  (∀ (ls : Lo) (st : List Value) (h : Hp) (Q : Option Value → Hp → Prop)  (i : Nat), Wp 166 42 (some (.ref i) :: ls) (st) h Q ↔ Wp 166 43 (some (.ref i) :: ls) (.ref i :: st) h Q) := ⟨by intro ls st h Q l0 l1 x; exact e_iload_n d166_0 rfl,
  by intro ls st h Q x; exact e_if d166_1 (by decide) c_lt,
  by intro ls st h Q l0 l1 x; exact e_iload_n d166_4 rfl,
  by intro ls st h Q; exact e_iconst d166_5 rfl,
  by intro ls st h Q x y; exact e_ic d166_6 (by decide) c_le,
  by intro ls st h Q; exact e_bipush d166_9 rfl,
  by intros; exact e_rI (p := True) d166_11 rfl,
  by intro ls st h Q i; exact e_aload_n d166_12 rfl,
  by intro ls st h Q l0 x; exact e_iload_n d166_13 rfl,
  by intro ls st n sl C Z I L R Q x0 i hh; exact e_iv (k2 := 103) (c := 11) (as := [.int x0]) d166_14 rfl (by decide) rfl rfl (by decide +kernel) (Nat.le_of_ble_eq_true rfl) rfl hh,
  by intro ls st h Q x; exact e_if d166_17 (by decide) c_ne,
  by intro ls st h Q; exact e_bipush d166_20 rfl,
  by intros; exact e_rI (p := True) d166_22 rfl,
  by intro ls st h Q l0 l1 x; exact e_iload_n d166_23 rfl,
  by intro ls st h Q x; exact e_if d166_24 (by decide) c_eq,
  by intro ls st h Q i; exact e_aload_n d166_27 rfl,
  by intro ls st n sl C Z I L R Q i; exact e_get (g := 10) (s := 1) (ty := 2) d166_28 rfl rfl (inG_ne (by decide)),
  by intro ls st h Q l0 x; exact e_iload_n d166_31 rfl,
  by intro ls st n sl C Z I L R Q i y; exact e_iald d166_32,
  by intro ls st h Q l0 l1 x; exact e_iload_n d166_33 rfl,
  by intro ls st h Q x y; exact e_ic d166_34 (by decide) c_eq,
  by intro ls st h Q l0 l1 x; exact e_iload_n d166_37 rfl,
  by intro ls st h Q; exact e_iconst d166_38 rfl,
  by intro ls st h Q x y; exact e_ic d166_39 (by decide) c_ne,
  by intro ls st h Q i; exact e_aload_n d166_42 rfl⟩
set_option maxRecDepth 20000 in
theorem S166_1 : (∀ (ls : Lo) (st : List Value) (n sl : Nat) (C Z : Nat → Nat) (I : Nat → Nat → Int32) (L : Nat → Nat → Int64) (R : Nat → Nat → Nat) (Q : Option Value → Hp → Prop) (i : Nat), Wp 166 43 (ls) (.ref i :: st) (n, sl, C, Z, I, L, R) Q ↔ (C i = 11 ∧ Wp 166 46 (ls) (.ref (R i 1) :: st) (n, sl, C, Z, I, L, R) Q)) ∧
  (∀ (ls : Lo) (st : List Value) (h : Hp) (Q : Option Value → Hp → Prop) (l0 : Option Value) (x : Int32), Wp 166 46 (l0 :: some (.int x) :: ls) (st) h Q ↔ Wp 166 47 (l0 :: some (.int x) :: ls) (.int x :: st) h Q) ∧
  (∀ (ls : Lo) (st : List Value) (n sl : Nat) (C Z : Nat → Nat) (I : Nat → Nat → Int32) (L : Nat → Nat → Int64) (R : Nat → Nat → Nat) (Q : Option Value → Hp → Prop) (i : Nat) (y : Int32), Wp 166 47 (ls) (.int y :: .ref i :: st) (n, sl, C, Z, I, L, R) Q ↔ ((inb y (Z i) = true ∧ C i = 21) ∧ Wp 166 48 (ls) (.int (I i (ix y)) :: st) (n, sl, C, Z, I, L, R) Q)) ∧
  (∀ (ls : Lo) (st : List Value) (h : Hp) (Q : Option Value → Hp → Prop), Wp 166 48 (ls) (st) h Q ↔ Wp 166 49 (ls) (.int (3) :: st) h Q) ∧
  (∀ (ls : Lo) (st : List Value) (h : Hp) (Q : Option Value → Hp → Prop) (x y : Int32), Wp 166 49 (ls) (.int y :: .int x :: st) h Q ↔ Br 166 56 52 ls st h Q (¬ x = y)) ∧
  (∀ (ls : Lo) (st : List Value) (h : Hp) (Q : Option Value → Hp → Prop), Wp 166 52 (ls) (st) h Q ↔ Wp 166 53 (ls) (.int (1) :: st) h Q) ∧
  (∀ (ls : Lo) (st : List Value) (h : Hp) (Q : Option Value → Hp → Prop), Wp 166 53 (ls) (st) h Q ↔ Wp 166 57 (ls) (st) h Q) ∧
  (∀ (ls : Lo) (st : List Value) (h : Hp) (Q : Option Value → Hp → Prop), Wp 166 56 (ls) (st) h Q ↔ Wp 166 57 (ls) (.int (0) :: st) h Q) ∧
  (∀ (ls : Lo) (st : List Value) (h : Hp) (Q : Option Value → Hp → Prop) (l0 l1 l2 l3 : Option Value) (x : Int32), Wp 166 57 (l0 :: l1 :: l2 :: l3 :: ls) (.int x :: st) h Q ↔ Wp 166 58 (l0 :: l1 :: clr l2 :: some (.int x) :: ls) (st) h Q) ∧
  (∀ (ls : Lo) (st : List Value) (h : Hp) (Q : Option Value → Hp → Prop) (l0 l1 l2 : Option Value) (x : Int32), Wp 166 58 (l0 :: l1 :: l2 :: some (.int x) :: ls) (st) h Q ↔ Wp 166 59 (l0 :: l1 :: l2 :: some (.int x) :: ls) (.int x :: st) h Q) ∧
  (∀ (ls : Lo) (st : List Value) (h : Hp) (Q : Option Value → Hp → Prop) (x : Int32), Wp 166 59 (ls) (.int x :: st) h Q ↔ Br 166 71 62 ls st h Q (x = 0)) ∧
  (∀ (ls : Lo) (st : List Value) (h : Hp) (Q : Option Value → Hp → Prop)  (i : Nat), Wp 166 62 (some (.ref i) :: ls) (st) h Q ↔ Wp 166 63 (some (.ref i) :: ls) (.ref i :: st) h Q) ∧
  (∀ (ls : Lo) (st : List Value) (n sl : Nat) (C Z : Nat → Nat) (I : Nat → Nat → Int32) (L : Nat → Nat → Int64) (R : Nat → Nat → Nat) (Q : Option Value → Hp → Prop) (i : Nat), Wp 166 63 (ls) (.ref i :: st) (n, sl, C, Z, I, L, R) Q ↔ (C i = 11 ∧ Wp 166 66 (ls) (.ref (R i 2) :: st) (n, sl, C, Z, I, L, R) Q)) ∧
  (∀ (ls : Lo) (st : List Value) (h : Hp) (Q : Option Value → Hp → Prop) (l0 : Option Value) (x : Int32), Wp 166 66 (l0 :: some (.int x) :: ls) (st) h Q ↔ Wp 166 67 (l0 :: some (.int x) :: ls) (.int x :: st) h Q) ∧
  (∀ (ls : Lo) (st : List Value) (n sl : Nat) (C Z : Nat → Nat) (I : Nat → Nat → Int32) (L : Nat → Nat → Int64) (R : Nat → Nat → Nat) (Q : Option Value → Hp → Prop) (i : Nat) (y : Int32), Wp 166 67 (ls) (.int y :: .ref i :: st) (n, sl, C, Z, I, L, R) Q ↔ ((inb y (Z i) = true ∧ C i = 21) ∧ Wp 166 68 (ls) (.int (I i (ix y)) :: st) (n, sl, C, Z, I, L, R) Q)) ∧
  (∀ (ls : Lo) (st : List Value) (h : Hp) (Q : Option Value → Hp → Prop), Wp 166 68 (ls) (st) h Q ↔ Wp 166 73 (ls) (st) h Q) ∧
  (∀ (ls : Lo) (st : List Value) (h : Hp) (Q : Option Value → Hp → Prop), Wp 166 71 (ls) (st) h Q ↔ Wp 166 73 (ls) (.int (-13) :: st) h Q) ∧
  (∀ (ls : Lo) (h : Hp) (Q : Option Value → Hp → Prop) (x : Int32), Wp 166 73 (ls) ([.int x]) h Q ↔ Q (some (.int x)) h) := ⟨by intro ls st n sl C Z I L R Q i; exact e_get (g := 10) (s := 1) (ty := 2) d166_43 rfl rfl (inG_ne (by decide)),
  by intro ls st h Q l0 x; exact e_iload_n d166_46 rfl,
  by intro ls st n sl C Z I L R Q i y; exact e_iald d166_47,
  by intro ls st h Q; exact e_iconst d166_48 rfl,
  by intro ls st h Q x y; exact e_ic d166_49 (by decide) c_ne,
  by intro ls st h Q; exact e_iconst d166_52 rfl,
  by intro ls st h Q; exact e_goto d166_53 (by decide),
  by intro ls st h Q; exact e_iconst d166_56 rfl,
  by intro ls st h Q l0 l1 l2 l3 x; exact e_istore_n d166_57 rfl,
  by intro ls st h Q l0 l1 l2 x; exact e_iload_n d166_58 rfl,
  by intro ls st h Q x; exact e_if d166_59 (by decide) c_eq,
  by intro ls st h Q i; exact e_aload_n d166_62 rfl,
  by intro ls st n sl C Z I L R Q i; exact e_get (g := 10) (s := 2) (ty := 2) d166_63 rfl rfl (inG_ne (by decide)),
  by intro ls st h Q l0 x; exact e_iload_n d166_66 rfl,
  by intro ls st n sl C Z I L R Q i y; exact e_iald d166_67,
  by intro ls st h Q; exact e_goto d166_68 (by decide),
  by intro ls st h Q; exact e_bipush d166_71 rfl,
  by intros; exact e_rI (p := True) d166_73 rfl⟩
theorem d167_0 : decode (byt 167) 0 = .ok (.iload_n 0, 1) := by decide +kernel
theorem d167_1 : decode (byt 167) 1 = .ok (.iload_n 0, 1) := by decide +kernel
theorem d167_2 : decode (byt 167) 2 = .ok (.iconst 1, 1) := by decide +kernel
theorem d167_3 : decode (byt 167) 3 = .ok (.iushr, 1) := by decide +kernel
theorem d167_4 : decode (byt 167) 4 = .ok (.ldc_w 265, 3) := by decide +kernel
theorem d167_7 : decode (byt 167) 7 = .ok (.iand, 1) := by decide +kernel
theorem d167_8 : decode (byt 167) 8 = .ok (.isub, 1) := by decide +kernel
theorem d167_9 : decode (byt 167) 9 = .ok (.istore_n 0, 1) := by decide +kernel
theorem d167_10 : decode (byt 167) 10 = .ok (.iload_n 0, 1) := by decide +kernel
theorem d167_11 : decode (byt 167) 11 = .ok (.ldc_w 266, 3) := by decide +kernel
theorem d167_14 : decode (byt 167) 14 = .ok (.iand, 1) := by decide +kernel
theorem d167_15 : decode (byt 167) 15 = .ok (.iload_n 0, 1) := by decide +kernel
theorem d167_16 : decode (byt 167) 16 = .ok (.iconst 2, 1) := by decide +kernel
theorem d167_17 : decode (byt 167) 17 = .ok (.iushr, 1) := by decide +kernel
theorem d167_18 : decode (byt 167) 18 = .ok (.ldc_w 266, 3) := by decide +kernel
theorem d167_21 : decode (byt 167) 21 = .ok (.iand, 1) := by decide +kernel
theorem d167_22 : decode (byt 167) 22 = .ok (.iadd, 1) := by decide +kernel
theorem d167_23 : decode (byt 167) 23 = .ok (.istore_n 0, 1) := by decide +kernel
theorem d167_24 : decode (byt 167) 24 = .ok (.iload_n 0, 1) := by decide +kernel
theorem d167_25 : decode (byt 167) 25 = .ok (.iload_n 0, 1) := by decide +kernel
theorem d167_26 : decode (byt 167) 26 = .ok (.iconst 4, 1) := by decide +kernel
theorem d167_27 : decode (byt 167) 27 = .ok (.iushr, 1) := by decide +kernel
theorem d167_28 : decode (byt 167) 28 = .ok (.iadd, 1) := by decide +kernel
theorem d167_29 : decode (byt 167) 29 = .ok (.ldc_w 267, 3) := by decide +kernel
theorem d167_32 : decode (byt 167) 32 = .ok (.iand, 1) := by decide +kernel
theorem d167_33 : decode (byt 167) 33 = .ok (.istore_n 0, 1) := by decide +kernel
theorem d167_34 : decode (byt 167) 34 = .ok (.iload_n 0, 1) := by decide +kernel
theorem d167_35 : decode (byt 167) 35 = .ok (.iload_n 0, 1) := by decide +kernel
theorem d167_36 : decode (byt 167) 36 = .ok (.bipush 8, 2) := by decide +kernel
theorem d167_38 : decode (byt 167) 38 = .ok (.iushr, 1) := by decide +kernel
theorem d167_39 : decode (byt 167) 39 = .ok (.iadd, 1) := by decide +kernel
theorem d167_40 : decode (byt 167) 40 = .ok (.istore_n 0, 1) := by decide +kernel
theorem d167_41 : decode (byt 167) 41 = .ok (.iload_n 0, 1) := by decide +kernel
theorem d167_42 : decode (byt 167) 42 = .ok (.iload_n 0, 1) := by decide +kernel
theorem d167_43 : decode (byt 167) 43 = .ok (.bipush 16, 2) := by decide +kernel
theorem d167_45 : decode (byt 167) 45 = .ok (.iushr, 1) := by decide +kernel
theorem d167_46 : decode (byt 167) 46 = .ok (.iadd, 1) := by decide +kernel
theorem d167_47 : decode (byt 167) 47 = .ok (.istore_n 0, 1) := by decide +kernel
theorem d167_48 : decode (byt 167) 48 = .ok (.iload_n 0, 1) := by decide +kernel
theorem d167_49 : decode (byt 167) 49 = .ok (.bipush 63, 2) := by decide +kernel
theorem d167_51 : decode (byt 167) 51 = .ok (.iand, 1) := by decide +kernel
theorem d167_52 : decode (byt 167) 52 = .ok (.ireturn, 1) := by decide +kernel
set_option maxRecDepth 20000 in
theorem S167_0 : (∀ (ls : Lo) (st : List Value) (h : Hp) (Q : Option Value → Hp → Prop)  (x : Int32), Wp 167 0 (some (.int x) :: ls) (st) h Q ↔ Wp 167 1 (some (.int x) :: ls) (.int x :: st) h Q) ∧
  (∀ (ls : Lo) (st : List Value) (h : Hp) (Q : Option Value → Hp → Prop)  (x : Int32), Wp 167 1 (some (.int x) :: ls) (st) h Q ↔ Wp 167 2 (some (.int x) :: ls) (.int x :: st) h Q) ∧
  (∀ (ls : Lo) (st : List Value) (h : Hp) (Q : Option Value → Hp → Prop), Wp 167 2 (ls) (st) h Q ↔ Wp 167 3 (ls) (.int (1) :: st) h Q) ∧
  (∀ (ls : Lo) (st : List Value) (h : Hp) (Q : Option Value → Hp → Prop) (x y : Int32), Wp 167 3 (ls) (.int y :: .int x :: st) h Q ↔ Wp 167 4 (ls) (.int ((x.toUInt32 >>> (y.toUInt32 &&& Int32.toUInt32 31)).toInt32) :: st) h Q) ∧
  (∀ (ls : Lo) (st : List Value) (h : Hp) (Q : Option Value → Hp → Prop), Wp 167 4 (ls) (st) h Q ↔ Wp 167 7 (ls) (.int (1431655765) :: st) h Q) ∧
  (∀ (ls : Lo) (st : List Value) (h : Hp) (Q : Option Value → Hp → Prop) (x y : Int32), Wp 167 7 (ls) (.int y :: .int x :: st) h Q ↔ Wp 167 8 (ls) (.int (x &&& y) :: st) h Q) ∧
  (∀ (ls : Lo) (st : List Value) (h : Hp) (Q : Option Value → Hp → Prop) (x y : Int32), Wp 167 8 (ls) (.int y :: .int x :: st) h Q ↔ Wp 167 9 (ls) (.int (x - y) :: st) h Q) ∧
  (∀ (ls : Lo) (st : List Value) (h : Hp) (Q : Option Value → Hp → Prop) (l0 : Option Value) (x : Int32), Wp 167 9 (l0 :: ls) (.int x :: st) h Q ↔ Wp 167 10 (some (.int x) :: ls) (st) h Q) ∧
  (∀ (ls : Lo) (st : List Value) (h : Hp) (Q : Option Value → Hp → Prop)  (x : Int32), Wp 167 10 (some (.int x) :: ls) (st) h Q ↔ Wp 167 11 (some (.int x) :: ls) (.int x :: st) h Q) ∧
  (∀ (ls : Lo) (st : List Value) (h : Hp) (Q : Option Value → Hp → Prop), Wp 167 11 (ls) (st) h Q ↔ Wp 167 14 (ls) (.int (858993459) :: st) h Q) ∧
  (∀ (ls : Lo) (st : List Value) (h : Hp) (Q : Option Value → Hp → Prop) (x y : Int32), Wp 167 14 (ls) (.int y :: .int x :: st) h Q ↔ Wp 167 15 (ls) (.int (x &&& y) :: st) h Q) ∧
  (∀ (ls : Lo) (st : List Value) (h : Hp) (Q : Option Value → Hp → Prop)  (x : Int32), Wp 167 15 (some (.int x) :: ls) (st) h Q ↔ Wp 167 16 (some (.int x) :: ls) (.int x :: st) h Q) ∧
  (∀ (ls : Lo) (st : List Value) (h : Hp) (Q : Option Value → Hp → Prop), Wp 167 16 (ls) (st) h Q ↔ Wp 167 17 (ls) (.int (2) :: st) h Q) ∧
  (∀ (ls : Lo) (st : List Value) (h : Hp) (Q : Option Value → Hp → Prop) (x y : Int32), Wp 167 17 (ls) (.int y :: .int x :: st) h Q ↔ Wp 167 18 (ls) (.int ((x.toUInt32 >>> (y.toUInt32 &&& Int32.toUInt32 31)).toInt32) :: st) h Q) ∧
  (∀ (ls : Lo) (st : List Value) (h : Hp) (Q : Option Value → Hp → Prop), Wp 167 18 (ls) (st) h Q ↔ Wp 167 21 (ls) (.int (858993459) :: st) h Q) ∧
  (∀ (ls : Lo) (st : List Value) (h : Hp) (Q : Option Value → Hp → Prop) (x y : Int32), Wp 167 21 (ls) (.int y :: .int x :: st) h Q ↔ Wp 167 22 (ls) (.int (x &&& y) :: st) h Q) ∧
  (∀ (ls : Lo) (st : List Value) (h : Hp) (Q : Option Value → Hp → Prop) (x y : Int32), Wp 167 22 (ls) (.int y :: .int x :: st) h Q ↔ Wp 167 23 (ls) (.int (x + y) :: st) h Q) ∧
  (∀ (ls : Lo) (st : List Value) (h : Hp) (Q : Option Value → Hp → Prop) (l0 : Option Value) (x : Int32), Wp 167 23 (l0 :: ls) (.int x :: st) h Q ↔ Wp 167 24 (some (.int x) :: ls) (st) h Q) ∧
  (∀ (ls : Lo) (st : List Value) (h : Hp) (Q : Option Value → Hp → Prop)  (x : Int32), Wp 167 24 (some (.int x) :: ls) (st) h Q ↔ Wp 167 25 (some (.int x) :: ls) (.int x :: st) h Q) ∧
  (∀ (ls : Lo) (st : List Value) (h : Hp) (Q : Option Value → Hp → Prop)  (x : Int32), Wp 167 25 (some (.int x) :: ls) (st) h Q ↔ Wp 167 26 (some (.int x) :: ls) (.int x :: st) h Q) ∧
  (∀ (ls : Lo) (st : List Value) (h : Hp) (Q : Option Value → Hp → Prop), Wp 167 26 (ls) (st) h Q ↔ Wp 167 27 (ls) (.int (4) :: st) h Q) ∧
  (∀ (ls : Lo) (st : List Value) (h : Hp) (Q : Option Value → Hp → Prop) (x y : Int32), Wp 167 27 (ls) (.int y :: .int x :: st) h Q ↔ Wp 167 28 (ls) (.int ((x.toUInt32 >>> (y.toUInt32 &&& Int32.toUInt32 31)).toInt32) :: st) h Q) ∧
  (∀ (ls : Lo) (st : List Value) (h : Hp) (Q : Option Value → Hp → Prop) (x y : Int32), Wp 167 28 (ls) (.int y :: .int x :: st) h Q ↔ Wp 167 29 (ls) (.int (x + y) :: st) h Q) ∧
  (∀ (ls : Lo) (st : List Value) (h : Hp) (Q : Option Value → Hp → Prop), Wp 167 29 (ls) (st) h Q ↔ Wp 167 32 (ls) (.int (252645135) :: st) h Q) ∧
  (∀ (ls : Lo) (st : List Value) (h : Hp) (Q : Option Value → Hp → Prop) (x y : Int32), Wp 167 32 (ls) (.int y :: .int x :: st) h Q ↔ Wp 167 33 (ls) (.int (x &&& y) :: st) h Q) := ⟨by intro ls st h Q x; exact e_iload_n d167_0 rfl,
  by intro ls st h Q x; exact e_iload_n d167_1 rfl,
  by intro ls st h Q; exact e_iconst d167_2 rfl,
  by intro ls st h Q x y; exact e_iushr d167_3,
  by intro ls st h Q; exact e_ldc_w (p := 389) d167_4 rfl,
  by intro ls st h Q x y; exact e_iand d167_7,
  by intro ls st h Q x y; exact e_isub d167_8,
  by intro ls st h Q l0 x; exact e_istore_n d167_9 rfl,
  by intro ls st h Q x; exact e_iload_n d167_10 rfl,
  by intro ls st h Q; exact e_ldc_w (p := 390) d167_11 rfl,
  by intro ls st h Q x y; exact e_iand d167_14,
  by intro ls st h Q x; exact e_iload_n d167_15 rfl,
  by intro ls st h Q; exact e_iconst d167_16 rfl,
  by intro ls st h Q x y; exact e_iushr d167_17,
  by intro ls st h Q; exact e_ldc_w (p := 390) d167_18 rfl,
  by intro ls st h Q x y; exact e_iand d167_21,
  by intro ls st h Q x y; exact e_iadd d167_22,
  by intro ls st h Q l0 x; exact e_istore_n d167_23 rfl,
  by intro ls st h Q x; exact e_iload_n d167_24 rfl,
  by intro ls st h Q x; exact e_iload_n d167_25 rfl,
  by intro ls st h Q; exact e_iconst d167_26 rfl,
  by intro ls st h Q x y; exact e_iushr d167_27,
  by intro ls st h Q x y; exact e_iadd d167_28,
  by intro ls st h Q; exact e_ldc_w (p := 391) d167_29 rfl,
  by intro ls st h Q x y; exact e_iand d167_32⟩
set_option maxRecDepth 20000 in
theorem S167_1 : (∀ (ls : Lo) (st : List Value) (h : Hp) (Q : Option Value → Hp → Prop) (l0 : Option Value) (x : Int32), Wp 167 33 (l0 :: ls) (.int x :: st) h Q ↔ Wp 167 34 (some (.int x) :: ls) (st) h Q) ∧
  (∀ (ls : Lo) (st : List Value) (h : Hp) (Q : Option Value → Hp → Prop)  (x : Int32), Wp 167 34 (some (.int x) :: ls) (st) h Q ↔ Wp 167 35 (some (.int x) :: ls) (.int x :: st) h Q) ∧
  (∀ (ls : Lo) (st : List Value) (h : Hp) (Q : Option Value → Hp → Prop)  (x : Int32), Wp 167 35 (some (.int x) :: ls) (st) h Q ↔ Wp 167 36 (some (.int x) :: ls) (.int x :: st) h Q) ∧
  (∀ (ls : Lo) (st : List Value) (h : Hp) (Q : Option Value → Hp → Prop), Wp 167 36 (ls) (st) h Q ↔ Wp 167 38 (ls) (.int (8) :: st) h Q) ∧
  (∀ (ls : Lo) (st : List Value) (h : Hp) (Q : Option Value → Hp → Prop) (x y : Int32), Wp 167 38 (ls) (.int y :: .int x :: st) h Q ↔ Wp 167 39 (ls) (.int ((x.toUInt32 >>> (y.toUInt32 &&& Int32.toUInt32 31)).toInt32) :: st) h Q) ∧
  (∀ (ls : Lo) (st : List Value) (h : Hp) (Q : Option Value → Hp → Prop) (x y : Int32), Wp 167 39 (ls) (.int y :: .int x :: st) h Q ↔ Wp 167 40 (ls) (.int (x + y) :: st) h Q) ∧
  (∀ (ls : Lo) (st : List Value) (h : Hp) (Q : Option Value → Hp → Prop) (l0 : Option Value) (x : Int32), Wp 167 40 (l0 :: ls) (.int x :: st) h Q ↔ Wp 167 41 (some (.int x) :: ls) (st) h Q) ∧
  (∀ (ls : Lo) (st : List Value) (h : Hp) (Q : Option Value → Hp → Prop)  (x : Int32), Wp 167 41 (some (.int x) :: ls) (st) h Q ↔ Wp 167 42 (some (.int x) :: ls) (.int x :: st) h Q) ∧
  (∀ (ls : Lo) (st : List Value) (h : Hp) (Q : Option Value → Hp → Prop)  (x : Int32), Wp 167 42 (some (.int x) :: ls) (st) h Q ↔ Wp 167 43 (some (.int x) :: ls) (.int x :: st) h Q) ∧
  (∀ (ls : Lo) (st : List Value) (h : Hp) (Q : Option Value → Hp → Prop), Wp 167 43 (ls) (st) h Q ↔ Wp 167 45 (ls) (.int (16) :: st) h Q) ∧
  (∀ (ls : Lo) (st : List Value) (h : Hp) (Q : Option Value → Hp → Prop) (x y : Int32), Wp 167 45 (ls) (.int y :: .int x :: st) h Q ↔ Wp 167 46 (ls) (.int ((x.toUInt32 >>> (y.toUInt32 &&& Int32.toUInt32 31)).toInt32) :: st) h Q) ∧
  (∀ (ls : Lo) (st : List Value) (h : Hp) (Q : Option Value → Hp → Prop) (x y : Int32), Wp 167 46 (ls) (.int y :: .int x :: st) h Q ↔ Wp 167 47 (ls) (.int (x + y) :: st) h Q) ∧
  (∀ (ls : Lo) (st : List Value) (h : Hp) (Q : Option Value → Hp → Prop) (l0 : Option Value) (x : Int32), Wp 167 47 (l0 :: ls) (.int x :: st) h Q ↔ Wp 167 48 (some (.int x) :: ls) (st) h Q) ∧
  (∀ (ls : Lo) (st : List Value) (h : Hp) (Q : Option Value → Hp → Prop)  (x : Int32), Wp 167 48 (some (.int x) :: ls) (st) h Q ↔ Wp 167 49 (some (.int x) :: ls) (.int x :: st) h Q) ∧
  (∀ (ls : Lo) (st : List Value) (h : Hp) (Q : Option Value → Hp → Prop), Wp 167 49 (ls) (st) h Q ↔ Wp 167 51 (ls) (.int (63) :: st) h Q) ∧
  (∀ (ls : Lo) (st : List Value) (h : Hp) (Q : Option Value → Hp → Prop) (x y : Int32), Wp 167 51 (ls) (.int y :: .int x :: st) h Q ↔ Wp 167 52 (ls) (.int (x &&& y) :: st) h Q) ∧
  (∀ (ls : Lo) (h : Hp) (Q : Option Value → Hp → Prop) (x : Int32), Wp 167 52 (ls) ([.int x]) h Q ↔ Q (some (.int x)) h) := ⟨by intro ls st h Q l0 x; exact e_istore_n d167_33 rfl,
  by intro ls st h Q x; exact e_iload_n d167_34 rfl,
  by intro ls st h Q x; exact e_iload_n d167_35 rfl,
  by intro ls st h Q; exact e_bipush d167_36 rfl,
  by intro ls st h Q x y; exact e_iushr d167_38,
  by intro ls st h Q x y; exact e_iadd d167_39,
  by intro ls st h Q l0 x; exact e_istore_n d167_40 rfl,
  by intro ls st h Q x; exact e_iload_n d167_41 rfl,
  by intro ls st h Q x; exact e_iload_n d167_42 rfl,
  by intro ls st h Q; exact e_bipush d167_43 rfl,
  by intro ls st h Q x y; exact e_iushr d167_45,
  by intro ls st h Q x y; exact e_iadd d167_46,
  by intro ls st h Q l0 x; exact e_istore_n d167_47 rfl,
  by intro ls st h Q x; exact e_iload_n d167_48 rfl,
  by intro ls st h Q; exact e_bipush d167_49 rfl,
  by intro ls st h Q x y; exact e_iand d167_51,
  by intros; exact e_rI (p := True) d167_52 rfl⟩
