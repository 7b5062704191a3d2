theorem d0_0 : decode (byt 0) 0 = .ok (.aload_n 0, 1) := by decide +kernel
theorem d0_1 : decode (byt 0) 1 = .ok (.invokespecial 3, 3) := by decide +kernel
theorem d0_4 : decode (byt 0) 4 = .ok (.aload_n 0, 1) := by decide +kernel
theorem d0_5 : decode (byt 0) 5 = .ok (.iconst 3, 1) := by decide +kernel
theorem d0_6 : decode (byt 0) 6 = .ok (.iconst 3, 1) := by decide +kernel
theorem d0_7 : decode (byt 0) 7 = .ok (.multianewarray 9 2, 4) := by decide +kernel
theorem d0_11 : decode (byt 0) 11 = .ok (.putfield 11, 3) := by decide +kernel
theorem d0_14 : decode (byt 0) 14 = .ok (.aload_n 0, 1) := by decide +kernel
theorem d0_15 : decode (byt 0) 15 = .ok (.iconst 3, 1) := by decide +kernel
theorem d0_16 : decode (byt 0) 16 = .ok (.newarray .long, 2) := by decide +kernel
theorem d0_18 : decode (byt 0) 18 = .ok (.putfield 16, 3) := by decide +kernel
theorem d0_21 : decode (byt 0) 21 = .ok (.aload_n 0, 1) := by decide +kernel
theorem d0_22 : decode (byt 0) 22 = .ok (.iconst 3, 1) := by decide +kernel
theorem d0_23 : decode (byt 0) 23 = .ok (.newarray .long, 2) := by decide +kernel
theorem d0_25 : decode (byt 0) 25 = .ok (.putfield 20, 3) := by decide +kernel
theorem d0_28 : decode (byt 0) 28 = .ok (.aload_n 0, 1) := by decide +kernel
theorem d0_29 : decode (byt 0) 29 = .ok (.lconst 0, 1) := by decide +kernel
theorem d0_30 : decode (byt 0) 30 = .ok (.putfield 23, 3) := by decide +kernel
theorem d0_33 : decode (byt 0) 33 = .ok (.aload_n 0, 1) := by decide +kernel
theorem d0_34 : decode (byt 0) 34 = .ok (.iconst 0, 1) := by decide +kernel
theorem d0_35 : decode (byt 0) 35 = .ok (.putfield 27, 3) := by decide +kernel
theorem d0_38 : decode (byt 0) 38 = .ok (.aload_n 0, 1) := by decide +kernel
theorem d0_39 : decode (byt 0) 39 = .ok (.iconst 0, 1) := by decide +kernel
theorem d0_40 : decode (byt 0) 40 = .ok (.putfield 31, 3) := by decide +kernel
theorem d0_43 : decode (byt 0) 43 = .ok (.return_, 1) := by decide +kernel
set_option maxRecDepth 20000 in
theorem S0_0 : (∀ (ls : Lo) (st : List Value) (h : Hp) (Q : Option Value → Hp → Prop)  (i : Nat), Wp 0 0 (some (.ref i) :: ls) (st) h Q ↔ Wp 0 1 (some (.ref i) :: ls) (.ref i :: st) h Q) ∧
  (∀ (ls : Lo) (st : List Value) (h : Hp) (Q : Option Value → Hp → Prop) (i : Nat), Wp 0 1 (ls) (.ref i :: st) h Q ↔ ((wsum st ≤ 8 ∧ i ≠ 0) ∧ Wp 0 4 (ls) (st) h Q)) ∧
  (∀ (ls : Lo) (st : List Value) (h : Hp) (Q : Option Value → Hp → Prop)  (i : Nat), Wp 0 4 (some (.ref i) :: ls) (st) h Q ↔ Wp 0 5 (some (.ref i) :: ls) (.ref i :: st) h Q) ∧
  (∀ (ls : Lo) (st : List Value) (h : Hp) (Q : Option Value → Hp → Prop), Wp 0 5 (ls) (st) h Q ↔ Wp 0 6 (ls) (.int (3) :: st) h Q) ∧
  (∀ (ls : Lo) (st : List Value) (h : Hp) (Q : Option Value → Hp → Prop), Wp 0 6 (ls) (st) h Q ↔ Wp 0 7 (ls) (.int (3) :: st) h Q) ∧
  (∀ (ls : Lo) (st : List Value) (h : Hp) (Q : Option Value → Hp → Prop) (x y : Int32), Wp 0 7 (ls) (.int y :: .int x :: st) h Q ↔ ((¬ x < 0 ∧ ix x ≤ 1000 ∧ ¬ y < 0 ∧ ix y ≤ 1000) ∧ Wp 0 11 (ls) (.ref (h.1 + 1) :: st) (nwG h (ix x) (ix y)) Q)) ∧
  (∀ (ls : Lo) (st : List Value) (n sl : Nat) (C Z : Nat → Nat) (I : Nat → Nat → Int32) (L : Nat → Nat → Int64) (R : Nat → Nat → Nat) (Q : Option Value → Hp → Prop) (i j : Nat), Wp 0 11 (ls) (.ref j :: .ref i :: st) (n, sl, C, Z, I, L, R) Q ↔ (C i = 1 ∧ Wp 0 14 (ls) (st) (n, sl, C, Z, I, L, u2 R i 0 j) Q)) ∧
  (∀ (ls : Lo) (st : List Value) (h : Hp) (Q : Option Value → Hp → Prop)  (i : Nat), Wp 0 14 (some (.ref i) :: ls) (st) h Q ↔ Wp 0 15 (some (.ref i) :: ls) (.ref i :: st) h Q) ∧
  (∀ (ls : Lo) (st : List Value) (h : Hp) (Q : Option Value → Hp → Prop), Wp 0 15 (ls) (st) h Q ↔ Wp 0 16 (ls) (.int (3) :: st) h Q) ∧
  (∀ (ls : Lo) (st : List Value) (n sl : Nat) (C Z : Nat → Nat) (I : Nat → Nat → Int32) (L : Nat → Nat → Int64) (R : Nat → Nat → Nat) (Q : Option Value → Hp → Prop) (x : Int32), Wp 0 16 (ls) (.int x :: st) (n, sl, C, Z, I, L, R) Q ↔ ((¬ x < 0 ∧ ix x ≤ 1000) ∧ Wp 0 18 (ls) (.ref (n + 1) :: st) (n + 1, sl + ix x, va_up C (n + 1) 22, va_up Z (n + 1) (ix x), va_up I (n + 1) (fun _ => 0), va_up L (n + 1) (fun _ => 0), va_up R (n + 1) (fun _ => 0)) Q)) ∧
  (∀ (ls : Lo) (st : List Value) (n sl : Nat) (C Z : Nat → Nat) (I : Nat → Nat → Int32) (L : Nat → Nat → Int64) (R : Nat → Nat → Nat) (Q : Option Value → Hp → Prop) (i j : Nat), Wp 0 18 (ls) (.ref j :: .ref i :: st) (n, sl, C, Z, I, L, R) Q ↔ (C i = 1 ∧ Wp 0 21 (ls) (st) (n, sl, C, Z, I, L, u2 R i 1 j) Q)) ∧
  (∀ (ls : Lo) (st : List Value) (h : Hp) (Q : Option Value → Hp → Prop)  (i : Nat), Wp 0 21 (some (.ref i) :: ls) (st) h Q ↔ Wp 0 22 (some (.ref i) :: ls) (.ref i :: st) h Q) ∧
  (∀ (ls : Lo) (st : List Value) (h : Hp) (Q : Option Value → Hp → Prop), Wp 0 22 (ls) (st) h Q ↔ Wp 0 23 (ls) (.int (3) :: st) h Q) ∧
  (∀ (ls : Lo) (st : List Value) (n sl : Nat) (C Z : Nat → Nat) (I : Nat → Nat → Int32) (L : Nat → Nat → Int64) (R : Nat → Nat → Nat) (Q : Option Value → Hp → Prop) (x : Int32), Wp 0 23 (ls) (.int x :: st) (n, sl, C, Z, I, L, R) Q ↔ ((¬ x < 0 ∧ ix x ≤ 1000) ∧ Wp 0 25 (ls) (.ref (n + 1) :: st) (n + 1, sl + ix x, va_up C (n + 1) 22, va_up Z (n + 1) (ix x), va_up I (n + 1) (fun _ => 0), va_up L (n + 1) (fun _ => 0), va_up R (n + 1) (fun _ => 0)) Q)) ∧
  (∀ (ls : Lo) (st : List Value) (n sl : Nat) (C Z : Nat → Nat) (I : Nat → Nat → Int32) (L : Nat → Nat → Int64) (R : Nat → Nat → Nat) (Q : Option Value → Hp → Prop) (i j : Nat), Wp 0 25 (ls) (.ref j :: .ref i :: st) (n, sl, C, Z, I, L, R) Q ↔ (C i = 1 ∧ Wp 0 28 (ls) (st) (n, sl, C, Z, I, L, u2 R i 2 j) Q)) ∧
  (∀ (ls : Lo) (st : List Value) (h : Hp) (Q : Option Value → Hp → Prop)  (i : Nat), Wp 0 28 (some (.ref i) :: ls) (st) h Q ↔ Wp 0 29 (some (.ref i) :: ls) (.ref i :: st) h Q) ∧
  (∀ (ls : Lo) (st : List Value) (h : Hp) (Q : Option Value → Hp → Prop), Wp 0 29 (ls) (st) h Q ↔ Wp 0 30 (ls) (.long 0 :: st) h Q) ∧
  (∀ (ls : Lo) (st : List Value) (n sl : Nat) (C Z : Nat → Nat) (I : Nat → Nat → Int32) (L : Nat → Nat → Int64) (R : Nat → Nat → Nat) (Q : Option Value → Hp → Prop) (i : Nat) (a : Int64), Wp 0 30 (ls) (.long a :: .ref i :: st) (n, sl, C, Z, I, L, R) Q ↔ (C i = 1 ∧ Wp 0 33 (ls) (st) (n, sl, C, Z, I, u2 L i 3 a, R) Q)) ∧
  (∀ (ls : Lo) (st : List Value) (h : Hp) (Q : Option Value → Hp → Prop)  (i : Nat), Wp 0 33 (some (.ref i) :: ls) (st) h Q ↔ Wp 0 34 (some (.ref i) :: ls) (.ref i :: st) h Q) ∧
  (∀ (ls : Lo) (st : List Value) (h : Hp) (Q : Option Value → Hp → Prop), Wp 0 34 (ls) (st) h Q ↔ Wp 0 35 (ls) (.int (0) :: st) h Q) ∧
  (∀ (ls : Lo) (st : List Value) (n sl : Nat) (C Z : Nat → Nat) (I : Nat → Nat → Int32) (L : Nat → Nat → Int64) (R : Nat → Nat → Nat) (Q : Option Value → Hp → Prop) (i : Nat) (x : Int32), Wp 0 35 (ls) (.int x :: .ref i :: st) (n, sl, C, Z, I, L, R) Q ↔ (C i = 1 ∧ Wp 0 38 (ls) (st) (n, sl, C, Z, u2 I i 4 x, L, R) Q)) ∧
  (∀ (ls : Lo) (st : List Value) (h : Hp) (Q : Option Value → Hp → Prop)  (i : Nat), Wp 0 38 (some (.ref i) :: ls) (st) h Q ↔ Wp 0 39 (some (.ref i) :: ls) (.ref i :: st) h Q) ∧
  (∀ (ls : Lo) (st : List Value) (h : Hp) (Q : Option Value → Hp → Prop), Wp 0 39 (ls) (st) h Q ↔ Wp 0 40 (ls) (.int (0) :: st) h Q) ∧
  (∀ (ls : Lo) (st : List Value) (n sl : Nat) (C Z : Nat → Nat) (I : Nat → Nat → Int32) (L : Nat → Nat → Int64) (R : Nat → Nat → Nat) (Q : Option Value → Hp → Prop) (i : Nat) (x : Int32), Wp 0 40 (ls) (.int x :: .ref i :: st) (n, sl, C, Z, I, L, R) Q ↔ ((C i = 1 ∧ (x = 0 ∨ x = 1)) ∧ Wp 0 43 (ls) (st) (n, sl, C, Z, u2 I i 5 x, L, R) Q)) ∧
  (∀ (ls : Lo) (h : Hp) (Q : Option Value → Hp → Prop), Wp 0 43 (ls) ([]) h Q ↔ Q none h) := ⟨by intro ls st h Q i; exact e_aload_n d0_0 rfl,
  by intro ls st h Q i; exact e_oi (na := 0) d0_1 rfl (by decide +kernel),
  by intro ls st h Q i; exact e_aload_n d0_4 rfl,
  by intro ls st h Q; exact e_iconst d0_5 rfl,
  by intro ls st h Q; exact e_iconst d0_6 rfl,
  by intro ls st h Q x y; exact e_mna (p := 213) d0_7 rfl,
  by intro ls st n sl C Z I L R Q i j; exact e_putR (g := 0) (s := 0) d0_11 rfl (Or.inr ⟨by decide +kernel, rfl, rfl⟩) (inG_ne (by decide)),
  by intro ls st h Q i; exact e_aload_n d0_14 rfl,
  by intro ls st h Q; exact e_iconst d0_15 rfl,
  by intro ls st n sl C Z I L R Q x; exact e_newL d0_16,
  by intro ls st n sl C Z I L R Q i j; exact e_putR (g := 0) (s := 1) d0_18 rfl (Or.inr ⟨by decide +kernel, rfl, rfl⟩) (inG_ne (by decide)),
  by intro ls st h Q i; exact e_aload_n d0_21 rfl,
  by intro ls st h Q; exact e_iconst d0_22 rfl,
  by intro ls st n sl C Z I L R Q x; exact e_newL d0_23,
  by intro ls st n sl C Z I L R Q i j; exact e_putR (g := 0) (s := 2) d0_25 rfl (Or.inr ⟨by decide +kernel, rfl, rfl⟩) (inG_ne (by decide)),
  by intro ls st h Q i; exact e_aload_n d0_28 rfl,
  by intro ls st h Q; exact e_lconst d0_29 rfl,
  by intro ls st n sl C Z I L R Q i a; exact e_putL (g := 0) (s := 3) d0_30 rfl (Or.inl rfl) (inG_ne (by decide)),
  by intro ls st h Q i; exact e_aload_n d0_33 rfl,
  by intro ls st h Q; exact e_iconst d0_34 rfl,
  by intro ls st n sl C Z I L R Q i x; exact e_putI (g := 0) (s := 4) d0_35 rfl (Or.inl rfl) (inG_ne (by decide)),
  by intro ls st h Q i; exact e_aload_n d0_38 rfl,
  by intro ls st h Q; exact e_iconst d0_39 rfl,
  by intro ls st n sl C Z I L R Q i x; exact e_putZ (g := 0) (s := 5) d0_40 rfl (Or.inl rfl) (inG_ne (by decide)),
  by intros; exact e_rV d0_43 rfl⟩
theorem d1_0 : decode (byt 1) 0 = .ok (.aload_n 0, 1) := by decide +kernel
theorem d1_1 : decode (byt 1) 1 = .ok (.aload_n 1, 1) := by decide +kernel
theorem d1_2 : decode (byt 1) 2 = .ok (.getfield 35, 3) := by decide +kernel
theorem d1_5 : decode (byt 1) 5 = .ok (.putfield 27, 3) := by decide +kernel
theorem d1_8 : decode (byt 1) 8 = .ok (.aload_n 0, 1) := by decide +kernel
theorem d1_9 : decode (byt 1) 9 = .ok (.iconst 0, 1) := by decide +kernel
theorem d1_10 : decode (byt 1) 10 = .ok (.putfield 31, 3) := by decide +kernel
theorem d1_13 : decode (byt 1) 13 = .ok (.aload_n 0, 1) := by decide +kernel
theorem d1_14 : decode (byt 1) 14 = .ok (.getfield 27, 3) := by decide +kernel
theorem d1_17 : decode (byt 1) 17 = .ok (.iconst 2, 1) := by decide +kernel
theorem d1_18 : decode (byt 1) 18 = .ok (.if_icmp .le 4, 3) := by decide +kernel
theorem d1_21 : decode (byt 1) 21 = .ok (.return_, 1) := by decide +kernel
theorem d1_22 : decode (byt 1) 22 = .ok (.aload_n 1, 1) := by decide +kernel
theorem d1_23 : decode (byt 1) 23 = .ok (.instanceof 38, 3) := by decide +kernel
theorem d1_26 : decode (byt 1) 26 = .ok (.ifCond .eq 43, 3) := by decide +kernel
theorem d1_29 : decode (byt 1) 29 = .ok (.aload_n 0, 1) := by decide +kernel
theorem d1_30 : decode (byt 1) 30 = .ok (.aload_n 1, 1) := by decide +kernel
theorem d1_31 : decode (byt 1) 31 = .ok (.getfield 40, 3) := by decide +kernel
theorem d1_34 : decode (byt 1) 34 = .ok (.iconst 0, 1) := by decide +kernel
theorem d1_35 : decode (byt 1) 35 = .ok (.iaload, 1) := by decide +kernel
theorem d1_36 : decode (byt 1) 36 = .ok (.i2l, 1) := by decide +kernel
theorem d1_37 : decode (byt 1) 37 = .ok (.aload_n 1, 1) := by decide +kernel
theorem d1_38 : decode (byt 1) 38 = .ok (.getfield 40, 3) := by decide +kernel
theorem d1_41 : decode (byt 1) 41 = .ok (.iconst 1, 1) := by decide +kernel
theorem d1_42 : decode (byt 1) 42 = .ok (.iaload, 1) := by decide +kernel
theorem d1_43 : decode (byt 1) 43 = .ok (.i2l, 1) := by decide +kernel
theorem d1_44 : decode (byt 1) 44 = .ok (.aload_n 1, 1) := by decide +kernel
theorem d1_45 : decode (byt 1) 45 = .ok (.getfield 40, 3) := by decide +kernel
theorem d1_48 : decode (byt 1) 48 = .ok (.iconst 3, 1) := by decide +kernel
theorem d1_49 : decode (byt 1) 49 = .ok (.iaload, 1) := by decide +kernel
theorem d1_50 : decode (byt 1) 50 = .ok (.i2l, 1) := by decide +kernel
theorem d1_51 : decode (byt 1) 51 = .ok (.aload_n 1, 1) := by decide +kernel
theorem d1_52 : decode (byt 1) 52 = .ok (.getfield 40, 3) := by decide +kernel
theorem d1_55 : decode (byt 1) 55 = .ok (.iconst 4, 1) := by decide +kernel
theorem d1_56 : decode (byt 1) 56 = .ok (.iaload, 1) := by decide +kernel
theorem d1_57 : decode (byt 1) 57 = .ok (.i2l, 1) := by decide +kernel
theorem d1_58 : decode (byt 1) 58 = .ok (.aload_n 1, 1) := by decide +kernel
theorem d1_59 : decode (byt 1) 59 = .ok (.getfield 44, 3) := by decide +kernel
theorem d1_62 : decode (byt 1) 62 = .ok (.i2l, 1) := by decide +kernel
theorem d1_63 : decode (byt 1) 63 = .ok (.invokevirtual 47, 3) := by decide +kernel
theorem d1_66 : decode (byt 1) 66 = .ok (.goto 40, 3) := by decide +kernel
theorem d1_69 : decode (byt 1) 69 = .ok (.aload_n 0, 1) := by decide +kernel
theorem d1_70 : decode (byt 1) 70 = .ok (.aload_n 1, 1) := by decide +kernel
theorem d1_71 : decode (byt 1) 71 = .ok (.getfield 40, 3) := by decide +kernel
theorem d1_74 : decode (byt 1) 74 = .ok (.iconst 0, 1) := by decide +kernel
theorem d1_75 : decode (byt 1) 75 = .ok (.iaload, 1) := by decide +kernel
theorem d1_76 : decode (byt 1) 76 = .ok (.i2l, 1) := by decide +kernel
theorem d1_77 : decode (byt 1) 77 = .ok (.aload_n 1, 1) := by decide +kernel
theorem d1_78 : decode (byt 1) 78 = .ok (.getfield 40, 3) := by decide +kernel
theorem d1_81 : decode (byt 1) 81 = .ok (.iconst 1, 1) := by decide +kernel
theorem d1_82 : decode (byt 1) 82 = .ok (.iaload, 1) := by decide +kernel
theorem d1_83 : decode (byt 1) 83 = .ok (.i2l, 1) := by decide +kernel
theorem d1_84 : decode (byt 1) 84 = .ok (.aload_n 1, 1) := by decide +kernel
theorem d1_85 : decode (byt 1) 85 = .ok (.getfield 40, 3) := by decide +kernel
theorem d1_88 : decode (byt 1) 88 = .ok (.iconst 3, 1) := by decide +kernel
theorem d1_89 : decode (byt 1) 89 = .ok (.iaload, 1) := by decide +kernel
theorem d1_90 : decode (byt 1) 90 = .ok (.i2l, 1) := by decide +kernel
theorem d1_91 : decode (byt 1) 91 = .ok (.aload_n 1, 1) := by decide +kernel
theorem d1_92 : decode (byt 1) 92 = .ok (.getfield 40, 3) := by decide +kernel
theorem d1_95 : decode (byt 1) 95 = .ok (.iconst 4, 1) := by decide +kernel
theorem d1_96 : decode (byt 1) 96 = .ok (.iaload, 1) := by decide +kernel
theorem d1_97 : decode (byt 1) 97 = .ok (.i2l, 1) := by decide +kernel
theorem d1_98 : decode (byt 1) 98 = .ok (.aload_n 1, 1) := by decide +kernel
theorem d1_99 : decode (byt 1) 99 = .ok (.getfield 44, 3) := by decide +kernel
theorem d1_102 : decode (byt 1) 102 = .ok (.i2l, 1) := by decide +kernel
theorem d1_103 : decode (byt 1) 103 = .ok (.invokevirtual 51, 3) := by decide +kernel
theorem d1_106 : decode (byt 1) 106 = .ok (.aload_n 0, 1) := by decide +kernel
theorem d1_107 : decode (byt 1) 107 = .ok (.getfield 27, 3) := by decide +kernel
theorem d1_110 : decode (byt 1) 110 = .ok (.aload_n 0, 1) := by decide +kernel
theorem d1_111 : decode (byt 1) 111 = .ok (.getfield 27, 3) := by decide +kernel
theorem d1_114 : decode (byt 1) 114 = .ok (.iconst 1, 1) := by decide +kernel
theorem d1_115 : decode (byt 1) 115 = .ok (.iadd, 1) := by decide +kernel
theorem d1_116 : decode (byt 1) 116 = .ok (.imul, 1) := by decide +kernel
theorem d1_117 : decode (byt 1) 117 = .ok (.iconst 2, 1) := by decide +kernel
theorem d1_118 : decode (byt 1) 118 = .ok (.idiv, 1) := by decide +kernel
theorem d1_119 : decode (byt 1) 119 = .ok (.istore_n 2, 1) := by decide +kernel
theorem d1_120 : decode (byt 1) 120 = .ok (.iload_n 2, 1) := by decide +kernel
theorem d1_121 : decode (byt 1) 121 = .ok (.iconst 3, 1) := by decide +kernel
theorem d1_122 : decode (byt 1) 122 = .ok (.if_icmp .ge 14, 3) := by decide +kernel
theorem d1_125 : decode (byt 1) 125 = .ok (.aload_n 0, 1) := by decide +kernel
theorem d1_126 : decode (byt 1) 126 = .ok (.iload_n 2, 1) := by decide +kernel
theorem d1_127 : decode (byt 1) 127 = .ok (.invokevirtual 54, 3) := by decide +kernel
theorem d1_130 : decode (byt 1) 130 = .ok (.iinc 2 1, 3) := by decide +kernel
theorem d1_133 : decode (byt 1) 133 = .ok (.goto (-13), 3) := by decide +kernel
theorem d1_136 : decode (byt 1) 136 = .ok (.aload_n 0, 1) := by decide +kernel
theorem d1_137 : decode (byt 1) 137 = .ok (.aload_n 0, 1) := by decide +kernel
theorem d1_138 : decode (byt 1) 138 = .ok (.getfield 11, 3) := by decide +kernel
theorem d1_141 : decode (byt 1) 141 = .ok (.iconst 0, 1) := by decide +kernel
theorem d1_142 : decode (byt 1) 142 = .ok (.aaload, 1) := by decide +kernel
theorem d1_143 : decode (byt 1) 143 = .ok (.aload_n 0, 1) := by decide +kernel
theorem d1_144 : decode (byt 1) 144 = .ok (.getfield 11, 3) := by decide +kernel
theorem d1_147 : decode (byt 1) 147 = .ok (.iconst 1, 1) := by decide +kernel
theorem d1_148 : decode (byt 1) 148 = .ok (.aaload, 1) := by decide +kernel
theorem d1_149 : decode (byt 1) 149 = .ok (.aload_n 0, 1) := by decide +kernel
theorem d1_150 : decode (byt 1) 150 = .ok (.getfield 11, 3) := by decide +kernel
theorem d1_153 : decode (byt 1) 153 = .ok (.iconst 2, 1) := by decide +kernel
theorem d1_154 : decode (byt 1) 154 = .ok (.aaload, 1) := by decide +kernel
theorem d1_155 : decode (byt 1) 155 = .ok (.invokestatic 58, 3) := by decide +kernel
theorem d1_158 : decode (byt 1) 158 = .ok (.putfield 23, 3) := by decide +kernel
theorem d1_161 : decode (byt 1) 161 = .ok (.aload_n 0, 1) := by decide +kernel
theorem d1_162 : decode (byt 1) 162 = .ok (.getfield 20, 3) := by decide +kernel
theorem d1_165 : decode (byt 1) 165 = .ok (.iconst 0, 1) := by decide +kernel
theorem d1_166 : decode (byt 1) 166 = .ok (.aload_n 0, 1) := by decide +kernel
theorem d1_167 : decode (byt 1) 167 = .ok (.getfield 16, 3) := by decide +kernel
theorem d1_170 : decode (byt 1) 170 = .ok (.aload_n 0, 1) := by decide +kernel
theorem d1_171 : decode (byt 1) 171 = .ok (.getfield 11, 3) := by decide +kernel
theorem d1_174 : decode (byt 1) 174 = .ok (.iconst 1, 1) := by decide +kernel
theorem d1_175 : decode (byt 1) 175 = .ok (.aaload, 1) := by decide +kernel
theorem d1_176 : decode (byt 1) 176 = .ok (.aload_n 0, 1) := by decide +kernel
theorem d1_177 : decode (byt 1) 177 = .ok (.getfield 11, 3) := by decide +kernel
theorem d1_180 : decode (byt 1) 180 = .ok (.iconst 2, 1) := by decide +kernel
theorem d1_181 : decode (byt 1) 181 = .ok (.aaload, 1) := by decide +kernel
theorem d1_182 : decode (byt 1) 182 = .ok (.invokestatic 58, 3) := by decide +kernel
theorem d1_185 : decode (byt 1) 185 = .ok (.lastore, 1) := by decide +kernel
theorem d1_186 : decode (byt 1) 186 = .ok (.aload_n 0, 1) := by decide +kernel
theorem d1_187 : decode (byt 1) 187 = .ok (.getfield 20, 3) := by decide +kernel
theorem d1_190 : decode (byt 1) 190 = .ok (.iconst 1, 1) := by decide +kernel
theorem d1_191 : decode (byt 1) 191 = .ok (.aload_n 0, 1) := by decide +kernel
theorem d1_192 : decode (byt 1) 192 = .ok (.getfield 11, 3) := by decide +kernel
theorem d1_195 : decode (byt 1) 195 = .ok (.iconst 0, 1) := by decide +kernel
theorem d1_196 : decode (byt 1) 196 = .ok (.aaload, 1) := by decide +kernel
theorem d1_197 : decode (byt 1) 197 = .ok (.aload_n 0, 1) := by decide +kernel
theorem d1_198 : decode (byt 1) 198 = .ok (.getfield 16, 3) := by decide +kernel
theorem d1_201 : decode (byt 1) 201 = .ok (.aload_n 0, 1) := by decide +kernel
theorem d1_202 : decode (byt 1) 202 = .ok (.getfield 11, 3) := by decide +kernel
theorem d1_205 : decode (byt 1) 205 = .ok (.iconst 2, 1) := by decide +kernel
theorem d1_206 : decode (byt 1) 206 = .ok (.aaload, 1) := by decide +kernel
theorem d1_207 : decode (byt 1) 207 = .ok (.invokestatic 58, 3) := by decide +kernel
theorem d1_210 : decode (byt 1) 210 = .ok (.lastore, 1) := by decide +kernel
theorem d1_211 : decode (byt 1) 211 = .ok (.aload_n 0, 1) := by decide +kernel
theorem d1_212 : decode (byt 1) 212 = .ok (.getfield 20, 3) := by decide +kernel
theorem d1_215 : decode (byt 1) 215 = .ok (.iconst 2, 1) := by decide +kernel
theorem d1_216 : decode (byt 1) 216 = .ok (.aload_n 0, 1) := by decide +kernel
theorem d1_217 : decode (byt 1) 217 = .ok (.getfield 11, 3) := by decide +kernel
theorem d1_220 : decode (byt 1) 220 = .ok (.iconst 0, 1) := by decide +kernel
theorem d1_221 : decode (byt 1) 221 = .ok (.aaload, 1) := by decide +kernel
theorem d1_222 : decode (byt 1) 222 = .ok (.aload_n 0, 1) := by decide +kernel
theorem d1_223 : decode (byt 1) 223 = .ok (.getfield 11, 3) := by decide +kernel
theorem d1_226 : decode (byt 1) 226 = .ok (.iconst 1, 1) := by decide +kernel
theorem d1_227 : decode (byt 1) 227 = .ok (.aaload, 1) := by decide +kernel
theorem d1_228 : decode (byt 1) 228 = .ok (.aload_n 0, 1) := by decide +kernel
theorem d1_229 : decode (byt 1) 229 = .ok (.getfield 16, 3) := by decide +kernel
theorem d1_232 : decode (byt 1) 232 = .ok (.invokestatic 58, 3) := by decide +kernel
theorem d1_235 : decode (byt 1) 235 = .ok (.lastore, 1) := by decide +kernel
theorem d1_236 : decode (byt 1) 236 = .ok (.aload_n 0, 1) := by decide +kernel
theorem d1_237 : decode (byt 1) 237 = .ok (.aload_n 0, 1) := by decide +kernel
theorem d1_238 : decode (byt 1) 238 = .ok (.getfield 23, 3) := by decide +kernel
theorem d1_241 : decode (byt 1) 241 = .ok (.lconst 0, 1) := by decide +kernel
theorem d1_242 : decode (byt 1) 242 = .ok (.lcmp, 1) := by decide +kernel
theorem d1_243 : decode (byt 1) 243 = .ok (.ifCond .eq 7, 3) := by decide +kernel
theorem d1_246 : decode (byt 1) 246 = .ok (.iconst 1, 1) := by decide +kernel
theorem d1_247 : decode (byt 1) 247 = .ok (.goto 4, 3) := by decide +kernel
theorem d1_250 : decode (byt 1) 250 = .ok (.iconst 0, 1) := by decide +kernel
theorem d1_251 : decode (byt 1) 251 = .ok (.putfield 31, 3) := by decide +kernel
theorem d1_254 : decode (byt 1) 254 = .ok (.return_, 1) := by decide +kernel
set_option maxRecDepth 20000 in
theorem S1_0 : (∀ (ls : Lo) (st : List Value) (h : Hp) (Q : Option Value → Hp → Prop)  (i : Nat), Wp 1 0 (some (.ref i) :: ls) (st) h Q ↔ Wp 1 1 (some (.ref i) :: ls) (.ref i :: st) h Q) ∧
  (∀ (ls : Lo) (st : List Value) (h : Hp) (Q : Option Value → Hp → Prop) (l0 : Option Value) (i : Nat), Wp 1 1 (l0 :: some (.ref i) :: ls) (st) h Q ↔ Wp 1 2 (l0 :: some (.ref i) :: ls) (.ref i :: st) h Q) ∧
  (∀ (ls : Lo) (st : List Value) (n sl : Nat) (C Z : Nat → Nat) (I : Nat → Nat → Int32) (L : Nat → Nat → Int64) (R : Nat → Nat → Nat) (Q : Option Value → Hp → Prop) (i : Nat), Wp 1 2 (ls) (.ref i :: st) (n, sl, C, Z, I, L, R) Q ↔ (inG 7 (C i) = true ∧ Wp 1 5 (ls) (.int (I i 1) :: st) (n, sl, C, Z, I, L, R) Q)) ∧
  (∀ (ls : Lo) (st : List Value) (n sl : Nat) (C Z : Nat → Nat) (I : Nat → Nat → Int32) (L : Nat → Nat → Int64) (R : Nat → Nat → Nat) (Q : Option Value → Hp → Prop) (i : Nat) (x : Int32), Wp 1 5 (ls) (.int x :: .ref i :: st) (n, sl, C, Z, I, L, R) Q ↔ (C i = 1 ∧ Wp 1 8 (ls) (st) (n, sl, C, Z, u2 I i 4 x, L, R) Q)) ∧
  (∀ (ls : Lo) (st : List Value) (h : Hp) (Q : Option Value → Hp → Prop)  (i : Nat), Wp 1 8 (some (.ref i) :: ls) (st) h Q ↔ Wp 1 9 (some (.ref i) :: ls) (.ref i :: st) h Q) ∧
  (∀ (ls : Lo) (st : List Value) (h : Hp) (Q : Option Value → Hp → Prop), Wp 1 9 (ls) (st) h Q ↔ Wp 1 10 (ls) (.int (0) :: st) h Q) ∧
  (∀ (ls : Lo) (st : List Value) (n sl : Nat) (C Z : Nat → Nat) (I : Nat → Nat → Int32) (L : Nat → Nat → Int64) (R : Nat → Nat → Nat) (Q : Option Value → Hp → Prop) (i : Nat) (x : Int32), Wp 1 10 (ls) (.int x :: .ref i :: st) (n, sl, C, Z, I, L, R) Q ↔ ((C i = 1 ∧ (x = 0 ∨ x = 1)) ∧ Wp 1 13 (ls) (st) (n, sl, C, Z, u2 I i 5 x, L, R) Q)) ∧
  (∀ (ls : Lo) (st : List Value) (h : Hp) (Q : Option Value → Hp → Prop)  (i : Nat), Wp 1 13 (some (.ref i) :: ls) (st) h Q ↔ Wp 1 14 (some (.ref i) :: ls) (.ref i :: st) h Q) ∧
  (∀ (ls : Lo) (st : List Value) (n sl : Nat) (C Z : Nat → Nat) (I : Nat → Nat → Int32) (L : Nat → Nat → Int64) (R : Nat → Nat → Nat) (Q : Option Value → Hp → Prop) (i : Nat), Wp 1 14 (ls) (.ref i :: st) (n, sl, C, Z, I, L, R) Q ↔ (C i = 1 ∧ Wp 1 17 (ls) (.int (I i 4) :: st) (n, sl, C, Z, I, L, R) Q)) ∧
  (∀ (ls : Lo) (st : List Value) (h : Hp) (Q : Option Value → Hp → Prop), Wp 1 17 (ls) (st) h Q ↔ Wp 1 18 (ls) (.int (2) :: st) h Q) ∧
  (∀ (ls : Lo) (st : List Value) (h : Hp) (Q : Option Value → Hp → Prop) (x y : Int32), Wp 1 18 (ls) (.int y :: .int x :: st) h Q ↔ Br 1 22 21 ls st h Q (x ≤ y)) ∧
  (∀ (ls : Lo) (h : Hp) (Q : Option Value → Hp → Prop), Wp 1 21 (ls) ([]) h Q ↔ Q none h) ∧
  (∀ (ls : Lo) (st : List Value) (h : Hp) (Q : Option Value → Hp → Prop) (l0 : Option Value) (i : Nat), Wp 1 22 (l0 :: some (.ref i) :: ls) (st) h Q ↔ Wp 1 23 (l0 :: some (.ref i) :: ls) (.ref i :: st) h Q) ∧
  (∀ (ls : Lo) (st : List Value) (n sl : Nat) (C Z : Nat → Nat) (I : Nat → Nat → Int32) (L : Nat → Nat → Int64) (R : Nat → Nat → Nat) (Q : Option Value → Hp → Prop) (i : Nat), Wp 1 23 (ls) (.ref i :: st) (n, sl, C, Z, I, L, R) Q ↔ (inG 7 (C i) = true ∧ Wp 1 26 (ls) (.int (if isa (C i) 1 = true then 1 else 0) :: st) (n, sl, C, Z, I, L, R) Q)) ∧
  (∀ (ls : Lo) (st : List Value) (h : Hp) (Q : Option Value → Hp → Prop) (x : Int32), Wp 1 26 (ls) (.int x :: st) h Q ↔ Br 1 69 29 ls st h Q (x = 0)) ∧
  (∀ (ls : Lo) (st : List Value) (h : Hp) (Q : Option Value → Hp → Prop)  (i : Nat), Wp 1 29 (some (.ref i) :: ls) (st) h Q ↔ Wp 1 30 (some (.ref i) :: ls) (.ref i :: st) h Q) ∧
  (∀ (ls : Lo) (st : List Value) (h : Hp) (Q : Option Value → Hp → Prop) (l0 : Option Value) (i : Nat), Wp 1 30 (l0 :: some (.ref i) :: ls) (st) h Q ↔ Wp 1 31 (l0 :: some (.ref i) :: ls) (.ref i :: st) h Q) ∧
  (∀ (ls : Lo) (st : List Value) (n sl : Nat) (C Z : Nat → Nat) (I : Nat → Nat → Int32) (L : Nat → Nat → Int64) (R : Nat → Nat → Nat) (Q : Option Value → Hp → Prop) (i : Nat), Wp 1 31 (ls) (.ref i :: st) (n, sl, C, Z, I, L, R) Q ↔ (inG 7 (C i) = true ∧ Wp 1 34 (ls) (.ref (R i 3) :: st) (n, sl, C, Z, I, L, R) Q)) ∧
  (∀ (ls : Lo) (st : List Value) (h : Hp) (Q : Option Value → Hp → Prop), Wp 1 34 (ls) (st) h Q ↔ Wp 1 35 (ls) (.int (0) :: st) h Q) ∧
  (∀ (ls : Lo) (st : List Value) (n sl : Nat) (C Z : Nat → Nat) (I : Nat → Nat → Int32) (L : Nat → Nat → Int64) (R : Nat → Nat → Nat) (Q : Option Value → Hp → Prop) (i : Nat) (y : Int32), Wp 1 35 (ls) (.int y :: .ref i :: st) (n, sl, C, Z, I, L, R) Q ↔ ((inb y (Z i) = true ∧ C i = 21) ∧ Wp 1 36 (ls) (.int (I i (ix y)) :: st) (n, sl, C, Z, I, L, R) Q)) ∧
  (∀ (ls : Lo) (st : List Value) (h : Hp) (Q : Option Value → Hp → Prop) (x : Int32), Wp 1 36 (ls) (.int x :: st) h Q ↔ Wp 1 37 (ls) (.long x.toInt64 :: st) h Q) ∧
  (∀ (ls : Lo) (st : List Value) (h : Hp) (Q : Option Value → Hp → Prop) (l0 : Option Value) (i : Nat), Wp 1 37 (l0 :: some (.ref i) :: ls) (st) h Q ↔ Wp 1 38 (l0 :: some (.ref i) :: ls) (.ref i :: st) h Q) ∧
  (∀ (ls : Lo) (st : List Value) (n sl : Nat) (C Z : Nat → Nat) (I : Nat → Nat → Int32) (L : Nat → Nat → Int64) (R : Nat → Nat → Nat) (Q : Option Value → Hp → Prop) (i : Nat), Wp 1 38 (ls) (.ref i :: st) (n, sl, C, Z, I, L, R) Q ↔ (inG 7 (C i) = true ∧ Wp 1 41 (ls) (.ref (R i 3) :: st) (n, sl, C, Z, I, L, R) Q)) ∧
  (∀ (ls : Lo) (st : List Value) (h : Hp) (Q : Option Value → Hp → Prop), Wp 1 41 (ls) (st) h Q ↔ Wp 1 42 (ls) (.int (1) :: st) h Q) ∧
  (∀ (ls : Lo) (st : List Value) (n sl : Nat) (C Z : Nat → Nat) (I : Nat → Nat → Int32) (L : Nat → Nat → Int64) (R : Nat → Nat → Nat) (Q : Option Value → Hp → Prop) (i : Nat) (y : Int32), Wp 1 42 (ls) (.int y :: .ref i :: st) (n, sl, C, Z, I, L, R) Q ↔ ((inb y (Z i) = true ∧ C i = 21) ∧ Wp 1 43 (ls) (.int (I i (ix y)) :: st) (n, sl, C, Z, I, L, R) Q)) := ⟨by intro ls st h Q i; exact e_aload_n d1_0 rfl,
  by intro ls st h Q l0 i; exact e_aload_n d1_1 rfl,
  by intro ls st n sl C Z I L R Q i; exact e_get (g := 7) (s := 1) (ty := 0) d1_2 rfl rfl rfl,
  by intro ls st n sl C Z I L R Q i x; exact e_putI (g := 0) (s := 4) d1_5 rfl (Or.inl rfl) (inG_ne (by decide)),
  by intro ls st h Q i; exact e_aload_n d1_8 rfl,
  by intro ls st h Q; exact e_iconst d1_9 rfl,
  by intro ls st n sl C Z I L R Q i x; exact e_putZ (g := 0) (s := 5) d1_10 rfl (Or.inl rfl) (inG_ne (by decide)),
  by intro ls st h Q i; exact e_aload_n d1_13 rfl,
  by intro ls st n sl C Z I L R Q i; exact e_get (g := 0) (s := 4) (ty := 0) d1_14 rfl rfl (inG_ne (by decide)),
  by intro ls st h Q; exact e_iconst d1_17 rfl,
  by intro ls st h Q x y; exact e_ic d1_18 (by decide) c_le,
  by intros; exact e_rV d1_21 rfl,
  by intro ls st h Q l0 i; exact e_aload_n d1_22 rfl,
  by intro ls st n sl C Z I L R Q i; exact e_io (p := 446) (c := 1) d1_23 rfl (by decide),
  by intro ls st h Q x; exact e_if d1_26 (by decide) c_eq,
  by intro ls st h Q i; exact e_aload_n d1_29 rfl,
  by intro ls st h Q l0 i; exact e_aload_n d1_30 rfl,
  by intro ls st n sl C Z I L R Q i; exact e_get (g := 7) (s := 3) (ty := 2) d1_31 rfl rfl rfl,
  by intro ls st h Q; exact e_iconst d1_34 rfl,
  by intro ls st n sl C Z I L R Q i y; exact e_iald d1_35,
  by intro ls st h Q x; exact e_i2l d1_36,
  by intro ls st h Q l0 i; exact e_aload_n d1_37 rfl,
  by intro ls st n sl C Z I L R Q i; exact e_get (g := 7) (s := 3) (ty := 2) d1_38 rfl rfl rfl,
  by intro ls st h Q; exact e_iconst d1_41 rfl,
  by intro ls st n sl C Z I L R Q i y; exact e_iald d1_42⟩
set_option maxRecDepth 20000 in
theorem S1_1 : (∀ (ls : Lo) (st : List Value) (h : Hp) (Q : Option Value → Hp → Prop) (x : Int32), Wp 1 43 (ls) (.int x :: st) h Q ↔ Wp 1 44 (ls) (.long x.toInt64 :: st) h Q) ∧
  (∀ (ls : Lo) (st : List Value) (h : Hp) (Q : Option Value → Hp → Prop) (l0 : Option Value) (i : Nat), Wp 1 44 (l0 :: some (.ref i) :: ls) (st) h Q ↔ Wp 1 45 (l0 :: some (.ref i) :: ls) (.ref i :: st) h Q) ∧
  (∀ (ls : Lo) (st : List Value) (n sl : Nat) (C Z : Nat → Nat) (I : Nat → Nat → Int32) (L : Nat → Nat → Int64) (R : Nat → Nat → Nat) (Q : Option Value → Hp → Prop) (i : Nat), Wp 1 45 (ls) (.ref i :: st) (n, sl, C, Z, I, L, R) Q ↔ (inG 7 (C i) = true ∧ Wp 1 48 (ls) (.ref (R i 3) :: st) (n, sl, C, Z, I, L, R) Q)) ∧
  (∀ (ls : Lo) (st : List Value) (h : Hp) (Q : Option Value → Hp → Prop), Wp 1 48 (ls) (st) h Q ↔ Wp 1 49 (ls) (.int (3) :: st) h Q) ∧
  (∀ (ls : Lo) (st : List Value) (n sl : Nat) (C Z : Nat → Nat) (I : Nat → Nat → Int32) (L : Nat → Nat → Int64) (R : Nat → Nat → Nat) (Q : Option Value → Hp → Prop) (i : Nat) (y : Int32), Wp 1 49 (ls) (.int y :: .ref i :: st) (n, sl, C, Z, I, L, R) Q ↔ ((inb y (Z i) = true ∧ C i = 21) ∧ Wp 1 50 (ls) (.int (I i (ix y)) :: st) (n, sl, C, Z, I, L, R) Q)) ∧
  (∀ (ls : Lo) (st : List Value) (h : Hp) (Q : Option Value → Hp → Prop) (x : Int32), Wp 1 50 (ls) (.int x :: st) h Q ↔ Wp 1 51 (ls) (.long x.toInt64 :: st) h Q) ∧
  (∀ (ls : Lo) (st : List Value) (h : Hp) (Q : Option Value → Hp → Prop) (l0 : Option Value) (i : Nat), Wp 1 51 (l0 :: some (.ref i) :: ls) (st) h Q ↔ Wp 1 52 (l0 :: some (.ref i) :: ls) (.ref i :: st) h Q) ∧
  (∀ (ls : Lo) (st : List Value) (n sl : Nat) (C Z : Nat → Nat) (I : Nat → Nat → Int32) (L : Nat → Nat → Int64) (R : Nat → Nat → Nat) (Q : Option Value → Hp → Prop) (i : Nat), Wp 1 52 (ls) (.ref i :: st) (n, sl, C, Z, I, L, R) Q ↔ (inG 7 (C i) = true ∧ Wp 1 55 (ls) (.ref (R i 3) :: st) (n, sl, C, Z, I, L, R) Q)) ∧
  (∀ (ls : Lo) (st : List Value) (h : Hp) (Q : Option Value → Hp → Prop), Wp 1 55 (ls) (st) h Q ↔ Wp 1 56 (ls) (.int (4) :: st) h Q) ∧
  (∀ (ls : Lo) (st : List Value) (n sl : Nat) (C Z : Nat → Nat) (I : Nat → Nat → Int32) (L : Nat → Nat → Int64) (R : Nat → Nat → Nat) (Q : Option Value → Hp → Prop) (i : Nat) (y : Int32), Wp 1 56 (ls) (.int y :: .ref i :: st) (n, sl, C, Z, I, L, R) Q ↔ ((inb y (Z i) = true ∧ C i = 21) ∧ Wp 1 57 (ls) (.int (I i (ix y)) :: st) (n, sl, C, Z, I, L, R) Q)) ∧
  (∀ (ls : Lo) (st : List Value) (h : Hp) (Q : Option Value → Hp → Prop) (x : Int32), Wp 1 57 (ls) (.int x :: st) h Q ↔ Wp 1 58 (ls) (.long x.toInt64 :: st) h Q) ∧
  (∀ (ls : Lo) (st : List Value) (h : Hp) (Q : Option Value → Hp → Prop) (l0 : Option Value) (i : Nat), Wp 1 58 (l0 :: some (.ref i) :: ls) (st) h Q ↔ Wp 1 59 (l0 :: some (.ref i) :: ls) (.ref i :: st) h Q) ∧
  (∀ (ls : Lo) (st : List Value) (n sl : Nat) (C Z : Nat → Nat) (I : Nat → Nat → Int32) (L : Nat → Nat → Int64) (R : Nat → Nat → Nat) (Q : Option Value → Hp → Prop) (i : Nat), Wp 1 59 (ls) (.ref i :: st) (n, sl, C, Z, I, L, R) Q ↔ (inG 7 (C i) = true ∧ Wp 1 62 (ls) (.int (I i 2) :: st) (n, sl, C, Z, I, L, R) Q)) ∧
  (∀ (ls : Lo) (st : List Value) (h : Hp) (Q : Option Value → Hp → Prop) (x : Int32), Wp 1 62 (ls) (.int x :: st) h Q ↔ Wp 1 63 (ls) (.long x.toInt64 :: st) h Q) ∧
  (∀ (ls : Lo) (st : List Value) (n sl : Nat) (C Z : Nat → Nat) (I : Nat → Nat → Int32) (L : Nat → Nat → Int64) (R : Nat → Nat → Nat) (Q : Option Value → Hp → Prop) (x0 : Int64) (x1 : Int64) (x2 : Int64) (x3 : Int64) (x4 : Int64) (i : Nat), C i = 1 → (Wp 1 63 (ls) (.long x4 :: .long x3 :: .long x2 :: .long x1 :: .long x0 :: .ref i :: st) (n, sl, C, Z, I, L, R) Q ↔ (wsum st ≤ 8 ∧ Call 3 [some (.ref i), some (.long x0), none, some (.long x1), none, some (.long x2), none, some (.long x3), none, some (.long x4), none] (n, sl, C, Z, I, L, R) 1 66 ls st Q))) ∧
  (∀ (ls : Lo) (st : List Value) (h : Hp) (Q : Option Value → Hp → Prop), Wp 1 66 (ls) (st) h Q ↔ Wp 1 106 (ls) (st) h Q) ∧
  (∀ (ls : Lo) (st : List Value) (h : Hp) (Q : Option Value → Hp → Prop)  (i : Nat), Wp 1 69 (some (.ref i) :: ls) (st) h Q ↔ Wp 1 70 (some (.ref i) :: ls) (.ref i :: st) h Q) ∧
  (∀ (ls : Lo) (st : List Value) (h : Hp) (Q : Option Value → Hp → Prop) (l0 : Option Value) (i : Nat), Wp 1 70 (l0 :: some (.ref i) :: ls) (st) h Q ↔ Wp 1 71 (l0 :: some (.ref i) :: ls) (.ref i :: st) h Q) ∧
  (∀ (ls : Lo) (st : List Value) (n sl : Nat) (C Z : Nat → Nat) (I : Nat → Nat → Int32) (L : Nat → Nat → Int64) (R : Nat → Nat → Nat) (Q : Option Value → Hp → Prop) (i : Nat), Wp 1 71 (ls) (.ref i :: st) (n, sl, C, Z, I, L, R) Q ↔ (inG 7 (C i) = true ∧ Wp 1 74 (ls) (.ref (R i 3) :: st) (n, sl, C, Z, I, L, R) Q)) ∧
  (∀ (ls : Lo) (st : List Value) (h : Hp) (Q : Option Value → Hp → Prop), Wp 1 74 (ls) (st) h Q ↔ Wp 1 75 (ls) (.int (0) :: st) h Q) ∧
  (∀ (ls : Lo) (st : List Value) (n sl : Nat) (C Z : Nat → Nat) (I : Nat → Nat → Int32) (L : Nat → Nat → Int64) (R : Nat → Nat → Nat) (Q : Option Value → Hp → Prop) (i : Nat) (y : Int32), Wp 1 75 (ls) (.int y :: .ref i :: st) (n, sl, C, Z, I, L, R) Q ↔ ((inb y (Z i) = true ∧ C i = 21) ∧ Wp 1 76 (ls) (.int (I i (ix y)) :: st) (n, sl, C, Z, I, L, R) Q)) ∧
  (∀ (ls : Lo) (st : List Value) (h : Hp) (Q : Option Value → Hp → Prop) (x : Int32), Wp 1 76 (ls) (.int x :: st) h Q ↔ Wp 1 77 (ls) (.long x.toInt64 :: st) h Q) ∧
  (∀ (ls : Lo) (st : List Value) (h : Hp) (Q : Option Value → Hp → Prop) (l0 : Option Value) (i : Nat), Wp 1 77 (l0 :: some (.ref i) :: ls) (st) h Q ↔ Wp 1 78 (l0 :: some (.ref i) :: ls) (.ref i :: st) h Q) ∧
  (∀ (ls : Lo) (st : List Value) (n sl : Nat) (C Z : Nat → Nat) (I : Nat → Nat → Int32) (L : Nat → Nat → Int64) (R : Nat → Nat → Nat) (Q : Option Value → Hp → Prop) (i : Nat), Wp 1 78 (ls) (.ref i :: st) (n, sl, C, Z, I, L, R) Q ↔ (inG 7 (C i) = true ∧ Wp 1 81 (ls) (.ref (R i 3) :: st) (n, sl, C, Z, I, L, R) Q)) ∧
  (∀ (ls : Lo) (st : List Value) (h : Hp) (Q : Option Value → Hp → Prop), Wp 1 81 (ls) (st) h Q ↔ Wp 1 82 (ls) (.int (1) :: st) h Q) := ⟨by intro ls st h Q x; exact e_i2l d1_43,
  by intro ls st h Q l0 i; exact e_aload_n d1_44 rfl,
  by intro ls st n sl C Z I L R Q i; exact e_get (g := 7) (s := 3) (ty := 2) d1_45 rfl rfl rfl,
  by intro ls st h Q; exact e_iconst d1_48 rfl,
  by intro ls st n sl C Z I L R Q i y; exact e_iald d1_49,
  by intro ls st h Q x; exact e_i2l d1_50,
  by intro ls st h Q l0 i; exact e_aload_n d1_51 rfl,
  by intro ls st n sl C Z I L R Q i; exact e_get (g := 7) (s := 3) (ty := 2) d1_52 rfl rfl rfl,
  by intro ls st h Q; exact e_iconst d1_55 rfl,
  by intro ls st n sl C Z I L R Q i y; exact e_iald d1_56,
  by intro ls st h Q x; exact e_i2l d1_57,
  by intro ls st h Q l0 i; exact e_aload_n d1_58 rfl,
  by intro ls st n sl C Z I L R Q i; exact e_get (g := 7) (s := 2) (ty := 0) d1_59 rfl rfl rfl,
  by intro ls st h Q x; exact e_i2l d1_62,
  by intro ls st n sl C Z I L R Q x0 x1 x2 x3 x4 i hh; exact e_iv (k2 := 3) (c := 1) (as := [.long x0, .long x1, .long x2, .long x3, .long x4]) d1_63 rfl (by decide) rfl rfl (by decide +kernel) (Nat.le_of_ble_eq_true rfl) rfl hh,
  by intro ls st h Q; exact e_goto d1_66 (by decide),
  by intro ls st h Q i; exact e_aload_n d1_69 rfl,
  by intro ls st h Q l0 i; exact e_aload_n d1_70 rfl,
  by intro ls st n sl C Z I L R Q i; exact e_get (g := 7) (s := 3) (ty := 2) d1_71 rfl rfl rfl,
  by intro ls st h Q; exact e_iconst d1_74 rfl,
  by intro ls st n sl C Z I L R Q i y; exact e_iald d1_75,
  by intro ls st h Q x; exact e_i2l d1_76,
  by intro ls st h Q l0 i; exact e_aload_n d1_77 rfl,
  by intro ls st n sl C Z I L R Q i; exact e_get (g := 7) (s := 3) (ty := 2) d1_78 rfl rfl rfl,
  by intro ls st h Q; exact e_iconst d1_81 rfl⟩
set_option maxRecDepth 20000 in
theorem S1_2 : (∀ (ls : Lo) (st : List Value) (n sl : Nat) (C Z : Nat → Nat) (I : Nat → Nat → Int32) (L : Nat → Nat → Int64) (R : Nat → Nat → Nat) (Q : Option Value → Hp → Prop) (i : Nat) (y : Int32), Wp 1 82 (ls) (.int y :: .ref i :: st) (n, sl, C, Z, I, L, R) Q ↔ ((inb y (Z i) = true ∧ C i = 21) ∧ Wp 1 83 (ls) (.int (I i (ix y)) :: st) (n, sl, C, Z, I, L, R) Q)) ∧
  (∀ (ls : Lo) (st : List Value) (h : Hp) (Q : Option Value → Hp → Prop) (x : Int32), Wp 1 83 (ls) (.int x :: st) h Q ↔ Wp 1 84 (ls) (.long x.toInt64 :: st) h Q) ∧
  (∀ (ls : Lo) (st : List Value) (h : Hp) (Q : Option Value → Hp → Prop) (l0 : Option Value) (i : Nat), Wp 1 84 (l0 :: some (.ref i) :: ls) (st) h Q ↔ Wp 1 85 (l0 :: some (.ref i) :: ls) (.ref i :: st) h Q) ∧
  (∀ (ls : Lo) (st : List Value) (n sl : Nat) (C Z : Nat → Nat) (I : Nat → Nat → Int32) (L : Nat → Nat → Int64) (R : Nat → Nat → Nat) (Q : Option Value → Hp → Prop) (i : Nat), Wp 1 85 (ls) (.ref i :: st) (n, sl, C, Z, I, L, R) Q ↔ (inG 7 (C i) = true ∧ Wp 1 88 (ls) (.ref (R i 3) :: st) (n, sl, C, Z, I, L, R) Q)) ∧
  (∀ (ls : Lo) (st : List Value) (h : Hp) (Q : Option Value → Hp → Prop), Wp 1 88 (ls) (st) h Q ↔ Wp 1 89 (ls) (.int (3) :: st) h Q) ∧
  (∀ (ls : Lo) (st : List Value) (n sl : Nat) (C Z : Nat → Nat) (I : Nat → Nat → Int32) (L : Nat → Nat → Int64) (R : Nat → Nat → Nat) (Q : Option Value → Hp → Prop) (i : Nat) (y : Int32), Wp 1 89 (ls) (.int y :: .ref i :: st) (n, sl, C, Z, I, L, R) Q ↔ ((inb y (Z i) = true ∧ C i = 21) ∧ Wp 1 90 (ls) (.int (I i (ix y)) :: st) (n, sl, C, Z, I, L, R) Q)) ∧
  (∀ (ls : Lo) (st : List Value) (h : Hp) (Q : Option Value → Hp → Prop) (x : Int32), Wp 1 90 (ls) (.int x :: st) h Q ↔ Wp 1 91 (ls) (.long x.toInt64 :: st) h Q) ∧
  (∀ (ls : Lo) (st : List Value) (h : Hp) (Q : Option Value → Hp → Prop) (l0 : Option Value) (i : Nat), Wp 1 91 (l0 :: some (.ref i) :: ls) (st) h Q ↔ Wp 1 92 (l0 :: some (.ref i) :: ls) (.ref i :: st) h Q) ∧
  (∀ (ls : Lo) (st : List Value) (n sl : Nat) (C Z : Nat → Nat) (I : Nat → Nat → Int32) (L : Nat → Nat → Int64) (R : Nat → Nat → Nat) (Q : Option Value → Hp → Prop) (i : Nat), Wp 1 92 (ls) (.ref i :: st) (n, sl, C, Z, I, L, R) Q ↔ (inG 7 (C i) = true ∧ Wp 1 95 (ls) (.ref (R i 3) :: st) (n, sl, C, Z, I, L, R) Q)) ∧
  (∀ (ls : Lo) (st : List Value) (h : Hp) (Q : Option Value → Hp → Prop), Wp 1 95 (ls) (st) h Q ↔ Wp 1 96 (ls) (.int (4) :: st) h Q) ∧
  (∀ (ls : Lo) (st : List Value) (n sl : Nat) (C Z : Nat → Nat) (I : Nat → Nat → Int32) (L : Nat → Nat → Int64) (R : Nat → Nat → Nat) (Q : Option Value → Hp → Prop) (i : Nat) (y : Int32), Wp 1 96 (ls) (.int y :: .ref i :: st) (n, sl, C, Z, I, L, R) Q ↔ ((inb y (Z i) = true ∧ C i = 21) ∧ Wp 1 97 (ls) (.int (I i (ix y)) :: st) (n, sl, C, Z, I, L, R) Q)) ∧
  (∀ (ls : Lo) (st : List Value) (h : Hp) (Q : Option Value → Hp → Prop) (x : Int32), Wp 1 97 (ls) (.int x :: st) h Q ↔ Wp 1 98 (ls) (.long x.toInt64 :: st) h Q) ∧
  (∀ (ls : Lo) (st : List Value) (h : Hp) (Q : Option Value → Hp → Prop) (l0 : Option Value) (i : Nat), Wp 1 98 (l0 :: some (.ref i) :: ls) (st) h Q ↔ Wp 1 99 (l0 :: some (.ref i) :: ls) (.ref i :: st) h Q) ∧
  (∀ (ls : Lo) (st : List Value) (n sl : Nat) (C Z : Nat → Nat) (I : Nat → Nat → Int32) (L : Nat → Nat → Int64) (R : Nat → Nat → Nat) (Q : Option Value → Hp → Prop) (i : Nat), Wp 1 99 (ls) (.ref i :: st) (n, sl, C, Z, I, L, R) Q ↔ (inG 7 (C i) = true ∧ Wp 1 102 (ls) (.int (I i 2) :: st) (n, sl, C, Z, I, L, R) Q)) ∧
  (∀ (ls : Lo) (st : List Value) (h : Hp) (Q : Option Value → Hp → Prop) (x : Int32), Wp 1 102 (ls) (.int x :: st) h Q ↔ Wp 1 103 (ls) (.long x.toInt64 :: st) h Q) ∧
  (∀ (ls : Lo) (st : List Value) (n sl : Nat) (C Z : Nat → Nat) (I : Nat → Nat → Int32) (L : Nat → Nat → Int64) (R : Nat → Nat → Nat) (Q : Option Value → Hp → Prop) (x0 : Int64) (x1 : Int64) (x2 : Int64) (x3 : Int64) (x4 : Int64) (i : Nat), C i = 1 → (Wp 1 103 (ls) (.long x4 :: .long x3 :: .long x2 :: .long x1 :: .long x0 :: .ref i :: st) (n, sl, C, Z, I, L, R) Q ↔ (wsum st ≤ 8 ∧ Call 2 [some (.ref i), some (.long x0), none, some (.long x1), none, some (.long x2), none, some (.long x3), none, some (.long x4), none] (n, sl, C, Z, I, L, R) 1 106 ls st Q))) ∧
  (∀ (ls : Lo) (st : List Value) (h : Hp) (Q : Option Value → Hp → Prop)  (i : Nat), Wp 1 106 (some (.ref i) :: ls) (st) h Q ↔ Wp 1 107 (some (.ref i) :: ls) (.ref i :: st) h Q) ∧
  (∀ (ls : Lo) (st : List Value) (n sl : Nat) (C Z : Nat → Nat) (I : Nat → Nat → Int32) (L : Nat → Nat → Int64) (R : Nat → Nat → Nat) (Q : Option Value → Hp → Prop) (i : Nat), Wp 1 107 (ls) (.ref i :: st) (n, sl, C, Z, I, L, R) Q ↔ (C i = 1 ∧ Wp 1 110 (ls) (.int (I i 4) :: st) (n, sl, C, Z, I, L, R) Q)) ∧
  (∀ (ls : Lo) (st : List Value) (h : Hp) (Q : Option Value → Hp → Prop)  (i : Nat), Wp 1 110 (some (.ref i) :: ls) (st) h Q ↔ Wp 1 111 (some (.ref i) :: ls) (.ref i :: st) h Q) ∧
  (∀ (ls : Lo) (st : List Value) (n sl : Nat) (C Z : Nat → Nat) (I : Nat → Nat → Int32) (L : Nat → Nat → Int64) (R : Nat → Nat → Nat) (Q : Option Value → Hp → Prop) (i : Nat), Wp 1 111 (ls) (.ref i :: st) (n, sl, C, Z, I, L, R) Q ↔ (C i = 1 ∧ Wp 1 114 (ls) (.int (I i 4) :: st) (n, sl, C, Z, I, L, R) Q)) ∧
  (∀ (ls : Lo) (st : List Value) (h : Hp) (Q : Option Value → Hp → Prop), Wp 1 114 (ls) (st) h Q ↔ Wp 1 115 (ls) (.int (1) :: st) h Q) ∧
  (∀ (ls : Lo) (st : List Value) (h : Hp) (Q : Option Value → Hp → Prop) (x y : Int32), Wp 1 115 (ls) (.int y :: .int x :: st) h Q ↔ Wp 1 116 (ls) (.int (x + y) :: st) h Q) ∧
  (∀ (ls : Lo) (st : List Value) (h : Hp) (Q : Option Value → Hp → Prop) (x y : Int32), Wp 1 116 (ls) (.int y :: .int x :: st) h Q ↔ Wp 1 117 (ls) (.int (x * y) :: st) h Q) ∧
  (∀ (ls : Lo) (st : List Value) (h : Hp) (Q : Option Value → Hp → Prop), Wp 1 117 (ls) (st) h Q ↔ Wp 1 118 (ls) (.int (2) :: st) h Q) ∧
  (∀ (ls : Lo) (st : List Value) (h : Hp) (Q : Option Value → Hp → Prop) (x y : Int32), Wp 1 118 (ls) (.int y :: .int x :: st) h Q ↔ (¬ y = 0 ∧ Wp 1 119 (ls) (.int (x / y) :: st) h Q)) := ⟨by intro ls st n sl C Z I L R Q i y; exact e_iald d1_82,
  by intro ls st h Q x; exact e_i2l d1_83,
  by intro ls st h Q l0 i; exact e_aload_n d1_84 rfl,
  by intro ls st n sl C Z I L R Q i; exact e_get (g := 7) (s := 3) (ty := 2) d1_85 rfl rfl rfl,
  by intro ls st h Q; exact e_iconst d1_88 rfl,
  by intro ls st n sl C Z I L R Q i y; exact e_iald d1_89,
  by intro ls st h Q x; exact e_i2l d1_90,
  by intro ls st h Q l0 i; exact e_aload_n d1_91 rfl,
  by intro ls st n sl C Z I L R Q i; exact e_get (g := 7) (s := 3) (ty := 2) d1_92 rfl rfl rfl,
  by intro ls st h Q; exact e_iconst d1_95 rfl,
  by intro ls st n sl C Z I L R Q i y; exact e_iald d1_96,
  by intro ls st h Q x; exact e_i2l d1_97,
  by intro ls st h Q l0 i; exact e_aload_n d1_98 rfl,
  by intro ls st n sl C Z I L R Q i; exact e_get (g := 7) (s := 2) (ty := 0) d1_99 rfl rfl rfl,
  by intro ls st h Q x; exact e_i2l d1_102,
  by intro ls st n sl C Z I L R Q x0 x1 x2 x3 x4 i hh; exact e_iv (k2 := 2) (c := 1) (as := [.long x0, .long x1, .long x2, .long x3, .long x4]) d1_103 rfl (by decide) rfl rfl (by decide +kernel) (Nat.le_of_ble_eq_true rfl) rfl hh,
  by intro ls st h Q i; exact e_aload_n d1_106 rfl,
  by intro ls st n sl C Z I L R Q i; exact e_get (g := 0) (s := 4) (ty := 0) d1_107 rfl rfl (inG_ne (by decide)),
  by intro ls st h Q i; exact e_aload_n d1_110 rfl,
  by intro ls st n sl C Z I L R Q i; exact e_get (g := 0) (s := 4) (ty := 0) d1_111 rfl rfl (inG_ne (by decide)),
  by intro ls st h Q; exact e_iconst d1_114 rfl,
  by intro ls st h Q x y; exact e_iadd d1_115,
  by intro ls st h Q x y; exact e_imul d1_116,
  by intro ls st h Q; exact e_iconst d1_117 rfl,
  by intro ls st h Q x y; exact e_idiv d1_118⟩
set_option maxRecDepth 20000 in
theorem S1_3 : (∀ (ls : Lo) (st : List Value) (h : Hp) (Q : Option Value → Hp → Prop) (l0 l1 l2 : Option Value) (x : Int32), Wp 1 119 (l0 :: l1 :: l2 :: ls) (.int x :: st) h Q ↔ Wp 1 120 (l0 :: clr l1 :: some (.int x) :: ls) (st) h Q) ∧
  (∀ (ls : Lo) (st : List Value) (h : Hp) (Q : Option Value → Hp → Prop) (l0 l1 : Option Value) (x : Int32), Wp 1 120 (l0 :: l1 :: some (.int x) :: ls) (st) h Q ↔ Wp 1 121 (l0 :: l1 :: some (.int x) :: ls) (.int x :: st) h Q) ∧
  (∀ (ls : Lo) (st : List Value) (h : Hp) (Q : Option Value → Hp → Prop), Wp 1 121 (ls) (st) h Q ↔ Wp 1 122 (ls) (.int (3) :: st) h Q) ∧
  (∀ (ls : Lo) (st : List Value) (h : Hp) (Q : Option Value → Hp → Prop) (x y : Int32), Wp 1 122 (ls) (.int y :: .int x :: st) h Q ↔ Br 1 136 125 ls st h Q (y ≤ x)) ∧
  (∀ (ls : Lo) (st : List Value) (h : Hp) (Q : Option Value → Hp → Prop)  (i : Nat), Wp 1 125 (some (.ref i) :: ls) (st) h Q ↔ Wp 1 126 (some (.ref i) :: ls) (.ref i :: st) h Q) ∧
  (∀ (ls : Lo) (st : List Value) (h : Hp) (Q : Option Value → Hp → Prop) (l0 l1 : Option Value) (x : Int32), Wp 1 126 (l0 :: l1 :: some (.int x) :: ls) (st) h Q ↔ Wp 1 127 (l0 :: l1 :: some (.int x) :: ls) (.int x :: st) h Q) ∧
  (∀ (ls : Lo) (st : List Value) (n sl : Nat) (C Z : Nat → Nat) (I : Nat → Nat → Int32) (L : Nat → Nat → Int64) (R : Nat → Nat → Nat) (Q : Option Value → Hp → Prop) (x0 : Int32) (i : Nat), C i = 1 → (Wp 1 127 (ls) (.int x0 :: .ref i :: st) (n, sl, C, Z, I, L, R) Q ↔ (wsum st ≤ 8 ∧ Call 6 [some (.ref i), some (.int x0)] (n, sl, C, Z, I, L, R) 1 130 ls st Q))) ∧
  (∀ (ls : Lo) (st : List Value) (h : Hp) (Q : Option Value → Hp → Prop) (l0 l1 : Option Value) (x : Int32), Wp 1 130 (l0 :: l1 :: some (.int x) :: ls) (st) h Q ↔ Wp 1 133 (l0 :: clr l1 :: some (.int (x + (1))) :: ls) (st) h Q) ∧
  (∀ (ls : Lo) (st : List Value) (h : Hp) (Q : Option Value → Hp → Prop), Wp 1 133 (ls) (st) h Q ↔ Wp 1 120 (ls) (st) h Q) ∧
  (∀ (ls : Lo) (st : List Value) (h : Hp) (Q : Option Value → Hp → Prop)  (i : Nat), Wp 1 136 (some (.ref i) :: ls) (st) h Q ↔ Wp 1 137 (some (.ref i) :: ls) (.ref i :: st) h Q) ∧
  (∀ (ls : Lo) (st : List Value) (h : Hp) (Q : Option Value → Hp → Prop)  (i : Nat), Wp 1 137 (some (.ref i) :: ls) (st) h Q ↔ Wp 1 138 (some (.ref i) :: ls) (.ref i :: st) h Q) ∧
  (∀ (ls : Lo) (st : List Value) (n sl : Nat) (C Z : Nat → Nat) (I : Nat → Nat → Int32) (L : Nat → Nat → Int64) (R : Nat → Nat → Nat) (Q : Option Value → Hp → Prop) (i : Nat), Wp 1 138 (ls) (.ref i :: st) (n, sl, C, Z, I, L, R) Q ↔ (C i = 1 ∧ Wp 1 141 (ls) (.ref (R i 0) :: st) (n, sl, C, Z, I, L, R) Q)) ∧
  (∀ (ls : Lo) (st : List Value) (h : Hp) (Q : Option Value → Hp → Prop), Wp 1 141 (ls) (st) h Q ↔ Wp 1 142 (ls) (.int (0) :: st) h Q) ∧
  (∀ (ls : Lo) (st : List Value) (n sl : Nat) (C Z : Nat → Nat) (I : Nat → Nat → Int32) (L : Nat → Nat → Int64) (R : Nat → Nat → Nat) (Q : Option Value → Hp → Prop) (i : Nat) (y : Int32), Wp 1 142 (ls) (.int y :: .ref i :: st) (n, sl, C, Z, I, L, R) Q ↔ ((inb y (Z i) = true ∧ (C i = 23 ∨ C i = 24 ∨ C i = 25)) ∧ Wp 1 143 (ls) (.ref (R i (ix y)) :: st) (n, sl, C, Z, I, L, R) Q)) ∧
  (∀ (ls : Lo) (st : List Value) (h : Hp) (Q : Option Value → Hp → Prop)  (i : Nat), Wp 1 143 (some (.ref i) :: ls) (st) h Q ↔ Wp 1 144 (some (.ref i) :: ls) (.ref i :: st) h Q) ∧
  (∀ (ls : Lo) (st : List Value) (n sl : Nat) (C Z : Nat → Nat) (I : Nat → Nat → Int32) (L : Nat → Nat → Int64) (R : Nat → Nat → Nat) (Q : Option Value → Hp → Prop) (i : Nat), Wp 1 144 (ls) (.ref i :: st) (n, sl, C, Z, I, L, R) Q ↔ (C i = 1 ∧ Wp 1 147 (ls) (.ref (R i 0) :: st) (n, sl, C, Z, I, L, R) Q)) ∧
  (∀ (ls : Lo) (st : List Value) (h : Hp) (Q : Option Value → Hp → Prop), Wp 1 147 (ls) (st) h Q ↔ Wp 1 148 (ls) (.int (1) :: st) h Q) ∧
  (∀ (ls : Lo) (st : List Value) (n sl : Nat) (C Z : Nat → Nat) (I : Nat → Nat → Int32) (L : Nat → Nat → Int64) (R : Nat → Nat → Nat) (Q : Option Value → Hp → Prop) (i : Nat) (y : Int32), Wp 1 148 (ls) (.int y :: .ref i :: st) (n, sl, C, Z, I, L, R) Q ↔ ((inb y (Z i) = true ∧ (C i = 23 ∨ C i = 24 ∨ C i = 25)) ∧ Wp 1 149 (ls) (.ref (R i (ix y)) :: st) (n, sl, C, Z, I, L, R) Q)) ∧
  (∀ (ls : Lo) (st : List Value) (h : Hp) (Q : Option Value → Hp → Prop)  (i : Nat), Wp 1 149 (some (.ref i) :: ls) (st) h Q ↔ Wp 1 150 (some (.ref i) :: ls) (.ref i :: st) h Q) ∧
  (∀ (ls : Lo) (st : List Value) (n sl : Nat) (C Z : Nat → Nat) (I : Nat → Nat → Int32) (L : Nat → Nat → Int64) (R : Nat → Nat → Nat) (Q : Option Value → Hp → Prop) (i : Nat), Wp 1 150 (ls) (.ref i :: st) (n, sl, C, Z, I, L, R) Q ↔ (C i = 1 ∧ Wp 1 153 (ls) (.ref (R i 0) :: st) (n, sl, C, Z, I, L, R) Q)) ∧
  (∀ (ls : Lo) (st : List Value) (h : Hp) (Q : Option Value → Hp → Prop), Wp 1 153 (ls) (st) h Q ↔ Wp 1 154 (ls) (.int (2) :: st) h Q) ∧
  (∀ (ls : Lo) (st : List Value) (n sl : Nat) (C Z : Nat → Nat) (I : Nat → Nat → Int32) (L : Nat → Nat → Int64) (R : Nat → Nat → Nat) (Q : Option Value → Hp → Prop) (i : Nat) (y : Int32), Wp 1 154 (ls) (.int y :: .ref i :: st) (n, sl, C, Z, I, L, R) Q ↔ ((inb y (Z i) = true ∧ (C i = 23 ∨ C i = 24 ∨ C i = 25)) ∧ Wp 1 155 (ls) (.ref (R i (ix y)) :: st) (n, sl, C, Z, I, L, R) Q)) ∧
  (∀ (ls : Lo) (st : List Value) (h : Hp) (Q : Option Value → Hp → Prop) (x0 : Nat) (x1 : Nat) (x2 : Nat), Wp 1 155 (ls) (.ref x2 :: .ref x1 :: .ref x0 :: st) h Q ↔ (wsum st ≤ 8 ∧ Call 41 [some (.ref x0), some (.ref x1), some (.ref x2)] h 1 158 ls st Q)) ∧
  (∀ (ls : Lo) (st : List Value) (n sl : Nat) (C Z : Nat → Nat) (I : Nat → Nat → Int32) (L : Nat → Nat → Int64) (R : Nat → Nat → Nat) (Q : Option Value → Hp → Prop) (i : Nat) (a : Int64), Wp 1 158 (ls) (.long a :: .ref i :: st) (n, sl, C, Z, I, L, R) Q ↔ (C i = 1 ∧ Wp 1 161 (ls) (st) (n, sl, C, Z, I, u2 L i 3 a, R) Q)) ∧
  (∀ (ls : Lo) (st : List Value) (h : Hp) (Q : Option Value → Hp → Prop)  (i : Nat), Wp 1 161 (some (.ref i) :: ls) (st) h Q ↔ Wp 1 162 (some (.ref i) :: ls) (.ref i :: st) h Q) := ⟨by intro ls st h Q l0 l1 l2 x; exact e_istore_n d1_119 rfl,
  by intro ls st h Q l0 l1 x; exact e_iload_n d1_120 rfl,
  by intro ls st h Q; exact e_iconst d1_121 rfl,
  by intro ls st h Q x y; exact e_ic d1_122 (by decide) c_ge,
  by intro ls st h Q i; exact e_aload_n d1_125 rfl,
  by intro ls st h Q l0 l1 x; exact e_iload_n d1_126 rfl,
  by intro ls st n sl C Z I L R Q x0 i hh; exact e_iv (k2 := 6) (c := 1) (as := [.int x0]) d1_127 rfl (by decide) rfl rfl (by decide +kernel) (Nat.le_of_ble_eq_true rfl) rfl hh,
  by intro ls st h Q l0 l1 x; exact e_iinc d1_130 rfl rfl rfl,
  by intro ls st h Q; exact e_goto d1_133 (by decide),
  by intro ls st h Q i; exact e_aload_n d1_136 rfl,
  by intro ls st h Q i; exact e_aload_n d1_137 rfl,
  by intro ls st n sl C Z I L R Q i; exact e_get (g := 0) (s := 0) (ty := 2) d1_138 rfl rfl (inG_ne (by decide)),
  by intro ls st h Q; exact e_iconst d1_141 rfl,
  by intro ls st n sl C Z I L R Q i y; exact e_aald d1_142,
  by intro ls st h Q i; exact e_aload_n d1_143 rfl,
  by intro ls st n sl C Z I L R Q i; exact e_get (g := 0) (s := 0) (ty := 2) d1_144 rfl rfl (inG_ne (by decide)),
  by intro ls st h Q; exact e_iconst d1_147 rfl,
  by intro ls st n sl C Z I L R Q i y; exact e_aald d1_148,
  by intro ls st h Q i; exact e_aload_n d1_149 rfl,
  by intro ls st n sl C Z I L R Q i; exact e_get (g := 0) (s := 0) (ty := 2) d1_150 rfl rfl (inG_ne (by decide)),
  by intro ls st h Q; exact e_iconst d1_153 rfl,
  by intro ls st n sl C Z I L R Q i y; exact e_aald d1_154,
  by intro ls st h Q x0 x1 x2; exact e_is (k2 := 41) (as := [.ref x0, .ref x1, .ref x2]) d1_155 rfl (by decide) rfl rfl (by decide +kernel) (Nat.le_of_ble_eq_true rfl) rfl,
  by intro ls st n sl C Z I L R Q i a; exact e_putL (g := 0) (s := 3) d1_158 rfl (Or.inl rfl) (inG_ne (by decide)),
  by intro ls st h Q i; exact e_aload_n d1_161 rfl⟩
set_option maxRecDepth 20000 in
theorem S1_4 : (∀ (ls : Lo) (st : List Value) (n sl : Nat) (C Z : Nat → Nat) (I : Nat → Nat → Int32) (L : Nat → Nat → Int64) (R : Nat → Nat → Nat) (Q : Option Value → Hp → Prop) (i : Nat), Wp 1 162 (ls) (.ref i :: st) (n, sl, C, Z, I, L, R) Q ↔ (C i = 1 ∧ Wp 1 165 (ls) (.ref (R i 2) :: st) (n, sl, C, Z, I, L, R) Q)) ∧
  (∀ (ls : Lo) (st : List Value) (h : Hp) (Q : Option Value → Hp → Prop), Wp 1 165 (ls) (st) h Q ↔ Wp 1 166 (ls) (.int (0) :: st) h Q) ∧
  (∀ (ls : Lo) (st : List Value) (h : Hp) (Q : Option Value → Hp → Prop)  (i : Nat), Wp 1 166 (some (.ref i) :: ls) (st) h Q ↔ Wp 1 167 (some (.ref i) :: ls) (.ref i :: st) h Q) ∧
  (∀ (ls : Lo) (st : List Value) (n sl : Nat) (C Z : Nat → Nat) (I : Nat → Nat → Int32) (L : Nat → Nat → Int64) (R : Nat → Nat → Nat) (Q : Option Value → Hp → Prop) (i : Nat), Wp 1 167 (ls) (.ref i :: st) (n, sl, C, Z, I, L, R) Q ↔ (C i = 1 ∧ Wp 1 170 (ls) (.ref (R i 1) :: st) (n, sl, C, Z, I, L, R) Q)) ∧
  (∀ (ls : Lo) (st : List Value) (h : Hp) (Q : Option Value → Hp → Prop)  (i : Nat), Wp 1 170 (some (.ref i) :: ls) (st) h Q ↔ Wp 1 171 (some (.ref i) :: ls) (.ref i :: st) h Q) ∧
  (∀ (ls : Lo) (st : List Value) (n sl : Nat) (C Z : Nat → Nat) (I : Nat → Nat → Int32) (L : Nat → Nat → Int64) (R : Nat → Nat → Nat) (Q : Option Value → Hp → Prop) (i : Nat), Wp 1 171 (ls) (.ref i :: st) (n, sl, C, Z, I, L, R) Q ↔ (C i = 1 ∧ Wp 1 174 (ls) (.ref (R i 0) :: st) (n, sl, C, Z, I, L, R) Q)) ∧
  (∀ (ls : Lo) (st : List Value) (h : Hp) (Q : Option Value → Hp → Prop), Wp 1 174 (ls) (st) h Q ↔ Wp 1 175 (ls) (.int (1) :: st) h Q) ∧
  (∀ (ls : Lo) (st : List Value) (n sl : Nat) (C Z : Nat → Nat) (I : Nat → Nat → Int32) (L : Nat → Nat → Int64) (R : Nat → Nat → Nat) (Q : Option Value → Hp → Prop) (i : Nat) (y : Int32), Wp 1 175 (ls) (.int y :: .ref i :: st) (n, sl, C, Z, I, L, R) Q ↔ ((inb y (Z i) = true ∧ (C i = 23 ∨ C i = 24 ∨ C i = 25)) ∧ Wp 1 176 (ls) (.ref (R i (ix y)) :: st) (n, sl, C, Z, I, L, R) Q)) ∧
  (∀ (ls : Lo) (st : List Value) (h : Hp) (Q : Option Value → Hp → Prop)  (i : Nat), Wp 1 176 (some (.ref i) :: ls) (st) h Q ↔ Wp 1 177 (some (.ref i) :: ls) (.ref i :: st) h Q) ∧
  (∀ (ls : Lo) (st : List Value) (n sl : Nat) (C Z : Nat → Nat) (I : Nat → Nat → Int32) (L : Nat → Nat → Int64) (R : Nat → Nat → Nat) (Q : Option Value → Hp → Prop) (i : Nat), Wp 1 177 (ls) (.ref i :: st) (n, sl, C, Z, I, L, R) Q ↔ (C i = 1 ∧ Wp 1 180 (ls) (.ref (R i 0) :: st) (n, sl, C, Z, I, L, R) Q)) ∧
  (∀ (ls : Lo) (st : List Value) (h : Hp) (Q : Option Value → Hp → Prop), Wp 1 180 (ls) (st) h Q ↔ Wp 1 181 (ls) (.int (2) :: st) h Q) ∧
  (∀ (ls : Lo) (st : List Value) (n sl : Nat) (C Z : Nat → Nat) (I : Nat → Nat → Int32) (L : Nat → Nat → Int64) (R : Nat → Nat → Nat) (Q : Option Value → Hp → Prop) (i : Nat) (y : Int32), Wp 1 181 (ls) (.int y :: .ref i :: st) (n, sl, C, Z, I, L, R) Q ↔ ((inb y (Z i) = true ∧ (C i = 23 ∨ C i = 24 ∨ C i = 25)) ∧ Wp 1 182 (ls) (.ref (R i (ix y)) :: st) (n, sl, C, Z, I, L, R) Q)) ∧
  (∀ (ls : Lo) (st : List Value) (h : Hp) (Q : Option Value → Hp → Prop) (x0 : Nat) (x1 : Nat) (x2 : Nat), Wp 1 182 (ls) (.ref x2 :: .ref x1 :: .ref x0 :: st) h Q ↔ (wsum st ≤ 8 ∧ Call 41 [some (.ref x0), some (.ref x1), some (.ref x2)] h 1 185 ls st Q)) ∧
  (∀ (ls : Lo) (st : List Value) (n sl : Nat) (C Z : Nat → Nat) (I : Nat → Nat → Int32) (L : Nat → Nat → Int64) (R : Nat → Nat → Nat) (Q : Option Value → Hp → Prop) (i : Nat) (y : Int32) (a : Int64), Wp 1 185 (ls) (.long a :: .int y :: .ref i :: st) (n, sl, C, Z, I, L, R) Q ↔ ((inb y (Z i) = true ∧ C i = 22) ∧ Wp 1 186 (ls) (st) (n, sl, C, Z, I, u2 L i (ix y) a, R) Q)) ∧
  (∀ (ls : Lo) (st : List Value) (h : Hp) (Q : Option Value → Hp → Prop)  (i : Nat), Wp 1 186 (some (.ref i) :: ls) (st) h Q ↔ Wp 1 187 (some (.ref i) :: ls) (.ref i :: st) h Q) ∧
  (∀ (ls : Lo) (st : List Value) (n sl : Nat) (C Z : Nat → Nat) (I : Nat → Nat → Int32) (L : Nat → Nat → Int64) (R : Nat → Nat → Nat) (Q : Option Value → Hp → Prop) (i : Nat), Wp 1 187 (ls) (.ref i :: st) (n, sl, C, Z, I, L, R) Q ↔ (C i = 1 ∧ Wp 1 190 (ls) (.ref (R i 2) :: st) (n, sl, C, Z, I, L, R) Q)) ∧
  (∀ (ls : Lo) (st : List Value) (h : Hp) (Q : Option Value → Hp → Prop), Wp 1 190 (ls) (st) h Q ↔ Wp 1 191 (ls) (.int (1) :: st) h Q) ∧
  (∀ (ls : Lo) (st : List Value) (h : Hp) (Q : Option Value → Hp → Prop)  (i : Nat), Wp 1 191 (some (.ref i) :: ls) (st) h Q ↔ Wp 1 192 (some (.ref i) :: ls) (.ref i :: st) h Q) ∧
  (∀ (ls : Lo) (st : List Value) (n sl : Nat) (C Z : Nat → Nat) (I : Nat → Nat → Int32) (L : Nat → Nat → Int64) (R : Nat → Nat → Nat) (Q : Option Value → Hp → Prop) (i : Nat), Wp 1 192 (ls) (.ref i :: st) (n, sl, C, Z, I, L, R) Q ↔ (C i = 1 ∧ Wp 1 195 (ls) (.ref (R i 0) :: st) (n, sl, C, Z, I, L, R) Q)) ∧
  (∀ (ls : Lo) (st : List Value) (h : Hp) (Q : Option Value → Hp → Prop), Wp 1 195 (ls) (st) h Q ↔ Wp 1 196 (ls) (.int (0) :: st) h Q) ∧
  (∀ (ls : Lo) (st : List Value) (n sl : Nat) (C Z : Nat → Nat) (I : Nat → Nat → Int32) (L : Nat → Nat → Int64) (R : Nat → Nat → Nat) (Q : Option Value → Hp → Prop) (i : Nat) (y : Int32), Wp 1 196 (ls) (.int y :: .ref i :: st) (n, sl, C, Z, I, L, R) Q ↔ ((inb y (Z i) = true ∧ (C i = 23 ∨ C i = 24 ∨ C i = 25)) ∧ Wp 1 197 (ls) (.ref (R i (ix y)) :: st) (n, sl, C, Z, I, L, R) Q)) ∧
  (∀ (ls : Lo) (st : List Value) (h : Hp) (Q : Option Value → Hp → Prop)  (i : Nat), Wp 1 197 (some (.ref i) :: ls) (st) h Q ↔ Wp 1 198 (some (.ref i) :: ls) (.ref i :: st) h Q) ∧
  (∀ (ls : Lo) (st : List Value) (n sl : Nat) (C Z : Nat → Nat) (I : Nat → Nat → Int32) (L : Nat → Nat → Int64) (R : Nat → Nat → Nat) (Q : Option Value → Hp → Prop) (i : Nat), Wp 1 198 (ls) (.ref i :: st) (n, sl, C, Z, I, L, R) Q ↔ (C i = 1 ∧ Wp 1 201 (ls) (.ref (R i 1) :: st) (n, sl, C, Z, I, L, R) Q)) ∧
  (∀ (ls : Lo) (st : List Value) (h : Hp) (Q : Option Value → Hp → Prop)  (i : Nat), Wp 1 201 (some (.ref i) :: ls) (st) h Q ↔ Wp 1 202 (some (.ref i) :: ls) (.ref i :: st) h Q) ∧
  (∀ (ls : Lo) (st : List Value) (n sl : Nat) (C Z : Nat → Nat) (I : Nat → Nat → Int32) (L : Nat → Nat → Int64) (R : Nat → Nat → Nat) (Q : Option Value → Hp → Prop) (i : Nat), Wp 1 202 (ls) (.ref i :: st) (n, sl, C, Z, I, L, R) Q ↔ (C i = 1 ∧ Wp 1 205 (ls) (.ref (R i 0) :: st) (n, sl, C, Z, I, L, R) Q)) := ⟨by intro ls st n sl C Z I L R Q i; exact e_get (g := 0) (s := 2) (ty := 2) d1_162 rfl rfl (inG_ne (by decide)),
  by intro ls st h Q; exact e_iconst d1_165 rfl,
  by intro ls st h Q i; exact e_aload_n d1_166 rfl,
  by intro ls st n sl C Z I L R Q i; exact e_get (g := 0) (s := 1) (ty := 2) d1_167 rfl rfl (inG_ne (by decide)),
  by intro ls st h Q i; exact e_aload_n d1_170 rfl,
  by intro ls st n sl C Z I L R Q i; exact e_get (g := 0) (s := 0) (ty := 2) d1_171 rfl rfl (inG_ne (by decide)),
  by intro ls st h Q; exact e_iconst d1_174 rfl,
  by intro ls st n sl C Z I L R Q i y; exact e_aald d1_175,
  by intro ls st h Q i; exact e_aload_n d1_176 rfl,
  by intro ls st n sl C Z I L R Q i; exact e_get (g := 0) (s := 0) (ty := 2) d1_177 rfl rfl (inG_ne (by decide)),
  by intro ls st h Q; exact e_iconst d1_180 rfl,
  by intro ls st n sl C Z I L R Q i y; exact e_aald d1_181,
  by intro ls st h Q x0 x1 x2; exact e_is (k2 := 41) (as := [.ref x0, .ref x1, .ref x2]) d1_182 rfl (by decide) rfl rfl (by decide +kernel) (Nat.le_of_ble_eq_true rfl) rfl,
  by intro ls st n sl C Z I L R Q i y a; exact e_last d1_185,
  by intro ls st h Q i; exact e_aload_n d1_186 rfl,
  by intro ls st n sl C Z I L R Q i; exact e_get (g := 0) (s := 2) (ty := 2) d1_187 rfl rfl (inG_ne (by decide)),
  by intro ls st h Q; exact e_iconst d1_190 rfl,
  by intro ls st h Q i; exact e_aload_n d1_191 rfl,
  by intro ls st n sl C Z I L R Q i; exact e_get (g := 0) (s := 0) (ty := 2) d1_192 rfl rfl (inG_ne (by decide)),
  by intro ls st h Q; exact e_iconst d1_195 rfl,
  by intro ls st n sl C Z I L R Q i y; exact e_aald d1_196,
  by intro ls st h Q i; exact e_aload_n d1_197 rfl,
  by intro ls st n sl C Z I L R Q i; exact e_get (g := 0) (s := 1) (ty := 2) d1_198 rfl rfl (inG_ne (by decide)),
  by intro ls st h Q i; exact e_aload_n d1_201 rfl,
  by intro ls st n sl C Z I L R Q i; exact e_get (g := 0) (s := 0) (ty := 2) d1_202 rfl rfl (inG_ne (by decide))⟩
set_option maxRecDepth 20000 in
theorem S1_5 : (∀ (ls : Lo) (st : List Value) (h : Hp) (Q : Option Value → Hp → Prop), Wp 1 205 (ls) (st) h Q ↔ Wp 1 206 (ls) (.int (2) :: st) h Q) ∧
  (∀ (ls : Lo) (st : List Value) (n sl : Nat) (C Z : Nat → Nat) (I : Nat → Nat → Int32) (L : Nat → Nat → Int64) (R : Nat → Nat → Nat) (Q : Option Value → Hp → Prop) (i : Nat) (y : Int32), Wp 1 206 (ls) (.int y :: .ref i :: st) (n, sl, C, Z, I, L, R) Q ↔ ((inb y (Z i) = true ∧ (C i = 23 ∨ C i = 24 ∨ C i = 25)) ∧ Wp 1 207 (ls) (.ref (R i (ix y)) :: st) (n, sl, C, Z, I, L, R) Q)) ∧
  (∀ (ls : Lo) (st : List Value) (h : Hp) (Q : Option Value → Hp → Prop) (x0 : Nat) (x1 : Nat) (x2 : Nat), Wp 1 207 (ls) (.ref x2 :: .ref x1 :: .ref x0 :: st) h Q ↔ (wsum st ≤ 8 ∧ Call 41 [some (.ref x0), some (.ref x1), some (.ref x2)] h 1 210 ls st Q)) ∧
  (∀ (ls : Lo) (st : List Value) (n sl : Nat) (C Z : Nat → Nat) (I : Nat → Nat → Int32) (L : Nat → Nat → Int64) (R : Nat → Nat → Nat) (Q : Option Value → Hp → Prop) (i : Nat) (y : Int32) (a : Int64), Wp 1 210 (ls) (.long a :: .int y :: .ref i :: st) (n, sl, C, Z, I, L, R) Q ↔ ((inb y (Z i) = true ∧ C i = 22) ∧ Wp 1 211 (ls) (st) (n, sl, C, Z, I, u2 L i (ix y) a, R) Q)) ∧
  (∀ (ls : Lo) (st : List Value) (h : Hp) (Q : Option Value → Hp → Prop)  (i : Nat), Wp 1 211 (some (.ref i) :: ls) (st) h Q ↔ Wp 1 212 (some (.ref i) :: ls) (.ref i :: st) h Q) ∧
  (∀ (ls : Lo) (st : List Value) (n sl : Nat) (C Z : Nat → Nat) (I : Nat → Nat → Int32) (L : Nat → Nat → Int64) (R : Nat → Nat → Nat) (Q : Option Value → Hp → Prop) (i : Nat), Wp 1 212 (ls) (.ref i :: st) (n, sl, C, Z, I, L, R) Q ↔ (C i = 1 ∧ Wp 1 215 (ls) (.ref (R i 2) :: st) (n, sl, C, Z, I, L, R) Q)) ∧
  (∀ (ls : Lo) (st : List Value) (h : Hp) (Q : Option Value → Hp → Prop), Wp 1 215 (ls) (st) h Q ↔ Wp 1 216 (ls) (.int (2) :: st) h Q) ∧
  (∀ (ls : Lo) (st : List Value) (h : Hp) (Q : Option Value → Hp → Prop)  (i : Nat), Wp 1 216 (some (.ref i) :: ls) (st) h Q ↔ Wp 1 217 (some (.ref i) :: ls) (.ref i :: st) h Q) ∧
  (∀ (ls : Lo) (st : List Value) (n sl : Nat) (C Z : Nat → Nat) (I : Nat → Nat → Int32) (L : Nat → Nat → Int64) (R : Nat → Nat → Nat) (Q : Option Value → Hp → Prop) (i : Nat), Wp 1 217 (ls) (.ref i :: st) (n, sl, C, Z, I, L, R) Q ↔ (C i = 1 ∧ Wp 1 220 (ls) (.ref (R i 0) :: st) (n, sl, C, Z, I, L, R) Q)) ∧
  (∀ (ls : Lo) (st : List Value) (h : Hp) (Q : Option Value → Hp → Prop), Wp 1 220 (ls) (st) h Q ↔ Wp 1 221 (ls) (.int (0) :: st) h Q) ∧
  (∀ (ls : Lo) (st : List Value) (n sl : Nat) (C Z : Nat → Nat) (I : Nat → Nat → Int32) (L : Nat → Nat → Int64) (R : Nat → Nat → Nat) (Q : Option Value → Hp → Prop) (i : Nat) (y : Int32), Wp 1 221 (ls) (.int y :: .ref i :: st) (n, sl, C, Z, I, L, R) Q ↔ ((inb y (Z i) = true ∧ (C i = 23 ∨ C i = 24 ∨ C i = 25)) ∧ Wp 1 222 (ls) (.ref (R i (ix y)) :: st) (n, sl, C, Z, I, L, R) Q)) ∧
  (∀ (ls : Lo) (st : List Value) (h : Hp) (Q : Option Value → Hp → Prop)  (i : Nat), Wp 1 222 (some (.ref i) :: ls) (st) h Q ↔ Wp 1 223 (some (.ref i) :: ls) (.ref i :: st) h Q) ∧
  (∀ (ls : Lo) (st : List Value) (n sl : Nat) (C Z : Nat → Nat) (I : Nat → Nat → Int32) (L : Nat → Nat → Int64) (R : Nat → Nat → Nat) (Q : Option Value → Hp → Prop) (i : Nat), Wp 1 223 (ls) (.ref i :: st) (n, sl, C, Z, I, L, R) Q ↔ (C i = 1 ∧ Wp 1 226 (ls) (.ref (R i 0) :: st) (n, sl, C, Z, I, L, R) Q)) ∧
  (∀ (ls : Lo) (st : List Value) (h : Hp) (Q : Option Value → Hp → Prop), Wp 1 226 (ls) (st) h Q ↔ Wp 1 227 (ls) (.int (1) :: st) h Q) ∧
  (∀ (ls : Lo) (st : List Value) (n sl : Nat) (C Z : Nat → Nat) (I : Nat → Nat → Int32) (L : Nat → Nat → Int64) (R : Nat → Nat → Nat) (Q : Option Value → Hp → Prop) (i : Nat) (y : Int32), Wp 1 227 (ls) (.int y :: .ref i :: st) (n, sl, C, Z, I, L, R) Q ↔ ((inb y (Z i) = true ∧ (C i = 23 ∨ C i = 24 ∨ C i = 25)) ∧ Wp 1 228 (ls) (.ref (R i (ix y)) :: st) (n, sl, C, Z, I, L, R) Q)) ∧
  (∀ (ls : Lo) (st : List Value) (h : Hp) (Q : Option Value → Hp → Prop)  (i : Nat), Wp 1 228 (some (.ref i) :: ls) (st) h Q ↔ Wp 1 229 (some (.ref i) :: ls) (.ref i :: st) h Q) ∧
  (∀ (ls : Lo) (st : List Value) (n sl : Nat) (C Z : Nat → Nat) (I : Nat → Nat → Int32) (L : Nat → Nat → Int64) (R : Nat → Nat → Nat) (Q : Option Value → Hp → Prop) (i : Nat), Wp 1 229 (ls) (.ref i :: st) (n, sl, C, Z, I, L, R) Q ↔ (C i = 1 ∧ Wp 1 232 (ls) (.ref (R i 1) :: st) (n, sl, C, Z, I, L, R) Q)) ∧
  (∀ (ls : Lo) (st : List Value) (h : Hp) (Q : Option Value → Hp → Prop) (x0 : Nat) (x1 : Nat) (x2 : Nat), Wp 1 232 (ls) (.ref x2 :: .ref x1 :: .ref x0 :: st) h Q ↔ (wsum st ≤ 8 ∧ Call 41 [some (.ref x0), some (.ref x1), some (.ref x2)] h 1 235 ls st Q)) ∧
  (∀ (ls : Lo) (st : List Value) (n sl : Nat) (C Z : Nat → Nat) (I : Nat → Nat → Int32) (L : Nat → Nat → Int64) (R : Nat → Nat → Nat) (Q : Option Value → Hp → Prop) (i : Nat) (y : Int32) (a : Int64), Wp 1 235 (ls) (.long a :: .int y :: .ref i :: st) (n, sl, C, Z, I, L, R) Q ↔ ((inb y (Z i) = true ∧ C i = 22) ∧ Wp 1 236 (ls) (st) (n, sl, C, Z, I, u2 L i (ix y) a, R) Q)) ∧
  (∀ (ls : Lo) (st : List Value) (h : Hp) (Q : Option Value → Hp → Prop)  (i : Nat), Wp 1 236 (some (.ref i) :: ls) (st) h Q ↔ Wp 1 237 (some (.ref i) :: ls) (.ref i :: st) h Q) ∧
  (∀ (ls : Lo) (st : List Value) (h : Hp) (Q : Option Value → Hp → Prop)  (i : Nat), Wp 1 237 (some (.ref i) :: ls) (st) h Q ↔ Wp 1 238 (some (.ref i) :: ls) (.ref i :: st) h Q) ∧
  (∀ (ls : Lo) (st : List Value) (n sl : Nat) (C Z : Nat → Nat) (I : Nat → Nat → Int32) (L : Nat → Nat → Int64) (R : Nat → Nat → Nat) (Q : Option Value → Hp → Prop) (i : Nat), Wp 1 238 (ls) (.ref i :: st) (n, sl, C, Z, I, L, R) Q ↔ (C i = 1 ∧ Wp 1 241 (ls) (.long (L i 3) :: st) (n, sl, C, Z, I, L, R) Q)) ∧
  (∀ (ls : Lo) (st : List Value) (h : Hp) (Q : Option Value → Hp → Prop), Wp 1 241 (ls) (st) h Q ↔ Wp 1 242 (ls) (.long 0 :: st) h Q) ∧
  (∀ (ls : Lo) (st : List Value) (h : Hp) (Q : Option Value → Hp → Prop) (a b : Int64), Wp 1 242 (ls) (.long b :: .long a :: st) h Q ↔ Wp 1 243 (ls) (.int (lg_cmp a b) :: st) h Q) ∧
  (∀ (ls : Lo) (st : List Value) (h : Hp) (Q : Option Value → Hp → Prop) (x : Int32), Wp 1 243 (ls) (.int x :: st) h Q ↔ Br 1 250 246 ls st h Q (x = 0)) := ⟨by intro ls st h Q; exact e_iconst d1_205 rfl,
  by intro ls st n sl C Z I L R Q i y; exact e_aald d1_206,
  by intro ls st h Q x0 x1 x2; exact e_is (k2 := 41) (as := [.ref x0, .ref x1, .ref x2]) d1_207 rfl (by decide) rfl rfl (by decide +kernel) (Nat.le_of_ble_eq_true rfl) rfl,
  by intro ls st n sl C Z I L R Q i y a; exact e_last d1_210,
  by intro ls st h Q i; exact e_aload_n d1_211 rfl,
  by intro ls st n sl C Z I L R Q i; exact e_get (g := 0) (s := 2) (ty := 2) d1_212 rfl rfl (inG_ne (by decide)),
  by intro ls st h Q; exact e_iconst d1_215 rfl,
  by intro ls st h Q i; exact e_aload_n d1_216 rfl,
  by intro ls st n sl C Z I L R Q i; exact e_get (g := 0) (s := 0) (ty := 2) d1_217 rfl rfl (inG_ne (by decide)),
  by intro ls st h Q; exact e_iconst d1_220 rfl,
  by intro ls st n sl C Z I L R Q i y; exact e_aald d1_221,
  by intro ls st h Q i; exact e_aload_n d1_222 rfl,
  by intro ls st n sl C Z I L R Q i; exact e_get (g := 0) (s := 0) (ty := 2) d1_223 rfl rfl (inG_ne (by decide)),
  by intro ls st h Q; exact e_iconst d1_226 rfl,
  by intro ls st n sl C Z I L R Q i y; exact e_aald d1_227,
  by intro ls st h Q i; exact e_aload_n d1_228 rfl,
  by intro ls st n sl C Z I L R Q i; exact e_get (g := 0) (s := 1) (ty := 2) d1_229 rfl rfl (inG_ne (by decide)),
  by intro ls st h Q x0 x1 x2; exact e_is (k2 := 41) (as := [.ref x0, .ref x1, .ref x2]) d1_232 rfl (by decide) rfl rfl (by decide +kernel) (Nat.le_of_ble_eq_true rfl) rfl,
  by intro ls st n sl C Z I L R Q i y a; exact e_last d1_235,
  by intro ls st h Q i; exact e_aload_n d1_236 rfl,
  by intro ls st h Q i; exact e_aload_n d1_237 rfl,
  by intro ls st n sl C Z I L R Q i; exact e_get (g := 0) (s := 3) (ty := 1) d1_238 rfl rfl (inG_ne (by decide)),
  by intro ls st h Q; exact e_lconst d1_241 rfl,
  by intro ls st h Q a b; exact e_lcmp d1_242,
  by intro ls st h Q x; exact e_if d1_243 (by decide) c_eq⟩
set_option maxRecDepth 20000 in
theorem S1_6 : (∀ (ls : Lo) (st : List Value) (h : Hp) (Q : Option Value → Hp → Prop), Wp 1 246 (ls) (st) h Q ↔ Wp 1 247 (ls) (.int (1) :: st) h Q) ∧
  (∀ (ls : Lo) (st : List Value) (h : Hp) (Q : Option Value → Hp → Prop), Wp 1 247 (ls) (st) h Q ↔ Wp 1 251 (ls) (st) h Q) ∧
  (∀ (ls : Lo) (st : List Value) (h : Hp) (Q : Option Value → Hp → Prop), Wp 1 250 (ls) (st) h Q ↔ Wp 1 251 (ls) (.int (0) :: st) h Q) ∧
  (∀ (ls : Lo) (st : List Value) (n sl : Nat) (C Z : Nat → Nat) (I : Nat → Nat → Int32) (L : Nat → Nat → Int64) (R : Nat → Nat → Nat) (Q : Option Value → Hp → Prop) (i : Nat) (x : Int32), Wp 1 251 (ls) (.int x :: .ref i :: st) (n, sl, C, Z, I, L, R) Q ↔ ((C i = 1 ∧ (x = 0 ∨ x = 1)) ∧ Wp 1 254 (ls) (st) (n, sl, C, Z, u2 I i 5 x, L, R) Q)) ∧
  (∀ (ls : Lo) (h : Hp) (Q : Option Value → Hp → Prop), Wp 1 254 (ls) ([]) h Q ↔ Q none h) := ⟨by intro ls st h Q; exact e_iconst d1_246 rfl,
  by intro ls st h Q; exact e_goto d1_247 (by decide),
  by intro ls st h Q; exact e_iconst d1_250 rfl,
  by intro ls st n sl C Z I L R Q i x; exact e_putZ (g := 0) (s := 5) d1_251 rfl (Or.inl rfl) (inG_ne (by decide)),
  by intros; exact e_rV d1_254 rfl⟩
theorem d2_0 : decode (byt 2) 0 = .ok (.aload_n 0, 1) := by decide +kernel
theorem d2_1 : decode (byt 2) 1 = .ok (.iconst 0, 1) := by decide +kernel
theorem d2_2 : decode (byt 2) 2 = .ok (.lload 9, 2) := by decide +kernel
theorem d2_4 : decode (byt 2) 4 = .ok (.lload 9, 2) := by decide +kernel
theorem d2_6 : decode (byt 2) 6 = .ok (.lmul, 1) := by decide +kernel
theorem d2_7 : decode (byt 2) 7 = .ok (.lload_n 1, 1) := by decide +kernel
theorem d2_8 : decode (byt 2) 8 = .ok (.lload_n 1, 1) := by decide +kernel
theorem d2_9 : decode (byt 2) 9 = .ok (.lmul, 1) := by decide +kernel
theorem d2_10 : decode (byt 2) 10 = .ok (.lsub, 1) := by decide +kernel
theorem d2_11 : decode (byt 2) 11 = .ok (.lload_n 1, 1) := by decide +kernel
theorem d2_12 : decode (byt 2) 12 = .ok (.lneg, 1) := by decide +kernel
theorem d2_13 : decode (byt 2) 13 = .ok (.lload_n 3, 1) := by decide +kernel
theorem d2_14 : decode (byt 2) 14 = .ok (.lmul, 1) := by decide +kernel
theorem d2_15 : decode (byt 2) 15 = .ok (.lload_n 3, 1) := by decide +kernel
theorem d2_16 : decode (byt 2) 16 = .ok (.lneg, 1) := by decide +kernel
theorem d2_17 : decode (byt 2) 17 = .ok (.lload_n 3, 1) := by decide +kernel
theorem d2_18 : decode (byt 2) 18 = .ok (.lmul, 1) := by decide +kernel
theorem d2_19 : decode (byt 2) 19 = .ok (.invokevirtual 64, 3) := by decide +kernel
theorem d2_22 : decode (byt 2) 22 = .ok (.aload_n 0, 1) := by decide +kernel
theorem d2_23 : decode (byt 2) 23 = .ok (.iconst 1, 1) := by decide +kernel
theorem d2_24 : decode (byt 2) 24 = .ok (.ldc2_w 68, 3) := by decide +kernel
theorem d2_27 : decode (byt 2) 27 = .ok (.lload_n 1, 1) := by decide +kernel
theorem d2_28 : decode (byt 2) 28 = .ok (.lmul, 1) := by decide +kernel
theorem d2_29 : decode (byt 2) 29 = .ok (.lload 5, 2) := by decide +kernel
theorem d2_31 : decode (byt 2) 31 = .ok (.lmul, 1) := by decide +kernel
theorem d2_32 : decode (byt 2) 32 = .ok (.lload 9, 2) := by decide +kernel
theorem d2_34 : decode (byt 2) 34 = .ok (.lload 9, 2) := by decide +kernel
theorem d2_36 : decode (byt 2) 36 = .ok (.lmul, 1) := by decide +kernel
theorem d2_37 : decode (byt 2) 37 = .ok (.lload_n 1, 1) := by decide +kernel
theorem d2_38 : decode (byt 2) 38 = .ok (.lload 7, 2) := by decide +kernel
theorem d2_40 : decode (byt 2) 40 = .ok (.lmul, 1) := by decide +kernel
theorem d2_41 : decode (byt 2) 41 = .ok (.lsub, 1) := by decide +kernel
theorem d2_42 : decode (byt 2) 42 = .ok (.lload_n 3, 1) := by decide +kernel
theorem d2_43 : decode (byt 2) 43 = .ok (.lload 5, 2) := by decide +kernel
theorem d2_45 : decode (byt 2) 45 = .ok (.lmul, 1) := by decide +kernel
theorem d2_46 : decode (byt 2) 46 = .ok (.lsub, 1) := by decide +kernel
theorem d2_47 : decode (byt 2) 47 = .ok (.ldc2_w 68, 3) := by decide +kernel
theorem d2_50 : decode (byt 2) 50 = .ok (.lload_n 3, 1) := by decide +kernel
theorem d2_51 : decode (byt 2) 51 = .ok (.lmul, 1) := by decide +kernel
theorem d2_52 : decode (byt 2) 52 = .ok (.lload 7, 2) := by decide +kernel
theorem d2_54 : decode (byt 2) 54 = .ok (.lmul, 1) := by decide +kernel
theorem d2_55 : decode (byt 2) 55 = .ok (.invokevirtual 64, 3) := by decide +kernel
theorem d2_58 : decode (byt 2) 58 = .ok (.aload_n 0, 1) := by decide +kernel
theorem d2_59 : decode (byt 2) 59 = .ok (.iconst 2, 1) := by decide +kernel
theorem d2_60 : decode (byt 2) 60 = .ok (.lload 5, 2) := by decide +kernel
theorem d2_62 : decode (byt 2) 62 = .ok (.lneg, 1) := by decide +kernel
theorem d2_63 : decode (byt 2) 63 = .ok (.lload 5, 2) := by decide +kernel
theorem d2_65 : decode (byt 2) 65 = .ok (.lmul, 1) := by decide +kernel
theorem d2_66 : decode (byt 2) 66 = .ok (.lload 5, 2) := by decide +kernel
theorem d2_68 : decode (byt 2) 68 = .ok (.lneg, 1) := by decide +kernel
theorem d2_69 : decode (byt 2) 69 = .ok (.lload 7, 2) := by decide +kernel
theorem d2_71 : decode (byt 2) 71 = .ok (.lmul, 1) := by decide +kernel
theorem d2_72 : decode (byt 2) 72 = .ok (.lload 9, 2) := by decide +kernel
theorem d2_74 : decode (byt 2) 74 = .ok (.lload 9, 2) := by decide +kernel
theorem d2_76 : decode (byt 2) 76 = .ok (.lmul, 1) := by decide +kernel
theorem d2_77 : decode (byt 2) 77 = .ok (.lload 7, 2) := by decide +kernel
theorem d2_79 : decode (byt 2) 79 = .ok (.lload 7, 2) := by decide +kernel
theorem d2_81 : decode (byt 2) 81 = .ok (.lmul, 1) := by decide +kernel
theorem d2_82 : decode (byt 2) 82 = .ok (.lsub, 1) := by decide +kernel
theorem d2_83 : decode (byt 2) 83 = .ok (.invokevirtual 64, 3) := by decide +kernel
theorem d2_86 : decode (byt 2) 86 = .ok (.aload_n 0, 1) := by decide +kernel
theorem d2_87 : decode (byt 2) 87 = .ok (.lload 9, 2) := by decide +kernel
theorem d2_89 : decode (byt 2) 89 = .ok (.lload 9, 2) := by decide +kernel
theorem d2_91 : decode (byt 2) 91 = .ok (.lmul, 1) := by decide +kernel
theorem d2_92 : decode (byt 2) 92 = .ok (.invokevirtual 70, 3) := by decide +kernel
theorem d2_95 : decode (byt 2) 95 = .ok (.return_, 1) := by decide +kernel
set_option maxRecDepth 20000 in
theorem S2_0 : (∀ (ls : Lo) (st : List Value) (h : Hp) (Q : Option Value → Hp → Prop)  (i : Nat), Wp 2 0 (some (.ref i) :: ls) (st) h Q ↔ Wp 2 1 (some (.ref i) :: ls) (.ref i :: st) h Q) ∧
  (∀ (ls : Lo) (st : List Value) (h : Hp) (Q : Option Value → Hp → Prop), Wp 2 1 (ls) (st) h Q ↔ Wp 2 2 (ls) (.int (0) :: st) h Q) ∧
  (∀ (ls : Lo) (st : List Value) (h : Hp) (Q : Option Value → Hp → Prop) (l0 l1 l2 l3 l4 l5 l6 l7 l8 : Option Value) (a : Int64), Wp 2 2 (l0 :: l1 :: l2 :: l3 :: l4 :: l5 :: l6 :: l7 :: l8 :: some (.long a) :: ls) (st) h Q ↔ Wp 2 4 (l0 :: l1 :: l2 :: l3 :: l4 :: l5 :: l6 :: l7 :: l8 :: some (.long a) :: ls) (.long a :: st) h Q) ∧
  (∀ (ls : Lo) (st : List Value) (h : Hp) (Q : Option Value → Hp → Prop) (l0 l1 l2 l3 l4 l5 l6 l7 l8 : Option Value) (a : Int64), Wp 2 4 (l0 :: l1 :: l2 :: l3 :: l4 :: l5 :: l6 :: l7 :: l8 :: some (.long a) :: ls) (st) h Q ↔ Wp 2 6 (l0 :: l1 :: l2 :: l3 :: l4 :: l5 :: l6 :: l7 :: l8 :: some (.long a) :: ls) (.long a :: st) h Q) ∧
  (∀ (ls : Lo) (st : List Value) (h : Hp) (Q : Option Value → Hp → Prop) (a b : Int64), Wp 2 6 (ls) (.long b :: .long a :: st) h Q ↔ Wp 2 7 (ls) (.long (a * b) :: st) h Q) ∧
  (∀ (ls : Lo) (st : List Value) (h : Hp) (Q : Option Value → Hp → Prop) (l0 : Option Value) (a : Int64), Wp 2 7 (l0 :: some (.long a) :: ls) (st) h Q ↔ Wp 2 8 (l0 :: some (.long a) :: ls) (.long a :: st) h Q) ∧
  (∀ (ls : Lo) (st : List Value) (h : Hp) (Q : Option Value → Hp → Prop) (l0 : Option Value) (a : Int64), Wp 2 8 (l0 :: some (.long a) :: ls) (st) h Q ↔ Wp 2 9 (l0 :: some (.long a) :: ls) (.long a :: st) h Q) ∧
  (∀ (ls : Lo) (st : List Value) (h : Hp) (Q : Option Value → Hp → Prop) (a b : Int64), Wp 2 9 (ls) (.long b :: .long a :: st) h Q ↔ Wp 2 10 (ls) (.long (a * b) :: st) h Q) ∧
  (∀ (ls : Lo) (st : List Value) (h : Hp) (Q : Option Value → Hp → Prop) (a b : Int64), Wp 2 10 (ls) (.long b :: .long a :: st) h Q ↔ Wp 2 11 (ls) (.long (a - b) :: st) h Q) ∧
  (∀ (ls : Lo) (st : List Value) (h : Hp) (Q : Option Value → Hp → Prop) (l0 : Option Value) (a : Int64), Wp 2 11 (l0 :: some (.long a) :: ls) (st) h Q ↔ Wp 2 12 (l0 :: some (.long a) :: ls) (.long a :: st) h Q) ∧
  (∀ (ls : Lo) (st : List Value) (h : Hp) (Q : Option Value → Hp → Prop) (a : Int64), Wp 2 12 (ls) (.long a :: st) h Q ↔ Wp 2 13 (ls) (.long (-a) :: st) h Q) ∧
  (∀ (ls : Lo) (st : List Value) (h : Hp) (Q : Option Value → Hp → Prop) (l0 l1 l2 : Option Value) (a : Int64), Wp 2 13 (l0 :: l1 :: l2 :: some (.long a) :: ls) (st) h Q ↔ Wp 2 14 (l0 :: l1 :: l2 :: some (.long a) :: ls) (.long a :: st) h Q) ∧
  (∀ (ls : Lo) (st : List Value) (h : Hp) (Q : Option Value → Hp → Prop) (a b : Int64), Wp 2 14 (ls) (.long b :: .long a :: st) h Q ↔ Wp 2 15 (ls) (.long (a * b) :: st) h Q) ∧
  (∀ (ls : Lo) (st : List Value) (h : Hp) (Q : Option Value → Hp → Prop) (l0 l1 l2 : Option Value) (a : Int64), Wp 2 15 (l0 :: l1 :: l2 :: some (.long a) :: ls) (st) h Q ↔ Wp 2 16 (l0 :: l1 :: l2 :: some (.long a) :: ls) (.long a :: st) h Q) ∧
  (∀ (ls : Lo) (st : List Value) (h : Hp) (Q : Option Value → Hp → Prop) (a : Int64), Wp 2 16 (ls) (.long a :: st) h Q ↔ Wp 2 17 (ls) (.long (-a) :: st) h Q) ∧
  (∀ (ls : Lo) (st : List Value) (h : Hp) (Q : Option Value → Hp → Prop) (l0 l1 l2 : Option Value) (a : Int64), Wp 2 17 (l0 :: l1 :: l2 :: some (.long a) :: ls) (st) h Q ↔ Wp 2 18 (l0 :: l1 :: l2 :: some (.long a) :: ls) (.long a :: st) h Q) ∧
  (∀ (ls : Lo) (st : List Value) (h : Hp) (Q : Option Value → Hp → Prop) (a b : Int64), Wp 2 18 (ls) (.long b :: .long a :: st) h Q ↔ Wp 2 19 (ls) (.long (a * b) :: st) h Q) ∧
  (∀ (ls : Lo) (st : List Value) (n sl : Nat) (C Z : Nat → Nat) (I : Nat → Nat → Int32) (L : Nat → Nat → Int64) (R : Nat → Nat → Nat) (Q : Option Value → Hp → Prop) (x0 : Int32) (x1 : Int64) (x2 : Int64) (x3 : Int64) (i : Nat), C i = 1 → (Wp 2 19 (ls) (.long x3 :: .long x2 :: .long x1 :: .int x0 :: .ref i :: st) (n, sl, C, Z, I, L, R) Q ↔ (wsum st ≤ 8 ∧ Call 4 [some (.ref i), some (.int x0), some (.long x1), none, some (.long x2), none, some (.long x3), none] (n, sl, C, Z, I, L, R) 2 22 ls st Q))) ∧
  (∀ (ls : Lo) (st : List Value) (h : Hp) (Q : Option Value → Hp → Prop)  (i : Nat), Wp 2 22 (some (.ref i) :: ls) (st) h Q ↔ Wp 2 23 (some (.ref i) :: ls) (.ref i :: st) h Q) ∧
  (∀ (ls : Lo) (st : List Value) (h : Hp) (Q : Option Value → Hp → Prop), Wp 2 23 (ls) (st) h Q ↔ Wp 2 24 (ls) (.int (1) :: st) h Q) ∧
  (∀ (ls : Lo) (st : List Value) (h : Hp) (Q : Option Value → Hp → Prop), Wp 2 24 (ls) (st) h Q ↔ Wp 2 27 (ls) (.long (-2) :: st) h Q) ∧
  (∀ (ls : Lo) (st : List Value) (h : Hp) (Q : Option Value → Hp → Prop) (l0 : Option Value) (a : Int64), Wp 2 27 (l0 :: some (.long a) :: ls) (st) h Q ↔ Wp 2 28 (l0 :: some (.long a) :: ls) (.long a :: st) h Q) ∧
  (∀ (ls : Lo) (st : List Value) (h : Hp) (Q : Option Value → Hp → Prop) (a b : Int64), Wp 2 28 (ls) (.long b :: .long a :: st) h Q ↔ Wp 2 29 (ls) (.long (a * b) :: st) h Q) ∧
  (∀ (ls : Lo) (st : List Value) (h : Hp) (Q : Option Value → Hp → Prop) (l0 l1 l2 l3 l4 : Option Value) (a : Int64), Wp 2 29 (l0 :: l1 :: l2 :: l3 :: l4 :: some (.long a) :: ls) (st) h Q ↔ Wp 2 31 (l0 :: l1 :: l2 :: l3 :: l4 :: some (.long a) :: ls) (.long a :: st) h Q) ∧
  (∀ (ls : Lo) (st : List Value) (h : Hp) (Q : Option Value → Hp → Prop) (a b : Int64), Wp 2 31 (ls) (.long b :: .long a :: st) h Q ↔ Wp 2 32 (ls) (.long (a * b) :: st) h Q) := ⟨by intro ls st h Q i; exact e_aload_n d2_0 rfl,
  by intro ls st h Q; exact e_iconst d2_1 rfl,
  by intro ls st h Q l0 l1 l2 l3 l4 l5 l6 l7 l8 a; exact e_lload d2_2 rfl,
  by intro ls st h Q l0 l1 l2 l3 l4 l5 l6 l7 l8 a; exact e_lload d2_4 rfl,
  by intro ls st h Q a b; exact e_lmul d2_6,
  by intro ls st h Q l0 a; exact e_lload_n d2_7 rfl,
  by intro ls st h Q l0 a; exact e_lload_n d2_8 rfl,
  by intro ls st h Q a b; exact e_lmul d2_9,
  by intro ls st h Q a b; exact e_lsub d2_10,
  by intro ls st h Q l0 a; exact e_lload_n d2_11 rfl,
  by intro ls st h Q a; exact e_lneg d2_12,
  by intro ls st h Q l0 l1 l2 a; exact e_lload_n d2_13 rfl,
  by intro ls st h Q a b; exact e_lmul d2_14,
  by intro ls st h Q l0 l1 l2 a; exact e_lload_n d2_15 rfl,
  by intro ls st h Q a; exact e_lneg d2_16,
  by intro ls st h Q l0 l1 l2 a; exact e_lload_n d2_17 rfl,
  by intro ls st h Q a b; exact e_lmul d2_18,
  by intro ls st n sl C Z I L R Q x0 x1 x2 x3 i hh; exact e_iv (k2 := 4) (c := 1) (as := [.int x0, .long x1, .long x2, .long x3]) d2_19 rfl (by decide) rfl rfl (by decide +kernel) (Nat.le_of_ble_eq_true rfl) rfl hh,
  by intro ls st h Q i; exact e_aload_n d2_22 rfl,
  by intro ls st h Q; exact e_iconst d2_23 rfl,
  by intro ls st h Q; exact e_ldc2 (p := 464) d2_24 rfl,
  by intro ls st h Q l0 a; exact e_lload_n d2_27 rfl,
  by intro ls st h Q a b; exact e_lmul d2_28,
  by intro ls st h Q l0 l1 l2 l3 l4 a; exact e_lload d2_29 rfl,
  by intro ls st h Q a b; exact e_lmul d2_31⟩
set_option maxRecDepth 20000 in
theorem S2_1 : (∀ (ls : Lo) (st : List Value) (h : Hp) (Q : Option Value → Hp → Prop) (l0 l1 l2 l3 l4 l5 l6 l7 l8 : Option Value) (a : Int64), Wp 2 32 (l0 :: l1 :: l2 :: l3 :: l4 :: l5 :: l6 :: l7 :: l8 :: some (.long a) :: ls) (st) h Q ↔ Wp 2 34 (l0 :: l1 :: l2 :: l3 :: l4 :: l5 :: l6 :: l7 :: l8 :: some (.long a) :: ls) (.long a :: st) h Q) ∧
  (∀ (ls : Lo) (st : List Value) (h : Hp) (Q : Option Value → Hp → Prop) (l0 l1 l2 l3 l4 l5 l6 l7 l8 : Option Value) (a : Int64), Wp 2 34 (l0 :: l1 :: l2 :: l3 :: l4 :: l5 :: l6 :: l7 :: l8 :: some (.long a) :: ls) (st) h Q ↔ Wp 2 36 (l0 :: l1 :: l2 :: l3 :: l4 :: l5 :: l6 :: l7 :: l8 :: some (.long a) :: ls) (.long a :: st) h Q) ∧
  (∀ (ls : Lo) (st : List Value) (h : Hp) (Q : Option Value → Hp → Prop) (a b : Int64), Wp 2 36 (ls) (.long b :: .long a :: st) h Q ↔ Wp 2 37 (ls) (.long (a * b) :: st) h Q) ∧
  (∀ (ls : Lo) (st : List Value) (h : Hp) (Q : Option Value → Hp → Prop) (l0 : Option Value) (a : Int64), Wp 2 37 (l0 :: some (.long a) :: ls) (st) h Q ↔ Wp 2 38 (l0 :: some (.long a) :: ls) (.long a :: st) h Q) ∧
  (∀ (ls : Lo) (st : List Value) (h : Hp) (Q : Option Value → Hp → Prop) (l0 l1 l2 l3 l4 l5 l6 : Option Value) (a : Int64), Wp 2 38 (l0 :: l1 :: l2 :: l3 :: l4 :: l5 :: l6 :: some (.long a) :: ls) (st) h Q ↔ Wp 2 40 (l0 :: l1 :: l2 :: l3 :: l4 :: l5 :: l6 :: some (.long a) :: ls) (.long a :: st) h Q) ∧
  (∀ (ls : Lo) (st : List Value) (h : Hp) (Q : Option Value → Hp → Prop) (a b : Int64), Wp 2 40 (ls) (.long b :: .long a :: st) h Q ↔ Wp 2 41 (ls) (.long (a * b) :: st) h Q) ∧
  (∀ (ls : Lo) (st : List Value) (h : Hp) (Q : Option Value → Hp → Prop) (a b : Int64), Wp 2 41 (ls) (.long b :: .long a :: st) h Q ↔ Wp 2 42 (ls) (.long (a - b) :: st) h Q) ∧
  (∀ (ls : Lo) (st : List Value) (h : Hp) (Q : Option Value → Hp → Prop) (l0 l1 l2 : Option Value) (a : Int64), Wp 2 42 (l0 :: l1 :: l2 :: some (.long a) :: ls) (st) h Q ↔ Wp 2 43 (l0 :: l1 :: l2 :: some (.long a) :: ls) (.long a :: st) h Q) ∧
  (∀ (ls : Lo) (st : List Value) (h : Hp) (Q : Option Value → Hp → Prop) (l0 l1 l2 l3 l4 : Option Value) (a : Int64), Wp 2 43 (l0 :: l1 :: l2 :: l3 :: l4 :: some (.long a) :: ls) (st) h Q ↔ Wp 2 45 (l0 :: l1 :: l2 :: l3 :: l4 :: some (.long a) :: ls) (.long a :: st) h Q) ∧
  (∀ (ls : Lo) (st : List Value) (h : Hp) (Q : Option Value → Hp → Prop) (a b : Int64), Wp 2 45 (ls) (.long b :: .long a :: st) h Q ↔ Wp 2 46 (ls) (.long (a * b) :: st) h Q) ∧
  (∀ (ls : Lo) (st : List Value) (h : Hp) (Q : Option Value → Hp → Prop) (a b : Int64), Wp 2 46 (ls) (.long b :: .long a :: st) h Q ↔ Wp 2 47 (ls) (.long (a - b) :: st) h Q) ∧
  (∀ (ls : Lo) (st : List Value) (h : Hp) (Q : Option Value → Hp → Prop), Wp 2 47 (ls) (st) h Q ↔ Wp 2 50 (ls) (.long (-2) :: st) h Q) ∧
  (∀ (ls : Lo) (st : List Value) (h : Hp) (Q : Option Value → Hp → Prop) (l0 l1 l2 : Option Value) (a : Int64), Wp 2 50 (l0 :: l1 :: l2 :: some (.long a) :: ls) (st) h Q ↔ Wp 2 51 (l0 :: l1 :: l2 :: some (.long a) :: ls) (.long a :: st) h Q) ∧
  (∀ (ls : Lo) (st : List Value) (h : Hp) (Q : Option Value → Hp → Prop) (a b : Int64), Wp 2 51 (ls) (.long b :: .long a :: st) h Q ↔ Wp 2 52 (ls) (.long (a * b) :: st) h Q) ∧
  (∀ (ls : Lo) (st : List Value) (h : Hp) (Q : Option Value → Hp → Prop) (l0 l1 l2 l3 l4 l5 l6 : Option Value) (a : Int64), Wp 2 52 (l0 :: l1 :: l2 :: l3 :: l4 :: l5 :: l6 :: some (.long a) :: ls) (st) h Q ↔ Wp 2 54 (l0 :: l1 :: l2 :: l3 :: l4 :: l5 :: l6 :: some (.long a) :: ls) (.long a :: st) h Q) ∧
  (∀ (ls : Lo) (st : List Value) (h : Hp) (Q : Option Value → Hp → Prop) (a b : Int64), Wp 2 54 (ls) (.long b :: .long a :: st) h Q ↔ Wp 2 55 (ls) (.long (a * b) :: st) h Q) ∧
  (∀ (ls : Lo) (st : List Value) (n sl : Nat) (C Z : Nat → Nat) (I : Nat → Nat → Int32) (L : Nat → Nat → Int64) (R : Nat → Nat → Nat) (Q : Option Value → Hp → Prop) (x0 : Int32) (x1 : Int64) (x2 : Int64) (x3 : Int64) (i : Nat), C i = 1 → (Wp 2 55 (ls) (.long x3 :: .long x2 :: .long x1 :: .int x0 :: .ref i :: st) (n, sl, C, Z, I, L, R) Q ↔ (wsum st ≤ 8 ∧ Call 4 [some (.ref i), some (.int x0), some (.long x1), none, some (.long x2), none, some (.long x3), none] (n, sl, C, Z, I, L, R) 2 58 ls st Q))) ∧
  (∀ (ls : Lo) (st : List Value) (h : Hp) (Q : Option Value → Hp → Prop)  (i : Nat), Wp 2 58 (some (.ref i) :: ls) (st) h Q ↔ Wp 2 59 (some (.ref i) :: ls) (.ref i :: st) h Q) ∧
  (∀ (ls : Lo) (st : List Value) (h : Hp) (Q : Option Value → Hp → Prop), Wp 2 59 (ls) (st) h Q ↔ Wp 2 60 (ls) (.int (2) :: st) h Q) ∧
  (∀ (ls : Lo) (st : List Value) (h : Hp) (Q : Option Value → Hp → Prop) (l0 l1 l2 l3 l4 : Option Value) (a : Int64), Wp 2 60 (l0 :: l1 :: l2 :: l3 :: l4 :: some (.long a) :: ls) (st) h Q ↔ Wp 2 62 (l0 :: l1 :: l2 :: l3 :: l4 :: some (.long a) :: ls) (.long a :: st) h Q) ∧
  (∀ (ls : Lo) (st : List Value) (h : Hp) (Q : Option Value → Hp → Prop) (a : Int64), Wp 2 62 (ls) (.long a :: st) h Q ↔ Wp 2 63 (ls) (.long (-a) :: st) h Q) ∧
  (∀ (ls : Lo) (st : List Value) (h : Hp) (Q : Option Value → Hp → Prop) (l0 l1 l2 l3 l4 : Option Value) (a : Int64), Wp 2 63 (l0 :: l1 :: l2 :: l3 :: l4 :: some (.long a) :: ls) (st) h Q ↔ Wp 2 65 (l0 :: l1 :: l2 :: l3 :: l4 :: some (.long a) :: ls) (.long a :: st) h Q) ∧
  (∀ (ls : Lo) (st : List Value) (h : Hp) (Q : Option Value → Hp → Prop) (a b : Int64), Wp 2 65 (ls) (.long b :: .long a :: st) h Q ↔ Wp 2 66 (ls) (.long (a * b) :: st) h Q) ∧
  (∀ (ls : Lo) (st : List Value) (h : Hp) (Q : Option Value → Hp → Prop) (l0 l1 l2 l3 l4 : Option Value) (a : Int64), Wp 2 66 (l0 :: l1 :: l2 :: l3 :: l4 :: some (.long a) :: ls) (st) h Q ↔ Wp 2 68 (l0 :: l1 :: l2 :: l3 :: l4 :: some (.long a) :: ls) (.long a :: st) h Q) ∧
  (∀ (ls : Lo) (st : List Value) (h : Hp) (Q : Option Value → Hp → Prop) (a : Int64), Wp 2 68 (ls) (.long a :: st) h Q ↔ Wp 2 69 (ls) (.long (-a) :: st) h Q) := ⟨by intro ls st h Q l0 l1 l2 l3 l4 l5 l6 l7 l8 a; exact e_lload d2_32 rfl,
  by intro ls st h Q l0 l1 l2 l3 l4 l5 l6 l7 l8 a; exact e_lload d2_34 rfl,
  by intro ls st h Q a b; exact e_lmul d2_36,
  by intro ls st h Q l0 a; exact e_lload_n d2_37 rfl,
  by intro ls st h Q l0 l1 l2 l3 l4 l5 l6 a; exact e_lload d2_38 rfl,
  by intro ls st h Q a b; exact e_lmul d2_40,
  by intro ls st h Q a b; exact e_lsub d2_41,
  by intro ls st h Q l0 l1 l2 a; exact e_lload_n d2_42 rfl,
  by intro ls st h Q l0 l1 l2 l3 l4 a; exact e_lload d2_43 rfl,
  by intro ls st h Q a b; exact e_lmul d2_45,
  by intro ls st h Q a b; exact e_lsub d2_46,
  by intro ls st h Q; exact e_ldc2 (p := 464) d2_47 rfl,
  by intro ls st h Q l0 l1 l2 a; exact e_lload_n d2_50 rfl,
  by intro ls st h Q a b; exact e_lmul d2_51,
  by intro ls st h Q l0 l1 l2 l3 l4 l5 l6 a; exact e_lload d2_52 rfl,
  by intro ls st h Q a b; exact e_lmul d2_54,
  by intro ls st n sl C Z I L R Q x0 x1 x2 x3 i hh; exact e_iv (k2 := 4) (c := 1) (as := [.int x0, .long x1, .long x2, .long x3]) d2_55 rfl (by decide) rfl rfl (by decide +kernel) (Nat.le_of_ble_eq_true rfl) rfl hh,
  by intro ls st h Q i; exact e_aload_n d2_58 rfl,
  by intro ls st h Q; exact e_iconst d2_59 rfl,
  by intro ls st h Q l0 l1 l2 l3 l4 a; exact e_lload d2_60 rfl,
  by intro ls st h Q a; exact e_lneg d2_62,
  by intro ls st h Q l0 l1 l2 l3 l4 a; exact e_lload d2_63 rfl,
  by intro ls st h Q a b; exact e_lmul d2_65,
  by intro ls st h Q l0 l1 l2 l3 l4 a; exact e_lload d2_66 rfl,
  by intro ls st h Q a; exact e_lneg d2_68⟩
set_option maxRecDepth 20000 in
theorem S2_2 : (∀ (ls : Lo) (st : List Value) (h : Hp) (Q : Option Value → Hp → Prop) (l0 l1 l2 l3 l4 l5 l6 : Option Value) (a : Int64), Wp 2 69 (l0 :: l1 :: l2 :: l3 :: l4 :: l5 :: l6 :: some (.long a) :: ls) (st) h Q ↔ Wp 2 71 (l0 :: l1 :: l2 :: l3 :: l4 :: l5 :: l6 :: some (.long a) :: ls) (.long a :: st) h Q) ∧
  (∀ (ls : Lo) (st : List Value) (h : Hp) (Q : Option Value → Hp → Prop) (a b : Int64), Wp 2 71 (ls) (.long b :: .long a :: st) h Q ↔ Wp 2 72 (ls) (.long (a * b) :: st) h Q) ∧
  (∀ (ls : Lo) (st : List Value) (h : Hp) (Q : Option Value → Hp → Prop) (l0 l1 l2 l3 l4 l5 l6 l7 l8 : Option Value) (a : Int64), Wp 2 72 (l0 :: l1 :: l2 :: l3 :: l4 :: l5 :: l6 :: l7 :: l8 :: some (.long a) :: ls) (st) h Q ↔ Wp 2 74 (l0 :: l1 :: l2 :: l3 :: l4 :: l5 :: l6 :: l7 :: l8 :: some (.long a) :: ls) (.long a :: st) h Q) ∧
  (∀ (ls : Lo) (st : List Value) (h : Hp) (Q : Option Value → Hp → Prop) (l0 l1 l2 l3 l4 l5 l6 l7 l8 : Option Value) (a : Int64), Wp 2 74 (l0 :: l1 :: l2 :: l3 :: l4 :: l5 :: l6 :: l7 :: l8 :: some (.long a) :: ls) (st) h Q ↔ Wp 2 76 (l0 :: l1 :: l2 :: l3 :: l4 :: l5 :: l6 :: l7 :: l8 :: some (.long a) :: ls) (.long a :: st) h Q) ∧
  (∀ (ls : Lo) (st : List Value) (h : Hp) (Q : Option Value → Hp → Prop) (a b : Int64), Wp 2 76 (ls) (.long b :: .long a :: st) h Q ↔ Wp 2 77 (ls) (.long (a * b) :: st) h Q) ∧
  (∀ (ls : Lo) (st : List Value) (h : Hp) (Q : Option Value → Hp → Prop) (l0 l1 l2 l3 l4 l5 l6 : Option Value) (a : Int64), Wp 2 77 (l0 :: l1 :: l2 :: l3 :: l4 :: l5 :: l6 :: some (.long a) :: ls) (st) h Q ↔ Wp 2 79 (l0 :: l1 :: l2 :: l3 :: l4 :: l5 :: l6 :: some (.long a) :: ls) (.long a :: st) h Q) ∧
  (∀ (ls : Lo) (st : List Value) (h : Hp) (Q : Option Value → Hp → Prop) (l0 l1 l2 l3 l4 l5 l6 : Option Value) (a : Int64), Wp 2 79 (l0 :: l1 :: l2 :: l3 :: l4 :: l5 :: l6 :: some (.long a) :: ls) (st) h Q ↔ Wp 2 81 (l0 :: l1 :: l2 :: l3 :: l4 :: l5 :: l6 :: some (.long a) :: ls) (.long a :: st) h Q) ∧
  (∀ (ls : Lo) (st : List Value) (h : Hp) (Q : Option Value → Hp → Prop) (a b : Int64), Wp 2 81 (ls) (.long b :: .long a :: st) h Q ↔ Wp 2 82 (ls) (.long (a * b) :: st) h Q) ∧
  (∀ (ls : Lo) (st : List Value) (h : Hp) (Q : Option Value → Hp → Prop) (a b : Int64), Wp 2 82 (ls) (.long b :: .long a :: st) h Q ↔ Wp 2 83 (ls) (.long (a - b) :: st) h Q) ∧
  (∀ (ls : Lo) (st : List Value) (n sl : Nat) (C Z : Nat → Nat) (I : Nat → Nat → Int32) (L : Nat → Nat → Int64) (R : Nat → Nat → Nat) (Q : Option Value → Hp → Prop) (x0 : Int32) (x1 : Int64) (x2 : Int64) (x3 : Int64) (i : Nat), C i = 1 → (Wp 2 83 (ls) (.long x3 :: .long x2 :: .long x1 :: .int x0 :: .ref i :: st) (n, sl, C, Z, I, L, R) Q ↔ (wsum st ≤ 8 ∧ Call 4 [some (.ref i), some (.int x0), some (.long x1), none, some (.long x2), none, some (.long x3), none] (n, sl, C, Z, I, L, R) 2 86 ls st Q))) ∧
  (∀ (ls : Lo) (st : List Value) (h : Hp) (Q : Option Value → Hp → Prop)  (i : Nat), Wp 2 86 (some (.ref i) :: ls) (st) h Q ↔ Wp 2 87 (some (.ref i) :: ls) (.ref i :: st) h Q) ∧
  (∀ (ls : Lo) (st : List Value) (h : Hp) (Q : Option Value → Hp → Prop) (l0 l1 l2 l3 l4 l5 l6 l7 l8 : Option Value) (a : Int64), Wp 2 87 (l0 :: l1 :: l2 :: l3 :: l4 :: l5 :: l6 :: l7 :: l8 :: some (.long a) :: ls) (st) h Q ↔ Wp 2 89 (l0 :: l1 :: l2 :: l3 :: l4 :: l5 :: l6 :: l7 :: l8 :: some (.long a) :: ls) (.long a :: st) h Q) ∧
  (∀ (ls : Lo) (st : List Value) (h : Hp) (Q : Option Value → Hp → Prop) (l0 l1 l2 l3 l4 l5 l6 l7 l8 : Option Value) (a : Int64), Wp 2 89 (l0 :: l1 :: l2 :: l3 :: l4 :: l5 :: l6 :: l7 :: l8 :: some (.long a) :: ls) (st) h Q ↔ Wp 2 91 (l0 :: l1 :: l2 :: l3 :: l4 :: l5 :: l6 :: l7 :: l8 :: some (.long a) :: ls) (.long a :: st) h Q) ∧
  (∀ (ls : Lo) (st : List Value) (h : Hp) (Q : Option Value → Hp → Prop) (a b : Int64), Wp 2 91 (ls) (.long b :: .long a :: st) h Q ↔ Wp 2 92 (ls) (.long (a * b) :: st) h Q) ∧
  (∀ (ls : Lo) (st : List Value) (n sl : Nat) (C Z : Nat → Nat) (I : Nat → Nat → Int32) (L : Nat → Nat → Int64) (R : Nat → Nat → Nat) (Q : Option Value → Hp → Prop) (x0 : Int64) (i : Nat), C i = 1 → (Wp 2 92 (ls) (.long x0 :: .ref i :: st) (n, sl, C, Z, I, L, R) Q ↔ (wsum st ≤ 8 ∧ Call 5 [some (.ref i), some (.long x0), none] (n, sl, C, Z, I, L, R) 2 95 ls st Q))) ∧
  (∀ (ls : Lo) (h : Hp) (Q : Option Value → Hp → Prop), Wp 2 95 (ls) ([]) h Q ↔ Q none h) := ⟨by intro ls st h Q l0 l1 l2 l3 l4 l5 l6 a; exact e_lload d2_69 rfl,
  by intro ls st h Q a b; exact e_lmul d2_71,
  by intro ls st h Q l0 l1 l2 l3 l4 l5 l6 l7 l8 a; exact e_lload d2_72 rfl,
  by intro ls st h Q l0 l1 l2 l3 l4 l5 l6 l7 l8 a; exact e_lload d2_74 rfl,
  by intro ls st h Q a b; exact e_lmul d2_76,
  by intro ls st h Q l0 l1 l2 l3 l4 l5 l6 a; exact e_lload d2_77 rfl,
  by intro ls st h Q l0 l1 l2 l3 l4 l5 l6 a; exact e_lload d2_79 rfl,
  by intro ls st h Q a b; exact e_lmul d2_81,
  by intro ls st h Q a b; exact e_lsub d2_82,
  by intro ls st n sl C Z I L R Q x0 x1 x2 x3 i hh; exact e_iv (k2 := 4) (c := 1) (as := [.int x0, .long x1, .long x2, .long x3]) d2_83 rfl (by decide) rfl rfl (by decide +kernel) (Nat.le_of_ble_eq_true rfl) rfl hh,
  by intro ls st h Q i; exact e_aload_n d2_86 rfl,
  by intro ls st h Q l0 l1 l2 l3 l4 l5 l6 l7 l8 a; exact e_lload d2_87 rfl,
  by intro ls st h Q l0 l1 l2 l3 l4 l5 l6 l7 l8 a; exact e_lload d2_89 rfl,
  by intro ls st h Q a b; exact e_lmul d2_91,
  by intro ls st n sl C Z I L R Q x0 i hh; exact e_iv (k2 := 5) (c := 1) (as := [.long x0]) d2_92 rfl (by decide) rfl rfl (by decide +kernel) (Nat.le_of_ble_eq_true rfl) rfl hh,
  by intros; exact e_rV d2_95 rfl⟩
theorem d3_0 : decode (byt 3) 0 = .ok (.aload_n 0, 1) := by decide +kernel
theorem d3_1 : decode (byt 3) 1 = .ok (.iconst 0, 1) := by decide +kernel
theorem d3_2 : decode (byt 3) 2 = .ok (.ldc2_w 74, 3) := by decide +kernel
theorem d3_5 : decode (byt 3) 5 = .ok (.lload_n 1, 1) := by decide +kernel
theorem d3_6 : decode (byt 3) 6 = .ok (.lmul, 1) := by decide +kernel
theorem d3_7 : decode (byt 3) 7 = .ok (.lload_n 3, 1) := by decide +kernel
theorem d3_8 : decode (byt 3) 8 = .ok (.lconst 0, 1) := by decide +kernel
theorem d3_9 : decode (byt 3) 9 = .ok (.invokevirtual 64, 3) := by decide +kernel
theorem d3_12 : decode (byt 3) 12 = .ok (.aload_n 0, 1) := by decide +kernel
theorem d3_13 : decode (byt 3) 13 = .ok (.iconst 1, 1) := by decide +kernel
theorem d3_14 : decode (byt 3) 14 = .ok (.ldc2_w 74, 3) := by decide +kernel
theorem d3_17 : decode (byt 3) 17 = .ok (.lload 5, 2) := by decide +kernel
theorem d3_19 : decode (byt 3) 19 = .ok (.lmul, 1) := by decide +kernel
theorem d3_20 : decode (byt 3) 20 = .ok (.lload_n 1, 1) := by decide +kernel
theorem d3_21 : decode (byt 3) 21 = .ok (.lload 7, 2) := by decide +kernel
theorem d3_23 : decode (byt 3) 23 = .ok (.ladd, 1) := by decide +kernel
theorem d3_24 : decode (byt 3) 24 = .ok (.ldc2_w 74, 3) := by decide +kernel
theorem d3_27 : decode (byt 3) 27 = .ok (.lload_n 3, 1) := by decide +kernel
theorem d3_28 : decode (byt 3) 28 = .ok (.lmul, 1) := by decide +kernel
theorem d3_29 : decode (byt 3) 29 = .ok (.invokevirtual 64, 3) := by decide +kernel
theorem d3_32 : decode (byt 3) 32 = .ok (.aload_n 0, 1) := by decide +kernel
theorem d3_33 : decode (byt 3) 33 = .ok (.iconst 2, 1) := by decide +kernel
theorem d3_34 : decode (byt 3) 34 = .ok (.lconst 0, 1) := by decide +kernel
theorem d3_35 : decode (byt 3) 35 = .ok (.lload 5, 2) := by decide +kernel
theorem d3_37 : decode (byt 3) 37 = .ok (.ldc2_w 74, 3) := by decide +kernel
theorem d3_40 : decode (byt 3) 40 = .ok (.lload 7, 2) := by decide +kernel
theorem d3_42 : decode (byt 3) 42 = .ok (.lmul, 1) := by decide +kernel
theorem d3_43 : decode (byt 3) 43 = .ok (.invokevirtual 64, 3) := by decide +kernel
theorem d3_46 : decode (byt 3) 46 = .ok (.aload_n 0, 1) := by decide +kernel
theorem d3_47 : decode (byt 3) 47 = .ok (.lload 9, 2) := by decide +kernel
theorem d3_49 : decode (byt 3) 49 = .ok (.lneg, 1) := by decide +kernel
theorem d3_50 : decode (byt 3) 50 = .ok (.invokevirtual 70, 3) := by decide +kernel
theorem d3_53 : decode (byt 3) 53 = .ok (.return_, 1) := by decide +kernel
set_option maxRecDepth 20000 in
theorem S3_0 : (∀ (ls : Lo) (st : List Value) (h : Hp) (Q : Option Value → Hp → Prop)  (i : Nat), Wp 3 0 (some (.ref i) :: ls) (st) h Q ↔ Wp 3 1 (some (.ref i) :: ls) (.ref i :: st) h Q) ∧
  (∀ (ls : Lo) (st : List Value) (h : Hp) (Q : Option Value → Hp → Prop), Wp 3 1 (ls) (st) h Q ↔ Wp 3 2 (ls) (.int (0) :: st) h Q) ∧
  (∀ (ls : Lo) (st : List Value) (h : Hp) (Q : Option Value → Hp → Prop), Wp 3 2 (ls) (st) h Q ↔ Wp 3 5 (ls) (.long (2) :: st) h Q) ∧
  (∀ (ls : Lo) (st : List Value) (h : Hp) (Q : Option Value → Hp → Prop) (l0 : Option Value) (a : Int64), Wp 3 5 (l0 :: some (.long a) :: ls) (st) h Q ↔ Wp 3 6 (l0 :: some (.long a) :: ls) (.long a :: st) h Q) ∧
  (∀ (ls : Lo) (st : List Value) (h : Hp) (Q : Option Value → Hp → Prop) (a b : Int64), Wp 3 6 (ls) (.long b :: .long a :: st) h Q ↔ Wp 3 7 (ls) (.long (a * b) :: st) h Q) ∧
  (∀ (ls : Lo) (st : List Value) (h : Hp) (Q : Option Value → Hp → Prop) (l0 l1 l2 : Option Value) (a : Int64), Wp 3 7 (l0 :: l1 :: l2 :: some (.long a) :: ls) (st) h Q ↔ Wp 3 8 (l0 :: l1 :: l2 :: some (.long a) :: ls) (.long a :: st) h Q) ∧
  (∀ (ls : Lo) (st : List Value) (h : Hp) (Q : Option Value → Hp → Prop), Wp 3 8 (ls) (st) h Q ↔ Wp 3 9 (ls) (.long 0 :: st) h Q) ∧
  (∀ (ls : Lo) (st : List Value) (n sl : Nat) (C Z : Nat → Nat) (I : Nat → Nat → Int32) (L : Nat → Nat → Int64) (R : Nat → Nat → Nat) (Q : Option Value → Hp → Prop) (x0 : Int32) (x1 : Int64) (x2 : Int64) (x3 : Int64) (i : Nat), C i = 1 → (Wp 3 9 (ls) (.long x3 :: .long x2 :: .long x1 :: .int x0 :: .ref i :: st) (n, sl, C, Z, I, L, R) Q ↔ (wsum st ≤ 8 ∧ Call 4 [some (.ref i), some (.int x0), some (.long x1), none, some (.long x2), none, some (.long x3), none] (n, sl, C, Z, I, L, R) 3 12 ls st Q))) ∧
  (∀ (ls : Lo) (st : List Value) (h : Hp) (Q : Option Value → Hp → Prop)  (i : Nat), Wp 3 12 (some (.ref i) :: ls) (st) h Q ↔ Wp 3 13 (some (.ref i) :: ls) (.ref i :: st) h Q) ∧
  (∀ (ls : Lo) (st : List Value) (h : Hp) (Q : Option Value → Hp → Prop), Wp 3 13 (ls) (st) h Q ↔ Wp 3 14 (ls) (.int (1) :: st) h Q) ∧
  (∀ (ls : Lo) (st : List Value) (h : Hp) (Q : Option Value → Hp → Prop), Wp 3 14 (ls) (st) h Q ↔ Wp 3 17 (ls) (.long (2) :: st) h Q) ∧
  (∀ (ls : Lo) (st : List Value) (h : Hp) (Q : Option Value → Hp → Prop) (l0 l1 l2 l3 l4 : Option Value) (a : Int64), Wp 3 17 (l0 :: l1 :: l2 :: l3 :: l4 :: some (.long a) :: ls) (st) h Q ↔ Wp 3 19 (l0 :: l1 :: l2 :: l3 :: l4 :: some (.long a) :: ls) (.long a :: st) h Q) ∧
  (∀ (ls : Lo) (st : List Value) (h : Hp) (Q : Option Value → Hp → Prop) (a b : Int64), Wp 3 19 (ls) (.long b :: .long a :: st) h Q ↔ Wp 3 20 (ls) (.long (a * b) :: st) h Q) ∧
  (∀ (ls : Lo) (st : List Value) (h : Hp) (Q : Option Value → Hp → Prop) (l0 : Option Value) (a : Int64), Wp 3 20 (l0 :: some (.long a) :: ls) (st) h Q ↔ Wp 3 21 (l0 :: some (.long a) :: ls) (.long a :: st) h Q) ∧
  (∀ (ls : Lo) (st : List Value) (h : Hp) (Q : Option Value → Hp → Prop) (l0 l1 l2 l3 l4 l5 l6 : Option Value) (a : Int64), Wp 3 21 (l0 :: l1 :: l2 :: l3 :: l4 :: l5 :: l6 :: some (.long a) :: ls) (st) h Q ↔ Wp 3 23 (l0 :: l1 :: l2 :: l3 :: l4 :: l5 :: l6 :: some (.long a) :: ls) (.long a :: st) h Q) ∧
  (∀ (ls : Lo) (st : List Value) (h : Hp) (Q : Option Value → Hp → Prop) (a b : Int64), Wp 3 23 (ls) (.long b :: .long a :: st) h Q ↔ Wp 3 24 (ls) (.long (a + b) :: st) h Q) ∧
  (∀ (ls : Lo) (st : List Value) (h : Hp) (Q : Option Value → Hp → Prop), Wp 3 24 (ls) (st) h Q ↔ Wp 3 27 (ls) (.long (2) :: st) h Q) ∧
  (∀ (ls : Lo) (st : List Value) (h : Hp) (Q : Option Value → Hp → Prop) (l0 l1 l2 : Option Value) (a : Int64), Wp 3 27 (l0 :: l1 :: l2 :: some (.long a) :: ls) (st) h Q ↔ Wp 3 28 (l0 :: l1 :: l2 :: some (.long a) :: ls) (.long a :: st) h Q) ∧
  (∀ (ls : Lo) (st : List Value) (h : Hp) (Q : Option Value → Hp → Prop) (a b : Int64), Wp 3 28 (ls) (.long b :: .long a :: st) h Q ↔ Wp 3 29 (ls) (.long (a * b) :: st) h Q) ∧
  (∀ (ls : Lo) (st : List Value) (n sl : Nat) (C Z : Nat → Nat) (I : Nat → Nat → Int32) (L : Nat → Nat → Int64) (R : Nat → Nat → Nat) (Q : Option Value → Hp → Prop) (x0 : Int32) (x1 : Int64) (x2 : Int64) (x3 : Int64) (i : Nat), C i = 1 → (Wp 3 29 (ls) (.long x3 :: .long x2 :: .long x1 :: .int x0 :: .ref i :: st) (n, sl, C, Z, I, L, R) Q ↔ (wsum st ≤ 8 ∧ Call 4 [some (.ref i), some (.int x0), some (.long x1), none, some (.long x2), none, some (.long x3), none] (n, sl, C, Z, I, L, R) 3 32 ls st Q))) ∧
  (∀ (ls : Lo) (st : List Value) (h : Hp) (Q : Option Value → Hp → Prop)  (i : Nat), Wp 3 32 (some (.ref i) :: ls) (st) h Q ↔ Wp 3 33 (some (.ref i) :: ls) (.ref i :: st) h Q) ∧
  (∀ (ls : Lo) (st : List Value) (h : Hp) (Q : Option Value → Hp → Prop), Wp 3 33 (ls) (st) h Q ↔ Wp 3 34 (ls) (.int (2) :: st) h Q) ∧
  (∀ (ls : Lo) (st : List Value) (h : Hp) (Q : Option Value → Hp → Prop), Wp 3 34 (ls) (st) h Q ↔ Wp 3 35 (ls) (.long 0 :: st) h Q) ∧
  (∀ (ls : Lo) (st : List Value) (h : Hp) (Q : Option Value → Hp → Prop) (l0 l1 l2 l3 l4 : Option Value) (a : Int64), Wp 3 35 (l0 :: l1 :: l2 :: l3 :: l4 :: some (.long a) :: ls) (st) h Q ↔ Wp 3 37 (l0 :: l1 :: l2 :: l3 :: l4 :: some (.long a) :: ls) (.long a :: st) h Q) ∧
  (∀ (ls : Lo) (st : List Value) (h : Hp) (Q : Option Value → Hp → Prop), Wp 3 37 (ls) (st) h Q ↔ Wp 3 40 (ls) (.long (2) :: st) h Q) := ⟨by intro ls st h Q i; exact e_aload_n d3_0 rfl,
  by intro ls st h Q; exact e_iconst d3_1 rfl,
  by intro ls st h Q; exact e_ldc2 (p := 451) d3_2 rfl,
  by intro ls st h Q l0 a; exact e_lload_n d3_5 rfl,
  by intro ls st h Q a b; exact e_lmul d3_6,
  by intro ls st h Q l0 l1 l2 a; exact e_lload_n d3_7 rfl,
  by intro ls st h Q; exact e_lconst d3_8 rfl,
  by intro ls st n sl C Z I L R Q x0 x1 x2 x3 i hh; exact e_iv (k2 := 4) (c := 1) (as := [.int x0, .long x1, .long x2, .long x3]) d3_9 rfl (by decide) rfl rfl (by decide +kernel) (Nat.le_of_ble_eq_true rfl) rfl hh,
  by intro ls st h Q i; exact e_aload_n d3_12 rfl,
  by intro ls st h Q; exact e_iconst d3_13 rfl,
  by intro ls st h Q; exact e_ldc2 (p := 451) d3_14 rfl,
  by intro ls st h Q l0 l1 l2 l3 l4 a; exact e_lload d3_17 rfl,
  by intro ls st h Q a b; exact e_lmul d3_19,
  by intro ls st h Q l0 a; exact e_lload_n d3_20 rfl,
  by intro ls st h Q l0 l1 l2 l3 l4 l5 l6 a; exact e_lload d3_21 rfl,
  by intro ls st h Q a b; exact e_ladd d3_23,
  by intro ls st h Q; exact e_ldc2 (p := 451) d3_24 rfl,
  by intro ls st h Q l0 l1 l2 a; exact e_lload_n d3_27 rfl,
  by intro ls st h Q a b; exact e_lmul d3_28,
  by intro ls st n sl C Z I L R Q x0 x1 x2 x3 i hh; exact e_iv (k2 := 4) (c := 1) (as := [.int x0, .long x1, .long x2, .long x3]) d3_29 rfl (by decide) rfl rfl (by decide +kernel) (Nat.le_of_ble_eq_true rfl) rfl hh,
  by intro ls st h Q i; exact e_aload_n d3_32 rfl,
  by intro ls st h Q; exact e_iconst d3_33 rfl,
  by intro ls st h Q; exact e_lconst d3_34 rfl,
  by intro ls st h Q l0 l1 l2 l3 l4 a; exact e_lload d3_35 rfl,
  by intro ls st h Q; exact e_ldc2 (p := 451) d3_37 rfl⟩
set_option maxRecDepth 20000 in
theorem S3_1 : (∀ (ls : Lo) (st : List Value) (h : Hp) (Q : Option Value → Hp → Prop) (l0 l1 l2 l3 l4 l5 l6 : Option Value) (a : Int64), Wp 3 40 (l0 :: l1 :: l2 :: l3 :: l4 :: l5 :: l6 :: some (.long a) :: ls) (st) h Q ↔ Wp 3 42 (l0 :: l1 :: l2 :: l3 :: l4 :: l5 :: l6 :: some (.long a) :: ls) (.long a :: st) h Q) ∧
  (∀ (ls : Lo) (st : List Value) (h : Hp) (Q : Option Value → Hp → Prop) (a b : Int64), Wp 3 42 (ls) (.long b :: .long a :: st) h Q ↔ Wp 3 43 (ls) (.long (a * b) :: st) h Q) ∧
  (∀ (ls : Lo) (st : List Value) (n sl : Nat) (C Z : Nat → Nat) (I : Nat → Nat → Int32) (L : Nat → Nat → Int64) (R : Nat → Nat → Nat) (Q : Option Value → Hp → Prop) (x0 : Int32) (x1 : Int64) (x2 : Int64) (x3 : Int64) (i : Nat), C i = 1 → (Wp 3 43 (ls) (.long x3 :: .long x2 :: .long x1 :: .int x0 :: .ref i :: st) (n, sl, C, Z, I, L, R) Q ↔ (wsum st ≤ 8 ∧ Call 4 [some (.ref i), some (.int x0), some (.long x1), none, some (.long x2), none, some (.long x3), none] (n, sl, C, Z, I, L, R) 3 46 ls st Q))) ∧
  (∀ (ls : Lo) (st : List Value) (h : Hp) (Q : Option Value → Hp → Prop)  (i : Nat), Wp 3 46 (some (.ref i) :: ls) (st) h Q ↔ Wp 3 47 (some (.ref i) :: ls) (.ref i :: st) h Q) ∧
  (∀ (ls : Lo) (st : List Value) (h : Hp) (Q : Option Value → Hp → Prop) (l0 l1 l2 l3 l4 l5 l6 l7 l8 : Option Value) (a : Int64), Wp 3 47 (l0 :: l1 :: l2 :: l3 :: l4 :: l5 :: l6 :: l7 :: l8 :: some (.long a) :: ls) (st) h Q ↔ Wp 3 49 (l0 :: l1 :: l2 :: l3 :: l4 :: l5 :: l6 :: l7 :: l8 :: some (.long a) :: ls) (.long a :: st) h Q) ∧
  (∀ (ls : Lo) (st : List Value) (h : Hp) (Q : Option Value → Hp → Prop) (a : Int64), Wp 3 49 (ls) (.long a :: st) h Q ↔ Wp 3 50 (ls) (.long (-a) :: st) h Q) ∧
  (∀ (ls : Lo) (st : List Value) (n sl : Nat) (C Z : Nat → Nat) (I : Nat → Nat → Int32) (L : Nat → Nat → Int64) (R : Nat → Nat → Nat) (Q : Option Value → Hp → Prop) (x0 : Int64) (i : Nat), C i = 1 → (Wp 3 50 (ls) (.long x0 :: .ref i :: st) (n, sl, C, Z, I, L, R) Q ↔ (wsum st ≤ 8 ∧ Call 5 [some (.ref i), some (.long x0), none] (n, sl, C, Z, I, L, R) 3 53 ls st Q))) ∧
  (∀ (ls : Lo) (h : Hp) (Q : Option Value → Hp → Prop), Wp 3 53 (ls) ([]) h Q ↔ Q none h) := ⟨by intro ls st h Q l0 l1 l2 l3 l4 l5 l6 a; exact e_lload d3_40 rfl,
  by intro ls st h Q a b; exact e_lmul d3_42,
  by intro ls st n sl C Z I L R Q x0 x1 x2 x3 i hh; exact e_iv (k2 := 4) (c := 1) (as := [.int x0, .long x1, .long x2, .long x3]) d3_43 rfl (by decide) rfl rfl (by decide +kernel) (Nat.le_of_ble_eq_true rfl) rfl hh,
  by intro ls st h Q i; exact e_aload_n d3_46 rfl,
  by intro ls st h Q l0 l1 l2 l3 l4 l5 l6 l7 l8 a; exact e_lload d3_47 rfl,
  by intro ls st h Q a; exact e_lneg d3_49,
  by intro ls st n sl C Z I L R Q x0 i hh; exact e_iv (k2 := 5) (c := 1) (as := [.long x0]) d3_50 rfl (by decide) rfl rfl (by decide +kernel) (Nat.le_of_ble_eq_true rfl) rfl hh,
  by intros; exact e_rV d3_53 rfl⟩
theorem d4_0 : decode (byt 4) 0 = .ok (.aload_n 0, 1) := by decide +kernel
theorem d4_1 : decode (byt 4) 1 = .ok (.getfield 11, 3) := by decide +kernel
theorem d4_4 : decode (byt 4) 4 = .ok (.iload_n 1, 1) := by decide +kernel
theorem d4_5 : decode (byt 4) 5 = .ok (.aaload, 1) := by decide +kernel
theorem d4_6 : decode (byt 4) 6 = .ok (.iconst 0, 1) := by decide +kernel
theorem d4_7 : decode (byt 4) 7 = .ok (.lload_n 2, 1) := by decide +kernel
theorem d4_8 : decode (byt 4) 8 = .ok (.lastore, 1) := by decide +kernel
theorem d4_9 : decode (byt 4) 9 = .ok (.aload_n 0, 1) := by decide +kernel
theorem d4_10 : decode (byt 4) 10 = .ok (.getfield 11, 3) := by decide +kernel
theorem d4_13 : decode (byt 4) 13 = .ok (.iload_n 1, 1) := by decide +kernel
theorem d4_14 : decode (byt 4) 14 = .ok (.aaload, 1) := by decide +kernel
theorem d4_15 : decode (byt 4) 15 = .ok (.iconst 1, 1) := by decide +kernel
theorem d4_16 : decode (byt 4) 16 = .ok (.lload 4, 2) := by decide +kernel
theorem d4_18 : decode (byt 4) 18 = .ok (.lastore, 1) := by decide +kernel
theorem d4_19 : decode (byt 4) 19 = .ok (.aload_n 0, 1) := by decide +kernel
theorem d4_20 : decode (byt 4) 20 = .ok (.getfield 11, 3) := by decide +kernel
theorem d4_23 : decode (byt 4) 23 = .ok (.iload_n 1, 1) := by decide +kernel
theorem d4_24 : decode (byt 4) 24 = .ok (.aaload, 1) := by decide +kernel
theorem d4_25 : decode (byt 4) 25 = .ok (.iconst 2, 1) := by decide +kernel
theorem d4_26 : decode (byt 4) 26 = .ok (.lload 6, 2) := by decide +kernel
theorem d4_28 : decode (byt 4) 28 = .ok (.lastore, 1) := by decide +kernel
theorem d4_29 : decode (byt 4) 29 = .ok (.return_, 1) := by decide +kernel
set_option maxRecDepth 20000 in
theorem S4_0 : (∀ (ls : Lo) (st : List Value) (h : Hp) (Q : Option Value → Hp → Prop)  (i : Nat), Wp 4 0 (some (.ref i) :: ls) (st) h Q ↔ Wp 4 1 (some (.ref i) :: ls) (.ref i :: st) h Q) ∧
  (∀ (ls : Lo) (st : List Value) (n sl : Nat) (C Z : Nat → Nat) (I : Nat → Nat → Int32) (L : Nat → Nat → Int64) (R : Nat → Nat → Nat) (Q : Option Value → Hp → Prop) (i : Nat), Wp 4 1 (ls) (.ref i :: st) (n, sl, C, Z, I, L, R) Q ↔ (C i = 1 ∧ Wp 4 4 (ls) (.ref (R i 0) :: st) (n, sl, C, Z, I, L, R) Q)) ∧
  (∀ (ls : Lo) (st : List Value) (h : Hp) (Q : Option Value → Hp → Prop) (l0 : Option Value) (x : Int32), Wp 4 4 (l0 :: some (.int x) :: ls) (st) h Q ↔ Wp 4 5 (l0 :: some (.int x) :: ls) (.int x :: st) h Q) ∧
  (∀ (ls : Lo) (st : List Value) (n sl : Nat) (C Z : Nat → Nat) (I : Nat → Nat → Int32) (L : Nat → Nat → Int64) (R : Nat → Nat → Nat) (Q : Option Value → Hp → Prop) (i : Nat) (y : Int32), Wp 4 5 (ls) (.int y :: .ref i :: st) (n, sl, C, Z, I, L, R) Q ↔ ((inb y (Z i) = true ∧ (C i = 23 ∨ C i = 24 ∨ C i = 25)) ∧ Wp 4 6 (ls) (.ref (R i (ix y)) :: st) (n, sl, C, Z, I, L, R) Q)) ∧
  (∀ (ls : Lo) (st : List Value) (h : Hp) (Q : Option Value → Hp → Prop), Wp 4 6 (ls) (st) h Q ↔ Wp 4 7 (ls) (.int (0) :: st) h Q) ∧
  (∀ (ls : Lo) (st : List Value) (h : Hp) (Q : Option Value → Hp → Prop) (l0 l1 : Option Value) (a : Int64), Wp 4 7 (l0 :: l1 :: some (.long a) :: ls) (st) h Q ↔ Wp 4 8 (l0 :: l1 :: some (.long a) :: ls) (.long a :: st) h Q) ∧
  (∀ (ls : Lo) (st : List Value) (n sl : Nat) (C Z : Nat → Nat) (I : Nat → Nat → Int32) (L : Nat → Nat → Int64) (R : Nat → Nat → Nat) (Q : Option Value → Hp → Prop) (i : Nat) (y : Int32) (a : Int64), Wp 4 8 (ls) (.long a :: .int y :: .ref i :: st) (n, sl, C, Z, I, L, R) Q ↔ ((inb y (Z i) = true ∧ C i = 22) ∧ Wp 4 9 (ls) (st) (n, sl, C, Z, I, u2 L i (ix y) a, R) Q)) ∧
  (∀ (ls : Lo) (st : List Value) (h : Hp) (Q : Option Value → Hp → Prop)  (i : Nat), Wp 4 9 (some (.ref i) :: ls) (st) h Q ↔ Wp 4 10 (some (.ref i) :: ls) (.ref i :: st) h Q) ∧
  (∀ (ls : Lo) (st : List Value) (n sl : Nat) (C Z : Nat → Nat) (I : Nat → Nat → Int32) (L : Nat → Nat → Int64) (R : Nat → Nat → Nat) (Q : Option Value → Hp → Prop) (i : Nat), Wp 4 10 (ls) (.ref i :: st) (n, sl, C, Z, I, L, R) Q ↔ (C i = 1 ∧ Wp 4 13 (ls) (.ref (R i 0) :: st) (n, sl, C, Z, I, L, R) Q)) ∧
  (∀ (ls : Lo) (st : List Value) (h : Hp) (Q : Option Value → Hp → Prop) (l0 : Option Value) (x : Int32), Wp 4 13 (l0 :: some (.int x) :: ls) (st) h Q ↔ Wp 4 14 (l0 :: some (.int x) :: ls) (.int x :: st) h Q) ∧
  (∀ (ls : Lo) (st : List Value) (n sl : Nat) (C Z : Nat → Nat) (I : Nat → Nat → Int32) (L : Nat → Nat → Int64) (R : Nat → Nat → Nat) (Q : Option Value → Hp → Prop) (i : Nat) (y : Int32), Wp 4 14 (ls) (.int y :: .ref i :: st) (n, sl, C, Z, I, L, R) Q ↔ ((inb y (Z i) = true ∧ (C i = 23 ∨ C i = 24 ∨ C i = 25)) ∧ Wp 4 15 (ls) (.ref (R i (ix y)) :: st) (n, sl, C, Z, I, L, R) Q)) ∧
  (∀ (ls : Lo) (st : List Value) (h : Hp) (Q : Option Value → Hp → Prop), Wp 4 15 (ls) (st) h Q ↔ Wp 4 16 (ls) (.int (1) :: st) h Q) ∧
  (∀ (ls : Lo) (st : List Value) (h : Hp) (Q : Option Value → Hp → Prop) (l0 l1 l2 l3 : Option Value) (a : Int64), Wp 4 16 (l0 :: l1 :: l2 :: l3 :: some (.long a) :: ls) (st) h Q ↔ Wp 4 18 (l0 :: l1 :: l2 :: l3 :: some (.long a) :: ls) (.long a :: st) h Q) ∧
  (∀ (ls : Lo) (st : List Value) (n sl : Nat) (C Z : Nat → Nat) (I : Nat → Nat → Int32) (L : Nat → Nat → Int64) (R : Nat → Nat → Nat) (Q : Option Value → Hp → Prop) (i : Nat) (y : Int32) (a : Int64), Wp 4 18 (ls) (.long a :: .int y :: .ref i :: st) (n, sl, C, Z, I, L, R) Q ↔ ((inb y (Z i) = true ∧ C i = 22) ∧ Wp 4 19 (ls) (st) (n, sl, C, Z, I, u2 L i (ix y) a, R) Q)) ∧
  (∀ (ls : Lo) (st : List Value) (h : Hp) (Q : Option Value → Hp → Prop)  (i : Nat), Wp 4 19 (some (.ref i) :: ls) (st) h Q ↔ Wp 4 20 (some (.ref i) :: ls) (.ref i :: st) h Q) ∧
  (∀ (ls : Lo) (st : List Value) (n sl : Nat) (C Z : Nat → Nat) (I : Nat → Nat → Int32) (L : Nat → Nat → Int64) (R : Nat → Nat → Nat) (Q : Option Value → Hp → Prop) (i : Nat), Wp 4 20 (ls) (.ref i :: st) (n, sl, C, Z, I, L, R) Q ↔ (C i = 1 ∧ Wp 4 23 (ls) (.ref (R i 0) :: st) (n, sl, C, Z, I, L, R) Q)) ∧
  (∀ (ls : Lo) (st : List Value) (h : Hp) (Q : Option Value → Hp → Prop) (l0 : Option Value) (x : Int32), Wp 4 23 (l0 :: some (.int x) :: ls) (st) h Q ↔ Wp 4 24 (l0 :: some (.int x) :: ls) (.int x :: st) h Q) ∧
  (∀ (ls : Lo) (st : List Value) (n sl : Nat) (C Z : Nat → Nat) (I : Nat → Nat → Int32) (L : Nat → Nat → Int64) (R : Nat → Nat → Nat) (Q : Option Value → Hp → Prop) (i : Nat) (y : Int32), Wp 4 24 (ls) (.int y :: .ref i :: st) (n, sl, C, Z, I, L, R) Q ↔ ((inb y (Z i) = true ∧ (C i = 23 ∨ C i = 24 ∨ C i = 25)) ∧ Wp 4 25 (ls) (.ref (R i (ix y)) :: st) (n, sl, C, Z, I, L, R) Q)) ∧
  (∀ (ls : Lo) (st : List Value) (h : Hp) (Q : Option Value → Hp → Prop), Wp 4 25 (ls) (st) h Q ↔ Wp 4 26 (ls) (.int (2) :: st) h Q) ∧
  (∀ (ls : Lo) (st : List Value) (h : Hp) (Q : Option Value → Hp → Prop) (l0 l1 l2 l3 l4 l5 : Option Value) (a : Int64), Wp 4 26 (l0 :: l1 :: l2 :: l3 :: l4 :: l5 :: some (.long a) :: ls) (st) h Q ↔ Wp 4 28 (l0 :: l1 :: l2 :: l3 :: l4 :: l5 :: some (.long a) :: ls) (.long a :: st) h Q) ∧
  (∀ (ls : Lo) (st : List Value) (n sl : Nat) (C Z : Nat → Nat) (I : Nat → Nat → Int32) (L : Nat → Nat → Int64) (R : Nat → Nat → Nat) (Q : Option Value → Hp → Prop) (i : Nat) (y : Int32) (a : Int64), Wp 4 28 (ls) (.long a :: .int y :: .ref i :: st) (n, sl, C, Z, I, L, R) Q ↔ ((inb y (Z i) = true ∧ C i = 22) ∧ Wp 4 29 (ls) (st) (n, sl, C, Z, I, u2 L i (ix y) a, R) Q)) ∧
  (∀ (ls : Lo) (h : Hp) (Q : Option Value → Hp → Prop), Wp 4 29 (ls) ([]) h Q ↔ Q none h) := ⟨by intro ls st h Q i; exact e_aload_n d4_0 rfl,
  by intro ls st n sl C Z I L R Q i; exact e_get (g := 0) (s := 0) (ty := 2) d4_1 rfl rfl (inG_ne (by decide)),
  by intro ls st h Q l0 x; exact e_iload_n d4_4 rfl,
  by intro ls st n sl C Z I L R Q i y; exact e_aald d4_5,
  by intro ls st h Q; exact e_iconst d4_6 rfl,
  by intro ls st h Q l0 l1 a; exact e_lload_n d4_7 rfl,
  by intro ls st n sl C Z I L R Q i y a; exact e_last d4_8,
  by intro ls st h Q i; exact e_aload_n d4_9 rfl,
  by intro ls st n sl C Z I L R Q i; exact e_get (g := 0) (s := 0) (ty := 2) d4_10 rfl rfl (inG_ne (by decide)),
  by intro ls st h Q l0 x; exact e_iload_n d4_13 rfl,
  by intro ls st n sl C Z I L R Q i y; exact e_aald d4_14,
  by intro ls st h Q; exact e_iconst d4_15 rfl,
  by intro ls st h Q l0 l1 l2 l3 a; exact e_lload d4_16 rfl,
  by intro ls st n sl C Z I L R Q i y a; exact e_last d4_18,
  by intro ls st h Q i; exact e_aload_n d4_19 rfl,
  by intro ls st n sl C Z I L R Q i; exact e_get (g := 0) (s := 0) (ty := 2) d4_20 rfl rfl (inG_ne (by decide)),
  by intro ls st h Q l0 x; exact e_iload_n d4_23 rfl,
  by intro ls st n sl C Z I L R Q i y; exact e_aald d4_24,
  by intro ls st h Q; exact e_iconst d4_25 rfl,
  by intro ls st h Q l0 l1 l2 l3 l4 l5 a; exact e_lload d4_26 rfl,
  by intro ls st n sl C Z I L R Q i y a; exact e_last d4_28,
  by intros; exact e_rV d4_29 rfl⟩
theorem d5_0 : decode (byt 5) 0 = .ok (.aload_n 0, 1) := by decide +kernel
theorem d5_1 : decode (byt 5) 1 = .ok (.getfield 16, 3) := by decide +kernel
theorem d5_4 : decode (byt 5) 4 = .ok (.iconst 0, 1) := by decide +kernel
theorem d5_5 : decode (byt 5) 5 = .ok (.lload_n 1, 1) := by decide +kernel
theorem d5_6 : decode (byt 5) 6 = .ok (.lastore, 1) := by decide +kernel
theorem d5_7 : decode (byt 5) 7 = .ok (.aload_n 0, 1) := by decide +kernel
theorem d5_8 : decode (byt 5) 8 = .ok (.getfield 16, 3) := by decide +kernel
theorem d5_11 : decode (byt 5) 11 = .ok (.iconst 1, 1) := by decide +kernel
theorem d5_12 : decode (byt 5) 12 = .ok (.lconst 0, 1) := by decide +kernel
theorem d5_13 : decode (byt 5) 13 = .ok (.lastore, 1) := by decide +kernel
theorem d5_14 : decode (byt 5) 14 = .ok (.aload_n 0, 1) := by decide +kernel
theorem d5_15 : decode (byt 5) 15 = .ok (.getfield 16, 3) := by decide +kernel
theorem d5_18 : decode (byt 5) 18 = .ok (.iconst 2, 1) := by decide +kernel
theorem d5_19 : decode (byt 5) 19 = .ok (.lload_n 1, 1) := by decide +kernel
theorem d5_20 : decode (byt 5) 20 = .ok (.lastore, 1) := by decide +kernel
theorem d5_21 : decode (byt 5) 21 = .ok (.return_, 1) := by decide +kernel
set_option maxRecDepth 20000 in
theorem S5_0 : (∀ (ls : Lo) (st : List Value) (h : Hp) (Q : Option Value → Hp → Prop)  (i : Nat), Wp 5 0 (some (.ref i) :: ls) (st) h Q ↔ Wp 5 1 (some (.ref i) :: ls) (.ref i :: st) h Q) ∧
  (∀ (ls : Lo) (st : List Value) (n sl : Nat) (C Z : Nat → Nat) (I : Nat → Nat → Int32) (L : Nat → Nat → Int64) (R : Nat → Nat → Nat) (Q : Option Value → Hp → Prop) (i : Nat), Wp 5 1 (ls) (.ref i :: st) (n, sl, C, Z, I, L, R) Q ↔ (C i = 1 ∧ Wp 5 4 (ls) (.ref (R i 1) :: st) (n, sl, C, Z, I, L, R) Q)) ∧
  (∀ (ls : Lo) (st : List Value) (h : Hp) (Q : Option Value → Hp → Prop), Wp 5 4 (ls) (st) h Q ↔ Wp 5 5 (ls) (.int (0) :: st) h Q) ∧
  (∀ (ls : Lo) (st : List Value) (h : Hp) (Q : Option Value → Hp → Prop) (l0 : Option Value) (a : Int64), Wp 5 5 (l0 :: some (.long a) :: ls) (st) h Q ↔ Wp 5 6 (l0 :: some (.long a) :: ls) (.long a :: st) h Q) ∧
  (∀ (ls : Lo) (st : List Value) (n sl : Nat) (C Z : Nat → Nat) (I : Nat → Nat → Int32) (L : Nat → Nat → Int64) (R : Nat → Nat → Nat) (Q : Option Value → Hp → Prop) (i : Nat) (y : Int32) (a : Int64), Wp 5 6 (ls) (.long a :: .int y :: .ref i :: st) (n, sl, C, Z, I, L, R) Q ↔ ((inb y (Z i) = true ∧ C i = 22) ∧ Wp 5 7 (ls) (st) (n, sl, C, Z, I, u2 L i (ix y) a, R) Q)) ∧
  (∀ (ls : Lo) (st : List Value) (h : Hp) (Q : Option Value → Hp → Prop)  (i : Nat), Wp 5 7 (some (.ref i) :: ls) (st) h Q ↔ Wp 5 8 (some (.ref i) :: ls) (.ref i :: st) h Q) ∧
  (∀ (ls : Lo) (st : List Value) (n sl : Nat) (C Z : Nat → Nat) (I : Nat → Nat → Int32) (L : Nat → Nat → Int64) (R : Nat → Nat → Nat) (Q : Option Value → Hp → Prop) (i : Nat), Wp 5 8 (ls) (.ref i :: st) (n, sl, C, Z, I, L, R) Q ↔ (C i = 1 ∧ Wp 5 11 (ls) (.ref (R i 1) :: st) (n, sl, C, Z, I, L, R) Q)) ∧
  (∀ (ls : Lo) (st : List Value) (h : Hp) (Q : Option Value → Hp → Prop), Wp 5 11 (ls) (st) h Q ↔ Wp 5 12 (ls) (.int (1) :: st) h Q) ∧
  (∀ (ls : Lo) (st : List Value) (h : Hp) (Q : Option Value → Hp → Prop), Wp 5 12 (ls) (st) h Q ↔ Wp 5 13 (ls) (.long 0 :: st) h Q) ∧
  (∀ (ls : Lo) (st : List Value) (n sl : Nat) (C Z : Nat → Nat) (I : Nat → Nat → Int32) (L : Nat → Nat → Int64) (R : Nat → Nat → Nat) (Q : Option Value → Hp → Prop) (i : Nat) (y : Int32) (a : Int64), Wp 5 13 (ls) (.long a :: .int y :: .ref i :: st) (n, sl, C, Z, I, L, R) Q ↔ ((inb y (Z i) = true ∧ C i = 22) ∧ Wp 5 14 (ls) (st) (n, sl, C, Z, I, u2 L i (ix y) a, R) Q)) ∧
  (∀ (ls : Lo) (st : List Value) (h : Hp) (Q : Option Value → Hp → Prop)  (i : Nat), Wp 5 14 (some (.ref i) :: ls) (st) h Q ↔ Wp 5 15 (some (.ref i) :: ls) (.ref i :: st) h Q) ∧
  (∀ (ls : Lo) (st : List Value) (n sl : Nat) (C Z : Nat → Nat) (I : Nat → Nat → Int32) (L : Nat → Nat → Int64) (R : Nat → Nat → Nat) (Q : Option Value → Hp → Prop) (i : Nat), Wp 5 15 (ls) (.ref i :: st) (n, sl, C, Z, I, L, R) Q ↔ (C i = 1 ∧ Wp 5 18 (ls) (.ref (R i 1) :: st) (n, sl, C, Z, I, L, R) Q)) ∧
  (∀ (ls : Lo) (st : List Value) (h : Hp) (Q : Option Value → Hp → Prop), Wp 5 18 (ls) (st) h Q ↔ Wp 5 19 (ls) (.int (2) :: st) h Q) ∧
  (∀ (ls : Lo) (st : List Value) (h : Hp) (Q : Option Value → Hp → Prop) (l0 : Option Value) (a : Int64), Wp 5 19 (l0 :: some (.long a) :: ls) (st) h Q ↔ Wp 5 20 (l0 :: some (.long a) :: ls) (.long a :: st) h Q) ∧
  (∀ (ls : Lo) (st : List Value) (n sl : Nat) (C Z : Nat → Nat) (I : Nat → Nat → Int32) (L : Nat → Nat → Int64) (R : Nat → Nat → Nat) (Q : Option Value → Hp → Prop) (i : Nat) (y : Int32) (a : Int64), Wp 5 20 (ls) (.long a :: .int y :: .ref i :: st) (n, sl, C, Z, I, L, R) Q ↔ ((inb y (Z i) = true ∧ C i = 22) ∧ Wp 5 21 (ls) (st) (n, sl, C, Z, I, u2 L i (ix y) a, R) Q)) ∧
  (∀ (ls : Lo) (h : Hp) (Q : Option Value → Hp → Prop), Wp 5 21 (ls) ([]) h Q ↔ Q none h) := ⟨by intro ls st h Q i; exact e_aload_n d5_0 rfl,
  by intro ls st n sl C Z I L R Q i; exact e_get (g := 0) (s := 1) (ty := 2) d5_1 rfl rfl (inG_ne (by decide)),
  by intro ls st h Q; exact e_iconst d5_4 rfl,
  by intro ls st h Q l0 a; exact e_lload_n d5_5 rfl,
  by intro ls st n sl C Z I L R Q i y a; exact e_last d5_6,
  by intro ls st h Q i; exact e_aload_n d5_7 rfl,
  by intro ls st n sl C Z I L R Q i; exact e_get (g := 0) (s := 1) (ty := 2) d5_8 rfl rfl (inG_ne (by decide)),
  by intro ls st h Q; exact e_iconst d5_11 rfl,
  by intro ls st h Q; exact e_lconst d5_12 rfl,
  by intro ls st n sl C Z I L R Q i y a; exact e_last d5_13,
  by intro ls st h Q i; exact e_aload_n d5_14 rfl,
  by intro ls st n sl C Z I L R Q i; exact e_get (g := 0) (s := 1) (ty := 2) d5_15 rfl rfl (inG_ne (by decide)),
  by intro ls st h Q; exact e_iconst d5_18 rfl,
  by intro ls st h Q l0 a; exact e_lload_n d5_19 rfl,
  by intro ls st n sl C Z I L R Q i y a; exact e_last d5_20,
  by intros; exact e_rV d5_21 rfl⟩
theorem d6_0 : decode (byt 6) 0 = .ok (.aload_n 0, 1) := by decide +kernel
theorem d6_1 : decode (byt 6) 1 = .ok (.iload_n 1, 1) := by decide +kernel
theorem d6_2 : decode (byt 6) 2 = .ok (.lconst 0, 1) := by decide +kernel
theorem d6_3 : decode (byt 6) 3 = .ok (.lconst 0, 1) := by decide +kernel
theorem d6_4 : decode (byt 6) 4 = .ok (.lconst 0, 1) := by decide +kernel
theorem d6_5 : decode (byt 6) 5 = .ok (.invokevirtual 64, 3) := by decide +kernel
theorem d6_8 : decode (byt 6) 8 = .ok (.aload_n 0, 1) := by decide +kernel
theorem d6_9 : decode (byt 6) 9 = .ok (.getfield 11, 3) := by decide +kernel
theorem d6_12 : decode (byt 6) 12 = .ok (.iload_n 1, 1) := by decide +kernel
theorem d6_13 : decode (byt 6) 13 = .ok (.aaload, 1) := by decide +kernel
theorem d6_14 : decode (byt 6) 14 = .ok (.iload_n 1, 1) := by decide +kernel
theorem d6_15 : decode (byt 6) 15 = .ok (.lconst 1, 1) := by decide +kernel
theorem d6_16 : decode (byt 6) 16 = .ok (.lastore, 1) := by decide +kernel
theorem d6_17 : decode (byt 6) 17 = .ok (.aload_n 0, 1) := by decide +kernel
theorem d6_18 : decode (byt 6) 18 = .ok (.getfield 16, 3) := by decide +kernel
theorem d6_21 : decode (byt 6) 21 = .ok (.iload_n 1, 1) := by decide +kernel
theorem d6_22 : decode (byt 6) 22 = .ok (.lconst 0, 1) := by decide +kernel
theorem d6_23 : decode (byt 6) 23 = .ok (.lastore, 1) := by decide +kernel
theorem d6_24 : decode (byt 6) 24 = .ok (.return_, 1) := by decide +kernel
set_option maxRecDepth 20000 in
theorem S6_0 : (∀ (ls : Lo) (st : List Value) (h : Hp) (Q : Option Value → Hp → Prop)  (i : Nat), Wp 6 0 (some (.ref i) :: ls) (st) h Q ↔ Wp 6 1 (some (.ref i) :: ls) (.ref i :: st) h Q) ∧
  (∀ (ls : Lo) (st : List Value) (h : Hp) (Q : Option Value → Hp → Prop) (l0 : Option Value) (x : Int32), Wp 6 1 (l0 :: some (.int x) :: ls) (st) h Q ↔ Wp 6 2 (l0 :: some (.int x) :: ls) (.int x :: st) h Q) ∧
  (∀ (ls : Lo) (st : List Value) (h : Hp) (Q : Option Value → Hp → Prop), Wp 6 2 (ls) (st) h Q ↔ Wp 6 3 (ls) (.long 0 :: st) h Q) ∧
  (∀ (ls : Lo) (st : List Value) (h : Hp) (Q : Option Value → Hp → Prop), Wp 6 3 (ls) (st) h Q ↔ Wp 6 4 (ls) (.long 0 :: st) h Q) ∧
  (∀ (ls : Lo) (st : List Value) (h : Hp) (Q : Option Value → Hp → Prop), Wp 6 4 (ls) (st) h Q ↔ Wp 6 5 (ls) (.long 0 :: st) h Q) ∧
  (∀ (ls : Lo) (st : List Value) (n sl : Nat) (C Z : Nat → Nat) (I : Nat → Nat → Int32) (L : Nat → Nat → Int64) (R : Nat → Nat → Nat) (Q : Option Value → Hp → Prop) (x0 : Int32) (x1 : Int64) (x2 : Int64) (x3 : Int64) (i : Nat), C i = 1 → (Wp 6 5 (ls) (.long x3 :: .long x2 :: .long x1 :: .int x0 :: .ref i :: st) (n, sl, C, Z, I, L, R) Q ↔ (wsum st ≤ 8 ∧ Call 4 [some (.ref i), some (.int x0), some (.long x1), none, some (.long x2), none, some (.long x3), none] (n, sl, C, Z, I, L, R) 6 8 ls st Q))) ∧
  (∀ (ls : Lo) (st : List Value) (h : Hp) (Q : Option Value → Hp → Prop)  (i : Nat), Wp 6 8 (some (.ref i) :: ls) (st) h Q ↔ Wp 6 9 (some (.ref i) :: ls) (.ref i :: st) h Q) ∧
  (∀ (ls : Lo) (st : List Value) (n sl : Nat) (C Z : Nat → Nat) (I : Nat → Nat → Int32) (L : Nat → Nat → Int64) (R : Nat → Nat → Nat) (Q : Option Value → Hp → Prop) (i : Nat), Wp 6 9 (ls) (.ref i :: st) (n, sl, C, Z, I, L, R) Q ↔ (C i = 1 ∧ Wp 6 12 (ls) (.ref (R i 0) :: st) (n, sl, C, Z, I, L, R) Q)) ∧
  (∀ (ls : Lo) (st : List Value) (h : Hp) (Q : Option Value → Hp → Prop) (l0 : Option Value) (x : Int32), Wp 6 12 (l0 :: some (.int x) :: ls) (st) h Q ↔ Wp 6 13 (l0 :: some (.int x) :: ls) (.int x :: st) h Q) ∧
  (∀ (ls : Lo) (st : List Value) (n sl : Nat) (C Z : Nat → Nat) (I : Nat → Nat → Int32) (L : Nat → Nat → Int64) (R : Nat → Nat → Nat) (Q : Option Value → Hp → Prop) (i : Nat) (y : Int32), Wp 6 13 (ls) (.int y :: .ref i :: st) (n, sl, C, Z, I, L, R) Q ↔ ((inb y (Z i) = true ∧ (C i = 23 ∨ C i = 24 ∨ C i = 25)) ∧ Wp 6 14 (ls) (.ref (R i (ix y)) :: st) (n, sl, C, Z, I, L, R) Q)) ∧
  (∀ (ls : Lo) (st : List Value) (h : Hp) (Q : Option Value → Hp → Prop) (l0 : Option Value) (x : Int32), Wp 6 14 (l0 :: some (.int x) :: ls) (st) h Q ↔ Wp 6 15 (l0 :: some (.int x) :: ls) (.int x :: st) h Q) ∧
  (∀ (ls : Lo) (st : List Value) (h : Hp) (Q : Option Value → Hp → Prop), Wp 6 15 (ls) (st) h Q ↔ Wp 6 16 (ls) (.long 1 :: st) h Q) ∧
  (∀ (ls : Lo) (st : List Value) (n sl : Nat) (C Z : Nat → Nat) (I : Nat → Nat → Int32) (L : Nat → Nat → Int64) (R : Nat → Nat → Nat) (Q : Option Value → Hp → Prop) (i : Nat) (y : Int32) (a : Int64), Wp 6 16 (ls) (.long a :: .int y :: .ref i :: st) (n, sl, C, Z, I, L, R) Q ↔ ((inb y (Z i) = true ∧ C i = 22) ∧ Wp 6 17 (ls) (st) (n, sl, C, Z, I, u2 L i (ix y) a, R) Q)) ∧
  (∀ (ls : Lo) (st : List Value) (h : Hp) (Q : Option Value → Hp → Prop)  (i : Nat), Wp 6 17 (some (.ref i) :: ls) (st) h Q ↔ Wp 6 18 (some (.ref i) :: ls) (.ref i :: st) h Q) ∧
  (∀ (ls : Lo) (st : List Value) (n sl : Nat) (C Z : Nat → Nat) (I : Nat → Nat → Int32) (L : Nat → Nat → Int64) (R : Nat → Nat → Nat) (Q : Option Value → Hp → Prop) (i : Nat), Wp 6 18 (ls) (.ref i :: st) (n, sl, C, Z, I, L, R) Q ↔ (C i = 1 ∧ Wp 6 21 (ls) (.ref (R i 1) :: st) (n, sl, C, Z, I, L, R) Q)) ∧
  (∀ (ls : Lo) (st : List Value) (h : Hp) (Q : Option Value → Hp → Prop) (l0 : Option Value) (x : Int32), Wp 6 21 (l0 :: some (.int x) :: ls) (st) h Q ↔ Wp 6 22 (l0 :: some (.int x) :: ls) (.int x :: st) h Q) ∧
  (∀ (ls : Lo) (st : List Value) (h : Hp) (Q : Option Value → Hp → Prop), Wp 6 22 (ls) (st) h Q ↔ Wp 6 23 (ls) (.long 0 :: st) h Q) ∧
  (∀ (ls : Lo) (st : List Value) (n sl : Nat) (C Z : Nat → Nat) (I : Nat → Nat → Int32) (L : Nat → Nat → Int64) (R : Nat → Nat → Nat) (Q : Option Value → Hp → Prop) (i : Nat) (y : Int32) (a : Int64), Wp 6 23 (ls) (.long a :: .int y :: .ref i :: st) (n, sl, C, Z, I, L, R) Q ↔ ((inb y (Z i) = true ∧ C i = 22) ∧ Wp 6 24 (ls) (st) (n, sl, C, Z, I, u2 L i (ix y) a, R) Q)) ∧
  (∀ (ls : Lo) (h : Hp) (Q : Option Value → Hp → Prop), Wp 6 24 (ls) ([]) h Q ↔ Q none h) := ⟨by intro ls st h Q i; exact e_aload_n d6_0 rfl,
  by intro ls st h Q l0 x; exact e_iload_n d6_1 rfl,
  by intro ls st h Q; exact e_lconst d6_2 rfl,
  by intro ls st h Q; exact e_lconst d6_3 rfl,
  by intro ls st h Q; exact e_lconst d6_4 rfl,
  by intro ls st n sl C Z I L R Q x0 x1 x2 x3 i hh; exact e_iv (k2 := 4) (c := 1) (as := [.int x0, .long x1, .long x2, .long x3]) d6_5 rfl (by decide) rfl rfl (by decide +kernel) (Nat.le_of_ble_eq_true rfl) rfl hh,
  by intro ls st h Q i; exact e_aload_n d6_8 rfl,
  by intro ls st n sl C Z I L R Q i; exact e_get (g := 0) (s := 0) (ty := 2) d6_9 rfl rfl (inG_ne (by decide)),
  by intro ls st h Q l0 x; exact e_iload_n d6_12 rfl,
  by intro ls st n sl C Z I L R Q i y; exact e_aald d6_13,
  by intro ls st h Q l0 x; exact e_iload_n d6_14 rfl,
  by intro ls st h Q; exact e_lconst d6_15 rfl,
  by intro ls st n sl C Z I L R Q i y a; exact e_last d6_16,
  by intro ls st h Q i; exact e_aload_n d6_17 rfl,
  by intro ls st n sl C Z I L R Q i; exact e_get (g := 0) (s := 1) (ty := 2) d6_18 rfl rfl (inG_ne (by decide)),
  by intro ls st h Q l0 x; exact e_iload_n d6_21 rfl,
  by intro ls st h Q; exact e_lconst d6_22 rfl,
  by intro ls st n sl C Z I L R Q i y a; exact e_last d6_23,
  by intros; exact e_rV d6_24 rfl⟩
theorem d7_0 : decode (byt 7) 0 = .ok (.aload_n 1, 1) := by decide +kernel
theorem d7_1 : decode (byt 7) 1 = .ok (.iload_n 2, 1) := by decide +kernel
theorem d7_2 : decode (byt 7) 2 = .ok (.ifCond .lt 17, 3) := by decide +kernel
theorem d7_5 : decode (byt 7) 5 = .ok (.iload_n 2, 1) := by decide +kernel
theorem d7_6 : decode (byt 7) 6 = .ok (.iconst 3, 1) := by decide +kernel
theorem d7_7 : decode (byt 7) 7 = .ok (.if_icmp .ge 12, 3) := by decide +kernel
theorem d7_10 : decode (byt 7) 10 = .ok (.aload_n 0, 1) := by decide +kernel
theorem d7_11 : decode (byt 7) 11 = .ok (.getfield 20, 3) := by decide +kernel
theorem d7_14 : decode (byt 7) 14 = .ok (.iload_n 2, 1) := by decide +kernel
theorem d7_15 : decode (byt 7) 15 = .ok (.laload, 1) := by decide +kernel
theorem d7_16 : decode (byt 7) 16 = .ok (.goto 4, 3) := by decide +kernel
theorem d7_19 : decode (byt 7) 19 = .ok (.lconst 0, 1) := by decide +kernel
theorem d7_20 : decode (byt 7) 20 = .ok (.aload_n 0, 1) := by decide +kernel
theorem d7_21 : decode (byt 7) 21 = .ok (.getfield 23, 3) := by decide +kernel
theorem d7_24 : decode (byt 7) 24 = .ok (.invokevirtual 76, 3) := by decide +kernel
theorem d7_27 : decode (byt 7) 27 = .ok (.return_, 1) := by decide +kernel
set_option maxRecDepth 20000 in
theorem S7_0 : (∀ (ls : Lo) (st : List Value) (h : Hp) (Q : Option Value → Hp → Prop) (l0 : Option Value) (i : Nat), Wp 7 0 (l0 :: some (.ref i) :: ls) (st) h Q ↔ Wp 7 1 (l0 :: some (.ref i) :: ls) (.ref i :: st) h Q) ∧
  (∀ (ls : Lo) (st : List Value) (h : Hp) (Q : Option Value → Hp → Prop) (l0 l1 : Option Value) (x : Int32), Wp 7 1 (l0 :: l1 :: some (.int x) :: ls) (st) h Q ↔ Wp 7 2 (l0 :: l1 :: some (.int x) :: ls) (.int x :: st) h Q) ∧
  (∀ (ls : Lo) (st : List Value) (h : Hp) (Q : Option Value → Hp → Prop) (x : Int32), Wp 7 2 (ls) (.int x :: st) h Q ↔ Br 7 19 5 ls st h Q (x < 0)) ∧
  (∀ (ls : Lo) (st : List Value) (h : Hp) (Q : Option Value → Hp → Prop) (l0 l1 : Option Value) (x : Int32), Wp 7 5 (l0 :: l1 :: some (.int x) :: ls) (st) h Q ↔ Wp 7 6 (l0 :: l1 :: some (.int x) :: ls) (.int x :: st) h Q) ∧
  (∀ (ls : Lo) (st : List Value) (h : Hp) (Q : Option Value → Hp → Prop), Wp 7 6 (ls) (st) h Q ↔ Wp 7 7 (ls) (.int (3) :: st) h Q) ∧
  (∀ (ls : Lo) (st : List Value) (h : Hp) (Q : Option Value → Hp → Prop) (x y : Int32), Wp 7 7 (ls) (.int y :: .int x :: st) h Q ↔ Br 7 19 10 ls st h Q (y ≤ x)) ∧
  (∀ (ls : Lo) (st : List Value) (h : Hp) (Q : Option Value → Hp → Prop)  (i : Nat), Wp 7 10 (some (.ref i) :: ls) (st) h Q ↔ Wp 7 11 (some (.ref i) :: ls) (.ref i :: st) h Q) ∧
  (∀ (ls : Lo) (st : List Value) (n sl : Nat) (C Z : Nat → Nat) (I : Nat → Nat → Int32) (L : Nat → Nat → Int64) (R : Nat → Nat → Nat) (Q : Option Value → Hp → Prop) (i : Nat), Wp 7 11 (ls) (.ref i :: st) (n, sl, C, Z, I, L, R) Q ↔ (C i = 1 ∧ Wp 7 14 (ls) (.ref (R i 2) :: st) (n, sl, C, Z, I, L, R) Q)) ∧
  (∀ (ls : Lo) (st : List Value) (h : Hp) (Q : Option Value → Hp → Prop) (l0 l1 : Option Value) (x : Int32), Wp 7 14 (l0 :: l1 :: some (.int x) :: ls) (st) h Q ↔ Wp 7 15 (l0 :: l1 :: some (.int x) :: ls) (.int x :: st) h Q) ∧
  (∀ (ls : Lo) (st : List Value) (n sl : Nat) (C Z : Nat → Nat) (I : Nat → Nat → Int32) (L : Nat → Nat → Int64) (R : Nat → Nat → Nat) (Q : Option Value → Hp → Prop) (i : Nat) (y : Int32), Wp 7 15 (ls) (.int y :: .ref i :: st) (n, sl, C, Z, I, L, R) Q ↔ ((inb y (Z i) = true ∧ C i = 22) ∧ Wp 7 16 (ls) (.long (L i (ix y)) :: st) (n, sl, C, Z, I, L, R) Q)) ∧
  (∀ (ls : Lo) (st : List Value) (h : Hp) (Q : Option Value → Hp → Prop), Wp 7 16 (ls) (st) h Q ↔ Wp 7 20 (ls) (st) h Q) ∧
  (∀ (ls : Lo) (st : List Value) (h : Hp) (Q : Option Value → Hp → Prop), Wp 7 19 (ls) (st) h Q ↔ Wp 7 20 (ls) (.long 0 :: st) h Q) ∧
  (∀ (ls : Lo) (st : List Value) (h : Hp) (Q : Option Value → Hp → Prop)  (i : Nat), Wp 7 20 (some (.ref i) :: ls) (st) h Q ↔ Wp 7 21 (some (.ref i) :: ls) (.ref i :: st) h Q) ∧
  (∀ (ls : Lo) (st : List Value) (n sl : Nat) (C Z : Nat → Nat) (I : Nat → Nat → Int32) (L : Nat → Nat → Int64) (R : Nat → Nat → Nat) (Q : Option Value → Hp → Prop) (i : Nat), Wp 7 21 (ls) (.ref i :: st) (n, sl, C, Z, I, L, R) Q ↔ (C i = 1 ∧ Wp 7 24 (ls) (.long (L i 3) :: st) (n, sl, C, Z, I, L, R) Q)) ∧
  (∀ (ls : Lo) (st : List Value) (n sl : Nat) (C Z : Nat → Nat) (I : Nat → Nat → Int32) (L : Nat → Nat → Int64) (R : Nat → Nat → Nat) (Q : Option Value → Hp → Prop) (x0 : Int64) (x1 : Int64) (i : Nat), C i = 3 → (Wp 7 24 (ls) (.long x1 :: .long x0 :: .ref i :: st) (n, sl, C, Z, I, L, R) Q ↔ (wsum st ≤ 8 ∧ Call 13 [some (.ref i), some (.long x0), none, some (.long x1), none, none, none, none, none] (n, sl, C, Z, I, L, R) 7 27 ls st Q))) ∧
  (∀ (ls : Lo) (h : Hp) (Q : Option Value → Hp → Prop), Wp 7 27 (ls) ([]) h Q ↔ Q none h) := ⟨by intro ls st h Q l0 i; exact e_aload_n d7_0 rfl,
  by intro ls st h Q l0 l1 x; exact e_iload_n d7_1 rfl,
  by intro ls st h Q x; exact e_if d7_2 (by decide) c_lt,
  by intro ls st h Q l0 l1 x; exact e_iload_n d7_5 rfl,
  by intro ls st h Q; exact e_iconst d7_6 rfl,
  by intro ls st h Q x y; exact e_ic d7_7 (by decide) c_ge,
  by intro ls st h Q i; exact e_aload_n d7_10 rfl,
  by intro ls st n sl C Z I L R Q i; exact e_get (g := 0) (s := 2) (ty := 2) d7_11 rfl rfl (inG_ne (by decide)),
  by intro ls st h Q l0 l1 x; exact e_iload_n d7_14 rfl,
  by intro ls st n sl C Z I L R Q i y; exact e_lald d7_15,
  by intro ls st h Q; exact e_goto d7_16 (by decide),
  by intro ls st h Q; exact e_lconst d7_19 rfl,
  by intro ls st h Q i; exact e_aload_n d7_20 rfl,
  by intro ls st n sl C Z I L R Q i; exact e_get (g := 0) (s := 3) (ty := 1) d7_21 rfl rfl (inG_ne (by decide)),
  by intro ls st n sl C Z I L R Q x0 x1 i hh; exact e_iv (k2 := 13) (c := 3) (as := [.long x0, .long x1]) d7_24 rfl (by decide) rfl rfl (by decide +kernel) (Nat.le_of_ble_eq_true rfl) rfl hh,
  by intros; exact e_rV d7_27 rfl⟩
theorem d8_0 : decode (byt 8) 0 = .ok (.aload_n 0, 1) := by decide +kernel
theorem d8_1 : decode (byt 8) 1 = .ok (.getfield 27, 3) := by decide +kernel
theorem d8_4 : decode (byt 8) 4 = .ok (.ifCond .le 49, 3) := by decide +kernel
theorem d8_7 : decode (byt 8) 7 = .ok (.aload_n 0, 1) := by decide +kernel
theorem d8_8 : decode (byt 8) 8 = .ok (.getfield 20, 3) := by decide +kernel
theorem d8_11 : decode (byt 8) 11 = .ok (.iconst 0, 1) := by decide +kernel
theorem d8_12 : decode (byt 8) 12 = .ok (.laload, 1) := by decide +kernel
theorem d8_13 : decode (byt 8) 13 = .ok (.lconst 0, 1) := by decide +kernel
theorem d8_14 : decode (byt 8) 14 = .ok (.lcmp, 1) := by decide +kernel
theorem d8_15 : decode (byt 8) 15 = .ok (.ifCond .eq 36, 3) := by decide +kernel
theorem d8_18 : decode (byt 8) 18 = .ok (.aload_n 0, 1) := by decide +kernel
theorem d8_19 : decode (byt 8) 19 = .ok (.getfield 20, 3) := by decide +kernel
theorem d8_22 : decode (byt 8) 22 = .ok (.iconst 0, 1) := by decide +kernel
theorem d8_23 : decode (byt 8) 23 = .ok (.laload, 1) := by decide +kernel
theorem d8_24 : decode (byt 8) 24 = .ok (.lconst 0, 1) := by decide +kernel
theorem d8_25 : decode (byt 8) 25 = .ok (.lcmp, 1) := by decide +kernel
theorem d8_26 : decode (byt 8) 26 = .ok (.ifCond .le 7, 3) := by decide +kernel
theorem d8_29 : decode (byt 8) 29 = .ok (.iconst 1, 1) := by decide +kernel
theorem d8_30 : decode (byt 8) 30 = .ok (.goto 4, 3) := by decide +kernel
theorem d8_33 : decode (byt 8) 33 = .ok (.iconst 0, 1) := by decide +kernel
theorem d8_34 : decode (byt 8) 34 = .ok (.aload_n 0, 1) := by decide +kernel
theorem d8_35 : decode (byt 8) 35 = .ok (.getfield 23, 3) := by decide +kernel
theorem d8_38 : decode (byt 8) 38 = .ok (.lconst 0, 1) := by decide +kernel
theorem d8_39 : decode (byt 8) 39 = .ok (.lcmp, 1) := by decide +kernel
theorem d8_40 : decode (byt 8) 40 = .ok (.ifCond .le 7, 3) := by decide +kernel
theorem d8_43 : decode (byt 8) 43 = .ok (.iconst 1, 1) := by decide +kernel
theorem d8_44 : decode (byt 8) 44 = .ok (.goto 4, 3) := by decide +kernel
theorem d8_47 : decode (byt 8) 47 = .ok (.iconst 0, 1) := by decide +kernel
theorem d8_48 : decode (byt 8) 48 = .ok (.if_icmp .eq 5, 3) := by decide +kernel
theorem d8_51 : decode (byt 8) 51 = .ok (.iconst 0, 1) := by decide +kernel
theorem d8_52 : decode (byt 8) 52 = .ok (.ireturn, 1) := by decide +kernel
theorem d8_53 : decode (byt 8) 53 = .ok (.aload_n 0, 1) := by decide +kernel
theorem d8_54 : decode (byt 8) 54 = .ok (.getfield 27, 3) := by decide +kernel
theorem d8_57 : decode (byt 8) 57 = .ok (.iconst 2, 1) := by decide +kernel
theorem d8_58 : decode (byt 8) 58 = .ok (.if_icmp .lt 33, 3) := by decide +kernel
theorem d8_61 : decode (byt 8) 61 = .ok (.aload_n 0, 1) := by decide +kernel
theorem d8_62 : decode (byt 8) 62 = .ok (.getfield 20, 3) := by decide +kernel
theorem d8_65 : decode (byt 8) 65 = .ok (.iconst 0, 1) := by decide +kernel
theorem d8_66 : decode (byt 8) 66 = .ok (.laload, 1) := by decide +kernel
theorem d8_67 : decode (byt 8) 67 = .ok (.aload_n 0, 1) := by decide +kernel
theorem d8_68 : decode (byt 8) 68 = .ok (.getfield 20, 3) := by decide +kernel
theorem d8_71 : decode (byt 8) 71 = .ok (.iconst 2, 1) := by decide +kernel
theorem d8_72 : decode (byt 8) 72 = .ok (.laload, 1) := by decide +kernel
theorem d8_73 : decode (byt 8) 73 = .ok (.lmul, 1) := by decide +kernel
theorem d8_74 : decode (byt 8) 74 = .ok (.aload_n 0, 1) := by decide +kernel
theorem d8_75 : decode (byt 8) 75 = .ok (.getfield 20, 3) := by decide +kernel
theorem d8_78 : decode (byt 8) 78 = .ok (.iconst 1, 1) := by decide +kernel
theorem d8_79 : decode (byt 8) 79 = .ok (.laload, 1) := by decide +kernel
theorem d8_80 : decode (byt 8) 80 = .ok (.aload_n 0, 1) := by decide +kernel
theorem d8_81 : decode (byt 8) 81 = .ok (.getfield 20, 3) := by decide +kernel
theorem d8_84 : decode (byt 8) 84 = .ok (.iconst 1, 1) := by decide +kernel
theorem d8_85 : decode (byt 8) 85 = .ok (.laload, 1) := by decide +kernel
theorem d8_86 : decode (byt 8) 86 = .ok (.lmul, 1) := by decide +kernel
theorem d8_87 : decode (byt 8) 87 = .ok (.lcmp, 1) := by decide +kernel
theorem d8_88 : decode (byt 8) 88 = .ok (.ifCond .le 7, 3) := by decide +kernel
theorem d8_91 : decode (byt 8) 91 = .ok (.iconst 1, 1) := by decide +kernel
theorem d8_92 : decode (byt 8) 92 = .ok (.goto 4, 3) := by decide +kernel
theorem d8_95 : decode (byt 8) 95 = .ok (.iconst 0, 1) := by decide +kernel
theorem d8_96 : decode (byt 8) 96 = .ok (.ireturn, 1) := by decide +kernel
set_option maxRecDepth 20000 in
theorem S8_0 : (∀ (ls : Lo) (st : List Value) (h : Hp) (Q : Option Value → Hp → Prop)  (i : Nat), Wp 8 0 (some (.ref i) :: ls) (st) h Q ↔ Wp 8 1 (some (.ref i) :: ls) (.ref i :: st) h Q) ∧
  (∀ (ls : Lo) (st : List Value) (n sl : Nat) (C Z : Nat → Nat) (I : Nat → Nat → Int32) (L : Nat → Nat → Int64) (R : Nat → Nat → Nat) (Q : Option Value → Hp → Prop) (i : Nat), Wp 8 1 (ls) (.ref i :: st) (n, sl, C, Z, I, L, R) Q ↔ (C i = 1 ∧ Wp 8 4 (ls) (.int (I i 4) :: st) (n, sl, C, Z, I, L, R) Q)) ∧
  (∀ (ls : Lo) (st : List Value) (h : Hp) (Q : Option Value → Hp → Prop) (x : Int32), Wp 8 4 (ls) (.int x :: st) h Q ↔ Br 8 53 7 ls st h Q (x ≤ 0)) ∧
  (∀ (ls : Lo) (st : List Value) (h : Hp) (Q : Option Value → Hp → Prop)  (i : Nat), Wp 8 7 (some (.ref i) :: ls) (st) h Q ↔ Wp 8 8 (some (.ref i) :: ls) (.ref i :: st) h Q) ∧
  (∀ (ls : Lo) (st : List Value) (n sl : Nat) (C Z : Nat → Nat) (I : Nat → Nat → Int32) (L : Nat → Nat → Int64) (R : Nat → Nat → Nat) (Q : Option Value → Hp → Prop) (i : Nat), Wp 8 8 (ls) (.ref i :: st) (n, sl, C, Z, I, L, R) Q ↔ (C i = 1 ∧ Wp 8 11 (ls) (.ref (R i 2) :: st) (n, sl, C, Z, I, L, R) Q)) ∧
  (∀ (ls : Lo) (st : List Value) (h : Hp) (Q : Option Value → Hp → Prop), Wp 8 11 (ls) (st) h Q ↔ Wp 8 12 (ls) (.int (0) :: st) h Q) ∧
  (∀ (ls : Lo) (st : List Value) (n sl : Nat) (C Z : Nat → Nat) (I : Nat → Nat → Int32) (L : Nat → Nat → Int64) (R : Nat → Nat → Nat) (Q : Option Value → Hp → Prop) (i : Nat) (y : Int32), Wp 8 12 (ls) (.int y :: .ref i :: st) (n, sl, C, Z, I, L, R) Q ↔ ((inb y (Z i) = true ∧ C i = 22) ∧ Wp 8 13 (ls) (.long (L i (ix y)) :: st) (n, sl, C, Z, I, L, R) Q)) ∧
  (∀ (ls : Lo) (st : List Value) (h : Hp) (Q : Option Value → Hp → Prop), Wp 8 13 (ls) (st) h Q ↔ Wp 8 14 (ls) (.long 0 :: st) h Q) ∧
  (∀ (ls : Lo) (st : List Value) (h : Hp) (Q : Option Value → Hp → Prop) (a b : Int64), Wp 8 14 (ls) (.long b :: .long a :: st) h Q ↔ Wp 8 15 (ls) (.int (lg_cmp a b) :: st) h Q) ∧
  (∀ (ls : Lo) (st : List Value) (h : Hp) (Q : Option Value → Hp → Prop) (x : Int32), Wp 8 15 (ls) (.int x :: st) h Q ↔ Br 8 51 18 ls st h Q (x = 0)) ∧
  (∀ (ls : Lo) (st : List Value) (h : Hp) (Q : Option Value → Hp → Prop)  (i : Nat), Wp 8 18 (some (.ref i) :: ls) (st) h Q ↔ Wp 8 19 (some (.ref i) :: ls) (.ref i :: st) h Q) ∧
  (∀ (ls : Lo) (st : List Value) (n sl : Nat) (C Z : Nat → Nat) (I : Nat → Nat → Int32) (L : Nat → Nat → Int64) (R : Nat → Nat → Nat) (Q : Option Value → Hp → Prop) (i : Nat), Wp 8 19 (ls) (.ref i :: st) (n, sl, C, Z, I, L, R) Q ↔ (C i = 1 ∧ Wp 8 22 (ls) (.ref (R i 2) :: st) (n, sl, C, Z, I, L, R) Q)) ∧
  (∀ (ls : Lo) (st : List Value) (h : Hp) (Q : Option Value → Hp → Prop), Wp 8 22 (ls) (st) h Q ↔ Wp 8 23 (ls) (.int (0) :: st) h Q) ∧
  (∀ (ls : Lo) (st : List Value) (n sl : Nat) (C Z : Nat → Nat) (I : Nat → Nat → Int32) (L : Nat → Nat → Int64) (R : Nat → Nat → Nat) (Q : Option Value → Hp → Prop) (i : Nat) (y : Int32), Wp 8 23 (ls) (.int y :: .ref i :: st) (n, sl, C, Z, I, L, R) Q ↔ ((inb y (Z i) = true ∧ C i = 22) ∧ Wp 8 24 (ls) (.long (L i (ix y)) :: st) (n, sl, C, Z, I, L, R) Q)) ∧
  (∀ (ls : Lo) (st : List Value) (h : Hp) (Q : Option Value → Hp → Prop), Wp 8 24 (ls) (st) h Q ↔ Wp 8 25 (ls) (.long 0 :: st) h Q) ∧
  (∀ (ls : Lo) (st : List Value) (h : Hp) (Q : Option Value → Hp → Prop) (a b : Int64), Wp 8 25 (ls) (.long b :: .long a :: st) h Q ↔ Wp 8 26 (ls) (.int (lg_cmp a b) :: st) h Q) ∧
  (∀ (ls : Lo) (st : List Value) (h : Hp) (Q : Option Value → Hp → Prop) (x : Int32), Wp 8 26 (ls) (.int x :: st) h Q ↔ Br 8 33 29 ls st h Q (x ≤ 0)) ∧
  (∀ (ls : Lo) (st : List Value) (h : Hp) (Q : Option Value → Hp → Prop), Wp 8 29 (ls) (st) h Q ↔ Wp 8 30 (ls) (.int (1) :: st) h Q) ∧
  (∀ (ls : Lo) (st : List Value) (h : Hp) (Q : Option Value → Hp → Prop), Wp 8 30 (ls) (st) h Q ↔ Wp 8 34 (ls) (st) h Q) ∧
  (∀ (ls : Lo) (st : List Value) (h : Hp) (Q : Option Value → Hp → Prop), Wp 8 33 (ls) (st) h Q ↔ Wp 8 34 (ls) (.int (0) :: st) h Q) ∧
  (∀ (ls : Lo) (st : List Value) (h : Hp) (Q : Option Value → Hp → Prop)  (i : Nat), Wp 8 34 (some (.ref i) :: ls) (st) h Q ↔ Wp 8 35 (some (.ref i) :: ls) (.ref i :: st) h Q) ∧
  (∀ (ls : Lo) (st : List Value) (n sl : Nat) (C Z : Nat → Nat) (I : Nat → Nat → Int32) (L : Nat → Nat → Int64) (R : Nat → Nat → Nat) (Q : Option Value → Hp → Prop) (i : Nat), Wp 8 35 (ls) (.ref i :: st) (n, sl, C, Z, I, L, R) Q ↔ (C i = 1 ∧ Wp 8 38 (ls) (.long (L i 3) :: st) (n, sl, C, Z, I, L, R) Q)) ∧
  (∀ (ls : Lo) (st : List Value) (h : Hp) (Q : Option Value → Hp → Prop), Wp 8 38 (ls) (st) h Q ↔ Wp 8 39 (ls) (.long 0 :: st) h Q) ∧
  (∀ (ls : Lo) (st : List Value) (h : Hp) (Q : Option Value → Hp → Prop) (a b : Int64), Wp 8 39 (ls) (.long b :: .long a :: st) h Q ↔ Wp 8 40 (ls) (.int (lg_cmp a b) :: st) h Q) ∧
  (∀ (ls : Lo) (st : List Value) (h : Hp) (Q : Option Value → Hp → Prop) (x : Int32), Wp 8 40 (ls) (.int x :: st) h Q ↔ Br 8 47 43 ls st h Q (x ≤ 0)) := ⟨by intro ls st h Q i; exact e_aload_n d8_0 rfl,
  by intro ls st n sl C Z I L R Q i; exact e_get (g := 0) (s := 4) (ty := 0) d8_1 rfl rfl (inG_ne (by decide)),
  by intro ls st h Q x; exact e_if d8_4 (by decide) c_le,
  by intro ls st h Q i; exact e_aload_n d8_7 rfl,
  by intro ls st n sl C Z I L R Q i; exact e_get (g := 0) (s := 2) (ty := 2) d8_8 rfl rfl (inG_ne (by decide)),
  by intro ls st h Q; exact e_iconst d8_11 rfl,
  by intro ls st n sl C Z I L R Q i y; exact e_lald d8_12,
  by intro ls st h Q; exact e_lconst d8_13 rfl,
  by intro ls st h Q a b; exact e_lcmp d8_14,
  by intro ls st h Q x; exact e_if d8_15 (by decide) c_eq,
  by intro ls st h Q i; exact e_aload_n d8_18 rfl,
  by intro ls st n sl C Z I L R Q i; exact e_get (g := 0) (s := 2) (ty := 2) d8_19 rfl rfl (inG_ne (by decide)),
  by intro ls st h Q; exact e_iconst d8_22 rfl,
  by intro ls st n sl C Z I L R Q i y; exact e_lald d8_23,
  by intro ls st h Q; exact e_lconst d8_24 rfl,
  by intro ls st h Q a b; exact e_lcmp d8_25,
  by intro ls st h Q x; exact e_if d8_26 (by decide) c_le,
  by intro ls st h Q; exact e_iconst d8_29 rfl,
  by intro ls st h Q; exact e_goto d8_30 (by decide),
  by intro ls st h Q; exact e_iconst d8_33 rfl,
  by intro ls st h Q i; exact e_aload_n d8_34 rfl,
  by intro ls st n sl C Z I L R Q i; exact e_get (g := 0) (s := 3) (ty := 1) d8_35 rfl rfl (inG_ne (by decide)),
  by intro ls st h Q; exact e_lconst d8_38 rfl,
  by intro ls st h Q a b; exact e_lcmp d8_39,
  by intro ls st h Q x; exact e_if d8_40 (by decide) c_le⟩
set_option maxRecDepth 20000 in
theorem S8_1 : (∀ (ls : Lo) (st : List Value) (h : Hp) (Q : Option Value → Hp → Prop), Wp 8 43 (ls) (st) h Q ↔ Wp 8 44 (ls) (.int (1) :: st) h Q) ∧
  (∀ (ls : Lo) (st : List Value) (h : Hp) (Q : Option Value → Hp → Prop), Wp 8 44 (ls) (st) h Q ↔ Wp 8 48 (ls) (st) h Q) ∧
  (∀ (ls : Lo) (st : List Value) (h : Hp) (Q : Option Value → Hp → Prop), Wp 8 47 (ls) (st) h Q ↔ Wp 8 48 (ls) (.int (0) :: st) h Q) ∧
  (∀ (ls : Lo) (st : List Value) (h : Hp) (Q : Option Value → Hp → Prop) (x y : Int32), Wp 8 48 (ls) (.int y :: .int x :: st) h Q ↔ Br 8 53 51 ls st h Q (x = y)) ∧
  (∀ (ls : Lo) (st : List Value) (h : Hp) (Q : Option Value → Hp → Prop), Wp 8 51 (ls) (st) h Q ↔ Wp 8 52 (ls) (.int (0) :: st) h Q) ∧
  (∀ (ls : Lo) (h : Hp) (Q : Option Value → Hp → Prop) (x : Int32), Wp 8 52 (ls) ([.int x]) h Q ↔ ((x = 0 ∨ x = 1) ∧ Q (some (.int x)) h)) ∧
  (∀ (ls : Lo) (st : List Value) (h : Hp) (Q : Option Value → Hp → Prop)  (i : Nat), Wp 8 53 (some (.ref i) :: ls) (st) h Q ↔ Wp 8 54 (some (.ref i) :: ls) (.ref i :: st) h Q) ∧
  (∀ (ls : Lo) (st : List Value) (n sl : Nat) (C Z : Nat → Nat) (I : Nat → Nat → Int32) (L : Nat → Nat → Int64) (R : Nat → Nat → Nat) (Q : Option Value → Hp → Prop) (i : Nat), Wp 8 54 (ls) (.ref i :: st) (n, sl, C, Z, I, L, R) Q ↔ (C i = 1 ∧ Wp 8 57 (ls) (.int (I i 4) :: st) (n, sl, C, Z, I, L, R) Q)) ∧
  (∀ (ls : Lo) (st : List Value) (h : Hp) (Q : Option Value → Hp → Prop), Wp 8 57 (ls) (st) h Q ↔ Wp 8 58 (ls) (.int (2) :: st) h Q) ∧
  (∀ (ls : Lo) (st : List Value) (h : Hp) (Q : Option Value → Hp → Prop) (x y : Int32), Wp 8 58 (ls) (.int y :: .int x :: st) h Q ↔ Br 8 91 61 ls st h Q (x < y)) ∧
  (∀ (ls : Lo) (st : List Value) (h : Hp) (Q : Option Value → Hp → Prop)  (i : Nat), Wp 8 61 (some (.ref i) :: ls) (st) h Q ↔ Wp 8 62 (some (.ref i) :: ls) (.ref i :: st) h Q) ∧
  (∀ (ls : Lo) (st : List Value) (n sl : Nat) (C Z : Nat → Nat) (I : Nat → Nat → Int32) (L : Nat → Nat → Int64) (R : Nat → Nat → Nat) (Q : Option Value → Hp → Prop) (i : Nat), Wp 8 62 (ls) (.ref i :: st) (n, sl, C, Z, I, L, R) Q ↔ (C i = 1 ∧ Wp 8 65 (ls) (.ref (R i 2) :: st) (n, sl, C, Z, I, L, R) Q)) ∧
  (∀ (ls : Lo) (st : List Value) (h : Hp) (Q : Option Value → Hp → Prop), Wp 8 65 (ls) (st) h Q ↔ Wp 8 66 (ls) (.int (0) :: st) h Q) ∧
  (∀ (ls : Lo) (st : List Value) (n sl : Nat) (C Z : Nat → Nat) (I : Nat → Nat → Int32) (L : Nat → Nat → Int64) (R : Nat → Nat → Nat) (Q : Option Value → Hp → Prop) (i : Nat) (y : Int32), Wp 8 66 (ls) (.int y :: .ref i :: st) (n, sl, C, Z, I, L, R) Q ↔ ((inb y (Z i) = true ∧ C i = 22) ∧ Wp 8 67 (ls) (.long (L i (ix y)) :: st) (n, sl, C, Z, I, L, R) Q)) ∧
  (∀ (ls : Lo) (st : List Value) (h : Hp) (Q : Option Value → Hp → Prop)  (i : Nat), Wp 8 67 (some (.ref i) :: ls) (st) h Q ↔ Wp 8 68 (some (.ref i) :: ls) (.ref i :: st) h Q) ∧
  (∀ (ls : Lo) (st : List Value) (n sl : Nat) (C Z : Nat → Nat) (I : Nat → Nat → Int32) (L : Nat → Nat → Int64) (R : Nat → Nat → Nat) (Q : Option Value → Hp → Prop) (i : Nat), Wp 8 68 (ls) (.ref i :: st) (n, sl, C, Z, I, L, R) Q ↔ (C i = 1 ∧ Wp 8 71 (ls) (.ref (R i 2) :: st) (n, sl, C, Z, I, L, R) Q)) ∧
  (∀ (ls : Lo) (st : List Value) (h : Hp) (Q : Option Value → Hp → Prop), Wp 8 71 (ls) (st) h Q ↔ Wp 8 72 (ls) (.int (2) :: st) h Q) ∧
  (∀ (ls : Lo) (st : List Value) (n sl : Nat) (C Z : Nat → Nat) (I : Nat → Nat → Int32) (L : Nat → Nat → Int64) (R : Nat → Nat → Nat) (Q : Option Value → Hp → Prop) (i : Nat) (y : Int32), Wp 8 72 (ls) (.int y :: .ref i :: st) (n, sl, C, Z, I, L, R) Q ↔ ((inb y (Z i) = true ∧ C i = 22) ∧ Wp 8 73 (ls) (.long (L i (ix y)) :: st) (n, sl, C, Z, I, L, R) Q)) ∧
  (∀ (ls : Lo) (st : List Value) (h : Hp) (Q : Option Value → Hp → Prop) (a b : Int64), Wp 8 73 (ls) (.long b :: .long a :: st) h Q ↔ Wp 8 74 (ls) (.long (a * b) :: st) h Q) ∧
  (∀ (ls : Lo) (st : List Value) (h : Hp) (Q : Option Value → Hp → Prop)  (i : Nat), Wp 8 74 (some (.ref i) :: ls) (st) h Q ↔ Wp 8 75 (some (.ref i) :: ls) (.ref i :: st) h Q) ∧
  (∀ (ls : Lo) (st : List Value) (n sl : Nat) (C Z : Nat → Nat) (I : Nat → Nat → Int32) (L : Nat → Nat → Int64) (R : Nat → Nat → Nat) (Q : Option Value → Hp → Prop) (i : Nat), Wp 8 75 (ls) (.ref i :: st) (n, sl, C, Z, I, L, R) Q ↔ (C i = 1 ∧ Wp 8 78 (ls) (.ref (R i 2) :: st) (n, sl, C, Z, I, L, R) Q)) ∧
  (∀ (ls : Lo) (st : List Value) (h : Hp) (Q : Option Value → Hp → Prop), Wp 8 78 (ls) (st) h Q ↔ Wp 8 79 (ls) (.int (1) :: st) h Q) ∧
  (∀ (ls : Lo) (st : List Value) (n sl : Nat) (C Z : Nat → Nat) (I : Nat → Nat → Int32) (L : Nat → Nat → Int64) (R : Nat → Nat → Nat) (Q : Option Value → Hp → Prop) (i : Nat) (y : Int32), Wp 8 79 (ls) (.int y :: .ref i :: st) (n, sl, C, Z, I, L, R) Q ↔ ((inb y (Z i) = true ∧ C i = 22) ∧ Wp 8 80 (ls) (.long (L i (ix y)) :: st) (n, sl, C, Z, I, L, R) Q)) ∧
  (∀ (ls : Lo) (st : List Value) (h : Hp) (Q : Option Value → Hp → Prop)  (i : Nat), Wp 8 80 (some (.ref i) :: ls) (st) h Q ↔ Wp 8 81 (some (.ref i) :: ls) (.ref i :: st) h Q) ∧
  (∀ (ls : Lo) (st : List Value) (n sl : Nat) (C Z : Nat → Nat) (I : Nat → Nat → Int32) (L : Nat → Nat → Int64) (R : Nat → Nat → Nat) (Q : Option Value → Hp → Prop) (i : Nat), Wp 8 81 (ls) (.ref i :: st) (n, sl, C, Z, I, L, R) Q ↔ (C i = 1 ∧ Wp 8 84 (ls) (.ref (R i 2) :: st) (n, sl, C, Z, I, L, R) Q)) := ⟨by intro ls st h Q; exact e_iconst d8_43 rfl,
  by intro ls st h Q; exact e_goto d8_44 (by decide),
  by intro ls st h Q; exact e_iconst d8_47 rfl,
  by intro ls st h Q x y; exact e_ic d8_48 (by decide) c_eq,
  by intro ls st h Q; exact e_iconst d8_51 rfl,
  by intros; exact e_rZ d8_52 rfl,
  by intro ls st h Q i; exact e_aload_n d8_53 rfl,
  by intro ls st n sl C Z I L R Q i; exact e_get (g := 0) (s := 4) (ty := 0) d8_54 rfl rfl (inG_ne (by decide)),
  by intro ls st h Q; exact e_iconst d8_57 rfl,
  by intro ls st h Q x y; exact e_ic d8_58 (by decide) c_lt,
  by intro ls st h Q i; exact e_aload_n d8_61 rfl,
  by intro ls st n sl C Z I L R Q i; exact e_get (g := 0) (s := 2) (ty := 2) d8_62 rfl rfl (inG_ne (by decide)),
  by intro ls st h Q; exact e_iconst d8_65 rfl,
  by intro ls st n sl C Z I L R Q i y; exact e_lald d8_66,
  by intro ls st h Q i; exact e_aload_n d8_67 rfl,
  by intro ls st n sl C Z I L R Q i; exact e_get (g := 0) (s := 2) (ty := 2) d8_68 rfl rfl (inG_ne (by decide)),
  by intro ls st h Q; exact e_iconst d8_71 rfl,
  by intro ls st n sl C Z I L R Q i y; exact e_lald d8_72,
  by intro ls st h Q a b; exact e_lmul d8_73,
  by intro ls st h Q i; exact e_aload_n d8_74 rfl,
  by intro ls st n sl C Z I L R Q i; exact e_get (g := 0) (s := 2) (ty := 2) d8_75 rfl rfl (inG_ne (by decide)),
  by intro ls st h Q; exact e_iconst d8_78 rfl,
  by intro ls st n sl C Z I L R Q i y; exact e_lald d8_79,
  by intro ls st h Q i; exact e_aload_n d8_80 rfl,
  by intro ls st n sl C Z I L R Q i; exact e_get (g := 0) (s := 2) (ty := 2) d8_81 rfl rfl (inG_ne (by decide))⟩
set_option maxRecDepth 20000 in
theorem S8_2 : (∀ (ls : Lo) (st : List Value) (h : Hp) (Q : Option Value → Hp → Prop), Wp 8 84 (ls) (st) h Q ↔ Wp 8 85 (ls) (.int (1) :: st) h Q) ∧
  (∀ (ls : Lo) (st : List Value) (n sl : Nat) (C Z : Nat → Nat) (I : Nat → Nat → Int32) (L : Nat → Nat → Int64) (R : Nat → Nat → Nat) (Q : Option Value → Hp → Prop) (i : Nat) (y : Int32), Wp 8 85 (ls) (.int y :: .ref i :: st) (n, sl, C, Z, I, L, R) Q ↔ ((inb y (Z i) = true ∧ C i = 22) ∧ Wp 8 86 (ls) (.long (L i (ix y)) :: st) (n, sl, C, Z, I, L, R) Q)) ∧
  (∀ (ls : Lo) (st : List Value) (h : Hp) (Q : Option Value → Hp → Prop) (a b : Int64), Wp 8 86 (ls) (.long b :: .long a :: st) h Q ↔ Wp 8 87 (ls) (.long (a * b) :: st) h Q) ∧
  (∀ (ls : Lo) (st : List Value) (h : Hp) (Q : Option Value → Hp → Prop) (a b : Int64), Wp 8 87 (ls) (.long b :: .long a :: st) h Q ↔ Wp 8 88 (ls) (.int (lg_cmp a b) :: st) h Q) ∧
  (∀ (ls : Lo) (st : List Value) (h : Hp) (Q : Option Value → Hp → Prop) (x : Int32), Wp 8 88 (ls) (.int x :: st) h Q ↔ Br 8 95 91 ls st h Q (x ≤ 0)) ∧
  (∀ (ls : Lo) (st : List Value) (h : Hp) (Q : Option Value → Hp → Prop), Wp 8 91 (ls) (st) h Q ↔ Wp 8 92 (ls) (.int (1) :: st) h Q) ∧
  (∀ (ls : Lo) (st : List Value) (h : Hp) (Q : Option Value → Hp → Prop), Wp 8 92 (ls) (st) h Q ↔ Wp 8 96 (ls) (st) h Q) ∧
  (∀ (ls : Lo) (st : List Value) (h : Hp) (Q : Option Value → Hp → Prop), Wp 8 95 (ls) (st) h Q ↔ Wp 8 96 (ls) (.int (0) :: st) h Q) ∧
  (∀ (ls : Lo) (h : Hp) (Q : Option Value → Hp → Prop) (x : Int32), Wp 8 96 (ls) ([.int x]) h Q ↔ ((x = 0 ∨ x = 1) ∧ Q (some (.int x)) h)) := ⟨by intro ls st h Q; exact e_iconst d8_84 rfl,
  by intro ls st n sl C Z I L R Q i y; exact e_lald d8_85,
  by intro ls st h Q a b; exact e_lmul d8_86,
  by intro ls st h Q a b; exact e_lcmp d8_87,
  by intro ls st h Q x; exact e_if d8_88 (by decide) c_le,
  by intro ls st h Q; exact e_iconst d8_91 rfl,
  by intro ls st h Q; exact e_goto d8_92 (by decide),
  by intro ls st h Q; exact e_iconst d8_95 rfl,
  by intros; exact e_rZ d8_96 rfl⟩
theorem d9_0 : decode (byt 9) 0 = .ok (.aload_n 0, 1) := by decide +kernel
theorem d9_1 : decode (byt 9) 1 = .ok (.iload_n 1, 1) := by decide +kernel
theorem d9_2 : decode (byt 9) 2 = .ok (.iload_n 2, 1) := by decide +kernel
theorem d9_3 : decode (byt 9) 3 = .ok (.iload_n 3, 1) := by decide +kernel
theorem d9_4 : decode (byt 9) 4 = .ok (.invokespecial 3, 3) := by decide +kernel
theorem d9_7 : decode (byt 9) 7 = .ok (.return_, 1) := by decide +kernel
set_option maxRecDepth 20000 in
theorem S9_0 : (∀ (ls : Lo) (st : List Value) (h : Hp) (Q : Option Value → Hp → Prop)  (i : Nat), Wp 9 0 (some (.ref i) :: ls) (st) h Q ↔ Wp 9 1 (some (.ref i) :: ls) (.ref i :: st) h Q) ∧
  (∀ (ls : Lo) (st : List Value) (h : Hp) (Q : Option Value → Hp → Prop) (l0 : Option Value) (x : Int32), Wp 9 1 (l0 :: some (.int x) :: ls) (st) h Q ↔ Wp 9 2 (l0 :: some (.int x) :: ls) (.int x :: st) h Q) ∧
  (∀ (ls : Lo) (st : List Value) (h : Hp) (Q : Option Value → Hp → Prop) (l0 l1 : Option Value) (x : Int32), Wp 9 2 (l0 :: l1 :: some (.int x) :: ls) (st) h Q ↔ Wp 9 3 (l0 :: l1 :: some (.int x) :: ls) (.int x :: st) h Q) ∧
  (∀ (ls : Lo) (st : List Value) (h : Hp) (Q : Option Value → Hp → Prop) (l0 l1 l2 : Option Value) (x : Int32), Wp 9 3 (l0 :: l1 :: l2 :: some (.int x) :: ls) (st) h Q ↔ Wp 9 4 (l0 :: l1 :: l2 :: some (.int x) :: ls) (.int x :: st) h Q) ∧
  (∀ (ls : Lo) (st : List Value) (h : Hp) (Q : Option Value → Hp → Prop) (x0 : Int32) (x1 : Int32) (x2 : Int32) (i : Nat), i ≠ 0 → (Wp 9 4 (ls) (.int x2 :: .int x1 :: .int x0 :: .ref i :: st) h Q ↔ (wsum st ≤ 8 ∧ Call 51 [some (.ref i), some (.int x0), some (.int x1), some (.int x2)] h 9 7 ls st Q))) ∧
  (∀ (ls : Lo) (h : Hp) (Q : Option Value → Hp → Prop), Wp 9 7 (ls) ([]) h Q ↔ Q none h) := ⟨by intro ls st h Q i; exact e_aload_n d9_0 rfl,
  by intro ls st h Q l0 x; exact e_iload_n d9_1 rfl,
  by intro ls st h Q l0 l1 x; exact e_iload_n d9_2 rfl,
  by intro ls st h Q l0 l1 l2 x; exact e_iload_n d9_3 rfl,
  by intro ls st h Q x0 x1 x2 i hh; exact e_ip (k2 := 51) (as := [.int x0, .int x1, .int x2]) d9_4 rfl (by decide) rfl rfl (by decide +kernel) (Nat.le_of_ble_eq_true rfl) rfl hh,
  by intros; exact e_rV d9_7 rfl⟩
theorem d10_0 : decode (byt 10) 0 = .ok (.iconst 1, 1) := by decide +kernel
theorem d10_1 : decode (byt 10) 1 = .ok (.ireturn, 1) := by decide +kernel
set_option maxRecDepth 20000 in
theorem S10_0 : (∀ (ls : Lo) (st : List Value) (h : Hp) (Q : Option Value → Hp → Prop), Wp 10 0 (ls) (st) h Q ↔ Wp 10 1 (ls) (.int (1) :: st) h Q) ∧
  (∀ (ls : Lo) (h : Hp) (Q : Option Value → Hp → Prop) (x : Int32), Wp 10 1 (ls) ([.int x]) h Q ↔ Q (some (.int x)) h) := ⟨by intro ls st h Q; exact e_iconst d10_0 rfl,
  by intros; exact e_rI (p := True) d10_1 rfl⟩
theorem d11_0 : decode (byt 11) 0 = .ok (.aload_n 2, 1) := by decide +kernel
theorem d11_1 : decode (byt 11) 1 = .ok (.getfield 9, 3) := by decide +kernel
theorem d11_4 : decode (byt 11) 4 = .ok (.bipush 40, 2) := by decide +kernel
theorem d11_6 : decode (byt 11) 6 = .ok (.if_icmp .ge 14, 3) := by decide +kernel
theorem d11_9 : decode (byt 11) 9 = .ok (.aload_n 2, 1) := by decide +kernel
theorem d11_10 : decode (byt 11) 10 = .ok (.getfield 15, 3) := by decide +kernel
theorem d11_13 : decode (byt 11) 13 = .ok (.aload_n 2, 1) := by decide +kernel
theorem d11_14 : decode (byt 11) 14 = .ok (.getfield 9, 3) := by decide +kernel
theorem d11_17 : decode (byt 11) 17 = .ok (.bipush 20, 2) := by decide +kernel
theorem d11_19 : decode (byt 11) 19 = .ok (.iastore, 1) := by decide +kernel
theorem d11_20 : decode (byt 11) 20 = .ok (.aload_n 2, 1) := by decide +kernel
theorem d11_21 : decode (byt 11) 21 = .ok (.dup, 1) := by decide +kernel
theorem d11_22 : decode (byt 11) 22 = .ok (.getfield 9, 3) := by decide +kernel
theorem d11_25 : decode (byt 11) 25 = .ok (.iconst 1, 1) := by decide +kernel
theorem d11_26 : decode (byt 11) 26 = .ok (.iadd, 1) := by decide +kernel
theorem d11_27 : decode (byt 11) 27 = .ok (.putfield 9, 3) := by decide +kernel
theorem d11_30 : decode (byt 11) 30 = .ok (.aload_n 0, 1) := by decide +kernel
theorem d11_31 : decode (byt 11) 31 = .ok (.iload_n 1, 1) := by decide +kernel
theorem d11_32 : decode (byt 11) 32 = .ok (.aload_n 2, 1) := by decide +kernel
theorem d11_33 : decode (byt 11) 33 = .ok (.invokespecial 19, 3) := by decide +kernel
theorem d11_36 : decode (byt 11) 36 = .ok (.aload_n 0, 1) := by decide +kernel
theorem d11_37 : decode (byt 11) 37 = .ok (.getfield 23, 3) := by decide +kernel
theorem d11_40 : decode (byt 11) 40 = .ok (.iadd, 1) := by decide +kernel
theorem d11_41 : decode (byt 11) 41 = .ok (.ireturn, 1) := by decide +kernel
set_option maxRecDepth 20000 in
theorem S11_0 : (∀ (ls : Lo) (st : List Value) (h : Hp) (Q : Option Value → Hp → Prop) (l0 l1 : Option Value) (i : Nat), Wp 11 0 (l0 :: l1 :: some (.ref i) :: ls) (st) h Q ↔ Wp 11 1 (l0 :: l1 :: some (.ref i) :: ls) (.ref i :: st) h Q) ∧
  (∀ (ls : Lo) (st : List Value) (n sl : Nat) (C Z : Nat → Nat) (I : Nat → Nat → Int32) (L : Nat → Nat → Int64) (R : Nat → Nat → Nat) (Q : Option Value → Hp → Prop) (i : Nat), Wp 11 1 (ls) (.ref i :: st) (n, sl, C, Z, I, L, R) Q ↔ (C i = 9 ∧ Wp 11 4 (ls) (.int (I i 1) :: st) (n, sl, C, Z, I, L, R) Q)) ∧
  (∀ (ls : Lo) (st : List Value) (h : Hp) (Q : Option Value → Hp → Prop), Wp 11 4 (ls) (st) h Q ↔ Wp 11 6 (ls) (.int (40) :: st) h Q) ∧
  (∀ (ls : Lo) (st : List Value) (h : Hp) (Q : Option Value → Hp → Prop) (x y : Int32), Wp 11 6 (ls) (.int y :: .int x :: st) h Q ↔ Br 11 20 9 ls st h Q (y ≤ x)) ∧
  (∀ (ls : Lo) (st : List Value) (h : Hp) (Q : Option Value → Hp → Prop) (l0 l1 : Option Value) (i : Nat), Wp 11 9 (l0 :: l1 :: some (.ref i) :: ls) (st) h Q ↔ Wp 11 10 (l0 :: l1 :: some (.ref i) :: ls) (.ref i :: st) h Q) ∧
  (∀ (ls : Lo) (st : List Value) (n sl : Nat) (C Z : Nat → Nat) (I : Nat → Nat → Int32) (L : Nat → Nat → Int64) (R : Nat → Nat → Nat) (Q : Option Value → Hp → Prop) (i : Nat), Wp 11 10 (ls) (.ref i :: st) (n, sl, C, Z, I, L, R) Q ↔ (C i = 9 ∧ Wp 11 13 (ls) (.ref (R i 0) :: st) (n, sl, C, Z, I, L, R) Q)) ∧
  (∀ (ls : Lo) (st : List Value) (h : Hp) (Q : Option Value → Hp → Prop) (l0 l1 : Option Value) (i : Nat), Wp 11 13 (l0 :: l1 :: some (.ref i) :: ls) (st) h Q ↔ Wp 11 14 (l0 :: l1 :: some (.ref i) :: ls) (.ref i :: st) h Q) ∧
  (∀ (ls : Lo) (st : List Value) (n sl : Nat) (C Z : Nat → Nat) (I : Nat → Nat → Int32) (L : Nat → Nat → Int64) (R : Nat → Nat → Nat) (Q : Option Value → Hp → Prop) (i : Nat), Wp 11 14 (ls) (.ref i :: st) (n, sl, C, Z, I, L, R) Q ↔ (C i = 9 ∧ Wp 11 17 (ls) (.int (I i 1) :: st) (n, sl, C, Z, I, L, R) Q)) ∧
  (∀ (ls : Lo) (st : List Value) (h : Hp) (Q : Option Value → Hp → Prop), Wp 11 17 (ls) (st) h Q ↔ Wp 11 19 (ls) (.int (20) :: st) h Q) ∧
  (∀ (ls : Lo) (st : List Value) (n sl : Nat) (C Z : Nat → Nat) (I : Nat → Nat → Int32) (L : Nat → Nat → Int64) (R : Nat → Nat → Nat) (Q : Option Value → Hp → Prop) (i : Nat) (x y : Int32), Wp 11 19 (ls) (.int x :: .int y :: .ref i :: st) (n, sl, C, Z, I, L, R) Q ↔ ((inb y (Z i) = true ∧ C i = 21) ∧ Wp 11 20 (ls) (st) (n, sl, C, Z, u2 I i (ix y) x, L, R) Q)) ∧
  (∀ (ls : Lo) (st : List Value) (h : Hp) (Q : Option Value → Hp → Prop) (l0 l1 : Option Value) (i : Nat), Wp 11 20 (l0 :: l1 :: some (.ref i) :: ls) (st) h Q ↔ Wp 11 21 (l0 :: l1 :: some (.ref i) :: ls) (.ref i :: st) h Q) ∧
  (∀ (ls : Lo) (st : List Value) (h : Hp) (Q : Option Value → Hp → Prop) (x : Int32), Wp 11 21 (ls) (.int x :: st) h Q ↔ Wp 11 22 (ls) (.int x :: .int x :: st) h Q) ∧
  (∀ (ls : Lo) (st : List Value) (h : Hp) (Q : Option Value → Hp → Prop) (i : Nat), Wp 11 21 (ls) (.ref i :: st) h Q ↔ Wp 11 22 (ls) (.ref i :: .ref i :: st) h Q) ∧
  (∀ (ls : Lo) (st : List Value) (n sl : Nat) (C Z : Nat → Nat) (I : Nat → Nat → Int32) (L : Nat → Nat → Int64) (R : Nat → Nat → Nat) (Q : Option Value → Hp → Prop) (i : Nat), Wp 11 22 (ls) (.ref i :: st) (n, sl, C, Z, I, L, R) Q ↔ (C i = 9 ∧ Wp 11 25 (ls) (.int (I i 1) :: st) (n, sl, C, Z, I, L, R) Q)) ∧
  (∀ (ls : Lo) (st : List Value) (h : Hp) (Q : Option Value → Hp → Prop), Wp 11 25 (ls) (st) h Q ↔ Wp 11 26 (ls) (.int (1) :: st) h Q) ∧
  (∀ (ls : Lo) (st : List Value) (h : Hp) (Q : Option Value → Hp → Prop) (x y : Int32), Wp 11 26 (ls) (.int y :: .int x :: st) h Q ↔ Wp 11 27 (ls) (.int (x + y) :: st) h Q) ∧
  (∀ (ls : Lo) (st : List Value) (n sl : Nat) (C Z : Nat → Nat) (I : Nat → Nat → Int32) (L : Nat → Nat → Int64) (R : Nat → Nat → Nat) (Q : Option Value → Hp → Prop) (i : Nat) (x : Int32), Wp 11 27 (ls) (.int x :: .ref i :: st) (n, sl, C, Z, I, L, R) Q ↔ (C i = 9 ∧ Wp 11 30 (ls) (st) (n, sl, C, Z, u2 I i 1 x, L, R) Q)) ∧
  (∀ (ls : Lo) (st : List Value) (h : Hp) (Q : Option Value → Hp → Prop)  (i : Nat), Wp 11 30 (some (.ref i) :: ls) (st) h Q ↔ Wp 11 31 (some (.ref i) :: ls) (.ref i :: st) h Q) ∧
  (∀ (ls : Lo) (st : List Value) (h : Hp) (Q : Option Value → Hp → Prop) (l0 : Option Value) (x : Int32), Wp 11 31 (l0 :: some (.int x) :: ls) (st) h Q ↔ Wp 11 32 (l0 :: some (.int x) :: ls) (.int x :: st) h Q) ∧
  (∀ (ls : Lo) (st : List Value) (h : Hp) (Q : Option Value → Hp → Prop) (l0 l1 : Option Value) (i : Nat), Wp 11 32 (l0 :: l1 :: some (.ref i) :: ls) (st) h Q ↔ Wp 11 33 (l0 :: l1 :: some (.ref i) :: ls) (.ref i :: st) h Q) ∧
  (∀ (ls : Lo) (st : List Value) (n sl : Nat) (C Z : Nat → Nat) (I : Nat → Nat → Int32) (L : Nat → Nat → Int64) (R : Nat → Nat → Nat) (Q : Option Value → Hp → Prop) (x0 : Int32) (x1 : Nat) (i : Nat), inG 7 (C i) = true → (Wp 11 33 (ls) (.ref x1 :: .int x0 :: .ref i :: st) (n, sl, C, Z, I, L, R) Q ↔ (wsum st ≤ 8 ∧ Call 54 [some (.ref i), some (.int x0), some (.ref x1)] (n, sl, C, Z, I, L, R) 11 36 ls st Q))) ∧
  (∀ (ls : Lo) (st : List Value) (h : Hp) (Q : Option Value → Hp → Prop)  (i : Nat), Wp 11 36 (some (.ref i) :: ls) (st) h Q ↔ Wp 11 37 (some (.ref i) :: ls) (.ref i :: st) h Q) ∧
  (∀ (ls : Lo) (st : List Value) (n sl : Nat) (C Z : Nat → Nat) (I : Nat → Nat → Int32) (L : Nat → Nat → Int64) (R : Nat → Nat → Nat) (Q : Option Value → Hp → Prop) (i : Nat), Wp 11 37 (ls) (.ref i :: st) (n, sl, C, Z, I, L, R) Q ↔ (inG 7 (C i) = true ∧ Wp 11 40 (ls) (.int (I i 2) :: st) (n, sl, C, Z, I, L, R) Q)) ∧
  (∀ (ls : Lo) (st : List Value) (h : Hp) (Q : Option Value → Hp → Prop) (x y : Int32), Wp 11 40 (ls) (.int y :: .int x :: st) h Q ↔ Wp 11 41 (ls) (.int (x + y) :: st) h Q) ∧
  (∀ (ls : Lo) (h : Hp) (Q : Option Value → Hp → Prop) (x : Int32), Wp 11 41 (ls) ([.int x]) h Q ↔ Q (some (.int x)) h) := ⟨by intro ls st h Q l0 l1 i; exact e_aload_n d11_0 rfl,
  by intro ls st n sl C Z I L R Q i; exact e_get (g := 8) (s := 1) (ty := 0) d11_1 rfl rfl (inG_ne (by decide)),
  by intro ls st h Q; exact e_bipush d11_4 rfl,
  by intro ls st h Q x y; exact e_ic d11_6 (by decide) c_ge,
  by intro ls st h Q l0 l1 i; exact e_aload_n d11_9 rfl,
  by intro ls st n sl C Z I L R Q i; exact e_get (g := 8) (s := 0) (ty := 2) d11_10 rfl rfl (inG_ne (by decide)),
  by intro ls st h Q l0 l1 i; exact e_aload_n d11_13 rfl,
  by intro ls st n sl C Z I L R Q i; exact e_get (g := 8) (s := 1) (ty := 0) d11_14 rfl rfl (inG_ne (by decide)),
  by intro ls st h Q; exact e_bipush d11_17 rfl,
  by intro ls st n sl C Z I L R Q i x y; exact e_iast d11_19,
  by intro ls st h Q l0 l1 i; exact e_aload_n d11_20 rfl,
  by intro ls st h Q x; exact e_dupI d11_21,
  by intro ls st h Q i; exact e_dupR d11_21,
  by intro ls st n sl C Z I L R Q i; exact e_get (g := 8) (s := 1) (ty := 0) d11_22 rfl rfl (inG_ne (by decide)),
  by intro ls st h Q; exact e_iconst d11_25 rfl,
  by intro ls st h Q x y; exact e_iadd d11_26,
  by intro ls st n sl C Z I L R Q i x; exact e_putI (g := 8) (s := 1) d11_27 rfl (Or.inl rfl) (inG_ne (by decide)),
  by intro ls st h Q i; exact e_aload_n d11_30 rfl,
  by intro ls st h Q l0 x; exact e_iload_n d11_31 rfl,
  by intro ls st h Q l0 l1 i; exact e_aload_n d11_32 rfl,
  by intro ls st n sl C Z I L R Q x0 x1 i hh; exact e_isu (k2 := 54) (as := [.int x0, .ref x1]) d11_33 rfl (by decide) rfl rfl (by decide +kernel) (Nat.le_of_ble_eq_true rfl) rfl hh,
  by intro ls st h Q i; exact e_aload_n d11_36 rfl,
  by intro ls st n sl C Z I L R Q i; exact e_get (g := 7) (s := 2) (ty := 0) d11_37 rfl rfl rfl,
  by intro ls st h Q x y; exact e_iadd d11_40,
  by intros; exact e_rI (p := True) d11_41 rfl⟩
theorem d12_0 : decode (byt 12) 0 = .ok (.aload_n 0, 1) := by decide +kernel
theorem d12_1 : decode (byt 12) 1 = .ok (.invokespecial 1, 3) := by decide +kernel
theorem d12_4 : decode (byt 12) 4 = .ok (.aload_n 0, 1) := by decide +kernel
theorem d12_5 : decode (byt 12) 5 = .ok (.lconst 0, 1) := by decide +kernel
theorem d12_6 : decode (byt 12) 6 = .ok (.putfield 7, 3) := by decide +kernel
theorem d12_9 : decode (byt 12) 9 = .ok (.aload_n 0, 1) := by decide +kernel
theorem d12_10 : decode (byt 12) 10 = .ok (.lconst 1, 1) := by decide +kernel
theorem d12_11 : decode (byt 12) 11 = .ok (.putfield 13, 3) := by decide +kernel
theorem d12_14 : decode (byt 12) 14 = .ok (.return_, 1) := by decide +kernel
set_option maxRecDepth 20000 in
theorem S12_0 : (∀ (ls : Lo) (st : List Value) (h : Hp) (Q : Option Value → Hp → Prop)  (i : Nat), Wp 12 0 (some (.ref i) :: ls) (st) h Q ↔ Wp 12 1 (some (.ref i) :: ls) (.ref i :: st) h Q) ∧
  (∀ (ls : Lo) (st : List Value) (h : Hp) (Q : Option Value → Hp → Prop) (i : Nat), Wp 12 1 (ls) (.ref i :: st) h Q ↔ ((wsum st ≤ 8 ∧ i ≠ 0) ∧ Wp 12 4 (ls) (st) h Q)) ∧
  (∀ (ls : Lo) (st : List Value) (h : Hp) (Q : Option Value → Hp → Prop)  (i : Nat), Wp 12 4 (some (.ref i) :: ls) (st) h Q ↔ Wp 12 5 (some (.ref i) :: ls) (.ref i :: st) h Q) ∧
  (∀ (ls : Lo) (st : List Value) (h : Hp) (Q : Option Value → Hp → Prop), Wp 12 5 (ls) (st) h Q ↔ Wp 12 6 (ls) (.long 0 :: st) h Q) ∧
  (∀ (ls : Lo) (st : List Value) (n sl : Nat) (C Z : Nat → Nat) (I : Nat → Nat → Int32) (L : Nat → Nat → Int64) (R : Nat → Nat → Nat) (Q : Option Value → Hp → Prop) (i : Nat) (a : Int64), Wp 12 6 (ls) (.long a :: .ref i :: st) (n, sl, C, Z, I, L, R) Q ↔ (C i = 3 ∧ Wp 12 9 (ls) (st) (n, sl, C, Z, I, u2 L i 0 a, R) Q)) ∧
  (∀ (ls : Lo) (st : List Value) (h : Hp) (Q : Option Value → Hp → Prop)  (i : Nat), Wp 12 9 (some (.ref i) :: ls) (st) h Q ↔ Wp 12 10 (some (.ref i) :: ls) (.ref i :: st) h Q) ∧
  (∀ (ls : Lo) (st : List Value) (h : Hp) (Q : Option Value → Hp → Prop), Wp 12 10 (ls) (st) h Q ↔ Wp 12 11 (ls) (.long 1 :: st) h Q) ∧
  (∀ (ls : Lo) (st : List Value) (n sl : Nat) (C Z : Nat → Nat) (I : Nat → Nat → Int32) (L : Nat → Nat → Int64) (R : Nat → Nat → Nat) (Q : Option Value → Hp → Prop) (i : Nat) (a : Int64), Wp 12 11 (ls) (.long a :: .ref i :: st) (n, sl, C, Z, I, L, R) Q ↔ (C i = 3 ∧ Wp 12 14 (ls) (st) (n, sl, C, Z, I, u2 L i 1 a, R) Q)) ∧
  (∀ (ls : Lo) (h : Hp) (Q : Option Value → Hp → Prop), Wp 12 14 (ls) ([]) h Q ↔ Q none h) := ⟨by intro ls st h Q i; exact e_aload_n d12_0 rfl,
  by intro ls st h Q i; exact e_oi (na := 0) d12_1 rfl (by decide +kernel),
  by intro ls st h Q i; exact e_aload_n d12_4 rfl,
  by intro ls st h Q; exact e_lconst d12_5 rfl,
  by intro ls st n sl C Z I L R Q i a; exact e_putL (g := 2) (s := 0) d12_6 rfl (Or.inl rfl) (inG_ne (by decide)),
  by intro ls st h Q i; exact e_aload_n d12_9 rfl,
  by intro ls st h Q; exact e_lconst d12_10 rfl,
  by intro ls st n sl C Z I L R Q i a; exact e_putL (g := 2) (s := 1) d12_11 rfl (Or.inl rfl) (inG_ne (by decide)),
  by intros; exact e_rV d12_14 rfl⟩
theorem d13_0 : decode (byt 13) 0 = .ok (.lload_n 1, 1) := by decide +kernel
theorem d13_1 : decode (byt 13) 1 = .ok (.lload_n 3, 1) := by decide +kernel
theorem d13_2 : decode (byt 13) 2 = .ok (.invokestatic 16, 3) := by decide +kernel
theorem d13_5 : decode (byt 13) 5 = .ok (.lstore 5, 2) := by decide +kernel
theorem d13_7 : decode (byt 13) 7 = .ok (.lload_n 3, 1) := by decide +kernel
theorem d13_8 : decode (byt 13) 8 = .ok (.lconst 0, 1) := by decide +kernel
theorem d13_9 : decode (byt 13) 9 = .ok (.lcmp, 1) := by decide +kernel
theorem d13_10 : decode (byt 13) 10 = .ok (.ifCond .eq 10, 3) := by decide +kernel
theorem d13_13 : decode (byt 13) 13 = .ok (.lload 5, 2) := by decide +kernel
theorem d13_15 : decode (byt 13) 15 = .ok (.lconst 0, 1) := by decide +kernel
theorem d13_16 : decode (byt 13) 16 = .ok (.lcmp, 1) := by decide +kernel
theorem d13_17 : decode (byt 13) 17 = .ok (.ifCond .ne 14, 3) := by decide +kernel
theorem d13_20 : decode (byt 13) 20 = .ok (.aload_n 0, 1) := by decide +kernel
theorem d13_21 : decode (byt 13) 21 = .ok (.lconst 0, 1) := by decide +kernel
theorem d13_22 : decode (byt 13) 22 = .ok (.putfield 7, 3) := by decide +kernel
theorem d13_25 : decode (byt 13) 25 = .ok (.aload_n 0, 1) := by decide +kernel
theorem d13_26 : decode (byt 13) 26 = .ok (.lconst 1, 1) := by decide +kernel
theorem d13_27 : decode (byt 13) 27 = .ok (.putfield 13, 3) := by decide +kernel
theorem d13_30 : decode (byt 13) 30 = .ok (.return_, 1) := by decide +kernel
theorem d13_31 : decode (byt 13) 31 = .ok (.lload_n 3, 1) := by decide +kernel
theorem d13_32 : decode (byt 13) 32 = .ok (.lconst 0, 1) := by decide +kernel
theorem d13_33 : decode (byt 13) 33 = .ok (.lcmp, 1) := by decide +kernel
theorem d13_34 : decode (byt 13) 34 = .ok (.ifCond .ge 9, 3) := by decide +kernel
theorem d13_37 : decode (byt 13) 37 = .ok (.lload 5, 2) := by decide +kernel
theorem d13_39 : decode (byt 13) 39 = .ok (.lneg, 1) := by decide +kernel
theorem d13_40 : decode (byt 13) 40 = .ok (.goto 5, 3) := by decide +kernel
theorem d13_43 : decode (byt 13) 43 = .ok (.lload 5, 2) := by decide +kernel
theorem d13_45 : decode (byt 13) 45 = .ok (.lstore 7, 2) := by decide +kernel
theorem d13_47 : decode (byt 13) 47 = .ok (.aload_n 0, 1) := by decide +kernel
theorem d13_48 : decode (byt 13) 48 = .ok (.lload_n 1, 1) := by decide +kernel
theorem d13_49 : decode (byt 13) 49 = .ok (.lload 7, 2) := by decide +kernel
theorem d13_51 : decode (byt 13) 51 = .ok (.ldiv, 1) := by decide +kernel
theorem d13_52 : decode (byt 13) 52 = .ok (.putfield 7, 3) := by decide +kernel
theorem d13_55 : decode (byt 13) 55 = .ok (.aload_n 0, 1) := by decide +kernel
theorem d13_56 : decode (byt 13) 56 = .ok (.lload_n 3, 1) := by decide +kernel
theorem d13_57 : decode (byt 13) 57 = .ok (.lload 7, 2) := by decide +kernel
theorem d13_59 : decode (byt 13) 59 = .ok (.ldiv, 1) := by decide +kernel
theorem d13_60 : decode (byt 13) 60 = .ok (.putfield 13, 3) := by decide +kernel
theorem d13_63 : decode (byt 13) 63 = .ok (.return_, 1) := by decide +kernel
set_option maxRecDepth 20000 in
theorem S13_0 : (∀ (ls : Lo) (st : List Value) (h : Hp) (Q : Option Value → Hp → Prop) (l0 : Option Value) (a : Int64), Wp 13 0 (l0 :: some (.long a) :: ls) (st) h Q ↔ Wp 13 1 (l0 :: some (.long a) :: ls) (.long a :: st) h Q) ∧
  (∀ (ls : Lo) (st : List Value) (h : Hp) (Q : Option Value → Hp → Prop) (l0 l1 l2 : Option Value) (a : Int64), Wp 13 1 (l0 :: l1 :: l2 :: some (.long a) :: ls) (st) h Q ↔ Wp 13 2 (l0 :: l1 :: l2 :: some (.long a) :: ls) (.long a :: st) h Q) ∧
  (∀ (ls : Lo) (st : List Value) (h : Hp) (Q : Option Value → Hp → Prop) (x0 : Int64) (x1 : Int64), Wp 13 2 (ls) (.long x1 :: .long x0 :: st) h Q ↔ (wsum st ≤ 8 ∧ Call 15 [some (.long x0), none, some (.long x1), none, none, none, none, none, none, none, none] h 13 5 ls st Q)) ∧
  (∀ (ls : Lo) (st : List Value) (h : Hp) (Q : Option Value → Hp → Prop) (l0 l1 l2 l3 l4 l5 l6 : Option Value) (a : Int64), Wp 13 5 (l0 :: l1 :: l2 :: l3 :: l4 :: l5 :: l6 :: ls) (.long a :: st) h Q ↔ Wp 13 7 (l0 :: l1 :: l2 :: l3 :: clr l4 :: some (.long a) :: none :: ls) (st) h Q) ∧
  (∀ (ls : Lo) (st : List Value) (h : Hp) (Q : Option Value → Hp → Prop) (l0 l1 l2 : Option Value) (a : Int64), Wp 13 7 (l0 :: l1 :: l2 :: some (.long a) :: ls) (st) h Q ↔ Wp 13 8 (l0 :: l1 :: l2 :: some (.long a) :: ls) (.long a :: st) h Q) ∧
  (∀ (ls : Lo) (st : List Value) (h : Hp) (Q : Option Value → Hp → Prop), Wp 13 8 (ls) (st) h Q ↔ Wp 13 9 (ls) (.long 0 :: st) h Q) ∧
  (∀ (ls : Lo) (st : List Value) (h : Hp) (Q : Option Value → Hp → Prop) (a b : Int64), Wp 13 9 (ls) (.long b :: .long a :: st) h Q ↔ Wp 13 10 (ls) (.int (lg_cmp a b) :: st) h Q) ∧
  (∀ (ls : Lo) (st : List Value) (h : Hp) (Q : Option Value → Hp → Prop) (x : Int32), Wp 13 10 (ls) (.int x :: st) h Q ↔ Br 13 20 13 ls st h Q (x = 0)) ∧
  (∀ (ls : Lo) (st : List Value) (h : Hp) (Q : Option Value → Hp → Prop) (l0 l1 l2 l3 l4 : Option Value) (a : Int64), Wp 13 13 (l0 :: l1 :: l2 :: l3 :: l4 :: some (.long a) :: ls) (st) h Q ↔ Wp 13 15 (l0 :: l1 :: l2 :: l3 :: l4 :: some (.long a) :: ls) (.long a :: st) h Q) ∧
  (∀ (ls : Lo) (st : List Value) (h : Hp) (Q : Option Value → Hp → Prop), Wp 13 15 (ls) (st) h Q ↔ Wp 13 16 (ls) (.long 0 :: st) h Q) ∧
  (∀ (ls : Lo) (st : List Value) (h : Hp) (Q : Option Value → Hp → Prop) (a b : Int64), Wp 13 16 (ls) (.long b :: .long a :: st) h Q ↔ Wp 13 17 (ls) (.int (lg_cmp a b) :: st) h Q) ∧
  (∀ (ls : Lo) (st : List Value) (h : Hp) (Q : Option Value → Hp → Prop) (x : Int32), Wp 13 17 (ls) (.int x :: st) h Q ↔ Br 13 31 20 ls st h Q (¬ x = 0)) ∧
  (∀ (ls : Lo) (st : List Value) (h : Hp) (Q : Option Value → Hp → Prop)  (i : Nat), Wp 13 20 (some (.ref i) :: ls) (st) h Q ↔ Wp 13 21 (some (.ref i) :: ls) (.ref i :: st) h Q) ∧
  (∀ (ls : Lo) (st : List Value) (h : Hp) (Q : Option Value → Hp → Prop), Wp 13 21 (ls) (st) h Q ↔ Wp 13 22 (ls) (.long 0 :: st) h Q) ∧
  (∀ (ls : Lo) (st : List Value) (n sl : Nat) (C Z : Nat → Nat) (I : Nat → Nat → Int32) (L : Nat → Nat → Int64) (R : Nat → Nat → Nat) (Q : Option Value → Hp → Prop) (i : Nat) (a : Int64), Wp 13 22 (ls) (.long a :: .ref i :: st) (n, sl, C, Z, I, L, R) Q ↔ (C i = 3 ∧ Wp 13 25 (ls) (st) (n, sl, C, Z, I, u2 L i 0 a, R) Q)) ∧
  (∀ (ls : Lo) (st : List Value) (h : Hp) (Q : Option Value → Hp → Prop)  (i : Nat), Wp 13 25 (some (.ref i) :: ls) (st) h Q ↔ Wp 13 26 (some (.ref i) :: ls) (.ref i :: st) h Q) ∧
  (∀ (ls : Lo) (st : List Value) (h : Hp) (Q : Option Value → Hp → Prop), Wp 13 26 (ls) (st) h Q ↔ Wp 13 27 (ls) (.long 1 :: st) h Q) ∧
  (∀ (ls : Lo) (st : List Value) (n sl : Nat) (C Z : Nat → Nat) (I : Nat → Nat → Int32) (L : Nat → Nat → Int64) (R : Nat → Nat → Nat) (Q : Option Value → Hp → Prop) (i : Nat) (a : Int64), Wp 13 27 (ls) (.long a :: .ref i :: st) (n, sl, C, Z, I, L, R) Q ↔ (C i = 3 ∧ Wp 13 30 (ls) (st) (n, sl, C, Z, I, u2 L i 1 a, R) Q)) ∧
  (∀ (ls : Lo) (h : Hp) (Q : Option Value → Hp → Prop), Wp 13 30 (ls) ([]) h Q ↔ Q none h) ∧
  (∀ (ls : Lo) (st : List Value) (h : Hp) (Q : Option Value → Hp → Prop) (l0 l1 l2 : Option Value) (a : Int64), Wp 13 31 (l0 :: l1 :: l2 :: some (.long a) :: ls) (st) h Q ↔ Wp 13 32 (l0 :: l1 :: l2 :: some (.long a) :: ls) (.long a :: st) h Q) ∧
  (∀ (ls : Lo) (st : List Value) (h : Hp) (Q : Option Value → Hp → Prop), Wp 13 32 (ls) (st) h Q ↔ Wp 13 33 (ls) (.long 0 :: st) h Q) ∧
  (∀ (ls : Lo) (st : List Value) (h : Hp) (Q : Option Value → Hp → Prop) (a b : Int64), Wp 13 33 (ls) (.long b :: .long a :: st) h Q ↔ Wp 13 34 (ls) (.int (lg_cmp a b) :: st) h Q) ∧
  (∀ (ls : Lo) (st : List Value) (h : Hp) (Q : Option Value → Hp → Prop) (x : Int32), Wp 13 34 (ls) (.int x :: st) h Q ↔ Br 13 43 37 ls st h Q (0 ≤ x)) ∧
  (∀ (ls : Lo) (st : List Value) (h : Hp) (Q : Option Value → Hp → Prop) (l0 l1 l2 l3 l4 : Option Value) (a : Int64), Wp 13 37 (l0 :: l1 :: l2 :: l3 :: l4 :: some (.long a) :: ls) (st) h Q ↔ Wp 13 39 (l0 :: l1 :: l2 :: l3 :: l4 :: some (.long a) :: ls) (.long a :: st) h Q) ∧
  (∀ (ls : Lo) (st : List Value) (h : Hp) (Q : Option Value → Hp → Prop) (a : Int64), Wp 13 39 (ls) (.long a :: st) h Q ↔ Wp 13 40 (ls) (.long (-a) :: st) h Q) := ⟨by intro ls st h Q l0 a; exact e_lload_n d13_0 rfl,
  by intro ls st h Q l0 l1 l2 a; exact e_lload_n d13_1 rfl,
  by intro ls st h Q x0 x1; exact e_is (k2 := 15) (as := [.long x0, .long x1]) d13_2 rfl (by decide) rfl rfl (by decide +kernel) (Nat.le_of_ble_eq_true rfl) rfl,
  by intro ls st h Q l0 l1 l2 l3 l4 l5 l6 a; exact e_lstore d13_5 rfl,
  by intro ls st h Q l0 l1 l2 a; exact e_lload_n d13_7 rfl,
  by intro ls st h Q; exact e_lconst d13_8 rfl,
  by intro ls st h Q a b; exact e_lcmp d13_9,
  by intro ls st h Q x; exact e_if d13_10 (by decide) c_eq,
  by intro ls st h Q l0 l1 l2 l3 l4 a; exact e_lload d13_13 rfl,
  by intro ls st h Q; exact e_lconst d13_15 rfl,
  by intro ls st h Q a b; exact e_lcmp d13_16,
  by intro ls st h Q x; exact e_if d13_17 (by decide) c_ne,
  by intro ls st h Q i; exact e_aload_n d13_20 rfl,
  by intro ls st h Q; exact e_lconst d13_21 rfl,
  by intro ls st n sl C Z I L R Q i a; exact e_putL (g := 2) (s := 0) d13_22 rfl (Or.inl rfl) (inG_ne (by decide)),
  by intro ls st h Q i; exact e_aload_n d13_25 rfl,
  by intro ls st h Q; exact e_lconst d13_26 rfl,
  by intro ls st n sl C Z I L R Q i a; exact e_putL (g := 2) (s := 1) d13_27 rfl (Or.inl rfl) (inG_ne (by decide)),
  by intros; exact e_rV d13_30 rfl,
  by intro ls st h Q l0 l1 l2 a; exact e_lload_n d13_31 rfl,
  by intro ls st h Q; exact e_lconst d13_32 rfl,
  by intro ls st h Q a b; exact e_lcmp d13_33,
  by intro ls st h Q x; exact e_if d13_34 (by decide) c_ge,
  by intro ls st h Q l0 l1 l2 l3 l4 a; exact e_lload d13_37 rfl,
  by intro ls st h Q a; exact e_lneg d13_39⟩
set_option maxRecDepth 20000 in
theorem S13_1 : (∀ (ls : Lo) (st : List Value) (h : Hp) (Q : Option Value → Hp → Prop), Wp 13 40 (ls) (st) h Q ↔ Wp 13 45 (ls) (st) h Q) ∧
  (∀ (ls : Lo) (st : List Value) (h : Hp) (Q : Option Value → Hp → Prop) (l0 l1 l2 l3 l4 : Option Value) (a : Int64), Wp 13 43 (l0 :: l1 :: l2 :: l3 :: l4 :: some (.long a) :: ls) (st) h Q ↔ Wp 13 45 (l0 :: l1 :: l2 :: l3 :: l4 :: some (.long a) :: ls) (.long a :: st) h Q) ∧
  (∀ (ls : Lo) (st : List Value) (h : Hp) (Q : Option Value → Hp → Prop) (l0 l1 l2 l3 l4 l5 l6 l7 l8 : Option Value) (a : Int64), Wp 13 45 (l0 :: l1 :: l2 :: l3 :: l4 :: l5 :: l6 :: l7 :: l8 :: ls) (.long a :: st) h Q ↔ Wp 13 47 (l0 :: l1 :: l2 :: l3 :: l4 :: l5 :: clr l6 :: some (.long a) :: none :: ls) (st) h Q) ∧
  (∀ (ls : Lo) (st : List Value) (h : Hp) (Q : Option Value → Hp → Prop)  (i : Nat), Wp 13 47 (some (.ref i) :: ls) (st) h Q ↔ Wp 13 48 (some (.ref i) :: ls) (.ref i :: st) h Q) ∧
  (∀ (ls : Lo) (st : List Value) (h : Hp) (Q : Option Value → Hp → Prop) (l0 : Option Value) (a : Int64), Wp 13 48 (l0 :: some (.long a) :: ls) (st) h Q ↔ Wp 13 49 (l0 :: some (.long a) :: ls) (.long a :: st) h Q) ∧
  (∀ (ls : Lo) (st : List Value) (h : Hp) (Q : Option Value → Hp → Prop) (l0 l1 l2 l3 l4 l5 l6 : Option Value) (a : Int64), Wp 13 49 (l0 :: l1 :: l2 :: l3 :: l4 :: l5 :: l6 :: some (.long a) :: ls) (st) h Q ↔ Wp 13 51 (l0 :: l1 :: l2 :: l3 :: l4 :: l5 :: l6 :: some (.long a) :: ls) (.long a :: st) h Q) ∧
  (∀ (ls : Lo) (st : List Value) (h : Hp) (Q : Option Value → Hp → Prop) (a b : Int64), Wp 13 51 (ls) (.long b :: .long a :: st) h Q ↔ (¬ b = 0 ∧ Wp 13 52 (ls) (.long (a / b) :: st) h Q)) ∧
  (∀ (ls : Lo) (st : List Value) (n sl : Nat) (C Z : Nat → Nat) (I : Nat → Nat → Int32) (L : Nat → Nat → Int64) (R : Nat → Nat → Nat) (Q : Option Value → Hp → Prop) (i : Nat) (a : Int64), Wp 13 52 (ls) (.long a :: .ref i :: st) (n, sl, C, Z, I, L, R) Q ↔ (C i = 3 ∧ Wp 13 55 (ls) (st) (n, sl, C, Z, I, u2 L i 0 a, R) Q)) ∧
  (∀ (ls : Lo) (st : List Value) (h : Hp) (Q : Option Value → Hp → Prop)  (i : Nat), Wp 13 55 (some (.ref i) :: ls) (st) h Q ↔ Wp 13 56 (some (.ref i) :: ls) (.ref i :: st) h Q) ∧
  (∀ (ls : Lo) (st : List Value) (h : Hp) (Q : Option Value → Hp → Prop) (l0 l1 l2 : Option Value) (a : Int64), Wp 13 56 (l0 :: l1 :: l2 :: some (.long a) :: ls) (st) h Q ↔ Wp 13 57 (l0 :: l1 :: l2 :: some (.long a) :: ls) (.long a :: st) h Q) ∧
  (∀ (ls : Lo) (st : List Value) (h : Hp) (Q : Option Value → Hp → Prop) (l0 l1 l2 l3 l4 l5 l6 : Option Value) (a : Int64), Wp 13 57 (l0 :: l1 :: l2 :: l3 :: l4 :: l5 :: l6 :: some (.long a) :: ls) (st) h Q ↔ Wp 13 59 (l0 :: l1 :: l2 :: l3 :: l4 :: l5 :: l6 :: some (.long a) :: ls) (.long a :: st) h Q) ∧
  (∀ (ls : Lo) (st : List Value) (h : Hp) (Q : Option Value → Hp → Prop) (a b : Int64), Wp 13 59 (ls) (.long b :: .long a :: st) h Q ↔ (¬ b = 0 ∧ Wp 13 60 (ls) (.long (a / b) :: st) h Q)) ∧
  (∀ (ls : Lo) (st : List Value) (n sl : Nat) (C Z : Nat → Nat) (I : Nat → Nat → Int32) (L : Nat → Nat → Int64) (R : Nat → Nat → Nat) (Q : Option Value → Hp → Prop) (i : Nat) (a : Int64), Wp 13 60 (ls) (.long a :: .ref i :: st) (n, sl, C, Z, I, L, R) Q ↔ (C i = 3 ∧ Wp 13 63 (ls) (st) (n, sl, C, Z, I, u2 L i 1 a, R) Q)) ∧
  (∀ (ls : Lo) (h : Hp) (Q : Option Value → Hp → Prop), Wp 13 63 (ls) ([]) h Q ↔ Q none h) := ⟨by intro ls st h Q; exact e_goto d13_40 (by decide),
  by intro ls st h Q l0 l1 l2 l3 l4 a; exact e_lload d13_43 rfl,
  by intro ls st h Q l0 l1 l2 l3 l4 l5 l6 l7 l8 a; exact e_lstore d13_45 rfl,
  by intro ls st h Q i; exact e_aload_n d13_47 rfl,
  by intro ls st h Q l0 a; exact e_lload_n d13_48 rfl,
  by intro ls st h Q l0 l1 l2 l3 l4 l5 l6 a; exact e_lload d13_49 rfl,
  by intro ls st h Q a b; exact e_ldiv d13_51,
  by intro ls st n sl C Z I L R Q i a; exact e_putL (g := 2) (s := 0) d13_52 rfl (Or.inl rfl) (inG_ne (by decide)),
  by intro ls st h Q i; exact e_aload_n d13_55 rfl,
  by intro ls st h Q l0 l1 l2 a; exact e_lload_n d13_56 rfl,
  by intro ls st h Q l0 l1 l2 l3 l4 l5 l6 a; exact e_lload d13_57 rfl,
  by intro ls st h Q a b; exact e_ldiv d13_59,
  by intro ls st n sl C Z I L R Q i a; exact e_putL (g := 2) (s := 1) d13_60 rfl (Or.inl rfl) (inG_ne (by decide)),
  by intros; exact e_rV d13_63 rfl⟩
theorem d14_0 : decode (byt 14) 0 = .ok (.iload_n 1, 1) := by decide +kernel
theorem d14_1 : decode (byt 14) 1 = .ok (.ifCond .ne 10, 3) := by decide +kernel
theorem d14_4 : decode (byt 14) 4 = .ok (.aload_n 0, 1) := by decide +kernel
theorem d14_5 : decode (byt 14) 5 = .ok (.getfield 7, 3) := by decide +kernel
theorem d14_8 : decode (byt 14) 8 = .ok (.goto 7, 3) := by decide +kernel
theorem d14_11 : decode (byt 14) 11 = .ok (.aload_n 0, 1) := by decide +kernel
theorem d14_12 : decode (byt 14) 12 = .ok (.getfield 13, 3) := by decide +kernel
theorem d14_15 : decode (byt 14) 15 = .ok (.lreturn, 1) := by decide +kernel
set_option maxRecDepth 20000 in
theorem S14_0 : (∀ (ls : Lo) (st : List Value) (h : Hp) (Q : Option Value → Hp → Prop) (l0 : Option Value) (x : Int32), Wp 14 0 (l0 :: some (.int x) :: ls) (st) h Q ↔ Wp 14 1 (l0 :: some (.int x) :: ls) (.int x :: st) h Q) ∧
  (∀ (ls : Lo) (st : List Value) (h : Hp) (Q : Option Value → Hp → Prop) (x : Int32), Wp 14 1 (ls) (.int x :: st) h Q ↔ Br 14 11 4 ls st h Q (¬ x = 0)) ∧
  (∀ (ls : Lo) (st : List Value) (h : Hp) (Q : Option Value → Hp → Prop)  (i : Nat), Wp 14 4 (some (.ref i) :: ls) (st) h Q ↔ Wp 14 5 (some (.ref i) :: ls) (.ref i :: st) h Q) ∧
  (∀ (ls : Lo) (st : List Value) (n sl : Nat) (C Z : Nat → Nat) (I : Nat → Nat → Int32) (L : Nat → Nat → Int64) (R : Nat → Nat → Nat) (Q : Option Value → Hp → Prop) (i : Nat), Wp 14 5 (ls) (.ref i :: st) (n, sl, C, Z, I, L, R) Q ↔ (C i = 3 ∧ Wp 14 8 (ls) (.long (L i 0) :: st) (n, sl, C, Z, I, L, R) Q)) ∧
  (∀ (ls : Lo) (st : List Value) (h : Hp) (Q : Option Value → Hp → Prop), Wp 14 8 (ls) (st) h Q ↔ Wp 14 15 (ls) (st) h Q) ∧
  (∀ (ls : Lo) (st : List Value) (h : Hp) (Q : Option Value → Hp → Prop)  (i : Nat), Wp 14 11 (some (.ref i) :: ls) (st) h Q ↔ Wp 14 12 (some (.ref i) :: ls) (.ref i :: st) h Q) ∧
  (∀ (ls : Lo) (st : List Value) (n sl : Nat) (C Z : Nat → Nat) (I : Nat → Nat → Int32) (L : Nat → Nat → Int64) (R : Nat → Nat → Nat) (Q : Option Value → Hp → Prop) (i : Nat), Wp 14 12 (ls) (.ref i :: st) (n, sl, C, Z, I, L, R) Q ↔ (C i = 3 ∧ Wp 14 15 (ls) (.long (L i 1) :: st) (n, sl, C, Z, I, L, R) Q)) ∧
  (∀ (ls : Lo) (h : Hp) (Q : Option Value → Hp → Prop) (a : Int64), Wp 14 15 (ls) ([.long a]) h Q ↔ Q (some (.long a)) h) := ⟨by intro ls st h Q l0 x; exact e_iload_n d14_0 rfl,
  by intro ls st h Q x; exact e_if d14_1 (by decide) c_ne,
  by intro ls st h Q i; exact e_aload_n d14_4 rfl,
  by intro ls st n sl C Z I L R Q i; exact e_get (g := 2) (s := 0) (ty := 1) d14_5 rfl rfl (inG_ne (by decide)),
  by intro ls st h Q; exact e_goto d14_8 (by decide),
  by intro ls st h Q i; exact e_aload_n d14_11 rfl,
  by intro ls st n sl C Z I L R Q i; exact e_get (g := 2) (s := 1) (ty := 1) d14_12 rfl rfl (inG_ne (by decide)),
  by intros; exact e_rL d14_15 rfl⟩
theorem d15_0 : decode (byt 15) 0 = .ok (.lload_n 0, 1) := by decide +kernel
theorem d15_1 : decode (byt 15) 1 = .ok (.invokestatic 20, 3) := by decide +kernel
theorem d15_4 : decode (byt 15) 4 = .ok (.lstore 4, 2) := by decide +kernel
theorem d15_6 : decode (byt 15) 6 = .ok (.lload_n 2, 1) := by decide +kernel
theorem d15_7 : decode (byt 15) 7 = .ok (.invokestatic 20, 3) := by decide +kernel
theorem d15_10 : decode (byt 15) 10 = .ok (.lstore 6, 2) := by decide +kernel
theorem d15_12 : decode (byt 15) 12 = .ok (.iconst 0, 1) := by decide +kernel
theorem d15_13 : decode (byt 15) 13 = .ok (.istore 8, 2) := by decide +kernel
theorem d15_15 : decode (byt 15) 15 = .ok (.iload 8, 2) := by decide +kernel
theorem d15_17 : decode (byt 15) 17 = .ok (.bipush 100, 2) := by decide +kernel
theorem d15_19 : decode (byt 15) 19 = .ok (.if_icmp .ge 31, 3) := by decide +kernel
theorem d15_22 : decode (byt 15) 22 = .ok (.lload 6, 2) := by decide +kernel
theorem d15_24 : decode (byt 15) 24 = .ok (.lconst 0, 1) := by decide +kernel
theorem d15_25 : decode (byt 15) 25 = .ok (.lcmp, 1) := by decide +kernel
theorem d15_26 : decode (byt 15) 26 = .ok (.ifCond .eq 24, 3) := by decide +kernel
theorem d15_29 : decode (byt 15) 29 = .ok (.lload 4, 2) := by decide +kernel
theorem d15_31 : decode (byt 15) 31 = .ok (.lload 6, 2) := by decide +kernel
theorem d15_33 : decode (byt 15) 33 = .ok (.lrem, 1) := by decide +kernel
theorem d15_34 : decode (byt 15) 34 = .ok (.lstore 9, 2) := by decide +kernel
theorem d15_36 : decode (byt 15) 36 = .ok (.lload 6, 2) := by decide +kernel
theorem d15_38 : decode (byt 15) 38 = .ok (.lstore 4, 2) := by decide +kernel
theorem d15_40 : decode (byt 15) 40 = .ok (.lload 9, 2) := by decide +kernel
theorem d15_42 : decode (byt 15) 42 = .ok (.lstore 6, 2) := by decide +kernel
theorem d15_44 : decode (byt 15) 44 = .ok (.iinc 8 1, 3) := by decide +kernel
theorem d15_47 : decode (byt 15) 47 = .ok (.goto (-32), 3) := by decide +kernel
theorem d15_50 : decode (byt 15) 50 = .ok (.lload 4, 2) := by decide +kernel
theorem d15_52 : decode (byt 15) 52 = .ok (.lreturn, 1) := by decide +kernel
set_option maxRecDepth 20000 in
theorem S15_0 : (∀ (ls : Lo) (st : List Value) (h : Hp) (Q : Option Value → Hp → Prop)  (a : Int64), Wp 15 0 (some (.long a) :: ls) (st) h Q ↔ Wp 15 1 (some (.long a) :: ls) (.long a :: st) h Q) ∧
  (∀ (ls : Lo) (st : List Value) (h : Hp) (Q : Option Value → Hp → Prop) (a : Int64), Wp 15 1 (ls) (.long a :: st) h Q ↔ (wsum st ≤ 8 ∧ Wp 15 4 (ls) (.long (if 0 < a then a else -a) :: st) h Q)) ∧
  (∀ (ls : Lo) (st : List Value) (h : Hp) (Q : Option Value → Hp → Prop) (l0 l1 l2 l3 l4 l5 : Option Value) (a : Int64), Wp 15 4 (l0 :: l1 :: l2 :: l3 :: l4 :: l5 :: ls) (.long a :: st) h Q ↔ Wp 15 6 (l0 :: l1 :: l2 :: clr l3 :: some (.long a) :: none :: ls) (st) h Q) ∧
  (∀ (ls : Lo) (st : List Value) (h : Hp) (Q : Option Value → Hp → Prop) (l0 l1 : Option Value) (a : Int64), Wp 15 6 (l0 :: l1 :: some (.long a) :: ls) (st) h Q ↔ Wp 15 7 (l0 :: l1 :: some (.long a) :: ls) (.long a :: st) h Q) ∧
  (∀ (ls : Lo) (st : List Value) (h : Hp) (Q : Option Value → Hp → Prop) (a : Int64), Wp 15 7 (ls) (.long a :: st) h Q ↔ (wsum st ≤ 8 ∧ Wp 15 10 (ls) (.long (if 0 < a then a else -a) :: st) h Q)) ∧
  (∀ (ls : Lo) (st : List Value) (h : Hp) (Q : Option Value → Hp → Prop) (l0 l1 l2 l3 l4 l5 l6 l7 : Option Value) (a : Int64), Wp 15 10 (l0 :: l1 :: l2 :: l3 :: l4 :: l5 :: l6 :: l7 :: ls) (.long a :: st) h Q ↔ Wp 15 12 (l0 :: l1 :: l2 :: l3 :: l4 :: clr l5 :: some (.long a) :: none :: ls) (st) h Q) ∧
  (∀ (ls : Lo) (st : List Value) (h : Hp) (Q : Option Value → Hp → Prop), Wp 15 12 (ls) (st) h Q ↔ Wp 15 13 (ls) (.int (0) :: st) h Q) ∧
  (∀ (ls : Lo) (st : List Value) (h : Hp) (Q : Option Value → Hp → Prop) (l0 l1 l2 l3 l4 l5 l6 l7 l8 : Option Value) (x : Int32), Wp 15 13 (l0 :: l1 :: l2 :: l3 :: l4 :: l5 :: l6 :: l7 :: l8 :: ls) (.int x :: st) h Q ↔ Wp 15 15 (l0 :: l1 :: l2 :: l3 :: l4 :: l5 :: l6 :: clr l7 :: some (.int x) :: ls) (st) h Q) ∧
  (∀ (ls : Lo) (st : List Value) (h : Hp) (Q : Option Value → Hp → Prop) (l0 l1 l2 l3 l4 l5 l6 l7 : Option Value) (x : Int32), Wp 15 15 (l0 :: l1 :: l2 :: l3 :: l4 :: l5 :: l6 :: l7 :: some (.int x) :: ls) (st) h Q ↔ Wp 15 17 (l0 :: l1 :: l2 :: l3 :: l4 :: l5 :: l6 :: l7 :: some (.int x) :: ls) (.int x :: st) h Q) ∧
  (∀ (ls : Lo) (st : List Value) (h : Hp) (Q : Option Value → Hp → Prop), Wp 15 17 (ls) (st) h Q ↔ Wp 15 19 (ls) (.int (100) :: st) h Q) ∧
  (∀ (ls : Lo) (st : List Value) (h : Hp) (Q : Option Value → Hp → Prop) (x y : Int32), Wp 15 19 (ls) (.int y :: .int x :: st) h Q ↔ Br 15 50 22 ls st h Q (y ≤ x)) ∧
  (∀ (ls : Lo) (st : List Value) (h : Hp) (Q : Option Value → Hp → Prop) (l0 l1 l2 l3 l4 l5 : Option Value) (a : Int64), Wp 15 22 (l0 :: l1 :: l2 :: l3 :: l4 :: l5 :: some (.long a) :: ls) (st) h Q ↔ Wp 15 24 (l0 :: l1 :: l2 :: l3 :: l4 :: l5 :: some (.long a) :: ls) (.long a :: st) h Q) ∧
  (∀ (ls : Lo) (st : List Value) (h : Hp) (Q : Option Value → Hp → Prop), Wp 15 24 (ls) (st) h Q ↔ Wp 15 25 (ls) (.long 0 :: st) h Q) ∧
  (∀ (ls : Lo) (st : List Value) (h : Hp) (Q : Option Value → Hp → Prop) (a b : Int64), Wp 15 25 (ls) (.long b :: .long a :: st) h Q ↔ Wp 15 26 (ls) (.int (lg_cmp a b) :: st) h Q) ∧
  (∀ (ls : Lo) (st : List Value) (h : Hp) (Q : Option Value → Hp → Prop) (x : Int32), Wp 15 26 (ls) (.int x :: st) h Q ↔ Br 15 50 29 ls st h Q (x = 0)) ∧
  (∀ (ls : Lo) (st : List Value) (h : Hp) (Q : Option Value → Hp → Prop) (l0 l1 l2 l3 : Option Value) (a : Int64), Wp 15 29 (l0 :: l1 :: l2 :: l3 :: some (.long a) :: ls) (st) h Q ↔ Wp 15 31 (l0 :: l1 :: l2 :: l3 :: some (.long a) :: ls) (.long a :: st) h Q) ∧
  (∀ (ls : Lo) (st : List Value) (h : Hp) (Q : Option Value → Hp → Prop) (l0 l1 l2 l3 l4 l5 : Option Value) (a : Int64), Wp 15 31 (l0 :: l1 :: l2 :: l3 :: l4 :: l5 :: some (.long a) :: ls) (st) h Q ↔ Wp 15 33 (l0 :: l1 :: l2 :: l3 :: l4 :: l5 :: some (.long a) :: ls) (.long a :: st) h Q) ∧
  (∀ (ls : Lo) (st : List Value) (h : Hp) (Q : Option Value → Hp → Prop) (a b : Int64), Wp 15 33 (ls) (.long b :: .long a :: st) h Q ↔ (¬ b = 0 ∧ Wp 15 34 (ls) (.long (a - a / b * b) :: st) h Q)) ∧
  (∀ (ls : Lo) (st : List Value) (h : Hp) (Q : Option Value → Hp → Prop) (l0 l1 l2 l3 l4 l5 l6 l7 l8 l9 l10 : Option Value) (a : Int64), Wp 15 34 (l0 :: l1 :: l2 :: l3 :: l4 :: l5 :: l6 :: l7 :: l8 :: l9 :: l10 :: ls) (.long a :: st) h Q ↔ Wp 15 36 (l0 :: l1 :: l2 :: l3 :: l4 :: l5 :: l6 :: l7 :: clr l8 :: some (.long a) :: none :: ls) (st) h Q) ∧
  (∀ (ls : Lo) (st : List Value) (h : Hp) (Q : Option Value → Hp → Prop) (l0 l1 l2 l3 l4 l5 : Option Value) (a : Int64), Wp 15 36 (l0 :: l1 :: l2 :: l3 :: l4 :: l5 :: some (.long a) :: ls) (st) h Q ↔ Wp 15 38 (l0 :: l1 :: l2 :: l3 :: l4 :: l5 :: some (.long a) :: ls) (.long a :: st) h Q) ∧
  (∀ (ls : Lo) (st : List Value) (h : Hp) (Q : Option Value → Hp → Prop) (l0 l1 l2 l3 l4 l5 : Option Value) (a : Int64), Wp 15 38 (l0 :: l1 :: l2 :: l3 :: l4 :: l5 :: ls) (.long a :: st) h Q ↔ Wp 15 40 (l0 :: l1 :: l2 :: clr l3 :: some (.long a) :: none :: ls) (st) h Q) ∧
  (∀ (ls : Lo) (st : List Value) (h : Hp) (Q : Option Value → Hp → Prop) (l0 l1 l2 l3 l4 l5 l6 l7 l8 : Option Value) (a : Int64), Wp 15 40 (l0 :: l1 :: l2 :: l3 :: l4 :: l5 :: l6 :: l7 :: l8 :: some (.long a) :: ls) (st) h Q ↔ Wp 15 42 (l0 :: l1 :: l2 :: l3 :: l4 :: l5 :: l6 :: l7 :: l8 :: some (.long a) :: ls) (.long a :: st) h Q) ∧
  (∀ (ls : Lo) (st : List Value) (h : Hp) (Q : Option Value → Hp → Prop) (l0 l1 l2 l3 l4 l5 l6 l7 : Option Value) (a : Int64), Wp 15 42 (l0 :: l1 :: l2 :: l3 :: l4 :: l5 :: l6 :: l7 :: ls) (.long a :: st) h Q ↔ Wp 15 44 (l0 :: l1 :: l2 :: l3 :: l4 :: clr l5 :: some (.long a) :: none :: ls) (st) h Q) ∧
  (∀ (ls : Lo) (st : List Value) (h : Hp) (Q : Option Value → Hp → Prop) (l0 l1 l2 l3 l4 l5 l6 l7 : Option Value) (x : Int32), Wp 15 44 (l0 :: l1 :: l2 :: l3 :: l4 :: l5 :: l6 :: l7 :: some (.int x) :: ls) (st) h Q ↔ Wp 15 47 (l0 :: l1 :: l2 :: l3 :: l4 :: l5 :: l6 :: clr l7 :: some (.int (x + (1))) :: ls) (st) h Q) ∧
  (∀ (ls : Lo) (st : List Value) (h : Hp) (Q : Option Value → Hp → Prop), Wp 15 47 (ls) (st) h Q ↔ Wp 15 15 (ls) (st) h Q) := ⟨by intro ls st h Q a; exact e_lload_n d15_0 rfl,
  by intro ls st h Q a; exact e_abs d15_1 rfl (by decide +kernel),
  by intro ls st h Q l0 l1 l2 l3 l4 l5 a; exact e_lstore d15_4 rfl,
  by intro ls st h Q l0 l1 a; exact e_lload_n d15_6 rfl,
  by intro ls st h Q a; exact e_abs d15_7 rfl (by decide +kernel),
  by intro ls st h Q l0 l1 l2 l3 l4 l5 l6 l7 a; exact e_lstore d15_10 rfl,
  by intro ls st h Q; exact e_iconst d15_12 rfl,
  by intro ls st h Q l0 l1 l2 l3 l4 l5 l6 l7 l8 x; exact e_istore d15_13 rfl,
  by intro ls st h Q l0 l1 l2 l3 l4 l5 l6 l7 x; exact e_iload d15_15 rfl,
  by intro ls st h Q; exact e_bipush d15_17 rfl,
  by intro ls st h Q x y; exact e_ic d15_19 (by decide) c_ge,
  by intro ls st h Q l0 l1 l2 l3 l4 l5 a; exact e_lload d15_22 rfl,
  by intro ls st h Q; exact e_lconst d15_24 rfl,
  by intro ls st h Q a b; exact e_lcmp d15_25,
  by intro ls st h Q x; exact e_if d15_26 (by decide) c_eq,
  by intro ls st h Q l0 l1 l2 l3 a; exact e_lload d15_29 rfl,
  by intro ls st h Q l0 l1 l2 l3 l4 l5 a; exact e_lload d15_31 rfl,
  by intro ls st h Q a b; exact e_lrem d15_33,
  by intro ls st h Q l0 l1 l2 l3 l4 l5 l6 l7 l8 l9 l10 a; exact e_lstore d15_34 rfl,
  by intro ls st h Q l0 l1 l2 l3 l4 l5 a; exact e_lload d15_36 rfl,
  by intro ls st h Q l0 l1 l2 l3 l4 l5 a; exact e_lstore d15_38 rfl,
  by intro ls st h Q l0 l1 l2 l3 l4 l5 l6 l7 l8 a; exact e_lload d15_40 rfl,
  by intro ls st h Q l0 l1 l2 l3 l4 l5 l6 l7 a; exact e_lstore d15_42 rfl,
  by intro ls st h Q l0 l1 l2 l3 l4 l5 l6 l7 x; exact e_iinc d15_44 rfl rfl rfl,
  by intro ls st h Q; exact e_goto d15_47 (by decide)⟩
set_option maxRecDepth 20000 in
theorem S15_1 : (∀ (ls : Lo) (st : List Value) (h : Hp) (Q : Option Value → Hp → Prop) (l0 l1 l2 l3 : Option Value) (a : Int64), Wp 15 50 (l0 :: l1 :: l2 :: l3 :: some (.long a) :: ls) (st) h Q ↔ Wp 15 52 (l0 :: l1 :: l2 :: l3 :: some (.long a) :: ls) (.long a :: st) h Q) ∧
  (∀ (ls : Lo) (h : Hp) (Q : Option Value → Hp → Prop) (a : Int64), Wp 15 52 (ls) ([.long a]) h Q ↔ Q (some (.long a)) h) := ⟨by intro ls st h Q l0 l1 l2 l3 a; exact e_lload d15_50 rfl,
  by intros; exact e_rL d15_52 rfl⟩
theorem d16_0 : decode (byt 16) 0 = .ok (.aload_n 0, 1) := by decide +kernel
theorem d16_1 : decode (byt 16) 1 = .ok (.invokespecial 3, 3) := by decide +kernel
theorem d16_4 : decode (byt 16) 4 = .ok (.aload_n 0, 1) := by decide +kernel
theorem d16_5 : decode (byt 16) 5 = .ok (.new 9, 3) := by decide +kernel
theorem d16_8 : decode (byt 16) 8 = .ok (.dup, 1) := by decide +kernel
theorem d16_9 : decode (byt 16) 9 = .ok (.iconst 0, 1) := by decide +kernel
theorem d16_10 : decode (byt 16) 10 = .ok (.iconst 0, 1) := by decide +kernel
theorem d16_11 : decode (byt 16) 11 = .ok (.iconst 1, 1) := by decide +kernel
theorem d16_12 : decode (byt 16) 12 = .ok (.invokespecial 11, 3) := by decide +kernel
theorem d16_15 : decode (byt 16) 15 = .ok (.putfield 14, 3) := by decide +kernel
theorem d16_18 : decode (byt 16) 18 = .ok (.aload_n 0, 1) := by decide +kernel
theorem d16_19 : decode (byt 16) 19 = .ok (.bipush 8, 2) := by decide +kernel
theorem d16_21 : decode (byt 16) 21 = .ok (.iconst 3, 1) := by decide +kernel
theorem d16_22 : decode (byt 16) 22 = .ok (.multianewarray 20 2, 4) := by decide +kernel
theorem d16_26 : decode (byt 16) 26 = .ok (.putfield 22, 3) := by decide +kernel
theorem d16_29 : decode (byt 16) 29 = .ok (.aload_n 0, 1) := by decide +kernel
theorem d16_30 : decode (byt 16) 30 = .ok (.iconst 3, 1) := by decide +kernel
theorem d16_31 : decode (byt 16) 31 = .ok (.iconst 3, 1) := by decide +kernel
theorem d16_32 : decode (byt 16) 32 = .ok (.multianewarray 20 2, 4) := by decide +kernel
theorem d16_36 : decode (byt 16) 36 = .ok (.putfield 25, 3) := by decide +kernel
theorem d16_39 : decode (byt 16) 39 = .ok (.aload_n 0, 1) := by decide +kernel
theorem d16_40 : decode (byt 16) 40 = .ok (.iconst 4, 1) := by decide +kernel
theorem d16_41 : decode (byt 16) 41 = .ok (.newarray .long, 2) := by decide +kernel
theorem d16_43 : decode (byt 16) 43 = .ok (.putfield 28, 3) := by decide +kernel
theorem d16_46 : decode (byt 16) 46 = .ok (.aload_n 0, 1) := by decide +kernel
theorem d16_47 : decode (byt 16) 47 = .ok (.iconst 4, 1) := by decide +kernel
theorem d16_48 : decode (byt 16) 48 = .ok (.iconst 3, 1) := by decide +kernel
theorem d16_49 : decode (byt 16) 49 = .ok (.multianewarray 20 2, 4) := by decide +kernel
theorem d16_53 : decode (byt 16) 53 = .ok (.putfield 32, 3) := by decide +kernel
theorem d16_56 : decode (byt 16) 56 = .ok (.aload_n 0, 1) := by decide +kernel
theorem d16_57 : decode (byt 16) 57 = .ok (.iconst 4, 1) := by decide +kernel
theorem d16_58 : decode (byt 16) 58 = .ok (.newarray .long, 2) := by decide +kernel
theorem d16_60 : decode (byt 16) 60 = .ok (.putfield 35, 3) := by decide +kernel
theorem d16_63 : decode (byt 16) 63 = .ok (.aload_n 0, 1) := by decide +kernel
theorem d16_64 : decode (byt 16) 64 = .ok (.iconst 4, 1) := by decide +kernel
theorem d16_65 : decode (byt 16) 65 = .ok (.newarray .long, 2) := by decide +kernel
theorem d16_67 : decode (byt 16) 67 = .ok (.putfield 38, 3) := by decide +kernel
theorem d16_70 : decode (byt 16) 70 = .ok (.aload_n 0, 1) := by decide +kernel
theorem d16_71 : decode (byt 16) 71 = .ok (.iconst 3, 1) := by decide +kernel
theorem d16_72 : decode (byt 16) 72 = .ok (.newarray .long, 2) := by decide +kernel
theorem d16_74 : decode (byt 16) 74 = .ok (.putfield 41, 3) := by decide +kernel
theorem d16_77 : decode (byt 16) 77 = .ok (.aload_n 0, 1) := by decide +kernel
theorem d16_78 : decode (byt 16) 78 = .ok (.iconst 3, 1) := by decide +kernel
theorem d16_79 : decode (byt 16) 79 = .ok (.newarray .long, 2) := by decide +kernel
theorem d16_81 : decode (byt 16) 81 = .ok (.putfield 44, 3) := by decide +kernel
theorem d16_84 : decode (byt 16) 84 = .ok (.return_, 1) := by decide +kernel
set_option maxRecDepth 20000 in
theorem S16_0 : (∀ (ls : Lo) (st : List Value) (h : Hp) (Q : Option Value → Hp → Prop)  (i : Nat), Wp 16 0 (some (.ref i) :: ls) (st) h Q ↔ Wp 16 1 (some (.ref i) :: ls) (.ref i :: st) h Q) ∧
  (∀ (ls : Lo) (st : List Value) (h : Hp) (Q : Option Value → Hp → Prop) (i : Nat), Wp 16 1 (ls) (.ref i :: st) h Q ↔ ((wsum st ≤ 8 ∧ i ≠ 0) ∧ Wp 16 4 (ls) (st) h Q)) ∧
  (∀ (ls : Lo) (st : List Value) (h : Hp) (Q : Option Value → Hp → Prop)  (i : Nat), Wp 16 4 (some (.ref i) :: ls) (st) h Q ↔ Wp 16 5 (some (.ref i) :: ls) (.ref i :: st) h Q) ∧
  (∀ (ls : Lo) (st : List Value) (n sl : Nat) (C Z : Nat → Nat) (I : Nat → Nat → Int32) (L : Nat → Nat → Int64) (R : Nat → Nat → Nat) (Q : Option Value → Hp → Prop), Wp 16 5 (ls) (st) (n, sl, C, Z, I, L, R) Q ↔ Wp 16 8 (ls) (.ref (n + 1) :: st) (n + 1, sl + 7, va_up C (n + 1) 8, Z, va_up I (n + 1) (fun _ => 0), va_up L (n + 1) (fun _ => 0), va_up R (n + 1) (fun _ => 0)) Q) ∧
  (∀ (ls : Lo) (st : List Value) (h : Hp) (Q : Option Value → Hp → Prop) (x : Int32), Wp 16 8 (ls) (.int x :: st) h Q ↔ Wp 16 9 (ls) (.int x :: .int x :: st) h Q) ∧
  (∀ (ls : Lo) (st : List Value) (h : Hp) (Q : Option Value → Hp → Prop) (i : Nat), Wp 16 8 (ls) (.ref i :: st) h Q ↔ Wp 16 9 (ls) (.ref i :: .ref i :: st) h Q) ∧
  (∀ (ls : Lo) (st : List Value) (h : Hp) (Q : Option Value → Hp → Prop), Wp 16 9 (ls) (st) h Q ↔ Wp 16 10 (ls) (.int (0) :: st) h Q) ∧
  (∀ (ls : Lo) (st : List Value) (h : Hp) (Q : Option Value → Hp → Prop), Wp 16 10 (ls) (st) h Q ↔ Wp 16 11 (ls) (.int (0) :: st) h Q) ∧
  (∀ (ls : Lo) (st : List Value) (h : Hp) (Q : Option Value → Hp → Prop), Wp 16 11 (ls) (st) h Q ↔ Wp 16 12 (ls) (.int (1) :: st) h Q) ∧
  (∀ (ls : Lo) (st : List Value) (h : Hp) (Q : Option Value → Hp → Prop) (x0 : Int32) (x1 : Int32) (x2 : Int32) (i : Nat), i ≠ 0 → (Wp 16 12 (ls) (.int x2 :: .int x1 :: .int x0 :: .ref i :: st) h Q ↔ (wsum st ≤ 8 ∧ Call 51 [some (.ref i), some (.int x0), some (.int x1), some (.int x2)] h 16 15 ls st Q))) ∧
  (∀ (ls : Lo) (st : List Value) (n sl : Nat) (C Z : Nat → Nat) (I : Nat → Nat → Int32) (L : Nat → Nat → Int64) (R : Nat → Nat → Nat) (Q : Option Value → Hp → Prop) (i j : Nat), Wp 16 15 (ls) (.ref j :: .ref i :: st) (n, sl, C, Z, I, L, R) Q ↔ (C i = 4 ∧ Wp 16 18 (ls) (st) (n, sl, C, Z, I, L, u2 R i 0 j) Q)) ∧
  (∀ (ls : Lo) (st : List Value) (h : Hp) (Q : Option Value → Hp → Prop)  (i : Nat), Wp 16 18 (some (.ref i) :: ls) (st) h Q ↔ Wp 16 19 (some (.ref i) :: ls) (.ref i :: st) h Q) ∧
  (∀ (ls : Lo) (st : List Value) (h : Hp) (Q : Option Value → Hp → Prop), Wp 16 19 (ls) (st) h Q ↔ Wp 16 21 (ls) (.int (8) :: st) h Q) ∧
  (∀ (ls : Lo) (st : List Value) (h : Hp) (Q : Option Value → Hp → Prop), Wp 16 21 (ls) (st) h Q ↔ Wp 16 22 (ls) (.int (3) :: st) h Q) ∧
  (∀ (ls : Lo) (st : List Value) (h : Hp) (Q : Option Value → Hp → Prop) (x y : Int32), Wp 16 22 (ls) (.int y :: .int x :: st) h Q ↔ ((¬ x < 0 ∧ ix x ≤ 1000 ∧ ¬ y < 0 ∧ ix y ≤ 1000) ∧ Wp 16 26 (ls) (.ref (h.1 + 1) :: st) (nwG h (ix x) (ix y)) Q)) ∧
  (∀ (ls : Lo) (st : List Value) (n sl : Nat) (C Z : Nat → Nat) (I : Nat → Nat → Int32) (L : Nat → Nat → Int64) (R : Nat → Nat → Nat) (Q : Option Value → Hp → Prop) (i j : Nat), Wp 16 26 (ls) (.ref j :: .ref i :: st) (n, sl, C, Z, I, L, R) Q ↔ (C i = 4 ∧ Wp 16 29 (ls) (st) (n, sl, C, Z, I, L, u2 R i 1 j) Q)) ∧
  (∀ (ls : Lo) (st : List Value) (h : Hp) (Q : Option Value → Hp → Prop)  (i : Nat), Wp 16 29 (some (.ref i) :: ls) (st) h Q ↔ Wp 16 30 (some (.ref i) :: ls) (.ref i :: st) h Q) ∧
  (∀ (ls : Lo) (st : List Value) (h : Hp) (Q : Option Value → Hp → Prop), Wp 16 30 (ls) (st) h Q ↔ Wp 16 31 (ls) (.int (3) :: st) h Q) ∧
  (∀ (ls : Lo) (st : List Value) (h : Hp) (Q : Option Value → Hp → Prop), Wp 16 31 (ls) (st) h Q ↔ Wp 16 32 (ls) (.int (3) :: st) h Q) ∧
  (∀ (ls : Lo) (st : List Value) (h : Hp) (Q : Option Value → Hp → Prop) (x y : Int32), Wp 16 32 (ls) (.int y :: .int x :: st) h Q ↔ ((¬ x < 0 ∧ ix x ≤ 1000 ∧ ¬ y < 0 ∧ ix y ≤ 1000) ∧ Wp 16 36 (ls) (.ref (h.1 + 1) :: st) (nwG h (ix x) (ix y)) Q)) ∧
  (∀ (ls : Lo) (st : List Value) (n sl : Nat) (C Z : Nat → Nat) (I : Nat → Nat → Int32) (L : Nat → Nat → Int64) (R : Nat → Nat → Nat) (Q : Option Value → Hp → Prop) (i j : Nat), Wp 16 36 (ls) (.ref j :: .ref i :: st) (n, sl, C, Z, I, L, R) Q ↔ (C i = 4 ∧ Wp 16 39 (ls) (st) (n, sl, C, Z, I, L, u2 R i 2 j) Q)) ∧
  (∀ (ls : Lo) (st : List Value) (h : Hp) (Q : Option Value → Hp → Prop)  (i : Nat), Wp 16 39 (some (.ref i) :: ls) (st) h Q ↔ Wp 16 40 (some (.ref i) :: ls) (.ref i :: st) h Q) ∧
  (∀ (ls : Lo) (st : List Value) (h : Hp) (Q : Option Value → Hp → Prop), Wp 16 40 (ls) (st) h Q ↔ Wp 16 41 (ls) (.int (4) :: st) h Q) ∧
  (∀ (ls : Lo) (st : List Value) (n sl : Nat) (C Z : Nat → Nat) (I : Nat → Nat → Int32) (L : Nat → Nat → Int64) (R : Nat → Nat → Nat) (Q : Option Value → Hp → Prop) (x : Int32), Wp 16 41 (ls) (.int x :: st) (n, sl, C, Z, I, L, R) Q ↔ ((¬ x < 0 ∧ ix x ≤ 1000) ∧ Wp 16 43 (ls) (.ref (n + 1) :: st) (n + 1, sl + ix x, va_up C (n + 1) 22, va_up Z (n + 1) (ix x), va_up I (n + 1) (fun _ => 0), va_up L (n + 1) (fun _ => 0), va_up R (n + 1) (fun _ => 0)) Q)) ∧
  (∀ (ls : Lo) (st : List Value) (n sl : Nat) (C Z : Nat → Nat) (I : Nat → Nat → Int32) (L : Nat → Nat → Int64) (R : Nat → Nat → Nat) (Q : Option Value → Hp → Prop) (i j : Nat), Wp 16 43 (ls) (.ref j :: .ref i :: st) (n, sl, C, Z, I, L, R) Q ↔ (C i = 4 ∧ Wp 16 46 (ls) (st) (n, sl, C, Z, I, L, u2 R i 3 j) Q)) := ⟨by intro ls st h Q i; exact e_aload_n d16_0 rfl,
  by intro ls st h Q i; exact e_oi (na := 0) d16_1 rfl (by decide +kernel),
  by intro ls st h Q i; exact e_aload_n d16_4 rfl,
  by intro ls st n sl C Z I L R Q; exact e_new (p := 111) (c := 7) d16_5 rfl (by decide) rfl,
  by intro ls st h Q x; exact e_dupI d16_8,
  by intro ls st h Q i; exact e_dupR d16_8,
  by intro ls st h Q; exact e_iconst d16_9 rfl,
  by intro ls st h Q; exact e_iconst d16_10 rfl,
  by intro ls st h Q; exact e_iconst d16_11 rfl,
  by intro ls st h Q x0 x1 x2 i hh; exact e_ip (k2 := 51) (as := [.int x0, .int x1, .int x2]) d16_12 rfl (by decide) rfl rfl (by decide +kernel) (Nat.le_of_ble_eq_true rfl) rfl hh,
  by intro ls st n sl C Z I L R Q i j; exact e_putR (g := 3) (s := 0) d16_15 rfl (Or.inl rfl) (inG_ne (by decide)),
  by intro ls st h Q i; exact e_aload_n d16_18 rfl,
  by intro ls st h Q; exact e_bipush d16_19 rfl,
  by intro ls st h Q; exact e_iconst d16_21 rfl,
  by intro ls st h Q x y; exact e_mna (p := 176) d16_22 rfl,
  by intro ls st n sl C Z I L R Q i j; exact e_putR (g := 3) (s := 1) d16_26 rfl (Or.inr ⟨by decide +kernel, rfl, rfl⟩) (inG_ne (by decide)),
  by intro ls st h Q i; exact e_aload_n d16_29 rfl,
  by intro ls st h Q; exact e_iconst d16_30 rfl,
  by intro ls st h Q; exact e_iconst d16_31 rfl,
  by intro ls st h Q x y; exact e_mna (p := 176) d16_32 rfl,
  by intro ls st n sl C Z I L R Q i j; exact e_putR (g := 3) (s := 2) d16_36 rfl (Or.inr ⟨by decide +kernel, rfl, rfl⟩) (inG_ne (by decide)),
  by intro ls st h Q i; exact e_aload_n d16_39 rfl,
  by intro ls st h Q; exact e_iconst d16_40 rfl,
  by intro ls st n sl C Z I L R Q x; exact e_newL d16_41,
  by intro ls st n sl C Z I L R Q i j; exact e_putR (g := 3) (s := 3) d16_43 rfl (Or.inr ⟨by decide +kernel, rfl, rfl⟩) (inG_ne (by decide))⟩
set_option maxRecDepth 20000 in
theorem S16_1 : (∀ (ls : Lo) (st : List Value) (h : Hp) (Q : Option Value → Hp → Prop)  (i : Nat), Wp 16 46 (some (.ref i) :: ls) (st) h Q ↔ Wp 16 47 (some (.ref i) :: ls) (.ref i :: st) h Q) ∧
  (∀ (ls : Lo) (st : List Value) (h : Hp) (Q : Option Value → Hp → Prop), Wp 16 47 (ls) (st) h Q ↔ Wp 16 48 (ls) (.int (4) :: st) h Q) ∧
  (∀ (ls : Lo) (st : List Value) (h : Hp) (Q : Option Value → Hp → Prop), Wp 16 48 (ls) (st) h Q ↔ Wp 16 49 (ls) (.int (3) :: st) h Q) ∧
  (∀ (ls : Lo) (st : List Value) (h : Hp) (Q : Option Value → Hp → Prop) (x y : Int32), Wp 16 49 (ls) (.int y :: .int x :: st) h Q ↔ ((¬ x < 0 ∧ ix x ≤ 1000 ∧ ¬ y < 0 ∧ ix y ≤ 1000) ∧ Wp 16 53 (ls) (.ref (h.1 + 1) :: st) (nwG h (ix x) (ix y)) Q)) ∧
  (∀ (ls : Lo) (st : List Value) (n sl : Nat) (C Z : Nat → Nat) (I : Nat → Nat → Int32) (L : Nat → Nat → Int64) (R : Nat → Nat → Nat) (Q : Option Value → Hp → Prop) (i j : Nat), Wp 16 53 (ls) (.ref j :: .ref i :: st) (n, sl, C, Z, I, L, R) Q ↔ (C i = 4 ∧ Wp 16 56 (ls) (st) (n, sl, C, Z, I, L, u2 R i 4 j) Q)) ∧
  (∀ (ls : Lo) (st : List Value) (h : Hp) (Q : Option Value → Hp → Prop)  (i : Nat), Wp 16 56 (some (.ref i) :: ls) (st) h Q ↔ Wp 16 57 (some (.ref i) :: ls) (.ref i :: st) h Q) ∧
  (∀ (ls : Lo) (st : List Value) (h : Hp) (Q : Option Value → Hp → Prop), Wp 16 57 (ls) (st) h Q ↔ Wp 16 58 (ls) (.int (4) :: st) h Q) ∧
  (∀ (ls : Lo) (st : List Value) (n sl : Nat) (C Z : Nat → Nat) (I : Nat → Nat → Int32) (L : Nat → Nat → Int64) (R : Nat → Nat → Nat) (Q : Option Value → Hp → Prop) (x : Int32), Wp 16 58 (ls) (.int x :: st) (n, sl, C, Z, I, L, R) Q ↔ ((¬ x < 0 ∧ ix x ≤ 1000) ∧ Wp 16 60 (ls) (.ref (n + 1) :: st) (n + 1, sl + ix x, va_up C (n + 1) 22, va_up Z (n + 1) (ix x), va_up I (n + 1) (fun _ => 0), va_up L (n + 1) (fun _ => 0), va_up R (n + 1) (fun _ => 0)) Q)) ∧
  (∀ (ls : Lo) (st : List Value) (n sl : Nat) (C Z : Nat → Nat) (I : Nat → Nat → Int32) (L : Nat → Nat → Int64) (R : Nat → Nat → Nat) (Q : Option Value → Hp → Prop) (i j : Nat), Wp 16 60 (ls) (.ref j :: .ref i :: st) (n, sl, C, Z, I, L, R) Q ↔ (C i = 4 ∧ Wp 16 63 (ls) (st) (n, sl, C, Z, I, L, u2 R i 5 j) Q)) ∧
  (∀ (ls : Lo) (st : List Value) (h : Hp) (Q : Option Value → Hp → Prop)  (i : Nat), Wp 16 63 (some (.ref i) :: ls) (st) h Q ↔ Wp 16 64 (some (.ref i) :: ls) (.ref i :: st) h Q) ∧
  (∀ (ls : Lo) (st : List Value) (h : Hp) (Q : Option Value → Hp → Prop), Wp 16 64 (ls) (st) h Q ↔ Wp 16 65 (ls) (.int (4) :: st) h Q) ∧
  (∀ (ls : Lo) (st : List Value) (n sl : Nat) (C Z : Nat → Nat) (I : Nat → Nat → Int32) (L : Nat → Nat → Int64) (R : Nat → Nat → Nat) (Q : Option Value → Hp → Prop) (x : Int32), Wp 16 65 (ls) (.int x :: st) (n, sl, C, Z, I, L, R) Q ↔ ((¬ x < 0 ∧ ix x ≤ 1000) ∧ Wp 16 67 (ls) (.ref (n + 1) :: st) (n + 1, sl + ix x, va_up C (n + 1) 22, va_up Z (n + 1) (ix x), va_up I (n + 1) (fun _ => 0), va_up L (n + 1) (fun _ => 0), va_up R (n + 1) (fun _ => 0)) Q)) ∧
  (∀ (ls : Lo) (st : List Value) (n sl : Nat) (C Z : Nat → Nat) (I : Nat → Nat → Int32) (L : Nat → Nat → Int64) (R : Nat → Nat → Nat) (Q : Option Value → Hp → Prop) (i j : Nat), Wp 16 67 (ls) (.ref j :: .ref i :: st) (n, sl, C, Z, I, L, R) Q ↔ (C i = 4 ∧ Wp 16 70 (ls) (st) (n, sl, C, Z, I, L, u2 R i 6 j) Q)) ∧
  (∀ (ls : Lo) (st : List Value) (h : Hp) (Q : Option Value → Hp → Prop)  (i : Nat), Wp 16 70 (some (.ref i) :: ls) (st) h Q ↔ Wp 16 71 (some (.ref i) :: ls) (.ref i :: st) h Q) ∧
  (∀ (ls : Lo) (st : List Value) (h : Hp) (Q : Option Value → Hp → Prop), Wp 16 71 (ls) (st) h Q ↔ Wp 16 72 (ls) (.int (3) :: st) h Q) ∧
  (∀ (ls : Lo) (st : List Value) (n sl : Nat) (C Z : Nat → Nat) (I : Nat → Nat → Int32) (L : Nat → Nat → Int64) (R : Nat → Nat → Nat) (Q : Option Value → Hp → Prop) (x : Int32), Wp 16 72 (ls) (.int x :: st) (n, sl, C, Z, I, L, R) Q ↔ ((¬ x < 0 ∧ ix x ≤ 1000) ∧ Wp 16 74 (ls) (.ref (n + 1) :: st) (n + 1, sl + ix x, va_up C (n + 1) 22, va_up Z (n + 1) (ix x), va_up I (n + 1) (fun _ => 0), va_up L (n + 1) (fun _ => 0), va_up R (n + 1) (fun _ => 0)) Q)) ∧
  (∀ (ls : Lo) (st : List Value) (n sl : Nat) (C Z : Nat → Nat) (I : Nat → Nat → Int32) (L : Nat → Nat → Int64) (R : Nat → Nat → Nat) (Q : Option Value → Hp → Prop) (i j : Nat), Wp 16 74 (ls) (.ref j :: .ref i :: st) (n, sl, C, Z, I, L, R) Q ↔ (C i = 4 ∧ Wp 16 77 (ls) (st) (n, sl, C, Z, I, L, u2 R i 7 j) Q)) ∧
  (∀ (ls : Lo) (st : List Value) (h : Hp) (Q : Option Value → Hp → Prop)  (i : Nat), Wp 16 77 (some (.ref i) :: ls) (st) h Q ↔ Wp 16 78 (some (.ref i) :: ls) (.ref i :: st) h Q) ∧
  (∀ (ls : Lo) (st : List Value) (h : Hp) (Q : Option Value → Hp → Prop), Wp 16 78 (ls) (st) h Q ↔ Wp 16 79 (ls) (.int (3) :: st) h Q) ∧
  (∀ (ls : Lo) (st : List Value) (n sl : Nat) (C Z : Nat → Nat) (I : Nat → Nat → Int32) (L : Nat → Nat → Int64) (R : Nat → Nat → Nat) (Q : Option Value → Hp → Prop) (x : Int32), Wp 16 79 (ls) (.int x :: st) (n, sl, C, Z, I, L, R) Q ↔ ((¬ x < 0 ∧ ix x ≤ 1000) ∧ Wp 16 81 (ls) (.ref (n + 1) :: st) (n + 1, sl + ix x, va_up C (n + 1) 22, va_up Z (n + 1) (ix x), va_up I (n + 1) (fun _ => 0), va_up L (n + 1) (fun _ => 0), va_up R (n + 1) (fun _ => 0)) Q)) ∧
  (∀ (ls : Lo) (st : List Value) (n sl : Nat) (C Z : Nat → Nat) (I : Nat → Nat → Int32) (L : Nat → Nat → Int64) (R : Nat → Nat → Nat) (Q : Option Value → Hp → Prop) (i j : Nat), Wp 16 81 (ls) (.ref j :: .ref i :: st) (n, sl, C, Z, I, L, R) Q ↔ (C i = 4 ∧ Wp 16 84 (ls) (st) (n, sl, C, Z, I, L, u2 R i 8 j) Q)) ∧
  (∀ (ls : Lo) (h : Hp) (Q : Option Value → Hp → Prop), Wp 16 84 (ls) ([]) h Q ↔ Q none h) := ⟨by intro ls st h Q i; exact e_aload_n d16_46 rfl,
  by intro ls st h Q; exact e_iconst d16_47 rfl,
  by intro ls st h Q; exact e_iconst d16_48 rfl,
  by intro ls st h Q x y; exact e_mna (p := 176) d16_49 rfl,
  by intro ls st n sl C Z I L R Q i j; exact e_putR (g := 3) (s := 4) d16_53 rfl (Or.inr ⟨by decide +kernel, rfl, rfl⟩) (inG_ne (by decide)),
  by intro ls st h Q i; exact e_aload_n d16_56 rfl,
  by intro ls st h Q; exact e_iconst d16_57 rfl,
  by intro ls st n sl C Z I L R Q x; exact e_newL d16_58,
  by intro ls st n sl C Z I L R Q i j; exact e_putR (g := 3) (s := 5) d16_60 rfl (Or.inr ⟨by decide +kernel, rfl, rfl⟩) (inG_ne (by decide)),
  by intro ls st h Q i; exact e_aload_n d16_63 rfl,
  by intro ls st h Q; exact e_iconst d16_64 rfl,
  by intro ls st n sl C Z I L R Q x; exact e_newL d16_65,
  by intro ls st n sl C Z I L R Q i j; exact e_putR (g := 3) (s := 6) d16_67 rfl (Or.inr ⟨by decide +kernel, rfl, rfl⟩) (inG_ne (by decide)),
  by intro ls st h Q i; exact e_aload_n d16_70 rfl,
  by intro ls st h Q; exact e_iconst d16_71 rfl,
  by intro ls st n sl C Z I L R Q x; exact e_newL d16_72,
  by intro ls st n sl C Z I L R Q i j; exact e_putR (g := 3) (s := 7) d16_74 rfl (Or.inr ⟨by decide +kernel, rfl, rfl⟩) (inG_ne (by decide)),
  by intro ls st h Q i; exact e_aload_n d16_77 rfl,
  by intro ls st h Q; exact e_iconst d16_78 rfl,
  by intro ls st n sl C Z I L R Q x; exact e_newL d16_79,
  by intro ls st n sl C Z I L R Q i j; exact e_putR (g := 3) (s := 8) d16_81 rfl (Or.inr ⟨by decide +kernel, rfl, rfl⟩) (inG_ne (by decide)),
  by intros; exact e_rV d16_84 rfl⟩
theorem d17_0 : decode (byt 17) 0 = .ok (.aload_n 0, 1) := by decide +kernel
theorem d17_1 : decode (byt 17) 1 = .ok (.aload_n 1, 1) := by decide +kernel
theorem d17_2 : decode (byt 17) 2 = .ok (.putfield 14, 3) := by decide +kernel
theorem d17_5 : decode (byt 17) 5 = .ok (.iconst 0, 1) := by decide +kernel
theorem d17_6 : decode (byt 17) 6 = .ok (.istore_n 2, 1) := by decide +kernel
theorem d17_7 : decode (byt 17) 7 = .ok (.iload_n 2, 1) := by decide +kernel
theorem d17_8 : decode (byt 17) 8 = .ok (.iconst 3, 1) := by decide +kernel
theorem d17_9 : decode (byt 17) 9 = .ok (.if_icmp .ge 39, 3) := by decide +kernel
theorem d17_12 : decode (byt 17) 12 = .ok (.aload_n 0, 1) := by decide +kernel
theorem d17_13 : decode (byt 17) 13 = .ok (.getfield 22, 3) := by decide +kernel
theorem d17_16 : decode (byt 17) 16 = .ok (.iconst 0, 1) := by decide +kernel
theorem d17_17 : decode (byt 17) 17 = .ok (.aaload, 1) := by decide +kernel
theorem d17_18 : decode (byt 17) 18 = .ok (.iload_n 2, 1) := by decide +kernel
theorem d17_19 : decode (byt 17) 19 = .ok (.aload_n 1, 1) := by decide +kernel
theorem d17_20 : decode (byt 17) 20 = .ok (.getfield 47, 3) := by decide +kernel
theorem d17_23 : decode (byt 17) 23 = .ok (.iload_n 2, 1) := by decide +kernel
theorem d17_24 : decode (byt 17) 24 = .ok (.iaload, 1) := by decide +kernel
theorem d17_25 : decode (byt 17) 25 = .ok (.i2l, 1) := by decide +kernel
theorem d17_26 : decode (byt 17) 26 = .ok (.lastore, 1) := by decide +kernel
theorem d17_27 : decode (byt 17) 27 = .ok (.aload_n 0, 1) := by decide +kernel
theorem d17_28 : decode (byt 17) 28 = .ok (.getfield 25, 3) := by decide +kernel
theorem d17_31 : decode (byt 17) 31 = .ok (.iconst 0, 1) := by decide +kernel
theorem d17_32 : decode (byt 17) 32 = .ok (.aaload, 1) := by decide +kernel
theorem d17_33 : decode (byt 17) 33 = .ok (.iload_n 2, 1) := by decide +kernel
theorem d17_34 : decode (byt 17) 34 = .ok (.aload_n 1, 1) := by decide +kernel
theorem d17_35 : decode (byt 17) 35 = .ok (.getfield 51, 3) := by decide +kernel
theorem d17_38 : decode (byt 17) 38 = .ok (.iload_n 2, 1) := by decide +kernel
theorem d17_39 : decode (byt 17) 39 = .ok (.iaload, 1) := by decide +kernel
theorem d17_40 : decode (byt 17) 40 = .ok (.i2l, 1) := by decide +kernel
theorem d17_41 : decode (byt 17) 41 = .ok (.lastore, 1) := by decide +kernel
theorem d17_42 : decode (byt 17) 42 = .ok (.iinc 2 1, 3) := by decide +kernel
theorem d17_45 : decode (byt 17) 45 = .ok (.goto (-38), 3) := by decide +kernel
theorem d17_48 : decode (byt 17) 48 = .ok (.iconst 1, 1) := by decide +kernel
theorem d17_49 : decode (byt 17) 49 = .ok (.istore_n 2, 1) := by decide +kernel
theorem d17_50 : decode (byt 17) 50 = .ok (.iload_n 2, 1) := by decide +kernel
theorem d17_51 : decode (byt 17) 51 = .ok (.aload_n 0, 1) := by decide +kernel
theorem d17_52 : decode (byt 17) 52 = .ok (.getfield 22, 3) := by decide +kernel
theorem d17_55 : decode (byt 17) 55 = .ok (.arraylength, 1) := by decide +kernel
theorem d17_56 : decode (byt 17) 56 = .ok (.if_icmp .ge 27, 3) := by decide +kernel
theorem d17_59 : decode (byt 17) 59 = .ok (.aload_n 0, 1) := by decide +kernel
theorem d17_60 : decode (byt 17) 60 = .ok (.aload_n 0, 1) := by decide +kernel
theorem d17_61 : decode (byt 17) 61 = .ok (.getfield 22, 3) := by decide +kernel
theorem d17_64 : decode (byt 17) 64 = .ok (.iload_n 2, 1) := by decide +kernel
theorem d17_65 : decode (byt 17) 65 = .ok (.aaload, 1) := by decide +kernel
theorem d17_66 : decode (byt 17) 66 = .ok (.aload_n 0, 1) := by decide +kernel
theorem d17_67 : decode (byt 17) 67 = .ok (.getfield 22, 3) := by decide +kernel
theorem d17_70 : decode (byt 17) 70 = .ok (.iload_n 2, 1) := by decide +kernel
theorem d17_71 : decode (byt 17) 71 = .ok (.iconst 1, 1) := by decide +kernel
theorem d17_72 : decode (byt 17) 72 = .ok (.isub, 1) := by decide +kernel
theorem d17_73 : decode (byt 17) 73 = .ok (.aaload, 1) := by decide +kernel
theorem d17_74 : decode (byt 17) 74 = .ok (.invokevirtual 54, 3) := by decide +kernel
theorem d17_77 : decode (byt 17) 77 = .ok (.iinc 2 1, 3) := by decide +kernel
theorem d17_80 : decode (byt 17) 80 = .ok (.goto (-30), 3) := by decide +kernel
theorem d17_83 : decode (byt 17) 83 = .ok (.iconst 1, 1) := by decide +kernel
theorem d17_84 : decode (byt 17) 84 = .ok (.istore_n 2, 1) := by decide +kernel
theorem d17_85 : decode (byt 17) 85 = .ok (.iload_n 2, 1) := by decide +kernel
theorem d17_86 : decode (byt 17) 86 = .ok (.aload_n 0, 1) := by decide +kernel
theorem d17_87 : decode (byt 17) 87 = .ok (.getfield 25, 3) := by decide +kernel
theorem d17_90 : decode (byt 17) 90 = .ok (.arraylength, 1) := by decide +kernel
theorem d17_91 : decode (byt 17) 91 = .ok (.if_icmp .ge 27, 3) := by decide +kernel
theorem d17_94 : decode (byt 17) 94 = .ok (.aload_n 0, 1) := by decide +kernel
theorem d17_95 : decode (byt 17) 95 = .ok (.aload_n 0, 1) := by decide +kernel
theorem d17_96 : decode (byt 17) 96 = .ok (.getfield 25, 3) := by decide +kernel
theorem d17_99 : decode (byt 17) 99 = .ok (.iload_n 2, 1) := by decide +kernel
theorem d17_100 : decode (byt 17) 100 = .ok (.aaload, 1) := by decide +kernel
theorem d17_101 : decode (byt 17) 101 = .ok (.aload_n 0, 1) := by decide +kernel
theorem d17_102 : decode (byt 17) 102 = .ok (.getfield 25, 3) := by decide +kernel
theorem d17_105 : decode (byt 17) 105 = .ok (.iload_n 2, 1) := by decide +kernel
theorem d17_106 : decode (byt 17) 106 = .ok (.iconst 1, 1) := by decide +kernel
theorem d17_107 : decode (byt 17) 107 = .ok (.isub, 1) := by decide +kernel
theorem d17_108 : decode (byt 17) 108 = .ok (.aaload, 1) := by decide +kernel
theorem d17_109 : decode (byt 17) 109 = .ok (.invokevirtual 58, 3) := by decide +kernel
theorem d17_112 : decode (byt 17) 112 = .ok (.iinc 2 1, 3) := by decide +kernel
theorem d17_115 : decode (byt 17) 115 = .ok (.goto (-30), 3) := by decide +kernel
theorem d17_118 : decode (byt 17) 118 = .ok (.aload_n 0, 1) := by decide +kernel
theorem d17_119 : decode (byt 17) 119 = .ok (.invokevirtual 61, 3) := by decide +kernel
theorem d17_122 : decode (byt 17) 122 = .ok (.return_, 1) := by decide +kernel
set_option maxRecDepth 20000 in
theorem S17_0 : (∀ (ls : Lo) (st : List Value) (h : Hp) (Q : Option Value → Hp → Prop)  (i : Nat), Wp 17 0 (some (.ref i) :: ls) (st) h Q ↔ Wp 17 1 (some (.ref i) :: ls) (.ref i :: st) h Q) ∧
  (∀ (ls : Lo) (st : List Value) (h : Hp) (Q : Option Value → Hp → Prop) (l0 : Option Value) (i : Nat), Wp 17 1 (l0 :: some (.ref i) :: ls) (st) h Q ↔ Wp 17 2 (l0 :: some (.ref i) :: ls) (.ref i :: st) h Q) ∧
  (∀ (ls : Lo) (st : List Value) (n sl : Nat) (C Z : Nat → Nat) (I : Nat → Nat → Int32) (L : Nat → Nat → Int64) (R : Nat → Nat → Nat) (Q : Option Value → Hp → Prop) (i j : Nat), Wp 17 2 (ls) (.ref j :: .ref i :: st) (n, sl, C, Z, I, L, R) Q ↔ (C i = 4 ∧ Wp 17 5 (ls) (st) (n, sl, C, Z, I, L, u2 R i 0 j) Q)) ∧
  (∀ (ls : Lo) (st : List Value) (h : Hp) (Q : Option Value → Hp → Prop), Wp 17 5 (ls) (st) h Q ↔ Wp 17 6 (ls) (.int (0) :: st) h Q) ∧
  (∀ (ls : Lo) (st : List Value) (h : Hp) (Q : Option Value → Hp → Prop) (l0 l1 l2 : Option Value) (x : Int32), Wp 17 6 (l0 :: l1 :: l2 :: ls) (.int x :: st) h Q ↔ Wp 17 7 (l0 :: clr l1 :: some (.int x) :: ls) (st) h Q) ∧
  (∀ (ls : Lo) (st : List Value) (h : Hp) (Q : Option Value → Hp → Prop) (l0 l1 : Option Value) (x : Int32), Wp 17 7 (l0 :: l1 :: some (.int x) :: ls) (st) h Q ↔ Wp 17 8 (l0 :: l1 :: some (.int x) :: ls) (.int x :: st) h Q) ∧
  (∀ (ls : Lo) (st : List Value) (h : Hp) (Q : Option Value → Hp → Prop), Wp 17 8 (ls) (st) h Q ↔ Wp 17 9 (ls) (.int (3) :: st) h Q) ∧
  (∀ (ls : Lo) (st : List Value) (h : Hp) (Q : Option Value → Hp → Prop) (x y : Int32), Wp 17 9 (ls) (.int y :: .int x :: st) h Q ↔ Br 17 48 12 ls st h Q (y ≤ x)) ∧
  (∀ (ls : Lo) (st : List Value) (h : Hp) (Q : Option Value → Hp → Prop)  (i : Nat), Wp 17 12 (some (.ref i) :: ls) (st) h Q ↔ Wp 17 13 (some (.ref i) :: ls) (.ref i :: st) h Q) ∧
  (∀ (ls : Lo) (st : List Value) (n sl : Nat) (C Z : Nat → Nat) (I : Nat → Nat → Int32) (L : Nat → Nat → Int64) (R : Nat → Nat → Nat) (Q : Option Value → Hp → Prop) (i : Nat), Wp 17 13 (ls) (.ref i :: st) (n, sl, C, Z, I, L, R) Q ↔ (C i = 4 ∧ Wp 17 16 (ls) (.ref (R i 1) :: st) (n, sl, C, Z, I, L, R) Q)) ∧
  (∀ (ls : Lo) (st : List Value) (h : Hp) (Q : Option Value → Hp → Prop), Wp 17 16 (ls) (st) h Q ↔ Wp 17 17 (ls) (.int (0) :: st) h Q) ∧
  (∀ (ls : Lo) (st : List Value) (n sl : Nat) (C Z : Nat → Nat) (I : Nat → Nat → Int32) (L : Nat → Nat → Int64) (R : Nat → Nat → Nat) (Q : Option Value → Hp → Prop) (i : Nat) (y : Int32), Wp 17 17 (ls) (.int y :: .ref i :: st) (n, sl, C, Z, I, L, R) Q ↔ ((inb y (Z i) = true ∧ (C i = 23 ∨ C i = 24 ∨ C i = 25)) ∧ Wp 17 18 (ls) (.ref (R i (ix y)) :: st) (n, sl, C, Z, I, L, R) Q)) ∧
  (∀ (ls : Lo) (st : List Value) (h : Hp) (Q : Option Value → Hp → Prop) (l0 l1 : Option Value) (x : Int32), Wp 17 18 (l0 :: l1 :: some (.int x) :: ls) (st) h Q ↔ Wp 17 19 (l0 :: l1 :: some (.int x) :: ls) (.int x :: st) h Q) ∧
  (∀ (ls : Lo) (st : List Value) (h : Hp) (Q : Option Value → Hp → Prop) (l0 : Option Value) (i : Nat), Wp 17 19 (l0 :: some (.ref i) :: ls) (st) h Q ↔ Wp 17 20 (l0 :: some (.ref i) :: ls) (.ref i :: st) h Q) ∧
  (∀ (ls : Lo) (st : List Value) (n sl : Nat) (C Z : Nat → Nat) (I : Nat → Nat → Int32) (L : Nat → Nat → Int64) (R : Nat → Nat → Nat) (Q : Option Value → Hp → Prop) (i : Nat), Wp 17 20 (ls) (.ref i :: st) (n, sl, C, Z, I, L, R) Q ↔ (inG 7 (C i) = true ∧ Wp 17 23 (ls) (.ref (R i 4) :: st) (n, sl, C, Z, I, L, R) Q)) ∧
  (∀ (ls : Lo) (st : List Value) (h : Hp) (Q : Option Value → Hp → Prop) (l0 l1 : Option Value) (x : Int32), Wp 17 23 (l0 :: l1 :: some (.int x) :: ls) (st) h Q ↔ Wp 17 24 (l0 :: l1 :: some (.int x) :: ls) (.int x :: st) h Q) ∧
  (∀ (ls : Lo) (st : List Value) (n sl : Nat) (C Z : Nat → Nat) (I : Nat → Nat → Int32) (L : Nat → Nat → Int64) (R : Nat → Nat → Nat) (Q : Option Value → Hp → Prop) (i : Nat) (y : Int32), Wp 17 24 (ls) (.int y :: .ref i :: st) (n, sl, C, Z, I, L, R) Q ↔ ((inb y (Z i) = true ∧ C i = 21) ∧ Wp 17 25 (ls) (.int (I i (ix y)) :: st) (n, sl, C, Z, I, L, R) Q)) ∧
  (∀ (ls : Lo) (st : List Value) (h : Hp) (Q : Option Value → Hp → Prop) (x : Int32), Wp 17 25 (ls) (.int x :: st) h Q ↔ Wp 17 26 (ls) (.long x.toInt64 :: st) h Q) ∧
  (∀ (ls : Lo) (st : List Value) (n sl : Nat) (C Z : Nat → Nat) (I : Nat → Nat → Int32) (L : Nat → Nat → Int64) (R : Nat → Nat → Nat) (Q : Option Value → Hp → Prop) (i : Nat) (y : Int32) (a : Int64), Wp 17 26 (ls) (.long a :: .int y :: .ref i :: st) (n, sl, C, Z, I, L, R) Q ↔ ((inb y (Z i) = true ∧ C i = 22) ∧ Wp 17 27 (ls) (st) (n, sl, C, Z, I, u2 L i (ix y) a, R) Q)) ∧
  (∀ (ls : Lo) (st : List Value) (h : Hp) (Q : Option Value → Hp → Prop)  (i : Nat), Wp 17 27 (some (.ref i) :: ls) (st) h Q ↔ Wp 17 28 (some (.ref i) :: ls) (.ref i :: st) h Q) ∧
  (∀ (ls : Lo) (st : List Value) (n sl : Nat) (C Z : Nat → Nat) (I : Nat → Nat → Int32) (L : Nat → Nat → Int64) (R : Nat → Nat → Nat) (Q : Option Value → Hp → Prop) (i : Nat), Wp 17 28 (ls) (.ref i :: st) (n, sl, C, Z, I, L, R) Q ↔ (C i = 4 ∧ Wp 17 31 (ls) (.ref (R i 2) :: st) (n, sl, C, Z, I, L, R) Q)) ∧
  (∀ (ls : Lo) (st : List Value) (h : Hp) (Q : Option Value → Hp → Prop), Wp 17 31 (ls) (st) h Q ↔ Wp 17 32 (ls) (.int (0) :: st) h Q) ∧
  (∀ (ls : Lo) (st : List Value) (n sl : Nat) (C Z : Nat → Nat) (I : Nat → Nat → Int32) (L : Nat → Nat → Int64) (R : Nat → Nat → Nat) (Q : Option Value → Hp → Prop) (i : Nat) (y : Int32), Wp 17 32 (ls) (.int y :: .ref i :: st) (n, sl, C, Z, I, L, R) Q ↔ ((inb y (Z i) = true ∧ (C i = 23 ∨ C i = 24 ∨ C i = 25)) ∧ Wp 17 33 (ls) (.ref (R i (ix y)) :: st) (n, sl, C, Z, I, L, R) Q)) ∧
  (∀ (ls : Lo) (st : List Value) (h : Hp) (Q : Option Value → Hp → Prop) (l0 l1 : Option Value) (x : Int32), Wp 17 33 (l0 :: l1 :: some (.int x) :: ls) (st) h Q ↔ Wp 17 34 (l0 :: l1 :: some (.int x) :: ls) (.int x :: st) h Q) ∧
  (∀ (ls : Lo) (st : List Value) (h : Hp) (Q : Option Value → Hp → Prop) (l0 : Option Value) (i : Nat), Wp 17 34 (l0 :: some (.ref i) :: ls) (st) h Q ↔ Wp 17 35 (l0 :: some (.ref i) :: ls) (.ref i :: st) h Q) := ⟨by intro ls st h Q i; exact e_aload_n d17_0 rfl,
  by intro ls st h Q l0 i; exact e_aload_n d17_1 rfl,
  by intro ls st n sl C Z I L R Q i j; exact e_putR (g := 3) (s := 0) d17_2 rfl (Or.inl rfl) (inG_ne (by decide)),
  by intro ls st h Q; exact e_iconst d17_5 rfl,
  by intro ls st h Q l0 l1 l2 x; exact e_istore_n d17_6 rfl,
  by intro ls st h Q l0 l1 x; exact e_iload_n d17_7 rfl,
  by intro ls st h Q; exact e_iconst d17_8 rfl,
  by intro ls st h Q x y; exact e_ic d17_9 (by decide) c_ge,
  by intro ls st h Q i; exact e_aload_n d17_12 rfl,
  by intro ls st n sl C Z I L R Q i; exact e_get (g := 3) (s := 1) (ty := 2) d17_13 rfl rfl (inG_ne (by decide)),
  by intro ls st h Q; exact e_iconst d17_16 rfl,
  by intro ls st n sl C Z I L R Q i y; exact e_aald d17_17,
  by intro ls st h Q l0 l1 x; exact e_iload_n d17_18 rfl,
  by intro ls st h Q l0 i; exact e_aload_n d17_19 rfl,
  by intro ls st n sl C Z I L R Q i; exact e_get (g := 7) (s := 4) (ty := 2) d17_20 rfl rfl rfl,
  by intro ls st h Q l0 l1 x; exact e_iload_n d17_23 rfl,
  by intro ls st n sl C Z I L R Q i y; exact e_iald d17_24,
  by intro ls st h Q x; exact e_i2l d17_25,
  by intro ls st n sl C Z I L R Q i y a; exact e_last d17_26,
  by intro ls st h Q i; exact e_aload_n d17_27 rfl,
  by intro ls st n sl C Z I L R Q i; exact e_get (g := 3) (s := 2) (ty := 2) d17_28 rfl rfl (inG_ne (by decide)),
  by intro ls st h Q; exact e_iconst d17_31 rfl,
  by intro ls st n sl C Z I L R Q i y; exact e_aald d17_32,
  by intro ls st h Q l0 l1 x; exact e_iload_n d17_33 rfl,
  by intro ls st h Q l0 i; exact e_aload_n d17_34 rfl⟩
set_option maxRecDepth 20000 in
theorem S17_1 : (∀ (ls : Lo) (st : List Value) (n sl : Nat) (C Z : Nat → Nat) (I : Nat → Nat → Int32) (L : Nat → Nat → Int64) (R : Nat → Nat → Nat) (Q : Option Value → Hp → Prop) (i : Nat), Wp 17 35 (ls) (.ref i :: st) (n, sl, C, Z, I, L, R) Q ↔ (inG 7 (C i) = true ∧ Wp 17 38 (ls) (.ref (R i 5) :: st) (n, sl, C, Z, I, L, R) Q)) ∧
  (∀ (ls : Lo) (st : List Value) (h : Hp) (Q : Option Value → Hp → Prop) (l0 l1 : Option Value) (x : Int32), Wp 17 38 (l0 :: l1 :: some (.int x) :: ls) (st) h Q ↔ Wp 17 39 (l0 :: l1 :: some (.int x) :: ls) (.int x :: st) h Q) ∧
  (∀ (ls : Lo) (st : List Value) (n sl : Nat) (C Z : Nat → Nat) (I : Nat → Nat → Int32) (L : Nat → Nat → Int64) (R : Nat → Nat → Nat) (Q : Option Value → Hp → Prop) (i : Nat) (y : Int32), Wp 17 39 (ls) (.int y :: .ref i :: st) (n, sl, C, Z, I, L, R) Q ↔ ((inb y (Z i) = true ∧ C i = 21) ∧ Wp 17 40 (ls) (.int (I i (ix y)) :: st) (n, sl, C, Z, I, L, R) Q)) ∧
  (∀ (ls : Lo) (st : List Value) (h : Hp) (Q : Option Value → Hp → Prop) (x : Int32), Wp 17 40 (ls) (.int x :: st) h Q ↔ Wp 17 41 (ls) (.long x.toInt64 :: st) h Q) ∧
  (∀ (ls : Lo) (st : List Value) (n sl : Nat) (C Z : Nat → Nat) (I : Nat → Nat → Int32) (L : Nat → Nat → Int64) (R : Nat → Nat → Nat) (Q : Option Value → Hp → Prop) (i : Nat) (y : Int32) (a : Int64), Wp 17 41 (ls) (.long a :: .int y :: .ref i :: st) (n, sl, C, Z, I, L, R) Q ↔ ((inb y (Z i) = true ∧ C i = 22) ∧ Wp 17 42 (ls) (st) (n, sl, C, Z, I, u2 L i (ix y) a, R) Q)) ∧
  (∀ (ls : Lo) (st : List Value) (h : Hp) (Q : Option Value → Hp → Prop) (l0 l1 : Option Value) (x : Int32), Wp 17 42 (l0 :: l1 :: some (.int x) :: ls) (st) h Q ↔ Wp 17 45 (l0 :: clr l1 :: some (.int (x + (1))) :: ls) (st) h Q) ∧
  (∀ (ls : Lo) (st : List Value) (h : Hp) (Q : Option Value → Hp → Prop), Wp 17 45 (ls) (st) h Q ↔ Wp 17 7 (ls) (st) h Q) ∧
  (∀ (ls : Lo) (st : List Value) (h : Hp) (Q : Option Value → Hp → Prop), Wp 17 48 (ls) (st) h Q ↔ Wp 17 49 (ls) (.int (1) :: st) h Q) ∧
  (∀ (ls : Lo) (st : List Value) (h : Hp) (Q : Option Value → Hp → Prop) (l0 l1 l2 : Option Value) (x : Int32), Wp 17 49 (l0 :: l1 :: l2 :: ls) (.int x :: st) h Q ↔ Wp 17 50 (l0 :: clr l1 :: some (.int x) :: ls) (st) h Q) ∧
  (∀ (ls : Lo) (st : List Value) (h : Hp) (Q : Option Value → Hp → Prop) (l0 l1 : Option Value) (x : Int32), Wp 17 50 (l0 :: l1 :: some (.int x) :: ls) (st) h Q ↔ Wp 17 51 (l0 :: l1 :: some (.int x) :: ls) (.int x :: st) h Q) ∧
  (∀ (ls : Lo) (st : List Value) (h : Hp) (Q : Option Value → Hp → Prop)  (i : Nat), Wp 17 51 (some (.ref i) :: ls) (st) h Q ↔ Wp 17 52 (some (.ref i) :: ls) (.ref i :: st) h Q) ∧
  (∀ (ls : Lo) (st : List Value) (n sl : Nat) (C Z : Nat → Nat) (I : Nat → Nat → Int32) (L : Nat → Nat → Int64) (R : Nat → Nat → Nat) (Q : Option Value → Hp → Prop) (i : Nat), Wp 17 52 (ls) (.ref i :: st) (n, sl, C, Z, I, L, R) Q ↔ (C i = 4 ∧ Wp 17 55 (ls) (.ref (R i 1) :: st) (n, sl, C, Z, I, L, R) Q)) ∧
  (∀ (ls : Lo) (st : List Value) (n sl : Nat) (C Z : Nat → Nat) (I : Nat → Nat → Int32) (L : Nat → Nat → Int64) (R : Nat → Nat → Nat) (Q : Option Value → Hp → Prop) (i : Nat), Wp 17 55 (ls) (.ref i :: st) (n, sl, C, Z, I, L, R) Q ↔ ((21 ≤ C i ∧ C i ≤ 25) ∧ Wp 17 56 (ls) (.int (Int32.ofNat (Z i)) :: st) (n, sl, C, Z, I, L, R) Q)) ∧
  (∀ (ls : Lo) (st : List Value) (h : Hp) (Q : Option Value → Hp → Prop) (x y : Int32), Wp 17 56 (ls) (.int y :: .int x :: st) h Q ↔ Br 17 83 59 ls st h Q (y ≤ x)) ∧
  (∀ (ls : Lo) (st : List Value) (h : Hp) (Q : Option Value → Hp → Prop)  (i : Nat), Wp 17 59 (some (.ref i) :: ls) (st) h Q ↔ Wp 17 60 (some (.ref i) :: ls) (.ref i :: st) h Q) ∧
  (∀ (ls : Lo) (st : List Value) (h : Hp) (Q : Option Value → Hp → Prop)  (i : Nat), Wp 17 60 (some (.ref i) :: ls) (st) h Q ↔ Wp 17 61 (some (.ref i) :: ls) (.ref i :: st) h Q) ∧
  (∀ (ls : Lo) (st : List Value) (n sl : Nat) (C Z : Nat → Nat) (I : Nat → Nat → Int32) (L : Nat → Nat → Int64) (R : Nat → Nat → Nat) (Q : Option Value → Hp → Prop) (i : Nat), Wp 17 61 (ls) (.ref i :: st) (n, sl, C, Z, I, L, R) Q ↔ (C i = 4 ∧ Wp 17 64 (ls) (.ref (R i 1) :: st) (n, sl, C, Z, I, L, R) Q)) ∧
  (∀ (ls : Lo) (st : List Value) (h : Hp) (Q : Option Value → Hp → Prop) (l0 l1 : Option Value) (x : Int32), Wp 17 64 (l0 :: l1 :: some (.int x) :: ls) (st) h Q ↔ Wp 17 65 (l0 :: l1 :: some (.int x) :: ls) (.int x :: st) h Q) ∧
  (∀ (ls : Lo) (st : List Value) (n sl : Nat) (C Z : Nat → Nat) (I : Nat → Nat → Int32) (L : Nat → Nat → Int64) (R : Nat → Nat → Nat) (Q : Option Value → Hp → Prop) (i : Nat) (y : Int32), Wp 17 65 (ls) (.int y :: .ref i :: st) (n, sl, C, Z, I, L, R) Q ↔ ((inb y (Z i) = true ∧ (C i = 23 ∨ C i = 24 ∨ C i = 25)) ∧ Wp 17 66 (ls) (.ref (R i (ix y)) :: st) (n, sl, C, Z, I, L, R) Q)) ∧
  (∀ (ls : Lo) (st : List Value) (h : Hp) (Q : Option Value → Hp → Prop)  (i : Nat), Wp 17 66 (some (.ref i) :: ls) (st) h Q ↔ Wp 17 67 (some (.ref i) :: ls) (.ref i :: st) h Q) ∧
  (∀ (ls : Lo) (st : List Value) (n sl : Nat) (C Z : Nat → Nat) (I : Nat → Nat → Int32) (L : Nat → Nat → Int64) (R : Nat → Nat → Nat) (Q : Option Value → Hp → Prop) (i : Nat), Wp 17 67 (ls) (.ref i :: st) (n, sl, C, Z, I, L, R) Q ↔ (C i = 4 ∧ Wp 17 70 (ls) (.ref (R i 1) :: st) (n, sl, C, Z, I, L, R) Q)) ∧
  (∀ (ls : Lo) (st : List Value) (h : Hp) (Q : Option Value → Hp → Prop) (l0 l1 : Option Value) (x : Int32), Wp 17 70 (l0 :: l1 :: some (.int x) :: ls) (st) h Q ↔ Wp 17 71 (l0 :: l1 :: some (.int x) :: ls) (.int x :: st) h Q) ∧
  (∀ (ls : Lo) (st : List Value) (h : Hp) (Q : Option Value → Hp → Prop), Wp 17 71 (ls) (st) h Q ↔ Wp 17 72 (ls) (.int (1) :: st) h Q) ∧
  (∀ (ls : Lo) (st : List Value) (h : Hp) (Q : Option Value → Hp → Prop) (x y : Int32), Wp 17 72 (ls) (.int y :: .int x :: st) h Q ↔ Wp 17 73 (ls) (.int (x - y) :: st) h Q) ∧
  (∀ (ls : Lo) (st : List Value) (n sl : Nat) (C Z : Nat → Nat) (I : Nat → Nat → Int32) (L : Nat → Nat → Int64) (R : Nat → Nat → Nat) (Q : Option Value → Hp → Prop) (i : Nat) (y : Int32), Wp 17 73 (ls) (.int y :: .ref i :: st) (n, sl, C, Z, I, L, R) Q ↔ ((inb y (Z i) = true ∧ (C i = 23 ∨ C i = 24 ∨ C i = 25)) ∧ Wp 17 74 (ls) (.ref (R i (ix y)) :: st) (n, sl, C, Z, I, L, R) Q)) := ⟨by intro ls st n sl C Z I L R Q i; exact e_get (g := 7) (s := 5) (ty := 2) d17_35 rfl rfl rfl,
  by intro ls st h Q l0 l1 x; exact e_iload_n d17_38 rfl,
  by intro ls st n sl C Z I L R Q i y; exact e_iald d17_39,
  by intro ls st h Q x; exact e_i2l d17_40,
  by intro ls st n sl C Z I L R Q i y a; exact e_last d17_41,
  by intro ls st h Q l0 l1 x; exact e_iinc d17_42 rfl rfl rfl,
  by intro ls st h Q; exact e_goto d17_45 (by decide),
  by intro ls st h Q; exact e_iconst d17_48 rfl,
  by intro ls st h Q l0 l1 l2 x; exact e_istore_n d17_49 rfl,
  by intro ls st h Q l0 l1 x; exact e_iload_n d17_50 rfl,
  by intro ls st h Q i; exact e_aload_n d17_51 rfl,
  by intro ls st n sl C Z I L R Q i; exact e_get (g := 3) (s := 1) (ty := 2) d17_52 rfl rfl (inG_ne (by decide)),
  by intro ls st n sl C Z I L R Q i; exact e_alen d17_55,
  by intro ls st h Q x y; exact e_ic d17_56 (by decide) c_ge,
  by intro ls st h Q i; exact e_aload_n d17_59 rfl,
  by intro ls st h Q i; exact e_aload_n d17_60 rfl,
  by intro ls st n sl C Z I L R Q i; exact e_get (g := 3) (s := 1) (ty := 2) d17_61 rfl rfl (inG_ne (by decide)),
  by intro ls st h Q l0 l1 x; exact e_iload_n d17_64 rfl,
  by intro ls st n sl C Z I L R Q i y; exact e_aald d17_65,
  by intro ls st h Q i; exact e_aload_n d17_66 rfl,
  by intro ls st n sl C Z I L R Q i; exact e_get (g := 3) (s := 1) (ty := 2) d17_67 rfl rfl (inG_ne (by decide)),
  by intro ls st h Q l0 l1 x; exact e_iload_n d17_70 rfl,
  by intro ls st h Q; exact e_iconst d17_71 rfl,
  by intro ls st h Q x y; exact e_isub d17_72,
  by intro ls st n sl C Z I L R Q i y; exact e_aald d17_73⟩
set_option maxRecDepth 20000 in
theorem S17_2 : (∀ (ls : Lo) (st : List Value) (n sl : Nat) (C Z : Nat → Nat) (I : Nat → Nat → Int32) (L : Nat → Nat → Int64) (R : Nat → Nat → Nat) (Q : Option Value → Hp → Prop) (x0 : Nat) (x1 : Nat) (i : Nat), C i = 4 → (Wp 17 74 (ls) (.ref x1 :: .ref x0 :: .ref i :: st) (n, sl, C, Z, I, L, R) Q ↔ (wsum st ≤ 8 ∧ Call 18 [some (.ref i), some (.ref x0), some (.ref x1), none, none, none, none] (n, sl, C, Z, I, L, R) 17 77 ls st Q))) ∧
  (∀ (ls : Lo) (st : List Value) (h : Hp) (Q : Option Value → Hp → Prop) (l0 l1 : Option Value) (x : Int32), Wp 17 77 (l0 :: l1 :: some (.int x) :: ls) (st) h Q ↔ Wp 17 80 (l0 :: clr l1 :: some (.int (x + (1))) :: ls) (st) h Q) ∧
  (∀ (ls : Lo) (st : List Value) (h : Hp) (Q : Option Value → Hp → Prop), Wp 17 80 (ls) (st) h Q ↔ Wp 17 50 (ls) (st) h Q) ∧
  (∀ (ls : Lo) (st : List Value) (h : Hp) (Q : Option Value → Hp → Prop), Wp 17 83 (ls) (st) h Q ↔ Wp 17 84 (ls) (.int (1) :: st) h Q) ∧
  (∀ (ls : Lo) (st : List Value) (h : Hp) (Q : Option Value → Hp → Prop) (l0 l1 l2 : Option Value) (x : Int32), Wp 17 84 (l0 :: l1 :: l2 :: ls) (.int x :: st) h Q ↔ Wp 17 85 (l0 :: clr l1 :: some (.int x) :: ls) (st) h Q) ∧
  (∀ (ls : Lo) (st : List Value) (h : Hp) (Q : Option Value → Hp → Prop) (l0 l1 : Option Value) (x : Int32), Wp 17 85 (l0 :: l1 :: some (.int x) :: ls) (st) h Q ↔ Wp 17 86 (l0 :: l1 :: some (.int x) :: ls) (.int x :: st) h Q) ∧
  (∀ (ls : Lo) (st : List Value) (h : Hp) (Q : Option Value → Hp → Prop)  (i : Nat), Wp 17 86 (some (.ref i) :: ls) (st) h Q ↔ Wp 17 87 (some (.ref i) :: ls) (.ref i :: st) h Q) ∧
  (∀ (ls : Lo) (st : List Value) (n sl : Nat) (C Z : Nat → Nat) (I : Nat → Nat → Int32) (L : Nat → Nat → Int64) (R : Nat → Nat → Nat) (Q : Option Value → Hp → Prop) (i : Nat), Wp 17 87 (ls) (.ref i :: st) (n, sl, C, Z, I, L, R) Q ↔ (C i = 4 ∧ Wp 17 90 (ls) (.ref (R i 2) :: st) (n, sl, C, Z, I, L, R) Q)) ∧
  (∀ (ls : Lo) (st : List Value) (n sl : Nat) (C Z : Nat → Nat) (I : Nat → Nat → Int32) (L : Nat → Nat → Int64) (R : Nat → Nat → Nat) (Q : Option Value → Hp → Prop) (i : Nat), Wp 17 90 (ls) (.ref i :: st) (n, sl, C, Z, I, L, R) Q ↔ ((21 ≤ C i ∧ C i ≤ 25) ∧ Wp 17 91 (ls) (.int (Int32.ofNat (Z i)) :: st) (n, sl, C, Z, I, L, R) Q)) ∧
  (∀ (ls : Lo) (st : List Value) (h : Hp) (Q : Option Value → Hp → Prop) (x y : Int32), Wp 17 91 (ls) (.int y :: .int x :: st) h Q ↔ Br 17 118 94 ls st h Q (y ≤ x)) ∧
  (∀ (ls : Lo) (st : List Value) (h : Hp) (Q : Option Value → Hp → Prop)  (i : Nat), Wp 17 94 (some (.ref i) :: ls) (st) h Q ↔ Wp 17 95 (some (.ref i) :: ls) (.ref i :: st) h Q) ∧
  (∀ (ls : Lo) (st : List Value) (h : Hp) (Q : Option Value → Hp → Prop)  (i : Nat), Wp 17 95 (some (.ref i) :: ls) (st) h Q ↔ Wp 17 96 (some (.ref i) :: ls) (.ref i :: st) h Q) ∧
  (∀ (ls : Lo) (st : List Value) (n sl : Nat) (C Z : Nat → Nat) (I : Nat → Nat → Int32) (L : Nat → Nat → Int64) (R : Nat → Nat → Nat) (Q : Option Value → Hp → Prop) (i : Nat), Wp 17 96 (ls) (.ref i :: st) (n, sl, C, Z, I, L, R) Q ↔ (C i = 4 ∧ Wp 17 99 (ls) (.ref (R i 2) :: st) (n, sl, C, Z, I, L, R) Q)) ∧
  (∀ (ls : Lo) (st : List Value) (h : Hp) (Q : Option Value → Hp → Prop) (l0 l1 : Option Value) (x : Int32), Wp 17 99 (l0 :: l1 :: some (.int x) :: ls) (st) h Q ↔ Wp 17 100 (l0 :: l1 :: some (.int x) :: ls) (.int x :: st) h Q) ∧
  (∀ (ls : Lo) (st : List Value) (n sl : Nat) (C Z : Nat → Nat) (I : Nat → Nat → Int32) (L : Nat → Nat → Int64) (R : Nat → Nat → Nat) (Q : Option Value → Hp → Prop) (i : Nat) (y : Int32), Wp 17 100 (ls) (.int y :: .ref i :: st) (n, sl, C, Z, I, L, R) Q ↔ ((inb y (Z i) = true ∧ (C i = 23 ∨ C i = 24 ∨ C i = 25)) ∧ Wp 17 101 (ls) (.ref (R i (ix y)) :: st) (n, sl, C, Z, I, L, R) Q)) ∧
  (∀ (ls : Lo) (st : List Value) (h : Hp) (Q : Option Value → Hp → Prop)  (i : Nat), Wp 17 101 (some (.ref i) :: ls) (st) h Q ↔ Wp 17 102 (some (.ref i) :: ls) (.ref i :: st) h Q) ∧
  (∀ (ls : Lo) (st : List Value) (n sl : Nat) (C Z : Nat → Nat) (I : Nat → Nat → Int32) (L : Nat → Nat → Int64) (R : Nat → Nat → Nat) (Q : Option Value → Hp → Prop) (i : Nat), Wp 17 102 (ls) (.ref i :: st) (n, sl, C, Z, I, L, R) Q ↔ (C i = 4 ∧ Wp 17 105 (ls) (.ref (R i 2) :: st) (n, sl, C, Z, I, L, R) Q)) ∧
  (∀ (ls : Lo) (st : List Value) (h : Hp) (Q : Option Value → Hp → Prop) (l0 l1 : Option Value) (x : Int32), Wp 17 105 (l0 :: l1 :: some (.int x) :: ls) (st) h Q ↔ Wp 17 106 (l0 :: l1 :: some (.int x) :: ls) (.int x :: st) h Q) ∧
  (∀ (ls : Lo) (st : List Value) (h : Hp) (Q : Option Value → Hp → Prop), Wp 17 106 (ls) (st) h Q ↔ Wp 17 107 (ls) (.int (1) :: st) h Q) ∧
  (∀ (ls : Lo) (st : List Value) (h : Hp) (Q : Option Value → Hp → Prop) (x y : Int32), Wp 17 107 (ls) (.int y :: .int x :: st) h Q ↔ Wp 17 108 (ls) (.int (x - y) :: st) h Q) ∧
  (∀ (ls : Lo) (st : List Value) (n sl : Nat) (C Z : Nat → Nat) (I : Nat → Nat → Int32) (L : Nat → Nat → Int64) (R : Nat → Nat → Nat) (Q : Option Value → Hp → Prop) (i : Nat) (y : Int32), Wp 17 108 (ls) (.int y :: .ref i :: st) (n, sl, C, Z, I, L, R) Q ↔ ((inb y (Z i) = true ∧ (C i = 23 ∨ C i = 24 ∨ C i = 25)) ∧ Wp 17 109 (ls) (.ref (R i (ix y)) :: st) (n, sl, C, Z, I, L, R) Q)) ∧
  (∀ (ls : Lo) (st : List Value) (n sl : Nat) (C Z : Nat → Nat) (I : Nat → Nat → Int32) (L : Nat → Nat → Int64) (R : Nat → Nat → Nat) (Q : Option Value → Hp → Prop) (x0 : Nat) (x1 : Nat) (i : Nat), C i = 4 → (Wp 17 109 (ls) (.ref x1 :: .ref x0 :: .ref i :: st) (n, sl, C, Z, I, L, R) Q ↔ (wsum st ≤ 8 ∧ Call 19 [some (.ref i), some (.ref x0), some (.ref x1), none, none, none, none] (n, sl, C, Z, I, L, R) 17 112 ls st Q))) ∧
  (∀ (ls : Lo) (st : List Value) (h : Hp) (Q : Option Value → Hp → Prop) (l0 l1 : Option Value) (x : Int32), Wp 17 112 (l0 :: l1 :: some (.int x) :: ls) (st) h Q ↔ Wp 17 115 (l0 :: clr l1 :: some (.int (x + (1))) :: ls) (st) h Q) ∧
  (∀ (ls : Lo) (st : List Value) (h : Hp) (Q : Option Value → Hp → Prop), Wp 17 115 (ls) (st) h Q ↔ Wp 17 85 (ls) (st) h Q) ∧
  (∀ (ls : Lo) (st : List Value) (h : Hp) (Q : Option Value → Hp → Prop)  (i : Nat), Wp 17 118 (some (.ref i) :: ls) (st) h Q ↔ Wp 17 119 (some (.ref i) :: ls) (.ref i :: st) h Q) := ⟨by intro ls st n sl C Z I L R Q x0 x1 i hh; exact e_iv (k2 := 18) (c := 4) (as := [.ref x0, .ref x1]) d17_74 rfl (by decide) rfl rfl (by decide +kernel) (Nat.le_of_ble_eq_true rfl) rfl hh,
  by intro ls st h Q l0 l1 x; exact e_iinc d17_77 rfl rfl rfl,
  by intro ls st h Q; exact e_goto d17_80 (by decide),
  by intro ls st h Q; exact e_iconst d17_83 rfl,
  by intro ls st h Q l0 l1 l2 x; exact e_istore_n d17_84 rfl,
  by intro ls st h Q l0 l1 x; exact e_iload_n d17_85 rfl,
  by intro ls st h Q i; exact e_aload_n d17_86 rfl,
  by intro ls st n sl C Z I L R Q i; exact e_get (g := 3) (s := 2) (ty := 2) d17_87 rfl rfl (inG_ne (by decide)),
  by intro ls st n sl C Z I L R Q i; exact e_alen d17_90,
  by intro ls st h Q x y; exact e_ic d17_91 (by decide) c_ge,
  by intro ls st h Q i; exact e_aload_n d17_94 rfl,
  by intro ls st h Q i; exact e_aload_n d17_95 rfl,
  by intro ls st n sl C Z I L R Q i; exact e_get (g := 3) (s := 2) (ty := 2) d17_96 rfl rfl (inG_ne (by decide)),
  by intro ls st h Q l0 l1 x; exact e_iload_n d17_99 rfl,
  by intro ls st n sl C Z I L R Q i y; exact e_aald d17_100,
  by intro ls st h Q i; exact e_aload_n d17_101 rfl,
  by intro ls st n sl C Z I L R Q i; exact e_get (g := 3) (s := 2) (ty := 2) d17_102 rfl rfl (inG_ne (by decide)),
  by intro ls st h Q l0 l1 x; exact e_iload_n d17_105 rfl,
  by intro ls st h Q; exact e_iconst d17_106 rfl,
  by intro ls st h Q x y; exact e_isub d17_107,
  by intro ls st n sl C Z I L R Q i y; exact e_aald d17_108,
  by intro ls st n sl C Z I L R Q x0 x1 i hh; exact e_iv (k2 := 19) (c := 4) (as := [.ref x0, .ref x1]) d17_109 rfl (by decide) rfl rfl (by decide +kernel) (Nat.le_of_ble_eq_true rfl) rfl hh,
  by intro ls st h Q l0 l1 x; exact e_iinc d17_112 rfl rfl rfl,
  by intro ls st h Q; exact e_goto d17_115 (by decide),
  by intro ls st h Q i; exact e_aload_n d17_118 rfl⟩
set_option maxRecDepth 20000 in
theorem S17_3 : (∀ (ls : Lo) (st : List Value) (n sl : Nat) (C Z : Nat → Nat) (I : Nat → Nat → Int32) (L : Nat → Nat → Int64) (R : Nat → Nat → Nat) (Q : Option Value → Hp → Prop)  (i : Nat), C i = 4 → (Wp 17 119 (ls) (.ref i :: st) (n, sl, C, Z, I, L, R) Q ↔ (wsum st ≤ 8 ∧ Call 20 [some (.ref i), none, none] (n, sl, C, Z, I, L, R) 17 122 ls st Q))) ∧
  (∀ (ls : Lo) (h : Hp) (Q : Option Value → Hp → Prop), Wp 17 122 (ls) ([]) h Q ↔ Q none h) := ⟨by intro ls st n sl C Z I L R Q i hh; exact e_iv (k2 := 20) (c := 4) (as := []) d17_119 rfl (by decide) rfl rfl (by decide +kernel) (Nat.le_of_ble_eq_true rfl) rfl hh,
  by intros; exact e_rV d17_122 rfl⟩
theorem d18_0 : decode (byt 18) 0 = .ok (.iconst 0, 1) := by decide +kernel
theorem d18_1 : decode (byt 18) 1 = .ok (.istore_n 3, 1) := by decide +kernel
theorem d18_2 : decode (byt 18) 2 = .ok (.iload_n 3, 1) := by decide +kernel
theorem d18_3 : decode (byt 18) 3 = .ok (.iconst 3, 1) := by decide +kernel
theorem d18_4 : decode (byt 18) 4 = .ok (.if_icmp .ge 57, 3) := by decide +kernel
theorem d18_7 : decode (byt 18) 7 = .ok (.lconst 0, 1) := by decide +kernel
theorem d18_8 : decode (byt 18) 8 = .ok (.lstore 4, 2) := by decide +kernel
theorem d18_10 : decode (byt 18) 10 = .ok (.iconst 0, 1) := by decide +kernel
theorem d18_11 : decode (byt 18) 11 = .ok (.istore 6, 2) := by decide +kernel
theorem d18_13 : decode (byt 18) 13 = .ok (.iload 6, 2) := by decide +kernel
theorem d18_15 : decode (byt 18) 15 = .ok (.iconst 3, 1) := by decide +kernel
theorem d18_16 : decode (byt 18) 16 = .ok (.if_icmp .ge 34, 3) := by decide +kernel
theorem d18_19 : decode (byt 18) 19 = .ok (.lload 4, 2) := by decide +kernel
theorem d18_21 : decode (byt 18) 21 = .ok (.aload_n 0, 1) := by decide +kernel
theorem d18_22 : decode (byt 18) 22 = .ok (.getfield 14, 3) := by decide +kernel
theorem d18_25 : decode (byt 18) 25 = .ok (.getfield 64, 3) := by decide +kernel
theorem d18_28 : decode (byt 18) 28 = .ok (.iconst 3, 1) := by decide +kernel
theorem d18_29 : decode (byt 18) 29 = .ok (.iload_n 3, 1) := by decide +kernel
theorem d18_30 : decode (byt 18) 30 = .ok (.imul, 1) := by decide +kernel
theorem d18_31 : decode (byt 18) 31 = .ok (.iload 6, 2) := by decide +kernel
theorem d18_33 : decode (byt 18) 33 = .ok (.iadd, 1) := by decide +kernel
theorem d18_34 : decode (byt 18) 34 = .ok (.iaload, 1) := by decide +kernel
theorem d18_35 : decode (byt 18) 35 = .ok (.i2l, 1) := by decide +kernel
theorem d18_36 : decode (byt 18) 36 = .ok (.aload_n 2, 1) := by decide +kernel
theorem d18_37 : decode (byt 18) 37 = .ok (.iload 6, 2) := by decide +kernel
theorem d18_39 : decode (byt 18) 39 = .ok (.laload, 1) := by decide +kernel
theorem d18_40 : decode (byt 18) 40 = .ok (.lmul, 1) := by decide +kernel
theorem d18_41 : decode (byt 18) 41 = .ok (.ladd, 1) := by decide +kernel
theorem d18_42 : decode (byt 18) 42 = .ok (.lstore 4, 2) := by decide +kernel
theorem d18_44 : decode (byt 18) 44 = .ok (.iinc 6 1, 3) := by decide +kernel
theorem d18_47 : decode (byt 18) 47 = .ok (.goto (-34), 3) := by decide +kernel
theorem d18_50 : decode (byt 18) 50 = .ok (.aload_n 1, 1) := by decide +kernel
theorem d18_51 : decode (byt 18) 51 = .ok (.iload_n 3, 1) := by decide +kernel
theorem d18_52 : decode (byt 18) 52 = .ok (.lload 4, 2) := by decide +kernel
theorem d18_54 : decode (byt 18) 54 = .ok (.lastore, 1) := by decide +kernel
theorem d18_55 : decode (byt 18) 55 = .ok (.iinc 3 1, 3) := by decide +kernel
theorem d18_58 : decode (byt 18) 58 = .ok (.goto (-56), 3) := by decide +kernel
theorem d18_61 : decode (byt 18) 61 = .ok (.return_, 1) := by decide +kernel
set_option maxRecDepth 20000 in
theorem S18_0 : (∀ (ls : Lo) (st : List Value) (h : Hp) (Q : Option Value → Hp → Prop), Wp 18 0 (ls) (st) h Q ↔ Wp 18 1 (ls) (.int (0) :: st) h Q) ∧
  (∀ (ls : Lo) (st : List Value) (h : Hp) (Q : Option Value → Hp → Prop) (l0 l1 l2 l3 : Option Value) (x : Int32), Wp 18 1 (l0 :: l1 :: l2 :: l3 :: ls) (.int x :: st) h Q ↔ Wp 18 2 (l0 :: l1 :: clr l2 :: some (.int x) :: ls) (st) h Q) ∧
  (∀ (ls : Lo) (st : List Value) (h : Hp) (Q : Option Value → Hp → Prop) (l0 l1 l2 : Option Value) (x : Int32), Wp 18 2 (l0 :: l1 :: l2 :: some (.int x) :: ls) (st) h Q ↔ Wp 18 3 (l0 :: l1 :: l2 :: some (.int x) :: ls) (.int x :: st) h Q) ∧
  (∀ (ls : Lo) (st : List Value) (h : Hp) (Q : Option Value → Hp → Prop), Wp 18 3 (ls) (st) h Q ↔ Wp 18 4 (ls) (.int (3) :: st) h Q) ∧
  (∀ (ls : Lo) (st : List Value) (h : Hp) (Q : Option Value → Hp → Prop) (x y : Int32), Wp 18 4 (ls) (.int y :: .int x :: st) h Q ↔ Br 18 61 7 ls st h Q (y ≤ x)) ∧
  (∀ (ls : Lo) (st : List Value) (h : Hp) (Q : Option Value → Hp → Prop), Wp 18 7 (ls) (st) h Q ↔ Wp 18 8 (ls) (.long 0 :: st) h Q) ∧
  (∀ (ls : Lo) (st : List Value) (h : Hp) (Q : Option Value → Hp → Prop) (l0 l1 l2 l3 l4 l5 : Option Value) (a : Int64), Wp 18 8 (l0 :: l1 :: l2 :: l3 :: l4 :: l5 :: ls) (.long a :: st) h Q ↔ Wp 18 10 (l0 :: l1 :: l2 :: clr l3 :: some (.long a) :: none :: ls) (st) h Q) ∧
  (∀ (ls : Lo) (st : List Value) (h : Hp) (Q : Option Value → Hp → Prop), Wp 18 10 (ls) (st) h Q ↔ Wp 18 11 (ls) (.int (0) :: st) h Q) ∧
  (∀ (ls : Lo) (st : List Value) (h : Hp) (Q : Option Value → Hp → Prop) (l0 l1 l2 l3 l4 l5 l6 : Option Value) (x : Int32), Wp 18 11 (l0 :: l1 :: l2 :: l3 :: l4 :: l5 :: l6 :: ls) (.int x :: st) h Q ↔ Wp 18 13 (l0 :: l1 :: l2 :: l3 :: l4 :: clr l5 :: some (.int x) :: ls) (st) h Q) ∧
  (∀ (ls : Lo) (st : List Value) (h : Hp) (Q : Option Value → Hp → Prop) (l0 l1 l2 l3 l4 l5 : Option Value) (x : Int32), Wp 18 13 (l0 :: l1 :: l2 :: l3 :: l4 :: l5 :: some (.int x) :: ls) (st) h Q ↔ Wp 18 15 (l0 :: l1 :: l2 :: l3 :: l4 :: l5 :: some (.int x) :: ls) (.int x :: st) h Q) ∧
  (∀ (ls : Lo) (st : List Value) (h : Hp) (Q : Option Value → Hp → Prop), Wp 18 15 (ls) (st) h Q ↔ Wp 18 16 (ls) (.int (3) :: st) h Q) ∧
  (∀ (ls : Lo) (st : List Value) (h : Hp) (Q : Option Value → Hp → Prop) (x y : Int32), Wp 18 16 (ls) (.int y :: .int x :: st) h Q ↔ Br 18 50 19 ls st h Q (y ≤ x)) ∧
  (∀ (ls : Lo) (st : List Value) (h : Hp) (Q : Option Value → Hp → Prop) (l0 l1 l2 l3 : Option Value) (a : Int64), Wp 18 19 (l0 :: l1 :: l2 :: l3 :: some (.long a) :: ls) (st) h Q ↔ Wp 18 21 (l0 :: l1 :: l2 :: l3 :: some (.long a) :: ls) (.long a :: st) h Q) ∧
  (∀ (ls : Lo) (st : List Value) (h : Hp) (Q : Option Value → Hp → Prop)  (i : Nat), Wp 18 21 (some (.ref i) :: ls) (st) h Q ↔ Wp 18 22 (some (.ref i) :: ls) (.ref i :: st) h Q) ∧
  (∀ (ls : Lo) (st : List Value) (n sl : Nat) (C Z : Nat → Nat) (I : Nat → Nat → Int32) (L : Nat → Nat → Int64) (R : Nat → Nat → Nat) (Q : Option Value → Hp → Prop) (i : Nat), Wp 18 22 (ls) (.ref i :: st) (n, sl, C, Z, I, L, R) Q ↔ (C i = 4 ∧ Wp 18 25 (ls) (.ref (R i 0) :: st) (n, sl, C, Z, I, L, R) Q)) ∧
  (∀ (ls : Lo) (st : List Value) (n sl : Nat) (C Z : Nat → Nat) (I : Nat → Nat → Int32) (L : Nat → Nat → Int64) (R : Nat → Nat → Nat) (Q : Option Value → Hp → Prop) (i : Nat), Wp 18 25 (ls) (.ref i :: st) (n, sl, C, Z, I, L, R) Q ↔ (inG 7 (C i) = true ∧ Wp 18 28 (ls) (.ref (R i 3) :: st) (n, sl, C, Z, I, L, R) Q)) ∧
  (∀ (ls : Lo) (st : List Value) (h : Hp) (Q : Option Value → Hp → Prop), Wp 18 28 (ls) (st) h Q ↔ Wp 18 29 (ls) (.int (3) :: st) h Q) ∧
  (∀ (ls : Lo) (st : List Value) (h : Hp) (Q : Option Value → Hp → Prop) (l0 l1 l2 : Option Value) (x : Int32), Wp 18 29 (l0 :: l1 :: l2 :: some (.int x) :: ls) (st) h Q ↔ Wp 18 30 (l0 :: l1 :: l2 :: some (.int x) :: ls) (.int x :: st) h Q) ∧
  (∀ (ls : Lo) (st : List Value) (h : Hp) (Q : Option Value → Hp → Prop) (x y : Int32), Wp 18 30 (ls) (.int y :: .int x :: st) h Q ↔ Wp 18 31 (ls) (.int (x * y) :: st) h Q) ∧
  (∀ (ls : Lo) (st : List Value) (h : Hp) (Q : Option Value → Hp → Prop) (l0 l1 l2 l3 l4 l5 : Option Value) (x : Int32), Wp 18 31 (l0 :: l1 :: l2 :: l3 :: l4 :: l5 :: some (.int x) :: ls) (st) h Q ↔ Wp 18 33 (l0 :: l1 :: l2 :: l3 :: l4 :: l5 :: some (.int x) :: ls) (.int x :: st) h Q) ∧
  (∀ (ls : Lo) (st : List Value) (h : Hp) (Q : Option Value → Hp → Prop) (x y : Int32), Wp 18 33 (ls) (.int y :: .int x :: st) h Q ↔ Wp 18 34 (ls) (.int (x + y) :: st) h Q) ∧
  (∀ (ls : Lo) (st : List Value) (n sl : Nat) (C Z : Nat → Nat) (I : Nat → Nat → Int32) (L : Nat → Nat → Int64) (R : Nat → Nat → Nat) (Q : Option Value → Hp → Prop) (i : Nat) (y : Int32), Wp 18 34 (ls) (.int y :: .ref i :: st) (n, sl, C, Z, I, L, R) Q ↔ ((inb y (Z i) = true ∧ C i = 21) ∧ Wp 18 35 (ls) (.int (I i (ix y)) :: st) (n, sl, C, Z, I, L, R) Q)) ∧
  (∀ (ls : Lo) (st : List Value) (h : Hp) (Q : Option Value → Hp → Prop) (x : Int32), Wp 18 35 (ls) (.int x :: st) h Q ↔ Wp 18 36 (ls) (.long x.toInt64 :: st) h Q) ∧
  (∀ (ls : Lo) (st : List Value) (h : Hp) (Q : Option Value → Hp → Prop) (l0 l1 : Option Value) (i : Nat), Wp 18 36 (l0 :: l1 :: some (.ref i) :: ls) (st) h Q ↔ Wp 18 37 (l0 :: l1 :: some (.ref i) :: ls) (.ref i :: st) h Q) ∧
  (∀ (ls : Lo) (st : List Value) (h : Hp) (Q : Option Value → Hp → Prop) (l0 l1 l2 l3 l4 l5 : Option Value) (x : Int32), Wp 18 37 (l0 :: l1 :: l2 :: l3 :: l4 :: l5 :: some (.int x) :: ls) (st) h Q ↔ Wp 18 39 (l0 :: l1 :: l2 :: l3 :: l4 :: l5 :: some (.int x) :: ls) (.int x :: st) h Q) := ⟨by intro ls st h Q; exact e_iconst d18_0 rfl,
  by intro ls st h Q l0 l1 l2 l3 x; exact e_istore_n d18_1 rfl,
  by intro ls st h Q l0 l1 l2 x; exact e_iload_n d18_2 rfl,
  by intro ls st h Q; exact e_iconst d18_3 rfl,
  by intro ls st h Q x y; exact e_ic d18_4 (by decide) c_ge,
  by intro ls st h Q; exact e_lconst d18_7 rfl,
  by intro ls st h Q l0 l1 l2 l3 l4 l5 a; exact e_lstore d18_8 rfl,
  by intro ls st h Q; exact e_iconst d18_10 rfl,
  by intro ls st h Q l0 l1 l2 l3 l4 l5 l6 x; exact e_istore d18_11 rfl,
  by intro ls st h Q l0 l1 l2 l3 l4 l5 x; exact e_iload d18_13 rfl,
  by intro ls st h Q; exact e_iconst d18_15 rfl,
  by intro ls st h Q x y; exact e_ic d18_16 (by decide) c_ge,
  by intro ls st h Q l0 l1 l2 l3 a; exact e_lload d18_19 rfl,
  by intro ls st h Q i; exact e_aload_n d18_21 rfl,
  by intro ls st n sl C Z I L R Q i; exact e_get (g := 3) (s := 0) (ty := 2) d18_22 rfl rfl (inG_ne (by decide)),
  by intro ls st n sl C Z I L R Q i; exact e_get (g := 7) (s := 3) (ty := 2) d18_25 rfl rfl rfl,
  by intro ls st h Q; exact e_iconst d18_28 rfl,
  by intro ls st h Q l0 l1 l2 x; exact e_iload_n d18_29 rfl,
  by intro ls st h Q x y; exact e_imul d18_30,
  by intro ls st h Q l0 l1 l2 l3 l4 l5 x; exact e_iload d18_31 rfl,
  by intro ls st h Q x y; exact e_iadd d18_33,
  by intro ls st n sl C Z I L R Q i y; exact e_iald d18_34,
  by intro ls st h Q x; exact e_i2l d18_35,
  by intro ls st h Q l0 l1 i; exact e_aload_n d18_36 rfl,
  by intro ls st h Q l0 l1 l2 l3 l4 l5 x; exact e_iload d18_37 rfl⟩
set_option maxRecDepth 20000 in
theorem S18_1 : (∀ (ls : Lo) (st : List Value) (n sl : Nat) (C Z : Nat → Nat) (I : Nat → Nat → Int32) (L : Nat → Nat → Int64) (R : Nat → Nat → Nat) (Q : Option Value → Hp → Prop) (i : Nat) (y : Int32), Wp 18 39 (ls) (.int y :: .ref i :: st) (n, sl, C, Z, I, L, R) Q ↔ ((inb y (Z i) = true ∧ C i = 22) ∧ Wp 18 40 (ls) (.long (L i (ix y)) :: st) (n, sl, C, Z, I, L, R) Q)) ∧
  (∀ (ls : Lo) (st : List Value) (h : Hp) (Q : Option Value → Hp → Prop) (a b : Int64), Wp 18 40 (ls) (.long b :: .long a :: st) h Q ↔ Wp 18 41 (ls) (.long (a * b) :: st) h Q) ∧
  (∀ (ls : Lo) (st : List Value) (h : Hp) (Q : Option Value → Hp → Prop) (a b : Int64), Wp 18 41 (ls) (.long b :: .long a :: st) h Q ↔ Wp 18 42 (ls) (.long (a + b) :: st) h Q) ∧
  (∀ (ls : Lo) (st : List Value) (h : Hp) (Q : Option Value → Hp → Prop) (l0 l1 l2 l3 l4 l5 : Option Value) (a : Int64), Wp 18 42 (l0 :: l1 :: l2 :: l3 :: l4 :: l5 :: ls) (.long a :: st) h Q ↔ Wp 18 44 (l0 :: l1 :: l2 :: clr l3 :: some (.long a) :: none :: ls) (st) h Q) ∧
  (∀ (ls : Lo) (st : List Value) (h : Hp) (Q : Option Value → Hp → Prop) (l0 l1 l2 l3 l4 l5 : Option Value) (x : Int32), Wp 18 44 (l0 :: l1 :: l2 :: l3 :: l4 :: l5 :: some (.int x) :: ls) (st) h Q ↔ Wp 18 47 (l0 :: l1 :: l2 :: l3 :: l4 :: clr l5 :: some (.int (x + (1))) :: ls) (st) h Q) ∧
  (∀ (ls : Lo) (st : List Value) (h : Hp) (Q : Option Value → Hp → Prop), Wp 18 47 (ls) (st) h Q ↔ Wp 18 13 (ls) (st) h Q) ∧
  (∀ (ls : Lo) (st : List Value) (h : Hp) (Q : Option Value → Hp → Prop) (l0 : Option Value) (i : Nat), Wp 18 50 (l0 :: some (.ref i) :: ls) (st) h Q ↔ Wp 18 51 (l0 :: some (.ref i) :: ls) (.ref i :: st) h Q) ∧
  (∀ (ls : Lo) (st : List Value) (h : Hp) (Q : Option Value → Hp → Prop) (l0 l1 l2 : Option Value) (x : Int32), Wp 18 51 (l0 :: l1 :: l2 :: some (.int x) :: ls) (st) h Q ↔ Wp 18 52 (l0 :: l1 :: l2 :: some (.int x) :: ls) (.int x :: st) h Q) ∧
  (∀ (ls : Lo) (st : List Value) (h : Hp) (Q : Option Value → Hp → Prop) (l0 l1 l2 l3 : Option Value) (a : Int64), Wp 18 52 (l0 :: l1 :: l2 :: l3 :: some (.long a) :: ls) (st) h Q ↔ Wp 18 54 (l0 :: l1 :: l2 :: l3 :: some (.long a) :: ls) (.long a :: st) h Q) ∧
  (∀ (ls : Lo) (st : List Value) (n sl : Nat) (C Z : Nat → Nat) (I : Nat → Nat → Int32) (L : Nat → Nat → Int64) (R : Nat → Nat → Nat) (Q : Option Value → Hp → Prop) (i : Nat) (y : Int32) (a : Int64), Wp 18 54 (ls) (.long a :: .int y :: .ref i :: st) (n, sl, C, Z, I, L, R) Q ↔ ((inb y (Z i) = true ∧ C i = 22) ∧ Wp 18 55 (ls) (st) (n, sl, C, Z, I, u2 L i (ix y) a, R) Q)) ∧
  (∀ (ls : Lo) (st : List Value) (h : Hp) (Q : Option Value → Hp → Prop) (l0 l1 l2 : Option Value) (x : Int32), Wp 18 55 (l0 :: l1 :: l2 :: some (.int x) :: ls) (st) h Q ↔ Wp 18 58 (l0 :: l1 :: clr l2 :: some (.int (x + (1))) :: ls) (st) h Q) ∧
  (∀ (ls : Lo) (st : List Value) (h : Hp) (Q : Option Value → Hp → Prop), Wp 18 58 (ls) (st) h Q ↔ Wp 18 2 (ls) (st) h Q) ∧
  (∀ (ls : Lo) (h : Hp) (Q : Option Value → Hp → Prop), Wp 18 61 (ls) ([]) h Q ↔ Q none h) := ⟨by intro ls st n sl C Z I L R Q i y; exact e_lald d18_39,
  by intro ls st h Q a b; exact e_lmul d18_40,
  by intro ls st h Q a b; exact e_ladd d18_41,
  by intro ls st h Q l0 l1 l2 l3 l4 l5 a; exact e_lstore d18_42 rfl,
  by intro ls st h Q l0 l1 l2 l3 l4 l5 x; exact e_iinc d18_44 rfl rfl rfl,
  by intro ls st h Q; exact e_goto d18_47 (by decide),
  by intro ls st h Q l0 i; exact e_aload_n d18_50 rfl,
  by intro ls st h Q l0 l1 l2 x; exact e_iload_n d18_51 rfl,
  by intro ls st h Q l0 l1 l2 l3 a; exact e_lload d18_52 rfl,
  by intro ls st n sl C Z I L R Q i y a; exact e_last d18_54,
  by intro ls st h Q l0 l1 l2 x; exact e_iinc d18_55 rfl rfl rfl,
  by intro ls st h Q; exact e_goto d18_58 (by decide),
  by intros; exact e_rV d18_61 rfl⟩
