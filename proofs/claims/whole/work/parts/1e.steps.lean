theorem d74_0 : decode (byt 74) 0 = .ok (.aload_n 0, 1) := by decide +kernel
theorem d74_1 : decode (byt 74) 1 = .ok (.iload_n 1, 1) := by decide +kernel
theorem d74_2 : decode (byt 74) 2 = .ok (.invokevirtual 84, 3) := by decide +kernel
theorem d74_5 : decode (byt 74) 5 = .ok (.astore 5, 2) := by decide +kernel
theorem d74_7 : decode (byt 74) 7 = .ok (.aload 5, 2) := by decide +kernel
theorem d74_9 : decode (byt 74) 9 = .ok (.ifnull 33, 3) := by decide +kernel
theorem d74_12 : decode (byt 74) 12 = .ok (.iload_n 2, 1) := by decide +kernel
theorem d74_13 : decode (byt 74) 13 = .ok (.iconst 0, 1) := by decide +kernel
theorem d74_14 : decode (byt 74) 14 = .ok (.aload 5, 2) := by decide +kernel
theorem d74_16 : decode (byt 74) 16 = .ok (.getfield 106, 3) := by decide +kernel
theorem d74_19 : decode (byt 74) 19 = .ok (.iconst 1, 1) := by decide +kernel
theorem d74_20 : decode (byt 74) 20 = .ok (.isub, 1) := by decide +kernel
theorem d74_21 : decode (byt 74) 21 = .ok (.invokestatic 66, 3) := by decide +kernel
theorem d74_24 : decode (byt 74) 24 = .ok (.ifCond .eq 18, 3) := by decide +kernel
theorem d74_27 : decode (byt 74) 27 = .ok (.iload_n 3, 1) := by decide +kernel
theorem d74_28 : decode (byt 74) 28 = .ok (.iconst 0, 1) := by decide +kernel
theorem d74_29 : decode (byt 74) 29 = .ok (.aload 5, 2) := by decide +kernel
theorem d74_31 : decode (byt 74) 31 = .ok (.getfield 106, 3) := by decide +kernel
theorem d74_34 : decode (byt 74) 34 = .ok (.iconst 1, 1) := by decide +kernel
theorem d74_35 : decode (byt 74) 35 = .ok (.isub, 1) := by decide +kernel
theorem d74_36 : decode (byt 74) 36 = .ok (.invokestatic 66, 3) := by decide +kernel
theorem d74_39 : decode (byt 74) 39 = .ok (.ifCond .ne 7, 3) := by decide +kernel
theorem d74_42 : decode (byt 74) 42 = .ok (.ldc2_w 169, 3) := by decide +kernel
theorem d74_45 : decode (byt 74) 45 = .ok (.lreturn, 1) := by decide +kernel
theorem d74_46 : decode (byt 74) 46 = .ok (.aload_n 0, 1) := by decide +kernel
theorem d74_47 : decode (byt 74) 47 = .ok (.getfield 55, 3) := by decide +kernel
theorem d74_50 : decode (byt 74) 50 = .ok (.aload 5, 2) := by decide +kernel
theorem d74_52 : decode (byt 74) 52 = .ok (.invokevirtual 147, 3) := by decide +kernel
theorem d74_55 : decode (byt 74) 55 = .ok (.aload_n 0, 1) := by decide +kernel
theorem d74_56 : decode (byt 74) 56 = .ok (.getfield 55, 3) := by decide +kernel
theorem d74_59 : decode (byt 74) 59 = .ok (.getfield 164, 3) := by decide +kernel
theorem d74_62 : decode (byt 74) 62 = .ok (.ifCond .eq 13, 3) := by decide +kernel
theorem d74_65 : decode (byt 74) 65 = .ok (.iload 4, 2) := by decide +kernel
theorem d74_67 : decode (byt 74) 67 = .ok (.iconst 0, 1) := by decide +kernel
theorem d74_68 : decode (byt 74) 68 = .ok (.iconst 1, 1) := by decide +kernel
theorem d74_69 : decode (byt 74) 69 = .ok (.invokestatic 66, 3) := by decide +kernel
theorem d74_72 : decode (byt 74) 72 = .ok (.ifCond .ne 7, 3) := by decide +kernel
theorem d74_75 : decode (byt 74) 75 = .ok (.ldc2_w 169, 3) := by decide +kernel
theorem d74_78 : decode (byt 74) 78 = .ok (.lreturn, 1) := by decide +kernel
theorem d74_79 : decode (byt 74) 79 = .ok (.aload_n 0, 1) := by decide +kernel
theorem d74_80 : decode (byt 74) 80 = .ok (.getfield 55, 3) := by decide +kernel
theorem d74_83 : decode (byt 74) 83 = .ok (.aload_n 0, 1) := by decide +kernel
theorem d74_84 : decode (byt 74) 84 = .ok (.getfield 62, 3) := by decide +kernel
theorem d74_87 : decode (byt 74) 87 = .ok (.iload_n 2, 1) := by decide +kernel
theorem d74_88 : decode (byt 74) 88 = .ok (.iload_n 3, 1) := by decide +kernel
theorem d74_89 : decode (byt 74) 89 = .ok (.iadd, 1) := by decide +kernel
theorem d74_90 : decode (byt 74) 90 = .ok (.invokevirtual 209, 3) := by decide +kernel
theorem d74_93 : decode (byt 74) 93 = .ok (.aload_n 0, 1) := by decide +kernel
theorem d74_94 : decode (byt 74) 94 = .ok (.getfield 62, 3) := by decide +kernel
theorem d74_97 : decode (byt 74) 97 = .ok (.iload 4, 2) := by decide +kernel
theorem d74_99 : decode (byt 74) 99 = .ok (.invokevirtual 182, 3) := by decide +kernel
theorem d74_102 : decode (byt 74) 102 = .ok (.lreturn, 1) := by decide +kernel
set_option maxRecDepth 20000 in
theorem S74_0 : (∀ (ls : Lo) (st : List Value) (h : Hp) (Q : Option Value → Hp → Prop)  (i : Nat), Wp 74 0 (some (.ref i) :: ls) (st) h Q ↔ Wp 74 1 (some (.ref i) :: ls) (.ref i :: st) h Q) ∧
  (∀ (ls : Lo) (st : List Value) (h : Hp) (Q : Option Value → Hp → Prop) (l0 : Option Value) (x : Int32), Wp 74 1 (l0 :: some (.int x) :: ls) (st) h Q ↔ Wp 74 2 (l0 :: some (.int x) :: ls) (.int x :: st) h Q) ∧
  (∀ (ls : Lo) (st : List Value) (n sl : Nat) (C Z : Nat → Nat) (I : Nat → Nat → Int32) (L : Nat → Nat → Int64) (R : Nat → Nat → Nat) (Q : Option Value → Hp → Prop) (x0 : Int32) (i : Nat), C i = 10 → (Wp 74 2 (ls) (.int x0 :: .ref i :: st) (n, sl, C, Z, I, L, R) Q ↔ (wsum st ≤ 8 ∧ Call 92 [some (.ref i), some (.int x0)] (n, sl, C, Z, I, L, R) 74 5 ls st Q))) ∧
  (∀ (ls : Lo) (st : List Value) (h : Hp) (Q : Option Value → Hp → Prop) (l0 l1 l2 l3 l4 l5 : Option Value) (i : Nat), Wp 74 5 (l0 :: l1 :: l2 :: l3 :: l4 :: l5 :: ls) (.ref i :: st) h Q ↔ Wp 74 7 (l0 :: l1 :: l2 :: l3 :: clr l4 :: some (.ref i) :: ls) (st) h Q) ∧
  (∀ (ls : Lo) (st : List Value) (h : Hp) (Q : Option Value → Hp → Prop) (l0 l1 l2 l3 l4 : Option Value) (i : Nat), Wp 74 7 (l0 :: l1 :: l2 :: l3 :: l4 :: some (.ref i) :: ls) (st) h Q ↔ Wp 74 9 (l0 :: l1 :: l2 :: l3 :: l4 :: some (.ref i) :: ls) (.ref i :: st) h Q) ∧
  (∀ (ls : Lo) (st : List Value) (h : Hp) (Q : Option Value → Hp → Prop) (i : Nat), Wp 74 9 (ls) (.ref i :: st) h Q ↔ Br 74 42 12 ls st h Q (i = 0)) ∧
  (∀ (ls : Lo) (st : List Value) (h : Hp) (Q : Option Value → Hp → Prop) (l0 l1 : Option Value) (x : Int32), Wp 74 12 (l0 :: l1 :: some (.int x) :: ls) (st) h Q ↔ Wp 74 13 (l0 :: l1 :: some (.int x) :: ls) (.int x :: st) h Q) ∧
  (∀ (ls : Lo) (st : List Value) (h : Hp) (Q : Option Value → Hp → Prop), Wp 74 13 (ls) (st) h Q ↔ Wp 74 14 (ls) (.int (0) :: st) h Q) ∧
  (∀ (ls : Lo) (st : List Value) (h : Hp) (Q : Option Value → Hp → Prop) (l0 l1 l2 l3 l4 : Option Value) (i : Nat), Wp 74 14 (l0 :: l1 :: l2 :: l3 :: l4 :: some (.ref i) :: ls) (st) h Q ↔ Wp 74 16 (l0 :: l1 :: l2 :: l3 :: l4 :: some (.ref i) :: ls) (.ref i :: st) h Q) ∧
  (∀ (ls : Lo) (st : List Value) (n sl : Nat) (C Z : Nat → Nat) (I : Nat → Nat → Int32) (L : Nat → Nat → Int64) (R : Nat → Nat → Nat) (Q : Option Value → Hp → Prop) (i : Nat), Wp 74 16 (ls) (.ref i :: st) (n, sl, C, Z, I, L, R) Q ↔ (inG 7 (C i) = true ∧ Wp 74 19 (ls) (.int (I i 1) :: st) (n, sl, C, Z, I, L, R) Q)) ∧
  (∀ (ls : Lo) (st : List Value) (h : Hp) (Q : Option Value → Hp → Prop), Wp 74 19 (ls) (st) h Q ↔ Wp 74 20 (ls) (.int (1) :: st) h Q) ∧
  (∀ (ls : Lo) (st : List Value) (h : Hp) (Q : Option Value → Hp → Prop) (x y : Int32), Wp 74 20 (ls) (.int y :: .int x :: st) h Q ↔ Wp 74 21 (ls) (.int (x - y) :: st) h Q) ∧
  (∀ (ls : Lo) (st : List Value) (h : Hp) (Q : Option Value → Hp → Prop) (x0 : Int32) (x1 : Int32) (x2 : Int32), Wp 74 21 (ls) (.int x2 :: .int x1 :: .int x0 :: st) h Q ↔ (wsum st ≤ 8 ∧ Call 87 [some (.int x0), some (.int x1), some (.int x2)] h 74 24 ls st Q)) ∧
  (∀ (ls : Lo) (st : List Value) (h : Hp) (Q : Option Value → Hp → Prop) (x : Int32), Wp 74 24 (ls) (.int x :: st) h Q ↔ Br 74 42 27 ls st h Q (x = 0)) ∧
  (∀ (ls : Lo) (st : List Value) (h : Hp) (Q : Option Value → Hp → Prop) (l0 l1 l2 : Option Value) (x : Int32), Wp 74 27 (l0 :: l1 :: l2 :: some (.int x) :: ls) (st) h Q ↔ Wp 74 28 (l0 :: l1 :: l2 :: some (.int x) :: ls) (.int x :: st) h Q) ∧
  (∀ (ls : Lo) (st : List Value) (h : Hp) (Q : Option Value → Hp → Prop), Wp 74 28 (ls) (st) h Q ↔ Wp 74 29 (ls) (.int (0) :: st) h Q) ∧
  (∀ (ls : Lo) (st : List Value) (h : Hp) (Q : Option Value → Hp → Prop) (l0 l1 l2 l3 l4 : Option Value) (i : Nat), Wp 74 29 (l0 :: l1 :: l2 :: l3 :: l4 :: some (.ref i) :: ls) (st) h Q ↔ Wp 74 31 (l0 :: l1 :: l2 :: l3 :: l4 :: some (.ref i) :: ls) (.ref i :: st) h Q) ∧
  (∀ (ls : Lo) (st : List Value) (n sl : Nat) (C Z : Nat → Nat) (I : Nat → Nat → Int32) (L : Nat → Nat → Int64) (R : Nat → Nat → Nat) (Q : Option Value → Hp → Prop) (i : Nat), Wp 74 31 (ls) (.ref i :: st) (n, sl, C, Z, I, L, R) Q ↔ (inG 7 (C i) = true ∧ Wp 74 34 (ls) (.int (I i 1) :: st) (n, sl, C, Z, I, L, R) Q)) ∧
  (∀ (ls : Lo) (st : List Value) (h : Hp) (Q : Option Value → Hp → Prop), Wp 74 34 (ls) (st) h Q ↔ Wp 74 35 (ls) (.int (1) :: st) h Q) ∧
  (∀ (ls : Lo) (st : List Value) (h : Hp) (Q : Option Value → Hp → Prop) (x y : Int32), Wp 74 35 (ls) (.int y :: .int x :: st) h Q ↔ Wp 74 36 (ls) (.int (x - y) :: st) h Q) ∧
  (∀ (ls : Lo) (st : List Value) (h : Hp) (Q : Option Value → Hp → Prop) (x0 : Int32) (x1 : Int32) (x2 : Int32), Wp 74 36 (ls) (.int x2 :: .int x1 :: .int x0 :: st) h Q ↔ (wsum st ≤ 8 ∧ Call 87 [some (.int x0), some (.int x1), some (.int x2)] h 74 39 ls st Q)) ∧
  (∀ (ls : Lo) (st : List Value) (h : Hp) (Q : Option Value → Hp → Prop) (x : Int32), Wp 74 39 (ls) (.int x :: st) h Q ↔ Br 74 46 42 ls st h Q (¬ x = 0)) ∧
  (∀ (ls : Lo) (st : List Value) (h : Hp) (Q : Option Value → Hp → Prop), Wp 74 42 (ls) (st) h Q ↔ Wp 74 45 (ls) (.long (-4611686018427387904) :: st) h Q) ∧
  (∀ (ls : Lo) (h : Hp) (Q : Option Value → Hp → Prop) (a : Int64), Wp 74 45 (ls) ([.long a]) h Q ↔ Q (some (.long a)) h) ∧
  (∀ (ls : Lo) (st : List Value) (h : Hp) (Q : Option Value → Hp → Prop)  (i : Nat), Wp 74 46 (some (.ref i) :: ls) (st) h Q ↔ Wp 74 47 (some (.ref i) :: ls) (.ref i :: st) h Q) := ⟨by intro ls st h Q i; exact e_aload_n d74_0 rfl,
  by intro ls st h Q l0 x; exact e_iload_n d74_1 rfl,
  by intro ls st n sl C Z I L R Q x0 i hh; exact e_iv (k2 := 92) (c := 10) (as := [.int x0]) d74_2 rfl (by decide) rfl rfl (by decide +kernel) (Nat.le_of_ble_eq_true rfl) rfl hh,
  by intro ls st h Q l0 l1 l2 l3 l4 l5 i; exact e_astore d74_5 rfl,
  by intro ls st h Q l0 l1 l2 l3 l4 i; exact e_aload d74_7 rfl,
  by intro ls st h Q i; exact e_ifnull d74_9 (by decide),
  by intro ls st h Q l0 l1 x; exact e_iload_n d74_12 rfl,
  by intro ls st h Q; exact e_iconst d74_13 rfl,
  by intro ls st h Q l0 l1 l2 l3 l4 i; exact e_aload d74_14 rfl,
  by intro ls st n sl C Z I L R Q i; exact e_get (g := 7) (s := 1) (ty := 0) d74_16 rfl rfl rfl,
  by intro ls st h Q; exact e_iconst d74_19 rfl,
  by intro ls st h Q x y; exact e_isub d74_20,
  by intro ls st h Q x0 x1 x2; exact e_is (k2 := 87) (as := [.int x0, .int x1, .int x2]) d74_21 rfl (by decide) rfl rfl (by decide +kernel) (Nat.le_of_ble_eq_true rfl) rfl,
  by intro ls st h Q x; exact e_if d74_24 (by decide) c_eq,
  by intro ls st h Q l0 l1 l2 x; exact e_iload_n d74_27 rfl,
  by intro ls st h Q; exact e_iconst d74_28 rfl,
  by intro ls st h Q l0 l1 l2 l3 l4 i; exact e_aload d74_29 rfl,
  by intro ls st n sl C Z I L R Q i; exact e_get (g := 7) (s := 1) (ty := 0) d74_31 rfl rfl rfl,
  by intro ls st h Q; exact e_iconst d74_34 rfl,
  by intro ls st h Q x y; exact e_isub d74_35,
  by intro ls st h Q x0 x1 x2; exact e_is (k2 := 87) (as := [.int x0, .int x1, .int x2]) d74_36 rfl (by decide) rfl rfl (by decide +kernel) (Nat.le_of_ble_eq_true rfl) rfl,
  by intro ls st h Q x; exact e_if d74_39 (by decide) c_ne,
  by intro ls st h Q; exact e_ldc2 (p := 544) d74_42 rfl,
  by intros; exact e_rL d74_45 rfl,
  by intro ls st h Q i; exact e_aload_n d74_46 rfl⟩
set_option maxRecDepth 20000 in
theorem S74_1 : (∀ (ls : Lo) (st : List Value) (n sl : Nat) (C Z : Nat → Nat) (I : Nat → Nat → Int32) (L : Nat → Nat → Int64) (R : Nat → Nat → Nat) (Q : Option Value → Hp → Prop) (i : Nat), Wp 74 47 (ls) (.ref i :: st) (n, sl, C, Z, I, L, R) Q ↔ (C i = 10 ∧ Wp 74 50 (ls) (.ref (R i 9) :: st) (n, sl, C, Z, I, L, R) Q)) ∧
  (∀ (ls : Lo) (st : List Value) (h : Hp) (Q : Option Value → Hp → Prop) (l0 l1 l2 l3 l4 : Option Value) (i : Nat), Wp 74 50 (l0 :: l1 :: l2 :: l3 :: l4 :: some (.ref i) :: ls) (st) h Q ↔ Wp 74 52 (l0 :: l1 :: l2 :: l3 :: l4 :: some (.ref i) :: ls) (.ref i :: st) h Q) ∧
  (∀ (ls : Lo) (st : List Value) (n sl : Nat) (C Z : Nat → Nat) (I : Nat → Nat → Int32) (L : Nat → Nat → Int64) (R : Nat → Nat → Nat) (Q : Option Value → Hp → Prop) (x0 : Nat) (i : Nat), C i = 1 → (Wp 74 52 (ls) (.ref x0 :: .ref i :: st) (n, sl, C, Z, I, L, R) Q ↔ (wsum st ≤ 8 ∧ Call 1 [some (.ref i), some (.ref x0), none] (n, sl, C, Z, I, L, R) 74 55 ls st Q))) ∧
  (∀ (ls : Lo) (st : List Value) (h : Hp) (Q : Option Value → Hp → Prop)  (i : Nat), Wp 74 55 (some (.ref i) :: ls) (st) h Q ↔ Wp 74 56 (some (.ref i) :: ls) (.ref i :: st) h Q) ∧
  (∀ (ls : Lo) (st : List Value) (n sl : Nat) (C Z : Nat → Nat) (I : Nat → Nat → Int32) (L : Nat → Nat → Int64) (R : Nat → Nat → Nat) (Q : Option Value → Hp → Prop) (i : Nat), Wp 74 56 (ls) (.ref i :: st) (n, sl, C, Z, I, L, R) Q ↔ (C i = 10 ∧ Wp 74 59 (ls) (.ref (R i 9) :: st) (n, sl, C, Z, I, L, R) Q)) ∧
  (∀ (ls : Lo) (st : List Value) (n sl : Nat) (C Z : Nat → Nat) (I : Nat → Nat → Int32) (L : Nat → Nat → Int64) (R : Nat → Nat → Nat) (Q : Option Value → Hp → Prop) (i : Nat), Wp 74 59 (ls) (.ref i :: st) (n, sl, C, Z, I, L, R) Q ↔ (C i = 1 ∧ Wp 74 62 (ls) (.int (I i 5) :: st) (n, sl, C, Z, I, L, R) Q)) ∧
  (∀ (ls : Lo) (st : List Value) (h : Hp) (Q : Option Value → Hp → Prop) (x : Int32), Wp 74 62 (ls) (.int x :: st) h Q ↔ Br 74 75 65 ls st h Q (x = 0)) ∧
  (∀ (ls : Lo) (st : List Value) (h : Hp) (Q : Option Value → Hp → Prop) (l0 l1 l2 l3 : Option Value) (x : Int32), Wp 74 65 (l0 :: l1 :: l2 :: l3 :: some (.int x) :: ls) (st) h Q ↔ Wp 74 67 (l0 :: l1 :: l2 :: l3 :: some (.int x) :: ls) (.int x :: st) h Q) ∧
  (∀ (ls : Lo) (st : List Value) (h : Hp) (Q : Option Value → Hp → Prop), Wp 74 67 (ls) (st) h Q ↔ Wp 74 68 (ls) (.int (0) :: st) h Q) ∧
  (∀ (ls : Lo) (st : List Value) (h : Hp) (Q : Option Value → Hp → Prop), Wp 74 68 (ls) (st) h Q ↔ Wp 74 69 (ls) (.int (1) :: st) h Q) ∧
  (∀ (ls : Lo) (st : List Value) (h : Hp) (Q : Option Value → Hp → Prop) (x0 : Int32) (x1 : Int32) (x2 : Int32), Wp 74 69 (ls) (.int x2 :: .int x1 :: .int x0 :: st) h Q ↔ (wsum st ≤ 8 ∧ Call 87 [some (.int x0), some (.int x1), some (.int x2)] h 74 72 ls st Q)) ∧
  (∀ (ls : Lo) (st : List Value) (h : Hp) (Q : Option Value → Hp → Prop) (x : Int32), Wp 74 72 (ls) (.int x :: st) h Q ↔ Br 74 79 75 ls st h Q (¬ x = 0)) ∧
  (∀ (ls : Lo) (st : List Value) (h : Hp) (Q : Option Value → Hp → Prop), Wp 74 75 (ls) (st) h Q ↔ Wp 74 78 (ls) (.long (-4611686018427387904) :: st) h Q) ∧
  (∀ (ls : Lo) (h : Hp) (Q : Option Value → Hp → Prop) (a : Int64), Wp 74 78 (ls) ([.long a]) h Q ↔ Q (some (.long a)) h) ∧
  (∀ (ls : Lo) (st : List Value) (h : Hp) (Q : Option Value → Hp → Prop)  (i : Nat), Wp 74 79 (some (.ref i) :: ls) (st) h Q ↔ Wp 74 80 (some (.ref i) :: ls) (.ref i :: st) h Q) ∧
  (∀ (ls : Lo) (st : List Value) (n sl : Nat) (C Z : Nat → Nat) (I : Nat → Nat → Int32) (L : Nat → Nat → Int64) (R : Nat → Nat → Nat) (Q : Option Value → Hp → Prop) (i : Nat), Wp 74 80 (ls) (.ref i :: st) (n, sl, C, Z, I, L, R) Q ↔ (C i = 10 ∧ Wp 74 83 (ls) (.ref (R i 9) :: st) (n, sl, C, Z, I, L, R) Q)) ∧
  (∀ (ls : Lo) (st : List Value) (h : Hp) (Q : Option Value → Hp → Prop)  (i : Nat), Wp 74 83 (some (.ref i) :: ls) (st) h Q ↔ Wp 74 84 (some (.ref i) :: ls) (.ref i :: st) h Q) ∧
  (∀ (ls : Lo) (st : List Value) (n sl : Nat) (C Z : Nat → Nat) (I : Nat → Nat → Int32) (L : Nat → Nat → Int64) (R : Nat → Nat → Nat) (Q : Option Value → Hp → Prop) (i : Nat), Wp 74 84 (ls) (.ref i :: st) (n, sl, C, Z, I, L, R) Q ↔ (C i = 10 ∧ Wp 74 87 (ls) (.ref (R i 10) :: st) (n, sl, C, Z, I, L, R) Q)) ∧
  (∀ (ls : Lo) (st : List Value) (h : Hp) (Q : Option Value → Hp → Prop) (l0 l1 : Option Value) (x : Int32), Wp 74 87 (l0 :: l1 :: some (.int x) :: ls) (st) h Q ↔ Wp 74 88 (l0 :: l1 :: some (.int x) :: ls) (.int x :: st) h Q) ∧
  (∀ (ls : Lo) (st : List Value) (h : Hp) (Q : Option Value → Hp → Prop) (l0 l1 l2 : Option Value) (x : Int32), Wp 74 88 (l0 :: l1 :: l2 :: some (.int x) :: ls) (st) h Q ↔ Wp 74 89 (l0 :: l1 :: l2 :: some (.int x) :: ls) (.int x :: st) h Q) ∧
  (∀ (ls : Lo) (st : List Value) (h : Hp) (Q : Option Value → Hp → Prop) (x y : Int32), Wp 74 89 (ls) (.int y :: .int x :: st) h Q ↔ Wp 74 90 (ls) (.int (x + y) :: st) h Q) ∧
  (∀ (ls : Lo) (st : List Value) (n sl : Nat) (C Z : Nat → Nat) (I : Nat → Nat → Int32) (L : Nat → Nat → Int64) (R : Nat → Nat → Nat) (Q : Option Value → Hp → Prop) (x0 : Nat) (x1 : Int32) (i : Nat), C i = 1 → (Wp 74 90 (ls) (.int x1 :: .ref x0 :: .ref i :: st) (n, sl, C, Z, I, L, R) Q ↔ (wsum st ≤ 8 ∧ Call 7 [some (.ref i), some (.ref x0), some (.int x1)] (n, sl, C, Z, I, L, R) 74 93 ls st Q))) ∧
  (∀ (ls : Lo) (st : List Value) (h : Hp) (Q : Option Value → Hp → Prop)  (i : Nat), Wp 74 93 (some (.ref i) :: ls) (st) h Q ↔ Wp 74 94 (some (.ref i) :: ls) (.ref i :: st) h Q) ∧
  (∀ (ls : Lo) (st : List Value) (n sl : Nat) (C Z : Nat → Nat) (I : Nat → Nat → Int32) (L : Nat → Nat → Int64) (R : Nat → Nat → Nat) (Q : Option Value → Hp → Prop) (i : Nat), Wp 74 94 (ls) (.ref i :: st) (n, sl, C, Z, I, L, R) Q ↔ (C i = 10 ∧ Wp 74 97 (ls) (.ref (R i 10) :: st) (n, sl, C, Z, I, L, R) Q)) ∧
  (∀ (ls : Lo) (st : List Value) (h : Hp) (Q : Option Value → Hp → Prop) (l0 l1 l2 l3 : Option Value) (x : Int32), Wp 74 97 (l0 :: l1 :: l2 :: l3 :: some (.int x) :: ls) (st) h Q ↔ Wp 74 99 (l0 :: l1 :: l2 :: l3 :: some (.int x) :: ls) (.int x :: st) h Q) := ⟨by intro ls st n sl C Z I L R Q i; exact e_get (g := 9) (s := 9) (ty := 2) d74_47 rfl rfl (inG_ne (by decide)),
  by intro ls st h Q l0 l1 l2 l3 l4 i; exact e_aload d74_50 rfl,
  by intro ls st n sl C Z I L R Q x0 i hh; exact e_iv (k2 := 1) (c := 1) (as := [.ref x0]) d74_52 rfl (by decide) rfl rfl (by decide +kernel) (Nat.le_of_ble_eq_true rfl) rfl hh,
  by intro ls st h Q i; exact e_aload_n d74_55 rfl,
  by intro ls st n sl C Z I L R Q i; exact e_get (g := 9) (s := 9) (ty := 2) d74_56 rfl rfl (inG_ne (by decide)),
  by intro ls st n sl C Z I L R Q i; exact e_get (g := 0) (s := 5) (ty := 3) d74_59 rfl rfl (inG_ne (by decide)),
  by intro ls st h Q x; exact e_if d74_62 (by decide) c_eq,
  by intro ls st h Q l0 l1 l2 l3 x; exact e_iload d74_65 rfl,
  by intro ls st h Q; exact e_iconst d74_67 rfl,
  by intro ls st h Q; exact e_iconst d74_68 rfl,
  by intro ls st h Q x0 x1 x2; exact e_is (k2 := 87) (as := [.int x0, .int x1, .int x2]) d74_69 rfl (by decide) rfl rfl (by decide +kernel) (Nat.le_of_ble_eq_true rfl) rfl,
  by intro ls st h Q x; exact e_if d74_72 (by decide) c_ne,
  by intro ls st h Q; exact e_ldc2 (p := 544) d74_75 rfl,
  by intros; exact e_rL d74_78 rfl,
  by intro ls st h Q i; exact e_aload_n d74_79 rfl,
  by intro ls st n sl C Z I L R Q i; exact e_get (g := 9) (s := 9) (ty := 2) d74_80 rfl rfl (inG_ne (by decide)),
  by intro ls st h Q i; exact e_aload_n d74_83 rfl,
  by intro ls st n sl C Z I L R Q i; exact e_get (g := 9) (s := 10) (ty := 2) d74_84 rfl rfl (inG_ne (by decide)),
  by intro ls st h Q l0 l1 x; exact e_iload_n d74_87 rfl,
  by intro ls st h Q l0 l1 l2 x; exact e_iload_n d74_88 rfl,
  by intro ls st h Q x y; exact e_iadd d74_89,
  by intro ls st n sl C Z I L R Q x0 x1 i hh; exact e_iv (k2 := 7) (c := 1) (as := [.ref x0, .int x1]) d74_90 rfl (by decide) rfl rfl (by decide +kernel) (Nat.le_of_ble_eq_true rfl) rfl hh,
  by intro ls st h Q i; exact e_aload_n d74_93 rfl,
  by intro ls st n sl C Z I L R Q i; exact e_get (g := 9) (s := 10) (ty := 2) d74_94 rfl rfl (inG_ne (by decide)),
  by intro ls st h Q l0 l1 l2 l3 x; exact e_iload d74_97 rfl⟩
set_option maxRecDepth 20000 in
theorem S74_2 : (∀ (ls : Lo) (st : List Value) (n sl : Nat) (C Z : Nat → Nat) (I : Nat → Nat → Int32) (L : Nat → Nat → Int64) (R : Nat → Nat → Nat) (Q : Option Value → Hp → Prop) (x0 : Int32) (i : Nat), C i = 3 → (Wp 74 99 (ls) (.int x0 :: .ref i :: st) (n, sl, C, Z, I, L, R) Q ↔ (wsum st ≤ 8 ∧ Call 14 [some (.ref i), some (.int x0)] (n, sl, C, Z, I, L, R) 74 102 ls st Q))) ∧
  (∀ (ls : Lo) (h : Hp) (Q : Option Value → Hp → Prop) (a : Int64), Wp 74 102 (ls) ([.long a]) h Q ↔ Q (some (.long a)) h) := ⟨by intro ls st n sl C Z I L R Q x0 i hh; exact e_iv (k2 := 14) (c := 3) (as := [.int x0]) d74_99 rfl (by decide) rfl rfl (by decide +kernel) (Nat.le_of_ble_eq_true rfl) rfl hh,
  by intros; exact e_rL d74_102 rfl⟩
theorem d75_0 : decode (byt 75) 0 = .ok (.aload_n 0, 1) := by decide +kernel
theorem d75_1 : decode (byt 75) 1 = .ok (.iload_n 1, 1) := by decide +kernel
theorem d75_2 : decode (byt 75) 2 = .ok (.invokevirtual 84, 3) := by decide +kernel
theorem d75_5 : decode (byt 75) 5 = .ok (.astore_n 2, 1) := by decide +kernel
theorem d75_6 : decode (byt 75) 6 = .ok (.aload_n 2, 1) := by decide +kernel
theorem d75_7 : decode (byt 75) 7 = .ok (.ifnonnull 6, 3) := by decide +kernel
theorem d75_10 : decode (byt 75) 10 = .ok (.bipush (-2), 2) := by decide +kernel
theorem d75_12 : decode (byt 75) 12 = .ok (.ireturn, 1) := by decide +kernel
theorem d75_13 : decode (byt 75) 13 = .ok (.aload_n 0, 1) := by decide +kernel
theorem d75_14 : decode (byt 75) 14 = .ok (.getfield 55, 3) := by decide +kernel
theorem d75_17 : decode (byt 75) 17 = .ok (.aload_n 2, 1) := by decide +kernel
theorem d75_18 : decode (byt 75) 18 = .ok (.invokevirtual 147, 3) := by decide +kernel
theorem d75_21 : decode (byt 75) 21 = .ok (.aload_n 0, 1) := by decide +kernel
theorem d75_22 : decode (byt 75) 22 = .ok (.getfield 55, 3) := by decide +kernel
theorem d75_25 : decode (byt 75) 25 = .ok (.getfield 164, 3) := by decide +kernel
theorem d75_28 : decode (byt 75) 28 = .ok (.ifCond .ne 6, 3) := by decide +kernel
theorem d75_31 : decode (byt 75) 31 = .ok (.bipush (-3), 2) := by decide +kernel
theorem d75_33 : decode (byt 75) 33 = .ok (.ireturn, 1) := by decide +kernel
theorem d75_34 : decode (byt 75) 34 = .ok (.aload_n 0, 1) := by decide +kernel
theorem d75_35 : decode (byt 75) 35 = .ok (.aload_n 0, 1) := by decide +kernel
theorem d75_36 : decode (byt 75) 36 = .ok (.aload_n 0, 1) := by decide +kernel
theorem d75_37 : decode (byt 75) 37 = .ok (.getfield 19, 3) := by decide +kernel
theorem d75_40 : decode (byt 75) 40 = .ok (.aload_n 2, 1) := by decide +kernel
theorem d75_41 : decode (byt 75) 41 = .ok (.invokevirtual 212, 3) := by decide +kernel
theorem d75_44 : decode (byt 75) 44 = .ok (.putfield 26, 3) := by decide +kernel
theorem d75_47 : decode (byt 75) 47 = .ok (.aload_n 0, 1) := by decide +kernel
theorem d75_48 : decode (byt 75) 48 = .ok (.getfield 26, 3) := by decide +kernel
theorem d75_51 : decode (byt 75) 51 = .ok (.ireturn, 1) := by decide +kernel
set_option maxRecDepth 20000 in
theorem S75_0 : (∀ (ls : Lo) (st : List Value) (h : Hp) (Q : Option Value → Hp → Prop)  (i : Nat), Wp 75 0 (some (.ref i) :: ls) (st) h Q ↔ Wp 75 1 (some (.ref i) :: ls) (.ref i :: st) h Q) ∧
  (∀ (ls : Lo) (st : List Value) (h : Hp) (Q : Option Value → Hp → Prop) (l0 : Option Value) (x : Int32), Wp 75 1 (l0 :: some (.int x) :: ls) (st) h Q ↔ Wp 75 2 (l0 :: some (.int x) :: ls) (.int x :: st) h Q) ∧
  (∀ (ls : Lo) (st : List Value) (n sl : Nat) (C Z : Nat → Nat) (I : Nat → Nat → Int32) (L : Nat → Nat → Int64) (R : Nat → Nat → Nat) (Q : Option Value → Hp → Prop) (x0 : Int32) (i : Nat), C i = 10 → (Wp 75 2 (ls) (.int x0 :: .ref i :: st) (n, sl, C, Z, I, L, R) Q ↔ (wsum st ≤ 8 ∧ Call 92 [some (.ref i), some (.int x0)] (n, sl, C, Z, I, L, R) 75 5 ls st Q))) ∧
  (∀ (ls : Lo) (st : List Value) (h : Hp) (Q : Option Value → Hp → Prop) (l0 l1 l2 : Option Value) (i : Nat), Wp 75 5 (l0 :: l1 :: l2 :: ls) (.ref i :: st) h Q ↔ Wp 75 6 (l0 :: clr l1 :: some (.ref i) :: ls) (st) h Q) ∧
  (∀ (ls : Lo) (st : List Value) (h : Hp) (Q : Option Value → Hp → Prop) (l0 l1 : Option Value) (i : Nat), Wp 75 6 (l0 :: l1 :: some (.ref i) :: ls) (st) h Q ↔ Wp 75 7 (l0 :: l1 :: some (.ref i) :: ls) (.ref i :: st) h Q) ∧
  (∀ (ls : Lo) (st : List Value) (h : Hp) (Q : Option Value → Hp → Prop) (i : Nat), Wp 75 7 (ls) (.ref i :: st) h Q ↔ Br 75 13 10 ls st h Q (¬ i = 0)) ∧
  (∀ (ls : Lo) (st : List Value) (h : Hp) (Q : Option Value → Hp → Prop), Wp 75 10 (ls) (st) h Q ↔ Wp 75 12 (ls) (.int (-2) :: st) h Q) ∧
  (∀ (ls : Lo) (h : Hp) (Q : Option Value → Hp → Prop) (x : Int32), Wp 75 12 (ls) ([.int x]) h Q ↔ Q (some (.int x)) h) ∧
  (∀ (ls : Lo) (st : List Value) (h : Hp) (Q : Option Value → Hp → Prop)  (i : Nat), Wp 75 13 (some (.ref i) :: ls) (st) h Q ↔ Wp 75 14 (some (.ref i) :: ls) (.ref i :: st) h Q) ∧
  (∀ (ls : Lo) (st : List Value) (n sl : Nat) (C Z : Nat → Nat) (I : Nat → Nat → Int32) (L : Nat → Nat → Int64) (R : Nat → Nat → Nat) (Q : Option Value → Hp → Prop) (i : Nat), Wp 75 14 (ls) (.ref i :: st) (n, sl, C, Z, I, L, R) Q ↔ (C i = 10 ∧ Wp 75 17 (ls) (.ref (R i 9) :: st) (n, sl, C, Z, I, L, R) Q)) ∧
  (∀ (ls : Lo) (st : List Value) (h : Hp) (Q : Option Value → Hp → Prop) (l0 l1 : Option Value) (i : Nat), Wp 75 17 (l0 :: l1 :: some (.ref i) :: ls) (st) h Q ↔ Wp 75 18 (l0 :: l1 :: some (.ref i) :: ls) (.ref i :: st) h Q) ∧
  (∀ (ls : Lo) (st : List Value) (n sl : Nat) (C Z : Nat → Nat) (I : Nat → Nat → Int32) (L : Nat → Nat → Int64) (R : Nat → Nat → Nat) (Q : Option Value → Hp → Prop) (x0 : Nat) (i : Nat), C i = 1 → (Wp 75 18 (ls) (.ref x0 :: .ref i :: st) (n, sl, C, Z, I, L, R) Q ↔ (wsum st ≤ 8 ∧ Call 1 [some (.ref i), some (.ref x0), none] (n, sl, C, Z, I, L, R) 75 21 ls st Q))) ∧
  (∀ (ls : Lo) (st : List Value) (h : Hp) (Q : Option Value → Hp → Prop)  (i : Nat), Wp 75 21 (some (.ref i) :: ls) (st) h Q ↔ Wp 75 22 (some (.ref i) :: ls) (.ref i :: st) h Q) ∧
  (∀ (ls : Lo) (st : List Value) (n sl : Nat) (C Z : Nat → Nat) (I : Nat → Nat → Int32) (L : Nat → Nat → Int64) (R : Nat → Nat → Nat) (Q : Option Value → Hp → Prop) (i : Nat), Wp 75 22 (ls) (.ref i :: st) (n, sl, C, Z, I, L, R) Q ↔ (C i = 10 ∧ Wp 75 25 (ls) (.ref (R i 9) :: st) (n, sl, C, Z, I, L, R) Q)) ∧
  (∀ (ls : Lo) (st : List Value) (n sl : Nat) (C Z : Nat → Nat) (I : Nat → Nat → Int32) (L : Nat → Nat → Int64) (R : Nat → Nat → Nat) (Q : Option Value → Hp → Prop) (i : Nat), Wp 75 25 (ls) (.ref i :: st) (n, sl, C, Z, I, L, R) Q ↔ (C i = 1 ∧ Wp 75 28 (ls) (.int (I i 5) :: st) (n, sl, C, Z, I, L, R) Q)) ∧
  (∀ (ls : Lo) (st : List Value) (h : Hp) (Q : Option Value → Hp → Prop) (x : Int32), Wp 75 28 (ls) (.int x :: st) h Q ↔ Br 75 34 31 ls st h Q (¬ x = 0)) ∧
  (∀ (ls : Lo) (st : List Value) (h : Hp) (Q : Option Value → Hp → Prop), Wp 75 31 (ls) (st) h Q ↔ Wp 75 33 (ls) (.int (-3) :: st) h Q) ∧
  (∀ (ls : Lo) (h : Hp) (Q : Option Value → Hp → Prop) (x : Int32), Wp 75 33 (ls) ([.int x]) h Q ↔ Q (some (.int x)) h) ∧
  (∀ (ls : Lo) (st : List Value) (h : Hp) (Q : Option Value → Hp → Prop)  (i : Nat), Wp 75 34 (some (.ref i) :: ls) (st) h Q ↔ Wp 75 35 (some (.ref i) :: ls) (.ref i :: st) h Q) ∧
  (∀ (ls : Lo) (st : List Value) (h : Hp) (Q : Option Value → Hp → Prop)  (i : Nat), Wp 75 35 (some (.ref i) :: ls) (st) h Q ↔ Wp 75 36 (some (.ref i) :: ls) (.ref i :: st) h Q) ∧
  (∀ (ls : Lo) (st : List Value) (h : Hp) (Q : Option Value → Hp → Prop)  (i : Nat), Wp 75 36 (some (.ref i) :: ls) (st) h Q ↔ Wp 75 37 (some (.ref i) :: ls) (.ref i :: st) h Q) ∧
  (∀ (ls : Lo) (st : List Value) (n sl : Nat) (C Z : Nat → Nat) (I : Nat → Nat → Int32) (L : Nat → Nat → Int64) (R : Nat → Nat → Nat) (Q : Option Value → Hp → Prop) (i : Nat), Wp 75 37 (ls) (.ref i :: st) (n, sl, C, Z, I, L, R) Q ↔ (C i = 10 ∧ Wp 75 40 (ls) (.ref (R i 2) :: st) (n, sl, C, Z, I, L, R) Q)) ∧
  (∀ (ls : Lo) (st : List Value) (h : Hp) (Q : Option Value → Hp → Prop) (l0 l1 : Option Value) (i : Nat), Wp 75 40 (l0 :: l1 :: some (.ref i) :: ls) (st) h Q ↔ Wp 75 41 (l0 :: l1 :: some (.ref i) :: ls) (.ref i :: st) h Q) ∧
  (∀ (ls : Lo) (st : List Value) (n sl : Nat) (C Z : Nat → Nat) (I : Nat → Nat → Int32) (L : Nat → Nat → Int64) (R : Nat → Nat → Nat) (Q : Option Value → Hp → Prop) (x0 : Nat) (x1 : Nat) (i : Nat), C i = 10 → (Wp 75 41 (ls) (.ref x1 :: .ref x0 :: .ref i :: st) (n, sl, C, Z, I, L, R) Q ↔ (wsum st ≤ 8 ∧ Call 101 [some (.ref i), some (.ref x0), some (.ref x1), none, none, none, none] (n, sl, C, Z, I, L, R) 75 44 ls st Q))) ∧
  (∀ (ls : Lo) (st : List Value) (n sl : Nat) (C Z : Nat → Nat) (I : Nat → Nat → Int32) (L : Nat → Nat → Int64) (R : Nat → Nat → Nat) (Q : Option Value → Hp → Prop) (i : Nat) (x : Int32), Wp 75 44 (ls) (.int x :: .ref i :: st) (n, sl, C, Z, I, L, R) Q ↔ (C i = 10 ∧ Wp 75 47 (ls) (st) (n, sl, C, Z, u2 I i 4 x, L, R) Q)) := ⟨by intro ls st h Q i; exact e_aload_n d75_0 rfl,
  by intro ls st h Q l0 x; exact e_iload_n d75_1 rfl,
  by intro ls st n sl C Z I L R Q x0 i hh; exact e_iv (k2 := 92) (c := 10) (as := [.int x0]) d75_2 rfl (by decide) rfl rfl (by decide +kernel) (Nat.le_of_ble_eq_true rfl) rfl hh,
  by intro ls st h Q l0 l1 l2 i; exact e_astore_n d75_5 rfl,
  by intro ls st h Q l0 l1 i; exact e_aload_n d75_6 rfl,
  by intro ls st h Q i; exact e_ifnn d75_7 (by decide),
  by intro ls st h Q; exact e_bipush d75_10 rfl,
  by intros; exact e_rI (p := True) d75_12 rfl,
  by intro ls st h Q i; exact e_aload_n d75_13 rfl,
  by intro ls st n sl C Z I L R Q i; exact e_get (g := 9) (s := 9) (ty := 2) d75_14 rfl rfl (inG_ne (by decide)),
  by intro ls st h Q l0 l1 i; exact e_aload_n d75_17 rfl,
  by intro ls st n sl C Z I L R Q x0 i hh; exact e_iv (k2 := 1) (c := 1) (as := [.ref x0]) d75_18 rfl (by decide) rfl rfl (by decide +kernel) (Nat.le_of_ble_eq_true rfl) rfl hh,
  by intro ls st h Q i; exact e_aload_n d75_21 rfl,
  by intro ls st n sl C Z I L R Q i; exact e_get (g := 9) (s := 9) (ty := 2) d75_22 rfl rfl (inG_ne (by decide)),
  by intro ls st n sl C Z I L R Q i; exact e_get (g := 0) (s := 5) (ty := 3) d75_25 rfl rfl (inG_ne (by decide)),
  by intro ls st h Q x; exact e_if d75_28 (by decide) c_ne,
  by intro ls st h Q; exact e_bipush d75_31 rfl,
  by intros; exact e_rI (p := True) d75_33 rfl,
  by intro ls st h Q i; exact e_aload_n d75_34 rfl,
  by intro ls st h Q i; exact e_aload_n d75_35 rfl,
  by intro ls st h Q i; exact e_aload_n d75_36 rfl,
  by intro ls st n sl C Z I L R Q i; exact e_get (g := 9) (s := 2) (ty := 2) d75_37 rfl rfl (inG_ne (by decide)),
  by intro ls st h Q l0 l1 i; exact e_aload_n d75_40 rfl,
  by intro ls st n sl C Z I L R Q x0 x1 i hh; exact e_iv (k2 := 101) (c := 10) (as := [.ref x0, .ref x1]) d75_41 rfl (by decide) rfl rfl (by decide +kernel) (Nat.le_of_ble_eq_true rfl) rfl hh,
  by intro ls st n sl C Z I L R Q i x; exact e_putI (g := 9) (s := 4) d75_44 rfl (Or.inl rfl) (inG_ne (by decide))⟩
set_option maxRecDepth 20000 in
theorem S75_1 : (∀ (ls : Lo) (st : List Value) (h : Hp) (Q : Option Value → Hp → Prop)  (i : Nat), Wp 75 47 (some (.ref i) :: ls) (st) h Q ↔ Wp 75 48 (some (.ref i) :: ls) (.ref i :: st) h Q) ∧
  (∀ (ls : Lo) (st : List Value) (n sl : Nat) (C Z : Nat → Nat) (I : Nat → Nat → Int32) (L : Nat → Nat → Int64) (R : Nat → Nat → Nat) (Q : Option Value → Hp → Prop) (i : Nat), Wp 75 48 (ls) (.ref i :: st) (n, sl, C, Z, I, L, R) Q ↔ (C i = 10 ∧ Wp 75 51 (ls) (.int (I i 4) :: st) (n, sl, C, Z, I, L, R) Q)) ∧
  (∀ (ls : Lo) (h : Hp) (Q : Option Value → Hp → Prop) (x : Int32), Wp 75 51 (ls) ([.int x]) h Q ↔ Q (some (.int x)) h) := ⟨by intro ls st h Q i; exact e_aload_n d75_47 rfl,
  by intro ls st n sl C Z I L R Q i; exact e_get (g := 9) (s := 4) (ty := 0) d75_48 rfl rfl (inG_ne (by decide)),
  by intros; exact e_rI (p := True) d75_51 rfl⟩
theorem d76_0 : decode (byt 76) 0 = .ok (.iload_n 1, 1) := by decide +kernel
theorem d76_1 : decode (byt 76) 1 = .ok (.iconst 0, 1) := by decide +kernel
theorem d76_2 : decode (byt 76) 2 = .ok (.aload_n 0, 1) := by decide +kernel
theorem d76_3 : decode (byt 76) 3 = .ok (.getfield 26, 3) := by decide +kernel
theorem d76_6 : decode (byt 76) 6 = .ok (.iconst 1, 1) := by decide +kernel
theorem d76_7 : decode (byt 76) 7 = .ok (.isub, 1) := by decide +kernel
theorem d76_8 : decode (byt 76) 8 = .ok (.invokestatic 66, 3) := by decide +kernel
theorem d76_11 : decode (byt 76) 11 = .ok (.ifCond .eq 12, 3) := by decide +kernel
theorem d76_14 : decode (byt 76) 14 = .ok (.aload_n 0, 1) := by decide +kernel
theorem d76_15 : decode (byt 76) 15 = .ok (.getfield 19, 3) := by decide +kernel
theorem d76_18 : decode (byt 76) 18 = .ok (.iload_n 1, 1) := by decide +kernel
theorem d76_19 : decode (byt 76) 19 = .ok (.laload, 1) := by decide +kernel
theorem d76_20 : decode (byt 76) 20 = .ok (.goto 6, 3) := by decide +kernel
theorem d76_23 : decode (byt 76) 23 = .ok (.ldc2_w 169, 3) := by decide +kernel
theorem d76_26 : decode (byt 76) 26 = .ok (.lreturn, 1) := by decide +kernel
set_option maxRecDepth 20000 in
theorem S76_0 : (∀ (ls : Lo) (st : List Value) (h : Hp) (Q : Option Value → Hp → Prop) (l0 : Option Value) (x : Int32), Wp 76 0 (l0 :: some (.int x) :: ls) (st) h Q ↔ Wp 76 1 (l0 :: some (.int x) :: ls) (.int x :: st) h Q) ∧
  (∀ (ls : Lo) (st : List Value) (h : Hp) (Q : Option Value → Hp → Prop), Wp 76 1 (ls) (st) h Q ↔ Wp 76 2 (ls) (.int (0) :: st) h Q) ∧
  (∀ (ls : Lo) (st : List Value) (h : Hp) (Q : Option Value → Hp → Prop)  (i : Nat), Wp 76 2 (some (.ref i) :: ls) (st) h Q ↔ Wp 76 3 (some (.ref i) :: ls) (.ref i :: st) h Q) ∧
  (∀ (ls : Lo) (st : List Value) (n sl : Nat) (C Z : Nat → Nat) (I : Nat → Nat → Int32) (L : Nat → Nat → Int64) (R : Nat → Nat → Nat) (Q : Option Value → Hp → Prop) (i : Nat), Wp 76 3 (ls) (.ref i :: st) (n, sl, C, Z, I, L, R) Q ↔ (C i = 10 ∧ Wp 76 6 (ls) (.int (I i 4) :: st) (n, sl, C, Z, I, L, R) Q)) ∧
  (∀ (ls : Lo) (st : List Value) (h : Hp) (Q : Option Value → Hp → Prop), Wp 76 6 (ls) (st) h Q ↔ Wp 76 7 (ls) (.int (1) :: st) h Q) ∧
  (∀ (ls : Lo) (st : List Value) (h : Hp) (Q : Option Value → Hp → Prop) (x y : Int32), Wp 76 7 (ls) (.int y :: .int x :: st) h Q ↔ Wp 76 8 (ls) (.int (x - y) :: st) h Q) ∧
  (∀ (ls : Lo) (st : List Value) (h : Hp) (Q : Option Value → Hp → Prop) (x0 : Int32) (x1 : Int32) (x2 : Int32), Wp 76 8 (ls) (.int x2 :: .int x1 :: .int x0 :: st) h Q ↔ (wsum st ≤ 8 ∧ Call 87 [some (.int x0), some (.int x1), some (.int x2)] h 76 11 ls st Q)) ∧
  (∀ (ls : Lo) (st : List Value) (h : Hp) (Q : Option Value → Hp → Prop) (x : Int32), Wp 76 11 (ls) (.int x :: st) h Q ↔ Br 76 23 14 ls st h Q (x = 0)) ∧
  (∀ (ls : Lo) (st : List Value) (h : Hp) (Q : Option Value → Hp → Prop)  (i : Nat), Wp 76 14 (some (.ref i) :: ls) (st) h Q ↔ Wp 76 15 (some (.ref i) :: ls) (.ref i :: st) h Q) ∧
  (∀ (ls : Lo) (st : List Value) (n sl : Nat) (C Z : Nat → Nat) (I : Nat → Nat → Int32) (L : Nat → Nat → Int64) (R : Nat → Nat → Nat) (Q : Option Value → Hp → Prop) (i : Nat), Wp 76 15 (ls) (.ref i :: st) (n, sl, C, Z, I, L, R) Q ↔ (C i = 10 ∧ Wp 76 18 (ls) (.ref (R i 2) :: st) (n, sl, C, Z, I, L, R) Q)) ∧
  (∀ (ls : Lo) (st : List Value) (h : Hp) (Q : Option Value → Hp → Prop) (l0 : Option Value) (x : Int32), Wp 76 18 (l0 :: some (.int x) :: ls) (st) h Q ↔ Wp 76 19 (l0 :: some (.int x) :: ls) (.int x :: st) h Q) ∧
  (∀ (ls : Lo) (st : List Value) (n sl : Nat) (C Z : Nat → Nat) (I : Nat → Nat → Int32) (L : Nat → Nat → Int64) (R : Nat → Nat → Nat) (Q : Option Value → Hp → Prop) (i : Nat) (y : Int32), Wp 76 19 (ls) (.int y :: .ref i :: st) (n, sl, C, Z, I, L, R) Q ↔ ((inb y (Z i) = true ∧ C i = 22) ∧ Wp 76 20 (ls) (.long (L i (ix y)) :: st) (n, sl, C, Z, I, L, R) Q)) ∧
  (∀ (ls : Lo) (st : List Value) (h : Hp) (Q : Option Value → Hp → Prop), Wp 76 20 (ls) (st) h Q ↔ Wp 76 26 (ls) (st) h Q) ∧
  (∀ (ls : Lo) (st : List Value) (h : Hp) (Q : Option Value → Hp → Prop), Wp 76 23 (ls) (st) h Q ↔ Wp 76 26 (ls) (.long (-4611686018427387904) :: st) h Q) ∧
  (∀ (ls : Lo) (h : Hp) (Q : Option Value → Hp → Prop) (a : Int64), Wp 76 26 (ls) ([.long a]) h Q ↔ Q (some (.long a)) h) := ⟨by intro ls st h Q l0 x; exact e_iload_n d76_0 rfl,
  by intro ls st h Q; exact e_iconst d76_1 rfl,
  by intro ls st h Q i; exact e_aload_n d76_2 rfl,
  by intro ls st n sl C Z I L R Q i; exact e_get (g := 9) (s := 4) (ty := 0) d76_3 rfl rfl (inG_ne (by decide)),
  by intro ls st h Q; exact e_iconst d76_6 rfl,
  by intro ls st h Q x y; exact e_isub d76_7,
  by intro ls st h Q x0 x1 x2; exact e_is (k2 := 87) (as := [.int x0, .int x1, .int x2]) d76_8 rfl (by decide) rfl rfl (by decide +kernel) (Nat.le_of_ble_eq_true rfl) rfl,
  by intro ls st h Q x; exact e_if d76_11 (by decide) c_eq,
  by intro ls st h Q i; exact e_aload_n d76_14 rfl,
  by intro ls st n sl C Z I L R Q i; exact e_get (g := 9) (s := 2) (ty := 2) d76_15 rfl rfl (inG_ne (by decide)),
  by intro ls st h Q l0 x; exact e_iload_n d76_18 rfl,
  by intro ls st n sl C Z I L R Q i y; exact e_lald d76_19,
  by intro ls st h Q; exact e_goto d76_20 (by decide),
  by intro ls st h Q; exact e_ldc2 (p := 544) d76_23 rfl,
  by intros; exact e_rL d76_26 rfl⟩
theorem d77_0 : decode (byt 77) 0 = .ok (.iload_n 1, 1) := by decide +kernel
theorem d77_1 : decode (byt 77) 1 = .ok (.iconst 0, 1) := by decide +kernel
theorem d77_2 : decode (byt 77) 2 = .ok (.aload_n 0, 1) := by decide +kernel
theorem d77_3 : decode (byt 77) 3 = .ok (.getfield 26, 3) := by decide +kernel
theorem d77_6 : decode (byt 77) 6 = .ok (.iconst 1, 1) := by decide +kernel
theorem d77_7 : decode (byt 77) 7 = .ok (.isub, 1) := by decide +kernel
theorem d77_8 : decode (byt 77) 8 = .ok (.invokestatic 66, 3) := by decide +kernel
theorem d77_11 : decode (byt 77) 11 = .ok (.ifCond .eq 19, 3) := by decide +kernel
theorem d77_14 : decode (byt 77) 14 = .ok (.lload_n 2, 1) := by decide +kernel
theorem d77_15 : decode (byt 77) 15 = .ok (.ldc2_w 216, 3) := by decide +kernel
theorem d77_18 : decode (byt 77) 18 = .ok (.lcmp, 1) := by decide +kernel
theorem d77_19 : decode (byt 77) 19 = .ok (.ifCond .lt 11, 3) := by decide +kernel
theorem d77_22 : decode (byt 77) 22 = .ok (.lload_n 2, 1) := by decide +kernel
theorem d77_23 : decode (byt 77) 23 = .ok (.ldc2_w 218, 3) := by decide +kernel
theorem d77_26 : decode (byt 77) 26 = .ok (.lcmp, 1) := by decide +kernel
theorem d77_27 : decode (byt 77) 27 = .ok (.ifCond .le 6, 3) := by decide +kernel
theorem d77_30 : decode (byt 77) 30 = .ok (.bipush (-2), 2) := by decide +kernel
theorem d77_32 : decode (byt 77) 32 = .ok (.ireturn, 1) := by decide +kernel
theorem d77_33 : decode (byt 77) 33 = .ok (.aload_n 0, 1) := by decide +kernel
theorem d77_34 : decode (byt 77) 34 = .ok (.getfield 19, 3) := by decide +kernel
theorem d77_37 : decode (byt 77) 37 = .ok (.iload_n 1, 1) := by decide +kernel
theorem d77_38 : decode (byt 77) 38 = .ok (.lload_n 2, 1) := by decide +kernel
theorem d77_39 : decode (byt 77) 39 = .ok (.lastore, 1) := by decide +kernel
theorem d77_40 : decode (byt 77) 40 = .ok (.iconst 1, 1) := by decide +kernel
theorem d77_41 : decode (byt 77) 41 = .ok (.ireturn, 1) := by decide +kernel
set_option maxRecDepth 20000 in
theorem S77_0 : (∀ (ls : Lo) (st : List Value) (h : Hp) (Q : Option Value → Hp → Prop) (l0 : Option Value) (x : Int32), Wp 77 0 (l0 :: some (.int x) :: ls) (st) h Q ↔ Wp 77 1 (l0 :: some (.int x) :: ls) (.int x :: st) h Q) ∧
  (∀ (ls : Lo) (st : List Value) (h : Hp) (Q : Option Value → Hp → Prop), Wp 77 1 (ls) (st) h Q ↔ Wp 77 2 (ls) (.int (0) :: st) h Q) ∧
  (∀ (ls : Lo) (st : List Value) (h : Hp) (Q : Option Value → Hp → Prop)  (i : Nat), Wp 77 2 (some (.ref i) :: ls) (st) h Q ↔ Wp 77 3 (some (.ref i) :: ls) (.ref i :: st) h Q) ∧
  (∀ (ls : Lo) (st : List Value) (n sl : Nat) (C Z : Nat → Nat) (I : Nat → Nat → Int32) (L : Nat → Nat → Int64) (R : Nat → Nat → Nat) (Q : Option Value → Hp → Prop) (i : Nat), Wp 77 3 (ls) (.ref i :: st) (n, sl, C, Z, I, L, R) Q ↔ (C i = 10 ∧ Wp 77 6 (ls) (.int (I i 4) :: st) (n, sl, C, Z, I, L, R) Q)) ∧
  (∀ (ls : Lo) (st : List Value) (h : Hp) (Q : Option Value → Hp → Prop), Wp 77 6 (ls) (st) h Q ↔ Wp 77 7 (ls) (.int (1) :: st) h Q) ∧
  (∀ (ls : Lo) (st : List Value) (h : Hp) (Q : Option Value → Hp → Prop) (x y : Int32), Wp 77 7 (ls) (.int y :: .int x :: st) h Q ↔ Wp 77 8 (ls) (.int (x - y) :: st) h Q) ∧
  (∀ (ls : Lo) (st : List Value) (h : Hp) (Q : Option Value → Hp → Prop) (x0 : Int32) (x1 : Int32) (x2 : Int32), Wp 77 8 (ls) (.int x2 :: .int x1 :: .int x0 :: st) h Q ↔ (wsum st ≤ 8 ∧ Call 87 [some (.int x0), some (.int x1), some (.int x2)] h 77 11 ls st Q)) ∧
  (∀ (ls : Lo) (st : List Value) (h : Hp) (Q : Option Value → Hp → Prop) (x : Int32), Wp 77 11 (ls) (.int x :: st) h Q ↔ Br 77 30 14 ls st h Q (x = 0)) ∧
  (∀ (ls : Lo) (st : List Value) (h : Hp) (Q : Option Value → Hp → Prop) (l0 l1 : Option Value) (a : Int64), Wp 77 14 (l0 :: l1 :: some (.long a) :: ls) (st) h Q ↔ Wp 77 15 (l0 :: l1 :: some (.long a) :: ls) (.long a :: st) h Q) ∧
  (∀ (ls : Lo) (st : List Value) (h : Hp) (Q : Option Value → Hp → Prop), Wp 77 15 (ls) (st) h Q ↔ Wp 77 18 (ls) (.long (-1000000000) :: st) h Q) ∧
  (∀ (ls : Lo) (st : List Value) (h : Hp) (Q : Option Value → Hp → Prop) (a b : Int64), Wp 77 18 (ls) (.long b :: .long a :: st) h Q ↔ Wp 77 19 (ls) (.int (lg_cmp a b) :: st) h Q) ∧
  (∀ (ls : Lo) (st : List Value) (h : Hp) (Q : Option Value → Hp → Prop) (x : Int32), Wp 77 19 (ls) (.int x :: st) h Q ↔ Br 77 30 22 ls st h Q (x < 0)) ∧
  (∀ (ls : Lo) (st : List Value) (h : Hp) (Q : Option Value → Hp → Prop) (l0 l1 : Option Value) (a : Int64), Wp 77 22 (l0 :: l1 :: some (.long a) :: ls) (st) h Q ↔ Wp 77 23 (l0 :: l1 :: some (.long a) :: ls) (.long a :: st) h Q) ∧
  (∀ (ls : Lo) (st : List Value) (h : Hp) (Q : Option Value → Hp → Prop), Wp 77 23 (ls) (st) h Q ↔ Wp 77 26 (ls) (.long (1000000000) :: st) h Q) ∧
  (∀ (ls : Lo) (st : List Value) (h : Hp) (Q : Option Value → Hp → Prop) (a b : Int64), Wp 77 26 (ls) (.long b :: .long a :: st) h Q ↔ Wp 77 27 (ls) (.int (lg_cmp a b) :: st) h Q) ∧
  (∀ (ls : Lo) (st : List Value) (h : Hp) (Q : Option Value → Hp → Prop) (x : Int32), Wp 77 27 (ls) (.int x :: st) h Q ↔ Br 77 33 30 ls st h Q (x ≤ 0)) ∧
  (∀ (ls : Lo) (st : List Value) (h : Hp) (Q : Option Value → Hp → Prop), Wp 77 30 (ls) (st) h Q ↔ Wp 77 32 (ls) (.int (-2) :: st) h Q) ∧
  (∀ (ls : Lo) (h : Hp) (Q : Option Value → Hp → Prop) (x : Int32), Wp 77 32 (ls) ([.int x]) h Q ↔ Q (some (.int x)) h) ∧
  (∀ (ls : Lo) (st : List Value) (h : Hp) (Q : Option Value → Hp → Prop)  (i : Nat), Wp 77 33 (some (.ref i) :: ls) (st) h Q ↔ Wp 77 34 (some (.ref i) :: ls) (.ref i :: st) h Q) ∧
  (∀ (ls : Lo) (st : List Value) (n sl : Nat) (C Z : Nat → Nat) (I : Nat → Nat → Int32) (L : Nat → Nat → Int64) (R : Nat → Nat → Nat) (Q : Option Value → Hp → Prop) (i : Nat), Wp 77 34 (ls) (.ref i :: st) (n, sl, C, Z, I, L, R) Q ↔ (C i = 10 ∧ Wp 77 37 (ls) (.ref (R i 2) :: st) (n, sl, C, Z, I, L, R) Q)) ∧
  (∀ (ls : Lo) (st : List Value) (h : Hp) (Q : Option Value → Hp → Prop) (l0 : Option Value) (x : Int32), Wp 77 37 (l0 :: some (.int x) :: ls) (st) h Q ↔ Wp 77 38 (l0 :: some (.int x) :: ls) (.int x :: st) h Q) ∧
  (∀ (ls : Lo) (st : List Value) (h : Hp) (Q : Option Value → Hp → Prop) (l0 l1 : Option Value) (a : Int64), Wp 77 38 (l0 :: l1 :: some (.long a) :: ls) (st) h Q ↔ Wp 77 39 (l0 :: l1 :: some (.long a) :: ls) (.long a :: st) h Q) ∧
  (∀ (ls : Lo) (st : List Value) (n sl : Nat) (C Z : Nat → Nat) (I : Nat → Nat → Int32) (L : Nat → Nat → Int64) (R : Nat → Nat → Nat) (Q : Option Value → Hp → Prop) (i : Nat) (y : Int32) (a : Int64), Wp 77 39 (ls) (.long a :: .int y :: .ref i :: st) (n, sl, C, Z, I, L, R) Q ↔ ((inb y (Z i) = true ∧ C i = 22) ∧ Wp 77 40 (ls) (st) (n, sl, C, Z, I, u2 L i (ix y) a, R) Q)) ∧
  (∀ (ls : Lo) (st : List Value) (h : Hp) (Q : Option Value → Hp → Prop), Wp 77 40 (ls) (st) h Q ↔ Wp 77 41 (ls) (.int (1) :: st) h Q) ∧
  (∀ (ls : Lo) (h : Hp) (Q : Option Value → Hp → Prop) (x : Int32), Wp 77 41 (ls) ([.int x]) h Q ↔ Q (some (.int x)) h) := ⟨by intro ls st h Q l0 x; exact e_iload_n d77_0 rfl,
  by intro ls st h Q; exact e_iconst d77_1 rfl,
  by intro ls st h Q i; exact e_aload_n d77_2 rfl,
  by intro ls st n sl C Z I L R Q i; exact e_get (g := 9) (s := 4) (ty := 0) d77_3 rfl rfl (inG_ne (by decide)),
  by intro ls st h Q; exact e_iconst d77_6 rfl,
  by intro ls st h Q x y; exact e_isub d77_7,
  by intro ls st h Q x0 x1 x2; exact e_is (k2 := 87) (as := [.int x0, .int x1, .int x2]) d77_8 rfl (by decide) rfl rfl (by decide +kernel) (Nat.le_of_ble_eq_true rfl) rfl,
  by intro ls st h Q x; exact e_if d77_11 (by decide) c_eq,
  by intro ls st h Q l0 l1 a; exact e_lload_n d77_14 rfl,
  by intro ls st h Q; exact e_ldc2 (p := 634) d77_15 rfl,
  by intro ls st h Q a b; exact e_lcmp d77_18,
  by intro ls st h Q x; exact e_if d77_19 (by decide) c_lt,
  by intro ls st h Q l0 l1 a; exact e_lload_n d77_22 rfl,
  by intro ls st h Q; exact e_ldc2 (p := 635) d77_23 rfl,
  by intro ls st h Q a b; exact e_lcmp d77_26,
  by intro ls st h Q x; exact e_if d77_27 (by decide) c_le,
  by intro ls st h Q; exact e_bipush d77_30 rfl,
  by intros; exact e_rI (p := True) d77_32 rfl,
  by intro ls st h Q i; exact e_aload_n d77_33 rfl,
  by intro ls st n sl C Z I L R Q i; exact e_get (g := 9) (s := 2) (ty := 2) d77_34 rfl rfl (inG_ne (by decide)),
  by intro ls st h Q l0 x; exact e_iload_n d77_37 rfl,
  by intro ls st h Q l0 l1 a; exact e_lload_n d77_38 rfl,
  by intro ls st n sl C Z I L R Q i y a; exact e_last d77_39,
  by intro ls st h Q; exact e_iconst d77_40 rfl,
  by intros; exact e_rI (p := True) d77_41 rfl⟩
theorem d78_0 : decode (byt 78) 0 = .ok (.aload_n 0, 1) := by decide +kernel
theorem d78_1 : decode (byt 78) 1 = .ok (.iload_n 1, 1) := by decide +kernel
theorem d78_2 : decode (byt 78) 2 = .ok (.invokevirtual 84, 3) := by decide +kernel
theorem d78_5 : decode (byt 78) 5 = .ok (.astore_n 2, 1) := by decide +kernel
theorem d78_6 : decode (byt 78) 6 = .ok (.aload_n 2, 1) := by decide +kernel
theorem d78_7 : decode (byt 78) 7 = .ok (.ifnonnull 6, 3) := by decide +kernel
theorem d78_10 : decode (byt 78) 10 = .ok (.bipush (-2), 2) := by decide +kernel
theorem d78_12 : decode (byt 78) 12 = .ok (.ireturn, 1) := by decide +kernel
theorem d78_13 : decode (byt 78) 13 = .ok (.aload_n 0, 1) := by decide +kernel
theorem d78_14 : decode (byt 78) 14 = .ok (.getfield 55, 3) := by decide +kernel
theorem d78_17 : decode (byt 78) 17 = .ok (.aload_n 2, 1) := by decide +kernel
theorem d78_18 : decode (byt 78) 18 = .ok (.invokevirtual 147, 3) := by decide +kernel
theorem d78_21 : decode (byt 78) 21 = .ok (.aload_n 0, 1) := by decide +kernel
theorem d78_22 : decode (byt 78) 22 = .ok (.getfield 55, 3) := by decide +kernel
theorem d78_25 : decode (byt 78) 25 = .ok (.getfield 164, 3) := by decide +kernel
theorem d78_28 : decode (byt 78) 28 = .ok (.ifCond .ne 5, 3) := by decide +kernel
theorem d78_31 : decode (byt 78) 31 = .ok (.iconst 0, 1) := by decide +kernel
theorem d78_32 : decode (byt 78) 32 = .ok (.ireturn, 1) := by decide +kernel
theorem d78_33 : decode (byt 78) 33 = .ok (.aload_n 0, 1) := by decide +kernel
theorem d78_34 : decode (byt 78) 34 = .ok (.aload_n 0, 1) := by decide +kernel
theorem d78_35 : decode (byt 78) 35 = .ok (.getfield 23, 3) := by decide +kernel
theorem d78_38 : decode (byt 78) 38 = .ok (.aload_n 2, 1) := by decide +kernel
theorem d78_39 : decode (byt 78) 39 = .ok (.invokevirtual 212, 3) := by decide +kernel
theorem d78_42 : decode (byt 78) 42 = .ok (.istore_n 3, 1) := by decide +kernel
theorem d78_43 : decode (byt 78) 43 = .ok (.iload_n 3, 1) := by decide +kernel
theorem d78_44 : decode (byt 78) 44 = .ok (.aload_n 0, 1) := by decide +kernel
theorem d78_45 : decode (byt 78) 45 = .ok (.getfield 26, 3) := by decide +kernel
theorem d78_48 : decode (byt 78) 48 = .ok (.invokestatic 220, 3) := by decide +kernel
theorem d78_51 : decode (byt 78) 51 = .ok (.istore 4, 2) := by decide +kernel
theorem d78_53 : decode (byt 78) 53 = .ok (.iconst 0, 1) := by decide +kernel
theorem d78_54 : decode (byt 78) 54 = .ok (.istore 5, 2) := by decide +kernel
theorem d78_56 : decode (byt 78) 56 = .ok (.iload 5, 2) := by decide +kernel
theorem d78_58 : decode (byt 78) 58 = .ok (.iload 4, 2) := by decide +kernel
theorem d78_60 : decode (byt 78) 60 = .ok (.if_icmp .ge 30, 3) := by decide +kernel
theorem d78_63 : decode (byt 78) 63 = .ok (.aload_n 0, 1) := by decide +kernel
theorem d78_64 : decode (byt 78) 64 = .ok (.getfield 19, 3) := by decide +kernel
theorem d78_67 : decode (byt 78) 67 = .ok (.iload 5, 2) := by decide +kernel
theorem d78_69 : decode (byt 78) 69 = .ok (.laload, 1) := by decide +kernel
theorem d78_70 : decode (byt 78) 70 = .ok (.aload_n 0, 1) := by decide +kernel
theorem d78_71 : decode (byt 78) 71 = .ok (.getfield 23, 3) := by decide +kernel
theorem d78_74 : decode (byt 78) 74 = .ok (.iload 5, 2) := by decide +kernel
theorem d78_76 : decode (byt 78) 76 = .ok (.laload, 1) := by decide +kernel
theorem d78_77 : decode (byt 78) 77 = .ok (.lcmp, 1) := by decide +kernel
theorem d78_78 : decode (byt 78) 78 = .ok (.ifCond .eq 6, 3) := by decide +kernel
theorem d78_81 : decode (byt 78) 81 = .ok (.iload 5, 2) := by decide +kernel
theorem d78_83 : decode (byt 78) 83 = .ok (.ireturn, 1) := by decide +kernel
theorem d78_84 : decode (byt 78) 84 = .ok (.iinc 5 1, 3) := by decide +kernel
theorem d78_87 : decode (byt 78) 87 = .ok (.goto (-31), 3) := by decide +kernel
theorem d78_90 : decode (byt 78) 90 = .ok (.iload_n 3, 1) := by decide +kernel
theorem d78_91 : decode (byt 78) 91 = .ok (.aload_n 0, 1) := by decide +kernel
theorem d78_92 : decode (byt 78) 92 = .ok (.getfield 26, 3) := by decide +kernel
theorem d78_95 : decode (byt 78) 95 = .ok (.if_icmp .eq 6, 3) := by decide +kernel
theorem d78_98 : decode (byt 78) 98 = .ok (.iload 4, 2) := by decide +kernel
theorem d78_100 : decode (byt 78) 100 = .ok (.ireturn, 1) := by decide +kernel
theorem d78_101 : decode (byt 78) 101 = .ok (.aload_n 0, 1) := by decide +kernel
theorem d78_102 : decode (byt 78) 102 = .ok (.getfield 55, 3) := by decide +kernel
theorem d78_105 : decode (byt 78) 105 = .ok (.invokevirtual 226, 3) := by decide +kernel
theorem d78_108 : decode (byt 78) 108 = .ok (.ifCond .eq 7, 3) := by decide +kernel
theorem d78_111 : decode (byt 78) 111 = .ok (.iconst (-1), 1) := by decide +kernel
theorem d78_112 : decode (byt 78) 112 = .ok (.goto 5, 3) := by decide +kernel
theorem d78_115 : decode (byt 78) 115 = .ok (.bipush (-3), 2) := by decide +kernel
theorem d78_117 : decode (byt 78) 117 = .ok (.ireturn, 1) := by decide +kernel
set_option maxRecDepth 20000 in
theorem S78_0 : (∀ (ls : Lo) (st : List Value) (h : Hp) (Q : Option Value → Hp → Prop)  (i : Nat), Wp 78 0 (some (.ref i) :: ls) (st) h Q ↔ Wp 78 1 (some (.ref i) :: ls) (.ref i :: st) h Q) ∧
  (∀ (ls : Lo) (st : List Value) (h : Hp) (Q : Option Value → Hp → Prop) (l0 : Option Value) (x : Int32), Wp 78 1 (l0 :: some (.int x) :: ls) (st) h Q ↔ Wp 78 2 (l0 :: some (.int x) :: ls) (.int x :: st) h Q) ∧
  (∀ (ls : Lo) (st : List Value) (n sl : Nat) (C Z : Nat → Nat) (I : Nat → Nat → Int32) (L : Nat → Nat → Int64) (R : Nat → Nat → Nat) (Q : Option Value → Hp → Prop) (x0 : Int32) (i : Nat), C i = 10 → (Wp 78 2 (ls) (.int x0 :: .ref i :: st) (n, sl, C, Z, I, L, R) Q ↔ (wsum st ≤ 8 ∧ Call 92 [some (.ref i), some (.int x0)] (n, sl, C, Z, I, L, R) 78 5 ls st Q))) ∧
  (∀ (ls : Lo) (st : List Value) (h : Hp) (Q : Option Value → Hp → Prop) (l0 l1 l2 : Option Value) (i : Nat), Wp 78 5 (l0 :: l1 :: l2 :: ls) (.ref i :: st) h Q ↔ Wp 78 6 (l0 :: clr l1 :: some (.ref i) :: ls) (st) h Q) ∧
  (∀ (ls : Lo) (st : List Value) (h : Hp) (Q : Option Value → Hp → Prop) (l0 l1 : Option Value) (i : Nat), Wp 78 6 (l0 :: l1 :: some (.ref i) :: ls) (st) h Q ↔ Wp 78 7 (l0 :: l1 :: some (.ref i) :: ls) (.ref i :: st) h Q) ∧
  (∀ (ls : Lo) (st : List Value) (h : Hp) (Q : Option Value → Hp → Prop) (i : Nat), Wp 78 7 (ls) (.ref i :: st) h Q ↔ Br 78 13 10 ls st h Q (¬ i = 0)) ∧
  (∀ (ls : Lo) (st : List Value) (h : Hp) (Q : Option Value → Hp → Prop), Wp 78 10 (ls) (st) h Q ↔ Wp 78 12 (ls) (.int (-2) :: st) h Q) ∧
  (∀ (ls : Lo) (h : Hp) (Q : Option Value → Hp → Prop) (x : Int32), Wp 78 12 (ls) ([.int x]) h Q ↔ Q (some (.int x)) h) ∧
  (∀ (ls : Lo) (st : List Value) (h : Hp) (Q : Option Value → Hp → Prop)  (i : Nat), Wp 78 13 (some (.ref i) :: ls) (st) h Q ↔ Wp 78 14 (some (.ref i) :: ls) (.ref i :: st) h Q) ∧
  (∀ (ls : Lo) (st : List Value) (n sl : Nat) (C Z : Nat → Nat) (I : Nat → Nat → Int32) (L : Nat → Nat → Int64) (R : Nat → Nat → Nat) (Q : Option Value → Hp → Prop) (i : Nat), Wp 78 14 (ls) (.ref i :: st) (n, sl, C, Z, I, L, R) Q ↔ (C i = 10 ∧ Wp 78 17 (ls) (.ref (R i 9) :: st) (n, sl, C, Z, I, L, R) Q)) ∧
  (∀ (ls : Lo) (st : List Value) (h : Hp) (Q : Option Value → Hp → Prop) (l0 l1 : Option Value) (i : Nat), Wp 78 17 (l0 :: l1 :: some (.ref i) :: ls) (st) h Q ↔ Wp 78 18 (l0 :: l1 :: some (.ref i) :: ls) (.ref i :: st) h Q) ∧
  (∀ (ls : Lo) (st : List Value) (n sl : Nat) (C Z : Nat → Nat) (I : Nat → Nat → Int32) (L : Nat → Nat → Int64) (R : Nat → Nat → Nat) (Q : Option Value → Hp → Prop) (x0 : Nat) (i : Nat), C i = 1 → (Wp 78 18 (ls) (.ref x0 :: .ref i :: st) (n, sl, C, Z, I, L, R) Q ↔ (wsum st ≤ 8 ∧ Call 1 [some (.ref i), some (.ref x0), none] (n, sl, C, Z, I, L, R) 78 21 ls st Q))) ∧
  (∀ (ls : Lo) (st : List Value) (h : Hp) (Q : Option Value → Hp → Prop)  (i : Nat), Wp 78 21 (some (.ref i) :: ls) (st) h Q ↔ Wp 78 22 (some (.ref i) :: ls) (.ref i :: st) h Q) ∧
  (∀ (ls : Lo) (st : List Value) (n sl : Nat) (C Z : Nat → Nat) (I : Nat → Nat → Int32) (L : Nat → Nat → Int64) (R : Nat → Nat → Nat) (Q : Option Value → Hp → Prop) (i : Nat), Wp 78 22 (ls) (.ref i :: st) (n, sl, C, Z, I, L, R) Q ↔ (C i = 10 ∧ Wp 78 25 (ls) (.ref (R i 9) :: st) (n, sl, C, Z, I, L, R) Q)) ∧
  (∀ (ls : Lo) (st : List Value) (n sl : Nat) (C Z : Nat → Nat) (I : Nat → Nat → Int32) (L : Nat → Nat → Int64) (R : Nat → Nat → Nat) (Q : Option Value → Hp → Prop) (i : Nat), Wp 78 25 (ls) (.ref i :: st) (n, sl, C, Z, I, L, R) Q ↔ (C i = 1 ∧ Wp 78 28 (ls) (.int (I i 5) :: st) (n, sl, C, Z, I, L, R) Q)) ∧
  (∀ (ls : Lo) (st : List Value) (h : Hp) (Q : Option Value → Hp → Prop) (x : Int32), Wp 78 28 (ls) (.int x :: st) h Q ↔ Br 78 33 31 ls st h Q (¬ x = 0)) ∧
  (∀ (ls : Lo) (st : List Value) (h : Hp) (Q : Option Value → Hp → Prop), Wp 78 31 (ls) (st) h Q ↔ Wp 78 32 (ls) (.int (0) :: st) h Q) ∧
  (∀ (ls : Lo) (h : Hp) (Q : Option Value → Hp → Prop) (x : Int32), Wp 78 32 (ls) ([.int x]) h Q ↔ Q (some (.int x)) h) ∧
  (∀ (ls : Lo) (st : List Value) (h : Hp) (Q : Option Value → Hp → Prop)  (i : Nat), Wp 78 33 (some (.ref i) :: ls) (st) h Q ↔ Wp 78 34 (some (.ref i) :: ls) (.ref i :: st) h Q) ∧
  (∀ (ls : Lo) (st : List Value) (h : Hp) (Q : Option Value → Hp → Prop)  (i : Nat), Wp 78 34 (some (.ref i) :: ls) (st) h Q ↔ Wp 78 35 (some (.ref i) :: ls) (.ref i :: st) h Q) ∧
  (∀ (ls : Lo) (st : List Value) (n sl : Nat) (C Z : Nat → Nat) (I : Nat → Nat → Int32) (L : Nat → Nat → Int64) (R : Nat → Nat → Nat) (Q : Option Value → Hp → Prop) (i : Nat), Wp 78 35 (ls) (.ref i :: st) (n, sl, C, Z, I, L, R) Q ↔ (C i = 10 ∧ Wp 78 38 (ls) (.ref (R i 3) :: st) (n, sl, C, Z, I, L, R) Q)) ∧
  (∀ (ls : Lo) (st : List Value) (h : Hp) (Q : Option Value → Hp → Prop) (l0 l1 : Option Value) (i : Nat), Wp 78 38 (l0 :: l1 :: some (.ref i) :: ls) (st) h Q ↔ Wp 78 39 (l0 :: l1 :: some (.ref i) :: ls) (.ref i :: st) h Q) ∧
  (∀ (ls : Lo) (st : List Value) (n sl : Nat) (C Z : Nat → Nat) (I : Nat → Nat → Int32) (L : Nat → Nat → Int64) (R : Nat → Nat → Nat) (Q : Option Value → Hp → Prop) (x0 : Nat) (x1 : Nat) (i : Nat), C i = 10 → (Wp 78 39 (ls) (.ref x1 :: .ref x0 :: .ref i :: st) (n, sl, C, Z, I, L, R) Q ↔ (wsum st ≤ 8 ∧ Call 101 [some (.ref i), some (.ref x0), some (.ref x1), none, none, none, none] (n, sl, C, Z, I, L, R) 78 42 ls st Q))) ∧
  (∀ (ls : Lo) (st : List Value) (h : Hp) (Q : Option Value → Hp → Prop) (l0 l1 l2 l3 : Option Value) (x : Int32), Wp 78 42 (l0 :: l1 :: l2 :: l3 :: ls) (.int x :: st) h Q ↔ Wp 78 43 (l0 :: l1 :: clr l2 :: some (.int x) :: ls) (st) h Q) ∧
  (∀ (ls : Lo) (st : List Value) (h : Hp) (Q : Option Value → Hp → Prop) (l0 l1 l2 : Option Value) (x : Int32), Wp 78 43 (l0 :: l1 :: l2 :: some (.int x) :: ls) (st) h Q ↔ Wp 78 44 (l0 :: l1 :: l2 :: some (.int x) :: ls) (.int x :: st) h Q) := ⟨by intro ls st h Q i; exact e_aload_n d78_0 rfl,
  by intro ls st h Q l0 x; exact e_iload_n d78_1 rfl,
  by intro ls st n sl C Z I L R Q x0 i hh; exact e_iv (k2 := 92) (c := 10) (as := [.int x0]) d78_2 rfl (by decide) rfl rfl (by decide +kernel) (Nat.le_of_ble_eq_true rfl) rfl hh,
  by intro ls st h Q l0 l1 l2 i; exact e_astore_n d78_5 rfl,
  by intro ls st h Q l0 l1 i; exact e_aload_n d78_6 rfl,
  by intro ls st h Q i; exact e_ifnn d78_7 (by decide),
  by intro ls st h Q; exact e_bipush d78_10 rfl,
  by intros; exact e_rI (p := True) d78_12 rfl,
  by intro ls st h Q i; exact e_aload_n d78_13 rfl,
  by intro ls st n sl C Z I L R Q i; exact e_get (g := 9) (s := 9) (ty := 2) d78_14 rfl rfl (inG_ne (by decide)),
  by intro ls st h Q l0 l1 i; exact e_aload_n d78_17 rfl,
  by intro ls st n sl C Z I L R Q x0 i hh; exact e_iv (k2 := 1) (c := 1) (as := [.ref x0]) d78_18 rfl (by decide) rfl rfl (by decide +kernel) (Nat.le_of_ble_eq_true rfl) rfl hh,
  by intro ls st h Q i; exact e_aload_n d78_21 rfl,
  by intro ls st n sl C Z I L R Q i; exact e_get (g := 9) (s := 9) (ty := 2) d78_22 rfl rfl (inG_ne (by decide)),
  by intro ls st n sl C Z I L R Q i; exact e_get (g := 0) (s := 5) (ty := 3) d78_25 rfl rfl (inG_ne (by decide)),
  by intro ls st h Q x; exact e_if d78_28 (by decide) c_ne,
  by intro ls st h Q; exact e_iconst d78_31 rfl,
  by intros; exact e_rI (p := True) d78_32 rfl,
  by intro ls st h Q i; exact e_aload_n d78_33 rfl,
  by intro ls st h Q i; exact e_aload_n d78_34 rfl,
  by intro ls st n sl C Z I L R Q i; exact e_get (g := 9) (s := 3) (ty := 2) d78_35 rfl rfl (inG_ne (by decide)),
  by intro ls st h Q l0 l1 i; exact e_aload_n d78_38 rfl,
  by intro ls st n sl C Z I L R Q x0 x1 i hh; exact e_iv (k2 := 101) (c := 10) (as := [.ref x0, .ref x1]) d78_39 rfl (by decide) rfl rfl (by decide +kernel) (Nat.le_of_ble_eq_true rfl) rfl hh,
  by intro ls st h Q l0 l1 l2 l3 x; exact e_istore_n d78_42 rfl,
  by intro ls st h Q l0 l1 l2 x; exact e_iload_n d78_43 rfl⟩
set_option maxRecDepth 20000 in
theorem S78_1 : (∀ (ls : Lo) (st : List Value) (h : Hp) (Q : Option Value → Hp → Prop)  (i : Nat), Wp 78 44 (some (.ref i) :: ls) (st) h Q ↔ Wp 78 45 (some (.ref i) :: ls) (.ref i :: st) h Q) ∧
  (∀ (ls : Lo) (st : List Value) (n sl : Nat) (C Z : Nat → Nat) (I : Nat → Nat → Int32) (L : Nat → Nat → Int64) (R : Nat → Nat → Nat) (Q : Option Value → Hp → Prop) (i : Nat), Wp 78 45 (ls) (.ref i :: st) (n, sl, C, Z, I, L, R) Q ↔ (C i = 10 ∧ Wp 78 48 (ls) (.int (I i 4) :: st) (n, sl, C, Z, I, L, R) Q)) ∧
  (∀ (ls : Lo) (st : List Value) (h : Hp) (Q : Option Value → Hp → Prop) (x y : Int32), Wp 78 48 (ls) (.int y :: .int x :: st) h Q ↔ (wsum st ≤ 8 ∧ Wp 78 51 (ls) (.int (if y < x then y else x) :: st) h Q)) ∧
  (∀ (ls : Lo) (st : List Value) (h : Hp) (Q : Option Value → Hp → Prop) (l0 l1 l2 l3 l4 : Option Value) (x : Int32), Wp 78 51 (l0 :: l1 :: l2 :: l3 :: l4 :: ls) (.int x :: st) h Q ↔ Wp 78 53 (l0 :: l1 :: l2 :: clr l3 :: some (.int x) :: ls) (st) h Q) ∧
  (∀ (ls : Lo) (st : List Value) (h : Hp) (Q : Option Value → Hp → Prop), Wp 78 53 (ls) (st) h Q ↔ Wp 78 54 (ls) (.int (0) :: st) h Q) ∧
  (∀ (ls : Lo) (st : List Value) (h : Hp) (Q : Option Value → Hp → Prop) (l0 l1 l2 l3 l4 l5 : Option Value) (x : Int32), Wp 78 54 (l0 :: l1 :: l2 :: l3 :: l4 :: l5 :: ls) (.int x :: st) h Q ↔ Wp 78 56 (l0 :: l1 :: l2 :: l3 :: clr l4 :: some (.int x) :: ls) (st) h Q) ∧
  (∀ (ls : Lo) (st : List Value) (h : Hp) (Q : Option Value → Hp → Prop) (l0 l1 l2 l3 l4 : Option Value) (x : Int32), Wp 78 56 (l0 :: l1 :: l2 :: l3 :: l4 :: some (.int x) :: ls) (st) h Q ↔ Wp 78 58 (l0 :: l1 :: l2 :: l3 :: l4 :: some (.int x) :: ls) (.int x :: st) h Q) ∧
  (∀ (ls : Lo) (st : List Value) (h : Hp) (Q : Option Value → Hp → Prop) (l0 l1 l2 l3 : Option Value) (x : Int32), Wp 78 58 (l0 :: l1 :: l2 :: l3 :: some (.int x) :: ls) (st) h Q ↔ Wp 78 60 (l0 :: l1 :: l2 :: l3 :: some (.int x) :: ls) (.int x :: st) h Q) ∧
  (∀ (ls : Lo) (st : List Value) (h : Hp) (Q : Option Value → Hp → Prop) (x y : Int32), Wp 78 60 (ls) (.int y :: .int x :: st) h Q ↔ Br 78 90 63 ls st h Q (y ≤ x)) ∧
  (∀ (ls : Lo) (st : List Value) (h : Hp) (Q : Option Value → Hp → Prop)  (i : Nat), Wp 78 63 (some (.ref i) :: ls) (st) h Q ↔ Wp 78 64 (some (.ref i) :: ls) (.ref i :: st) h Q) ∧
  (∀ (ls : Lo) (st : List Value) (n sl : Nat) (C Z : Nat → Nat) (I : Nat → Nat → Int32) (L : Nat → Nat → Int64) (R : Nat → Nat → Nat) (Q : Option Value → Hp → Prop) (i : Nat), Wp 78 64 (ls) (.ref i :: st) (n, sl, C, Z, I, L, R) Q ↔ (C i = 10 ∧ Wp 78 67 (ls) (.ref (R i 2) :: st) (n, sl, C, Z, I, L, R) Q)) ∧
  (∀ (ls : Lo) (st : List Value) (h : Hp) (Q : Option Value → Hp → Prop) (l0 l1 l2 l3 l4 : Option Value) (x : Int32), Wp 78 67 (l0 :: l1 :: l2 :: l3 :: l4 :: some (.int x) :: ls) (st) h Q ↔ Wp 78 69 (l0 :: l1 :: l2 :: l3 :: l4 :: some (.int x) :: ls) (.int x :: st) h Q) ∧
  (∀ (ls : Lo) (st : List Value) (n sl : Nat) (C Z : Nat → Nat) (I : Nat → Nat → Int32) (L : Nat → Nat → Int64) (R : Nat → Nat → Nat) (Q : Option Value → Hp → Prop) (i : Nat) (y : Int32), Wp 78 69 (ls) (.int y :: .ref i :: st) (n, sl, C, Z, I, L, R) Q ↔ ((inb y (Z i) = true ∧ C i = 22) ∧ Wp 78 70 (ls) (.long (L i (ix y)) :: st) (n, sl, C, Z, I, L, R) Q)) ∧
  (∀ (ls : Lo) (st : List Value) (h : Hp) (Q : Option Value → Hp → Prop)  (i : Nat), Wp 78 70 (some (.ref i) :: ls) (st) h Q ↔ Wp 78 71 (some (.ref i) :: ls) (.ref i :: st) h Q) ∧
  (∀ (ls : Lo) (st : List Value) (n sl : Nat) (C Z : Nat → Nat) (I : Nat → Nat → Int32) (L : Nat → Nat → Int64) (R : Nat → Nat → Nat) (Q : Option Value → Hp → Prop) (i : Nat), Wp 78 71 (ls) (.ref i :: st) (n, sl, C, Z, I, L, R) Q ↔ (C i = 10 ∧ Wp 78 74 (ls) (.ref (R i 3) :: st) (n, sl, C, Z, I, L, R) Q)) ∧
  (∀ (ls : Lo) (st : List Value) (h : Hp) (Q : Option Value → Hp → Prop) (l0 l1 l2 l3 l4 : Option Value) (x : Int32), Wp 78 74 (l0 :: l1 :: l2 :: l3 :: l4 :: some (.int x) :: ls) (st) h Q ↔ Wp 78 76 (l0 :: l1 :: l2 :: l3 :: l4 :: some (.int x) :: ls) (.int x :: st) h Q) ∧
  (∀ (ls : Lo) (st : List Value) (n sl : Nat) (C Z : Nat → Nat) (I : Nat → Nat → Int32) (L : Nat → Nat → Int64) (R : Nat → Nat → Nat) (Q : Option Value → Hp → Prop) (i : Nat) (y : Int32), Wp 78 76 (ls) (.int y :: .ref i :: st) (n, sl, C, Z, I, L, R) Q ↔ ((inb y (Z i) = true ∧ C i = 22) ∧ Wp 78 77 (ls) (.long (L i (ix y)) :: st) (n, sl, C, Z, I, L, R) Q)) ∧
  (∀ (ls : Lo) (st : List Value) (h : Hp) (Q : Option Value → Hp → Prop) (a b : Int64), Wp 78 77 (ls) (.long b :: .long a :: st) h Q ↔ Wp 78 78 (ls) (.int (lg_cmp a b) :: st) h Q) ∧
  (∀ (ls : Lo) (st : List Value) (h : Hp) (Q : Option Value → Hp → Prop) (x : Int32), Wp 78 78 (ls) (.int x :: st) h Q ↔ Br 78 84 81 ls st h Q (x = 0)) ∧
  (∀ (ls : Lo) (st : List Value) (h : Hp) (Q : Option Value → Hp → Prop) (l0 l1 l2 l3 l4 : Option Value) (x : Int32), Wp 78 81 (l0 :: l1 :: l2 :: l3 :: l4 :: some (.int x) :: ls) (st) h Q ↔ Wp 78 83 (l0 :: l1 :: l2 :: l3 :: l4 :: some (.int x) :: ls) (.int x :: st) h Q) ∧
  (∀ (ls : Lo) (h : Hp) (Q : Option Value → Hp → Prop) (x : Int32), Wp 78 83 (ls) ([.int x]) h Q ↔ Q (some (.int x)) h) ∧
  (∀ (ls : Lo) (st : List Value) (h : Hp) (Q : Option Value → Hp → Prop) (l0 l1 l2 l3 l4 : Option Value) (x : Int32), Wp 78 84 (l0 :: l1 :: l2 :: l3 :: l4 :: some (.int x) :: ls) (st) h Q ↔ Wp 78 87 (l0 :: l1 :: l2 :: l3 :: clr l4 :: some (.int (x + (1))) :: ls) (st) h Q) ∧
  (∀ (ls : Lo) (st : List Value) (h : Hp) (Q : Option Value → Hp → Prop), Wp 78 87 (ls) (st) h Q ↔ Wp 78 56 (ls) (st) h Q) ∧
  (∀ (ls : Lo) (st : List Value) (h : Hp) (Q : Option Value → Hp → Prop) (l0 l1 l2 : Option Value) (x : Int32), Wp 78 90 (l0 :: l1 :: l2 :: some (.int x) :: ls) (st) h Q ↔ Wp 78 91 (l0 :: l1 :: l2 :: some (.int x) :: ls) (.int x :: st) h Q) ∧
  (∀ (ls : Lo) (st : List Value) (h : Hp) (Q : Option Value → Hp → Prop)  (i : Nat), Wp 78 91 (some (.ref i) :: ls) (st) h Q ↔ Wp 78 92 (some (.ref i) :: ls) (.ref i :: st) h Q) := ⟨by intro ls st h Q i; exact e_aload_n d78_44 rfl,
  by intro ls st n sl C Z I L R Q i; exact e_get (g := 9) (s := 4) (ty := 0) d78_45 rfl rfl (inG_ne (by decide)),
  by intro ls st h Q x y; exact e_min d78_48 rfl (by decide +kernel),
  by intro ls st h Q l0 l1 l2 l3 l4 x; exact e_istore d78_51 rfl,
  by intro ls st h Q; exact e_iconst d78_53 rfl,
  by intro ls st h Q l0 l1 l2 l3 l4 l5 x; exact e_istore d78_54 rfl,
  by intro ls st h Q l0 l1 l2 l3 l4 x; exact e_iload d78_56 rfl,
  by intro ls st h Q l0 l1 l2 l3 x; exact e_iload d78_58 rfl,
  by intro ls st h Q x y; exact e_ic d78_60 (by decide) c_ge,
  by intro ls st h Q i; exact e_aload_n d78_63 rfl,
  by intro ls st n sl C Z I L R Q i; exact e_get (g := 9) (s := 2) (ty := 2) d78_64 rfl rfl (inG_ne (by decide)),
  by intro ls st h Q l0 l1 l2 l3 l4 x; exact e_iload d78_67 rfl,
  by intro ls st n sl C Z I L R Q i y; exact e_lald d78_69,
  by intro ls st h Q i; exact e_aload_n d78_70 rfl,
  by intro ls st n sl C Z I L R Q i; exact e_get (g := 9) (s := 3) (ty := 2) d78_71 rfl rfl (inG_ne (by decide)),
  by intro ls st h Q l0 l1 l2 l3 l4 x; exact e_iload d78_74 rfl,
  by intro ls st n sl C Z I L R Q i y; exact e_lald d78_76,
  by intro ls st h Q a b; exact e_lcmp d78_77,
  by intro ls st h Q x; exact e_if d78_78 (by decide) c_eq,
  by intro ls st h Q l0 l1 l2 l3 l4 x; exact e_iload d78_81 rfl,
  by intros; exact e_rI (p := True) d78_83 rfl,
  by intro ls st h Q l0 l1 l2 l3 l4 x; exact e_iinc d78_84 rfl rfl rfl,
  by intro ls st h Q; exact e_goto d78_87 (by decide),
  by intro ls st h Q l0 l1 l2 x; exact e_iload_n d78_90 rfl,
  by intro ls st h Q i; exact e_aload_n d78_91 rfl⟩
set_option maxRecDepth 20000 in
theorem S78_2 : (∀ (ls : Lo) (st : List Value) (n sl : Nat) (C Z : Nat → Nat) (I : Nat → Nat → Int32) (L : Nat → Nat → Int64) (R : Nat → Nat → Nat) (Q : Option Value → Hp → Prop) (i : Nat), Wp 78 92 (ls) (.ref i :: st) (n, sl, C, Z, I, L, R) Q ↔ (C i = 10 ∧ Wp 78 95 (ls) (.int (I i 4) :: st) (n, sl, C, Z, I, L, R) Q)) ∧
  (∀ (ls : Lo) (st : List Value) (h : Hp) (Q : Option Value → Hp → Prop) (x y : Int32), Wp 78 95 (ls) (.int y :: .int x :: st) h Q ↔ Br 78 101 98 ls st h Q (x = y)) ∧
  (∀ (ls : Lo) (st : List Value) (h : Hp) (Q : Option Value → Hp → Prop) (l0 l1 l2 l3 : Option Value) (x : Int32), Wp 78 98 (l0 :: l1 :: l2 :: l3 :: some (.int x) :: ls) (st) h Q ↔ Wp 78 100 (l0 :: l1 :: l2 :: l3 :: some (.int x) :: ls) (.int x :: st) h Q) ∧
  (∀ (ls : Lo) (h : Hp) (Q : Option Value → Hp → Prop) (x : Int32), Wp 78 100 (ls) ([.int x]) h Q ↔ Q (some (.int x)) h) ∧
  (∀ (ls : Lo) (st : List Value) (h : Hp) (Q : Option Value → Hp → Prop)  (i : Nat), Wp 78 101 (some (.ref i) :: ls) (st) h Q ↔ Wp 78 102 (some (.ref i) :: ls) (.ref i :: st) h Q) ∧
  (∀ (ls : Lo) (st : List Value) (n sl : Nat) (C Z : Nat → Nat) (I : Nat → Nat → Int32) (L : Nat → Nat → Int64) (R : Nat → Nat → Nat) (Q : Option Value → Hp → Prop) (i : Nat), Wp 78 102 (ls) (.ref i :: st) (n, sl, C, Z, I, L, R) Q ↔ (C i = 10 ∧ Wp 78 105 (ls) (.ref (R i 9) :: st) (n, sl, C, Z, I, L, R) Q)) ∧
  (∀ (ls : Lo) (st : List Value) (n sl : Nat) (C Z : Nat → Nat) (I : Nat → Nat → Int32) (L : Nat → Nat → Int64) (R : Nat → Nat → Nat) (Q : Option Value → Hp → Prop)  (i : Nat), C i = 1 → (Wp 78 105 (ls) (.ref i :: st) (n, sl, C, Z, I, L, R) Q ↔ (wsum st ≤ 8 ∧ Call 8 [some (.ref i)] (n, sl, C, Z, I, L, R) 78 108 ls st Q))) ∧
  (∀ (ls : Lo) (st : List Value) (h : Hp) (Q : Option Value → Hp → Prop) (x : Int32), Wp 78 108 (ls) (.int x :: st) h Q ↔ Br 78 115 111 ls st h Q (x = 0)) ∧
  (∀ (ls : Lo) (st : List Value) (h : Hp) (Q : Option Value → Hp → Prop), Wp 78 111 (ls) (st) h Q ↔ Wp 78 112 (ls) (.int (-1) :: st) h Q) ∧
  (∀ (ls : Lo) (st : List Value) (h : Hp) (Q : Option Value → Hp → Prop), Wp 78 112 (ls) (st) h Q ↔ Wp 78 117 (ls) (st) h Q) ∧
  (∀ (ls : Lo) (st : List Value) (h : Hp) (Q : Option Value → Hp → Prop), Wp 78 115 (ls) (st) h Q ↔ Wp 78 117 (ls) (.int (-3) :: st) h Q) ∧
  (∀ (ls : Lo) (h : Hp) (Q : Option Value → Hp → Prop) (x : Int32), Wp 78 117 (ls) ([.int x]) h Q ↔ Q (some (.int x)) h) := ⟨by intro ls st n sl C Z I L R Q i; exact e_get (g := 9) (s := 4) (ty := 0) d78_92 rfl rfl (inG_ne (by decide)),
  by intro ls st h Q x y; exact e_ic d78_95 (by decide) c_eq,
  by intro ls st h Q l0 l1 l2 l3 x; exact e_iload d78_98 rfl,
  by intros; exact e_rI (p := True) d78_100 rfl,
  by intro ls st h Q i; exact e_aload_n d78_101 rfl,
  by intro ls st n sl C Z I L R Q i; exact e_get (g := 9) (s := 9) (ty := 2) d78_102 rfl rfl (inG_ne (by decide)),
  by intro ls st n sl C Z I L R Q i hh; exact e_iv (k2 := 8) (c := 1) (as := []) d78_105 rfl (by decide) rfl rfl (by decide +kernel) (Nat.le_of_ble_eq_true rfl) rfl hh,
  by intro ls st h Q x; exact e_if d78_108 (by decide) c_eq,
  by intro ls st h Q; exact e_iconst d78_111 rfl,
  by intro ls st h Q; exact e_goto d78_112 (by decide),
  by intro ls st h Q; exact e_bipush d78_115 rfl,
  by intros; exact e_rI (p := True) d78_117 rfl⟩
theorem d79_0 : decode (byt 79) 0 = .ok (.aload_n 0, 1) := by decide +kernel
theorem d79_1 : decode (byt 79) 1 = .ok (.getfield 32, 3) := by decide +kernel
theorem d79_4 : decode (byt 79) 4 = .ok (.iconst 0, 1) := by decide +kernel
theorem d79_5 : decode (byt 79) 5 = .ok (.putfield 229, 3) := by decide +kernel
theorem d79_8 : decode (byt 79) 8 = .ok (.aload_n 0, 1) := by decide +kernel
theorem d79_9 : decode (byt 79) 9 = .ok (.iload_n 1, 1) := by decide +kernel
theorem d79_10 : decode (byt 79) 10 = .ok (.invokevirtual 84, 3) := by decide +kernel
theorem d79_13 : decode (byt 79) 13 = .ok (.astore 4, 2) := by decide +kernel
theorem d79_15 : decode (byt 79) 15 = .ok (.aload 4, 2) := by decide +kernel
theorem d79_17 : decode (byt 79) 17 = .ok (.ifnonnull 5, 3) := by decide +kernel
theorem d79_20 : decode (byt 79) 20 = .ok (.iconst 0, 1) := by decide +kernel
theorem d79_21 : decode (byt 79) 21 = .ok (.ireturn, 1) := by decide +kernel
theorem d79_22 : decode (byt 79) 22 = .ok (.iload_n 2, 1) := by decide +kernel
theorem d79_23 : decode (byt 79) 23 = .ok (.tableswitch 58 0 2 #[25, 36, 47], 25) := by decide +kernel
theorem d79_48 : decode (byt 79) 48 = .ok (.aload 4, 2) := by decide +kernel
theorem d79_50 : decode (byt 79) 50 = .ok (.iload_n 3, 1) := by decide +kernel
theorem d79_51 : decode (byt 79) 51 = .ok (.aload_n 0, 1) := by decide +kernel
theorem d79_52 : decode (byt 79) 52 = .ok (.getfield 32, 3) := by decide +kernel
theorem d79_55 : decode (byt 79) 55 = .ok (.invokevirtual 232, 3) := by decide +kernel
theorem d79_58 : decode (byt 79) 58 = .ok (.ireturn, 1) := by decide +kernel
theorem d79_59 : decode (byt 79) 59 = .ok (.aload 4, 2) := by decide +kernel
theorem d79_61 : decode (byt 79) 61 = .ok (.iload_n 3, 1) := by decide +kernel
theorem d79_62 : decode (byt 79) 62 = .ok (.aload_n 0, 1) := by decide +kernel
theorem d79_63 : decode (byt 79) 63 = .ok (.getfield 32, 3) := by decide +kernel
theorem d79_66 : decode (byt 79) 66 = .ok (.invokevirtual 236, 3) := by decide +kernel
theorem d79_69 : decode (byt 79) 69 = .ok (.ireturn, 1) := by decide +kernel
theorem d79_70 : decode (byt 79) 70 = .ok (.aload 4, 2) := by decide +kernel
theorem d79_72 : decode (byt 79) 72 = .ok (.iload_n 3, 1) := by decide +kernel
theorem d79_73 : decode (byt 79) 73 = .ok (.aload_n 0, 1) := by decide +kernel
theorem d79_74 : decode (byt 79) 74 = .ok (.getfield 32, 3) := by decide +kernel
theorem d79_77 : decode (byt 79) 77 = .ok (.invokevirtual 239, 3) := by decide +kernel
theorem d79_80 : decode (byt 79) 80 = .ok (.ireturn, 1) := by decide +kernel
theorem d79_81 : decode (byt 79) 81 = .ok (.iconst 0, 1) := by decide +kernel
theorem d79_82 : decode (byt 79) 82 = .ok (.ireturn, 1) := by decide +kernel
set_option maxRecDepth 20000 in
theorem S79_0 : (∀ (ls : Lo) (st : List Value) (h : Hp) (Q : Option Value → Hp → Prop)  (i : Nat), Wp 79 0 (some (.ref i) :: ls) (st) h Q ↔ Wp 79 1 (some (.ref i) :: ls) (.ref i :: st) h Q) ∧
  (∀ (ls : Lo) (st : List Value) (n sl : Nat) (C Z : Nat → Nat) (I : Nat → Nat → Int32) (L : Nat → Nat → Int64) (R : Nat → Nat → Nat) (Q : Option Value → Hp → Prop) (i : Nat), Wp 79 1 (ls) (.ref i :: st) (n, sl, C, Z, I, L, R) Q ↔ (C i = 10 ∧ Wp 79 4 (ls) (.ref (R i 5) :: st) (n, sl, C, Z, I, L, R) Q)) ∧
  (∀ (ls : Lo) (st : List Value) (h : Hp) (Q : Option Value → Hp → Prop), Wp 79 4 (ls) (st) h Q ↔ Wp 79 5 (ls) (.int (0) :: st) h Q) ∧
  (∀ (ls : Lo) (st : List Value) (n sl : Nat) (C Z : Nat → Nat) (I : Nat → Nat → Int32) (L : Nat → Nat → Int64) (R : Nat → Nat → Nat) (Q : Option Value → Hp → Prop) (i : Nat) (x : Int32), Wp 79 5 (ls) (.int x :: .ref i :: st) (n, sl, C, Z, I, L, R) Q ↔ (C i = 9 ∧ Wp 79 8 (ls) (st) (n, sl, C, Z, u2 I i 1 x, L, R) Q)) ∧
  (∀ (ls : Lo) (st : List Value) (h : Hp) (Q : Option Value → Hp → Prop)  (i : Nat), Wp 79 8 (some (.ref i) :: ls) (st) h Q ↔ Wp 79 9 (some (.ref i) :: ls) (.ref i :: st) h Q) ∧
  (∀ (ls : Lo) (st : List Value) (h : Hp) (Q : Option Value → Hp → Prop) (l0 : Option Value) (x : Int32), Wp 79 9 (l0 :: some (.int x) :: ls) (st) h Q ↔ Wp 79 10 (l0 :: some (.int x) :: ls) (.int x :: st) h Q) ∧
  (∀ (ls : Lo) (st : List Value) (n sl : Nat) (C Z : Nat → Nat) (I : Nat → Nat → Int32) (L : Nat → Nat → Int64) (R : Nat → Nat → Nat) (Q : Option Value → Hp → Prop) (x0 : Int32) (i : Nat), C i = 10 → (Wp 79 10 (ls) (.int x0 :: .ref i :: st) (n, sl, C, Z, I, L, R) Q ↔ (wsum st ≤ 8 ∧ Call 92 [some (.ref i), some (.int x0)] (n, sl, C, Z, I, L, R) 79 13 ls st Q))) ∧
  (∀ (ls : Lo) (st : List Value) (h : Hp) (Q : Option Value → Hp → Prop) (l0 l1 l2 l3 l4 : Option Value) (i : Nat), Wp 79 13 (l0 :: l1 :: l2 :: l3 :: l4 :: ls) (.ref i :: st) h Q ↔ Wp 79 15 (l0 :: l1 :: l2 :: clr l3 :: some (.ref i) :: ls) (st) h Q) ∧
  (∀ (ls : Lo) (st : List Value) (h : Hp) (Q : Option Value → Hp → Prop) (l0 l1 l2 l3 : Option Value) (i : Nat), Wp 79 15 (l0 :: l1 :: l2 :: l3 :: some (.ref i) :: ls) (st) h Q ↔ Wp 79 17 (l0 :: l1 :: l2 :: l3 :: some (.ref i) :: ls) (.ref i :: st) h Q) ∧
  (∀ (ls : Lo) (st : List Value) (h : Hp) (Q : Option Value → Hp → Prop) (i : Nat), Wp 79 17 (ls) (.ref i :: st) h Q ↔ Br 79 22 20 ls st h Q (¬ i = 0)) ∧
  (∀ (ls : Lo) (st : List Value) (h : Hp) (Q : Option Value → Hp → Prop), Wp 79 20 (ls) (st) h Q ↔ Wp 79 21 (ls) (.int (0) :: st) h Q) ∧
  (∀ (ls : Lo) (h : Hp) (Q : Option Value → Hp → Prop) (x : Int32), Wp 79 21 (ls) ([.int x]) h Q ↔ Q (some (.int x)) h) ∧
  (∀ (ls : Lo) (st : List Value) (h : Hp) (Q : Option Value → Hp → Prop) (l0 l1 : Option Value) (x : Int32), Wp 79 22 (l0 :: l1 :: some (.int x) :: ls) (st) h Q ↔ Wp 79 23 (l0 :: l1 :: some (.int x) :: ls) (.int x :: st) h Q) ∧
  (∀ (ls : Lo) (st : List Value) (h : Hp) (Q : Option Value → Hp → Prop) (x : Int32), Wp 79 23 ls (.int x :: st) h Q ↔ Wp 79 (if x = 0 then 48 else if x = 1 then 59 else if x = 2 then 70 else 81) ls st h Q) ∧
  (∀ (ls : Lo) (st : List Value) (h : Hp) (Q : Option Value → Hp → Prop) (l0 l1 l2 l3 : Option Value) (i : Nat), Wp 79 48 (l0 :: l1 :: l2 :: l3 :: some (.ref i) :: ls) (st) h Q ↔ Wp 79 50 (l0 :: l1 :: l2 :: l3 :: some (.ref i) :: ls) (.ref i :: st) h Q) ∧
  (∀ (ls : Lo) (st : List Value) (h : Hp) (Q : Option Value → Hp → Prop) (l0 l1 l2 : Option Value) (x : Int32), Wp 79 50 (l0 :: l1 :: l2 :: some (.int x) :: ls) (st) h Q ↔ Wp 79 51 (l0 :: l1 :: l2 :: some (.int x) :: ls) (.int x :: st) h Q) ∧
  (∀ (ls : Lo) (st : List Value) (h : Hp) (Q : Option Value → Hp → Prop)  (i : Nat), Wp 79 51 (some (.ref i) :: ls) (st) h Q ↔ Wp 79 52 (some (.ref i) :: ls) (.ref i :: st) h Q) ∧
  (∀ (ls : Lo) (st : List Value) (n sl : Nat) (C Z : Nat → Nat) (I : Nat → Nat → Int32) (L : Nat → Nat → Int64) (R : Nat → Nat → Nat) (Q : Option Value → Hp → Prop) (i : Nat), Wp 79 52 (ls) (.ref i :: st) (n, sl, C, Z, I, L, R) Q ↔ (C i = 10 ∧ Wp 79 55 (ls) (.ref (R i 5) :: st) (n, sl, C, Z, I, L, R) Q)) ∧
  (∀ (ls : Lo) (st : List Value) (n sl : Nat) (C Z : Nat → Nat) (I : Nat → Nat → Int32) (L : Nat → Nat → Int64) (R : Nat → Nat → Nat) (Q : Option Value → Hp → Prop) (x0 : Int32) (x1 : Nat) (i : Nat), C i = 2 → (Wp 79 55 (ls) (.ref x1 :: .int x0 :: .ref i :: st) (n, sl, C, Z, I, L, R) Q ↔ (wsum st ≤ 8 ∧ Call 11 [some (.ref i), some (.int x0), some (.ref x1)] (n, sl, C, Z, I, L, R) 79 58 ls st Q))) ∧
  (∀ (ls : Lo) (st : List Value) (n sl : Nat) (C Z : Nat → Nat) (I : Nat → Nat → Int32) (L : Nat → Nat → Int64) (R : Nat → Nat → Nat) (Q : Option Value → Hp → Prop) (x0 : Int32) (x1 : Nat) (i : Nat), C i = 5 → (Wp 79 55 (ls) (.ref x1 :: .int x0 :: .ref i :: st) (n, sl, C, Z, I, L, R) Q ↔ (wsum st ≤ 8 ∧ Call 54 [some (.ref i), some (.int x0), some (.ref x1)] (n, sl, C, Z, I, L, R) 79 58 ls st Q))) ∧
  (∀ (ls : Lo) (st : List Value) (n sl : Nat) (C Z : Nat → Nat) (I : Nat → Nat → Int32) (L : Nat → Nat → Int64) (R : Nat → Nat → Nat) (Q : Option Value → Hp → Prop) (x0 : Int32) (x1 : Nat) (i : Nat), C i = 6 → (Wp 79 55 (ls) (.ref x1 :: .int x0 :: .ref i :: st) (n, sl, C, Z, I, L, R) Q ↔ (wsum st ≤ 8 ∧ Call 47 [some (.ref i), some (.int x0), some (.ref x1)] (n, sl, C, Z, I, L, R) 79 58 ls st Q))) ∧
  (∀ (ls : Lo) (st : List Value) (n sl : Nat) (C Z : Nat → Nat) (I : Nat → Nat → Int32) (L : Nat → Nat → Int64) (R : Nat → Nat → Nat) (Q : Option Value → Hp → Prop) (x0 : Int32) (x1 : Nat) (i : Nat), C i = 8 → (Wp 79 55 (ls) (.ref x1 :: .int x0 :: .ref i :: st) (n, sl, C, Z, I, L, R) Q ↔ (wsum st ≤ 8 ∧ Call 54 [some (.ref i), some (.int x0), some (.ref x1)] (n, sl, C, Z, I, L, R) 79 58 ls st Q))) ∧
  (∀ (ls : Lo) (h : Hp) (Q : Option Value → Hp → Prop) (x : Int32), Wp 79 58 (ls) ([.int x]) h Q ↔ Q (some (.int x)) h) ∧
  (∀ (ls : Lo) (st : List Value) (h : Hp) (Q : Option Value → Hp → Prop) (l0 l1 l2 l3 : Option Value) (i : Nat), Wp 79 59 (l0 :: l1 :: l2 :: l3 :: some (.ref i) :: ls) (st) h Q ↔ Wp 79 61 (l0 :: l1 :: l2 :: l3 :: some (.ref i) :: ls) (.ref i :: st) h Q) ∧
  (∀ (ls : Lo) (st : List Value) (h : Hp) (Q : Option Value → Hp → Prop) (l0 l1 l2 : Option Value) (x : Int32), Wp 79 61 (l0 :: l1 :: l2 :: some (.int x) :: ls) (st) h Q ↔ Wp 79 62 (l0 :: l1 :: l2 :: some (.int x) :: ls) (.int x :: st) h Q) := ⟨by intro ls st h Q i; exact e_aload_n d79_0 rfl,
  by intro ls st n sl C Z I L R Q i; exact e_get (g := 9) (s := 5) (ty := 2) d79_1 rfl rfl (inG_ne (by decide)),
  by intro ls st h Q; exact e_iconst d79_4 rfl,
  by intro ls st n sl C Z I L R Q i x; exact e_putI (g := 8) (s := 1) d79_5 rfl (Or.inl rfl) (inG_ne (by decide)),
  by intro ls st h Q i; exact e_aload_n d79_8 rfl,
  by intro ls st h Q l0 x; exact e_iload_n d79_9 rfl,
  by intro ls st n sl C Z I L R Q x0 i hh; exact e_iv (k2 := 92) (c := 10) (as := [.int x0]) d79_10 rfl (by decide) rfl rfl (by decide +kernel) (Nat.le_of_ble_eq_true rfl) rfl hh,
  by intro ls st h Q l0 l1 l2 l3 l4 i; exact e_astore d79_13 rfl,
  by intro ls st h Q l0 l1 l2 l3 i; exact e_aload d79_15 rfl,
  by intro ls st h Q i; exact e_ifnn d79_17 (by decide),
  by intro ls st h Q; exact e_iconst d79_20 rfl,
  by intros; exact e_rI (p := True) d79_21 rfl,
  by intro ls st h Q l0 l1 x; exact e_iload_n d79_22 rfl,
  by
    intro ls st h Q x
    refine e_ts d79_23 ?_
    by_cases h0 : x = 0
    · subst h0; rfl
    by_cases h1 : x = 1
    · subst h1; rfl
    by_cases h2 : x = 2
    · subst h2; rfl
    rw [if_neg h0, if_neg h1, if_neg h2]
    exact ts_out_jmp (n := 2) (t := 81) (fun j hj => by
      match j, hj with
      | 0, _ => exact h0
      | 1, _ => exact h1
      | 2, _ => exact h2
      ) (by decide) rfl,
  by intro ls st h Q l0 l1 l2 l3 i; exact e_aload d79_48 rfl,
  by intro ls st h Q l0 l1 l2 x; exact e_iload_n d79_50 rfl,
  by intro ls st h Q i; exact e_aload_n d79_51 rfl,
  by intro ls st n sl C Z I L R Q i; exact e_get (g := 9) (s := 5) (ty := 2) d79_52 rfl rfl (inG_ne (by decide)),
  by intro ls st n sl C Z I L R Q x0 x1 i hh; exact e_iv (k2 := 11) (c := 2) (as := [.int x0, .ref x1]) d79_55 rfl (by decide) rfl rfl (by decide +kernel) (Nat.le_of_ble_eq_true rfl) rfl hh,
  by intro ls st n sl C Z I L R Q x0 x1 i hh; exact e_iv (k2 := 54) (c := 5) (as := [.int x0, .ref x1]) d79_55 rfl (by decide) rfl rfl (by decide +kernel) (Nat.le_of_ble_eq_true rfl) rfl hh,
  by intro ls st n sl C Z I L R Q x0 x1 i hh; exact e_iv (k2 := 47) (c := 6) (as := [.int x0, .ref x1]) d79_55 rfl (by decide) rfl rfl (by decide +kernel) (Nat.le_of_ble_eq_true rfl) rfl hh,
  by intro ls st n sl C Z I L R Q x0 x1 i hh; exact e_iv (k2 := 54) (c := 8) (as := [.int x0, .ref x1]) d79_55 rfl (by decide) rfl rfl (by decide +kernel) (Nat.le_of_ble_eq_true rfl) rfl hh,
  by intros; exact e_rI (p := True) d79_58 rfl,
  by intro ls st h Q l0 l1 l2 l3 i; exact e_aload d79_59 rfl,
  by intro ls st h Q l0 l1 l2 x; exact e_iload_n d79_61 rfl⟩
set_option maxRecDepth 20000 in
theorem S79_1 : (∀ (ls : Lo) (st : List Value) (h : Hp) (Q : Option Value → Hp → Prop)  (i : Nat), Wp 79 62 (some (.ref i) :: ls) (st) h Q ↔ Wp 79 63 (some (.ref i) :: ls) (.ref i :: st) h Q) ∧
  (∀ (ls : Lo) (st : List Value) (n sl : Nat) (C Z : Nat → Nat) (I : Nat → Nat → Int32) (L : Nat → Nat → Int64) (R : Nat → Nat → Nat) (Q : Option Value → Hp → Prop) (i : Nat), Wp 79 63 (ls) (.ref i :: st) (n, sl, C, Z, I, L, R) Q ↔ (C i = 10 ∧ Wp 79 66 (ls) (.ref (R i 5) :: st) (n, sl, C, Z, I, L, R) Q)) ∧
  (∀ (ls : Lo) (st : List Value) (n sl : Nat) (C Z : Nat → Nat) (I : Nat → Nat → Int32) (L : Nat → Nat → Int64) (R : Nat → Nat → Nat) (Q : Option Value → Hp → Prop) (x0 : Int32) (x1 : Nat) (i : Nat), C i = 2 → (Wp 79 66 (ls) (.ref x1 :: .int x0 :: .ref i :: st) (n, sl, C, Z, I, L, R) Q ↔ (wsum st ≤ 8 ∧ Call 55 [some (.ref i), some (.int x0), some (.ref x1)] (n, sl, C, Z, I, L, R) 79 69 ls st Q))) ∧
  (∀ (ls : Lo) (st : List Value) (n sl : Nat) (C Z : Nat → Nat) (I : Nat → Nat → Int32) (L : Nat → Nat → Int64) (R : Nat → Nat → Nat) (Q : Option Value → Hp → Prop) (x0 : Int32) (x1 : Nat) (i : Nat), C i = 5 → (Wp 79 66 (ls) (.ref x1 :: .int x0 :: .ref i :: st) (n, sl, C, Z, I, L, R) Q ↔ (wsum st ≤ 8 ∧ Call 39 [some (.ref i), some (.int x0), some (.ref x1)] (n, sl, C, Z, I, L, R) 79 69 ls st Q))) ∧
  (∀ (ls : Lo) (st : List Value) (n sl : Nat) (C Z : Nat → Nat) (I : Nat → Nat → Int32) (L : Nat → Nat → Int64) (R : Nat → Nat → Nat) (Q : Option Value → Hp → Prop) (x0 : Int32) (x1 : Nat) (i : Nat), C i = 6 → (Wp 79 66 (ls) (.ref x1 :: .int x0 :: .ref i :: st) (n, sl, C, Z, I, L, R) Q ↔ (wsum st ≤ 8 ∧ Call 39 [some (.ref i), some (.int x0), some (.ref x1)] (n, sl, C, Z, I, L, R) 79 69 ls st Q))) ∧
  (∀ (ls : Lo) (st : List Value) (n sl : Nat) (C Z : Nat → Nat) (I : Nat → Nat → Int32) (L : Nat → Nat → Int64) (R : Nat → Nat → Nat) (Q : Option Value → Hp → Prop) (x0 : Int32) (x1 : Nat) (i : Nat), C i = 8 → (Wp 79 66 (ls) (.ref x1 :: .int x0 :: .ref i :: st) (n, sl, C, Z, I, L, R) Q ↔ (wsum st ≤ 8 ∧ Call 55 [some (.ref i), some (.int x0), some (.ref x1)] (n, sl, C, Z, I, L, R) 79 69 ls st Q))) ∧
  (∀ (ls : Lo) (h : Hp) (Q : Option Value → Hp → Prop) (x : Int32), Wp 79 69 (ls) ([.int x]) h Q ↔ Q (some (.int x)) h) ∧
  (∀ (ls : Lo) (st : List Value) (h : Hp) (Q : Option Value → Hp → Prop) (l0 l1 l2 l3 : Option Value) (i : Nat), Wp 79 70 (l0 :: l1 :: l2 :: l3 :: some (.ref i) :: ls) (st) h Q ↔ Wp 79 72 (l0 :: l1 :: l2 :: l3 :: some (.ref i) :: ls) (.ref i :: st) h Q) ∧
  (∀ (ls : Lo) (st : List Value) (h : Hp) (Q : Option Value → Hp → Prop) (l0 l1 l2 : Option Value) (x : Int32), Wp 79 72 (l0 :: l1 :: l2 :: some (.int x) :: ls) (st) h Q ↔ Wp 79 73 (l0 :: l1 :: l2 :: some (.int x) :: ls) (.int x :: st) h Q) ∧
  (∀ (ls : Lo) (st : List Value) (h : Hp) (Q : Option Value → Hp → Prop)  (i : Nat), Wp 79 73 (some (.ref i) :: ls) (st) h Q ↔ Wp 79 74 (some (.ref i) :: ls) (.ref i :: st) h Q) ∧
  (∀ (ls : Lo) (st : List Value) (n sl : Nat) (C Z : Nat → Nat) (I : Nat → Nat → Int32) (L : Nat → Nat → Int64) (R : Nat → Nat → Nat) (Q : Option Value → Hp → Prop) (i : Nat), Wp 79 74 (ls) (.ref i :: st) (n, sl, C, Z, I, L, R) Q ↔ (C i = 10 ∧ Wp 79 77 (ls) (.ref (R i 5) :: st) (n, sl, C, Z, I, L, R) Q)) ∧
  (∀ (ls : Lo) (st : List Value) (n sl : Nat) (C Z : Nat → Nat) (I : Nat → Nat → Int32) (L : Nat → Nat → Int64) (R : Nat → Nat → Nat) (Q : Option Value → Hp → Prop) (x0 : Int32) (x1 : Nat) (i : Nat), C i = 2 → (Wp 79 77 (ls) (.ref x1 :: .int x0 :: .ref i :: st) (n, sl, C, Z, I, L, R) Q ↔ (wsum st ≤ 8 ∧ Call 56 [some (.ref i), some (.int x0), some (.ref x1)] (n, sl, C, Z, I, L, R) 79 80 ls st Q))) ∧
  (∀ (ls : Lo) (st : List Value) (n sl : Nat) (C Z : Nat → Nat) (I : Nat → Nat → Int32) (L : Nat → Nat → Int64) (R : Nat → Nat → Nat) (Q : Option Value → Hp → Prop) (x0 : Int32) (x1 : Nat) (i : Nat), C i = 5 → (Wp 79 77 (ls) (.ref x1 :: .int x0 :: .ref i :: st) (n, sl, C, Z, I, L, R) Q ↔ (wsum st ≤ 8 ∧ Call 40 [some (.ref i), some (.int x0), some (.ref x1)] (n, sl, C, Z, I, L, R) 79 80 ls st Q))) ∧
  (∀ (ls : Lo) (st : List Value) (n sl : Nat) (C Z : Nat → Nat) (I : Nat → Nat → Int32) (L : Nat → Nat → Int64) (R : Nat → Nat → Nat) (Q : Option Value → Hp → Prop) (x0 : Int32) (x1 : Nat) (i : Nat), C i = 6 → (Wp 79 77 (ls) (.ref x1 :: .int x0 :: .ref i :: st) (n, sl, C, Z, I, L, R) Q ↔ (wsum st ≤ 8 ∧ Call 48 [some (.ref i), some (.int x0), some (.ref x1)] (n, sl, C, Z, I, L, R) 79 80 ls st Q))) ∧
  (∀ (ls : Lo) (st : List Value) (n sl : Nat) (C Z : Nat → Nat) (I : Nat → Nat → Int32) (L : Nat → Nat → Int64) (R : Nat → Nat → Nat) (Q : Option Value → Hp → Prop) (x0 : Int32) (x1 : Nat) (i : Nat), C i = 8 → (Wp 79 77 (ls) (.ref x1 :: .int x0 :: .ref i :: st) (n, sl, C, Z, I, L, R) Q ↔ (wsum st ≤ 8 ∧ Call 56 [some (.ref i), some (.int x0), some (.ref x1)] (n, sl, C, Z, I, L, R) 79 80 ls st Q))) ∧
  (∀ (ls : Lo) (h : Hp) (Q : Option Value → Hp → Prop) (x : Int32), Wp 79 80 (ls) ([.int x]) h Q ↔ Q (some (.int x)) h) ∧
  (∀ (ls : Lo) (st : List Value) (h : Hp) (Q : Option Value → Hp → Prop), Wp 79 81 (ls) (st) h Q ↔ Wp 79 82 (ls) (.int (0) :: st) h Q) ∧
  (∀ (ls : Lo) (h : Hp) (Q : Option Value → Hp → Prop) (x : Int32), Wp 79 82 (ls) ([.int x]) h Q ↔ Q (some (.int x)) h) := ⟨by intro ls st h Q i; exact e_aload_n d79_62 rfl,
  by intro ls st n sl C Z I L R Q i; exact e_get (g := 9) (s := 5) (ty := 2) d79_63 rfl rfl (inG_ne (by decide)),
  by intro ls st n sl C Z I L R Q x0 x1 i hh; exact e_iv (k2 := 55) (c := 2) (as := [.int x0, .ref x1]) d79_66 rfl (by decide) rfl rfl (by decide +kernel) (Nat.le_of_ble_eq_true rfl) rfl hh,
  by intro ls st n sl C Z I L R Q x0 x1 i hh; exact e_iv (k2 := 39) (c := 5) (as := [.int x0, .ref x1]) d79_66 rfl (by decide) rfl rfl (by decide +kernel) (Nat.le_of_ble_eq_true rfl) rfl hh,
  by intro ls st n sl C Z I L R Q x0 x1 i hh; exact e_iv (k2 := 39) (c := 6) (as := [.int x0, .ref x1]) d79_66 rfl (by decide) rfl rfl (by decide +kernel) (Nat.le_of_ble_eq_true rfl) rfl hh,
  by intro ls st n sl C Z I L R Q x0 x1 i hh; exact e_iv (k2 := 55) (c := 8) (as := [.int x0, .ref x1]) d79_66 rfl (by decide) rfl rfl (by decide +kernel) (Nat.le_of_ble_eq_true rfl) rfl hh,
  by intros; exact e_rI (p := True) d79_69 rfl,
  by intro ls st h Q l0 l1 l2 l3 i; exact e_aload d79_70 rfl,
  by intro ls st h Q l0 l1 l2 x; exact e_iload_n d79_72 rfl,
  by intro ls st h Q i; exact e_aload_n d79_73 rfl,
  by intro ls st n sl C Z I L R Q i; exact e_get (g := 9) (s := 5) (ty := 2) d79_74 rfl rfl (inG_ne (by decide)),
  by intro ls st n sl C Z I L R Q x0 x1 i hh; exact e_iv (k2 := 56) (c := 2) (as := [.int x0, .ref x1]) d79_77 rfl (by decide) rfl rfl (by decide +kernel) (Nat.le_of_ble_eq_true rfl) rfl hh,
  by intro ls st n sl C Z I L R Q x0 x1 i hh; exact e_iv (k2 := 40) (c := 5) (as := [.int x0, .ref x1]) d79_77 rfl (by decide) rfl rfl (by decide +kernel) (Nat.le_of_ble_eq_true rfl) rfl hh,
  by intro ls st n sl C Z I L R Q x0 x1 i hh; exact e_iv (k2 := 48) (c := 6) (as := [.int x0, .ref x1]) d79_77 rfl (by decide) rfl rfl (by decide +kernel) (Nat.le_of_ble_eq_true rfl) rfl hh,
  by intro ls st n sl C Z I L R Q x0 x1 i hh; exact e_iv (k2 := 56) (c := 8) (as := [.int x0, .ref x1]) d79_77 rfl (by decide) rfl rfl (by decide +kernel) (Nat.le_of_ble_eq_true rfl) rfl hh,
  by intros; exact e_rI (p := True) d79_80 rfl,
  by intro ls st h Q; exact e_iconst d79_81 rfl,
  by intros; exact e_rI (p := True) d79_82 rfl⟩
theorem d80_0 : decode (byt 80) 0 = .ok (.iload_n 1, 1) := by decide +kernel
theorem d80_1 : decode (byt 80) 1 = .ok (.iconst 0, 1) := by decide +kernel
theorem d80_2 : decode (byt 80) 2 = .ok (.aload_n 0, 1) := by decide +kernel
theorem d80_3 : decode (byt 80) 3 = .ok (.getfield 32, 3) := by decide +kernel
theorem d80_6 : decode (byt 80) 6 = .ok (.getfield 229, 3) := by decide +kernel
theorem d80_9 : decode (byt 80) 9 = .ok (.bipush 40, 2) := by decide +kernel
theorem d80_11 : decode (byt 80) 11 = .ok (.invokestatic 220, 3) := by decide +kernel
theorem d80_14 : decode (byt 80) 14 = .ok (.iconst 1, 1) := by decide +kernel
theorem d80_15 : decode (byt 80) 15 = .ok (.isub, 1) := by decide +kernel
theorem d80_16 : decode (byt 80) 16 = .ok (.invokestatic 66, 3) := by decide +kernel
theorem d80_19 : decode (byt 80) 19 = .ok (.ifCond .eq 15, 3) := by decide +kernel
theorem d80_22 : decode (byt 80) 22 = .ok (.aload_n 0, 1) := by decide +kernel
theorem d80_23 : decode (byt 80) 23 = .ok (.getfield 32, 3) := by decide +kernel
theorem d80_26 : decode (byt 80) 26 = .ok (.getfield 242, 3) := by decide +kernel
theorem d80_29 : decode (byt 80) 29 = .ok (.iload_n 1, 1) := by decide +kernel
theorem d80_30 : decode (byt 80) 30 = .ok (.iaload, 1) := by decide +kernel
theorem d80_31 : decode (byt 80) 31 = .ok (.goto 4, 3) := by decide +kernel
theorem d80_34 : decode (byt 80) 34 = .ok (.iconst (-1), 1) := by decide +kernel
theorem d80_35 : decode (byt 80) 35 = .ok (.ireturn, 1) := by decide +kernel
set_option maxRecDepth 20000 in
theorem S80_0 : (∀ (ls : Lo) (st : List Value) (h : Hp) (Q : Option Value → Hp → Prop) (l0 : Option Value) (x : Int32), Wp 80 0 (l0 :: some (.int x) :: ls) (st) h Q ↔ Wp 80 1 (l0 :: some (.int x) :: ls) (.int x :: st) h Q) ∧
  (∀ (ls : Lo) (st : List Value) (h : Hp) (Q : Option Value → Hp → Prop), Wp 80 1 (ls) (st) h Q ↔ Wp 80 2 (ls) (.int (0) :: st) h Q) ∧
  (∀ (ls : Lo) (st : List Value) (h : Hp) (Q : Option Value → Hp → Prop)  (i : Nat), Wp 80 2 (some (.ref i) :: ls) (st) h Q ↔ Wp 80 3 (some (.ref i) :: ls) (.ref i :: st) h Q) ∧
  (∀ (ls : Lo) (st : List Value) (n sl : Nat) (C Z : Nat → Nat) (I : Nat → Nat → Int32) (L : Nat → Nat → Int64) (R : Nat → Nat → Nat) (Q : Option Value → Hp → Prop) (i : Nat), Wp 80 3 (ls) (.ref i :: st) (n, sl, C, Z, I, L, R) Q ↔ (C i = 10 ∧ Wp 80 6 (ls) (.ref (R i 5) :: st) (n, sl, C, Z, I, L, R) Q)) ∧
  (∀ (ls : Lo) (st : List Value) (n sl : Nat) (C Z : Nat → Nat) (I : Nat → Nat → Int32) (L : Nat → Nat → Int64) (R : Nat → Nat → Nat) (Q : Option Value → Hp → Prop) (i : Nat), Wp 80 6 (ls) (.ref i :: st) (n, sl, C, Z, I, L, R) Q ↔ (C i = 9 ∧ Wp 80 9 (ls) (.int (I i 1) :: st) (n, sl, C, Z, I, L, R) Q)) ∧
  (∀ (ls : Lo) (st : List Value) (h : Hp) (Q : Option Value → Hp → Prop), Wp 80 9 (ls) (st) h Q ↔ Wp 80 11 (ls) (.int (40) :: st) h Q) ∧
  (∀ (ls : Lo) (st : List Value) (h : Hp) (Q : Option Value → Hp → Prop) (x y : Int32), Wp 80 11 (ls) (.int y :: .int x :: st) h Q ↔ (wsum st ≤ 8 ∧ Wp 80 14 (ls) (.int (if y < x then y else x) :: st) h Q)) ∧
  (∀ (ls : Lo) (st : List Value) (h : Hp) (Q : Option Value → Hp → Prop), Wp 80 14 (ls) (st) h Q ↔ Wp 80 15 (ls) (.int (1) :: st) h Q) ∧
  (∀ (ls : Lo) (st : List Value) (h : Hp) (Q : Option Value → Hp → Prop) (x y : Int32), Wp 80 15 (ls) (.int y :: .int x :: st) h Q ↔ Wp 80 16 (ls) (.int (x - y) :: st) h Q) ∧
  (∀ (ls : Lo) (st : List Value) (h : Hp) (Q : Option Value → Hp → Prop) (x0 : Int32) (x1 : Int32) (x2 : Int32), Wp 80 16 (ls) (.int x2 :: .int x1 :: .int x0 :: st) h Q ↔ (wsum st ≤ 8 ∧ Call 87 [some (.int x0), some (.int x1), some (.int x2)] h 80 19 ls st Q)) ∧
  (∀ (ls : Lo) (st : List Value) (h : Hp) (Q : Option Value → Hp → Prop) (x : Int32), Wp 80 19 (ls) (.int x :: st) h Q ↔ Br 80 34 22 ls st h Q (x = 0)) ∧
  (∀ (ls : Lo) (st : List Value) (h : Hp) (Q : Option Value → Hp → Prop)  (i : Nat), Wp 80 22 (some (.ref i) :: ls) (st) h Q ↔ Wp 80 23 (some (.ref i) :: ls) (.ref i :: st) h Q) ∧
  (∀ (ls : Lo) (st : List Value) (n sl : Nat) (C Z : Nat → Nat) (I : Nat → Nat → Int32) (L : Nat → Nat → Int64) (R : Nat → Nat → Nat) (Q : Option Value → Hp → Prop) (i : Nat), Wp 80 23 (ls) (.ref i :: st) (n, sl, C, Z, I, L, R) Q ↔ (C i = 10 ∧ Wp 80 26 (ls) (.ref (R i 5) :: st) (n, sl, C, Z, I, L, R) Q)) ∧
  (∀ (ls : Lo) (st : List Value) (n sl : Nat) (C Z : Nat → Nat) (I : Nat → Nat → Int32) (L : Nat → Nat → Int64) (R : Nat → Nat → Nat) (Q : Option Value → Hp → Prop) (i : Nat), Wp 80 26 (ls) (.ref i :: st) (n, sl, C, Z, I, L, R) Q ↔ (C i = 9 ∧ Wp 80 29 (ls) (.ref (R i 0) :: st) (n, sl, C, Z, I, L, R) Q)) ∧
  (∀ (ls : Lo) (st : List Value) (h : Hp) (Q : Option Value → Hp → Prop) (l0 : Option Value) (x : Int32), Wp 80 29 (l0 :: some (.int x) :: ls) (st) h Q ↔ Wp 80 30 (l0 :: some (.int x) :: ls) (.int x :: st) h Q) ∧
  (∀ (ls : Lo) (st : List Value) (n sl : Nat) (C Z : Nat → Nat) (I : Nat → Nat → Int32) (L : Nat → Nat → Int64) (R : Nat → Nat → Nat) (Q : Option Value → Hp → Prop) (i : Nat) (y : Int32), Wp 80 30 (ls) (.int y :: .ref i :: st) (n, sl, C, Z, I, L, R) Q ↔ ((inb y (Z i) = true ∧ C i = 21) ∧ Wp 80 31 (ls) (.int (I i (ix y)) :: st) (n, sl, C, Z, I, L, R) Q)) ∧
  (∀ (ls : Lo) (st : List Value) (h : Hp) (Q : Option Value → Hp → Prop), Wp 80 31 (ls) (st) h Q ↔ Wp 80 35 (ls) (st) h Q) ∧
  (∀ (ls : Lo) (st : List Value) (h : Hp) (Q : Option Value → Hp → Prop), Wp 80 34 (ls) (st) h Q ↔ Wp 80 35 (ls) (.int (-1) :: st) h Q) ∧
  (∀ (ls : Lo) (h : Hp) (Q : Option Value → Hp → Prop) (x : Int32), Wp 80 35 (ls) ([.int x]) h Q ↔ Q (some (.int x)) h) := ⟨by intro ls st h Q l0 x; exact e_iload_n d80_0 rfl,
  by intro ls st h Q; exact e_iconst d80_1 rfl,
  by intro ls st h Q i; exact e_aload_n d80_2 rfl,
  by intro ls st n sl C Z I L R Q i; exact e_get (g := 9) (s := 5) (ty := 2) d80_3 rfl rfl (inG_ne (by decide)),
  by intro ls st n sl C Z I L R Q i; exact e_get (g := 8) (s := 1) (ty := 0) d80_6 rfl rfl (inG_ne (by decide)),
  by intro ls st h Q; exact e_bipush d80_9 rfl,
  by intro ls st h Q x y; exact e_min d80_11 rfl (by decide +kernel),
  by intro ls st h Q; exact e_iconst d80_14 rfl,
  by intro ls st h Q x y; exact e_isub d80_15,
  by intro ls st h Q x0 x1 x2; exact e_is (k2 := 87) (as := [.int x0, .int x1, .int x2]) d80_16 rfl (by decide) rfl rfl (by decide +kernel) (Nat.le_of_ble_eq_true rfl) rfl,
  by intro ls st h Q x; exact e_if d80_19 (by decide) c_eq,
  by intro ls st h Q i; exact e_aload_n d80_22 rfl,
  by intro ls st n sl C Z I L R Q i; exact e_get (g := 9) (s := 5) (ty := 2) d80_23 rfl rfl (inG_ne (by decide)),
  by intro ls st n sl C Z I L R Q i; exact e_get (g := 8) (s := 0) (ty := 2) d80_26 rfl rfl (inG_ne (by decide)),
  by intro ls st h Q l0 x; exact e_iload_n d80_29 rfl,
  by intro ls st n sl C Z I L R Q i y; exact e_iald d80_30,
  by intro ls st h Q; exact e_goto d80_31 (by decide),
  by intro ls st h Q; exact e_iconst d80_34 rfl,
  by intros; exact e_rI (p := True) d80_35 rfl⟩
theorem d81_0 : decode (byt 81) 0 = .ok (.iload_n 1, 1) := by decide +kernel
theorem d81_1 : decode (byt 81) 1 = .ok (.tableswitch 45 0 2 #[27, 32, 37], 27) := by decide +kernel
theorem d81_28 : decode (byt 81) 28 = .ok (.aload_n 0, 1) := by decide +kernel
theorem d81_29 : decode (byt 81) 29 = .ok (.getfield 15, 3) := by decide +kernel
theorem d81_32 : decode (byt 81) 32 = .ok (.ireturn, 1) := by decide +kernel
theorem d81_33 : decode (byt 81) 33 = .ok (.aload_n 0, 1) := by decide +kernel
theorem d81_34 : decode (byt 81) 34 = .ok (.getfield 26, 3) := by decide +kernel
theorem d81_37 : decode (byt 81) 37 = .ok (.ireturn, 1) := by decide +kernel
theorem d81_38 : decode (byt 81) 38 = .ok (.aload_n 0, 1) := by decide +kernel
theorem d81_39 : decode (byt 81) 39 = .ok (.getfield 32, 3) := by decide +kernel
theorem d81_42 : decode (byt 81) 42 = .ok (.getfield 229, 3) := by decide +kernel
theorem d81_45 : decode (byt 81) 45 = .ok (.ireturn, 1) := by decide +kernel
theorem d81_46 : decode (byt 81) 46 = .ok (.bipush (-2), 2) := by decide +kernel
theorem d81_48 : decode (byt 81) 48 = .ok (.ireturn, 1) := by decide +kernel
set_option maxRecDepth 20000 in
theorem S81_0 : (∀ (ls : Lo) (st : List Value) (h : Hp) (Q : Option Value → Hp → Prop) (l0 : Option Value) (x : Int32), Wp 81 0 (l0 :: some (.int x) :: ls) (st) h Q ↔ Wp 81 1 (l0 :: some (.int x) :: ls) (.int x :: st) h Q) ∧
  (∀ (ls : Lo) (st : List Value) (h : Hp) (Q : Option Value → Hp → Prop) (x : Int32), Wp 81 1 ls (.int x :: st) h Q ↔ Wp 81 (if x = 0 then 28 else if x = 1 then 33 else if x = 2 then 38 else 46) ls st h Q) ∧
  (∀ (ls : Lo) (st : List Value) (h : Hp) (Q : Option Value → Hp → Prop)  (i : Nat), Wp 81 28 (some (.ref i) :: ls) (st) h Q ↔ Wp 81 29 (some (.ref i) :: ls) (.ref i :: st) h Q) ∧
  (∀ (ls : Lo) (st : List Value) (n sl : Nat) (C Z : Nat → Nat) (I : Nat → Nat → Int32) (L : Nat → Nat → Int64) (R : Nat → Nat → Nat) (Q : Option Value → Hp → Prop) (i : Nat), Wp 81 29 (ls) (.ref i :: st) (n, sl, C, Z, I, L, R) Q ↔ (C i = 10 ∧ Wp 81 32 (ls) (.int (I i 1) :: st) (n, sl, C, Z, I, L, R) Q)) ∧
  (∀ (ls : Lo) (h : Hp) (Q : Option Value → Hp → Prop) (x : Int32), Wp 81 32 (ls) ([.int x]) h Q ↔ Q (some (.int x)) h) ∧
  (∀ (ls : Lo) (st : List Value) (h : Hp) (Q : Option Value → Hp → Prop)  (i : Nat), Wp 81 33 (some (.ref i) :: ls) (st) h Q ↔ Wp 81 34 (some (.ref i) :: ls) (.ref i :: st) h Q) ∧
  (∀ (ls : Lo) (st : List Value) (n sl : Nat) (C Z : Nat → Nat) (I : Nat → Nat → Int32) (L : Nat → Nat → Int64) (R : Nat → Nat → Nat) (Q : Option Value → Hp → Prop) (i : Nat), Wp 81 34 (ls) (.ref i :: st) (n, sl, C, Z, I, L, R) Q ↔ (C i = 10 ∧ Wp 81 37 (ls) (.int (I i 4) :: st) (n, sl, C, Z, I, L, R) Q)) ∧
  (∀ (ls : Lo) (h : Hp) (Q : Option Value → Hp → Prop) (x : Int32), Wp 81 37 (ls) ([.int x]) h Q ↔ Q (some (.int x)) h) ∧
  (∀ (ls : Lo) (st : List Value) (h : Hp) (Q : Option Value → Hp → Prop)  (i : Nat), Wp 81 38 (some (.ref i) :: ls) (st) h Q ↔ Wp 81 39 (some (.ref i) :: ls) (.ref i :: st) h Q) ∧
  (∀ (ls : Lo) (st : List Value) (n sl : Nat) (C Z : Nat → Nat) (I : Nat → Nat → Int32) (L : Nat → Nat → Int64) (R : Nat → Nat → Nat) (Q : Option Value → Hp → Prop) (i : Nat), Wp 81 39 (ls) (.ref i :: st) (n, sl, C, Z, I, L, R) Q ↔ (C i = 10 ∧ Wp 81 42 (ls) (.ref (R i 5) :: st) (n, sl, C, Z, I, L, R) Q)) ∧
  (∀ (ls : Lo) (st : List Value) (n sl : Nat) (C Z : Nat → Nat) (I : Nat → Nat → Int32) (L : Nat → Nat → Int64) (R : Nat → Nat → Nat) (Q : Option Value → Hp → Prop) (i : Nat), Wp 81 42 (ls) (.ref i :: st) (n, sl, C, Z, I, L, R) Q ↔ (C i = 9 ∧ Wp 81 45 (ls) (.int (I i 1) :: st) (n, sl, C, Z, I, L, R) Q)) ∧
  (∀ (ls : Lo) (h : Hp) (Q : Option Value → Hp → Prop) (x : Int32), Wp 81 45 (ls) ([.int x]) h Q ↔ Q (some (.int x)) h) ∧
  (∀ (ls : Lo) (st : List Value) (h : Hp) (Q : Option Value → Hp → Prop), Wp 81 46 (ls) (st) h Q ↔ Wp 81 48 (ls) (.int (-2) :: st) h Q) ∧
  (∀ (ls : Lo) (h : Hp) (Q : Option Value → Hp → Prop) (x : Int32), Wp 81 48 (ls) ([.int x]) h Q ↔ Q (some (.int x)) h) := ⟨by intro ls st h Q l0 x; exact e_iload_n d81_0 rfl,
  by
    intro ls st h Q x
    refine e_ts d81_1 ?_
    by_cases h0 : x = 0
    · subst h0; rfl
    by_cases h1 : x = 1
    · subst h1; rfl
    by_cases h2 : x = 2
    · subst h2; rfl
    rw [if_neg h0, if_neg h1, if_neg h2]
    exact ts_out_jmp (n := 2) (t := 46) (fun j hj => by
      match j, hj with
      | 0, _ => exact h0
      | 1, _ => exact h1
      | 2, _ => exact h2
      ) (by decide) rfl,
  by intro ls st h Q i; exact e_aload_n d81_28 rfl,
  by intro ls st n sl C Z I L R Q i; exact e_get (g := 9) (s := 1) (ty := 0) d81_29 rfl rfl (inG_ne (by decide)),
  by intros; exact e_rI (p := True) d81_32 rfl,
  by intro ls st h Q i; exact e_aload_n d81_33 rfl,
  by intro ls st n sl C Z I L R Q i; exact e_get (g := 9) (s := 4) (ty := 0) d81_34 rfl rfl (inG_ne (by decide)),
  by intros; exact e_rI (p := True) d81_37 rfl,
  by intro ls st h Q i; exact e_aload_n d81_38 rfl,
  by intro ls st n sl C Z I L R Q i; exact e_get (g := 9) (s := 5) (ty := 2) d81_39 rfl rfl (inG_ne (by decide)),
  by intro ls st n sl C Z I L R Q i; exact e_get (g := 8) (s := 1) (ty := 0) d81_42 rfl rfl (inG_ne (by decide)),
  by intros; exact e_rI (p := True) d81_45 rfl,
  by intro ls st h Q; exact e_bipush d81_46 rfl,
  by intros; exact e_rI (p := True) d81_48 rfl⟩
theorem d82_0 : decode (byt 82) 0 = .ok (.iload_n 1, 1) := by decide +kernel
theorem d82_1 : decode (byt 82) 1 = .ok (.invokestatic 244, 3) := by decide +kernel
theorem d82_4 : decode (byt 82) 4 = .ok (.ifCond .eq 12, 3) := by decide +kernel
theorem d82_7 : decode (byt 82) 7 = .ok (.iload_n 2, 1) := by decide +kernel
theorem d82_8 : decode (byt 82) 8 = .ok (.iconst (-1), 1) := by decide +kernel
theorem d82_9 : decode (byt 82) 9 = .ok (.iconst 2, 1) := by decide +kernel
theorem d82_10 : decode (byt 82) 10 = .ok (.invokestatic 66, 3) := by decide +kernel
theorem d82_13 : decode (byt 82) 13 = .ok (.ifCond .ne 6, 3) := by decide +kernel
theorem d82_16 : decode (byt 82) 16 = .ok (.bipush (-2), 2) := by decide +kernel
theorem d82_18 : decode (byt 82) 18 = .ok (.ireturn, 1) := by decide +kernel
theorem d82_19 : decode (byt 82) 19 = .ok (.iload_n 2, 1) := by decide +kernel
theorem d82_20 : decode (byt 82) 20 = .ok (.iconst (-1), 1) := by decide +kernel
theorem d82_21 : decode (byt 82) 21 = .ok (.if_icmp .ne 12, 3) := by decide +kernel
theorem d82_24 : decode (byt 82) 24 = .ok (.aload_n 0, 1) := by decide +kernel
theorem d82_25 : decode (byt 82) 25 = .ok (.getfield 38, 3) := by decide +kernel
theorem d82_28 : decode (byt 82) 28 = .ok (.iload_n 1, 1) := by decide +kernel
theorem d82_29 : decode (byt 82) 29 = .ok (.aconst_null, 1) := by decide +kernel
theorem d82_30 : decode (byt 82) 30 = .ok (.aastore, 1) := by decide +kernel
theorem d82_31 : decode (byt 82) 31 = .ok (.iconst 1, 1) := by decide +kernel
theorem d82_32 : decode (byt 82) 32 = .ok (.ireturn, 1) := by decide +kernel
theorem d82_33 : decode (byt 82) 33 = .ok (.iload_n 3, 1) := by decide +kernel
theorem d82_34 : decode (byt 82) 34 = .ok (.bipush 40, 2) := by decide +kernel
theorem d82_36 : decode (byt 82) 36 = .ok (.if_icmp .le 6, 3) := by decide +kernel
theorem d82_39 : decode (byt 82) 39 = .ok (.bipush (-2), 2) := by decide +kernel
theorem d82_41 : decode (byt 82) 41 = .ok (.ireturn, 1) := by decide +kernel
theorem d82_42 : decode (byt 82) 42 = .ok (.iload_n 3, 1) := by decide +kernel
theorem d82_43 : decode (byt 82) 43 = .ok (.ifCond .ge 6, 3) := by decide +kernel
theorem d82_46 : decode (byt 82) 46 = .ok (.bipush (-14), 2) := by decide +kernel
theorem d82_48 : decode (byt 82) 48 = .ok (.ireturn, 1) := by decide +kernel
theorem d82_49 : decode (byt 82) 49 = .ok (.aload_n 0, 1) := by decide +kernel
theorem d82_50 : decode (byt 82) 50 = .ok (.getfield 38, 3) := by decide +kernel
theorem d82_53 : decode (byt 82) 53 = .ok (.iload_n 1, 1) := by decide +kernel
theorem d82_54 : decode (byt 82) 54 = .ok (.new 36, 3) := by decide +kernel
theorem d82_57 : decode (byt 82) 57 = .ok (.dup, 1) := by decide +kernel
theorem d82_58 : decode (byt 82) 58 = .ok (.iload_n 2, 1) := by decide +kernel
theorem d82_59 : decode (byt 82) 59 = .ok (.iload_n 3, 1) := by decide +kernel
theorem d82_60 : decode (byt 82) 60 = .ok (.invokespecial 248, 3) := by decide +kernel
theorem d82_63 : decode (byt 82) 63 = .ok (.aastore, 1) := by decide +kernel
theorem d82_64 : decode (byt 82) 64 = .ok (.iconst 1, 1) := by decide +kernel
theorem d82_65 : decode (byt 82) 65 = .ok (.ireturn, 1) := by decide +kernel
set_option maxRecDepth 20000 in
theorem S82_0 : (∀ (ls : Lo) (st : List Value) (h : Hp) (Q : Option Value → Hp → Prop) (l0 : Option Value) (x : Int32), Wp 82 0 (l0 :: some (.int x) :: ls) (st) h Q ↔ Wp 82 1 (l0 :: some (.int x) :: ls) (.int x :: st) h Q) ∧
  (∀ (ls : Lo) (st : List Value) (h : Hp) (Q : Option Value → Hp → Prop) (x0 : Int32), Wp 82 1 (ls) (.int x0 :: st) h Q ↔ (wsum st ≤ 8 ∧ Call 90 [some (.int x0)] h 82 4 ls st Q)) ∧
  (∀ (ls : Lo) (st : List Value) (h : Hp) (Q : Option Value → Hp → Prop) (x : Int32), Wp 82 4 (ls) (.int x :: st) h Q ↔ Br 82 16 7 ls st h Q (x = 0)) ∧
  (∀ (ls : Lo) (st : List Value) (h : Hp) (Q : Option Value → Hp → Prop) (l0 l1 : Option Value) (x : Int32), Wp 82 7 (l0 :: l1 :: some (.int x) :: ls) (st) h Q ↔ Wp 82 8 (l0 :: l1 :: some (.int x) :: ls) (.int x :: st) h Q) ∧
  (∀ (ls : Lo) (st : List Value) (h : Hp) (Q : Option Value → Hp → Prop), Wp 82 8 (ls) (st) h Q ↔ Wp 82 9 (ls) (.int (-1) :: st) h Q) ∧
  (∀ (ls : Lo) (st : List Value) (h : Hp) (Q : Option Value → Hp → Prop), Wp 82 9 (ls) (st) h Q ↔ Wp 82 10 (ls) (.int (2) :: st) h Q) ∧
  (∀ (ls : Lo) (st : List Value) (h : Hp) (Q : Option Value → Hp → Prop) (x0 : Int32) (x1 : Int32) (x2 : Int32), Wp 82 10 (ls) (.int x2 :: .int x1 :: .int x0 :: st) h Q ↔ (wsum st ≤ 8 ∧ Call 87 [some (.int x0), some (.int x1), some (.int x2)] h 82 13 ls st Q)) ∧
  (∀ (ls : Lo) (st : List Value) (h : Hp) (Q : Option Value → Hp → Prop) (x : Int32), Wp 82 13 (ls) (.int x :: st) h Q ↔ Br 82 19 16 ls st h Q (¬ x = 0)) ∧
  (∀ (ls : Lo) (st : List Value) (h : Hp) (Q : Option Value → Hp → Prop), Wp 82 16 (ls) (st) h Q ↔ Wp 82 18 (ls) (.int (-2) :: st) h Q) ∧
  (∀ (ls : Lo) (h : Hp) (Q : Option Value → Hp → Prop) (x : Int32), Wp 82 18 (ls) ([.int x]) h Q ↔ Q (some (.int x)) h) ∧
  (∀ (ls : Lo) (st : List Value) (h : Hp) (Q : Option Value → Hp → Prop) (l0 l1 : Option Value) (x : Int32), Wp 82 19 (l0 :: l1 :: some (.int x) :: ls) (st) h Q ↔ Wp 82 20 (l0 :: l1 :: some (.int x) :: ls) (.int x :: st) h Q) ∧
  (∀ (ls : Lo) (st : List Value) (h : Hp) (Q : Option Value → Hp → Prop), Wp 82 20 (ls) (st) h Q ↔ Wp 82 21 (ls) (.int (-1) :: st) h Q) ∧
  (∀ (ls : Lo) (st : List Value) (h : Hp) (Q : Option Value → Hp → Prop) (x y : Int32), Wp 82 21 (ls) (.int y :: .int x :: st) h Q ↔ Br 82 33 24 ls st h Q (¬ x = y)) ∧
  (∀ (ls : Lo) (st : List Value) (h : Hp) (Q : Option Value → Hp → Prop)  (i : Nat), Wp 82 24 (some (.ref i) :: ls) (st) h Q ↔ Wp 82 25 (some (.ref i) :: ls) (.ref i :: st) h Q) ∧
  (∀ (ls : Lo) (st : List Value) (n sl : Nat) (C Z : Nat → Nat) (I : Nat → Nat → Int32) (L : Nat → Nat → Int64) (R : Nat → Nat → Nat) (Q : Option Value → Hp → Prop) (i : Nat), Wp 82 25 (ls) (.ref i :: st) (n, sl, C, Z, I, L, R) Q ↔ (C i = 10 ∧ Wp 82 28 (ls) (.ref (R i 6) :: st) (n, sl, C, Z, I, L, R) Q)) ∧
  (∀ (ls : Lo) (st : List Value) (h : Hp) (Q : Option Value → Hp → Prop) (l0 : Option Value) (x : Int32), Wp 82 28 (l0 :: some (.int x) :: ls) (st) h Q ↔ Wp 82 29 (l0 :: some (.int x) :: ls) (.int x :: st) h Q) ∧
  (∀ (ls : Lo) (st : List Value) (h : Hp) (Q : Option Value → Hp → Prop), Wp 82 29 (ls) (st) h Q ↔ Wp 82 30 (ls) (.ref 0 :: st) h Q) ∧
  (∀ (ls : Lo) (st : List Value) (n sl : Nat) (C Z : Nat → Nat) (I : Nat → Nat → Int32) (L : Nat → Nat → Int64) (R : Nat → Nat → Nat) (Q : Option Value → Hp → Prop) (i j : Nat) (y : Int32), Wp 82 30 (ls) (.ref j :: .int y :: .ref i :: st) (n, sl, C, Z, I, L, R) Q ↔ ((inb y (Z i) = true ∧ ((j = 0 ∧ (C i = 24 ∨ C i = 25)) ∨ okS (C i) (C j) = true)) ∧ Wp 82 31 (ls) (st) (n, sl, C, Z, I, L, u2 R i (ix y) j) Q)) ∧
  (∀ (ls : Lo) (st : List Value) (h : Hp) (Q : Option Value → Hp → Prop), Wp 82 31 (ls) (st) h Q ↔ Wp 82 32 (ls) (.int (1) :: st) h Q) ∧
  (∀ (ls : Lo) (h : Hp) (Q : Option Value → Hp → Prop) (x : Int32), Wp 82 32 (ls) ([.int x]) h Q ↔ Q (some (.int x)) h) ∧
  (∀ (ls : Lo) (st : List Value) (h : Hp) (Q : Option Value → Hp → Prop) (l0 l1 l2 : Option Value) (x : Int32), Wp 82 33 (l0 :: l1 :: l2 :: some (.int x) :: ls) (st) h Q ↔ Wp 82 34 (l0 :: l1 :: l2 :: some (.int x) :: ls) (.int x :: st) h Q) ∧
  (∀ (ls : Lo) (st : List Value) (h : Hp) (Q : Option Value → Hp → Prop), Wp 82 34 (ls) (st) h Q ↔ Wp 82 36 (ls) (.int (40) :: st) h Q) ∧
  (∀ (ls : Lo) (st : List Value) (h : Hp) (Q : Option Value → Hp → Prop) (x y : Int32), Wp 82 36 (ls) (.int y :: .int x :: st) h Q ↔ Br 82 42 39 ls st h Q (x ≤ y)) ∧
  (∀ (ls : Lo) (st : List Value) (h : Hp) (Q : Option Value → Hp → Prop), Wp 82 39 (ls) (st) h Q ↔ Wp 82 41 (ls) (.int (-2) :: st) h Q) ∧
  (∀ (ls : Lo) (h : Hp) (Q : Option Value → Hp → Prop) (x : Int32), Wp 82 41 (ls) ([.int x]) h Q ↔ Q (some (.int x)) h) := ⟨by intro ls st h Q l0 x; exact e_iload_n d82_0 rfl,
  by intro ls st h Q x0; exact e_is (k2 := 90) (as := [.int x0]) d82_1 rfl (by decide) rfl rfl (by decide +kernel) (Nat.le_of_ble_eq_true rfl) rfl,
  by intro ls st h Q x; exact e_if d82_4 (by decide) c_eq,
  by intro ls st h Q l0 l1 x; exact e_iload_n d82_7 rfl,
  by intro ls st h Q; exact e_iconst d82_8 rfl,
  by intro ls st h Q; exact e_iconst d82_9 rfl,
  by intro ls st h Q x0 x1 x2; exact e_is (k2 := 87) (as := [.int x0, .int x1, .int x2]) d82_10 rfl (by decide) rfl rfl (by decide +kernel) (Nat.le_of_ble_eq_true rfl) rfl,
  by intro ls st h Q x; exact e_if d82_13 (by decide) c_ne,
  by intro ls st h Q; exact e_bipush d82_16 rfl,
  by intros; exact e_rI (p := True) d82_18 rfl,
  by intro ls st h Q l0 l1 x; exact e_iload_n d82_19 rfl,
  by intro ls st h Q; exact e_iconst d82_20 rfl,
  by intro ls st h Q x y; exact e_ic d82_21 (by decide) c_ne,
  by intro ls st h Q i; exact e_aload_n d82_24 rfl,
  by intro ls st n sl C Z I L R Q i; exact e_get (g := 9) (s := 6) (ty := 2) d82_25 rfl rfl (inG_ne (by decide)),
  by intro ls st h Q l0 x; exact e_iload_n d82_28 rfl,
  by intro ls st h Q; exact e_null d82_29,
  by intro ls st n sl C Z I L R Q i j y; exact e_aast d82_30,
  by intro ls st h Q; exact e_iconst d82_31 rfl,
  by intros; exact e_rI (p := True) d82_32 rfl,
  by intro ls st h Q l0 l1 l2 x; exact e_iload_n d82_33 rfl,
  by intro ls st h Q; exact e_bipush d82_34 rfl,
  by intro ls st h Q x y; exact e_ic d82_36 (by decide) c_le,
  by intro ls st h Q; exact e_bipush d82_39 rfl,
  by intros; exact e_rI (p := True) d82_41 rfl⟩
set_option maxRecDepth 20000 in
theorem S82_1 : (∀ (ls : Lo) (st : List Value) (h : Hp) (Q : Option Value → Hp → Prop) (l0 l1 l2 : Option Value) (x : Int32), Wp 82 42 (l0 :: l1 :: l2 :: some (.int x) :: ls) (st) h Q ↔ Wp 82 43 (l0 :: l1 :: l2 :: some (.int x) :: ls) (.int x :: st) h Q) ∧
  (∀ (ls : Lo) (st : List Value) (h : Hp) (Q : Option Value → Hp → Prop) (x : Int32), Wp 82 43 (ls) (.int x :: st) h Q ↔ Br 82 49 46 ls st h Q (0 ≤ x)) ∧
  (∀ (ls : Lo) (st : List Value) (h : Hp) (Q : Option Value → Hp → Prop), Wp 82 46 (ls) (st) h Q ↔ Wp 82 48 (ls) (.int (-14) :: st) h Q) ∧
  (∀ (ls : Lo) (h : Hp) (Q : Option Value → Hp → Prop) (x : Int32), Wp 82 48 (ls) ([.int x]) h Q ↔ Q (some (.int x)) h) ∧
  (∀ (ls : Lo) (st : List Value) (h : Hp) (Q : Option Value → Hp → Prop)  (i : Nat), Wp 82 49 (some (.ref i) :: ls) (st) h Q ↔ Wp 82 50 (some (.ref i) :: ls) (.ref i :: st) h Q) ∧
  (∀ (ls : Lo) (st : List Value) (n sl : Nat) (C Z : Nat → Nat) (I : Nat → Nat → Int32) (L : Nat → Nat → Int64) (R : Nat → Nat → Nat) (Q : Option Value → Hp → Prop) (i : Nat), Wp 82 50 (ls) (.ref i :: st) (n, sl, C, Z, I, L, R) Q ↔ (C i = 10 ∧ Wp 82 53 (ls) (.ref (R i 6) :: st) (n, sl, C, Z, I, L, R) Q)) ∧
  (∀ (ls : Lo) (st : List Value) (h : Hp) (Q : Option Value → Hp → Prop) (l0 : Option Value) (x : Int32), Wp 82 53 (l0 :: some (.int x) :: ls) (st) h Q ↔ Wp 82 54 (l0 :: some (.int x) :: ls) (.int x :: st) h Q) ∧
  (∀ (ls : Lo) (st : List Value) (n sl : Nat) (C Z : Nat → Nat) (I : Nat → Nat → Int32) (L : Nat → Nat → Int64) (R : Nat → Nat → Nat) (Q : Option Value → Hp → Prop), Wp 82 54 (ls) (st) (n, sl, C, Z, I, L, R) Q ↔ Wp 82 57 (ls) (.ref (n + 1) :: st) (n + 1, sl + 2, va_up C (n + 1) 7, Z, va_up I (n + 1) (fun _ => 0), va_up L (n + 1) (fun _ => 0), va_up R (n + 1) (fun _ => 0)) Q) ∧
  (∀ (ls : Lo) (st : List Value) (h : Hp) (Q : Option Value → Hp → Prop) (x : Int32), Wp 82 57 (ls) (.int x :: st) h Q ↔ Wp 82 58 (ls) (.int x :: .int x :: st) h Q) ∧
  (∀ (ls : Lo) (st : List Value) (h : Hp) (Q : Option Value → Hp → Prop) (i : Nat), Wp 82 57 (ls) (.ref i :: st) h Q ↔ Wp 82 58 (ls) (.ref i :: .ref i :: st) h Q) ∧
  (∀ (ls : Lo) (st : List Value) (h : Hp) (Q : Option Value → Hp → Prop) (l0 l1 : Option Value) (x : Int32), Wp 82 58 (l0 :: l1 :: some (.int x) :: ls) (st) h Q ↔ Wp 82 59 (l0 :: l1 :: some (.int x) :: ls) (.int x :: st) h Q) ∧
  (∀ (ls : Lo) (st : List Value) (h : Hp) (Q : Option Value → Hp → Prop) (l0 l1 l2 : Option Value) (x : Int32), Wp 82 59 (l0 :: l1 :: l2 :: some (.int x) :: ls) (st) h Q ↔ Wp 82 60 (l0 :: l1 :: l2 :: some (.int x) :: ls) (.int x :: st) h Q) ∧
  (∀ (ls : Lo) (st : List Value) (h : Hp) (Q : Option Value → Hp → Prop) (x0 : Int32) (x1 : Int32) (i : Nat), i ≠ 0 → (Wp 82 60 (ls) (.int x1 :: .int x0 :: .ref i :: st) h Q ↔ (wsum st ≤ 8 ∧ Call 49 [some (.ref i), some (.int x0), some (.int x1)] h 82 63 ls st Q))) ∧
  (∀ (ls : Lo) (st : List Value) (n sl : Nat) (C Z : Nat → Nat) (I : Nat → Nat → Int32) (L : Nat → Nat → Int64) (R : Nat → Nat → Nat) (Q : Option Value → Hp → Prop) (i j : Nat) (y : Int32), Wp 82 63 (ls) (.ref j :: .int y :: .ref i :: st) (n, sl, C, Z, I, L, R) Q ↔ ((inb y (Z i) = true ∧ ((j = 0 ∧ (C i = 24 ∨ C i = 25)) ∨ okS (C i) (C j) = true)) ∧ Wp 82 64 (ls) (st) (n, sl, C, Z, I, L, u2 R i (ix y) j) Q)) ∧
  (∀ (ls : Lo) (st : List Value) (h : Hp) (Q : Option Value → Hp → Prop), Wp 82 64 (ls) (st) h Q ↔ Wp 82 65 (ls) (.int (1) :: st) h Q) ∧
  (∀ (ls : Lo) (h : Hp) (Q : Option Value → Hp → Prop) (x : Int32), Wp 82 65 (ls) ([.int x]) h Q ↔ Q (some (.int x)) h) := ⟨by intro ls st h Q l0 l1 l2 x; exact e_iload_n d82_42 rfl,
  by intro ls st h Q x; exact e_if d82_43 (by decide) c_ge,
  by intro ls st h Q; exact e_bipush d82_46 rfl,
  by intros; exact e_rI (p := True) d82_48 rfl,
  by intro ls st h Q i; exact e_aload_n d82_49 rfl,
  by intro ls st n sl C Z I L R Q i; exact e_get (g := 9) (s := 6) (ty := 2) d82_50 rfl rfl (inG_ne (by decide)),
  by intro ls st h Q l0 x; exact e_iload_n d82_53 rfl,
  by intro ls st n sl C Z I L R Q; exact e_new (p := 103) (c := 6) d82_54 rfl (by decide) rfl,
  by intro ls st h Q x; exact e_dupI d82_57,
  by intro ls st h Q i; exact e_dupR d82_57,
  by intro ls st h Q l0 l1 x; exact e_iload_n d82_58 rfl,
  by intro ls st h Q l0 l1 l2 x; exact e_iload_n d82_59 rfl,
  by intro ls st h Q x0 x1 i hh; exact e_ip (k2 := 49) (as := [.int x0, .int x1]) d82_60 rfl (by decide) rfl rfl (by decide +kernel) (Nat.le_of_ble_eq_true rfl) rfl hh,
  by intro ls st n sl C Z I L R Q i j y; exact e_aast d82_63,
  by intro ls st h Q; exact e_iconst d82_64 rfl,
  by intros; exact e_rI (p := True) d82_65 rfl⟩
theorem d83_0 : decode (byt 83) 0 = .ok (.iload_n 1, 1) := by decide +kernel
theorem d83_1 : decode (byt 83) 1 = .ok (.invokestatic 244, 3) := by decide +kernel
theorem d83_4 : decode (byt 83) 4 = .ok (.ifCond .ne 6, 3) := by decide +kernel
theorem d83_7 : decode (byt 83) 7 = .ok (.bipush (-2), 2) := by decide +kernel
theorem d83_9 : decode (byt 83) 9 = .ok (.ireturn, 1) := by decide +kernel
theorem d83_10 : decode (byt 83) 10 = .ok (.aload_n 0, 1) := by decide +kernel
theorem d83_11 : decode (byt 83) 11 = .ok (.getfield 38, 3) := by decide +kernel
theorem d83_14 : decode (byt 83) 14 = .ok (.iload_n 1, 1) := by decide +kernel
theorem d83_15 : decode (byt 83) 15 = .ok (.aaload, 1) := by decide +kernel
theorem d83_16 : decode (byt 83) 16 = .ok (.astore 4, 2) := by decide +kernel
theorem d83_18 : decode (byt 83) 18 = .ok (.aload 4, 2) := by decide +kernel
theorem d83_20 : decode (byt 83) 20 = .ok (.ifnonnull 6, 3) := by decide +kernel
theorem d83_23 : decode (byt 83) 23 = .ok (.bipush (-11), 2) := by decide +kernel
theorem d83_25 : decode (byt 83) 25 = .ok (.ireturn, 1) := by decide +kernel
theorem d83_26 : decode (byt 83) 26 = .ok (.iload_n 2, 1) := by decide +kernel
theorem d83_27 : decode (byt 83) 27 = .ok (.iconst 0, 1) := by decide +kernel
theorem d83_28 : decode (byt 83) 28 = .ok (.aload 4, 2) := by decide +kernel
theorem d83_30 : decode (byt 83) 30 = .ok (.getfield 251, 3) := by decide +kernel
theorem d83_33 : decode (byt 83) 33 = .ok (.arraylength, 1) := by decide +kernel
theorem d83_34 : decode (byt 83) 34 = .ok (.iconst 1, 1) := by decide +kernel
theorem d83_35 : decode (byt 83) 35 = .ok (.isub, 1) := by decide +kernel
theorem d83_36 : decode (byt 83) 36 = .ok (.invokestatic 66, 3) := by decide +kernel
theorem d83_39 : decode (byt 83) 39 = .ok (.ifCond .ne 6, 3) := by decide +kernel
theorem d83_42 : decode (byt 83) 42 = .ok (.bipush (-12), 2) := by decide +kernel
theorem d83_44 : decode (byt 83) 44 = .ok (.ireturn, 1) := by decide +kernel
theorem d83_45 : decode (byt 83) 45 = .ok (.aload 4, 2) := by decide +kernel
theorem d83_47 : decode (byt 83) 47 = .ok (.getfield 251, 3) := by decide +kernel
theorem d83_50 : decode (byt 83) 50 = .ok (.iload_n 2, 1) := by decide +kernel
theorem d83_51 : decode (byt 83) 51 = .ok (.aload 4, 2) := by decide +kernel
theorem d83_53 : decode (byt 83) 53 = .ok (.getfield 254, 3) := by decide +kernel
theorem d83_56 : decode (byt 83) 56 = .ok (.ifCond .ne 9, 3) := by decide +kernel
theorem d83_59 : decode (byt 83) 59 = .ok (.iload_n 3, 1) := by decide +kernel
theorem d83_60 : decode (byt 83) 60 = .ok (.i2b, 1) := by decide +kernel
theorem d83_61 : decode (byt 83) 61 = .ok (.i2l, 1) := by decide +kernel
theorem d83_62 : decode (byt 83) 62 = .ok (.goto 5, 3) := by decide +kernel
theorem d83_65 : decode (byt 83) 65 = .ok (.iload_n 3, 1) := by decide +kernel
theorem d83_66 : decode (byt 83) 66 = .ok (.i2l, 1) := by decide +kernel
theorem d83_67 : decode (byt 83) 67 = .ok (.lastore, 1) := by decide +kernel
theorem d83_68 : decode (byt 83) 68 = .ok (.iconst 1, 1) := by decide +kernel
theorem d83_69 : decode (byt 83) 69 = .ok (.ireturn, 1) := by decide +kernel
set_option maxRecDepth 20000 in
theorem S83_0 : (∀ (ls : Lo) (st : List Value) (h : Hp) (Q : Option Value → Hp → Prop) (l0 : Option Value) (x : Int32), Wp 83 0 (l0 :: some (.int x) :: ls) (st) h Q ↔ Wp 83 1 (l0 :: some (.int x) :: ls) (.int x :: st) h Q) ∧
  (∀ (ls : Lo) (st : List Value) (h : Hp) (Q : Option Value → Hp → Prop) (x0 : Int32), Wp 83 1 (ls) (.int x0 :: st) h Q ↔ (wsum st ≤ 8 ∧ Call 90 [some (.int x0)] h 83 4 ls st Q)) ∧
  (∀ (ls : Lo) (st : List Value) (h : Hp) (Q : Option Value → Hp → Prop) (x : Int32), Wp 83 4 (ls) (.int x :: st) h Q ↔ Br 83 10 7 ls st h Q (¬ x = 0)) ∧
  (∀ (ls : Lo) (st : List Value) (h : Hp) (Q : Option Value → Hp → Prop), Wp 83 7 (ls) (st) h Q ↔ Wp 83 9 (ls) (.int (-2) :: st) h Q) ∧
  (∀ (ls : Lo) (h : Hp) (Q : Option Value → Hp → Prop) (x : Int32), Wp 83 9 (ls) ([.int x]) h Q ↔ Q (some (.int x)) h) ∧
  (∀ (ls : Lo) (st : List Value) (h : Hp) (Q : Option Value → Hp → Prop)  (i : Nat), Wp 83 10 (some (.ref i) :: ls) (st) h Q ↔ Wp 83 11 (some (.ref i) :: ls) (.ref i :: st) h Q) ∧
  (∀ (ls : Lo) (st : List Value) (n sl : Nat) (C Z : Nat → Nat) (I : Nat → Nat → Int32) (L : Nat → Nat → Int64) (R : Nat → Nat → Nat) (Q : Option Value → Hp → Prop) (i : Nat), Wp 83 11 (ls) (.ref i :: st) (n, sl, C, Z, I, L, R) Q ↔ (C i = 10 ∧ Wp 83 14 (ls) (.ref (R i 6) :: st) (n, sl, C, Z, I, L, R) Q)) ∧
  (∀ (ls : Lo) (st : List Value) (h : Hp) (Q : Option Value → Hp → Prop) (l0 : Option Value) (x : Int32), Wp 83 14 (l0 :: some (.int x) :: ls) (st) h Q ↔ Wp 83 15 (l0 :: some (.int x) :: ls) (.int x :: st) h Q) ∧
  (∀ (ls : Lo) (st : List Value) (n sl : Nat) (C Z : Nat → Nat) (I : Nat → Nat → Int32) (L : Nat → Nat → Int64) (R : Nat → Nat → Nat) (Q : Option Value → Hp → Prop) (i : Nat) (y : Int32), Wp 83 15 (ls) (.int y :: .ref i :: st) (n, sl, C, Z, I, L, R) Q ↔ ((inb y (Z i) = true ∧ (C i = 23 ∨ C i = 24 ∨ C i = 25)) ∧ Wp 83 16 (ls) (.ref (R i (ix y)) :: st) (n, sl, C, Z, I, L, R) Q)) ∧
  (∀ (ls : Lo) (st : List Value) (h : Hp) (Q : Option Value → Hp → Prop) (l0 l1 l2 l3 l4 : Option Value) (i : Nat), Wp 83 16 (l0 :: l1 :: l2 :: l3 :: l4 :: ls) (.ref i :: st) h Q ↔ Wp 83 18 (l0 :: l1 :: l2 :: clr l3 :: some (.ref i) :: ls) (st) h Q) ∧
  (∀ (ls : Lo) (st : List Value) (h : Hp) (Q : Option Value → Hp → Prop) (l0 l1 l2 l3 : Option Value) (i : Nat), Wp 83 18 (l0 :: l1 :: l2 :: l3 :: some (.ref i) :: ls) (st) h Q ↔ Wp 83 20 (l0 :: l1 :: l2 :: l3 :: some (.ref i) :: ls) (.ref i :: st) h Q) ∧
  (∀ (ls : Lo) (st : List Value) (h : Hp) (Q : Option Value → Hp → Prop) (i : Nat), Wp 83 20 (ls) (.ref i :: st) h Q ↔ Br 83 26 23 ls st h Q (¬ i = 0)) ∧
  (∀ (ls : Lo) (st : List Value) (h : Hp) (Q : Option Value → Hp → Prop), Wp 83 23 (ls) (st) h Q ↔ Wp 83 25 (ls) (.int (-11) :: st) h Q) ∧
  (∀ (ls : Lo) (h : Hp) (Q : Option Value → Hp → Prop) (x : Int32), Wp 83 25 (ls) ([.int x]) h Q ↔ Q (some (.int x)) h) ∧
  (∀ (ls : Lo) (st : List Value) (h : Hp) (Q : Option Value → Hp → Prop) (l0 l1 : Option Value) (x : Int32), Wp 83 26 (l0 :: l1 :: some (.int x) :: ls) (st) h Q ↔ Wp 83 27 (l0 :: l1 :: some (.int x) :: ls) (.int x :: st) h Q) ∧
  (∀ (ls : Lo) (st : List Value) (h : Hp) (Q : Option Value → Hp → Prop), Wp 83 27 (ls) (st) h Q ↔ Wp 83 28 (ls) (.int (0) :: st) h Q) ∧
  (∀ (ls : Lo) (st : List Value) (h : Hp) (Q : Option Value → Hp → Prop) (l0 l1 l2 l3 : Option Value) (i : Nat), Wp 83 28 (l0 :: l1 :: l2 :: l3 :: some (.ref i) :: ls) (st) h Q ↔ Wp 83 30 (l0 :: l1 :: l2 :: l3 :: some (.ref i) :: ls) (.ref i :: st) h Q) ∧
  (∀ (ls : Lo) (st : List Value) (n sl : Nat) (C Z : Nat → Nat) (I : Nat → Nat → Int32) (L : Nat → Nat → Int64) (R : Nat → Nat → Nat) (Q : Option Value → Hp → Prop) (i : Nat), Wp 83 30 (ls) (.ref i :: st) (n, sl, C, Z, I, L, R) Q ↔ (C i = 7 ∧ Wp 83 33 (ls) (.ref (R i 1) :: st) (n, sl, C, Z, I, L, R) Q)) ∧
  (∀ (ls : Lo) (st : List Value) (n sl : Nat) (C Z : Nat → Nat) (I : Nat → Nat → Int32) (L : Nat → Nat → Int64) (R : Nat → Nat → Nat) (Q : Option Value → Hp → Prop) (i : Nat), Wp 83 33 (ls) (.ref i :: st) (n, sl, C, Z, I, L, R) Q ↔ ((21 ≤ C i ∧ C i ≤ 25) ∧ Wp 83 34 (ls) (.int (Int32.ofNat (Z i)) :: st) (n, sl, C, Z, I, L, R) Q)) ∧
  (∀ (ls : Lo) (st : List Value) (h : Hp) (Q : Option Value → Hp → Prop), Wp 83 34 (ls) (st) h Q ↔ Wp 83 35 (ls) (.int (1) :: st) h Q) ∧
  (∀ (ls : Lo) (st : List Value) (h : Hp) (Q : Option Value → Hp → Prop) (x y : Int32), Wp 83 35 (ls) (.int y :: .int x :: st) h Q ↔ Wp 83 36 (ls) (.int (x - y) :: st) h Q) ∧
  (∀ (ls : Lo) (st : List Value) (h : Hp) (Q : Option Value → Hp → Prop) (x0 : Int32) (x1 : Int32) (x2 : Int32), Wp 83 36 (ls) (.int x2 :: .int x1 :: .int x0 :: st) h Q ↔ (wsum st ≤ 8 ∧ Call 87 [some (.int x0), some (.int x1), some (.int x2)] h 83 39 ls st Q)) ∧
  (∀ (ls : Lo) (st : List Value) (h : Hp) (Q : Option Value → Hp → Prop) (x : Int32), Wp 83 39 (ls) (.int x :: st) h Q ↔ Br 83 45 42 ls st h Q (¬ x = 0)) ∧
  (∀ (ls : Lo) (st : List Value) (h : Hp) (Q : Option Value → Hp → Prop), Wp 83 42 (ls) (st) h Q ↔ Wp 83 44 (ls) (.int (-12) :: st) h Q) ∧
  (∀ (ls : Lo) (h : Hp) (Q : Option Value → Hp → Prop) (x : Int32), Wp 83 44 (ls) ([.int x]) h Q ↔ Q (some (.int x)) h) := ⟨by intro ls st h Q l0 x; exact e_iload_n d83_0 rfl,
  by intro ls st h Q x0; exact e_is (k2 := 90) (as := [.int x0]) d83_1 rfl (by decide) rfl rfl (by decide +kernel) (Nat.le_of_ble_eq_true rfl) rfl,
  by intro ls st h Q x; exact e_if d83_4 (by decide) c_ne,
  by intro ls st h Q; exact e_bipush d83_7 rfl,
  by intros; exact e_rI (p := True) d83_9 rfl,
  by intro ls st h Q i; exact e_aload_n d83_10 rfl,
  by intro ls st n sl C Z I L R Q i; exact e_get (g := 9) (s := 6) (ty := 2) d83_11 rfl rfl (inG_ne (by decide)),
  by intro ls st h Q l0 x; exact e_iload_n d83_14 rfl,
  by intro ls st n sl C Z I L R Q i y; exact e_aald d83_15,
  by intro ls st h Q l0 l1 l2 l3 l4 i; exact e_astore d83_16 rfl,
  by intro ls st h Q l0 l1 l2 l3 i; exact e_aload d83_18 rfl,
  by intro ls st h Q i; exact e_ifnn d83_20 (by decide),
  by intro ls st h Q; exact e_bipush d83_23 rfl,
  by intros; exact e_rI (p := True) d83_25 rfl,
  by intro ls st h Q l0 l1 x; exact e_iload_n d83_26 rfl,
  by intro ls st h Q; exact e_iconst d83_27 rfl,
  by intro ls st h Q l0 l1 l2 l3 i; exact e_aload d83_28 rfl,
  by intro ls st n sl C Z I L R Q i; exact e_get (g := 6) (s := 1) (ty := 2) d83_30 rfl rfl (inG_ne (by decide)),
  by intro ls st n sl C Z I L R Q i; exact e_alen d83_33,
  by intro ls st h Q; exact e_iconst d83_34 rfl,
  by intro ls st h Q x y; exact e_isub d83_35,
  by intro ls st h Q x0 x1 x2; exact e_is (k2 := 87) (as := [.int x0, .int x1, .int x2]) d83_36 rfl (by decide) rfl rfl (by decide +kernel) (Nat.le_of_ble_eq_true rfl) rfl,
  by intro ls st h Q x; exact e_if d83_39 (by decide) c_ne,
  by intro ls st h Q; exact e_bipush d83_42 rfl,
  by intros; exact e_rI (p := True) d83_44 rfl⟩
set_option maxRecDepth 20000 in
theorem S83_1 : (∀ (ls : Lo) (st : List Value) (h : Hp) (Q : Option Value → Hp → Prop) (l0 l1 l2 l3 : Option Value) (i : Nat), Wp 83 45 (l0 :: l1 :: l2 :: l3 :: some (.ref i) :: ls) (st) h Q ↔ Wp 83 47 (l0 :: l1 :: l2 :: l3 :: some (.ref i) :: ls) (.ref i :: st) h Q) ∧
  (∀ (ls : Lo) (st : List Value) (n sl : Nat) (C Z : Nat → Nat) (I : Nat → Nat → Int32) (L : Nat → Nat → Int64) (R : Nat → Nat → Nat) (Q : Option Value → Hp → Prop) (i : Nat), Wp 83 47 (ls) (.ref i :: st) (n, sl, C, Z, I, L, R) Q ↔ (C i = 7 ∧ Wp 83 50 (ls) (.ref (R i 1) :: st) (n, sl, C, Z, I, L, R) Q)) ∧
  (∀ (ls : Lo) (st : List Value) (h : Hp) (Q : Option Value → Hp → Prop) (l0 l1 : Option Value) (x : Int32), Wp 83 50 (l0 :: l1 :: some (.int x) :: ls) (st) h Q ↔ Wp 83 51 (l0 :: l1 :: some (.int x) :: ls) (.int x :: st) h Q) ∧
  (∀ (ls : Lo) (st : List Value) (h : Hp) (Q : Option Value → Hp → Prop) (l0 l1 l2 l3 : Option Value) (i : Nat), Wp 83 51 (l0 :: l1 :: l2 :: l3 :: some (.ref i) :: ls) (st) h Q ↔ Wp 83 53 (l0 :: l1 :: l2 :: l3 :: some (.ref i) :: ls) (.ref i :: st) h Q) ∧
  (∀ (ls : Lo) (st : List Value) (n sl : Nat) (C Z : Nat → Nat) (I : Nat → Nat → Int32) (L : Nat → Nat → Int64) (R : Nat → Nat → Nat) (Q : Option Value → Hp → Prop) (i : Nat), Wp 83 53 (ls) (.ref i :: st) (n, sl, C, Z, I, L, R) Q ↔ (C i = 7 ∧ Wp 83 56 (ls) (.int (I i 0) :: st) (n, sl, C, Z, I, L, R) Q)) ∧
  (∀ (ls : Lo) (st : List Value) (h : Hp) (Q : Option Value → Hp → Prop) (x : Int32), Wp 83 56 (ls) (.int x :: st) h Q ↔ Br 83 65 59 ls st h Q (¬ x = 0)) ∧
  (∀ (ls : Lo) (st : List Value) (h : Hp) (Q : Option Value → Hp → Prop) (l0 l1 l2 : Option Value) (x : Int32), Wp 83 59 (l0 :: l1 :: l2 :: some (.int x) :: ls) (st) h Q ↔ Wp 83 60 (l0 :: l1 :: l2 :: some (.int x) :: ls) (.int x :: st) h Q) ∧
  (∀ (ls : Lo) (st : List Value) (h : Hp) (Q : Option Value → Hp → Prop) (x : Int32), Wp 83 60 (ls) (.int x :: st) h Q ↔ Wp 83 61 (ls) (.int x.toInt8.toInt32 :: st) h Q) ∧
  (∀ (ls : Lo) (st : List Value) (h : Hp) (Q : Option Value → Hp → Prop) (x : Int32), Wp 83 61 (ls) (.int x :: st) h Q ↔ Wp 83 62 (ls) (.long x.toInt64 :: st) h Q) ∧
  (∀ (ls : Lo) (st : List Value) (h : Hp) (Q : Option Value → Hp → Prop), Wp 83 62 (ls) (st) h Q ↔ Wp 83 67 (ls) (st) h Q) ∧
  (∀ (ls : Lo) (st : List Value) (h : Hp) (Q : Option Value → Hp → Prop) (l0 l1 l2 : Option Value) (x : Int32), Wp 83 65 (l0 :: l1 :: l2 :: some (.int x) :: ls) (st) h Q ↔ Wp 83 66 (l0 :: l1 :: l2 :: some (.int x) :: ls) (.int x :: st) h Q) ∧
  (∀ (ls : Lo) (st : List Value) (h : Hp) (Q : Option Value → Hp → Prop) (x : Int32), Wp 83 66 (ls) (.int x :: st) h Q ↔ Wp 83 67 (ls) (.long x.toInt64 :: st) h Q) ∧
  (∀ (ls : Lo) (st : List Value) (n sl : Nat) (C Z : Nat → Nat) (I : Nat → Nat → Int32) (L : Nat → Nat → Int64) (R : Nat → Nat → Nat) (Q : Option Value → Hp → Prop) (i : Nat) (y : Int32) (a : Int64), Wp 83 67 (ls) (.long a :: .int y :: .ref i :: st) (n, sl, C, Z, I, L, R) Q ↔ ((inb y (Z i) = true ∧ C i = 22) ∧ Wp 83 68 (ls) (st) (n, sl, C, Z, I, u2 L i (ix y) a, R) Q)) ∧
  (∀ (ls : Lo) (st : List Value) (h : Hp) (Q : Option Value → Hp → Prop), Wp 83 68 (ls) (st) h Q ↔ Wp 83 69 (ls) (.int (1) :: st) h Q) ∧
  (∀ (ls : Lo) (h : Hp) (Q : Option Value → Hp → Prop) (x : Int32), Wp 83 69 (ls) ([.int x]) h Q ↔ Q (some (.int x)) h) := ⟨by intro ls st h Q l0 l1 l2 l3 i; exact e_aload d83_45 rfl,
  by intro ls st n sl C Z I L R Q i; exact e_get (g := 6) (s := 1) (ty := 2) d83_47 rfl rfl (inG_ne (by decide)),
  by intro ls st h Q l0 l1 x; exact e_iload_n d83_50 rfl,
  by intro ls st h Q l0 l1 l2 l3 i; exact e_aload d83_51 rfl,
  by intro ls st n sl C Z I L R Q i; exact e_get (g := 6) (s := 0) (ty := 0) d83_53 rfl rfl (inG_ne (by decide)),
  by intro ls st h Q x; exact e_if d83_56 (by decide) c_ne,
  by intro ls st h Q l0 l1 l2 x; exact e_iload_n d83_59 rfl,
  by intro ls st h Q x; exact e_i2b d83_60,
  by intro ls st h Q x; exact e_i2l d83_61,
  by intro ls st h Q; exact e_goto d83_62 (by decide),
  by intro ls st h Q l0 l1 l2 x; exact e_iload_n d83_65 rfl,
  by intro ls st h Q x; exact e_i2l d83_66,
  by intro ls st n sl C Z I L R Q i y a; exact e_last d83_67,
  by intro ls st h Q; exact e_iconst d83_68 rfl,
  by intros; exact e_rI (p := True) d83_69 rfl⟩
theorem d84_0 : decode (byt 84) 0 = .ok (.aload_n 0, 1) := by decide +kernel
theorem d84_1 : decode (byt 84) 1 = .ok (.iload_n 1, 1) := by decide +kernel
theorem d84_2 : decode (byt 84) 2 = .ok (.invokevirtual 84, 3) := by decide +kernel
theorem d84_5 : decode (byt 84) 5 = .ok (.astore 5, 2) := by decide +kernel
theorem d84_7 : decode (byt 84) 7 = .ok (.aload 5, 2) := by decide +kernel
theorem d84_9 : decode (byt 84) 9 = .ok (.ifnull 19, 3) := by decide +kernel
theorem d84_12 : decode (byt 84) 12 = .ok (.iload_n 2, 1) := by decide +kernel
theorem d84_13 : decode (byt 84) 13 = .ok (.invokestatic 244, 3) := by decide +kernel
theorem d84_16 : decode (byt 84) 16 = .ok (.ifCond .eq 12, 3) := by decide +kernel
theorem d84_19 : decode (byt 84) 19 = .ok (.iload_n 3, 1) := by decide +kernel
theorem d84_20 : decode (byt 84) 20 = .ok (.iconst 0, 1) := by decide +kernel
theorem d84_21 : decode (byt 84) 21 = .ok (.iconst 2, 1) := by decide +kernel
theorem d84_22 : decode (byt 84) 22 = .ok (.invokestatic 66, 3) := by decide +kernel
theorem d84_25 : decode (byt 84) 25 = .ok (.ifCond .ne 6, 3) := by decide +kernel
theorem d84_28 : decode (byt 84) 28 = .ok (.bipush (-2), 2) := by decide +kernel
theorem d84_30 : decode (byt 84) 30 = .ok (.ireturn, 1) := by decide +kernel
theorem d84_31 : decode (byt 84) 31 = .ok (.aload 5, 2) := by decide +kernel
theorem d84_33 : decode (byt 84) 33 = .ok (.instanceof 92, 3) := by decide +kernel
theorem d84_36 : decode (byt 84) 36 = .ok (.ifCond .eq 6, 3) := by decide +kernel
theorem d84_39 : decode (byt 84) 39 = .ok (.bipush (-3), 2) := by decide +kernel
theorem d84_41 : decode (byt 84) 41 = .ok (.ireturn, 1) := by decide +kernel
theorem d84_42 : decode (byt 84) 42 = .ok (.aload_n 0, 1) := by decide +kernel
theorem d84_43 : decode (byt 84) 43 = .ok (.getfield 38, 3) := by decide +kernel
theorem d84_46 : decode (byt 84) 46 = .ok (.iload_n 2, 1) := by decide +kernel
theorem d84_47 : decode (byt 84) 47 = .ok (.aaload, 1) := by decide +kernel
theorem d84_48 : decode (byt 84) 48 = .ok (.astore 6, 2) := by decide +kernel
theorem d84_50 : decode (byt 84) 50 = .ok (.aload 6, 2) := by decide +kernel
theorem d84_52 : decode (byt 84) 52 = .ok (.ifnonnull 6, 3) := by decide +kernel
theorem d84_55 : decode (byt 84) 55 = .ok (.bipush (-11), 2) := by decide +kernel
theorem d84_57 : decode (byt 84) 57 = .ok (.ireturn, 1) := by decide +kernel
theorem d84_58 : decode (byt 84) 58 = .ok (.aload 6, 2) := by decide +kernel
theorem d84_60 : decode (byt 84) 60 = .ok (.getfield 254, 3) := by decide +kernel
theorem d84_63 : decode (byt 84) 63 = .ok (.iload_n 3, 1) := by decide +kernel
theorem d84_64 : decode (byt 84) 64 = .ok (.if_icmp .eq 6, 3) := by decide +kernel
theorem d84_67 : decode (byt 84) 67 = .ok (.bipush (-13), 2) := by decide +kernel
theorem d84_69 : decode (byt 84) 69 = .ok (.ireturn, 1) := by decide +kernel
theorem d84_70 : decode (byt 84) 70 = .ok (.aload 5, 2) := by decide +kernel
theorem d84_72 : decode (byt 84) 72 = .ok (.getfield 106, 3) := by decide +kernel
theorem d84_75 : decode (byt 84) 75 = .ok (.ifCond .ne 5, 3) := by decide +kernel
theorem d84_78 : decode (byt 84) 78 = .ok (.iconst 1, 1) := by decide +kernel
theorem d84_79 : decode (byt 84) 79 = .ok (.ireturn, 1) := by decide +kernel
theorem d84_80 : decode (byt 84) 80 = .ok (.aload 5, 2) := by decide +kernel
theorem d84_82 : decode (byt 84) 82 = .ok (.getfield 106, 3) := by decide +kernel
theorem d84_85 : decode (byt 84) 85 = .ok (.aload 5, 2) := by decide +kernel
theorem d84_87 : decode (byt 84) 87 = .ok (.getfield 106, 3) := by decide +kernel
theorem d84_90 : decode (byt 84) 90 = .ok (.imul, 1) := by decide +kernel
theorem d84_91 : decode (byt 84) 91 = .ok (.istore 7, 2) := by decide +kernel
theorem d84_93 : decode (byt 84) 93 = .ok (.aload 6, 2) := by decide +kernel
theorem d84_95 : decode (byt 84) 95 = .ok (.iload 4, 2) := by decide +kernel
theorem d84_97 : decode (byt 84) 97 = .ok (.iload 7, 2) := by decide +kernel
theorem d84_99 : decode (byt 84) 99 = .ok (.invokevirtual 257, 3) := by decide +kernel
theorem d84_102 : decode (byt 84) 102 = .ok (.ifCond .ne 6, 3) := by decide +kernel
theorem d84_105 : decode (byt 84) 105 = .ok (.bipush (-12), 2) := by decide +kernel
theorem d84_107 : decode (byt 84) 107 = .ok (.ireturn, 1) := by decide +kernel
theorem d84_108 : decode (byt 84) 108 = .ok (.iload 4, 2) := by decide +kernel
theorem d84_110 : decode (byt 84) 110 = .ok (.istore 8, 2) := by decide +kernel
theorem d84_112 : decode (byt 84) 112 = .ok (.iload 8, 2) := by decide +kernel
theorem d84_114 : decode (byt 84) 114 = .ok (.iload 4, 2) := by decide +kernel
theorem d84_116 : decode (byt 84) 116 = .ok (.iload 7, 2) := by decide +kernel
theorem d84_118 : decode (byt 84) 118 = .ok (.iadd, 1) := by decide +kernel
theorem d84_119 : decode (byt 84) 119 = .ok (.if_icmp .ge 42, 3) := by decide +kernel
theorem d84_122 : decode (byt 84) 122 = .ok (.aload 6, 2) := by decide +kernel
theorem d84_124 : decode (byt 84) 124 = .ok (.getfield 251, 3) := by decide +kernel
theorem d84_127 : decode (byt 84) 127 = .ok (.iload 8, 2) := by decide +kernel
theorem d84_129 : decode (byt 84) 129 = .ok (.laload, 1) := by decide +kernel
theorem d84_130 : decode (byt 84) 130 = .ok (.ldc2_w 261, 3) := by decide +kernel
theorem d84_133 : decode (byt 84) 133 = .ok (.lcmp, 1) := by decide +kernel
theorem d84_134 : decode (byt 84) 134 = .ok (.ifCond .lt 18, 3) := by decide +kernel
theorem d84_137 : decode (byt 84) 137 = .ok (.aload 6, 2) := by decide +kernel
theorem d84_139 : decode (byt 84) 139 = .ok (.getfield 251, 3) := by decide +kernel
theorem d84_142 : decode (byt 84) 142 = .ok (.iload 8, 2) := by decide +kernel
theorem d84_144 : decode (byt 84) 144 = .ok (.laload, 1) := by decide +kernel
theorem d84_145 : decode (byt 84) 145 = .ok (.ldc2_w 263, 3) := by decide +kernel
theorem d84_148 : decode (byt 84) 148 = .ok (.lcmp, 1) := by decide +kernel
theorem d84_149 : decode (byt 84) 149 = .ok (.ifCond .le 6, 3) := by decide +kernel
theorem d84_152 : decode (byt 84) 152 = .ok (.bipush (-2), 2) := by decide +kernel
theorem d84_154 : decode (byt 84) 154 = .ok (.ireturn, 1) := by decide +kernel
theorem d84_155 : decode (byt 84) 155 = .ok (.iinc 8 1, 3) := by decide +kernel
theorem d84_158 : decode (byt 84) 158 = .ok (.goto (-46), 3) := by decide +kernel
theorem d84_161 : decode (byt 84) 161 = .ok (.iconst 0, 1) := by decide +kernel
theorem d84_162 : decode (byt 84) 162 = .ok (.istore 8, 2) := by decide +kernel
theorem d84_164 : decode (byt 84) 164 = .ok (.iload 8, 2) := by decide +kernel
theorem d84_166 : decode (byt 84) 166 = .ok (.iload 7, 2) := by decide +kernel
theorem d84_168 : decode (byt 84) 168 = .ok (.if_icmp .ge 46, 3) := by decide +kernel
theorem d84_171 : decode (byt 84) 171 = .ok (.aload 5, 2) := by decide +kernel
theorem d84_173 : decode (byt 84) 173 = .ok (.getfield 116, 3) := by decide +kernel
theorem d84_176 : decode (byt 84) 176 = .ok (.iconst 3, 1) := by decide +kernel
theorem d84_177 : decode (byt 84) 177 = .ok (.iload 8, 2) := by decide +kernel
theorem d84_179 : decode (byt 84) 179 = .ok (.aload 5, 2) := by decide +kernel
theorem d84_181 : decode (byt 84) 181 = .ok (.getfield 106, 3) := by decide +kernel
theorem d84_184 : decode (byt 84) 184 = .ok (.idiv, 1) := by decide +kernel
theorem d84_185 : decode (byt 84) 185 = .ok (.imul, 1) := by decide +kernel
theorem d84_186 : decode (byt 84) 186 = .ok (.iload 8, 2) := by decide +kernel
theorem d84_188 : decode (byt 84) 188 = .ok (.aload 5, 2) := by decide +kernel
theorem d84_190 : decode (byt 84) 190 = .ok (.getfield 106, 3) := by decide +kernel
theorem d84_193 : decode (byt 84) 193 = .ok (.irem, 1) := by decide +kernel
theorem d84_194 : decode (byt 84) 194 = .ok (.iadd, 1) := by decide +kernel
theorem d84_195 : decode (byt 84) 195 = .ok (.aload 6, 2) := by decide +kernel
theorem d84_197 : decode (byt 84) 197 = .ok (.getfield 251, 3) := by decide +kernel
theorem d84_200 : decode (byt 84) 200 = .ok (.iload 4, 2) := by decide +kernel
theorem d84_202 : decode (byt 84) 202 = .ok (.iload 8, 2) := by decide +kernel
theorem d84_204 : decode (byt 84) 204 = .ok (.iadd, 1) := by decide +kernel
theorem d84_205 : decode (byt 84) 205 = .ok (.laload, 1) := by decide +kernel
theorem d84_206 : decode (byt 84) 206 = .ok (.l2i, 1) := by decide +kernel
theorem d84_207 : decode (byt 84) 207 = .ok (.iastore, 1) := by decide +kernel
theorem d84_208 : decode (byt 84) 208 = .ok (.iinc 8 1, 3) := by decide +kernel
theorem d84_211 : decode (byt 84) 211 = .ok (.goto (-47), 3) := by decide +kernel
theorem d84_214 : decode (byt 84) 214 = .ok (.iconst 1, 1) := by decide +kernel
theorem d84_215 : decode (byt 84) 215 = .ok (.ireturn, 1) := by decide +kernel
set_option maxRecDepth 20000 in
theorem S84_0 : (∀ (ls : Lo) (st : List Value) (h : Hp) (Q : Option Value → Hp → Prop)  (i : Nat), Wp 84 0 (some (.ref i) :: ls) (st) h Q ↔ Wp 84 1 (some (.ref i) :: ls) (.ref i :: st) h Q) ∧
  (∀ (ls : Lo) (st : List Value) (h : Hp) (Q : Option Value → Hp → Prop) (l0 : Option Value) (x : Int32), Wp 84 1 (l0 :: some (.int x) :: ls) (st) h Q ↔ Wp 84 2 (l0 :: some (.int x) :: ls) (.int x :: st) h Q) ∧
  (∀ (ls : Lo) (st : List Value) (n sl : Nat) (C Z : Nat → Nat) (I : Nat → Nat → Int32) (L : Nat → Nat → Int64) (R : Nat → Nat → Nat) (Q : Option Value → Hp → Prop) (x0 : Int32) (i : Nat), C i = 10 → (Wp 84 2 (ls) (.int x0 :: .ref i :: st) (n, sl, C, Z, I, L, R) Q ↔ (wsum st ≤ 8 ∧ Call 92 [some (.ref i), some (.int x0)] (n, sl, C, Z, I, L, R) 84 5 ls st Q))) ∧
  (∀ (ls : Lo) (st : List Value) (h : Hp) (Q : Option Value → Hp → Prop) (l0 l1 l2 l3 l4 l5 : Option Value) (i : Nat), Wp 84 5 (l0 :: l1 :: l2 :: l3 :: l4 :: l5 :: ls) (.ref i :: st) h Q ↔ Wp 84 7 (l0 :: l1 :: l2 :: l3 :: clr l4 :: some (.ref i) :: ls) (st) h Q) ∧
  (∀ (ls : Lo) (st : List Value) (h : Hp) (Q : Option Value → Hp → Prop) (l0 l1 l2 l3 l4 : Option Value) (i : Nat), Wp 84 7 (l0 :: l1 :: l2 :: l3 :: l4 :: some (.ref i) :: ls) (st) h Q ↔ Wp 84 9 (l0 :: l1 :: l2 :: l3 :: l4 :: some (.ref i) :: ls) (.ref i :: st) h Q) ∧
  (∀ (ls : Lo) (st : List Value) (h : Hp) (Q : Option Value → Hp → Prop) (i : Nat), Wp 84 9 (ls) (.ref i :: st) h Q ↔ Br 84 28 12 ls st h Q (i = 0)) ∧
  (∀ (ls : Lo) (st : List Value) (h : Hp) (Q : Option Value → Hp → Prop) (l0 l1 : Option Value) (x : Int32), Wp 84 12 (l0 :: l1 :: some (.int x) :: ls) (st) h Q ↔ Wp 84 13 (l0 :: l1 :: some (.int x) :: ls) (.int x :: st) h Q) ∧
  (∀ (ls : Lo) (st : List Value) (h : Hp) (Q : Option Value → Hp → Prop) (x0 : Int32), Wp 84 13 (ls) (.int x0 :: st) h Q ↔ (wsum st ≤ 8 ∧ Call 90 [some (.int x0)] h 84 16 ls st Q)) ∧
  (∀ (ls : Lo) (st : List Value) (h : Hp) (Q : Option Value → Hp → Prop) (x : Int32), Wp 84 16 (ls) (.int x :: st) h Q ↔ Br 84 28 19 ls st h Q (x = 0)) ∧
  (∀ (ls : Lo) (st : List Value) (h : Hp) (Q : Option Value → Hp → Prop) (l0 l1 l2 : Option Value) (x : Int32), Wp 84 19 (l0 :: l1 :: l2 :: some (.int x) :: ls) (st) h Q ↔ Wp 84 20 (l0 :: l1 :: l2 :: some (.int x) :: ls) (.int x :: st) h Q) ∧
  (∀ (ls : Lo) (st : List Value) (h : Hp) (Q : Option Value → Hp → Prop), Wp 84 20 (ls) (st) h Q ↔ Wp 84 21 (ls) (.int (0) :: st) h Q) ∧
  (∀ (ls : Lo) (st : List Value) (h : Hp) (Q : Option Value → Hp → Prop), Wp 84 21 (ls) (st) h Q ↔ Wp 84 22 (ls) (.int (2) :: st) h Q) ∧
  (∀ (ls : Lo) (st : List Value) (h : Hp) (Q : Option Value → Hp → Prop) (x0 : Int32) (x1 : Int32) (x2 : Int32), Wp 84 22 (ls) (.int x2 :: .int x1 :: .int x0 :: st) h Q ↔ (wsum st ≤ 8 ∧ Call 87 [some (.int x0), some (.int x1), some (.int x2)] h 84 25 ls st Q)) ∧
  (∀ (ls : Lo) (st : List Value) (h : Hp) (Q : Option Value → Hp → Prop) (x : Int32), Wp 84 25 (ls) (.int x :: st) h Q ↔ Br 84 31 28 ls st h Q (¬ x = 0)) ∧
  (∀ (ls : Lo) (st : List Value) (h : Hp) (Q : Option Value → Hp → Prop), Wp 84 28 (ls) (st) h Q ↔ Wp 84 30 (ls) (.int (-2) :: st) h Q) ∧
  (∀ (ls : Lo) (h : Hp) (Q : Option Value → Hp → Prop) (x : Int32), Wp 84 30 (ls) ([.int x]) h Q ↔ Q (some (.int x)) h) ∧
  (∀ (ls : Lo) (st : List Value) (h : Hp) (Q : Option Value → Hp → Prop) (l0 l1 l2 l3 l4 : Option Value) (i : Nat), Wp 84 31 (l0 :: l1 :: l2 :: l3 :: l4 :: some (.ref i) :: ls) (st) h Q ↔ Wp 84 33 (l0 :: l1 :: l2 :: l3 :: l4 :: some (.ref i) :: ls) (.ref i :: st) h Q) ∧
  (∀ (ls : Lo) (st : List Value) (n sl : Nat) (C Z : Nat → Nat) (I : Nat → Nat → Int32) (L : Nat → Nat → Int64) (R : Nat → Nat → Nat) (Q : Option Value → Hp → Prop) (i : Nat), Wp 84 33 (ls) (.ref i :: st) (n, sl, C, Z, I, L, R) Q ↔ (inG 7 (C i) = true ∧ Wp 84 36 (ls) (.int (if isa (C i) 4 = true then 1 else 0) :: st) (n, sl, C, Z, I, L, R) Q)) ∧
  (∀ (ls : Lo) (st : List Value) (h : Hp) (Q : Option Value → Hp → Prop) (x : Int32), Wp 84 36 (ls) (.int x :: st) h Q ↔ Br 84 42 39 ls st h Q (x = 0)) ∧
  (∀ (ls : Lo) (st : List Value) (h : Hp) (Q : Option Value → Hp → Prop), Wp 84 39 (ls) (st) h Q ↔ Wp 84 41 (ls) (.int (-3) :: st) h Q) ∧
  (∀ (ls : Lo) (h : Hp) (Q : Option Value → Hp → Prop) (x : Int32), Wp 84 41 (ls) ([.int x]) h Q ↔ Q (some (.int x)) h) ∧
  (∀ (ls : Lo) (st : List Value) (h : Hp) (Q : Option Value → Hp → Prop)  (i : Nat), Wp 84 42 (some (.ref i) :: ls) (st) h Q ↔ Wp 84 43 (some (.ref i) :: ls) (.ref i :: st) h Q) ∧
  (∀ (ls : Lo) (st : List Value) (n sl : Nat) (C Z : Nat → Nat) (I : Nat → Nat → Int32) (L : Nat → Nat → Int64) (R : Nat → Nat → Nat) (Q : Option Value → Hp → Prop) (i : Nat), Wp 84 43 (ls) (.ref i :: st) (n, sl, C, Z, I, L, R) Q ↔ (C i = 10 ∧ Wp 84 46 (ls) (.ref (R i 6) :: st) (n, sl, C, Z, I, L, R) Q)) ∧
  (∀ (ls : Lo) (st : List Value) (h : Hp) (Q : Option Value → Hp → Prop) (l0 l1 : Option Value) (x : Int32), Wp 84 46 (l0 :: l1 :: some (.int x) :: ls) (st) h Q ↔ Wp 84 47 (l0 :: l1 :: some (.int x) :: ls) (.int x :: st) h Q) ∧
  (∀ (ls : Lo) (st : List Value) (n sl : Nat) (C Z : Nat → Nat) (I : Nat → Nat → Int32) (L : Nat → Nat → Int64) (R : Nat → Nat → Nat) (Q : Option Value → Hp → Prop) (i : Nat) (y : Int32), Wp 84 47 (ls) (.int y :: .ref i :: st) (n, sl, C, Z, I, L, R) Q ↔ ((inb y (Z i) = true ∧ (C i = 23 ∨ C i = 24 ∨ C i = 25)) ∧ Wp 84 48 (ls) (.ref (R i (ix y)) :: st) (n, sl, C, Z, I, L, R) Q)) := ⟨by intro ls st h Q i; exact e_aload_n d84_0 rfl,
  by intro ls st h Q l0 x; exact e_iload_n d84_1 rfl,
  by intro ls st n sl C Z I L R Q x0 i hh; exact e_iv (k2 := 92) (c := 10) (as := [.int x0]) d84_2 rfl (by decide) rfl rfl (by decide +kernel) (Nat.le_of_ble_eq_true rfl) rfl hh,
  by intro ls st h Q l0 l1 l2 l3 l4 l5 i; exact e_astore d84_5 rfl,
  by intro ls st h Q l0 l1 l2 l3 l4 i; exact e_aload d84_7 rfl,
  by intro ls st h Q i; exact e_ifnull d84_9 (by decide),
  by intro ls st h Q l0 l1 x; exact e_iload_n d84_12 rfl,
  by intro ls st h Q x0; exact e_is (k2 := 90) (as := [.int x0]) d84_13 rfl (by decide) rfl rfl (by decide +kernel) (Nat.le_of_ble_eq_true rfl) rfl,
  by intro ls st h Q x; exact e_if d84_16 (by decide) c_eq,
  by intro ls st h Q l0 l1 l2 x; exact e_iload_n d84_19 rfl,
  by intro ls st h Q; exact e_iconst d84_20 rfl,
  by intro ls st h Q; exact e_iconst d84_21 rfl,
  by intro ls st h Q x0 x1 x2; exact e_is (k2 := 87) (as := [.int x0, .int x1, .int x2]) d84_22 rfl (by decide) rfl rfl (by decide +kernel) (Nat.le_of_ble_eq_true rfl) rfl,
  by intro ls st h Q x; exact e_if d84_25 (by decide) c_ne,
  by intro ls st h Q; exact e_bipush d84_28 rfl,
  by intros; exact e_rI (p := True) d84_30 rfl,
  by intro ls st h Q l0 l1 l2 l3 l4 i; exact e_aload d84_31 rfl,
  by intro ls st n sl C Z I L R Q i; exact e_io (p := 324) (c := 4) d84_33 rfl (by decide),
  by intro ls st h Q x; exact e_if d84_36 (by decide) c_eq,
  by intro ls st h Q; exact e_bipush d84_39 rfl,
  by intros; exact e_rI (p := True) d84_41 rfl,
  by intro ls st h Q i; exact e_aload_n d84_42 rfl,
  by intro ls st n sl C Z I L R Q i; exact e_get (g := 9) (s := 6) (ty := 2) d84_43 rfl rfl (inG_ne (by decide)),
  by intro ls st h Q l0 l1 x; exact e_iload_n d84_46 rfl,
  by intro ls st n sl C Z I L R Q i y; exact e_aald d84_47⟩
set_option maxRecDepth 20000 in
theorem S84_1 : (∀ (ls : Lo) (st : List Value) (h : Hp) (Q : Option Value → Hp → Prop) (l0 l1 l2 l3 l4 l5 l6 : Option Value) (i : Nat), Wp 84 48 (l0 :: l1 :: l2 :: l3 :: l4 :: l5 :: l6 :: ls) (.ref i :: st) h Q ↔ Wp 84 50 (l0 :: l1 :: l2 :: l3 :: l4 :: clr l5 :: some (.ref i) :: ls) (st) h Q) ∧
  (∀ (ls : Lo) (st : List Value) (h : Hp) (Q : Option Value → Hp → Prop) (l0 l1 l2 l3 l4 l5 : Option Value) (i : Nat), Wp 84 50 (l0 :: l1 :: l2 :: l3 :: l4 :: l5 :: some (.ref i) :: ls) (st) h Q ↔ Wp 84 52 (l0 :: l1 :: l2 :: l3 :: l4 :: l5 :: some (.ref i) :: ls) (.ref i :: st) h Q) ∧
  (∀ (ls : Lo) (st : List Value) (h : Hp) (Q : Option Value → Hp → Prop) (i : Nat), Wp 84 52 (ls) (.ref i :: st) h Q ↔ Br 84 58 55 ls st h Q (¬ i = 0)) ∧
  (∀ (ls : Lo) (st : List Value) (h : Hp) (Q : Option Value → Hp → Prop), Wp 84 55 (ls) (st) h Q ↔ Wp 84 57 (ls) (.int (-11) :: st) h Q) ∧
  (∀ (ls : Lo) (h : Hp) (Q : Option Value → Hp → Prop) (x : Int32), Wp 84 57 (ls) ([.int x]) h Q ↔ Q (some (.int x)) h) ∧
  (∀ (ls : Lo) (st : List Value) (h : Hp) (Q : Option Value → Hp → Prop) (l0 l1 l2 l3 l4 l5 : Option Value) (i : Nat), Wp 84 58 (l0 :: l1 :: l2 :: l3 :: l4 :: l5 :: some (.ref i) :: ls) (st) h Q ↔ Wp 84 60 (l0 :: l1 :: l2 :: l3 :: l4 :: l5 :: some (.ref i) :: ls) (.ref i :: st) h Q) ∧
  (∀ (ls : Lo) (st : List Value) (n sl : Nat) (C Z : Nat → Nat) (I : Nat → Nat → Int32) (L : Nat → Nat → Int64) (R : Nat → Nat → Nat) (Q : Option Value → Hp → Prop) (i : Nat), Wp 84 60 (ls) (.ref i :: st) (n, sl, C, Z, I, L, R) Q ↔ (C i = 7 ∧ Wp 84 63 (ls) (.int (I i 0) :: st) (n, sl, C, Z, I, L, R) Q)) ∧
  (∀ (ls : Lo) (st : List Value) (h : Hp) (Q : Option Value → Hp → Prop) (l0 l1 l2 : Option Value) (x : Int32), Wp 84 63 (l0 :: l1 :: l2 :: some (.int x) :: ls) (st) h Q ↔ Wp 84 64 (l0 :: l1 :: l2 :: some (.int x) :: ls) (.int x :: st) h Q) ∧
  (∀ (ls : Lo) (st : List Value) (h : Hp) (Q : Option Value → Hp → Prop) (x y : Int32), Wp 84 64 (ls) (.int y :: .int x :: st) h Q ↔ Br 84 70 67 ls st h Q (x = y)) ∧
  (∀ (ls : Lo) (st : List Value) (h : Hp) (Q : Option Value → Hp → Prop), Wp 84 67 (ls) (st) h Q ↔ Wp 84 69 (ls) (.int (-13) :: st) h Q) ∧
  (∀ (ls : Lo) (h : Hp) (Q : Option Value → Hp → Prop) (x : Int32), Wp 84 69 (ls) ([.int x]) h Q ↔ Q (some (.int x)) h) ∧
  (∀ (ls : Lo) (st : List Value) (h : Hp) (Q : Option Value → Hp → Prop) (l0 l1 l2 l3 l4 : Option Value) (i : Nat), Wp 84 70 (l0 :: l1 :: l2 :: l3 :: l4 :: some (.ref i) :: ls) (st) h Q ↔ Wp 84 72 (l0 :: l1 :: l2 :: l3 :: l4 :: some (.ref i) :: ls) (.ref i :: st) h Q) ∧
  (∀ (ls : Lo) (st : List Value) (n sl : Nat) (C Z : Nat → Nat) (I : Nat → Nat → Int32) (L : Nat → Nat → Int64) (R : Nat → Nat → Nat) (Q : Option Value → Hp → Prop) (i : Nat), Wp 84 72 (ls) (.ref i :: st) (n, sl, C, Z, I, L, R) Q ↔ (inG 7 (C i) = true ∧ Wp 84 75 (ls) (.int (I i 1) :: st) (n, sl, C, Z, I, L, R) Q)) ∧
  (∀ (ls : Lo) (st : List Value) (h : Hp) (Q : Option Value → Hp → Prop) (x : Int32), Wp 84 75 (ls) (.int x :: st) h Q ↔ Br 84 80 78 ls st h Q (¬ x = 0)) ∧
  (∀ (ls : Lo) (st : List Value) (h : Hp) (Q : Option Value → Hp → Prop), Wp 84 78 (ls) (st) h Q ↔ Wp 84 79 (ls) (.int (1) :: st) h Q) ∧
  (∀ (ls : Lo) (h : Hp) (Q : Option Value → Hp → Prop) (x : Int32), Wp 84 79 (ls) ([.int x]) h Q ↔ Q (some (.int x)) h) ∧
  (∀ (ls : Lo) (st : List Value) (h : Hp) (Q : Option Value → Hp → Prop) (l0 l1 l2 l3 l4 : Option Value) (i : Nat), Wp 84 80 (l0 :: l1 :: l2 :: l3 :: l4 :: some (.ref i) :: ls) (st) h Q ↔ Wp 84 82 (l0 :: l1 :: l2 :: l3 :: l4 :: some (.ref i) :: ls) (.ref i :: st) h Q) ∧
  (∀ (ls : Lo) (st : List Value) (n sl : Nat) (C Z : Nat → Nat) (I : Nat → Nat → Int32) (L : Nat → Nat → Int64) (R : Nat → Nat → Nat) (Q : Option Value → Hp → Prop) (i : Nat), Wp 84 82 (ls) (.ref i :: st) (n, sl, C, Z, I, L, R) Q ↔ (inG 7 (C i) = true ∧ Wp 84 85 (ls) (.int (I i 1) :: st) (n, sl, C, Z, I, L, R) Q)) ∧
  (∀ (ls : Lo) (st : List Value) (h : Hp) (Q : Option Value → Hp → Prop) (l0 l1 l2 l3 l4 : Option Value) (i : Nat), Wp 84 85 (l0 :: l1 :: l2 :: l3 :: l4 :: some (.ref i) :: ls) (st) h Q ↔ Wp 84 87 (l0 :: l1 :: l2 :: l3 :: l4 :: some (.ref i) :: ls) (.ref i :: st) h Q) ∧
  (∀ (ls : Lo) (st : List Value) (n sl : Nat) (C Z : Nat → Nat) (I : Nat → Nat → Int32) (L : Nat → Nat → Int64) (R : Nat → Nat → Nat) (Q : Option Value → Hp → Prop) (i : Nat), Wp 84 87 (ls) (.ref i :: st) (n, sl, C, Z, I, L, R) Q ↔ (inG 7 (C i) = true ∧ Wp 84 90 (ls) (.int (I i 1) :: st) (n, sl, C, Z, I, L, R) Q)) ∧
  (∀ (ls : Lo) (st : List Value) (h : Hp) (Q : Option Value → Hp → Prop) (x y : Int32), Wp 84 90 (ls) (.int y :: .int x :: st) h Q ↔ Wp 84 91 (ls) (.int (x * y) :: st) h Q) ∧
  (∀ (ls : Lo) (st : List Value) (h : Hp) (Q : Option Value → Hp → Prop) (l0 l1 l2 l3 l4 l5 l6 l7 : Option Value) (x : Int32), Wp 84 91 (l0 :: l1 :: l2 :: l3 :: l4 :: l5 :: l6 :: l7 :: ls) (.int x :: st) h Q ↔ Wp 84 93 (l0 :: l1 :: l2 :: l3 :: l4 :: l5 :: clr l6 :: some (.int x) :: ls) (st) h Q) ∧
  (∀ (ls : Lo) (st : List Value) (h : Hp) (Q : Option Value → Hp → Prop) (l0 l1 l2 l3 l4 l5 : Option Value) (i : Nat), Wp 84 93 (l0 :: l1 :: l2 :: l3 :: l4 :: l5 :: some (.ref i) :: ls) (st) h Q ↔ Wp 84 95 (l0 :: l1 :: l2 :: l3 :: l4 :: l5 :: some (.ref i) :: ls) (.ref i :: st) h Q) ∧
  (∀ (ls : Lo) (st : List Value) (h : Hp) (Q : Option Value → Hp → Prop) (l0 l1 l2 l3 : Option Value) (x : Int32), Wp 84 95 (l0 :: l1 :: l2 :: l3 :: some (.int x) :: ls) (st) h Q ↔ Wp 84 97 (l0 :: l1 :: l2 :: l3 :: some (.int x) :: ls) (.int x :: st) h Q) ∧
  (∀ (ls : Lo) (st : List Value) (h : Hp) (Q : Option Value → Hp → Prop) (l0 l1 l2 l3 l4 l5 l6 : Option Value) (x : Int32), Wp 84 97 (l0 :: l1 :: l2 :: l3 :: l4 :: l5 :: l6 :: some (.int x) :: ls) (st) h Q ↔ Wp 84 99 (l0 :: l1 :: l2 :: l3 :: l4 :: l5 :: l6 :: some (.int x) :: ls) (.int x :: st) h Q) := ⟨by intro ls st h Q l0 l1 l2 l3 l4 l5 l6 i; exact e_astore d84_48 rfl,
  by intro ls st h Q l0 l1 l2 l3 l4 l5 i; exact e_aload d84_50 rfl,
  by intro ls st h Q i; exact e_ifnn d84_52 (by decide),
  by intro ls st h Q; exact e_bipush d84_55 rfl,
  by intros; exact e_rI (p := True) d84_57 rfl,
  by intro ls st h Q l0 l1 l2 l3 l4 l5 i; exact e_aload d84_58 rfl,
  by intro ls st n sl C Z I L R Q i; exact e_get (g := 6) (s := 0) (ty := 0) d84_60 rfl rfl (inG_ne (by decide)),
  by intro ls st h Q l0 l1 l2 x; exact e_iload_n d84_63 rfl,
  by intro ls st h Q x y; exact e_ic d84_64 (by decide) c_eq,
  by intro ls st h Q; exact e_bipush d84_67 rfl,
  by intros; exact e_rI (p := True) d84_69 rfl,
  by intro ls st h Q l0 l1 l2 l3 l4 i; exact e_aload d84_70 rfl,
  by intro ls st n sl C Z I L R Q i; exact e_get (g := 7) (s := 1) (ty := 0) d84_72 rfl rfl rfl,
  by intro ls st h Q x; exact e_if d84_75 (by decide) c_ne,
  by intro ls st h Q; exact e_iconst d84_78 rfl,
  by intros; exact e_rI (p := True) d84_79 rfl,
  by intro ls st h Q l0 l1 l2 l3 l4 i; exact e_aload d84_80 rfl,
  by intro ls st n sl C Z I L R Q i; exact e_get (g := 7) (s := 1) (ty := 0) d84_82 rfl rfl rfl,
  by intro ls st h Q l0 l1 l2 l3 l4 i; exact e_aload d84_85 rfl,
  by intro ls st n sl C Z I L R Q i; exact e_get (g := 7) (s := 1) (ty := 0) d84_87 rfl rfl rfl,
  by intro ls st h Q x y; exact e_imul d84_90,
  by intro ls st h Q l0 l1 l2 l3 l4 l5 l6 l7 x; exact e_istore d84_91 rfl,
  by intro ls st h Q l0 l1 l2 l3 l4 l5 i; exact e_aload d84_93 rfl,
  by intro ls st h Q l0 l1 l2 l3 x; exact e_iload d84_95 rfl,
  by intro ls st h Q l0 l1 l2 l3 l4 l5 l6 x; exact e_iload d84_97 rfl⟩
set_option maxRecDepth 20000 in
theorem S84_2 : (∀ (ls : Lo) (st : List Value) (n sl : Nat) (C Z : Nat → Nat) (I : Nat → Nat → Int32) (L : Nat → Nat → Int64) (R : Nat → Nat → Nat) (Q : Option Value → Hp → Prop) (x0 : Int32) (x1 : Int32) (i : Nat), C i = 7 → (Wp 84 99 (ls) (.int x1 :: .int x0 :: .ref i :: st) (n, sl, C, Z, I, L, R) Q ↔ (wsum st ≤ 8 ∧ Call 50 [some (.ref i), some (.int x0), some (.int x1)] (n, sl, C, Z, I, L, R) 84 102 ls st Q))) ∧
  (∀ (ls : Lo) (st : List Value) (h : Hp) (Q : Option Value → Hp → Prop) (x : Int32), Wp 84 102 (ls) (.int x :: st) h Q ↔ Br 84 108 105 ls st h Q (¬ x = 0)) ∧
  (∀ (ls : Lo) (st : List Value) (h : Hp) (Q : Option Value → Hp → Prop), Wp 84 105 (ls) (st) h Q ↔ Wp 84 107 (ls) (.int (-12) :: st) h Q) ∧
  (∀ (ls : Lo) (h : Hp) (Q : Option Value → Hp → Prop) (x : Int32), Wp 84 107 (ls) ([.int x]) h Q ↔ Q (some (.int x)) h) ∧
  (∀ (ls : Lo) (st : List Value) (h : Hp) (Q : Option Value → Hp → Prop) (l0 l1 l2 l3 : Option Value) (x : Int32), Wp 84 108 (l0 :: l1 :: l2 :: l3 :: some (.int x) :: ls) (st) h Q ↔ Wp 84 110 (l0 :: l1 :: l2 :: l3 :: some (.int x) :: ls) (.int x :: st) h Q) ∧
  (∀ (ls : Lo) (st : List Value) (h : Hp) (Q : Option Value → Hp → Prop) (l0 l1 l2 l3 l4 l5 l6 l7 l8 : Option Value) (x : Int32), Wp 84 110 (l0 :: l1 :: l2 :: l3 :: l4 :: l5 :: l6 :: l7 :: l8 :: ls) (.int x :: st) h Q ↔ Wp 84 112 (l0 :: l1 :: l2 :: l3 :: l4 :: l5 :: l6 :: clr l7 :: some (.int x) :: ls) (st) h Q) ∧
  (∀ (ls : Lo) (st : List Value) (h : Hp) (Q : Option Value → Hp → Prop) (l0 l1 l2 l3 l4 l5 l6 l7 : Option Value) (x : Int32), Wp 84 112 (l0 :: l1 :: l2 :: l3 :: l4 :: l5 :: l6 :: l7 :: some (.int x) :: ls) (st) h Q ↔ Wp 84 114 (l0 :: l1 :: l2 :: l3 :: l4 :: l5 :: l6 :: l7 :: some (.int x) :: ls) (.int x :: st) h Q) ∧
  (∀ (ls : Lo) (st : List Value) (h : Hp) (Q : Option Value → Hp → Prop) (l0 l1 l2 l3 : Option Value) (x : Int32), Wp 84 114 (l0 :: l1 :: l2 :: l3 :: some (.int x) :: ls) (st) h Q ↔ Wp 84 116 (l0 :: l1 :: l2 :: l3 :: some (.int x) :: ls) (.int x :: st) h Q) ∧
  (∀ (ls : Lo) (st : List Value) (h : Hp) (Q : Option Value → Hp → Prop) (l0 l1 l2 l3 l4 l5 l6 : Option Value) (x : Int32), Wp 84 116 (l0 :: l1 :: l2 :: l3 :: l4 :: l5 :: l6 :: some (.int x) :: ls) (st) h Q ↔ Wp 84 118 (l0 :: l1 :: l2 :: l3 :: l4 :: l5 :: l6 :: some (.int x) :: ls) (.int x :: st) h Q) ∧
  (∀ (ls : Lo) (st : List Value) (h : Hp) (Q : Option Value → Hp → Prop) (x y : Int32), Wp 84 118 (ls) (.int y :: .int x :: st) h Q ↔ Wp 84 119 (ls) (.int (x + y) :: st) h Q) ∧
  (∀ (ls : Lo) (st : List Value) (h : Hp) (Q : Option Value → Hp → Prop) (x y : Int32), Wp 84 119 (ls) (.int y :: .int x :: st) h Q ↔ Br 84 161 122 ls st h Q (y ≤ x)) ∧
  (∀ (ls : Lo) (st : List Value) (h : Hp) (Q : Option Value → Hp → Prop) (l0 l1 l2 l3 l4 l5 : Option Value) (i : Nat), Wp 84 122 (l0 :: l1 :: l2 :: l3 :: l4 :: l5 :: some (.ref i) :: ls) (st) h Q ↔ Wp 84 124 (l0 :: l1 :: l2 :: l3 :: l4 :: l5 :: some (.ref i) :: ls) (.ref i :: st) h Q) ∧
  (∀ (ls : Lo) (st : List Value) (n sl : Nat) (C Z : Nat → Nat) (I : Nat → Nat → Int32) (L : Nat → Nat → Int64) (R : Nat → Nat → Nat) (Q : Option Value → Hp → Prop) (i : Nat), Wp 84 124 (ls) (.ref i :: st) (n, sl, C, Z, I, L, R) Q ↔ (C i = 7 ∧ Wp 84 127 (ls) (.ref (R i 1) :: st) (n, sl, C, Z, I, L, R) Q)) ∧
  (∀ (ls : Lo) (st : List Value) (h : Hp) (Q : Option Value → Hp → Prop) (l0 l1 l2 l3 l4 l5 l6 l7 : Option Value) (x : Int32), Wp 84 127 (l0 :: l1 :: l2 :: l3 :: l4 :: l5 :: l6 :: l7 :: some (.int x) :: ls) (st) h Q ↔ Wp 84 129 (l0 :: l1 :: l2 :: l3 :: l4 :: l5 :: l6 :: l7 :: some (.int x) :: ls) (.int x :: st) h Q) ∧
  (∀ (ls : Lo) (st : List Value) (n sl : Nat) (C Z : Nat → Nat) (I : Nat → Nat → Int32) (L : Nat → Nat → Int64) (R : Nat → Nat → Nat) (Q : Option Value → Hp → Prop) (i : Nat) (y : Int32), Wp 84 129 (ls) (.int y :: .ref i :: st) (n, sl, C, Z, I, L, R) Q ↔ ((inb y (Z i) = true ∧ C i = 22) ∧ Wp 84 130 (ls) (.long (L i (ix y)) :: st) (n, sl, C, Z, I, L, R) Q)) ∧
  (∀ (ls : Lo) (st : List Value) (h : Hp) (Q : Option Value → Hp → Prop), Wp 84 130 (ls) (st) h Q ↔ Wp 84 133 (ls) (.long (-3) :: st) h Q) ∧
  (∀ (ls : Lo) (st : List Value) (h : Hp) (Q : Option Value → Hp → Prop) (a b : Int64), Wp 84 133 (ls) (.long b :: .long a :: st) h Q ↔ Wp 84 134 (ls) (.int (lg_cmp a b) :: st) h Q) ∧
  (∀ (ls : Lo) (st : List Value) (h : Hp) (Q : Option Value → Hp → Prop) (x : Int32), Wp 84 134 (ls) (.int x :: st) h Q ↔ Br 84 152 137 ls st h Q (x < 0)) ∧
  (∀ (ls : Lo) (st : List Value) (h : Hp) (Q : Option Value → Hp → Prop) (l0 l1 l2 l3 l4 l5 : Option Value) (i : Nat), Wp 84 137 (l0 :: l1 :: l2 :: l3 :: l4 :: l5 :: some (.ref i) :: ls) (st) h Q ↔ Wp 84 139 (l0 :: l1 :: l2 :: l3 :: l4 :: l5 :: some (.ref i) :: ls) (.ref i :: st) h Q) ∧
  (∀ (ls : Lo) (st : List Value) (n sl : Nat) (C Z : Nat → Nat) (I : Nat → Nat → Int32) (L : Nat → Nat → Int64) (R : Nat → Nat → Nat) (Q : Option Value → Hp → Prop) (i : Nat), Wp 84 139 (ls) (.ref i :: st) (n, sl, C, Z, I, L, R) Q ↔ (C i = 7 ∧ Wp 84 142 (ls) (.ref (R i 1) :: st) (n, sl, C, Z, I, L, R) Q)) ∧
  (∀ (ls : Lo) (st : List Value) (h : Hp) (Q : Option Value → Hp → Prop) (l0 l1 l2 l3 l4 l5 l6 l7 : Option Value) (x : Int32), Wp 84 142 (l0 :: l1 :: l2 :: l3 :: l4 :: l5 :: l6 :: l7 :: some (.int x) :: ls) (st) h Q ↔ Wp 84 144 (l0 :: l1 :: l2 :: l3 :: l4 :: l5 :: l6 :: l7 :: some (.int x) :: ls) (.int x :: st) h Q) ∧
  (∀ (ls : Lo) (st : List Value) (n sl : Nat) (C Z : Nat → Nat) (I : Nat → Nat → Int32) (L : Nat → Nat → Int64) (R : Nat → Nat → Nat) (Q : Option Value → Hp → Prop) (i : Nat) (y : Int32), Wp 84 144 (ls) (.int y :: .ref i :: st) (n, sl, C, Z, I, L, R) Q ↔ ((inb y (Z i) = true ∧ C i = 22) ∧ Wp 84 145 (ls) (.long (L i (ix y)) :: st) (n, sl, C, Z, I, L, R) Q)) ∧
  (∀ (ls : Lo) (st : List Value) (h : Hp) (Q : Option Value → Hp → Prop), Wp 84 145 (ls) (st) h Q ↔ Wp 84 148 (ls) (.long (3) :: st) h Q) ∧
  (∀ (ls : Lo) (st : List Value) (h : Hp) (Q : Option Value → Hp → Prop) (a b : Int64), Wp 84 148 (ls) (.long b :: .long a :: st) h Q ↔ Wp 84 149 (ls) (.int (lg_cmp a b) :: st) h Q) ∧
  (∀ (ls : Lo) (st : List Value) (h : Hp) (Q : Option Value → Hp → Prop) (x : Int32), Wp 84 149 (ls) (.int x :: st) h Q ↔ Br 84 155 152 ls st h Q (x ≤ 0)) := ⟨by intro ls st n sl C Z I L R Q x0 x1 i hh; exact e_iv (k2 := 50) (c := 7) (as := [.int x0, .int x1]) d84_99 rfl (by decide) rfl rfl (by decide +kernel) (Nat.le_of_ble_eq_true rfl) rfl hh,
  by intro ls st h Q x; exact e_if d84_102 (by decide) c_ne,
  by intro ls st h Q; exact e_bipush d84_105 rfl,
  by intros; exact e_rI (p := True) d84_107 rfl,
  by intro ls st h Q l0 l1 l2 l3 x; exact e_iload d84_108 rfl,
  by intro ls st h Q l0 l1 l2 l3 l4 l5 l6 l7 l8 x; exact e_istore d84_110 rfl,
  by intro ls st h Q l0 l1 l2 l3 l4 l5 l6 l7 x; exact e_iload d84_112 rfl,
  by intro ls st h Q l0 l1 l2 l3 x; exact e_iload d84_114 rfl,
  by intro ls st h Q l0 l1 l2 l3 l4 l5 l6 x; exact e_iload d84_116 rfl,
  by intro ls st h Q x y; exact e_iadd d84_118,
  by intro ls st h Q x y; exact e_ic d84_119 (by decide) c_ge,
  by intro ls st h Q l0 l1 l2 l3 l4 l5 i; exact e_aload d84_122 rfl,
  by intro ls st n sl C Z I L R Q i; exact e_get (g := 6) (s := 1) (ty := 2) d84_124 rfl rfl (inG_ne (by decide)),
  by intro ls st h Q l0 l1 l2 l3 l4 l5 l6 l7 x; exact e_iload d84_127 rfl,
  by intro ls st n sl C Z I L R Q i y; exact e_lald d84_129,
  by intro ls st h Q; exact e_ldc2 (p := 737) d84_130 rfl,
  by intro ls st h Q a b; exact e_lcmp d84_133,
  by intro ls st h Q x; exact e_if d84_134 (by decide) c_lt,
  by intro ls st h Q l0 l1 l2 l3 l4 l5 i; exact e_aload d84_137 rfl,
  by intro ls st n sl C Z I L R Q i; exact e_get (g := 6) (s := 1) (ty := 2) d84_139 rfl rfl (inG_ne (by decide)),
  by intro ls st h Q l0 l1 l2 l3 l4 l5 l6 l7 x; exact e_iload d84_142 rfl,
  by intro ls st n sl C Z I L R Q i y; exact e_lald d84_144,
  by intro ls st h Q; exact e_ldc2 (p := 738) d84_145 rfl,
  by intro ls st h Q a b; exact e_lcmp d84_148,
  by intro ls st h Q x; exact e_if d84_149 (by decide) c_le⟩
set_option maxRecDepth 20000 in
theorem S84_3 : (∀ (ls : Lo) (st : List Value) (h : Hp) (Q : Option Value → Hp → Prop), Wp 84 152 (ls) (st) h Q ↔ Wp 84 154 (ls) (.int (-2) :: st) h Q) ∧
  (∀ (ls : Lo) (h : Hp) (Q : Option Value → Hp → Prop) (x : Int32), Wp 84 154 (ls) ([.int x]) h Q ↔ Q (some (.int x)) h) ∧
  (∀ (ls : Lo) (st : List Value) (h : Hp) (Q : Option Value → Hp → Prop) (l0 l1 l2 l3 l4 l5 l6 l7 : Option Value) (x : Int32), Wp 84 155 (l0 :: l1 :: l2 :: l3 :: l4 :: l5 :: l6 :: l7 :: some (.int x) :: ls) (st) h Q ↔ Wp 84 158 (l0 :: l1 :: l2 :: l3 :: l4 :: l5 :: l6 :: clr l7 :: some (.int (x + (1))) :: ls) (st) h Q) ∧
  (∀ (ls : Lo) (st : List Value) (h : Hp) (Q : Option Value → Hp → Prop), Wp 84 158 (ls) (st) h Q ↔ Wp 84 112 (ls) (st) h Q) ∧
  (∀ (ls : Lo) (st : List Value) (h : Hp) (Q : Option Value → Hp → Prop), Wp 84 161 (ls) (st) h Q ↔ Wp 84 162 (ls) (.int (0) :: st) h Q) ∧
  (∀ (ls : Lo) (st : List Value) (h : Hp) (Q : Option Value → Hp → Prop) (l0 l1 l2 l3 l4 l5 l6 l7 l8 : Option Value) (x : Int32), Wp 84 162 (l0 :: l1 :: l2 :: l3 :: l4 :: l5 :: l6 :: l7 :: l8 :: ls) (.int x :: st) h Q ↔ Wp 84 164 (l0 :: l1 :: l2 :: l3 :: l4 :: l5 :: l6 :: clr l7 :: some (.int x) :: ls) (st) h Q) ∧
  (∀ (ls : Lo) (st : List Value) (h : Hp) (Q : Option Value → Hp → Prop) (l0 l1 l2 l3 l4 l5 l6 l7 : Option Value) (x : Int32), Wp 84 164 (l0 :: l1 :: l2 :: l3 :: l4 :: l5 :: l6 :: l7 :: some (.int x) :: ls) (st) h Q ↔ Wp 84 166 (l0 :: l1 :: l2 :: l3 :: l4 :: l5 :: l6 :: l7 :: some (.int x) :: ls) (.int x :: st) h Q) ∧
  (∀ (ls : Lo) (st : List Value) (h : Hp) (Q : Option Value → Hp → Prop) (l0 l1 l2 l3 l4 l5 l6 : Option Value) (x : Int32), Wp 84 166 (l0 :: l1 :: l2 :: l3 :: l4 :: l5 :: l6 :: some (.int x) :: ls) (st) h Q ↔ Wp 84 168 (l0 :: l1 :: l2 :: l3 :: l4 :: l5 :: l6 :: some (.int x) :: ls) (.int x :: st) h Q) ∧
  (∀ (ls : Lo) (st : List Value) (h : Hp) (Q : Option Value → Hp → Prop) (x y : Int32), Wp 84 168 (ls) (.int y :: .int x :: st) h Q ↔ Br 84 214 171 ls st h Q (y ≤ x)) ∧
  (∀ (ls : Lo) (st : List Value) (h : Hp) (Q : Option Value → Hp → Prop) (l0 l1 l2 l3 l4 : Option Value) (i : Nat), Wp 84 171 (l0 :: l1 :: l2 :: l3 :: l4 :: some (.ref i) :: ls) (st) h Q ↔ Wp 84 173 (l0 :: l1 :: l2 :: l3 :: l4 :: some (.ref i) :: ls) (.ref i :: st) h Q) ∧
  (∀ (ls : Lo) (st : List Value) (n sl : Nat) (C Z : Nat → Nat) (I : Nat → Nat → Int32) (L : Nat → Nat → Int64) (R : Nat → Nat → Nat) (Q : Option Value → Hp → Prop) (i : Nat), Wp 84 173 (ls) (.ref i :: st) (n, sl, C, Z, I, L, R) Q ↔ (inG 7 (C i) = true ∧ Wp 84 176 (ls) (.ref (R i 3) :: st) (n, sl, C, Z, I, L, R) Q)) ∧
  (∀ (ls : Lo) (st : List Value) (h : Hp) (Q : Option Value → Hp → Prop), Wp 84 176 (ls) (st) h Q ↔ Wp 84 177 (ls) (.int (3) :: st) h Q) ∧
  (∀ (ls : Lo) (st : List Value) (h : Hp) (Q : Option Value → Hp → Prop) (l0 l1 l2 l3 l4 l5 l6 l7 : Option Value) (x : Int32), Wp 84 177 (l0 :: l1 :: l2 :: l3 :: l4 :: l5 :: l6 :: l7 :: some (.int x) :: ls) (st) h Q ↔ Wp 84 179 (l0 :: l1 :: l2 :: l3 :: l4 :: l5 :: l6 :: l7 :: some (.int x) :: ls) (.int x :: st) h Q) ∧
  (∀ (ls : Lo) (st : List Value) (h : Hp) (Q : Option Value → Hp → Prop) (l0 l1 l2 l3 l4 : Option Value) (i : Nat), Wp 84 179 (l0 :: l1 :: l2 :: l3 :: l4 :: some (.ref i) :: ls) (st) h Q ↔ Wp 84 181 (l0 :: l1 :: l2 :: l3 :: l4 :: some (.ref i) :: ls) (.ref i :: st) h Q) ∧
  (∀ (ls : Lo) (st : List Value) (n sl : Nat) (C Z : Nat → Nat) (I : Nat → Nat → Int32) (L : Nat → Nat → Int64) (R : Nat → Nat → Nat) (Q : Option Value → Hp → Prop) (i : Nat), Wp 84 181 (ls) (.ref i :: st) (n, sl, C, Z, I, L, R) Q ↔ (inG 7 (C i) = true ∧ Wp 84 184 (ls) (.int (I i 1) :: st) (n, sl, C, Z, I, L, R) Q)) ∧
  (∀ (ls : Lo) (st : List Value) (h : Hp) (Q : Option Value → Hp → Prop) (x y : Int32), Wp 84 184 (ls) (.int y :: .int x :: st) h Q ↔ (¬ y = 0 ∧ Wp 84 185 (ls) (.int (x / y) :: st) h Q)) ∧
  (∀ (ls : Lo) (st : List Value) (h : Hp) (Q : Option Value → Hp → Prop) (x y : Int32), Wp 84 185 (ls) (.int y :: .int x :: st) h Q ↔ Wp 84 186 (ls) (.int (x * y) :: st) h Q) ∧
  (∀ (ls : Lo) (st : List Value) (h : Hp) (Q : Option Value → Hp → Prop) (l0 l1 l2 l3 l4 l5 l6 l7 : Option Value) (x : Int32), Wp 84 186 (l0 :: l1 :: l2 :: l3 :: l4 :: l5 :: l6 :: l7 :: some (.int x) :: ls) (st) h Q ↔ Wp 84 188 (l0 :: l1 :: l2 :: l3 :: l4 :: l5 :: l6 :: l7 :: some (.int x) :: ls) (.int x :: st) h Q) ∧
  (∀ (ls : Lo) (st : List Value) (h : Hp) (Q : Option Value → Hp → Prop) (l0 l1 l2 l3 l4 : Option Value) (i : Nat), Wp 84 188 (l0 :: l1 :: l2 :: l3 :: l4 :: some (.ref i) :: ls) (st) h Q ↔ Wp 84 190 (l0 :: l1 :: l2 :: l3 :: l4 :: some (.ref i) :: ls) (.ref i :: st) h Q) ∧
  (∀ (ls : Lo) (st : List Value) (n sl : Nat) (C Z : Nat → Nat) (I : Nat → Nat → Int32) (L : Nat → Nat → Int64) (R : Nat → Nat → Nat) (Q : Option Value → Hp → Prop) (i : Nat), Wp 84 190 (ls) (.ref i :: st) (n, sl, C, Z, I, L, R) Q ↔ (inG 7 (C i) = true ∧ Wp 84 193 (ls) (.int (I i 1) :: st) (n, sl, C, Z, I, L, R) Q)) ∧
  (∀ (ls : Lo) (st : List Value) (h : Hp) (Q : Option Value → Hp → Prop) (x y : Int32), Wp 84 193 (ls) (.int y :: .int x :: st) h Q ↔ (¬ y = 0 ∧ Wp 84 194 (ls) (.int (x - x / y * y) :: st) h Q)) ∧
  (∀ (ls : Lo) (st : List Value) (h : Hp) (Q : Option Value → Hp → Prop) (x y : Int32), Wp 84 194 (ls) (.int y :: .int x :: st) h Q ↔ Wp 84 195 (ls) (.int (x + y) :: st) h Q) ∧
  (∀ (ls : Lo) (st : List Value) (h : Hp) (Q : Option Value → Hp → Prop) (l0 l1 l2 l3 l4 l5 : Option Value) (i : Nat), Wp 84 195 (l0 :: l1 :: l2 :: l3 :: l4 :: l5 :: some (.ref i) :: ls) (st) h Q ↔ Wp 84 197 (l0 :: l1 :: l2 :: l3 :: l4 :: l5 :: some (.ref i) :: ls) (.ref i :: st) h Q) ∧
  (∀ (ls : Lo) (st : List Value) (n sl : Nat) (C Z : Nat → Nat) (I : Nat → Nat → Int32) (L : Nat → Nat → Int64) (R : Nat → Nat → Nat) (Q : Option Value → Hp → Prop) (i : Nat), Wp 84 197 (ls) (.ref i :: st) (n, sl, C, Z, I, L, R) Q ↔ (C i = 7 ∧ Wp 84 200 (ls) (.ref (R i 1) :: st) (n, sl, C, Z, I, L, R) Q)) ∧
  (∀ (ls : Lo) (st : List Value) (h : Hp) (Q : Option Value → Hp → Prop) (l0 l1 l2 l3 : Option Value) (x : Int32), Wp 84 200 (l0 :: l1 :: l2 :: l3 :: some (.int x) :: ls) (st) h Q ↔ Wp 84 202 (l0 :: l1 :: l2 :: l3 :: some (.int x) :: ls) (.int x :: st) h Q) := ⟨by intro ls st h Q; exact e_bipush d84_152 rfl,
  by intros; exact e_rI (p := True) d84_154 rfl,
  by intro ls st h Q l0 l1 l2 l3 l4 l5 l6 l7 x; exact e_iinc d84_155 rfl rfl rfl,
  by intro ls st h Q; exact e_goto d84_158 (by decide),
  by intro ls st h Q; exact e_iconst d84_161 rfl,
  by intro ls st h Q l0 l1 l2 l3 l4 l5 l6 l7 l8 x; exact e_istore d84_162 rfl,
  by intro ls st h Q l0 l1 l2 l3 l4 l5 l6 l7 x; exact e_iload d84_164 rfl,
  by intro ls st h Q l0 l1 l2 l3 l4 l5 l6 x; exact e_iload d84_166 rfl,
  by intro ls st h Q x y; exact e_ic d84_168 (by decide) c_ge,
  by intro ls st h Q l0 l1 l2 l3 l4 i; exact e_aload d84_171 rfl,
  by intro ls st n sl C Z I L R Q i; exact e_get (g := 7) (s := 3) (ty := 2) d84_173 rfl rfl rfl,
  by intro ls st h Q; exact e_iconst d84_176 rfl,
  by intro ls st h Q l0 l1 l2 l3 l4 l5 l6 l7 x; exact e_iload d84_177 rfl,
  by intro ls st h Q l0 l1 l2 l3 l4 i; exact e_aload d84_179 rfl,
  by intro ls st n sl C Z I L R Q i; exact e_get (g := 7) (s := 1) (ty := 0) d84_181 rfl rfl rfl,
  by intro ls st h Q x y; exact e_idiv d84_184,
  by intro ls st h Q x y; exact e_imul d84_185,
  by intro ls st h Q l0 l1 l2 l3 l4 l5 l6 l7 x; exact e_iload d84_186 rfl,
  by intro ls st h Q l0 l1 l2 l3 l4 i; exact e_aload d84_188 rfl,
  by intro ls st n sl C Z I L R Q i; exact e_get (g := 7) (s := 1) (ty := 0) d84_190 rfl rfl rfl,
  by intro ls st h Q x y; exact e_irem d84_193,
  by intro ls st h Q x y; exact e_iadd d84_194,
  by intro ls st h Q l0 l1 l2 l3 l4 l5 i; exact e_aload d84_195 rfl,
  by intro ls st n sl C Z I L R Q i; exact e_get (g := 6) (s := 1) (ty := 2) d84_197 rfl rfl (inG_ne (by decide)),
  by intro ls st h Q l0 l1 l2 l3 x; exact e_iload d84_200 rfl⟩
set_option maxRecDepth 20000 in
theorem S84_4 : (∀ (ls : Lo) (st : List Value) (h : Hp) (Q : Option Value → Hp → Prop) (l0 l1 l2 l3 l4 l5 l6 l7 : Option Value) (x : Int32), Wp 84 202 (l0 :: l1 :: l2 :: l3 :: l4 :: l5 :: l6 :: l7 :: some (.int x) :: ls) (st) h Q ↔ Wp 84 204 (l0 :: l1 :: l2 :: l3 :: l4 :: l5 :: l6 :: l7 :: some (.int x) :: ls) (.int x :: st) h Q) ∧
  (∀ (ls : Lo) (st : List Value) (h : Hp) (Q : Option Value → Hp → Prop) (x y : Int32), Wp 84 204 (ls) (.int y :: .int x :: st) h Q ↔ Wp 84 205 (ls) (.int (x + y) :: st) h Q) ∧
  (∀ (ls : Lo) (st : List Value) (n sl : Nat) (C Z : Nat → Nat) (I : Nat → Nat → Int32) (L : Nat → Nat → Int64) (R : Nat → Nat → Nat) (Q : Option Value → Hp → Prop) (i : Nat) (y : Int32), Wp 84 205 (ls) (.int y :: .ref i :: st) (n, sl, C, Z, I, L, R) Q ↔ ((inb y (Z i) = true ∧ C i = 22) ∧ Wp 84 206 (ls) (.long (L i (ix y)) :: st) (n, sl, C, Z, I, L, R) Q)) ∧
  (∀ (ls : Lo) (st : List Value) (h : Hp) (Q : Option Value → Hp → Prop) (a : Int64), Wp 84 206 (ls) (.long a :: st) h Q ↔ Wp 84 207 (ls) (.int a.toInt32 :: st) h Q) ∧
  (∀ (ls : Lo) (st : List Value) (n sl : Nat) (C Z : Nat → Nat) (I : Nat → Nat → Int32) (L : Nat → Nat → Int64) (R : Nat → Nat → Nat) (Q : Option Value → Hp → Prop) (i : Nat) (x y : Int32), Wp 84 207 (ls) (.int x :: .int y :: .ref i :: st) (n, sl, C, Z, I, L, R) Q ↔ ((inb y (Z i) = true ∧ C i = 21) ∧ Wp 84 208 (ls) (st) (n, sl, C, Z, u2 I i (ix y) x, L, R) Q)) ∧
  (∀ (ls : Lo) (st : List Value) (h : Hp) (Q : Option Value → Hp → Prop) (l0 l1 l2 l3 l4 l5 l6 l7 : Option Value) (x : Int32), Wp 84 208 (l0 :: l1 :: l2 :: l3 :: l4 :: l5 :: l6 :: l7 :: some (.int x) :: ls) (st) h Q ↔ Wp 84 211 (l0 :: l1 :: l2 :: l3 :: l4 :: l5 :: l6 :: clr l7 :: some (.int (x + (1))) :: ls) (st) h Q) ∧
  (∀ (ls : Lo) (st : List Value) (h : Hp) (Q : Option Value → Hp → Prop), Wp 84 211 (ls) (st) h Q ↔ Wp 84 164 (ls) (st) h Q) ∧
  (∀ (ls : Lo) (st : List Value) (h : Hp) (Q : Option Value → Hp → Prop), Wp 84 214 (ls) (st) h Q ↔ Wp 84 215 (ls) (.int (1) :: st) h Q) ∧
  (∀ (ls : Lo) (h : Hp) (Q : Option Value → Hp → Prop) (x : Int32), Wp 84 215 (ls) ([.int x]) h Q ↔ Q (some (.int x)) h) := ⟨by intro ls st h Q l0 l1 l2 l3 l4 l5 l6 l7 x; exact e_iload d84_202 rfl,
  by intro ls st h Q x y; exact e_iadd d84_204,
  by intro ls st n sl C Z I L R Q i y; exact e_lald d84_205,
  by intro ls st h Q a; exact e_l2i d84_206,
  by intro ls st n sl C Z I L R Q i x y; exact e_iast d84_207,
  by intro ls st h Q l0 l1 l2 l3 l4 l5 l6 l7 x; exact e_iinc d84_208 rfl rfl rfl,
  by intro ls st h Q; exact e_goto d84_211 (by decide),
  by intro ls st h Q; exact e_iconst d84_214 rfl,
  by intros; exact e_rI (p := True) d84_215 rfl⟩
theorem d85_0 : decode (byt 85) 0 = .ok (.iload_n 1, 1) := by decide +kernel
theorem d85_1 : decode (byt 85) 1 = .ok (.invokestatic 244, 3) := by decide +kernel
theorem d85_4 : decode (byt 85) 4 = .ok (.ifCond .eq 10, 3) := by decide +kernel
theorem d85_7 : decode (byt 85) 7 = .ok (.iload_n 3, 1) := by decide +kernel
theorem d85_8 : decode (byt 85) 8 = .ok (.invokestatic 244, 3) := by decide +kernel
theorem d85_11 : decode (byt 85) 11 = .ok (.ifCond .ne 6, 3) := by decide +kernel
theorem d85_14 : decode (byt 85) 14 = .ok (.bipush (-2), 2) := by decide +kernel
theorem d85_16 : decode (byt 85) 16 = .ok (.ireturn, 1) := by decide +kernel
theorem d85_17 : decode (byt 85) 17 = .ok (.aload_n 0, 1) := by decide +kernel
theorem d85_18 : decode (byt 85) 18 = .ok (.getfield 38, 3) := by decide +kernel
theorem d85_21 : decode (byt 85) 21 = .ok (.iload_n 1, 1) := by decide +kernel
theorem d85_22 : decode (byt 85) 22 = .ok (.aaload, 1) := by decide +kernel
theorem d85_23 : decode (byt 85) 23 = .ok (.astore 6, 2) := by decide +kernel
theorem d85_25 : decode (byt 85) 25 = .ok (.aload_n 0, 1) := by decide +kernel
theorem d85_26 : decode (byt 85) 26 = .ok (.getfield 38, 3) := by decide +kernel
theorem d85_29 : decode (byt 85) 29 = .ok (.iload_n 3, 1) := by decide +kernel
theorem d85_30 : decode (byt 85) 30 = .ok (.aaload, 1) := by decide +kernel
theorem d85_31 : decode (byt 85) 31 = .ok (.astore 7, 2) := by decide +kernel
theorem d85_33 : decode (byt 85) 33 = .ok (.aload 6, 2) := by decide +kernel
theorem d85_35 : decode (byt 85) 35 = .ok (.ifnull 8, 3) := by decide +kernel
theorem d85_38 : decode (byt 85) 38 = .ok (.aload 7, 2) := by decide +kernel
theorem d85_40 : decode (byt 85) 40 = .ok (.ifnonnull 6, 3) := by decide +kernel
theorem d85_43 : decode (byt 85) 43 = .ok (.bipush (-11), 2) := by decide +kernel
theorem d85_45 : decode (byt 85) 45 = .ok (.ireturn, 1) := by decide +kernel
theorem d85_46 : decode (byt 85) 46 = .ok (.aload 6, 2) := by decide +kernel
theorem d85_48 : decode (byt 85) 48 = .ok (.getfield 254, 3) := by decide +kernel
theorem d85_51 : decode (byt 85) 51 = .ok (.aload 7, 2) := by decide +kernel
theorem d85_53 : decode (byt 85) 53 = .ok (.getfield 254, 3) := by decide +kernel
theorem d85_56 : decode (byt 85) 56 = .ok (.if_icmp .eq 6, 3) := by decide +kernel
theorem d85_59 : decode (byt 85) 59 = .ok (.bipush (-13), 2) := by decide +kernel
theorem d85_61 : decode (byt 85) 61 = .ok (.ireturn, 1) := by decide +kernel
theorem d85_62 : decode (byt 85) 62 = .ok (.aload 6, 2) := by decide +kernel
theorem d85_64 : decode (byt 85) 64 = .ok (.iload_n 2, 1) := by decide +kernel
theorem d85_65 : decode (byt 85) 65 = .ok (.iload 5, 2) := by decide +kernel
theorem d85_67 : decode (byt 85) 67 = .ok (.invokevirtual 257, 3) := by decide +kernel
theorem d85_70 : decode (byt 85) 70 = .ok (.ifCond .eq 15, 3) := by decide +kernel
theorem d85_73 : decode (byt 85) 73 = .ok (.aload 7, 2) := by decide +kernel
theorem d85_75 : decode (byt 85) 75 = .ok (.iload 4, 2) := by decide +kernel
theorem d85_77 : decode (byt 85) 77 = .ok (.iload 5, 2) := by decide +kernel
theorem d85_79 : decode (byt 85) 79 = .ok (.invokevirtual 257, 3) := by decide +kernel
theorem d85_82 : decode (byt 85) 82 = .ok (.ifCond .ne 6, 3) := by decide +kernel
theorem d85_85 : decode (byt 85) 85 = .ok (.bipush (-12), 2) := by decide +kernel
theorem d85_87 : decode (byt 85) 87 = .ok (.ireturn, 1) := by decide +kernel
theorem d85_88 : decode (byt 85) 88 = .ok (.aload 6, 2) := by decide +kernel
theorem d85_90 : decode (byt 85) 90 = .ok (.getfield 251, 3) := by decide +kernel
theorem d85_93 : decode (byt 85) 93 = .ok (.iload_n 2, 1) := by decide +kernel
theorem d85_94 : decode (byt 85) 94 = .ok (.aload 7, 2) := by decide +kernel
theorem d85_96 : decode (byt 85) 96 = .ok (.getfield 251, 3) := by decide +kernel
theorem d85_99 : decode (byt 85) 99 = .ok (.iload 4, 2) := by decide +kernel
theorem d85_101 : decode (byt 85) 101 = .ok (.iload 5, 2) := by decide +kernel
theorem d85_103 : decode (byt 85) 103 = .ok (.invokestatic 265, 3) := by decide +kernel
theorem d85_106 : decode (byt 85) 106 = .ok (.iload 5, 2) := by decide +kernel
theorem d85_108 : decode (byt 85) 108 = .ok (.ireturn, 1) := by decide +kernel
set_option maxRecDepth 20000 in
theorem S85_0 : (∀ (ls : Lo) (st : List Value) (h : Hp) (Q : Option Value → Hp → Prop) (l0 : Option Value) (x : Int32), Wp 85 0 (l0 :: some (.int x) :: ls) (st) h Q ↔ Wp 85 1 (l0 :: some (.int x) :: ls) (.int x :: st) h Q) ∧
  (∀ (ls : Lo) (st : List Value) (h : Hp) (Q : Option Value → Hp → Prop) (x0 : Int32), Wp 85 1 (ls) (.int x0 :: st) h Q ↔ (wsum st ≤ 8 ∧ Call 90 [some (.int x0)] h 85 4 ls st Q)) ∧
  (∀ (ls : Lo) (st : List Value) (h : Hp) (Q : Option Value → Hp → Prop) (x : Int32), Wp 85 4 (ls) (.int x :: st) h Q ↔ Br 85 14 7 ls st h Q (x = 0)) ∧
  (∀ (ls : Lo) (st : List Value) (h : Hp) (Q : Option Value → Hp → Prop) (l0 l1 l2 : Option Value) (x : Int32), Wp 85 7 (l0 :: l1 :: l2 :: some (.int x) :: ls) (st) h Q ↔ Wp 85 8 (l0 :: l1 :: l2 :: some (.int x) :: ls) (.int x :: st) h Q) ∧
  (∀ (ls : Lo) (st : List Value) (h : Hp) (Q : Option Value → Hp → Prop) (x0 : Int32), Wp 85 8 (ls) (.int x0 :: st) h Q ↔ (wsum st ≤ 8 ∧ Call 90 [some (.int x0)] h 85 11 ls st Q)) ∧
  (∀ (ls : Lo) (st : List Value) (h : Hp) (Q : Option Value → Hp → Prop) (x : Int32), Wp 85 11 (ls) (.int x :: st) h Q ↔ Br 85 17 14 ls st h Q (¬ x = 0)) ∧
  (∀ (ls : Lo) (st : List Value) (h : Hp) (Q : Option Value → Hp → Prop), Wp 85 14 (ls) (st) h Q ↔ Wp 85 16 (ls) (.int (-2) :: st) h Q) ∧
  (∀ (ls : Lo) (h : Hp) (Q : Option Value → Hp → Prop) (x : Int32), Wp 85 16 (ls) ([.int x]) h Q ↔ Q (some (.int x)) h) ∧
  (∀ (ls : Lo) (st : List Value) (h : Hp) (Q : Option Value → Hp → Prop)  (i : Nat), Wp 85 17 (some (.ref i) :: ls) (st) h Q ↔ Wp 85 18 (some (.ref i) :: ls) (.ref i :: st) h Q) ∧
  (∀ (ls : Lo) (st : List Value) (n sl : Nat) (C Z : Nat → Nat) (I : Nat → Nat → Int32) (L : Nat → Nat → Int64) (R : Nat → Nat → Nat) (Q : Option Value → Hp → Prop) (i : Nat), Wp 85 18 (ls) (.ref i :: st) (n, sl, C, Z, I, L, R) Q ↔ (C i = 10 ∧ Wp 85 21 (ls) (.ref (R i 6) :: st) (n, sl, C, Z, I, L, R) Q)) ∧
  (∀ (ls : Lo) (st : List Value) (h : Hp) (Q : Option Value → Hp → Prop) (l0 : Option Value) (x : Int32), Wp 85 21 (l0 :: some (.int x) :: ls) (st) h Q ↔ Wp 85 22 (l0 :: some (.int x) :: ls) (.int x :: st) h Q) ∧
  (∀ (ls : Lo) (st : List Value) (n sl : Nat) (C Z : Nat → Nat) (I : Nat → Nat → Int32) (L : Nat → Nat → Int64) (R : Nat → Nat → Nat) (Q : Option Value → Hp → Prop) (i : Nat) (y : Int32), Wp 85 22 (ls) (.int y :: .ref i :: st) (n, sl, C, Z, I, L, R) Q ↔ ((inb y (Z i) = true ∧ (C i = 23 ∨ C i = 24 ∨ C i = 25)) ∧ Wp 85 23 (ls) (.ref (R i (ix y)) :: st) (n, sl, C, Z, I, L, R) Q)) ∧
  (∀ (ls : Lo) (st : List Value) (h : Hp) (Q : Option Value → Hp → Prop) (l0 l1 l2 l3 l4 l5 l6 : Option Value) (i : Nat), Wp 85 23 (l0 :: l1 :: l2 :: l3 :: l4 :: l5 :: l6 :: ls) (.ref i :: st) h Q ↔ Wp 85 25 (l0 :: l1 :: l2 :: l3 :: l4 :: clr l5 :: some (.ref i) :: ls) (st) h Q) ∧
  (∀ (ls : Lo) (st : List Value) (h : Hp) (Q : Option Value → Hp → Prop)  (i : Nat), Wp 85 25 (some (.ref i) :: ls) (st) h Q ↔ Wp 85 26 (some (.ref i) :: ls) (.ref i :: st) h Q) ∧
  (∀ (ls : Lo) (st : List Value) (n sl : Nat) (C Z : Nat → Nat) (I : Nat → Nat → Int32) (L : Nat → Nat → Int64) (R : Nat → Nat → Nat) (Q : Option Value → Hp → Prop) (i : Nat), Wp 85 26 (ls) (.ref i :: st) (n, sl, C, Z, I, L, R) Q ↔ (C i = 10 ∧ Wp 85 29 (ls) (.ref (R i 6) :: st) (n, sl, C, Z, I, L, R) Q)) ∧
  (∀ (ls : Lo) (st : List Value) (h : Hp) (Q : Option Value → Hp → Prop) (l0 l1 l2 : Option Value) (x : Int32), Wp 85 29 (l0 :: l1 :: l2 :: some (.int x) :: ls) (st) h Q ↔ Wp 85 30 (l0 :: l1 :: l2 :: some (.int x) :: ls) (.int x :: st) h Q) ∧
  (∀ (ls : Lo) (st : List Value) (n sl : Nat) (C Z : Nat → Nat) (I : Nat → Nat → Int32) (L : Nat → Nat → Int64) (R : Nat → Nat → Nat) (Q : Option Value → Hp → Prop) (i : Nat) (y : Int32), Wp 85 30 (ls) (.int y :: .ref i :: st) (n, sl, C, Z, I, L, R) Q ↔ ((inb y (Z i) = true ∧ (C i = 23 ∨ C i = 24 ∨ C i = 25)) ∧ Wp 85 31 (ls) (.ref (R i (ix y)) :: st) (n, sl, C, Z, I, L, R) Q)) ∧
  (∀ (ls : Lo) (st : List Value) (h : Hp) (Q : Option Value → Hp → Prop) (l0 l1 l2 l3 l4 l5 l6 l7 : Option Value) (i : Nat), Wp 85 31 (l0 :: l1 :: l2 :: l3 :: l4 :: l5 :: l6 :: l7 :: ls) (.ref i :: st) h Q ↔ Wp 85 33 (l0 :: l1 :: l2 :: l3 :: l4 :: l5 :: clr l6 :: some (.ref i) :: ls) (st) h Q) ∧
  (∀ (ls : Lo) (st : List Value) (h : Hp) (Q : Option Value → Hp → Prop) (l0 l1 l2 l3 l4 l5 : Option Value) (i : Nat), Wp 85 33 (l0 :: l1 :: l2 :: l3 :: l4 :: l5 :: some (.ref i) :: ls) (st) h Q ↔ Wp 85 35 (l0 :: l1 :: l2 :: l3 :: l4 :: l5 :: some (.ref i) :: ls) (.ref i :: st) h Q) ∧
  (∀ (ls : Lo) (st : List Value) (h : Hp) (Q : Option Value → Hp → Prop) (i : Nat), Wp 85 35 (ls) (.ref i :: st) h Q ↔ Br 85 43 38 ls st h Q (i = 0)) ∧
  (∀ (ls : Lo) (st : List Value) (h : Hp) (Q : Option Value → Hp → Prop) (l0 l1 l2 l3 l4 l5 l6 : Option Value) (i : Nat), Wp 85 38 (l0 :: l1 :: l2 :: l3 :: l4 :: l5 :: l6 :: some (.ref i) :: ls) (st) h Q ↔ Wp 85 40 (l0 :: l1 :: l2 :: l3 :: l4 :: l5 :: l6 :: some (.ref i) :: ls) (.ref i :: st) h Q) ∧
  (∀ (ls : Lo) (st : List Value) (h : Hp) (Q : Option Value → Hp → Prop) (i : Nat), Wp 85 40 (ls) (.ref i :: st) h Q ↔ Br 85 46 43 ls st h Q (¬ i = 0)) ∧
  (∀ (ls : Lo) (st : List Value) (h : Hp) (Q : Option Value → Hp → Prop), Wp 85 43 (ls) (st) h Q ↔ Wp 85 45 (ls) (.int (-11) :: st) h Q) ∧
  (∀ (ls : Lo) (h : Hp) (Q : Option Value → Hp → Prop) (x : Int32), Wp 85 45 (ls) ([.int x]) h Q ↔ Q (some (.int x)) h) ∧
  (∀ (ls : Lo) (st : List Value) (h : Hp) (Q : Option Value → Hp → Prop) (l0 l1 l2 l3 l4 l5 : Option Value) (i : Nat), Wp 85 46 (l0 :: l1 :: l2 :: l3 :: l4 :: l5 :: some (.ref i) :: ls) (st) h Q ↔ Wp 85 48 (l0 :: l1 :: l2 :: l3 :: l4 :: l5 :: some (.ref i) :: ls) (.ref i :: st) h Q) := ⟨by intro ls st h Q l0 x; exact e_iload_n d85_0 rfl,
  by intro ls st h Q x0; exact e_is (k2 := 90) (as := [.int x0]) d85_1 rfl (by decide) rfl rfl (by decide +kernel) (Nat.le_of_ble_eq_true rfl) rfl,
  by intro ls st h Q x; exact e_if d85_4 (by decide) c_eq,
  by intro ls st h Q l0 l1 l2 x; exact e_iload_n d85_7 rfl,
  by intro ls st h Q x0; exact e_is (k2 := 90) (as := [.int x0]) d85_8 rfl (by decide) rfl rfl (by decide +kernel) (Nat.le_of_ble_eq_true rfl) rfl,
  by intro ls st h Q x; exact e_if d85_11 (by decide) c_ne,
  by intro ls st h Q; exact e_bipush d85_14 rfl,
  by intros; exact e_rI (p := True) d85_16 rfl,
  by intro ls st h Q i; exact e_aload_n d85_17 rfl,
  by intro ls st n sl C Z I L R Q i; exact e_get (g := 9) (s := 6) (ty := 2) d85_18 rfl rfl (inG_ne (by decide)),
  by intro ls st h Q l0 x; exact e_iload_n d85_21 rfl,
  by intro ls st n sl C Z I L R Q i y; exact e_aald d85_22,
  by intro ls st h Q l0 l1 l2 l3 l4 l5 l6 i; exact e_astore d85_23 rfl,
  by intro ls st h Q i; exact e_aload_n d85_25 rfl,
  by intro ls st n sl C Z I L R Q i; exact e_get (g := 9) (s := 6) (ty := 2) d85_26 rfl rfl (inG_ne (by decide)),
  by intro ls st h Q l0 l1 l2 x; exact e_iload_n d85_29 rfl,
  by intro ls st n sl C Z I L R Q i y; exact e_aald d85_30,
  by intro ls st h Q l0 l1 l2 l3 l4 l5 l6 l7 i; exact e_astore d85_31 rfl,
  by intro ls st h Q l0 l1 l2 l3 l4 l5 i; exact e_aload d85_33 rfl,
  by intro ls st h Q i; exact e_ifnull d85_35 (by decide),
  by intro ls st h Q l0 l1 l2 l3 l4 l5 l6 i; exact e_aload d85_38 rfl,
  by intro ls st h Q i; exact e_ifnn d85_40 (by decide),
  by intro ls st h Q; exact e_bipush d85_43 rfl,
  by intros; exact e_rI (p := True) d85_45 rfl,
  by intro ls st h Q l0 l1 l2 l3 l4 l5 i; exact e_aload d85_46 rfl⟩
set_option maxRecDepth 20000 in
theorem S85_1 : (∀ (ls : Lo) (st : List Value) (n sl : Nat) (C Z : Nat → Nat) (I : Nat → Nat → Int32) (L : Nat → Nat → Int64) (R : Nat → Nat → Nat) (Q : Option Value → Hp → Prop) (i : Nat), Wp 85 48 (ls) (.ref i :: st) (n, sl, C, Z, I, L, R) Q ↔ (C i = 7 ∧ Wp 85 51 (ls) (.int (I i 0) :: st) (n, sl, C, Z, I, L, R) Q)) ∧
  (∀ (ls : Lo) (st : List Value) (h : Hp) (Q : Option Value → Hp → Prop) (l0 l1 l2 l3 l4 l5 l6 : Option Value) (i : Nat), Wp 85 51 (l0 :: l1 :: l2 :: l3 :: l4 :: l5 :: l6 :: some (.ref i) :: ls) (st) h Q ↔ Wp 85 53 (l0 :: l1 :: l2 :: l3 :: l4 :: l5 :: l6 :: some (.ref i) :: ls) (.ref i :: st) h Q) ∧
  (∀ (ls : Lo) (st : List Value) (n sl : Nat) (C Z : Nat → Nat) (I : Nat → Nat → Int32) (L : Nat → Nat → Int64) (R : Nat → Nat → Nat) (Q : Option Value → Hp → Prop) (i : Nat), Wp 85 53 (ls) (.ref i :: st) (n, sl, C, Z, I, L, R) Q ↔ (C i = 7 ∧ Wp 85 56 (ls) (.int (I i 0) :: st) (n, sl, C, Z, I, L, R) Q)) ∧
  (∀ (ls : Lo) (st : List Value) (h : Hp) (Q : Option Value → Hp → Prop) (x y : Int32), Wp 85 56 (ls) (.int y :: .int x :: st) h Q ↔ Br 85 62 59 ls st h Q (x = y)) ∧
  (∀ (ls : Lo) (st : List Value) (h : Hp) (Q : Option Value → Hp → Prop), Wp 85 59 (ls) (st) h Q ↔ Wp 85 61 (ls) (.int (-13) :: st) h Q) ∧
  (∀ (ls : Lo) (h : Hp) (Q : Option Value → Hp → Prop) (x : Int32), Wp 85 61 (ls) ([.int x]) h Q ↔ Q (some (.int x)) h) ∧
  (∀ (ls : Lo) (st : List Value) (h : Hp) (Q : Option Value → Hp → Prop) (l0 l1 l2 l3 l4 l5 : Option Value) (i : Nat), Wp 85 62 (l0 :: l1 :: l2 :: l3 :: l4 :: l5 :: some (.ref i) :: ls) (st) h Q ↔ Wp 85 64 (l0 :: l1 :: l2 :: l3 :: l4 :: l5 :: some (.ref i) :: ls) (.ref i :: st) h Q) ∧
  (∀ (ls : Lo) (st : List Value) (h : Hp) (Q : Option Value → Hp → Prop) (l0 l1 : Option Value) (x : Int32), Wp 85 64 (l0 :: l1 :: some (.int x) :: ls) (st) h Q ↔ Wp 85 65 (l0 :: l1 :: some (.int x) :: ls) (.int x :: st) h Q) ∧
  (∀ (ls : Lo) (st : List Value) (h : Hp) (Q : Option Value → Hp → Prop) (l0 l1 l2 l3 l4 : Option Value) (x : Int32), Wp 85 65 (l0 :: l1 :: l2 :: l3 :: l4 :: some (.int x) :: ls) (st) h Q ↔ Wp 85 67 (l0 :: l1 :: l2 :: l3 :: l4 :: some (.int x) :: ls) (.int x :: st) h Q) ∧
  (∀ (ls : Lo) (st : List Value) (n sl : Nat) (C Z : Nat → Nat) (I : Nat → Nat → Int32) (L : Nat → Nat → Int64) (R : Nat → Nat → Nat) (Q : Option Value → Hp → Prop) (x0 : Int32) (x1 : Int32) (i : Nat), C i = 7 → (Wp 85 67 (ls) (.int x1 :: .int x0 :: .ref i :: st) (n, sl, C, Z, I, L, R) Q ↔ (wsum st ≤ 8 ∧ Call 50 [some (.ref i), some (.int x0), some (.int x1)] (n, sl, C, Z, I, L, R) 85 70 ls st Q))) ∧
  (∀ (ls : Lo) (st : List Value) (h : Hp) (Q : Option Value → Hp → Prop) (x : Int32), Wp 85 70 (ls) (.int x :: st) h Q ↔ Br 85 85 73 ls st h Q (x = 0)) ∧
  (∀ (ls : Lo) (st : List Value) (h : Hp) (Q : Option Value → Hp → Prop) (l0 l1 l2 l3 l4 l5 l6 : Option Value) (i : Nat), Wp 85 73 (l0 :: l1 :: l2 :: l3 :: l4 :: l5 :: l6 :: some (.ref i) :: ls) (st) h Q ↔ Wp 85 75 (l0 :: l1 :: l2 :: l3 :: l4 :: l5 :: l6 :: some (.ref i) :: ls) (.ref i :: st) h Q) ∧
  (∀ (ls : Lo) (st : List Value) (h : Hp) (Q : Option Value → Hp → Prop) (l0 l1 l2 l3 : Option Value) (x : Int32), Wp 85 75 (l0 :: l1 :: l2 :: l3 :: some (.int x) :: ls) (st) h Q ↔ Wp 85 77 (l0 :: l1 :: l2 :: l3 :: some (.int x) :: ls) (.int x :: st) h Q) ∧
  (∀ (ls : Lo) (st : List Value) (h : Hp) (Q : Option Value → Hp → Prop) (l0 l1 l2 l3 l4 : Option Value) (x : Int32), Wp 85 77 (l0 :: l1 :: l2 :: l3 :: l4 :: some (.int x) :: ls) (st) h Q ↔ Wp 85 79 (l0 :: l1 :: l2 :: l3 :: l4 :: some (.int x) :: ls) (.int x :: st) h Q) ∧
  (∀ (ls : Lo) (st : List Value) (n sl : Nat) (C Z : Nat → Nat) (I : Nat → Nat → Int32) (L : Nat → Nat → Int64) (R : Nat → Nat → Nat) (Q : Option Value → Hp → Prop) (x0 : Int32) (x1 : Int32) (i : Nat), C i = 7 → (Wp 85 79 (ls) (.int x1 :: .int x0 :: .ref i :: st) (n, sl, C, Z, I, L, R) Q ↔ (wsum st ≤ 8 ∧ Call 50 [some (.ref i), some (.int x0), some (.int x1)] (n, sl, C, Z, I, L, R) 85 82 ls st Q))) ∧
  (∀ (ls : Lo) (st : List Value) (h : Hp) (Q : Option Value → Hp → Prop) (x : Int32), Wp 85 82 (ls) (.int x :: st) h Q ↔ Br 85 88 85 ls st h Q (¬ x = 0)) ∧
  (∀ (ls : Lo) (st : List Value) (h : Hp) (Q : Option Value → Hp → Prop), Wp 85 85 (ls) (st) h Q ↔ Wp 85 87 (ls) (.int (-12) :: st) h Q) ∧
  (∀ (ls : Lo) (h : Hp) (Q : Option Value → Hp → Prop) (x : Int32), Wp 85 87 (ls) ([.int x]) h Q ↔ Q (some (.int x)) h) ∧
  (∀ (ls : Lo) (st : List Value) (h : Hp) (Q : Option Value → Hp → Prop) (l0 l1 l2 l3 l4 l5 : Option Value) (i : Nat), Wp 85 88 (l0 :: l1 :: l2 :: l3 :: l4 :: l5 :: some (.ref i) :: ls) (st) h Q ↔ Wp 85 90 (l0 :: l1 :: l2 :: l3 :: l4 :: l5 :: some (.ref i) :: ls) (.ref i :: st) h Q) ∧
  (∀ (ls : Lo) (st : List Value) (n sl : Nat) (C Z : Nat → Nat) (I : Nat → Nat → Int32) (L : Nat → Nat → Int64) (R : Nat → Nat → Nat) (Q : Option Value → Hp → Prop) (i : Nat), Wp 85 90 (ls) (.ref i :: st) (n, sl, C, Z, I, L, R) Q ↔ (C i = 7 ∧ Wp 85 93 (ls) (.ref (R i 1) :: st) (n, sl, C, Z, I, L, R) Q)) ∧
  (∀ (ls : Lo) (st : List Value) (h : Hp) (Q : Option Value → Hp → Prop) (l0 l1 : Option Value) (x : Int32), Wp 85 93 (l0 :: l1 :: some (.int x) :: ls) (st) h Q ↔ Wp 85 94 (l0 :: l1 :: some (.int x) :: ls) (.int x :: st) h Q) ∧
  (∀ (ls : Lo) (st : List Value) (h : Hp) (Q : Option Value → Hp → Prop) (l0 l1 l2 l3 l4 l5 l6 : Option Value) (i : Nat), Wp 85 94 (l0 :: l1 :: l2 :: l3 :: l4 :: l5 :: l6 :: some (.ref i) :: ls) (st) h Q ↔ Wp 85 96 (l0 :: l1 :: l2 :: l3 :: l4 :: l5 :: l6 :: some (.ref i) :: ls) (.ref i :: st) h Q) ∧
  (∀ (ls : Lo) (st : List Value) (n sl : Nat) (C Z : Nat → Nat) (I : Nat → Nat → Int32) (L : Nat → Nat → Int64) (R : Nat → Nat → Nat) (Q : Option Value → Hp → Prop) (i : Nat), Wp 85 96 (ls) (.ref i :: st) (n, sl, C, Z, I, L, R) Q ↔ (C i = 7 ∧ Wp 85 99 (ls) (.ref (R i 1) :: st) (n, sl, C, Z, I, L, R) Q)) ∧
  (∀ (ls : Lo) (st : List Value) (h : Hp) (Q : Option Value → Hp → Prop) (l0 l1 l2 l3 : Option Value) (x : Int32), Wp 85 99 (l0 :: l1 :: l2 :: l3 :: some (.int x) :: ls) (st) h Q ↔ Wp 85 101 (l0 :: l1 :: l2 :: l3 :: some (.int x) :: ls) (.int x :: st) h Q) ∧
  (∀ (ls : Lo) (st : List Value) (h : Hp) (Q : Option Value → Hp → Prop) (l0 l1 l2 l3 l4 : Option Value) (x : Int32), Wp 85 101 (l0 :: l1 :: l2 :: l3 :: l4 :: some (.int x) :: ls) (st) h Q ↔ Wp 85 103 (l0 :: l1 :: l2 :: l3 :: l4 :: some (.int x) :: ls) (.int x :: st) h Q) := ⟨by intro ls st n sl C Z I L R Q i; exact e_get (g := 6) (s := 0) (ty := 0) d85_48 rfl rfl (inG_ne (by decide)),
  by intro ls st h Q l0 l1 l2 l3 l4 l5 l6 i; exact e_aload d85_51 rfl,
  by intro ls st n sl C Z I L R Q i; exact e_get (g := 6) (s := 0) (ty := 0) d85_53 rfl rfl (inG_ne (by decide)),
  by intro ls st h Q x y; exact e_ic d85_56 (by decide) c_eq,
  by intro ls st h Q; exact e_bipush d85_59 rfl,
  by intros; exact e_rI (p := True) d85_61 rfl,
  by intro ls st h Q l0 l1 l2 l3 l4 l5 i; exact e_aload d85_62 rfl,
  by intro ls st h Q l0 l1 x; exact e_iload_n d85_64 rfl,
  by intro ls st h Q l0 l1 l2 l3 l4 x; exact e_iload d85_65 rfl,
  by intro ls st n sl C Z I L R Q x0 x1 i hh; exact e_iv (k2 := 50) (c := 7) (as := [.int x0, .int x1]) d85_67 rfl (by decide) rfl rfl (by decide +kernel) (Nat.le_of_ble_eq_true rfl) rfl hh,
  by intro ls st h Q x; exact e_if d85_70 (by decide) c_eq,
  by intro ls st h Q l0 l1 l2 l3 l4 l5 l6 i; exact e_aload d85_73 rfl,
  by intro ls st h Q l0 l1 l2 l3 x; exact e_iload d85_75 rfl,
  by intro ls st h Q l0 l1 l2 l3 l4 x; exact e_iload d85_77 rfl,
  by intro ls st n sl C Z I L R Q x0 x1 i hh; exact e_iv (k2 := 50) (c := 7) (as := [.int x0, .int x1]) d85_79 rfl (by decide) rfl rfl (by decide +kernel) (Nat.le_of_ble_eq_true rfl) rfl hh,
  by intro ls st h Q x; exact e_if d85_82 (by decide) c_ne,
  by intro ls st h Q; exact e_bipush d85_85 rfl,
  by intros; exact e_rI (p := True) d85_87 rfl,
  by intro ls st h Q l0 l1 l2 l3 l4 l5 i; exact e_aload d85_88 rfl,
  by intro ls st n sl C Z I L R Q i; exact e_get (g := 6) (s := 1) (ty := 2) d85_90 rfl rfl (inG_ne (by decide)),
  by intro ls st h Q l0 l1 x; exact e_iload_n d85_93 rfl,
  by intro ls st h Q l0 l1 l2 l3 l4 l5 l6 i; exact e_aload d85_94 rfl,
  by intro ls st n sl C Z I L R Q i; exact e_get (g := 6) (s := 1) (ty := 2) d85_96 rfl rfl (inG_ne (by decide)),
  by intro ls st h Q l0 l1 l2 l3 x; exact e_iload d85_99 rfl,
  by intro ls st h Q l0 l1 l2 l3 l4 x; exact e_iload d85_101 rfl⟩
set_option maxRecDepth 20000 in
theorem S85_2 : (∀ (ls : Lo) (st : List Value) (n sl : Nat) (C Z : Nat → Nat) (I : Nat → Nat → Int32) (L : Nat → Nat → Int64) (R : Nat → Nat → Nat) (Q : Option Value → Hp → Prop) (i j : Nat) (x y v : Int32), Wp 85 103 (ls) (.int v :: .int y :: .ref j :: .int x :: .ref i :: st) (n, sl, C, Z, I, L, R) Q ↔ ((wsum st ≤ 8 ∧ C i = 22 ∧ C j = 22 ∧ ¬ x < 0 ∧ ¬ y < 0 ∧ ¬ v < 0 ∧ ix x + ix v ≤ Z i ∧ ix y + ix v ≤ Z j) ∧ Wp 85 106 (ls) (st) (n, sl, C, Z, I, va_up L j (va_cpy (L i) (L j) (ix x) (ix y) (ix v)), R) Q)) ∧
  (∀ (ls : Lo) (st : List Value) (h : Hp) (Q : Option Value → Hp → Prop) (l0 l1 l2 l3 l4 : Option Value) (x : Int32), Wp 85 106 (l0 :: l1 :: l2 :: l3 :: l4 :: some (.int x) :: ls) (st) h Q ↔ Wp 85 108 (l0 :: l1 :: l2 :: l3 :: l4 :: some (.int x) :: ls) (.int x :: st) h Q) ∧
  (∀ (ls : Lo) (h : Hp) (Q : Option Value → Hp → Prop) (x : Int32), Wp 85 108 (ls) ([.int x]) h Q ↔ Q (some (.int x)) h) := ⟨by intro ls st n sl C Z I L R Q i j x y v; exact e_cpy d85_103 rfl (by decide +kernel),
  by intro ls st h Q l0 l1 l2 l3 l4 x; exact e_iload d85_106 rfl,
  by intros; exact e_rI (p := True) d85_108 rfl⟩
theorem d86_0 : decode (byt 86) 0 = .ok (.iload_n 2, 1) := by decide +kernel
theorem d86_1 : decode (byt 86) 1 = .ok (.iconst 0, 1) := by decide +kernel
theorem d86_2 : decode (byt 86) 2 = .ok (.iconst 3, 1) := by decide +kernel
theorem d86_3 : decode (byt 86) 3 = .ok (.invokestatic 66, 3) := by decide +kernel
theorem d86_6 : decode (byt 86) 6 = .ok (.ifCond .ne 6, 3) := by decide +kernel
theorem d86_9 : decode (byt 86) 9 = .ok (.bipush (-2), 2) := by decide +kernel
theorem d86_11 : decode (byt 86) 11 = .ok (.ireturn, 1) := by decide +kernel
theorem d86_12 : decode (byt 86) 12 = .ok (.aload_n 0, 1) := by decide +kernel
theorem d86_13 : decode (byt 86) 13 = .ok (.iload_n 1, 1) := by decide +kernel
theorem d86_14 : decode (byt 86) 14 = .ok (.invokevirtual 84, 3) := by decide +kernel
theorem d86_17 : decode (byt 86) 17 = .ok (.astore_n 3, 1) := by decide +kernel
theorem d86_18 : decode (byt 86) 18 = .ok (.aload_n 3, 1) := by decide +kernel
theorem d86_19 : decode (byt 86) 19 = .ok (.ifnonnull 6, 3) := by decide +kernel
theorem d86_22 : decode (byt 86) 22 = .ok (.bipush (-11), 2) := by decide +kernel
theorem d86_24 : decode (byt 86) 24 = .ok (.ireturn, 1) := by decide +kernel
theorem d86_25 : decode (byt 86) 25 = .ok (.aload_n 3, 1) := by decide +kernel
theorem d86_26 : decode (byt 86) 26 = .ok (.iload_n 2, 1) := by decide +kernel
theorem d86_27 : decode (byt 86) 27 = .ok (.invokestatic 271, 3) := by decide +kernel
theorem d86_30 : decode (byt 86) 30 = .ok (.ifCond .eq 10, 3) := by decide +kernel
theorem d86_33 : decode (byt 86) 33 = .ok (.aload_n 3, 1) := by decide +kernel
theorem d86_34 : decode (byt 86) 34 = .ok (.getfield 106, 3) := by decide +kernel
theorem d86_37 : decode (byt 86) 37 = .ok (.goto 5, 3) := by decide +kernel
theorem d86_40 : decode (byt 86) 40 = .ok (.bipush (-13), 2) := by decide +kernel
theorem d86_42 : decode (byt 86) 42 = .ok (.ireturn, 1) := by decide +kernel
set_option maxRecDepth 20000 in
theorem S86_0 : (∀ (ls : Lo) (st : List Value) (h : Hp) (Q : Option Value → Hp → Prop) (l0 l1 : Option Value) (x : Int32), Wp 86 0 (l0 :: l1 :: some (.int x) :: ls) (st) h Q ↔ Wp 86 1 (l0 :: l1 :: some (.int x) :: ls) (.int x :: st) h Q) ∧
  (∀ (ls : Lo) (st : List Value) (h : Hp) (Q : Option Value → Hp → Prop), Wp 86 1 (ls) (st) h Q ↔ Wp 86 2 (ls) (.int (0) :: st) h Q) ∧
  (∀ (ls : Lo) (st : List Value) (h : Hp) (Q : Option Value → Hp → Prop), Wp 86 2 (ls) (st) h Q ↔ Wp 86 3 (ls) (.int (3) :: st) h Q) ∧
  (∀ (ls : Lo) (st : List Value) (h : Hp) (Q : Option Value → Hp → Prop) (x0 : Int32) (x1 : Int32) (x2 : Int32), Wp 86 3 (ls) (.int x2 :: .int x1 :: .int x0 :: st) h Q ↔ (wsum st ≤ 8 ∧ Call 87 [some (.int x0), some (.int x1), some (.int x2)] h 86 6 ls st Q)) ∧
  (∀ (ls : Lo) (st : List Value) (h : Hp) (Q : Option Value → Hp → Prop) (x : Int32), Wp 86 6 (ls) (.int x :: st) h Q ↔ Br 86 12 9 ls st h Q (¬ x = 0)) ∧
  (∀ (ls : Lo) (st : List Value) (h : Hp) (Q : Option Value → Hp → Prop), Wp 86 9 (ls) (st) h Q ↔ Wp 86 11 (ls) (.int (-2) :: st) h Q) ∧
  (∀ (ls : Lo) (h : Hp) (Q : Option Value → Hp → Prop) (x : Int32), Wp 86 11 (ls) ([.int x]) h Q ↔ Q (some (.int x)) h) ∧
  (∀ (ls : Lo) (st : List Value) (h : Hp) (Q : Option Value → Hp → Prop)  (i : Nat), Wp 86 12 (some (.ref i) :: ls) (st) h Q ↔ Wp 86 13 (some (.ref i) :: ls) (.ref i :: st) h Q) ∧
  (∀ (ls : Lo) (st : List Value) (h : Hp) (Q : Option Value → Hp → Prop) (l0 : Option Value) (x : Int32), Wp 86 13 (l0 :: some (.int x) :: ls) (st) h Q ↔ Wp 86 14 (l0 :: some (.int x) :: ls) (.int x :: st) h Q) ∧
  (∀ (ls : Lo) (st : List Value) (n sl : Nat) (C Z : Nat → Nat) (I : Nat → Nat → Int32) (L : Nat → Nat → Int64) (R : Nat → Nat → Nat) (Q : Option Value → Hp → Prop) (x0 : Int32) (i : Nat), C i = 10 → (Wp 86 14 (ls) (.int x0 :: .ref i :: st) (n, sl, C, Z, I, L, R) Q ↔ (wsum st ≤ 8 ∧ Call 92 [some (.ref i), some (.int x0)] (n, sl, C, Z, I, L, R) 86 17 ls st Q))) ∧
  (∀ (ls : Lo) (st : List Value) (h : Hp) (Q : Option Value → Hp → Prop) (l0 l1 l2 l3 : Option Value) (i : Nat), Wp 86 17 (l0 :: l1 :: l2 :: l3 :: ls) (.ref i :: st) h Q ↔ Wp 86 18 (l0 :: l1 :: clr l2 :: some (.ref i) :: ls) (st) h Q) ∧
  (∀ (ls : Lo) (st : List Value) (h : Hp) (Q : Option Value → Hp → Prop) (l0 l1 l2 : Option Value) (i : Nat), Wp 86 18 (l0 :: l1 :: l2 :: some (.ref i) :: ls) (st) h Q ↔ Wp 86 19 (l0 :: l1 :: l2 :: some (.ref i) :: ls) (.ref i :: st) h Q) ∧
  (∀ (ls : Lo) (st : List Value) (h : Hp) (Q : Option Value → Hp → Prop) (i : Nat), Wp 86 19 (ls) (.ref i :: st) h Q ↔ Br 86 25 22 ls st h Q (¬ i = 0)) ∧
  (∀ (ls : Lo) (st : List Value) (h : Hp) (Q : Option Value → Hp → Prop), Wp 86 22 (ls) (st) h Q ↔ Wp 86 24 (ls) (.int (-11) :: st) h Q) ∧
  (∀ (ls : Lo) (h : Hp) (Q : Option Value → Hp → Prop) (x : Int32), Wp 86 24 (ls) ([.int x]) h Q ↔ Q (some (.int x)) h) ∧
  (∀ (ls : Lo) (st : List Value) (h : Hp) (Q : Option Value → Hp → Prop) (l0 l1 l2 : Option Value) (i : Nat), Wp 86 25 (l0 :: l1 :: l2 :: some (.ref i) :: ls) (st) h Q ↔ Wp 86 26 (l0 :: l1 :: l2 :: some (.ref i) :: ls) (.ref i :: st) h Q) ∧
  (∀ (ls : Lo) (st : List Value) (h : Hp) (Q : Option Value → Hp → Prop) (l0 l1 : Option Value) (x : Int32), Wp 86 26 (l0 :: l1 :: some (.int x) :: ls) (st) h Q ↔ Wp 86 27 (l0 :: l1 :: some (.int x) :: ls) (.int x :: st) h Q) ∧
  (∀ (ls : Lo) (st : List Value) (h : Hp) (Q : Option Value → Hp → Prop) (x0 : Nat) (x1 : Int32), Wp 86 27 (ls) (.int x1 :: .ref x0 :: st) h Q ↔ (wsum st ≤ 8 ∧ Call 93 [some (.ref x0), some (.int x1)] h 86 30 ls st Q)) ∧
  (∀ (ls : Lo) (st : List Value) (h : Hp) (Q : Option Value → Hp → Prop) (x : Int32), Wp 86 30 (ls) (.int x :: st) h Q ↔ Br 86 40 33 ls st h Q (x = 0)) ∧
  (∀ (ls : Lo) (st : List Value) (h : Hp) (Q : Option Value → Hp → Prop) (l0 l1 l2 : Option Value) (i : Nat), Wp 86 33 (l0 :: l1 :: l2 :: some (.ref i) :: ls) (st) h Q ↔ Wp 86 34 (l0 :: l1 :: l2 :: some (.ref i) :: ls) (.ref i :: st) h Q) ∧
  (∀ (ls : Lo) (st : List Value) (n sl : Nat) (C Z : Nat → Nat) (I : Nat → Nat → Int32) (L : Nat → Nat → Int64) (R : Nat → Nat → Nat) (Q : Option Value → Hp → Prop) (i : Nat), Wp 86 34 (ls) (.ref i :: st) (n, sl, C, Z, I, L, R) Q ↔ (inG 7 (C i) = true ∧ Wp 86 37 (ls) (.int (I i 1) :: st) (n, sl, C, Z, I, L, R) Q)) ∧
  (∀ (ls : Lo) (st : List Value) (h : Hp) (Q : Option Value → Hp → Prop), Wp 86 37 (ls) (st) h Q ↔ Wp 86 42 (ls) (st) h Q) ∧
  (∀ (ls : Lo) (st : List Value) (h : Hp) (Q : Option Value → Hp → Prop), Wp 86 40 (ls) (st) h Q ↔ Wp 86 42 (ls) (.int (-13) :: st) h Q) ∧
  (∀ (ls : Lo) (h : Hp) (Q : Option Value → Hp → Prop) (x : Int32), Wp 86 42 (ls) ([.int x]) h Q ↔ Q (some (.int x)) h) := ⟨by intro ls st h Q l0 l1 x; exact e_iload_n d86_0 rfl,
  by intro ls st h Q; exact e_iconst d86_1 rfl,
  by intro ls st h Q; exact e_iconst d86_2 rfl,
  by intro ls st h Q x0 x1 x2; exact e_is (k2 := 87) (as := [.int x0, .int x1, .int x2]) d86_3 rfl (by decide) rfl rfl (by decide +kernel) (Nat.le_of_ble_eq_true rfl) rfl,
  by intro ls st h Q x; exact e_if d86_6 (by decide) c_ne,
  by intro ls st h Q; exact e_bipush d86_9 rfl,
  by intros; exact e_rI (p := True) d86_11 rfl,
  by intro ls st h Q i; exact e_aload_n d86_12 rfl,
  by intro ls st h Q l0 x; exact e_iload_n d86_13 rfl,
  by intro ls st n sl C Z I L R Q x0 i hh; exact e_iv (k2 := 92) (c := 10) (as := [.int x0]) d86_14 rfl (by decide) rfl rfl (by decide +kernel) (Nat.le_of_ble_eq_true rfl) rfl hh,
  by intro ls st h Q l0 l1 l2 l3 i; exact e_astore_n d86_17 rfl,
  by intro ls st h Q l0 l1 l2 i; exact e_aload_n d86_18 rfl,
  by intro ls st h Q i; exact e_ifnn d86_19 (by decide),
  by intro ls st h Q; exact e_bipush d86_22 rfl,
  by intros; exact e_rI (p := True) d86_24 rfl,
  by intro ls st h Q l0 l1 l2 i; exact e_aload_n d86_25 rfl,
  by intro ls st h Q l0 l1 x; exact e_iload_n d86_26 rfl,
  by intro ls st h Q x0 x1; exact e_is (k2 := 93) (as := [.ref x0, .int x1]) d86_27 rfl (by decide) rfl rfl (by decide +kernel) (Nat.le_of_ble_eq_true rfl) rfl,
  by intro ls st h Q x; exact e_if d86_30 (by decide) c_eq,
  by intro ls st h Q l0 l1 l2 i; exact e_aload_n d86_33 rfl,
  by intro ls st n sl C Z I L R Q i; exact e_get (g := 7) (s := 1) (ty := 0) d86_34 rfl rfl rfl,
  by intro ls st h Q; exact e_goto d86_37 (by decide),
  by intro ls st h Q; exact e_bipush d86_40 rfl,
  by intros; exact e_rI (p := True) d86_42 rfl⟩
theorem d87_0 : decode (byt 87) 0 = .ok (.iload_n 0, 1) := by decide +kernel
theorem d87_1 : decode (byt 87) 1 = .ok (.iload_n 1, 1) := by decide +kernel
theorem d87_2 : decode (byt 87) 2 = .ok (.if_icmp .lt 12, 3) := by decide +kernel
theorem d87_5 : decode (byt 87) 5 = .ok (.iload_n 0, 1) := by decide +kernel
theorem d87_6 : decode (byt 87) 6 = .ok (.iload_n 2, 1) := by decide +kernel
theorem d87_7 : decode (byt 87) 7 = .ok (.if_icmp .gt 7, 3) := by decide +kernel
theorem d87_10 : decode (byt 87) 10 = .ok (.iconst 1, 1) := by decide +kernel
theorem d87_11 : decode (byt 87) 11 = .ok (.goto 4, 3) := by decide +kernel
theorem d87_14 : decode (byt 87) 14 = .ok (.iconst 0, 1) := by decide +kernel
theorem d87_15 : decode (byt 87) 15 = .ok (.ireturn, 1) := by decide +kernel
set_option maxRecDepth 20000 in
theorem S87_0 : (∀ (ls : Lo) (st : List Value) (h : Hp) (Q : Option Value → Hp → Prop)  (x : Int32), Wp 87 0 (some (.int x) :: ls) (st) h Q ↔ Wp 87 1 (some (.int x) :: ls) (.int x :: st) h Q) ∧
  (∀ (ls : Lo) (st : List Value) (h : Hp) (Q : Option Value → Hp → Prop) (l0 : Option Value) (x : Int32), Wp 87 1 (l0 :: some (.int x) :: ls) (st) h Q ↔ Wp 87 2 (l0 :: some (.int x) :: ls) (.int x :: st) h Q) ∧
  (∀ (ls : Lo) (st : List Value) (h : Hp) (Q : Option Value → Hp → Prop) (x y : Int32), Wp 87 2 (ls) (.int y :: .int x :: st) h Q ↔ Br 87 14 5 ls st h Q (x < y)) ∧
  (∀ (ls : Lo) (st : List Value) (h : Hp) (Q : Option Value → Hp → Prop)  (x : Int32), Wp 87 5 (some (.int x) :: ls) (st) h Q ↔ Wp 87 6 (some (.int x) :: ls) (.int x :: st) h Q) ∧
  (∀ (ls : Lo) (st : List Value) (h : Hp) (Q : Option Value → Hp → Prop) (l0 l1 : Option Value) (x : Int32), Wp 87 6 (l0 :: l1 :: some (.int x) :: ls) (st) h Q ↔ Wp 87 7 (l0 :: l1 :: some (.int x) :: ls) (.int x :: st) h Q) ∧
  (∀ (ls : Lo) (st : List Value) (h : Hp) (Q : Option Value → Hp → Prop) (x y : Int32), Wp 87 7 (ls) (.int y :: .int x :: st) h Q ↔ Br 87 14 10 ls st h Q (y < x)) ∧
  (∀ (ls : Lo) (st : List Value) (h : Hp) (Q : Option Value → Hp → Prop), Wp 87 10 (ls) (st) h Q ↔ Wp 87 11 (ls) (.int (1) :: st) h Q) ∧
  (∀ (ls : Lo) (st : List Value) (h : Hp) (Q : Option Value → Hp → Prop), Wp 87 11 (ls) (st) h Q ↔ Wp 87 15 (ls) (st) h Q) ∧
  (∀ (ls : Lo) (st : List Value) (h : Hp) (Q : Option Value → Hp → Prop), Wp 87 14 (ls) (st) h Q ↔ Wp 87 15 (ls) (.int (0) :: st) h Q) ∧
  (∀ (ls : Lo) (h : Hp) (Q : Option Value → Hp → Prop) (x : Int32), Wp 87 15 (ls) ([.int x]) h Q ↔ ((x = 0 ∨ x = 1) ∧ Q (some (.int x)) h)) := ⟨by intro ls st h Q x; exact e_iload_n d87_0 rfl,
  by intro ls st h Q l0 x; exact e_iload_n d87_1 rfl,
  by intro ls st h Q x y; exact e_ic d87_2 (by decide) c_lt,
  by intro ls st h Q x; exact e_iload_n d87_5 rfl,
  by intro ls st h Q l0 l1 x; exact e_iload_n d87_6 rfl,
  by intro ls st h Q x y; exact e_ic d87_7 (by decide) c_gt,
  by intro ls st h Q; exact e_iconst d87_10 rfl,
  by intro ls st h Q; exact e_goto d87_11 (by decide),
  by intro ls st h Q; exact e_iconst d87_14 rfl,
  by intros; exact e_rZ d87_15 rfl⟩
theorem d88_0 : decode (byt 88) 0 = .ok (.iload_n 0, 1) := by decide +kernel
theorem d88_1 : decode (byt 88) 1 = .ok (.iconst 1, 1) := by decide +kernel
theorem d88_2 : decode (byt 88) 2 = .ok (.if_icmp .lt 15, 3) := by decide +kernel
theorem d88_5 : decode (byt 88) 5 = .ok (.iload_n 1, 1) := by decide +kernel
theorem d88_6 : decode (byt 88) 6 = .ok (.iload 4, 2) := by decide +kernel
theorem d88_8 : decode (byt 88) 8 = .ok (.ineg, 1) := by decide +kernel
theorem d88_9 : decode (byt 88) 9 = .ok (.iload 4, 2) := by decide +kernel
theorem d88_11 : decode (byt 88) 11 = .ok (.invokestatic 66, 3) := by decide +kernel
theorem d88_14 : decode (byt 88) 14 = .ok (.ifCond .eq 41, 3) := by decide +kernel
theorem d88_17 : decode (byt 88) 17 = .ok (.iload_n 0, 1) := by decide +kernel
theorem d88_18 : decode (byt 88) 18 = .ok (.iconst 2, 1) := by decide +kernel
theorem d88_19 : decode (byt 88) 19 = .ok (.if_icmp .lt 15, 3) := by decide +kernel
theorem d88_22 : decode (byt 88) 22 = .ok (.iload_n 2, 1) := by decide +kernel
theorem d88_23 : decode (byt 88) 23 = .ok (.iload 4, 2) := by decide +kernel
theorem d88_25 : decode (byt 88) 25 = .ok (.ineg, 1) := by decide +kernel
theorem d88_26 : decode (byt 88) 26 = .ok (.iload 4, 2) := by decide +kernel
theorem d88_28 : decode (byt 88) 28 = .ok (.invokestatic 66, 3) := by decide +kernel
theorem d88_31 : decode (byt 88) 31 = .ok (.ifCond .eq 24, 3) := by decide +kernel
theorem d88_34 : decode (byt 88) 34 = .ok (.iload_n 0, 1) := by decide +kernel
theorem d88_35 : decode (byt 88) 35 = .ok (.iconst 3, 1) := by decide +kernel
theorem d88_36 : decode (byt 88) 36 = .ok (.if_icmp .lt 15, 3) := by decide +kernel
theorem d88_39 : decode (byt 88) 39 = .ok (.iload_n 3, 1) := by decide +kernel
theorem d88_40 : decode (byt 88) 40 = .ok (.iload 4, 2) := by decide +kernel
theorem d88_42 : decode (byt 88) 42 = .ok (.ineg, 1) := by decide +kernel
theorem d88_43 : decode (byt 88) 43 = .ok (.iload 4, 2) := by decide +kernel
theorem d88_45 : decode (byt 88) 45 = .ok (.invokestatic 66, 3) := by decide +kernel
theorem d88_48 : decode (byt 88) 48 = .ok (.ifCond .eq 7, 3) := by decide +kernel
theorem d88_51 : decode (byt 88) 51 = .ok (.iconst 1, 1) := by decide +kernel
theorem d88_52 : decode (byt 88) 52 = .ok (.goto 4, 3) := by decide +kernel
theorem d88_55 : decode (byt 88) 55 = .ok (.iconst 0, 1) := by decide +kernel
theorem d88_56 : decode (byt 88) 56 = .ok (.ireturn, 1) := by decide +kernel
set_option maxRecDepth 20000 in
theorem S88_0 : (∀ (ls : Lo) (st : List Value) (h : Hp) (Q : Option Value → Hp → Prop)  (x : Int32), Wp 88 0 (some (.int x) :: ls) (st) h Q ↔ Wp 88 1 (some (.int x) :: ls) (.int x :: st) h Q) ∧
  (∀ (ls : Lo) (st : List Value) (h : Hp) (Q : Option Value → Hp → Prop), Wp 88 1 (ls) (st) h Q ↔ Wp 88 2 (ls) (.int (1) :: st) h Q) ∧
  (∀ (ls : Lo) (st : List Value) (h : Hp) (Q : Option Value → Hp → Prop) (x y : Int32), Wp 88 2 (ls) (.int y :: .int x :: st) h Q ↔ Br 88 17 5 ls st h Q (x < y)) ∧
  (∀ (ls : Lo) (st : List Value) (h : Hp) (Q : Option Value → Hp → Prop) (l0 : Option Value) (x : Int32), Wp 88 5 (l0 :: some (.int x) :: ls) (st) h Q ↔ Wp 88 6 (l0 :: some (.int x) :: ls) (.int x :: st) h Q) ∧
  (∀ (ls : Lo) (st : List Value) (h : Hp) (Q : Option Value → Hp → Prop) (l0 l1 l2 l3 : Option Value) (x : Int32), Wp 88 6 (l0 :: l1 :: l2 :: l3 :: some (.int x) :: ls) (st) h Q ↔ Wp 88 8 (l0 :: l1 :: l2 :: l3 :: some (.int x) :: ls) (.int x :: st) h Q) ∧
  (∀ (ls : Lo) (st : List Value) (h : Hp) (Q : Option Value → Hp → Prop) (x : Int32), Wp 88 8 (ls) (.int x :: st) h Q ↔ Wp 88 9 (ls) (.int (-x) :: st) h Q) ∧
  (∀ (ls : Lo) (st : List Value) (h : Hp) (Q : Option Value → Hp → Prop) (l0 l1 l2 l3 : Option Value) (x : Int32), Wp 88 9 (l0 :: l1 :: l2 :: l3 :: some (.int x) :: ls) (st) h Q ↔ Wp 88 11 (l0 :: l1 :: l2 :: l3 :: some (.int x) :: ls) (.int x :: st) h Q) ∧
  (∀ (ls : Lo) (st : List Value) (h : Hp) (Q : Option Value → Hp → Prop) (x0 : Int32) (x1 : Int32) (x2 : Int32), Wp 88 11 (ls) (.int x2 :: .int x1 :: .int x0 :: st) h Q ↔ (wsum st ≤ 8 ∧ Call 87 [some (.int x0), some (.int x1), some (.int x2)] h 88 14 ls st Q)) ∧
  (∀ (ls : Lo) (st : List Value) (h : Hp) (Q : Option Value → Hp → Prop) (x : Int32), Wp 88 14 (ls) (.int x :: st) h Q ↔ Br 88 55 17 ls st h Q (x = 0)) ∧
  (∀ (ls : Lo) (st : List Value) (h : Hp) (Q : Option Value → Hp → Prop)  (x : Int32), Wp 88 17 (some (.int x) :: ls) (st) h Q ↔ Wp 88 18 (some (.int x) :: ls) (.int x :: st) h Q) ∧
  (∀ (ls : Lo) (st : List Value) (h : Hp) (Q : Option Value → Hp → Prop), Wp 88 18 (ls) (st) h Q ↔ Wp 88 19 (ls) (.int (2) :: st) h Q) ∧
  (∀ (ls : Lo) (st : List Value) (h : Hp) (Q : Option Value → Hp → Prop) (x y : Int32), Wp 88 19 (ls) (.int y :: .int x :: st) h Q ↔ Br 88 34 22 ls st h Q (x < y)) ∧
  (∀ (ls : Lo) (st : List Value) (h : Hp) (Q : Option Value → Hp → Prop) (l0 l1 : Option Value) (x : Int32), Wp 88 22 (l0 :: l1 :: some (.int x) :: ls) (st) h Q ↔ Wp 88 23 (l0 :: l1 :: some (.int x) :: ls) (.int x :: st) h Q) ∧
  (∀ (ls : Lo) (st : List Value) (h : Hp) (Q : Option Value → Hp → Prop) (l0 l1 l2 l3 : Option Value) (x : Int32), Wp 88 23 (l0 :: l1 :: l2 :: l3 :: some (.int x) :: ls) (st) h Q ↔ Wp 88 25 (l0 :: l1 :: l2 :: l3 :: some (.int x) :: ls) (.int x :: st) h Q) ∧
  (∀ (ls : Lo) (st : List Value) (h : Hp) (Q : Option Value → Hp → Prop) (x : Int32), Wp 88 25 (ls) (.int x :: st) h Q ↔ Wp 88 26 (ls) (.int (-x) :: st) h Q) ∧
  (∀ (ls : Lo) (st : List Value) (h : Hp) (Q : Option Value → Hp → Prop) (l0 l1 l2 l3 : Option Value) (x : Int32), Wp 88 26 (l0 :: l1 :: l2 :: l3 :: some (.int x) :: ls) (st) h Q ↔ Wp 88 28 (l0 :: l1 :: l2 :: l3 :: some (.int x) :: ls) (.int x :: st) h Q) ∧
  (∀ (ls : Lo) (st : List Value) (h : Hp) (Q : Option Value → Hp → Prop) (x0 : Int32) (x1 : Int32) (x2 : Int32), Wp 88 28 (ls) (.int x2 :: .int x1 :: .int x0 :: st) h Q ↔ (wsum st ≤ 8 ∧ Call 87 [some (.int x0), some (.int x1), some (.int x2)] h 88 31 ls st Q)) ∧
  (∀ (ls : Lo) (st : List Value) (h : Hp) (Q : Option Value → Hp → Prop) (x : Int32), Wp 88 31 (ls) (.int x :: st) h Q ↔ Br 88 55 34 ls st h Q (x = 0)) ∧
  (∀ (ls : Lo) (st : List Value) (h : Hp) (Q : Option Value → Hp → Prop)  (x : Int32), Wp 88 34 (some (.int x) :: ls) (st) h Q ↔ Wp 88 35 (some (.int x) :: ls) (.int x :: st) h Q) ∧
  (∀ (ls : Lo) (st : List Value) (h : Hp) (Q : Option Value → Hp → Prop), Wp 88 35 (ls) (st) h Q ↔ Wp 88 36 (ls) (.int (3) :: st) h Q) ∧
  (∀ (ls : Lo) (st : List Value) (h : Hp) (Q : Option Value → Hp → Prop) (x y : Int32), Wp 88 36 (ls) (.int y :: .int x :: st) h Q ↔ Br 88 51 39 ls st h Q (x < y)) ∧
  (∀ (ls : Lo) (st : List Value) (h : Hp) (Q : Option Value → Hp → Prop) (l0 l1 l2 : Option Value) (x : Int32), Wp 88 39 (l0 :: l1 :: l2 :: some (.int x) :: ls) (st) h Q ↔ Wp 88 40 (l0 :: l1 :: l2 :: some (.int x) :: ls) (.int x :: st) h Q) ∧
  (∀ (ls : Lo) (st : List Value) (h : Hp) (Q : Option Value → Hp → Prop) (l0 l1 l2 l3 : Option Value) (x : Int32), Wp 88 40 (l0 :: l1 :: l2 :: l3 :: some (.int x) :: ls) (st) h Q ↔ Wp 88 42 (l0 :: l1 :: l2 :: l3 :: some (.int x) :: ls) (.int x :: st) h Q) ∧
  (∀ (ls : Lo) (st : List Value) (h : Hp) (Q : Option Value → Hp → Prop) (x : Int32), Wp 88 42 (ls) (.int x :: st) h Q ↔ Wp 88 43 (ls) (.int (-x) :: st) h Q) ∧
  (∀ (ls : Lo) (st : List Value) (h : Hp) (Q : Option Value → Hp → Prop) (l0 l1 l2 l3 : Option Value) (x : Int32), Wp 88 43 (l0 :: l1 :: l2 :: l3 :: some (.int x) :: ls) (st) h Q ↔ Wp 88 45 (l0 :: l1 :: l2 :: l3 :: some (.int x) :: ls) (.int x :: st) h Q) := ⟨by intro ls st h Q x; exact e_iload_n d88_0 rfl,
  by intro ls st h Q; exact e_iconst d88_1 rfl,
  by intro ls st h Q x y; exact e_ic d88_2 (by decide) c_lt,
  by intro ls st h Q l0 x; exact e_iload_n d88_5 rfl,
  by intro ls st h Q l0 l1 l2 l3 x; exact e_iload d88_6 rfl,
  by intro ls st h Q x; exact e_ineg d88_8,
  by intro ls st h Q l0 l1 l2 l3 x; exact e_iload d88_9 rfl,
  by intro ls st h Q x0 x1 x2; exact e_is (k2 := 87) (as := [.int x0, .int x1, .int x2]) d88_11 rfl (by decide) rfl rfl (by decide +kernel) (Nat.le_of_ble_eq_true rfl) rfl,
  by intro ls st h Q x; exact e_if d88_14 (by decide) c_eq,
  by intro ls st h Q x; exact e_iload_n d88_17 rfl,
  by intro ls st h Q; exact e_iconst d88_18 rfl,
  by intro ls st h Q x y; exact e_ic d88_19 (by decide) c_lt,
  by intro ls st h Q l0 l1 x; exact e_iload_n d88_22 rfl,
  by intro ls st h Q l0 l1 l2 l3 x; exact e_iload d88_23 rfl,
  by intro ls st h Q x; exact e_ineg d88_25,
  by intro ls st h Q l0 l1 l2 l3 x; exact e_iload d88_26 rfl,
  by intro ls st h Q x0 x1 x2; exact e_is (k2 := 87) (as := [.int x0, .int x1, .int x2]) d88_28 rfl (by decide) rfl rfl (by decide +kernel) (Nat.le_of_ble_eq_true rfl) rfl,
  by intro ls st h Q x; exact e_if d88_31 (by decide) c_eq,
  by intro ls st h Q x; exact e_iload_n d88_34 rfl,
  by intro ls st h Q; exact e_iconst d88_35 rfl,
  by intro ls st h Q x y; exact e_ic d88_36 (by decide) c_lt,
  by intro ls st h Q l0 l1 l2 x; exact e_iload_n d88_39 rfl,
  by intro ls st h Q l0 l1 l2 l3 x; exact e_iload d88_40 rfl,
  by intro ls st h Q x; exact e_ineg d88_42,
  by intro ls st h Q l0 l1 l2 l3 x; exact e_iload d88_43 rfl⟩
set_option maxRecDepth 20000 in
theorem S88_1 : (∀ (ls : Lo) (st : List Value) (h : Hp) (Q : Option Value → Hp → Prop) (x0 : Int32) (x1 : Int32) (x2 : Int32), Wp 88 45 (ls) (.int x2 :: .int x1 :: .int x0 :: st) h Q ↔ (wsum st ≤ 8 ∧ Call 87 [some (.int x0), some (.int x1), some (.int x2)] h 88 48 ls st Q)) ∧
  (∀ (ls : Lo) (st : List Value) (h : Hp) (Q : Option Value → Hp → Prop) (x : Int32), Wp 88 48 (ls) (.int x :: st) h Q ↔ Br 88 55 51 ls st h Q (x = 0)) ∧
  (∀ (ls : Lo) (st : List Value) (h : Hp) (Q : Option Value → Hp → Prop), Wp 88 51 (ls) (st) h Q ↔ Wp 88 52 (ls) (.int (1) :: st) h Q) ∧
  (∀ (ls : Lo) (st : List Value) (h : Hp) (Q : Option Value → Hp → Prop), Wp 88 52 (ls) (st) h Q ↔ Wp 88 56 (ls) (st) h Q) ∧
  (∀ (ls : Lo) (st : List Value) (h : Hp) (Q : Option Value → Hp → Prop), Wp 88 55 (ls) (st) h Q ↔ Wp 88 56 (ls) (.int (0) :: st) h Q) ∧
  (∀ (ls : Lo) (h : Hp) (Q : Option Value → Hp → Prop) (x : Int32), Wp 88 56 (ls) ([.int x]) h Q ↔ ((x = 0 ∨ x = 1) ∧ Q (some (.int x)) h)) := ⟨by intro ls st h Q x0 x1 x2; exact e_is (k2 := 87) (as := [.int x0, .int x1, .int x2]) d88_45 rfl (by decide) rfl rfl (by decide +kernel) (Nat.le_of_ble_eq_true rfl) rfl,
  by intro ls st h Q x; exact e_if d88_48 (by decide) c_eq,
  by intro ls st h Q; exact e_iconst d88_51 rfl,
  by intro ls st h Q; exact e_goto d88_52 (by decide),
  by intro ls st h Q; exact e_iconst d88_55 rfl,
  by intros; exact e_rZ d88_56 rfl⟩
theorem d89_0 : decode (byt 89) 0 = .ok (.lconst 1, 1) := by decide +kernel
theorem d89_1 : decode (byt 89) 1 = .ok (.lstore_n 2, 1) := by decide +kernel
theorem d89_2 : decode (byt 89) 2 = .ok (.iconst 0, 1) := by decide +kernel
theorem d89_3 : decode (byt 89) 3 = .ok (.istore 4, 2) := by decide +kernel
theorem d89_5 : decode (byt 89) 5 = .ok (.iload 4, 2) := by decide +kernel
theorem d89_7 : decode (byt 89) 7 = .ok (.iload_n 1, 1) := by decide +kernel
theorem d89_8 : decode (byt 89) 8 = .ok (.if_icmp .ge 14, 3) := by decide +kernel
theorem d89_11 : decode (byt 89) 11 = .ok (.lload_n 2, 1) := by decide +kernel
theorem d89_12 : decode (byt 89) 12 = .ok (.iload_n 0, 1) := by decide +kernel
theorem d89_13 : decode (byt 89) 13 = .ok (.i2l, 1) := by decide +kernel
theorem d89_14 : decode (byt 89) 14 = .ok (.lmul, 1) := by decide +kernel
theorem d89_15 : decode (byt 89) 15 = .ok (.lstore_n 2, 1) := by decide +kernel
theorem d89_16 : decode (byt 89) 16 = .ok (.iinc 4 1, 3) := by decide +kernel
theorem d89_19 : decode (byt 89) 19 = .ok (.goto (-14), 3) := by decide +kernel
theorem d89_22 : decode (byt 89) 22 = .ok (.lload_n 2, 1) := by decide +kernel
theorem d89_23 : decode (byt 89) 23 = .ok (.lreturn, 1) := by decide +kernel
set_option maxRecDepth 20000 in
theorem S89_0 : (∀ (ls : Lo) (st : List Value) (h : Hp) (Q : Option Value → Hp → Prop), Wp 89 0 (ls) (st) h Q ↔ Wp 89 1 (ls) (.long 1 :: st) h Q) ∧
  (∀ (ls : Lo) (st : List Value) (h : Hp) (Q : Option Value → Hp → Prop) (l0 l1 l2 l3 : Option Value) (a : Int64), Wp 89 1 (l0 :: l1 :: l2 :: l3 :: ls) (.long a :: st) h Q ↔ Wp 89 2 (l0 :: clr l1 :: some (.long a) :: none :: ls) (st) h Q) ∧
  (∀ (ls : Lo) (st : List Value) (h : Hp) (Q : Option Value → Hp → Prop), Wp 89 2 (ls) (st) h Q ↔ Wp 89 3 (ls) (.int (0) :: st) h Q) ∧
  (∀ (ls : Lo) (st : List Value) (h : Hp) (Q : Option Value → Hp → Prop) (l0 l1 l2 l3 l4 : Option Value) (x : Int32), Wp 89 3 (l0 :: l1 :: l2 :: l3 :: l4 :: ls) (.int x :: st) h Q ↔ Wp 89 5 (l0 :: l1 :: l2 :: clr l3 :: some (.int x) :: ls) (st) h Q) ∧
  (∀ (ls : Lo) (st : List Value) (h : Hp) (Q : Option Value → Hp → Prop) (l0 l1 l2 l3 : Option Value) (x : Int32), Wp 89 5 (l0 :: l1 :: l2 :: l3 :: some (.int x) :: ls) (st) h Q ↔ Wp 89 7 (l0 :: l1 :: l2 :: l3 :: some (.int x) :: ls) (.int x :: st) h Q) ∧
  (∀ (ls : Lo) (st : List Value) (h : Hp) (Q : Option Value → Hp → Prop) (l0 : Option Value) (x : Int32), Wp 89 7 (l0 :: some (.int x) :: ls) (st) h Q ↔ Wp 89 8 (l0 :: some (.int x) :: ls) (.int x :: st) h Q) ∧
  (∀ (ls : Lo) (st : List Value) (h : Hp) (Q : Option Value → Hp → Prop) (x y : Int32), Wp 89 8 (ls) (.int y :: .int x :: st) h Q ↔ Br 89 22 11 ls st h Q (y ≤ x)) ∧
  (∀ (ls : Lo) (st : List Value) (h : Hp) (Q : Option Value → Hp → Prop) (l0 l1 : Option Value) (a : Int64), Wp 89 11 (l0 :: l1 :: some (.long a) :: ls) (st) h Q ↔ Wp 89 12 (l0 :: l1 :: some (.long a) :: ls) (.long a :: st) h Q) ∧
  (∀ (ls : Lo) (st : List Value) (h : Hp) (Q : Option Value → Hp → Prop)  (x : Int32), Wp 89 12 (some (.int x) :: ls) (st) h Q ↔ Wp 89 13 (some (.int x) :: ls) (.int x :: st) h Q) ∧
  (∀ (ls : Lo) (st : List Value) (h : Hp) (Q : Option Value → Hp → Prop) (x : Int32), Wp 89 13 (ls) (.int x :: st) h Q ↔ Wp 89 14 (ls) (.long x.toInt64 :: st) h Q) ∧
  (∀ (ls : Lo) (st : List Value) (h : Hp) (Q : Option Value → Hp → Prop) (a b : Int64), Wp 89 14 (ls) (.long b :: .long a :: st) h Q ↔ Wp 89 15 (ls) (.long (a * b) :: st) h Q) ∧
  (∀ (ls : Lo) (st : List Value) (h : Hp) (Q : Option Value → Hp → Prop) (l0 l1 l2 l3 : Option Value) (a : Int64), Wp 89 15 (l0 :: l1 :: l2 :: l3 :: ls) (.long a :: st) h Q ↔ Wp 89 16 (l0 :: clr l1 :: some (.long a) :: none :: ls) (st) h Q) ∧
  (∀ (ls : Lo) (st : List Value) (h : Hp) (Q : Option Value → Hp → Prop) (l0 l1 l2 l3 : Option Value) (x : Int32), Wp 89 16 (l0 :: l1 :: l2 :: l3 :: some (.int x) :: ls) (st) h Q ↔ Wp 89 19 (l0 :: l1 :: l2 :: clr l3 :: some (.int (x + (1))) :: ls) (st) h Q) ∧
  (∀ (ls : Lo) (st : List Value) (h : Hp) (Q : Option Value → Hp → Prop), Wp 89 19 (ls) (st) h Q ↔ Wp 89 5 (ls) (st) h Q) ∧
  (∀ (ls : Lo) (st : List Value) (h : Hp) (Q : Option Value → Hp → Prop) (l0 l1 : Option Value) (a : Int64), Wp 89 22 (l0 :: l1 :: some (.long a) :: ls) (st) h Q ↔ Wp 89 23 (l0 :: l1 :: some (.long a) :: ls) (.long a :: st) h Q) ∧
  (∀ (ls : Lo) (h : Hp) (Q : Option Value → Hp → Prop) (a : Int64), Wp 89 23 (ls) ([.long a]) h Q ↔ Q (some (.long a)) h) := ⟨by intro ls st h Q; exact e_lconst d89_0 rfl,
  by intro ls st h Q l0 l1 l2 l3 a; exact e_lstore_n d89_1 rfl,
  by intro ls st h Q; exact e_iconst d89_2 rfl,
  by intro ls st h Q l0 l1 l2 l3 l4 x; exact e_istore d89_3 rfl,
  by intro ls st h Q l0 l1 l2 l3 x; exact e_iload d89_5 rfl,
  by intro ls st h Q l0 x; exact e_iload_n d89_7 rfl,
  by intro ls st h Q x y; exact e_ic d89_8 (by decide) c_ge,
  by intro ls st h Q l0 l1 a; exact e_lload_n d89_11 rfl,
  by intro ls st h Q x; exact e_iload_n d89_12 rfl,
  by intro ls st h Q x; exact e_i2l d89_13,
  by intro ls st h Q a b; exact e_lmul d89_14,
  by intro ls st h Q l0 l1 l2 l3 a; exact e_lstore_n d89_15 rfl,
  by intro ls st h Q l0 l1 l2 l3 x; exact e_iinc d89_16 rfl rfl rfl,
  by intro ls st h Q; exact e_goto d89_19 (by decide),
  by intro ls st h Q l0 l1 a; exact e_lload_n d89_22 rfl,
  by intros; exact e_rL d89_23 rfl⟩
theorem d90_0 : decode (byt 90) 0 = .ok (.iload_n 0, 1) := by decide +kernel
theorem d90_1 : decode (byt 90) 1 = .ok (.iconst 0, 1) := by decide +kernel
theorem d90_2 : decode (byt 90) 2 = .ok (.iconst 3, 1) := by decide +kernel
theorem d90_3 : decode (byt 90) 3 = .ok (.invokestatic 66, 3) := by decide +kernel
theorem d90_6 : decode (byt 90) 6 = .ok (.ireturn, 1) := by decide +kernel
set_option maxRecDepth 20000 in
theorem S90_0 : (∀ (ls : Lo) (st : List Value) (h : Hp) (Q : Option Value → Hp → Prop)  (x : Int32), Wp 90 0 (some (.int x) :: ls) (st) h Q ↔ Wp 90 1 (some (.int x) :: ls) (.int x :: st) h Q) ∧
  (∀ (ls : Lo) (st : List Value) (h : Hp) (Q : Option Value → Hp → Prop), Wp 90 1 (ls) (st) h Q ↔ Wp 90 2 (ls) (.int (0) :: st) h Q) ∧
  (∀ (ls : Lo) (st : List Value) (h : Hp) (Q : Option Value → Hp → Prop), Wp 90 2 (ls) (st) h Q ↔ Wp 90 3 (ls) (.int (3) :: st) h Q) ∧
  (∀ (ls : Lo) (st : List Value) (h : Hp) (Q : Option Value → Hp → Prop) (x0 : Int32) (x1 : Int32) (x2 : Int32), Wp 90 3 (ls) (.int x2 :: .int x1 :: .int x0 :: st) h Q ↔ (wsum st ≤ 8 ∧ Call 87 [some (.int x0), some (.int x1), some (.int x2)] h 90 6 ls st Q)) ∧
  (∀ (ls : Lo) (h : Hp) (Q : Option Value → Hp → Prop) (x : Int32), Wp 90 6 (ls) ([.int x]) h Q ↔ ((x = 0 ∨ x = 1) ∧ Q (some (.int x)) h)) := ⟨by intro ls st h Q x; exact e_iload_n d90_0 rfl,
  by intro ls st h Q; exact e_iconst d90_1 rfl,
  by intro ls st h Q; exact e_iconst d90_2 rfl,
  by intro ls st h Q x0 x1 x2; exact e_is (k2 := 87) (as := [.int x0, .int x1, .int x2]) d90_3 rfl (by decide) rfl rfl (by decide +kernel) (Nat.le_of_ble_eq_true rfl) rfl,
  by intros; exact e_rZ d90_6 rfl⟩
theorem d91_0 : decode (byt 91) 0 = .ok (.aload_n 0, 1) := by decide +kernel
theorem d91_1 : decode (byt 91) 1 = .ok (.getfield 15, 3) := by decide +kernel
theorem d91_4 : decode (byt 91) 4 = .ok (.bipush 12, 2) := by decide +kernel
theorem d91_6 : decode (byt 91) 6 = .ok (.if_icmp .lt 7, 3) := by decide +kernel
theorem d91_9 : decode (byt 91) 9 = .ok (.iconst 1, 1) := by decide +kernel
theorem d91_10 : decode (byt 91) 10 = .ok (.goto 4, 3) := by decide +kernel
theorem d91_13 : decode (byt 91) 13 = .ok (.iconst 0, 1) := by decide +kernel
theorem d91_14 : decode (byt 91) 14 = .ok (.ireturn, 1) := by decide +kernel
set_option maxRecDepth 20000 in
theorem S91_0 : (∀ (ls : Lo) (st : List Value) (h : Hp) (Q : Option Value → Hp → Prop)  (i : Nat), Wp 91 0 (some (.ref i) :: ls) (st) h Q ↔ Wp 91 1 (some (.ref i) :: ls) (.ref i :: st) h Q) ∧
  (∀ (ls : Lo) (st : List Value) (n sl : Nat) (C Z : Nat → Nat) (I : Nat → Nat → Int32) (L : Nat → Nat → Int64) (R : Nat → Nat → Nat) (Q : Option Value → Hp → Prop) (i : Nat), Wp 91 1 (ls) (.ref i :: st) (n, sl, C, Z, I, L, R) Q ↔ (C i = 10 ∧ Wp 91 4 (ls) (.int (I i 1) :: st) (n, sl, C, Z, I, L, R) Q)) ∧
  (∀ (ls : Lo) (st : List Value) (h : Hp) (Q : Option Value → Hp → Prop), Wp 91 4 (ls) (st) h Q ↔ Wp 91 6 (ls) (.int (12) :: st) h Q) ∧
  (∀ (ls : Lo) (st : List Value) (h : Hp) (Q : Option Value → Hp → Prop) (x y : Int32), Wp 91 6 (ls) (.int y :: .int x :: st) h Q ↔ Br 91 13 9 ls st h Q (x < y)) ∧
  (∀ (ls : Lo) (st : List Value) (h : Hp) (Q : Option Value → Hp → Prop), Wp 91 9 (ls) (st) h Q ↔ Wp 91 10 (ls) (.int (1) :: st) h Q) ∧
  (∀ (ls : Lo) (st : List Value) (h : Hp) (Q : Option Value → Hp → Prop), Wp 91 10 (ls) (st) h Q ↔ Wp 91 14 (ls) (st) h Q) ∧
  (∀ (ls : Lo) (st : List Value) (h : Hp) (Q : Option Value → Hp → Prop), Wp 91 13 (ls) (st) h Q ↔ Wp 91 14 (ls) (.int (0) :: st) h Q) ∧
  (∀ (ls : Lo) (h : Hp) (Q : Option Value → Hp → Prop) (x : Int32), Wp 91 14 (ls) ([.int x]) h Q ↔ ((x = 0 ∨ x = 1) ∧ Q (some (.int x)) h)) := ⟨by intro ls st h Q i; exact e_aload_n d91_0 rfl,
  by intro ls st n sl C Z I L R Q i; exact e_get (g := 9) (s := 1) (ty := 0) d91_1 rfl rfl (inG_ne (by decide)),
  by intro ls st h Q; exact e_bipush d91_4 rfl,
  by intro ls st h Q x y; exact e_ic d91_6 (by decide) c_lt,
  by intro ls st h Q; exact e_iconst d91_9 rfl,
  by intro ls st h Q; exact e_goto d91_10 (by decide),
  by intro ls st h Q; exact e_iconst d91_13 rfl,
  by intros; exact e_rZ d91_14 rfl⟩
theorem d92_0 : decode (byt 92) 0 = .ok (.iload_n 1, 1) := by decide +kernel
theorem d92_1 : decode (byt 92) 1 = .ok (.iconst 0, 1) := by decide +kernel
theorem d92_2 : decode (byt 92) 2 = .ok (.aload_n 0, 1) := by decide +kernel
theorem d92_3 : decode (byt 92) 3 = .ok (.getfield 15, 3) := by decide +kernel
theorem d92_6 : decode (byt 92) 6 = .ok (.iconst 1, 1) := by decide +kernel
theorem d92_7 : decode (byt 92) 7 = .ok (.isub, 1) := by decide +kernel
theorem d92_8 : decode (byt 92) 8 = .ok (.invokestatic 66, 3) := by decide +kernel
theorem d92_11 : decode (byt 92) 11 = .ok (.ifCond .eq 12, 3) := by decide +kernel
theorem d92_14 : decode (byt 92) 14 = .ok (.aload_n 0, 1) := by decide +kernel
theorem d92_15 : decode (byt 92) 15 = .ok (.getfield 11, 3) := by decide +kernel
theorem d92_18 : decode (byt 92) 18 = .ok (.iload_n 1, 1) := by decide +kernel
theorem d92_19 : decode (byt 92) 19 = .ok (.aaload, 1) := by decide +kernel
theorem d92_20 : decode (byt 92) 20 = .ok (.goto 4, 3) := by decide +kernel
theorem d92_23 : decode (byt 92) 23 = .ok (.aconst_null, 1) := by decide +kernel
theorem d92_24 : decode (byt 92) 24 = .ok (.areturn, 1) := by decide +kernel
set_option maxRecDepth 20000 in
theorem S92_0 : (∀ (ls : Lo) (st : List Value) (h : Hp) (Q : Option Value → Hp → Prop) (l0 : Option Value) (x : Int32), Wp 92 0 (l0 :: some (.int x) :: ls) (st) h Q ↔ Wp 92 1 (l0 :: some (.int x) :: ls) (.int x :: st) h Q) ∧
  (∀ (ls : Lo) (st : List Value) (h : Hp) (Q : Option Value → Hp → Prop), Wp 92 1 (ls) (st) h Q ↔ Wp 92 2 (ls) (.int (0) :: st) h Q) ∧
  (∀ (ls : Lo) (st : List Value) (h : Hp) (Q : Option Value → Hp → Prop)  (i : Nat), Wp 92 2 (some (.ref i) :: ls) (st) h Q ↔ Wp 92 3 (some (.ref i) :: ls) (.ref i :: st) h Q) ∧
  (∀ (ls : Lo) (st : List Value) (n sl : Nat) (C Z : Nat → Nat) (I : Nat → Nat → Int32) (L : Nat → Nat → Int64) (R : Nat → Nat → Nat) (Q : Option Value → Hp → Prop) (i : Nat), Wp 92 3 (ls) (.ref i :: st) (n, sl, C, Z, I, L, R) Q ↔ (C i = 10 ∧ Wp 92 6 (ls) (.int (I i 1) :: st) (n, sl, C, Z, I, L, R) Q)) ∧
  (∀ (ls : Lo) (st : List Value) (h : Hp) (Q : Option Value → Hp → Prop), Wp 92 6 (ls) (st) h Q ↔ Wp 92 7 (ls) (.int (1) :: st) h Q) ∧
  (∀ (ls : Lo) (st : List Value) (h : Hp) (Q : Option Value → Hp → Prop) (x y : Int32), Wp 92 7 (ls) (.int y :: .int x :: st) h Q ↔ Wp 92 8 (ls) (.int (x - y) :: st) h Q) ∧
  (∀ (ls : Lo) (st : List Value) (h : Hp) (Q : Option Value → Hp → Prop) (x0 : Int32) (x1 : Int32) (x2 : Int32), Wp 92 8 (ls) (.int x2 :: .int x1 :: .int x0 :: st) h Q ↔ (wsum st ≤ 8 ∧ Call 87 [some (.int x0), some (.int x1), some (.int x2)] h 92 11 ls st Q)) ∧
  (∀ (ls : Lo) (st : List Value) (h : Hp) (Q : Option Value → Hp → Prop) (x : Int32), Wp 92 11 (ls) (.int x :: st) h Q ↔ Br 92 23 14 ls st h Q (x = 0)) ∧
  (∀ (ls : Lo) (st : List Value) (h : Hp) (Q : Option Value → Hp → Prop)  (i : Nat), Wp 92 14 (some (.ref i) :: ls) (st) h Q ↔ Wp 92 15 (some (.ref i) :: ls) (.ref i :: st) h Q) ∧
  (∀ (ls : Lo) (st : List Value) (n sl : Nat) (C Z : Nat → Nat) (I : Nat → Nat → Int32) (L : Nat → Nat → Int64) (R : Nat → Nat → Nat) (Q : Option Value → Hp → Prop) (i : Nat), Wp 92 15 (ls) (.ref i :: st) (n, sl, C, Z, I, L, R) Q ↔ (C i = 10 ∧ Wp 92 18 (ls) (.ref (R i 0) :: st) (n, sl, C, Z, I, L, R) Q)) ∧
  (∀ (ls : Lo) (st : List Value) (h : Hp) (Q : Option Value → Hp → Prop) (l0 : Option Value) (x : Int32), Wp 92 18 (l0 :: some (.int x) :: ls) (st) h Q ↔ Wp 92 19 (l0 :: some (.int x) :: ls) (.int x :: st) h Q) ∧
  (∀ (ls : Lo) (st : List Value) (n sl : Nat) (C Z : Nat → Nat) (I : Nat → Nat → Int32) (L : Nat → Nat → Int64) (R : Nat → Nat → Nat) (Q : Option Value → Hp → Prop) (i : Nat) (y : Int32), Wp 92 19 (ls) (.int y :: .ref i :: st) (n, sl, C, Z, I, L, R) Q ↔ ((inb y (Z i) = true ∧ (C i = 23 ∨ C i = 24 ∨ C i = 25)) ∧ Wp 92 20 (ls) (.ref (R i (ix y)) :: st) (n, sl, C, Z, I, L, R) Q)) ∧
  (∀ (ls : Lo) (st : List Value) (h : Hp) (Q : Option Value → Hp → Prop), Wp 92 20 (ls) (st) h Q ↔ Wp 92 24 (ls) (st) h Q) ∧
  (∀ (ls : Lo) (st : List Value) (h : Hp) (Q : Option Value → Hp → Prop), Wp 92 23 (ls) (st) h Q ↔ Wp 92 24 (ls) (.ref 0 :: st) h Q) ∧
  (∀ (ls : Lo) (h : Hp) (Q : Option Value → Hp → Prop) (i : Nat), Wp 92 24 (ls) ([.ref i]) h Q ↔ Q (some (.ref i)) h) := ⟨by intro ls st h Q l0 x; exact e_iload_n d92_0 rfl,
  by intro ls st h Q; exact e_iconst d92_1 rfl,
  by intro ls st h Q i; exact e_aload_n d92_2 rfl,
  by intro ls st n sl C Z I L R Q i; exact e_get (g := 9) (s := 1) (ty := 0) d92_3 rfl rfl (inG_ne (by decide)),
  by intro ls st h Q; exact e_iconst d92_6 rfl,
  by intro ls st h Q x y; exact e_isub d92_7,
  by intro ls st h Q x0 x1 x2; exact e_is (k2 := 87) (as := [.int x0, .int x1, .int x2]) d92_8 rfl (by decide) rfl rfl (by decide +kernel) (Nat.le_of_ble_eq_true rfl) rfl,
  by intro ls st h Q x; exact e_if d92_11 (by decide) c_eq,
  by intro ls st h Q i; exact e_aload_n d92_14 rfl,
  by intro ls st n sl C Z I L R Q i; exact e_get (g := 9) (s := 0) (ty := 2) d92_15 rfl rfl (inG_ne (by decide)),
  by intro ls st h Q l0 x; exact e_iload_n d92_18 rfl,
  by intro ls st n sl C Z I L R Q i y; exact e_aald d92_19,
  by intro ls st h Q; exact e_goto d92_20 (by decide),
  by intro ls st h Q; exact e_null d92_23,
  by intros; exact e_rR d92_24 (Or.inl rfl)⟩
theorem d93_0 : decode (byt 93) 0 = .ok (.iload_n 1, 1) := by decide +kernel
theorem d93_1 : decode (byt 93) 1 = .ok (.tableswitch 39 0 2 #[27, 29, 34], 27) := by decide +kernel
theorem d93_28 : decode (byt 93) 28 = .ok (.iconst 1, 1) := by decide +kernel
theorem d93_29 : decode (byt 93) 29 = .ok (.ireturn, 1) := by decide +kernel
theorem d93_30 : decode (byt 93) 30 = .ok (.aload_n 0, 1) := by decide +kernel
theorem d93_31 : decode (byt 93) 31 = .ok (.instanceof 74, 3) := by decide +kernel
theorem d93_34 : decode (byt 93) 34 = .ok (.ireturn, 1) := by decide +kernel
theorem d93_35 : decode (byt 93) 35 = .ok (.aload_n 0, 1) := by decide +kernel
theorem d93_36 : decode (byt 93) 36 = .ok (.instanceof 92, 3) := by decide +kernel
theorem d93_39 : decode (byt 93) 39 = .ok (.ireturn, 1) := by decide +kernel
theorem d93_40 : decode (byt 93) 40 = .ok (.aload_n 0, 1) := by decide +kernel
theorem d93_41 : decode (byt 93) 41 = .ok (.instanceof 129, 3) := by decide +kernel
theorem d93_44 : decode (byt 93) 44 = .ok (.ireturn, 1) := by decide +kernel
set_option maxRecDepth 20000 in
theorem S93_0 : (∀ (ls : Lo) (st : List Value) (h : Hp) (Q : Option Value → Hp → Prop) (l0 : Option Value) (x : Int32), Wp 93 0 (l0 :: some (.int x) :: ls) (st) h Q ↔ Wp 93 1 (l0 :: some (.int x) :: ls) (.int x :: st) h Q) ∧
  (∀ (ls : Lo) (st : List Value) (h : Hp) (Q : Option Value → Hp → Prop) (x : Int32), Wp 93 1 ls (.int x :: st) h Q ↔ Wp 93 (if x = 0 then 28 else if x = 1 then 30 else if x = 2 then 35 else 40) ls st h Q) ∧
  (∀ (ls : Lo) (st : List Value) (h : Hp) (Q : Option Value → Hp → Prop), Wp 93 28 (ls) (st) h Q ↔ Wp 93 29 (ls) (.int (1) :: st) h Q) ∧
  (∀ (ls : Lo) (h : Hp) (Q : Option Value → Hp → Prop) (x : Int32), Wp 93 29 (ls) ([.int x]) h Q ↔ ((x = 0 ∨ x = 1) ∧ Q (some (.int x)) h)) ∧
  (∀ (ls : Lo) (st : List Value) (h : Hp) (Q : Option Value → Hp → Prop)  (i : Nat), Wp 93 30 (some (.ref i) :: ls) (st) h Q ↔ Wp 93 31 (some (.ref i) :: ls) (.ref i :: st) h Q) ∧
  (∀ (ls : Lo) (st : List Value) (n sl : Nat) (C Z : Nat → Nat) (I : Nat → Nat → Int32) (L : Nat → Nat → Int64) (R : Nat → Nat → Nat) (Q : Option Value → Hp → Prop) (i : Nat), Wp 93 31 (ls) (.ref i :: st) (n, sl, C, Z, I, L, R) Q ↔ (inG 7 (C i) = true ∧ Wp 93 34 (ls) (.int (if isa (C i) 1 = true then 1 else 0) :: st) (n, sl, C, Z, I, L, R) Q)) ∧
  (∀ (ls : Lo) (h : Hp) (Q : Option Value → Hp → Prop) (x : Int32), Wp 93 34 (ls) ([.int x]) h Q ↔ ((x = 0 ∨ x = 1) ∧ Q (some (.int x)) h)) ∧
  (∀ (ls : Lo) (st : List Value) (h : Hp) (Q : Option Value → Hp → Prop)  (i : Nat), Wp 93 35 (some (.ref i) :: ls) (st) h Q ↔ Wp 93 36 (some (.ref i) :: ls) (.ref i :: st) h Q) ∧
  (∀ (ls : Lo) (st : List Value) (n sl : Nat) (C Z : Nat → Nat) (I : Nat → Nat → Int32) (L : Nat → Nat → Int64) (R : Nat → Nat → Nat) (Q : Option Value → Hp → Prop) (i : Nat), Wp 93 36 (ls) (.ref i :: st) (n, sl, C, Z, I, L, R) Q ↔ (inG 7 (C i) = true ∧ Wp 93 39 (ls) (.int (if isa (C i) 4 = true then 1 else 0) :: st) (n, sl, C, Z, I, L, R) Q)) ∧
  (∀ (ls : Lo) (h : Hp) (Q : Option Value → Hp → Prop) (x : Int32), Wp 93 39 (ls) ([.int x]) h Q ↔ ((x = 0 ∨ x = 1) ∧ Q (some (.int x)) h)) ∧
  (∀ (ls : Lo) (st : List Value) (h : Hp) (Q : Option Value → Hp → Prop)  (i : Nat), Wp 93 40 (some (.ref i) :: ls) (st) h Q ↔ Wp 93 41 (some (.ref i) :: ls) (.ref i :: st) h Q) ∧
  (∀ (ls : Lo) (st : List Value) (n sl : Nat) (C Z : Nat → Nat) (I : Nat → Nat → Int32) (L : Nat → Nat → Int64) (R : Nat → Nat → Nat) (Q : Option Value → Hp → Prop) (i : Nat), Wp 93 41 (ls) (.ref i :: st) (n, sl, C, Z, I, L, R) Q ↔ (inG 7 (C i) = true ∧ Wp 93 44 (ls) (.int (if isa (C i) 5 = true then 1 else 0) :: st) (n, sl, C, Z, I, L, R) Q)) ∧
  (∀ (ls : Lo) (h : Hp) (Q : Option Value → Hp → Prop) (x : Int32), Wp 93 44 (ls) ([.int x]) h Q ↔ ((x = 0 ∨ x = 1) ∧ Q (some (.int x)) h)) := ⟨by intro ls st h Q l0 x; exact e_iload_n d93_0 rfl,
  by
    intro ls st h Q x
    refine e_ts d93_1 ?_
    by_cases h0 : x = 0
    · subst h0; rfl
    by_cases h1 : x = 1
    · subst h1; rfl
    by_cases h2 : x = 2
    · subst h2; rfl
    rw [if_neg h0, if_neg h1, if_neg h2]
    exact ts_out_jmp (n := 2) (t := 40) (fun j hj => by
      match j, hj with
      | 0, _ => exact h0
      | 1, _ => exact h1
      | 2, _ => exact h2
      ) (by decide) rfl,
  by intro ls st h Q; exact e_iconst d93_28 rfl,
  by intros; exact e_rZ d93_29 rfl,
  by intro ls st h Q i; exact e_aload_n d93_30 rfl,
  by intro ls st n sl C Z I L R Q i; exact e_io (p := 294) (c := 1) d93_31 rfl (by decide),
  by intros; exact e_rZ d93_34 rfl,
  by intro ls st h Q i; exact e_aload_n d93_35 rfl,
  by intro ls st n sl C Z I L R Q i; exact e_io (p := 324) (c := 4) d93_36 rfl (by decide),
  by intros; exact e_rZ d93_39 rfl,
  by intro ls st h Q i; exact e_aload_n d93_40 rfl,
  by intro ls st n sl C Z I L R Q i; exact e_io (p := 384) (c := 5) d93_41 rfl (by decide),
  by intros; exact e_rZ d93_44 rfl⟩
theorem d94_0 : decode (byt 94) 0 = .ok (.aload_n 0, 1) := by decide +kernel
theorem d94_1 : decode (byt 94) 1 = .ok (.ifnull 12, 3) := by decide +kernel
theorem d94_4 : decode (byt 94) 4 = .ok (.iload_n 1, 1) := by decide +kernel
theorem d94_5 : decode (byt 94) 5 = .ok (.iconst 0, 1) := by decide +kernel
theorem d94_6 : decode (byt 94) 6 = .ok (.iconst 3, 1) := by decide +kernel
theorem d94_7 : decode (byt 94) 7 = .ok (.invokestatic 66, 3) := by decide +kernel
theorem d94_10 : decode (byt 94) 10 = .ok (.ifCond .ne 5, 3) := by decide +kernel
theorem d94_13 : decode (byt 94) 13 = .ok (.iconst (-1), 1) := by decide +kernel
theorem d94_14 : decode (byt 94) 14 = .ok (.ireturn, 1) := by decide +kernel
theorem d94_15 : decode (byt 94) 15 = .ok (.iload_n 1, 1) := by decide +kernel
theorem d94_16 : decode (byt 94) 16 = .ok (.iconst 3, 1) := by decide +kernel
theorem d94_17 : decode (byt 94) 17 = .ok (.if_icmp .ne 5, 3) := by decide +kernel
theorem d94_20 : decode (byt 94) 20 = .ok (.iconst 0, 1) := by decide +kernel
theorem d94_21 : decode (byt 94) 21 = .ok (.ireturn, 1) := by decide +kernel
theorem d94_22 : decode (byt 94) 22 = .ok (.iload_n 2, 1) := by decide +kernel
theorem d94_23 : decode (byt 94) 23 = .ok (.iconst 0, 1) := by decide +kernel
theorem d94_24 : decode (byt 94) 24 = .ok (.aload_n 0, 1) := by decide +kernel
theorem d94_25 : decode (byt 94) 25 = .ok (.getfield 106, 3) := by decide +kernel
theorem d94_28 : decode (byt 94) 28 = .ok (.iconst 1, 1) := by decide +kernel
theorem d94_29 : decode (byt 94) 29 = .ok (.isub, 1) := by decide +kernel
theorem d94_30 : decode (byt 94) 30 = .ok (.invokestatic 66, 3) := by decide +kernel
theorem d94_33 : decode (byt 94) 33 = .ok (.ifCond .eq 21, 3) := by decide +kernel
theorem d94_36 : decode (byt 94) 36 = .ok (.iload_n 1, 1) := by decide +kernel
theorem d94_37 : decode (byt 94) 37 = .ok (.ifCond .ne 19, 3) := by decide +kernel
theorem d94_40 : decode (byt 94) 40 = .ok (.iload_n 3, 1) := by decide +kernel
theorem d94_41 : decode (byt 94) 41 = .ok (.iconst 0, 1) := by decide +kernel
theorem d94_42 : decode (byt 94) 42 = .ok (.aload_n 0, 1) := by decide +kernel
theorem d94_43 : decode (byt 94) 43 = .ok (.getfield 106, 3) := by decide +kernel
theorem d94_46 : decode (byt 94) 46 = .ok (.iconst 1, 1) := by decide +kernel
theorem d94_47 : decode (byt 94) 47 = .ok (.isub, 1) := by decide +kernel
theorem d94_48 : decode (byt 94) 48 = .ok (.invokestatic 66, 3) := by decide +kernel
theorem d94_51 : decode (byt 94) 51 = .ok (.ifCond .ne 5, 3) := by decide +kernel
theorem d94_54 : decode (byt 94) 54 = .ok (.iconst (-1), 1) := by decide +kernel
theorem d94_55 : decode (byt 94) 55 = .ok (.ireturn, 1) := by decide +kernel
theorem d94_56 : decode (byt 94) 56 = .ok (.iload_n 1, 1) := by decide +kernel
theorem d94_57 : decode (byt 94) 57 = .ok (.ifCond .ne 11, 3) := by decide +kernel
theorem d94_60 : decode (byt 94) 60 = .ok (.iconst 3, 1) := by decide +kernel
theorem d94_61 : decode (byt 94) 61 = .ok (.iload_n 2, 1) := by decide +kernel
theorem d94_62 : decode (byt 94) 62 = .ok (.imul, 1) := by decide +kernel
theorem d94_63 : decode (byt 94) 63 = .ok (.iload_n 3, 1) := by decide +kernel
theorem d94_64 : decode (byt 94) 64 = .ok (.iadd, 1) := by decide +kernel
theorem d94_65 : decode (byt 94) 65 = .ok (.goto 4, 3) := by decide +kernel
theorem d94_68 : decode (byt 94) 68 = .ok (.iload_n 2, 1) := by decide +kernel
theorem d94_69 : decode (byt 94) 69 = .ok (.ireturn, 1) := by decide +kernel
set_option maxRecDepth 20000 in
theorem S94_0 : (∀ (ls : Lo) (st : List Value) (h : Hp) (Q : Option Value → Hp → Prop)  (i : Nat), Wp 94 0 (some (.ref i) :: ls) (st) h Q ↔ Wp 94 1 (some (.ref i) :: ls) (.ref i :: st) h Q) ∧
  (∀ (ls : Lo) (st : List Value) (h : Hp) (Q : Option Value → Hp → Prop) (i : Nat), Wp 94 1 (ls) (.ref i :: st) h Q ↔ Br 94 13 4 ls st h Q (i = 0)) ∧
  (∀ (ls : Lo) (st : List Value) (h : Hp) (Q : Option Value → Hp → Prop) (l0 : Option Value) (x : Int32), Wp 94 4 (l0 :: some (.int x) :: ls) (st) h Q ↔ Wp 94 5 (l0 :: some (.int x) :: ls) (.int x :: st) h Q) ∧
  (∀ (ls : Lo) (st : List Value) (h : Hp) (Q : Option Value → Hp → Prop), Wp 94 5 (ls) (st) h Q ↔ Wp 94 6 (ls) (.int (0) :: st) h Q) ∧
  (∀ (ls : Lo) (st : List Value) (h : Hp) (Q : Option Value → Hp → Prop), Wp 94 6 (ls) (st) h Q ↔ Wp 94 7 (ls) (.int (3) :: st) h Q) ∧
  (∀ (ls : Lo) (st : List Value) (h : Hp) (Q : Option Value → Hp → Prop) (x0 : Int32) (x1 : Int32) (x2 : Int32), Wp 94 7 (ls) (.int x2 :: .int x1 :: .int x0 :: st) h Q ↔ (wsum st ≤ 8 ∧ Call 87 [some (.int x0), some (.int x1), some (.int x2)] h 94 10 ls st Q)) ∧
  (∀ (ls : Lo) (st : List Value) (h : Hp) (Q : Option Value → Hp → Prop) (x : Int32), Wp 94 10 (ls) (.int x :: st) h Q ↔ Br 94 15 13 ls st h Q (¬ x = 0)) ∧
  (∀ (ls : Lo) (st : List Value) (h : Hp) (Q : Option Value → Hp → Prop), Wp 94 13 (ls) (st) h Q ↔ Wp 94 14 (ls) (.int (-1) :: st) h Q) ∧
  (∀ (ls : Lo) (h : Hp) (Q : Option Value → Hp → Prop) (x : Int32), Wp 94 14 (ls) ([.int x]) h Q ↔ Q (some (.int x)) h) ∧
  (∀ (ls : Lo) (st : List Value) (h : Hp) (Q : Option Value → Hp → Prop) (l0 : Option Value) (x : Int32), Wp 94 15 (l0 :: some (.int x) :: ls) (st) h Q ↔ Wp 94 16 (l0 :: some (.int x) :: ls) (.int x :: st) h Q) ∧
  (∀ (ls : Lo) (st : List Value) (h : Hp) (Q : Option Value → Hp → Prop), Wp 94 16 (ls) (st) h Q ↔ Wp 94 17 (ls) (.int (3) :: st) h Q) ∧
  (∀ (ls : Lo) (st : List Value) (h : Hp) (Q : Option Value → Hp → Prop) (x y : Int32), Wp 94 17 (ls) (.int y :: .int x :: st) h Q ↔ Br 94 22 20 ls st h Q (¬ x = y)) ∧
  (∀ (ls : Lo) (st : List Value) (h : Hp) (Q : Option Value → Hp → Prop), Wp 94 20 (ls) (st) h Q ↔ Wp 94 21 (ls) (.int (0) :: st) h Q) ∧
  (∀ (ls : Lo) (h : Hp) (Q : Option Value → Hp → Prop) (x : Int32), Wp 94 21 (ls) ([.int x]) h Q ↔ Q (some (.int x)) h) ∧
  (∀ (ls : Lo) (st : List Value) (h : Hp) (Q : Option Value → Hp → Prop) (l0 l1 : Option Value) (x : Int32), Wp 94 22 (l0 :: l1 :: some (.int x) :: ls) (st) h Q ↔ Wp 94 23 (l0 :: l1 :: some (.int x) :: ls) (.int x :: st) h Q) ∧
  (∀ (ls : Lo) (st : List Value) (h : Hp) (Q : Option Value → Hp → Prop), Wp 94 23 (ls) (st) h Q ↔ Wp 94 24 (ls) (.int (0) :: st) h Q) ∧
  (∀ (ls : Lo) (st : List Value) (h : Hp) (Q : Option Value → Hp → Prop)  (i : Nat), Wp 94 24 (some (.ref i) :: ls) (st) h Q ↔ Wp 94 25 (some (.ref i) :: ls) (.ref i :: st) h Q) ∧
  (∀ (ls : Lo) (st : List Value) (n sl : Nat) (C Z : Nat → Nat) (I : Nat → Nat → Int32) (L : Nat → Nat → Int64) (R : Nat → Nat → Nat) (Q : Option Value → Hp → Prop) (i : Nat), Wp 94 25 (ls) (.ref i :: st) (n, sl, C, Z, I, L, R) Q ↔ (inG 7 (C i) = true ∧ Wp 94 28 (ls) (.int (I i 1) :: st) (n, sl, C, Z, I, L, R) Q)) ∧
  (∀ (ls : Lo) (st : List Value) (h : Hp) (Q : Option Value → Hp → Prop), Wp 94 28 (ls) (st) h Q ↔ Wp 94 29 (ls) (.int (1) :: st) h Q) ∧
  (∀ (ls : Lo) (st : List Value) (h : Hp) (Q : Option Value → Hp → Prop) (x y : Int32), Wp 94 29 (ls) (.int y :: .int x :: st) h Q ↔ Wp 94 30 (ls) (.int (x - y) :: st) h Q) ∧
  (∀ (ls : Lo) (st : List Value) (h : Hp) (Q : Option Value → Hp → Prop) (x0 : Int32) (x1 : Int32) (x2 : Int32), Wp 94 30 (ls) (.int x2 :: .int x1 :: .int x0 :: st) h Q ↔ (wsum st ≤ 8 ∧ Call 87 [some (.int x0), some (.int x1), some (.int x2)] h 94 33 ls st Q)) ∧
  (∀ (ls : Lo) (st : List Value) (h : Hp) (Q : Option Value → Hp → Prop) (x : Int32), Wp 94 33 (ls) (.int x :: st) h Q ↔ Br 94 54 36 ls st h Q (x = 0)) ∧
  (∀ (ls : Lo) (st : List Value) (h : Hp) (Q : Option Value → Hp → Prop) (l0 : Option Value) (x : Int32), Wp 94 36 (l0 :: some (.int x) :: ls) (st) h Q ↔ Wp 94 37 (l0 :: some (.int x) :: ls) (.int x :: st) h Q) ∧
  (∀ (ls : Lo) (st : List Value) (h : Hp) (Q : Option Value → Hp → Prop) (x : Int32), Wp 94 37 (ls) (.int x :: st) h Q ↔ Br 94 56 40 ls st h Q (¬ x = 0)) ∧
  (∀ (ls : Lo) (st : List Value) (h : Hp) (Q : Option Value → Hp → Prop) (l0 l1 l2 : Option Value) (x : Int32), Wp 94 40 (l0 :: l1 :: l2 :: some (.int x) :: ls) (st) h Q ↔ Wp 94 41 (l0 :: l1 :: l2 :: some (.int x) :: ls) (.int x :: st) h Q) := ⟨by intro ls st h Q i; exact e_aload_n d94_0 rfl,
  by intro ls st h Q i; exact e_ifnull d94_1 (by decide),
  by intro ls st h Q l0 x; exact e_iload_n d94_4 rfl,
  by intro ls st h Q; exact e_iconst d94_5 rfl,
  by intro ls st h Q; exact e_iconst d94_6 rfl,
  by intro ls st h Q x0 x1 x2; exact e_is (k2 := 87) (as := [.int x0, .int x1, .int x2]) d94_7 rfl (by decide) rfl rfl (by decide +kernel) (Nat.le_of_ble_eq_true rfl) rfl,
  by intro ls st h Q x; exact e_if d94_10 (by decide) c_ne,
  by intro ls st h Q; exact e_iconst d94_13 rfl,
  by intros; exact e_rI (p := True) d94_14 rfl,
  by intro ls st h Q l0 x; exact e_iload_n d94_15 rfl,
  by intro ls st h Q; exact e_iconst d94_16 rfl,
  by intro ls st h Q x y; exact e_ic d94_17 (by decide) c_ne,
  by intro ls st h Q; exact e_iconst d94_20 rfl,
  by intros; exact e_rI (p := True) d94_21 rfl,
  by intro ls st h Q l0 l1 x; exact e_iload_n d94_22 rfl,
  by intro ls st h Q; exact e_iconst d94_23 rfl,
  by intro ls st h Q i; exact e_aload_n d94_24 rfl,
  by intro ls st n sl C Z I L R Q i; exact e_get (g := 7) (s := 1) (ty := 0) d94_25 rfl rfl rfl,
  by intro ls st h Q; exact e_iconst d94_28 rfl,
  by intro ls st h Q x y; exact e_isub d94_29,
  by intro ls st h Q x0 x1 x2; exact e_is (k2 := 87) (as := [.int x0, .int x1, .int x2]) d94_30 rfl (by decide) rfl rfl (by decide +kernel) (Nat.le_of_ble_eq_true rfl) rfl,
  by intro ls st h Q x; exact e_if d94_33 (by decide) c_eq,
  by intro ls st h Q l0 x; exact e_iload_n d94_36 rfl,
  by intro ls st h Q x; exact e_if d94_37 (by decide) c_ne,
  by intro ls st h Q l0 l1 l2 x; exact e_iload_n d94_40 rfl⟩
set_option maxRecDepth 20000 in
theorem S94_1 : (∀ (ls : Lo) (st : List Value) (h : Hp) (Q : Option Value → Hp → Prop), Wp 94 41 (ls) (st) h Q ↔ Wp 94 42 (ls) (.int (0) :: st) h Q) ∧
  (∀ (ls : Lo) (st : List Value) (h : Hp) (Q : Option Value → Hp → Prop)  (i : Nat), Wp 94 42 (some (.ref i) :: ls) (st) h Q ↔ Wp 94 43 (some (.ref i) :: ls) (.ref i :: st) h Q) ∧
  (∀ (ls : Lo) (st : List Value) (n sl : Nat) (C Z : Nat → Nat) (I : Nat → Nat → Int32) (L : Nat → Nat → Int64) (R : Nat → Nat → Nat) (Q : Option Value → Hp → Prop) (i : Nat), Wp 94 43 (ls) (.ref i :: st) (n, sl, C, Z, I, L, R) Q ↔ (inG 7 (C i) = true ∧ Wp 94 46 (ls) (.int (I i 1) :: st) (n, sl, C, Z, I, L, R) Q)) ∧
  (∀ (ls : Lo) (st : List Value) (h : Hp) (Q : Option Value → Hp → Prop), Wp 94 46 (ls) (st) h Q ↔ Wp 94 47 (ls) (.int (1) :: st) h Q) ∧
  (∀ (ls : Lo) (st : List Value) (h : Hp) (Q : Option Value → Hp → Prop) (x y : Int32), Wp 94 47 (ls) (.int y :: .int x :: st) h Q ↔ Wp 94 48 (ls) (.int (x - y) :: st) h Q) ∧
  (∀ (ls : Lo) (st : List Value) (h : Hp) (Q : Option Value → Hp → Prop) (x0 : Int32) (x1 : Int32) (x2 : Int32), Wp 94 48 (ls) (.int x2 :: .int x1 :: .int x0 :: st) h Q ↔ (wsum st ≤ 8 ∧ Call 87 [some (.int x0), some (.int x1), some (.int x2)] h 94 51 ls st Q)) ∧
  (∀ (ls : Lo) (st : List Value) (h : Hp) (Q : Option Value → Hp → Prop) (x : Int32), Wp 94 51 (ls) (.int x :: st) h Q ↔ Br 94 56 54 ls st h Q (¬ x = 0)) ∧
  (∀ (ls : Lo) (st : List Value) (h : Hp) (Q : Option Value → Hp → Prop), Wp 94 54 (ls) (st) h Q ↔ Wp 94 55 (ls) (.int (-1) :: st) h Q) ∧
  (∀ (ls : Lo) (h : Hp) (Q : Option Value → Hp → Prop) (x : Int32), Wp 94 55 (ls) ([.int x]) h Q ↔ Q (some (.int x)) h) ∧
  (∀ (ls : Lo) (st : List Value) (h : Hp) (Q : Option Value → Hp → Prop) (l0 : Option Value) (x : Int32), Wp 94 56 (l0 :: some (.int x) :: ls) (st) h Q ↔ Wp 94 57 (l0 :: some (.int x) :: ls) (.int x :: st) h Q) ∧
  (∀ (ls : Lo) (st : List Value) (h : Hp) (Q : Option Value → Hp → Prop) (x : Int32), Wp 94 57 (ls) (.int x :: st) h Q ↔ Br 94 68 60 ls st h Q (¬ x = 0)) ∧
  (∀ (ls : Lo) (st : List Value) (h : Hp) (Q : Option Value → Hp → Prop), Wp 94 60 (ls) (st) h Q ↔ Wp 94 61 (ls) (.int (3) :: st) h Q) ∧
  (∀ (ls : Lo) (st : List Value) (h : Hp) (Q : Option Value → Hp → Prop) (l0 l1 : Option Value) (x : Int32), Wp 94 61 (l0 :: l1 :: some (.int x) :: ls) (st) h Q ↔ Wp 94 62 (l0 :: l1 :: some (.int x) :: ls) (.int x :: st) h Q) ∧
  (∀ (ls : Lo) (st : List Value) (h : Hp) (Q : Option Value → Hp → Prop) (x y : Int32), Wp 94 62 (ls) (.int y :: .int x :: st) h Q ↔ Wp 94 63 (ls) (.int (x * y) :: st) h Q) ∧
  (∀ (ls : Lo) (st : List Value) (h : Hp) (Q : Option Value → Hp → Prop) (l0 l1 l2 : Option Value) (x : Int32), Wp 94 63 (l0 :: l1 :: l2 :: some (.int x) :: ls) (st) h Q ↔ Wp 94 64 (l0 :: l1 :: l2 :: some (.int x) :: ls) (.int x :: st) h Q) ∧
  (∀ (ls : Lo) (st : List Value) (h : Hp) (Q : Option Value → Hp → Prop) (x y : Int32), Wp 94 64 (ls) (.int y :: .int x :: st) h Q ↔ Wp 94 65 (ls) (.int (x + y) :: st) h Q) ∧
  (∀ (ls : Lo) (st : List Value) (h : Hp) (Q : Option Value → Hp → Prop), Wp 94 65 (ls) (st) h Q ↔ Wp 94 69 (ls) (st) h Q) ∧
  (∀ (ls : Lo) (st : List Value) (h : Hp) (Q : Option Value → Hp → Prop) (l0 l1 : Option Value) (x : Int32), Wp 94 68 (l0 :: l1 :: some (.int x) :: ls) (st) h Q ↔ Wp 94 69 (l0 :: l1 :: some (.int x) :: ls) (.int x :: st) h Q) ∧
  (∀ (ls : Lo) (h : Hp) (Q : Option Value → Hp → Prop) (x : Int32), Wp 94 69 (ls) ([.int x]) h Q ↔ Q (some (.int x)) h) := ⟨by intro ls st h Q; exact e_iconst d94_41 rfl,
  by intro ls st h Q i; exact e_aload_n d94_42 rfl,
  by intro ls st n sl C Z I L R Q i; exact e_get (g := 7) (s := 1) (ty := 0) d94_43 rfl rfl rfl,
  by intro ls st h Q; exact e_iconst d94_46 rfl,
  by intro ls st h Q x y; exact e_isub d94_47,
  by intro ls st h Q x0 x1 x2; exact e_is (k2 := 87) (as := [.int x0, .int x1, .int x2]) d94_48 rfl (by decide) rfl rfl (by decide +kernel) (Nat.le_of_ble_eq_true rfl) rfl,
  by intro ls st h Q x; exact e_if d94_51 (by decide) c_ne,
  by intro ls st h Q; exact e_iconst d94_54 rfl,
  by intros; exact e_rI (p := True) d94_55 rfl,
  by intro ls st h Q l0 x; exact e_iload_n d94_56 rfl,
  by intro ls st h Q x; exact e_if d94_57 (by decide) c_ne,
  by intro ls st h Q; exact e_iconst d94_60 rfl,
  by intro ls st h Q l0 l1 x; exact e_iload_n d94_61 rfl,
  by intro ls st h Q x y; exact e_imul d94_62,
  by intro ls st h Q l0 l1 l2 x; exact e_iload_n d94_63 rfl,
  by intro ls st h Q x y; exact e_iadd d94_64,
  by intro ls st h Q; exact e_goto d94_65 (by decide),
  by intro ls st h Q l0 l1 x; exact e_iload_n d94_68 rfl,
  by intros; exact e_rI (p := True) d94_69 rfl⟩
theorem d95_0 : decode (byt 95) 0 = .ok (.aload_n 0, 1) := by decide +kernel
theorem d95_1 : decode (byt 95) 1 = .ok (.invokevirtual 70, 3) := by decide +kernel
theorem d95_4 : decode (byt 95) 4 = .ok (.ifCond .eq 6, 3) := by decide +kernel
theorem d95_7 : decode (byt 95) 7 = .ok (.bipush (-4), 2) := by decide +kernel
theorem d95_9 : decode (byt 95) 9 = .ok (.ireturn, 1) := by decide +kernel
theorem d95_10 : decode (byt 95) 10 = .ok (.aload_n 0, 1) := by decide +kernel
theorem d95_11 : decode (byt 95) 11 = .ok (.getfield 11, 3) := by decide +kernel
theorem d95_14 : decode (byt 95) 14 = .ok (.aload_n 0, 1) := by decide +kernel
theorem d95_15 : decode (byt 95) 15 = .ok (.getfield 15, 3) := by decide +kernel
theorem d95_18 : decode (byt 95) 18 = .ok (.aload_n 1, 1) := by decide +kernel
theorem d95_19 : decode (byt 95) 19 = .ok (.aastore, 1) := by decide +kernel
theorem d95_20 : decode (byt 95) 20 = .ok (.aload_n 0, 1) := by decide +kernel
theorem d95_21 : decode (byt 95) 21 = .ok (.dup, 1) := by decide +kernel
theorem d95_22 : decode (byt 95) 22 = .ok (.getfield 15, 3) := by decide +kernel
theorem d95_25 : decode (byt 95) 25 = .ok (.iconst 1, 1) := by decide +kernel
theorem d95_26 : decode (byt 95) 26 = .ok (.iadd, 1) := by decide +kernel
theorem d95_27 : decode (byt 95) 27 = .ok (.putfield 15, 3) := by decide +kernel
theorem d95_30 : decode (byt 95) 30 = .ok (.aload_n 0, 1) := by decide +kernel
theorem d95_31 : decode (byt 95) 31 = .ok (.getfield 15, 3) := by decide +kernel
theorem d95_34 : decode (byt 95) 34 = .ok (.iconst 1, 1) := by decide +kernel
theorem d95_35 : decode (byt 95) 35 = .ok (.isub, 1) := by decide +kernel
theorem d95_36 : decode (byt 95) 36 = .ok (.ireturn, 1) := by decide +kernel
set_option maxRecDepth 20000 in
theorem S95_0 : (∀ (ls : Lo) (st : List Value) (h : Hp) (Q : Option Value → Hp → Prop)  (i : Nat), Wp 95 0 (some (.ref i) :: ls) (st) h Q ↔ Wp 95 1 (some (.ref i) :: ls) (.ref i :: st) h Q) ∧
  (∀ (ls : Lo) (st : List Value) (n sl : Nat) (C Z : Nat → Nat) (I : Nat → Nat → Int32) (L : Nat → Nat → Int64) (R : Nat → Nat → Nat) (Q : Option Value → Hp → Prop)  (i : Nat), C i = 10 → (Wp 95 1 (ls) (.ref i :: st) (n, sl, C, Z, I, L, R) Q ↔ (wsum st ≤ 8 ∧ Call 91 [some (.ref i)] (n, sl, C, Z, I, L, R) 95 4 ls st Q))) ∧
  (∀ (ls : Lo) (st : List Value) (h : Hp) (Q : Option Value → Hp → Prop) (x : Int32), Wp 95 4 (ls) (.int x :: st) h Q ↔ Br 95 10 7 ls st h Q (x = 0)) ∧
  (∀ (ls : Lo) (st : List Value) (h : Hp) (Q : Option Value → Hp → Prop), Wp 95 7 (ls) (st) h Q ↔ Wp 95 9 (ls) (.int (-4) :: st) h Q) ∧
  (∀ (ls : Lo) (h : Hp) (Q : Option Value → Hp → Prop) (x : Int32), Wp 95 9 (ls) ([.int x]) h Q ↔ Q (some (.int x)) h) ∧
  (∀ (ls : Lo) (st : List Value) (h : Hp) (Q : Option Value → Hp → Prop)  (i : Nat), Wp 95 10 (some (.ref i) :: ls) (st) h Q ↔ Wp 95 11 (some (.ref i) :: ls) (.ref i :: st) h Q) ∧
  (∀ (ls : Lo) (st : List Value) (n sl : Nat) (C Z : Nat → Nat) (I : Nat → Nat → Int32) (L : Nat → Nat → Int64) (R : Nat → Nat → Nat) (Q : Option Value → Hp → Prop) (i : Nat), Wp 95 11 (ls) (.ref i :: st) (n, sl, C, Z, I, L, R) Q ↔ (C i = 10 ∧ Wp 95 14 (ls) (.ref (R i 0) :: st) (n, sl, C, Z, I, L, R) Q)) ∧
  (∀ (ls : Lo) (st : List Value) (h : Hp) (Q : Option Value → Hp → Prop)  (i : Nat), Wp 95 14 (some (.ref i) :: ls) (st) h Q ↔ Wp 95 15 (some (.ref i) :: ls) (.ref i :: st) h Q) ∧
  (∀ (ls : Lo) (st : List Value) (n sl : Nat) (C Z : Nat → Nat) (I : Nat → Nat → Int32) (L : Nat → Nat → Int64) (R : Nat → Nat → Nat) (Q : Option Value → Hp → Prop) (i : Nat), Wp 95 15 (ls) (.ref i :: st) (n, sl, C, Z, I, L, R) Q ↔ (C i = 10 ∧ Wp 95 18 (ls) (.int (I i 1) :: st) (n, sl, C, Z, I, L, R) Q)) ∧
  (∀ (ls : Lo) (st : List Value) (h : Hp) (Q : Option Value → Hp → Prop) (l0 : Option Value) (i : Nat), Wp 95 18 (l0 :: some (.ref i) :: ls) (st) h Q ↔ Wp 95 19 (l0 :: some (.ref i) :: ls) (.ref i :: st) h Q) ∧
  (∀ (ls : Lo) (st : List Value) (n sl : Nat) (C Z : Nat → Nat) (I : Nat → Nat → Int32) (L : Nat → Nat → Int64) (R : Nat → Nat → Nat) (Q : Option Value → Hp → Prop) (i j : Nat) (y : Int32), Wp 95 19 (ls) (.ref j :: .int y :: .ref i :: st) (n, sl, C, Z, I, L, R) Q ↔ ((inb y (Z i) = true ∧ ((j = 0 ∧ (C i = 24 ∨ C i = 25)) ∨ okS (C i) (C j) = true)) ∧ Wp 95 20 (ls) (st) (n, sl, C, Z, I, L, u2 R i (ix y) j) Q)) ∧
  (∀ (ls : Lo) (st : List Value) (h : Hp) (Q : Option Value → Hp → Prop)  (i : Nat), Wp 95 20 (some (.ref i) :: ls) (st) h Q ↔ Wp 95 21 (some (.ref i) :: ls) (.ref i :: st) h Q) ∧
  (∀ (ls : Lo) (st : List Value) (h : Hp) (Q : Option Value → Hp → Prop) (x : Int32), Wp 95 21 (ls) (.int x :: st) h Q ↔ Wp 95 22 (ls) (.int x :: .int x :: st) h Q) ∧
  (∀ (ls : Lo) (st : List Value) (h : Hp) (Q : Option Value → Hp → Prop) (i : Nat), Wp 95 21 (ls) (.ref i :: st) h Q ↔ Wp 95 22 (ls) (.ref i :: .ref i :: st) h Q) ∧
  (∀ (ls : Lo) (st : List Value) (n sl : Nat) (C Z : Nat → Nat) (I : Nat → Nat → Int32) (L : Nat → Nat → Int64) (R : Nat → Nat → Nat) (Q : Option Value → Hp → Prop) (i : Nat), Wp 95 22 (ls) (.ref i :: st) (n, sl, C, Z, I, L, R) Q ↔ (C i = 10 ∧ Wp 95 25 (ls) (.int (I i 1) :: st) (n, sl, C, Z, I, L, R) Q)) ∧
  (∀ (ls : Lo) (st : List Value) (h : Hp) (Q : Option Value → Hp → Prop), Wp 95 25 (ls) (st) h Q ↔ Wp 95 26 (ls) (.int (1) :: st) h Q) ∧
  (∀ (ls : Lo) (st : List Value) (h : Hp) (Q : Option Value → Hp → Prop) (x y : Int32), Wp 95 26 (ls) (.int y :: .int x :: st) h Q ↔ Wp 95 27 (ls) (.int (x + y) :: st) h Q) ∧
  (∀ (ls : Lo) (st : List Value) (n sl : Nat) (C Z : Nat → Nat) (I : Nat → Nat → Int32) (L : Nat → Nat → Int64) (R : Nat → Nat → Nat) (Q : Option Value → Hp → Prop) (i : Nat) (x : Int32), Wp 95 27 (ls) (.int x :: .ref i :: st) (n, sl, C, Z, I, L, R) Q ↔ (C i = 10 ∧ Wp 95 30 (ls) (st) (n, sl, C, Z, u2 I i 1 x, L, R) Q)) ∧
  (∀ (ls : Lo) (st : List Value) (h : Hp) (Q : Option Value → Hp → Prop)  (i : Nat), Wp 95 30 (some (.ref i) :: ls) (st) h Q ↔ Wp 95 31 (some (.ref i) :: ls) (.ref i :: st) h Q) ∧
  (∀ (ls : Lo) (st : List Value) (n sl : Nat) (C Z : Nat → Nat) (I : Nat → Nat → Int32) (L : Nat → Nat → Int64) (R : Nat → Nat → Nat) (Q : Option Value → Hp → Prop) (i : Nat), Wp 95 31 (ls) (.ref i :: st) (n, sl, C, Z, I, L, R) Q ↔ (C i = 10 ∧ Wp 95 34 (ls) (.int (I i 1) :: st) (n, sl, C, Z, I, L, R) Q)) ∧
  (∀ (ls : Lo) (st : List Value) (h : Hp) (Q : Option Value → Hp → Prop), Wp 95 34 (ls) (st) h Q ↔ Wp 95 35 (ls) (.int (1) :: st) h Q) ∧
  (∀ (ls : Lo) (st : List Value) (h : Hp) (Q : Option Value → Hp → Prop) (x y : Int32), Wp 95 35 (ls) (.int y :: .int x :: st) h Q ↔ Wp 95 36 (ls) (.int (x - y) :: st) h Q) ∧
  (∀ (ls : Lo) (h : Hp) (Q : Option Value → Hp → Prop) (x : Int32), Wp 95 36 (ls) ([.int x]) h Q ↔ Q (some (.int x)) h) := ⟨by intro ls st h Q i; exact e_aload_n d95_0 rfl,
  by intro ls st n sl C Z I L R Q i hh; exact e_iv (k2 := 91) (c := 10) (as := []) d95_1 rfl (by decide) rfl rfl (by decide +kernel) (Nat.le_of_ble_eq_true rfl) rfl hh,
  by intro ls st h Q x; exact e_if d95_4 (by decide) c_eq,
  by intro ls st h Q; exact e_bipush d95_7 rfl,
  by intros; exact e_rI (p := True) d95_9 rfl,
  by intro ls st h Q i; exact e_aload_n d95_10 rfl,
  by intro ls st n sl C Z I L R Q i; exact e_get (g := 9) (s := 0) (ty := 2) d95_11 rfl rfl (inG_ne (by decide)),
  by intro ls st h Q i; exact e_aload_n d95_14 rfl,
  by intro ls st n sl C Z I L R Q i; exact e_get (g := 9) (s := 1) (ty := 0) d95_15 rfl rfl (inG_ne (by decide)),
  by intro ls st h Q l0 i; exact e_aload_n d95_18 rfl,
  by intro ls st n sl C Z I L R Q i j y; exact e_aast d95_19,
  by intro ls st h Q i; exact e_aload_n d95_20 rfl,
  by intro ls st h Q x; exact e_dupI d95_21,
  by intro ls st h Q i; exact e_dupR d95_21,
  by intro ls st n sl C Z I L R Q i; exact e_get (g := 9) (s := 1) (ty := 0) d95_22 rfl rfl (inG_ne (by decide)),
  by intro ls st h Q; exact e_iconst d95_25 rfl,
  by intro ls st h Q x y; exact e_iadd d95_26,
  by intro ls st n sl C Z I L R Q i x; exact e_putI (g := 9) (s := 1) d95_27 rfl (Or.inl rfl) (inG_ne (by decide)),
  by intro ls st h Q i; exact e_aload_n d95_30 rfl,
  by intro ls st n sl C Z I L R Q i; exact e_get (g := 9) (s := 1) (ty := 0) d95_31 rfl rfl (inG_ne (by decide)),
  by intro ls st h Q; exact e_iconst d95_34 rfl,
  by intro ls st h Q x y; exact e_isub d95_35,
  by intros; exact e_rI (p := True) d95_36 rfl⟩
