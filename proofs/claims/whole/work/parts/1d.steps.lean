theorem d58_0 : decode (byt 58) 0 = .ok (.aload_n 0, 1) := by decide +kernel
theorem d58_1 : decode (byt 58) 1 = .ok (.invokespecial 1, 3) := by decide +kernel
theorem d58_4 : decode (byt 58) 4 = .ok (.aload_n 0, 1) := by decide +kernel
theorem d58_5 : decode (byt 58) 5 = .ok (.bipush 12, 2) := by decide +kernel
theorem d58_7 : decode (byt 58) 7 = .ok (.anewarray 9, 3) := by decide +kernel
theorem d58_10 : decode (byt 58) 10 = .ok (.putfield 11, 3) := by decide +kernel
theorem d58_13 : decode (byt 58) 13 = .ok (.aload_n 0, 1) := by decide +kernel
theorem d58_14 : decode (byt 58) 14 = .ok (.iconst 0, 1) := by decide +kernel
theorem d58_15 : decode (byt 58) 15 = .ok (.putfield 15, 3) := by decide +kernel
theorem d58_18 : decode (byt 58) 18 = .ok (.aload_n 0, 1) := by decide +kernel
theorem d58_19 : decode (byt 58) 19 = .ok (.bipush 11, 2) := by decide +kernel
theorem d58_21 : decode (byt 58) 21 = .ok (.newarray .long, 2) := by decide +kernel
theorem d58_23 : decode (byt 58) 23 = .ok (.putfield 19, 3) := by decide +kernel
theorem d58_26 : decode (byt 58) 26 = .ok (.aload_n 0, 1) := by decide +kernel
theorem d58_27 : decode (byt 58) 27 = .ok (.bipush 11, 2) := by decide +kernel
theorem d58_29 : decode (byt 58) 29 = .ok (.newarray .long, 2) := by decide +kernel
theorem d58_31 : decode (byt 58) 31 = .ok (.putfield 23, 3) := by decide +kernel
theorem d58_34 : decode (byt 58) 34 = .ok (.aload_n 0, 1) := by decide +kernel
theorem d58_35 : decode (byt 58) 35 = .ok (.iconst 0, 1) := by decide +kernel
theorem d58_36 : decode (byt 58) 36 = .ok (.putfield 26, 3) := by decide +kernel
theorem d58_39 : decode (byt 58) 39 = .ok (.aload_n 0, 1) := by decide +kernel
theorem d58_40 : decode (byt 58) 40 = .ok (.new 29, 3) := by decide +kernel
theorem d58_43 : decode (byt 58) 43 = .ok (.dup, 1) := by decide +kernel
theorem d58_44 : decode (byt 58) 44 = .ok (.invokespecial 31, 3) := by decide +kernel
theorem d58_47 : decode (byt 58) 47 = .ok (.putfield 32, 3) := by decide +kernel
theorem d58_50 : decode (byt 58) 50 = .ok (.aload_n 0, 1) := by decide +kernel
theorem d58_51 : decode (byt 58) 51 = .ok (.iconst 4, 1) := by decide +kernel
theorem d58_52 : decode (byt 58) 52 = .ok (.anewarray 36, 3) := by decide +kernel
theorem d58_55 : decode (byt 58) 55 = .ok (.putfield 38, 3) := by decide +kernel
theorem d58_58 : decode (byt 58) 58 = .ok (.aload_n 0, 1) := by decide +kernel
theorem d58_59 : decode (byt 58) 59 = .ok (.new 42, 3) := by decide +kernel
theorem d58_62 : decode (byt 58) 62 = .ok (.dup, 1) := by decide +kernel
theorem d58_63 : decode (byt 58) 63 = .ok (.invokespecial 44, 3) := by decide +kernel
theorem d58_66 : decode (byt 58) 66 = .ok (.putfield 45, 3) := by decide +kernel
theorem d58_69 : decode (byt 58) 69 = .ok (.aload_n 0, 1) := by decide +kernel
theorem d58_70 : decode (byt 58) 70 = .ok (.new 42, 3) := by decide +kernel
theorem d58_73 : decode (byt 58) 73 = .ok (.dup, 1) := by decide +kernel
theorem d58_74 : decode (byt 58) 74 = .ok (.invokespecial 44, 3) := by decide +kernel
theorem d58_77 : decode (byt 58) 77 = .ok (.putfield 49, 3) := by decide +kernel
theorem d58_80 : decode (byt 58) 80 = .ok (.aload_n 0, 1) := by decide +kernel
theorem d58_81 : decode (byt 58) 81 = .ok (.new 52, 3) := by decide +kernel
theorem d58_84 : decode (byt 58) 84 = .ok (.dup, 1) := by decide +kernel
theorem d58_85 : decode (byt 58) 85 = .ok (.invokespecial 54, 3) := by decide +kernel
theorem d58_88 : decode (byt 58) 88 = .ok (.putfield 55, 3) := by decide +kernel
theorem d58_91 : decode (byt 58) 91 = .ok (.aload_n 0, 1) := by decide +kernel
theorem d58_92 : decode (byt 58) 92 = .ok (.new 59, 3) := by decide +kernel
theorem d58_95 : decode (byt 58) 95 = .ok (.dup, 1) := by decide +kernel
theorem d58_96 : decode (byt 58) 96 = .ok (.invokespecial 61, 3) := by decide +kernel
theorem d58_99 : decode (byt 58) 99 = .ok (.putfield 62, 3) := by decide +kernel
theorem d58_102 : decode (byt 58) 102 = .ok (.return_, 1) := by decide +kernel
set_option maxRecDepth 20000 in
theorem S58_0 : (∀ (ls : Lo) (st : List Value) (h : Hp) (Q : Option Value → Hp → Prop)  (i : Nat), Wp 58 0 (some (.ref i) :: ls) (st) h Q ↔ Wp 58 1 (some (.ref i) :: ls) (.ref i :: st) h Q) ∧
  (∀ (ls : Lo) (st : List Value) (h : Hp) (Q : Option Value → Hp → Prop) (i : Nat), Wp 58 1 (ls) (.ref i :: st) h Q ↔ ((wsum st ≤ 8 ∧ i ≠ 0) ∧ Wp 58 4 (ls) (st) h Q)) ∧
  (∀ (ls : Lo) (st : List Value) (h : Hp) (Q : Option Value → Hp → Prop)  (i : Nat), Wp 58 4 (some (.ref i) :: ls) (st) h Q ↔ Wp 58 5 (some (.ref i) :: ls) (.ref i :: st) h Q) ∧
  (∀ (ls : Lo) (st : List Value) (h : Hp) (Q : Option Value → Hp → Prop), Wp 58 5 (ls) (st) h Q ↔ Wp 58 7 (ls) (.int (12) :: st) h Q) ∧
  (∀ (ls : Lo) (st : List Value) (n sl : Nat) (C Z : Nat → Nat) (I : Nat → Nat → Int32) (L : Nat → Nat → Int64) (R : Nat → Nat → Nat) (Q : Option Value → Hp → Prop) (x : Int32), Wp 58 7 (ls) (.int x :: st) (n, sl, C, Z, I, L, R) Q ↔ ((¬ x < 0 ∧ ix x ≤ 1000) ∧ Wp 58 10 (ls) (.ref (n + 1) :: st) (n + 1, sl + ix x, va_up C (n + 1) 24, va_up Z (n + 1) (ix x), va_up I (n + 1) (fun _ => 0), va_up L (n + 1) (fun _ => 0), va_up R (n + 1) (fun _ => 0)) Q)) ∧
  (∀ (ls : Lo) (st : List Value) (n sl : Nat) (C Z : Nat → Nat) (I : Nat → Nat → Int32) (L : Nat → Nat → Int64) (R : Nat → Nat → Nat) (Q : Option Value → Hp → Prop) (i j : Nat), Wp 58 10 (ls) (.ref j :: .ref i :: st) (n, sl, C, Z, I, L, R) Q ↔ (C i = 10 ∧ Wp 58 13 (ls) (st) (n, sl, C, Z, I, L, u2 R i 0 j) Q)) ∧
  (∀ (ls : Lo) (st : List Value) (h : Hp) (Q : Option Value → Hp → Prop)  (i : Nat), Wp 58 13 (some (.ref i) :: ls) (st) h Q ↔ Wp 58 14 (some (.ref i) :: ls) (.ref i :: st) h Q) ∧
  (∀ (ls : Lo) (st : List Value) (h : Hp) (Q : Option Value → Hp → Prop), Wp 58 14 (ls) (st) h Q ↔ Wp 58 15 (ls) (.int (0) :: st) h Q) ∧
  (∀ (ls : Lo) (st : List Value) (n sl : Nat) (C Z : Nat → Nat) (I : Nat → Nat → Int32) (L : Nat → Nat → Int64) (R : Nat → Nat → Nat) (Q : Option Value → Hp → Prop) (i : Nat) (x : Int32), Wp 58 15 (ls) (.int x :: .ref i :: st) (n, sl, C, Z, I, L, R) Q ↔ (C i = 10 ∧ Wp 58 18 (ls) (st) (n, sl, C, Z, u2 I i 1 x, L, R) Q)) ∧
  (∀ (ls : Lo) (st : List Value) (h : Hp) (Q : Option Value → Hp → Prop)  (i : Nat), Wp 58 18 (some (.ref i) :: ls) (st) h Q ↔ Wp 58 19 (some (.ref i) :: ls) (.ref i :: st) h Q) ∧
  (∀ (ls : Lo) (st : List Value) (h : Hp) (Q : Option Value → Hp → Prop), Wp 58 19 (ls) (st) h Q ↔ Wp 58 21 (ls) (.int (11) :: st) h Q) ∧
  (∀ (ls : Lo) (st : List Value) (n sl : Nat) (C Z : Nat → Nat) (I : Nat → Nat → Int32) (L : Nat → Nat → Int64) (R : Nat → Nat → Nat) (Q : Option Value → Hp → Prop) (x : Int32), Wp 58 21 (ls) (.int x :: st) (n, sl, C, Z, I, L, R) Q ↔ ((¬ x < 0 ∧ ix x ≤ 1000) ∧ Wp 58 23 (ls) (.ref (n + 1) :: st) (n + 1, sl + ix x, va_up C (n + 1) 22, va_up Z (n + 1) (ix x), va_up I (n + 1) (fun _ => 0), va_up L (n + 1) (fun _ => 0), va_up R (n + 1) (fun _ => 0)) Q)) ∧
  (∀ (ls : Lo) (st : List Value) (n sl : Nat) (C Z : Nat → Nat) (I : Nat → Nat → Int32) (L : Nat → Nat → Int64) (R : Nat → Nat → Nat) (Q : Option Value → Hp → Prop) (i j : Nat), Wp 58 23 (ls) (.ref j :: .ref i :: st) (n, sl, C, Z, I, L, R) Q ↔ (C i = 10 ∧ Wp 58 26 (ls) (st) (n, sl, C, Z, I, L, u2 R i 2 j) Q)) ∧
  (∀ (ls : Lo) (st : List Value) (h : Hp) (Q : Option Value → Hp → Prop)  (i : Nat), Wp 58 26 (some (.ref i) :: ls) (st) h Q ↔ Wp 58 27 (some (.ref i) :: ls) (.ref i :: st) h Q) ∧
  (∀ (ls : Lo) (st : List Value) (h : Hp) (Q : Option Value → Hp → Prop), Wp 58 27 (ls) (st) h Q ↔ Wp 58 29 (ls) (.int (11) :: st) h Q) ∧
  (∀ (ls : Lo) (st : List Value) (n sl : Nat) (C Z : Nat → Nat) (I : Nat → Nat → Int32) (L : Nat → Nat → Int64) (R : Nat → Nat → Nat) (Q : Option Value → Hp → Prop) (x : Int32), Wp 58 29 (ls) (.int x :: st) (n, sl, C, Z, I, L, R) Q ↔ ((¬ x < 0 ∧ ix x ≤ 1000) ∧ Wp 58 31 (ls) (.ref (n + 1) :: st) (n + 1, sl + ix x, va_up C (n + 1) 22, va_up Z (n + 1) (ix x), va_up I (n + 1) (fun _ => 0), va_up L (n + 1) (fun _ => 0), va_up R (n + 1) (fun _ => 0)) Q)) ∧
  (∀ (ls : Lo) (st : List Value) (n sl : Nat) (C Z : Nat → Nat) (I : Nat → Nat → Int32) (L : Nat → Nat → Int64) (R : Nat → Nat → Nat) (Q : Option Value → Hp → Prop) (i j : Nat), Wp 58 31 (ls) (.ref j :: .ref i :: st) (n, sl, C, Z, I, L, R) Q ↔ (C i = 10 ∧ Wp 58 34 (ls) (st) (n, sl, C, Z, I, L, u2 R i 3 j) Q)) ∧
  (∀ (ls : Lo) (st : List Value) (h : Hp) (Q : Option Value → Hp → Prop)  (i : Nat), Wp 58 34 (some (.ref i) :: ls) (st) h Q ↔ Wp 58 35 (some (.ref i) :: ls) (.ref i :: st) h Q) ∧
  (∀ (ls : Lo) (st : List Value) (h : Hp) (Q : Option Value → Hp → Prop), Wp 58 35 (ls) (st) h Q ↔ Wp 58 36 (ls) (.int (0) :: st) h Q) ∧
  (∀ (ls : Lo) (st : List Value) (n sl : Nat) (C Z : Nat → Nat) (I : Nat → Nat → Int32) (L : Nat → Nat → Int64) (R : Nat → Nat → Nat) (Q : Option Value → Hp → Prop) (i : Nat) (x : Int32), Wp 58 36 (ls) (.int x :: .ref i :: st) (n, sl, C, Z, I, L, R) Q ↔ (C i = 10 ∧ Wp 58 39 (ls) (st) (n, sl, C, Z, u2 I i 4 x, L, R) Q)) ∧
  (∀ (ls : Lo) (st : List Value) (h : Hp) (Q : Option Value → Hp → Prop)  (i : Nat), Wp 58 39 (some (.ref i) :: ls) (st) h Q ↔ Wp 58 40 (some (.ref i) :: ls) (.ref i :: st) h Q) ∧
  (∀ (ls : Lo) (st : List Value) (n sl : Nat) (C Z : Nat → Nat) (I : Nat → Nat → Int32) (L : Nat → Nat → Int64) (R : Nat → Nat → Nat) (Q : Option Value → Hp → Prop), Wp 58 40 (ls) (st) (n, sl, C, Z, I, L, R) Q ↔ Wp 58 43 (ls) (.ref (n + 1) :: st) (n + 1, sl + 2, va_up C (n + 1) 9, Z, va_up I (n + 1) (fun _ => 0), va_up L (n + 1) (fun _ => 0), va_up R (n + 1) (fun _ => 0)) Q) ∧
  (∀ (ls : Lo) (st : List Value) (h : Hp) (Q : Option Value → Hp → Prop) (x : Int32), Wp 58 43 (ls) (.int x :: st) h Q ↔ Wp 58 44 (ls) (.int x :: .int x :: st) h Q) ∧
  (∀ (ls : Lo) (st : List Value) (h : Hp) (Q : Option Value → Hp → Prop) (i : Nat), Wp 58 43 (ls) (.ref i :: st) h Q ↔ Wp 58 44 (ls) (.ref i :: .ref i :: st) h Q) ∧
  (∀ (ls : Lo) (st : List Value) (h : Hp) (Q : Option Value → Hp → Prop)  (i : Nat), i ≠ 0 → (Wp 58 44 (ls) (.ref i :: st) h Q ↔ (wsum st ≤ 8 ∧ Call 57 [some (.ref i)] h 58 47 ls st Q))) := ⟨by intro ls st h Q i; exact e_aload_n d58_0 rfl,
  by intro ls st h Q i; exact e_oi (na := 0) d58_1 rfl (by decide +kernel),
  by intro ls st h Q i; exact e_aload_n d58_4 rfl,
  by intro ls st h Q; exact e_bipush d58_5 rfl,
  by intro ls st n sl C Z I L R Q x; exact e_anewS (p := 76) d58_7 rfl,
  by intro ls st n sl C Z I L R Q i j; exact e_putR (g := 9) (s := 0) d58_10 rfl (Or.inr ⟨by decide +kernel, rfl, rfl⟩) (inG_ne (by decide)),
  by intro ls st h Q i; exact e_aload_n d58_13 rfl,
  by intro ls st h Q; exact e_iconst d58_14 rfl,
  by intro ls st n sl C Z I L R Q i x; exact e_putI (g := 9) (s := 1) d58_15 rfl (Or.inl rfl) (inG_ne (by decide)),
  by intro ls st h Q i; exact e_aload_n d58_18 rfl,
  by intro ls st h Q; exact e_bipush d58_19 rfl,
  by intro ls st n sl C Z I L R Q x; exact e_newL d58_21,
  by intro ls st n sl C Z I L R Q i j; exact e_putR (g := 9) (s := 2) d58_23 rfl (Or.inr ⟨by decide +kernel, rfl, rfl⟩) (inG_ne (by decide)),
  by intro ls st h Q i; exact e_aload_n d58_26 rfl,
  by intro ls st h Q; exact e_bipush d58_27 rfl,
  by intro ls st n sl C Z I L R Q x; exact e_newL d58_29,
  by intro ls st n sl C Z I L R Q i j; exact e_putR (g := 9) (s := 3) d58_31 rfl (Or.inr ⟨by decide +kernel, rfl, rfl⟩) (inG_ne (by decide)),
  by intro ls st h Q i; exact e_aload_n d58_34 rfl,
  by intro ls st h Q; exact e_iconst d58_35 rfl,
  by intro ls st n sl C Z I L R Q i x; exact e_putI (g := 9) (s := 4) d58_36 rfl (Or.inl rfl) (inG_ne (by decide)),
  by intro ls st h Q i; exact e_aload_n d58_39 rfl,
  by intro ls st n sl C Z I L R Q; exact e_new (p := 78) (c := 8) d58_40 rfl (by decide) rfl,
  by intro ls st h Q x; exact e_dupI d58_43,
  by intro ls st h Q i; exact e_dupR d58_43,
  by intro ls st h Q i hh; exact e_ip (k2 := 57) (as := []) d58_44 rfl (by decide) rfl rfl (by decide +kernel) (Nat.le_of_ble_eq_true rfl) rfl hh⟩
set_option maxRecDepth 20000 in
theorem S58_1 : (∀ (ls : Lo) (st : List Value) (n sl : Nat) (C Z : Nat → Nat) (I : Nat → Nat → Int32) (L : Nat → Nat → Int64) (R : Nat → Nat → Nat) (Q : Option Value → Hp → Prop) (i j : Nat), Wp 58 47 (ls) (.ref j :: .ref i :: st) (n, sl, C, Z, I, L, R) Q ↔ (C i = 10 ∧ Wp 58 50 (ls) (st) (n, sl, C, Z, I, L, u2 R i 5 j) Q)) ∧
  (∀ (ls : Lo) (st : List Value) (h : Hp) (Q : Option Value → Hp → Prop)  (i : Nat), Wp 58 50 (some (.ref i) :: ls) (st) h Q ↔ Wp 58 51 (some (.ref i) :: ls) (.ref i :: st) h Q) ∧
  (∀ (ls : Lo) (st : List Value) (h : Hp) (Q : Option Value → Hp → Prop), Wp 58 51 (ls) (st) h Q ↔ Wp 58 52 (ls) (.int (4) :: st) h Q) ∧
  (∀ (ls : Lo) (st : List Value) (n sl : Nat) (C Z : Nat → Nat) (I : Nat → Nat → Int32) (L : Nat → Nat → Int64) (R : Nat → Nat → Nat) (Q : Option Value → Hp → Prop) (x : Int32), Wp 58 52 (ls) (.int x :: st) (n, sl, C, Z, I, L, R) Q ↔ ((¬ x < 0 ∧ ix x ≤ 1000) ∧ Wp 58 55 (ls) (.ref (n + 1) :: st) (n + 1, sl + ix x, va_up C (n + 1) 25, va_up Z (n + 1) (ix x), va_up I (n + 1) (fun _ => 0), va_up L (n + 1) (fun _ => 0), va_up R (n + 1) (fun _ => 0)) Q)) ∧
  (∀ (ls : Lo) (st : List Value) (n sl : Nat) (C Z : Nat → Nat) (I : Nat → Nat → Int32) (L : Nat → Nat → Int64) (R : Nat → Nat → Nat) (Q : Option Value → Hp → Prop) (i j : Nat), Wp 58 55 (ls) (.ref j :: .ref i :: st) (n, sl, C, Z, I, L, R) Q ↔ (C i = 10 ∧ Wp 58 58 (ls) (st) (n, sl, C, Z, I, L, u2 R i 6 j) Q)) ∧
  (∀ (ls : Lo) (st : List Value) (h : Hp) (Q : Option Value → Hp → Prop)  (i : Nat), Wp 58 58 (some (.ref i) :: ls) (st) h Q ↔ Wp 58 59 (some (.ref i) :: ls) (.ref i :: st) h Q) ∧
  (∀ (ls : Lo) (st : List Value) (n sl : Nat) (C Z : Nat → Nat) (I : Nat → Nat → Int32) (L : Nat → Nat → Int64) (R : Nat → Nat → Nat) (Q : Option Value → Hp → Prop), Wp 58 59 (ls) (st) (n, sl, C, Z, I, L, R) Q ↔ Wp 58 62 (ls) (.ref (n + 1) :: st) (n + 1, sl + 9, va_up C (n + 1) 4, Z, va_up I (n + 1) (fun _ => 0), va_up L (n + 1) (fun _ => 0), va_up R (n + 1) (fun _ => 0)) Q) ∧
  (∀ (ls : Lo) (st : List Value) (h : Hp) (Q : Option Value → Hp → Prop) (x : Int32), Wp 58 62 (ls) (.int x :: st) h Q ↔ Wp 58 63 (ls) (.int x :: .int x :: st) h Q) ∧
  (∀ (ls : Lo) (st : List Value) (h : Hp) (Q : Option Value → Hp → Prop) (i : Nat), Wp 58 62 (ls) (.ref i :: st) h Q ↔ Wp 58 63 (ls) (.ref i :: .ref i :: st) h Q) ∧
  (∀ (ls : Lo) (st : List Value) (h : Hp) (Q : Option Value → Hp → Prop)  (i : Nat), i ≠ 0 → (Wp 58 63 (ls) (.ref i :: st) h Q ↔ (wsum st ≤ 8 ∧ Call 16 [some (.ref i)] h 58 66 ls st Q))) ∧
  (∀ (ls : Lo) (st : List Value) (n sl : Nat) (C Z : Nat → Nat) (I : Nat → Nat → Int32) (L : Nat → Nat → Int64) (R : Nat → Nat → Nat) (Q : Option Value → Hp → Prop) (i j : Nat), Wp 58 66 (ls) (.ref j :: .ref i :: st) (n, sl, C, Z, I, L, R) Q ↔ (C i = 10 ∧ Wp 58 69 (ls) (st) (n, sl, C, Z, I, L, u2 R i 7 j) Q)) ∧
  (∀ (ls : Lo) (st : List Value) (h : Hp) (Q : Option Value → Hp → Prop)  (i : Nat), Wp 58 69 (some (.ref i) :: ls) (st) h Q ↔ Wp 58 70 (some (.ref i) :: ls) (.ref i :: st) h Q) ∧
  (∀ (ls : Lo) (st : List Value) (n sl : Nat) (C Z : Nat → Nat) (I : Nat → Nat → Int32) (L : Nat → Nat → Int64) (R : Nat → Nat → Nat) (Q : Option Value → Hp → Prop), Wp 58 70 (ls) (st) (n, sl, C, Z, I, L, R) Q ↔ Wp 58 73 (ls) (.ref (n + 1) :: st) (n + 1, sl + 9, va_up C (n + 1) 4, Z, va_up I (n + 1) (fun _ => 0), va_up L (n + 1) (fun _ => 0), va_up R (n + 1) (fun _ => 0)) Q) ∧
  (∀ (ls : Lo) (st : List Value) (h : Hp) (Q : Option Value → Hp → Prop) (x : Int32), Wp 58 73 (ls) (.int x :: st) h Q ↔ Wp 58 74 (ls) (.int x :: .int x :: st) h Q) ∧
  (∀ (ls : Lo) (st : List Value) (h : Hp) (Q : Option Value → Hp → Prop) (i : Nat), Wp 58 73 (ls) (.ref i :: st) h Q ↔ Wp 58 74 (ls) (.ref i :: .ref i :: st) h Q) ∧
  (∀ (ls : Lo) (st : List Value) (h : Hp) (Q : Option Value → Hp → Prop)  (i : Nat), i ≠ 0 → (Wp 58 74 (ls) (.ref i :: st) h Q ↔ (wsum st ≤ 8 ∧ Call 16 [some (.ref i)] h 58 77 ls st Q))) ∧
  (∀ (ls : Lo) (st : List Value) (n sl : Nat) (C Z : Nat → Nat) (I : Nat → Nat → Int32) (L : Nat → Nat → Int64) (R : Nat → Nat → Nat) (Q : Option Value → Hp → Prop) (i j : Nat), Wp 58 77 (ls) (.ref j :: .ref i :: st) (n, sl, C, Z, I, L, R) Q ↔ (C i = 10 ∧ Wp 58 80 (ls) (st) (n, sl, C, Z, I, L, u2 R i 8 j) Q)) ∧
  (∀ (ls : Lo) (st : List Value) (h : Hp) (Q : Option Value → Hp → Prop)  (i : Nat), Wp 58 80 (some (.ref i) :: ls) (st) h Q ↔ Wp 58 81 (some (.ref i) :: ls) (.ref i :: st) h Q) ∧
  (∀ (ls : Lo) (st : List Value) (n sl : Nat) (C Z : Nat → Nat) (I : Nat → Nat → Int32) (L : Nat → Nat → Int64) (R : Nat → Nat → Nat) (Q : Option Value → Hp → Prop), Wp 58 81 (ls) (st) (n, sl, C, Z, I, L, R) Q ↔ Wp 58 84 (ls) (.ref (n + 1) :: st) (n + 1, sl + 6, va_up C (n + 1) 1, Z, va_up I (n + 1) (fun _ => 0), va_up L (n + 1) (fun _ => 0), va_up R (n + 1) (fun _ => 0)) Q) ∧
  (∀ (ls : Lo) (st : List Value) (h : Hp) (Q : Option Value → Hp → Prop) (x : Int32), Wp 58 84 (ls) (.int x :: st) h Q ↔ Wp 58 85 (ls) (.int x :: .int x :: st) h Q) ∧
  (∀ (ls : Lo) (st : List Value) (h : Hp) (Q : Option Value → Hp → Prop) (i : Nat), Wp 58 84 (ls) (.ref i :: st) h Q ↔ Wp 58 85 (ls) (.ref i :: .ref i :: st) h Q) ∧
  (∀ (ls : Lo) (st : List Value) (h : Hp) (Q : Option Value → Hp → Prop)  (i : Nat), i ≠ 0 → (Wp 58 85 (ls) (.ref i :: st) h Q ↔ (wsum st ≤ 8 ∧ Call 0 [some (.ref i)] h 58 88 ls st Q))) ∧
  (∀ (ls : Lo) (st : List Value) (n sl : Nat) (C Z : Nat → Nat) (I : Nat → Nat → Int32) (L : Nat → Nat → Int64) (R : Nat → Nat → Nat) (Q : Option Value → Hp → Prop) (i j : Nat), Wp 58 88 (ls) (.ref j :: .ref i :: st) (n, sl, C, Z, I, L, R) Q ↔ (C i = 10 ∧ Wp 58 91 (ls) (st) (n, sl, C, Z, I, L, u2 R i 9 j) Q)) ∧
  (∀ (ls : Lo) (st : List Value) (h : Hp) (Q : Option Value → Hp → Prop)  (i : Nat), Wp 58 91 (some (.ref i) :: ls) (st) h Q ↔ Wp 58 92 (some (.ref i) :: ls) (.ref i :: st) h Q) ∧
  (∀ (ls : Lo) (st : List Value) (n sl : Nat) (C Z : Nat → Nat) (I : Nat → Nat → Int32) (L : Nat → Nat → Int64) (R : Nat → Nat → Nat) (Q : Option Value → Hp → Prop), Wp 58 92 (ls) (st) (n, sl, C, Z, I, L, R) Q ↔ Wp 58 95 (ls) (.ref (n + 1) :: st) (n + 1, sl + 2, va_up C (n + 1) 3, Z, va_up I (n + 1) (fun _ => 0), va_up L (n + 1) (fun _ => 0), va_up R (n + 1) (fun _ => 0)) Q) := ⟨by intro ls st n sl C Z I L R Q i j; exact e_putR (g := 9) (s := 5) d58_47 rfl (Or.inr ⟨by decide +kernel, rfl, rfl⟩) (inG_ne (by decide)),
  by intro ls st h Q i; exact e_aload_n d58_50 rfl,
  by intro ls st h Q; exact e_iconst d58_51 rfl,
  by intro ls st n sl C Z I L R Q x; exact e_anewT (p := 103) d58_52 rfl,
  by intro ls st n sl C Z I L R Q i j; exact e_putR (g := 9) (s := 6) d58_55 rfl (Or.inr ⟨by decide +kernel, rfl, rfl⟩) (inG_ne (by decide)),
  by intro ls st h Q i; exact e_aload_n d58_58 rfl,
  by intro ls st n sl C Z I L R Q; exact e_new (p := 105) (c := 3) d58_59 rfl (by decide) rfl,
  by intro ls st h Q x; exact e_dupI d58_62,
  by intro ls st h Q i; exact e_dupR d58_62,
  by intro ls st h Q i hh; exact e_ip (k2 := 16) (as := []) d58_63 rfl (by decide) rfl rfl (by decide +kernel) (Nat.le_of_ble_eq_true rfl) rfl hh,
  by intro ls st n sl C Z I L R Q i j; exact e_putR (g := 9) (s := 7) d58_66 rfl (Or.inr ⟨by decide +kernel, rfl, rfl⟩) (inG_ne (by decide)),
  by intro ls st h Q i; exact e_aload_n d58_69 rfl,
  by intro ls st n sl C Z I L R Q; exact e_new (p := 105) (c := 3) d58_70 rfl (by decide) rfl,
  by intro ls st h Q x; exact e_dupI d58_73,
  by intro ls st h Q i; exact e_dupR d58_73,
  by intro ls st h Q i hh; exact e_ip (k2 := 16) (as := []) d58_74 rfl (by decide) rfl rfl (by decide +kernel) (Nat.le_of_ble_eq_true rfl) rfl hh,
  by intro ls st n sl C Z I L R Q i j; exact e_putR (g := 9) (s := 8) d58_77 rfl (Or.inr ⟨by decide +kernel, rfl, rfl⟩) (inG_ne (by decide)),
  by intro ls st h Q i; exact e_aload_n d58_80 rfl,
  by intro ls st n sl C Z I L R Q; exact e_new (p := 207) (c := 0) d58_81 rfl (by decide) rfl,
  by intro ls st h Q x; exact e_dupI d58_84,
  by intro ls st h Q i; exact e_dupR d58_84,
  by intro ls st h Q i hh; exact e_ip (k2 := 0) (as := []) d58_85 rfl (by decide) rfl rfl (by decide +kernel) (Nat.le_of_ble_eq_true rfl) rfl hh,
  by intro ls st n sl C Z I L R Q i j; exact e_putR (g := 9) (s := 9) d58_88 rfl (Or.inr ⟨by decide +kernel, rfl, rfl⟩) (inG_ne (by decide)),
  by intro ls st h Q i; exact e_aload_n d58_91 rfl,
  by intro ls st n sl C Z I L R Q; exact e_new (p := 234) (c := 2) d58_92 rfl (by decide) rfl⟩
set_option maxRecDepth 20000 in
theorem S58_2 : (∀ (ls : Lo) (st : List Value) (h : Hp) (Q : Option Value → Hp → Prop) (x : Int32), Wp 58 95 (ls) (.int x :: st) h Q ↔ Wp 58 96 (ls) (.int x :: .int x :: st) h Q) ∧
  (∀ (ls : Lo) (st : List Value) (h : Hp) (Q : Option Value → Hp → Prop) (i : Nat), Wp 58 95 (ls) (.ref i :: st) h Q ↔ Wp 58 96 (ls) (.ref i :: .ref i :: st) h Q) ∧
  (∀ (ls : Lo) (st : List Value) (h : Hp) (Q : Option Value → Hp → Prop)  (i : Nat), i ≠ 0 → (Wp 58 96 (ls) (.ref i :: st) h Q ↔ (wsum st ≤ 8 ∧ Call 12 [some (.ref i)] h 58 99 ls st Q))) ∧
  (∀ (ls : Lo) (st : List Value) (n sl : Nat) (C Z : Nat → Nat) (I : Nat → Nat → Int32) (L : Nat → Nat → Int64) (R : Nat → Nat → Nat) (Q : Option Value → Hp → Prop) (i j : Nat), Wp 58 99 (ls) (.ref j :: .ref i :: st) (n, sl, C, Z, I, L, R) Q ↔ (C i = 10 ∧ Wp 58 102 (ls) (st) (n, sl, C, Z, I, L, u2 R i 10 j) Q)) ∧
  (∀ (ls : Lo) (h : Hp) (Q : Option Value → Hp → Prop), Wp 58 102 (ls) ([]) h Q ↔ Q none h) := ⟨by intro ls st h Q x; exact e_dupI d58_95,
  by intro ls st h Q i; exact e_dupR d58_95,
  by intro ls st h Q i hh; exact e_ip (k2 := 12) (as := []) d58_96 rfl (by decide) rfl rfl (by decide +kernel) (Nat.le_of_ble_eq_true rfl) rfl hh,
  by intro ls st n sl C Z I L R Q i j; exact e_putR (g := 9) (s := 10) d58_99 rfl (Or.inr ⟨by decide +kernel, rfl, rfl⟩) (inG_ne (by decide)),
  by intros; exact e_rV d58_102 rfl⟩
theorem d59_0 : decode (byt 59) 0 = .ok (.iload_n 3, 1) := by decide +kernel
theorem d59_1 : decode (byt 59) 1 = .ok (.iconst 1, 1) := by decide +kernel
theorem d59_2 : decode (byt 59) 2 = .ok (.if_icmp .eq 13, 3) := by decide +kernel
theorem d59_5 : decode (byt 59) 5 = .ok (.iload_n 3, 1) := by decide +kernel
theorem d59_6 : decode (byt 59) 6 = .ok (.iconst 2, 1) := by decide +kernel
theorem d59_7 : decode (byt 59) 7 = .ok (.if_icmp .eq 8, 3) := by decide +kernel
theorem d59_10 : decode (byt 59) 10 = .ok (.iload_n 3, 1) := by decide +kernel
theorem d59_11 : decode (byt 59) 11 = .ok (.iconst 4, 1) := by decide +kernel
theorem d59_12 : decode (byt 59) 12 = .ok (.if_icmp .ne 7, 3) := by decide +kernel
theorem d59_15 : decode (byt 59) 15 = .ok (.iconst 1, 1) := by decide +kernel
theorem d59_16 : decode (byt 59) 16 = .ok (.goto 4, 3) := by decide +kernel
theorem d59_19 : decode (byt 59) 19 = .ok (.iconst 0, 1) := by decide +kernel
theorem d59_20 : decode (byt 59) 20 = .ok (.istore 4, 2) := by decide +kernel
theorem d59_22 : decode (byt 59) 22 = .ok (.iload_n 1, 1) := by decide +kernel
theorem d59_23 : decode (byt 59) 23 = .ok (.iconst 0, 1) := by decide +kernel
theorem d59_24 : decode (byt 59) 24 = .ok (.iconst 1, 1) := by decide +kernel
theorem d59_25 : decode (byt 59) 25 = .ok (.invokestatic 66, 3) := by decide +kernel
theorem d59_28 : decode (byt 59) 28 = .ok (.ifCond .eq 17, 3) := by decide +kernel
theorem d59_31 : decode (byt 59) 31 = .ok (.iload_n 2, 1) := by decide +kernel
theorem d59_32 : decode (byt 59) 32 = .ok (.iconst 0, 1) := by decide +kernel
theorem d59_33 : decode (byt 59) 33 = .ok (.iconst 3, 1) := by decide +kernel
theorem d59_34 : decode (byt 59) 34 = .ok (.invokestatic 66, 3) := by decide +kernel
theorem d59_37 : decode (byt 59) 37 = .ok (.ifCond .eq 8, 3) := by decide +kernel
theorem d59_40 : decode (byt 59) 40 = .ok (.iload 4, 2) := by decide +kernel
theorem d59_42 : decode (byt 59) 42 = .ok (.ifCond .ne 6, 3) := by decide +kernel
theorem d59_45 : decode (byt 59) 45 = .ok (.bipush (-2), 2) := by decide +kernel
theorem d59_47 : decode (byt 59) 47 = .ok (.ireturn, 1) := by decide +kernel
theorem d59_48 : decode (byt 59) 48 = .ok (.aload_n 0, 1) := by decide +kernel
theorem d59_49 : decode (byt 59) 49 = .ok (.invokevirtual 70, 3) := by decide +kernel
theorem d59_52 : decode (byt 59) 52 = .ok (.ifCond .eq 6, 3) := by decide +kernel
theorem d59_55 : decode (byt 59) 55 = .ok (.bipush (-4), 2) := by decide +kernel
theorem d59_57 : decode (byt 59) 57 = .ok (.ireturn, 1) := by decide +kernel
theorem d59_58 : decode (byt 59) 58 = .ok (.aload_n 0, 1) := by decide +kernel
theorem d59_59 : decode (byt 59) 59 = .ok (.iload_n 1, 1) := by decide +kernel
theorem d59_60 : decode (byt 59) 60 = .ok (.iconst 1, 1) := by decide +kernel
theorem d59_61 : decode (byt 59) 61 = .ok (.if_icmp .ne 19, 3) := by decide +kernel
theorem d59_64 : decode (byt 59) 64 = .ok (.new 74, 3) := by decide +kernel
theorem d59_67 : decode (byt 59) 67 = .ok (.dup, 1) := by decide +kernel
theorem d59_68 : decode (byt 59) 68 = .ok (.aload_n 0, 1) := by decide +kernel
theorem d59_69 : decode (byt 59) 69 = .ok (.getfield 15, 3) := by decide +kernel
theorem d59_72 : decode (byt 59) 72 = .ok (.iload_n 2, 1) := by decide +kernel
theorem d59_73 : decode (byt 59) 73 = .ok (.iload_n 3, 1) := by decide +kernel
theorem d59_74 : decode (byt 59) 74 = .ok (.invokespecial 76, 3) := by decide +kernel
theorem d59_77 : decode (byt 59) 77 = .ok (.goto 16, 3) := by decide +kernel
theorem d59_80 : decode (byt 59) 80 = .ok (.new 9, 3) := by decide +kernel
theorem d59_83 : decode (byt 59) 83 = .ok (.dup, 1) := by decide +kernel
theorem d59_84 : decode (byt 59) 84 = .ok (.aload_n 0, 1) := by decide +kernel
theorem d59_85 : decode (byt 59) 85 = .ok (.getfield 15, 3) := by decide +kernel
theorem d59_88 : decode (byt 59) 88 = .ok (.iload_n 2, 1) := by decide +kernel
theorem d59_89 : decode (byt 59) 89 = .ok (.iload_n 3, 1) := by decide +kernel
theorem d59_90 : decode (byt 59) 90 = .ok (.invokespecial 79, 3) := by decide +kernel
theorem d59_93 : decode (byt 59) 93 = .ok (.invokevirtual 80, 3) := by decide +kernel
theorem d59_96 : decode (byt 59) 96 = .ok (.ireturn, 1) := by decide +kernel
set_option maxRecDepth 20000 in
theorem S59_0 : (∀ (ls : Lo) (st : List Value) (h : Hp) (Q : Option Value → Hp → Prop) (l0 l1 l2 : Option Value) (x : Int32), Wp 59 0 (l0 :: l1 :: l2 :: some (.int x) :: ls) (st) h Q ↔ Wp 59 1 (l0 :: l1 :: l2 :: some (.int x) :: ls) (.int x :: st) h Q) ∧
  (∀ (ls : Lo) (st : List Value) (h : Hp) (Q : Option Value → Hp → Prop), Wp 59 1 (ls) (st) h Q ↔ Wp 59 2 (ls) (.int (1) :: st) h Q) ∧
  (∀ (ls : Lo) (st : List Value) (h : Hp) (Q : Option Value → Hp → Prop) (x y : Int32), Wp 59 2 (ls) (.int y :: .int x :: st) h Q ↔ Br 59 15 5 ls st h Q (x = y)) ∧
  (∀ (ls : Lo) (st : List Value) (h : Hp) (Q : Option Value → Hp → Prop) (l0 l1 l2 : Option Value) (x : Int32), Wp 59 5 (l0 :: l1 :: l2 :: some (.int x) :: ls) (st) h Q ↔ Wp 59 6 (l0 :: l1 :: l2 :: some (.int x) :: ls) (.int x :: st) h Q) ∧
  (∀ (ls : Lo) (st : List Value) (h : Hp) (Q : Option Value → Hp → Prop), Wp 59 6 (ls) (st) h Q ↔ Wp 59 7 (ls) (.int (2) :: st) h Q) ∧
  (∀ (ls : Lo) (st : List Value) (h : Hp) (Q : Option Value → Hp → Prop) (x y : Int32), Wp 59 7 (ls) (.int y :: .int x :: st) h Q ↔ Br 59 15 10 ls st h Q (x = y)) ∧
  (∀ (ls : Lo) (st : List Value) (h : Hp) (Q : Option Value → Hp → Prop) (l0 l1 l2 : Option Value) (x : Int32), Wp 59 10 (l0 :: l1 :: l2 :: some (.int x) :: ls) (st) h Q ↔ Wp 59 11 (l0 :: l1 :: l2 :: some (.int x) :: ls) (.int x :: st) h Q) ∧
  (∀ (ls : Lo) (st : List Value) (h : Hp) (Q : Option Value → Hp → Prop), Wp 59 11 (ls) (st) h Q ↔ Wp 59 12 (ls) (.int (4) :: st) h Q) ∧
  (∀ (ls : Lo) (st : List Value) (h : Hp) (Q : Option Value → Hp → Prop) (x y : Int32), Wp 59 12 (ls) (.int y :: .int x :: st) h Q ↔ Br 59 19 15 ls st h Q (¬ x = y)) ∧
  (∀ (ls : Lo) (st : List Value) (h : Hp) (Q : Option Value → Hp → Prop), Wp 59 15 (ls) (st) h Q ↔ Wp 59 16 (ls) (.int (1) :: st) h Q) ∧
  (∀ (ls : Lo) (st : List Value) (h : Hp) (Q : Option Value → Hp → Prop), Wp 59 16 (ls) (st) h Q ↔ Wp 59 20 (ls) (st) h Q) ∧
  (∀ (ls : Lo) (st : List Value) (h : Hp) (Q : Option Value → Hp → Prop), Wp 59 19 (ls) (st) h Q ↔ Wp 59 20 (ls) (.int (0) :: st) h Q) ∧
  (∀ (ls : Lo) (st : List Value) (h : Hp) (Q : Option Value → Hp → Prop) (l0 l1 l2 l3 l4 : Option Value) (x : Int32), Wp 59 20 (l0 :: l1 :: l2 :: l3 :: l4 :: ls) (.int x :: st) h Q ↔ Wp 59 22 (l0 :: l1 :: l2 :: clr l3 :: some (.int x) :: ls) (st) h Q) ∧
  (∀ (ls : Lo) (st : List Value) (h : Hp) (Q : Option Value → Hp → Prop) (l0 : Option Value) (x : Int32), Wp 59 22 (l0 :: some (.int x) :: ls) (st) h Q ↔ Wp 59 23 (l0 :: some (.int x) :: ls) (.int x :: st) h Q) ∧
  (∀ (ls : Lo) (st : List Value) (h : Hp) (Q : Option Value → Hp → Prop), Wp 59 23 (ls) (st) h Q ↔ Wp 59 24 (ls) (.int (0) :: st) h Q) ∧
  (∀ (ls : Lo) (st : List Value) (h : Hp) (Q : Option Value → Hp → Prop), Wp 59 24 (ls) (st) h Q ↔ Wp 59 25 (ls) (.int (1) :: st) h Q) ∧
  (∀ (ls : Lo) (st : List Value) (h : Hp) (Q : Option Value → Hp → Prop) (x0 : Int32) (x1 : Int32) (x2 : Int32), Wp 59 25 (ls) (.int x2 :: .int x1 :: .int x0 :: st) h Q ↔ (wsum st ≤ 8 ∧ Call 87 [some (.int x0), some (.int x1), some (.int x2)] h 59 28 ls st Q)) ∧
  (∀ (ls : Lo) (st : List Value) (h : Hp) (Q : Option Value → Hp → Prop) (x : Int32), Wp 59 28 (ls) (.int x :: st) h Q ↔ Br 59 45 31 ls st h Q (x = 0)) ∧
  (∀ (ls : Lo) (st : List Value) (h : Hp) (Q : Option Value → Hp → Prop) (l0 l1 : Option Value) (x : Int32), Wp 59 31 (l0 :: l1 :: some (.int x) :: ls) (st) h Q ↔ Wp 59 32 (l0 :: l1 :: some (.int x) :: ls) (.int x :: st) h Q) ∧
  (∀ (ls : Lo) (st : List Value) (h : Hp) (Q : Option Value → Hp → Prop), Wp 59 32 (ls) (st) h Q ↔ Wp 59 33 (ls) (.int (0) :: st) h Q) ∧
  (∀ (ls : Lo) (st : List Value) (h : Hp) (Q : Option Value → Hp → Prop), Wp 59 33 (ls) (st) h Q ↔ Wp 59 34 (ls) (.int (3) :: st) h Q) ∧
  (∀ (ls : Lo) (st : List Value) (h : Hp) (Q : Option Value → Hp → Prop) (x0 : Int32) (x1 : Int32) (x2 : Int32), Wp 59 34 (ls) (.int x2 :: .int x1 :: .int x0 :: st) h Q ↔ (wsum st ≤ 8 ∧ Call 87 [some (.int x0), some (.int x1), some (.int x2)] h 59 37 ls st Q)) ∧
  (∀ (ls : Lo) (st : List Value) (h : Hp) (Q : Option Value → Hp → Prop) (x : Int32), Wp 59 37 (ls) (.int x :: st) h Q ↔ Br 59 45 40 ls st h Q (x = 0)) ∧
  (∀ (ls : Lo) (st : List Value) (h : Hp) (Q : Option Value → Hp → Prop) (l0 l1 l2 l3 : Option Value) (x : Int32), Wp 59 40 (l0 :: l1 :: l2 :: l3 :: some (.int x) :: ls) (st) h Q ↔ Wp 59 42 (l0 :: l1 :: l2 :: l3 :: some (.int x) :: ls) (.int x :: st) h Q) ∧
  (∀ (ls : Lo) (st : List Value) (h : Hp) (Q : Option Value → Hp → Prop) (x : Int32), Wp 59 42 (ls) (.int x :: st) h Q ↔ Br 59 48 45 ls st h Q (¬ x = 0)) := ⟨by intro ls st h Q l0 l1 l2 x; exact e_iload_n d59_0 rfl,
  by intro ls st h Q; exact e_iconst d59_1 rfl,
  by intro ls st h Q x y; exact e_ic d59_2 (by decide) c_eq,
  by intro ls st h Q l0 l1 l2 x; exact e_iload_n d59_5 rfl,
  by intro ls st h Q; exact e_iconst d59_6 rfl,
  by intro ls st h Q x y; exact e_ic d59_7 (by decide) c_eq,
  by intro ls st h Q l0 l1 l2 x; exact e_iload_n d59_10 rfl,
  by intro ls st h Q; exact e_iconst d59_11 rfl,
  by intro ls st h Q x y; exact e_ic d59_12 (by decide) c_ne,
  by intro ls st h Q; exact e_iconst d59_15 rfl,
  by intro ls st h Q; exact e_goto d59_16 (by decide),
  by intro ls st h Q; exact e_iconst d59_19 rfl,
  by intro ls st h Q l0 l1 l2 l3 l4 x; exact e_istore d59_20 rfl,
  by intro ls st h Q l0 x; exact e_iload_n d59_22 rfl,
  by intro ls st h Q; exact e_iconst d59_23 rfl,
  by intro ls st h Q; exact e_iconst d59_24 rfl,
  by intro ls st h Q x0 x1 x2; exact e_is (k2 := 87) (as := [.int x0, .int x1, .int x2]) d59_25 rfl (by decide) rfl rfl (by decide +kernel) (Nat.le_of_ble_eq_true rfl) rfl,
  by intro ls st h Q x; exact e_if d59_28 (by decide) c_eq,
  by intro ls st h Q l0 l1 x; exact e_iload_n d59_31 rfl,
  by intro ls st h Q; exact e_iconst d59_32 rfl,
  by intro ls st h Q; exact e_iconst d59_33 rfl,
  by intro ls st h Q x0 x1 x2; exact e_is (k2 := 87) (as := [.int x0, .int x1, .int x2]) d59_34 rfl (by decide) rfl rfl (by decide +kernel) (Nat.le_of_ble_eq_true rfl) rfl,
  by intro ls st h Q x; exact e_if d59_37 (by decide) c_eq,
  by intro ls st h Q l0 l1 l2 l3 x; exact e_iload d59_40 rfl,
  by intro ls st h Q x; exact e_if d59_42 (by decide) c_ne⟩
set_option maxRecDepth 20000 in
theorem S59_1 : (∀ (ls : Lo) (st : List Value) (h : Hp) (Q : Option Value → Hp → Prop), Wp 59 45 (ls) (st) h Q ↔ Wp 59 47 (ls) (.int (-2) :: st) h Q) ∧
  (∀ (ls : Lo) (h : Hp) (Q : Option Value → Hp → Prop) (x : Int32), Wp 59 47 (ls) ([.int x]) h Q ↔ Q (some (.int x)) h) ∧
  (∀ (ls : Lo) (st : List Value) (h : Hp) (Q : Option Value → Hp → Prop)  (i : Nat), Wp 59 48 (some (.ref i) :: ls) (st) h Q ↔ Wp 59 49 (some (.ref i) :: ls) (.ref i :: st) h Q) ∧
  (∀ (ls : Lo) (st : List Value) (n sl : Nat) (C Z : Nat → Nat) (I : Nat → Nat → Int32) (L : Nat → Nat → Int64) (R : Nat → Nat → Nat) (Q : Option Value → Hp → Prop)  (i : Nat), C i = 10 → (Wp 59 49 (ls) (.ref i :: st) (n, sl, C, Z, I, L, R) Q ↔ (wsum st ≤ 8 ∧ Call 91 [some (.ref i)] (n, sl, C, Z, I, L, R) 59 52 ls st Q))) ∧
  (∀ (ls : Lo) (st : List Value) (h : Hp) (Q : Option Value → Hp → Prop) (x : Int32), Wp 59 52 (ls) (.int x :: st) h Q ↔ Br 59 58 55 ls st h Q (x = 0)) ∧
  (∀ (ls : Lo) (st : List Value) (h : Hp) (Q : Option Value → Hp → Prop), Wp 59 55 (ls) (st) h Q ↔ Wp 59 57 (ls) (.int (-4) :: st) h Q) ∧
  (∀ (ls : Lo) (h : Hp) (Q : Option Value → Hp → Prop) (x : Int32), Wp 59 57 (ls) ([.int x]) h Q ↔ Q (some (.int x)) h) ∧
  (∀ (ls : Lo) (st : List Value) (h : Hp) (Q : Option Value → Hp → Prop)  (i : Nat), Wp 59 58 (some (.ref i) :: ls) (st) h Q ↔ Wp 59 59 (some (.ref i) :: ls) (.ref i :: st) h Q) ∧
  (∀ (ls : Lo) (st : List Value) (h : Hp) (Q : Option Value → Hp → Prop) (l0 : Option Value) (x : Int32), Wp 59 59 (l0 :: some (.int x) :: ls) (st) h Q ↔ Wp 59 60 (l0 :: some (.int x) :: ls) (.int x :: st) h Q) ∧
  (∀ (ls : Lo) (st : List Value) (h : Hp) (Q : Option Value → Hp → Prop), Wp 59 60 (ls) (st) h Q ↔ Wp 59 61 (ls) (.int (1) :: st) h Q) ∧
  (∀ (ls : Lo) (st : List Value) (h : Hp) (Q : Option Value → Hp → Prop) (x y : Int32), Wp 59 61 (ls) (.int y :: .int x :: st) h Q ↔ Br 59 80 64 ls st h Q (¬ x = y)) ∧
  (∀ (ls : Lo) (st : List Value) (n sl : Nat) (C Z : Nat → Nat) (I : Nat → Nat → Int32) (L : Nat → Nat → Int64) (R : Nat → Nat → Nat) (Q : Option Value → Hp → Prop), Wp 59 64 (ls) (st) (n, sl, C, Z, I, L, R) Q ↔ Wp 59 67 (ls) (.ref (n + 1) :: st) (n + 1, sl + 7, va_up C (n + 1) 2, Z, va_up I (n + 1) (fun _ => 0), va_up L (n + 1) (fun _ => 0), va_up R (n + 1) (fun _ => 0)) Q) ∧
  (∀ (ls : Lo) (st : List Value) (h : Hp) (Q : Option Value → Hp → Prop) (x : Int32), Wp 59 67 (ls) (.int x :: st) h Q ↔ Wp 59 68 (ls) (.int x :: .int x :: st) h Q) ∧
  (∀ (ls : Lo) (st : List Value) (h : Hp) (Q : Option Value → Hp → Prop) (i : Nat), Wp 59 67 (ls) (.ref i :: st) h Q ↔ Wp 59 68 (ls) (.ref i :: .ref i :: st) h Q) ∧
  (∀ (ls : Lo) (st : List Value) (h : Hp) (Q : Option Value → Hp → Prop)  (i : Nat), Wp 59 68 (some (.ref i) :: ls) (st) h Q ↔ Wp 59 69 (some (.ref i) :: ls) (.ref i :: st) h Q) ∧
  (∀ (ls : Lo) (st : List Value) (n sl : Nat) (C Z : Nat → Nat) (I : Nat → Nat → Int32) (L : Nat → Nat → Int64) (R : Nat → Nat → Nat) (Q : Option Value → Hp → Prop) (i : Nat), Wp 59 69 (ls) (.ref i :: st) (n, sl, C, Z, I, L, R) Q ↔ (C i = 10 ∧ Wp 59 72 (ls) (.int (I i 1) :: st) (n, sl, C, Z, I, L, R) Q)) ∧
  (∀ (ls : Lo) (st : List Value) (h : Hp) (Q : Option Value → Hp → Prop) (l0 l1 : Option Value) (x : Int32), Wp 59 72 (l0 :: l1 :: some (.int x) :: ls) (st) h Q ↔ Wp 59 73 (l0 :: l1 :: some (.int x) :: ls) (.int x :: st) h Q) ∧
  (∀ (ls : Lo) (st : List Value) (h : Hp) (Q : Option Value → Hp → Prop) (l0 l1 l2 : Option Value) (x : Int32), Wp 59 73 (l0 :: l1 :: l2 :: some (.int x) :: ls) (st) h Q ↔ Wp 59 74 (l0 :: l1 :: l2 :: some (.int x) :: ls) (.int x :: st) h Q) ∧
  (∀ (ls : Lo) (st : List Value) (h : Hp) (Q : Option Value → Hp → Prop) (x0 : Int32) (x1 : Int32) (x2 : Int32) (i : Nat), i ≠ 0 → (Wp 59 74 (ls) (.int x2 :: .int x1 :: .int x0 :: .ref i :: st) h Q ↔ (wsum st ≤ 8 ∧ Call 9 [some (.ref i), some (.int x0), some (.int x1), some (.int x2)] h 59 77 ls st Q))) ∧
  (∀ (ls : Lo) (st : List Value) (h : Hp) (Q : Option Value → Hp → Prop), Wp 59 77 (ls) (st) h Q ↔ Wp 59 93 (ls) (st) h Q) ∧
  (∀ (ls : Lo) (st : List Value) (n sl : Nat) (C Z : Nat → Nat) (I : Nat → Nat → Int32) (L : Nat → Nat → Int64) (R : Nat → Nat → Nat) (Q : Option Value → Hp → Prop), Wp 59 80 (ls) (st) (n, sl, C, Z, I, L, R) Q ↔ Wp 59 83 (ls) (.ref (n + 1) :: st) (n + 1, sl + 7, va_up C (n + 1) 8, Z, va_up I (n + 1) (fun _ => 0), va_up L (n + 1) (fun _ => 0), va_up R (n + 1) (fun _ => 0)) Q) ∧
  (∀ (ls : Lo) (st : List Value) (h : Hp) (Q : Option Value → Hp → Prop) (x : Int32), Wp 59 83 (ls) (.int x :: st) h Q ↔ Wp 59 84 (ls) (.int x :: .int x :: st) h Q) ∧
  (∀ (ls : Lo) (st : List Value) (h : Hp) (Q : Option Value → Hp → Prop) (i : Nat), Wp 59 83 (ls) (.ref i :: st) h Q ↔ Wp 59 84 (ls) (.ref i :: .ref i :: st) h Q) ∧
  (∀ (ls : Lo) (st : List Value) (h : Hp) (Q : Option Value → Hp → Prop)  (i : Nat), Wp 59 84 (some (.ref i) :: ls) (st) h Q ↔ Wp 59 85 (some (.ref i) :: ls) (.ref i :: st) h Q) ∧
  (∀ (ls : Lo) (st : List Value) (n sl : Nat) (C Z : Nat → Nat) (I : Nat → Nat → Int32) (L : Nat → Nat → Int64) (R : Nat → Nat → Nat) (Q : Option Value → Hp → Prop) (i : Nat), Wp 59 85 (ls) (.ref i :: st) (n, sl, C, Z, I, L, R) Q ↔ (C i = 10 ∧ Wp 59 88 (ls) (.int (I i 1) :: st) (n, sl, C, Z, I, L, R) Q)) := ⟨by intro ls st h Q; exact e_bipush d59_45 rfl,
  by intros; exact e_rI (p := True) d59_47 rfl,
  by intro ls st h Q i; exact e_aload_n d59_48 rfl,
  by intro ls st n sl C Z I L R Q i hh; exact e_iv (k2 := 91) (c := 10) (as := []) d59_49 rfl (by decide) rfl rfl (by decide +kernel) (Nat.le_of_ble_eq_true rfl) rfl hh,
  by intro ls st h Q x; exact e_if d59_52 (by decide) c_eq,
  by intro ls st h Q; exact e_bipush d59_55 rfl,
  by intros; exact e_rI (p := True) d59_57 rfl,
  by intro ls st h Q i; exact e_aload_n d59_58 rfl,
  by intro ls st h Q l0 x; exact e_iload_n d59_59 rfl,
  by intro ls st h Q; exact e_iconst d59_60 rfl,
  by intro ls st h Q x y; exact e_ic d59_61 (by decide) c_ne,
  by intro ls st n sl C Z I L R Q; exact e_new (p := 294) (c := 1) d59_64 rfl (by decide) rfl,
  by intro ls st h Q x; exact e_dupI d59_67,
  by intro ls st h Q i; exact e_dupR d59_67,
  by intro ls st h Q i; exact e_aload_n d59_68 rfl,
  by intro ls st n sl C Z I L R Q i; exact e_get (g := 9) (s := 1) (ty := 0) d59_69 rfl rfl (inG_ne (by decide)),
  by intro ls st h Q l0 l1 x; exact e_iload_n d59_72 rfl,
  by intro ls st h Q l0 l1 l2 x; exact e_iload_n d59_73 rfl,
  by intro ls st h Q x0 x1 x2 i hh; exact e_ip (k2 := 9) (as := [.int x0, .int x1, .int x2]) d59_74 rfl (by decide) rfl rfl (by decide +kernel) (Nat.le_of_ble_eq_true rfl) rfl hh,
  by intro ls st h Q; exact e_goto d59_77 (by decide),
  by intro ls st n sl C Z I L R Q; exact e_new (p := 76) (c := 7) d59_80 rfl (by decide) rfl,
  by intro ls st h Q x; exact e_dupI d59_83,
  by intro ls st h Q i; exact e_dupR d59_83,
  by intro ls st h Q i; exact e_aload_n d59_84 rfl,
  by intro ls st n sl C Z I L R Q i; exact e_get (g := 9) (s := 1) (ty := 0) d59_85 rfl rfl (inG_ne (by decide))⟩
set_option maxRecDepth 20000 in
theorem S59_2 : (∀ (ls : Lo) (st : List Value) (h : Hp) (Q : Option Value → Hp → Prop) (l0 l1 : Option Value) (x : Int32), Wp 59 88 (l0 :: l1 :: some (.int x) :: ls) (st) h Q ↔ Wp 59 89 (l0 :: l1 :: some (.int x) :: ls) (.int x :: st) h Q) ∧
  (∀ (ls : Lo) (st : List Value) (h : Hp) (Q : Option Value → Hp → Prop) (l0 l1 l2 : Option Value) (x : Int32), Wp 59 89 (l0 :: l1 :: l2 :: some (.int x) :: ls) (st) h Q ↔ Wp 59 90 (l0 :: l1 :: l2 :: some (.int x) :: ls) (.int x :: st) h Q) ∧
  (∀ (ls : Lo) (st : List Value) (h : Hp) (Q : Option Value → Hp → Prop) (x0 : Int32) (x1 : Int32) (x2 : Int32) (i : Nat), i ≠ 0 → (Wp 59 90 (ls) (.int x2 :: .int x1 :: .int x0 :: .ref i :: st) h Q ↔ (wsum st ≤ 8 ∧ Call 51 [some (.ref i), some (.int x0), some (.int x1), some (.int x2)] h 59 93 ls st Q))) ∧
  (∀ (ls : Lo) (st : List Value) (n sl : Nat) (C Z : Nat → Nat) (I : Nat → Nat → Int32) (L : Nat → Nat → Int64) (R : Nat → Nat → Nat) (Q : Option Value → Hp → Prop) (x0 : Nat) (i : Nat), C i = 10 → (Wp 59 93 (ls) (.ref x0 :: .ref i :: st) (n, sl, C, Z, I, L, R) Q ↔ (wsum st ≤ 8 ∧ Call 95 [some (.ref i), some (.ref x0)] (n, sl, C, Z, I, L, R) 59 96 ls st Q))) ∧
  (∀ (ls : Lo) (h : Hp) (Q : Option Value → Hp → Prop) (x : Int32), Wp 59 96 (ls) ([.int x]) h Q ↔ Q (some (.int x)) h) := ⟨by intro ls st h Q l0 l1 x; exact e_iload_n d59_88 rfl,
  by intro ls st h Q l0 l1 l2 x; exact e_iload_n d59_89 rfl,
  by intro ls st h Q x0 x1 x2 i hh; exact e_ip (k2 := 51) (as := [.int x0, .int x1, .int x2]) d59_90 rfl (by decide) rfl rfl (by decide +kernel) (Nat.le_of_ble_eq_true rfl) rfl hh,
  by intro ls st n sl C Z I L R Q x0 i hh; exact e_iv (k2 := 95) (c := 10) (as := [.ref x0]) d59_93 rfl (by decide) rfl rfl (by decide +kernel) (Nat.le_of_ble_eq_true rfl) rfl hh,
  by intros; exact e_rI (p := True) d59_96 rfl⟩
theorem d60_0 : decode (byt 60) 0 = .ok (.aload_n 0, 1) := by decide +kernel
theorem d60_1 : decode (byt 60) 1 = .ok (.iload_n 1, 1) := by decide +kernel
theorem d60_2 : decode (byt 60) 2 = .ok (.invokevirtual 84, 3) := by decide +kernel
theorem d60_5 : decode (byt 60) 5 = .ok (.astore 6, 2) := by decide +kernel
theorem d60_7 : decode (byt 60) 7 = .ok (.aload 6, 2) := by decide +kernel
theorem d60_9 : decode (byt 60) 9 = .ok (.iload_n 2, 1) := by decide +kernel
theorem d60_10 : decode (byt 60) 10 = .ok (.iload_n 3, 1) := by decide +kernel
theorem d60_11 : decode (byt 60) 11 = .ok (.iload 4, 2) := by decide +kernel
theorem d60_13 : decode (byt 60) 13 = .ok (.invokestatic 88, 3) := by decide +kernel
theorem d60_16 : decode (byt 60) 16 = .ok (.istore 7, 2) := by decide +kernel
theorem d60_18 : decode (byt 60) 18 = .ok (.aload 6, 2) := by decide +kernel
theorem d60_20 : decode (byt 60) 20 = .ok (.ifnull 19, 3) := by decide +kernel
theorem d60_23 : decode (byt 60) 23 = .ok (.iload 7, 2) := by decide +kernel
theorem d60_25 : decode (byt 60) 25 = .ok (.ifCond .lt 14, 3) := by decide +kernel
theorem d60_28 : decode (byt 60) 28 = .ok (.iload 5, 2) := by decide +kernel
theorem d60_30 : decode (byt 60) 30 = .ok (.bipush (-3), 2) := by decide +kernel
theorem d60_32 : decode (byt 60) 32 = .ok (.iconst 3, 1) := by decide +kernel
theorem d60_33 : decode (byt 60) 33 = .ok (.invokestatic 66, 3) := by decide +kernel
theorem d60_36 : decode (byt 60) 36 = .ok (.ifCond .ne 6, 3) := by decide +kernel
theorem d60_39 : decode (byt 60) 39 = .ok (.bipush (-2), 2) := by decide +kernel
theorem d60_41 : decode (byt 60) 41 = .ok (.ireturn, 1) := by decide +kernel
theorem d60_42 : decode (byt 60) 42 = .ok (.aload 6, 2) := by decide +kernel
theorem d60_44 : decode (byt 60) 44 = .ok (.instanceof 92, 3) := by decide +kernel
theorem d60_47 : decode (byt 60) 47 = .ok (.ifCond .eq 6, 3) := by decide +kernel
theorem d60_50 : decode (byt 60) 50 = .ok (.bipush (-3), 2) := by decide +kernel
theorem d60_52 : decode (byt 60) 52 = .ok (.ireturn, 1) := by decide +kernel
theorem d60_53 : decode (byt 60) 53 = .ok (.aload 6, 2) := by decide +kernel
theorem d60_55 : decode (byt 60) 55 = .ok (.iload_n 2, 1) := by decide +kernel
theorem d60_56 : decode (byt 60) 56 = .ok (.invokevirtual 94, 3) := by decide +kernel
theorem d60_59 : decode (byt 60) 59 = .ok (.astore 8, 2) := by decide +kernel
theorem d60_61 : decode (byt 60) 61 = .ok (.aload 8, 2) := by decide +kernel
theorem d60_63 : decode (byt 60) 63 = .ok (.iload 7, 2) := by decide +kernel
theorem d60_65 : decode (byt 60) 65 = .ok (.iaload, 1) := by decide +kernel
theorem d60_66 : decode (byt 60) 66 = .ok (.istore 9, 2) := by decide +kernel
theorem d60_68 : decode (byt 60) 68 = .ok (.aload 8, 2) := by decide +kernel
theorem d60_70 : decode (byt 60) 70 = .ok (.iload 7, 2) := by decide +kernel
theorem d60_72 : decode (byt 60) 72 = .ok (.iload 5, 2) := by decide +kernel
theorem d60_74 : decode (byt 60) 74 = .ok (.iastore, 1) := by decide +kernel
theorem d60_75 : decode (byt 60) 75 = .ok (.iload 9, 2) := by decide +kernel
theorem d60_77 : decode (byt 60) 77 = .ok (.bipush 10, 2) := by decide +kernel
theorem d60_79 : decode (byt 60) 79 = .ok (.iadd, 1) := by decide +kernel
theorem d60_80 : decode (byt 60) 80 = .ok (.ireturn, 1) := by decide +kernel
set_option maxRecDepth 20000 in
theorem S60_0 : (∀ (ls : Lo) (st : List Value) (h : Hp) (Q : Option Value → Hp → Prop)  (i : Nat), Wp 60 0 (some (.ref i) :: ls) (st) h Q ↔ Wp 60 1 (some (.ref i) :: ls) (.ref i :: st) h Q) ∧
  (∀ (ls : Lo) (st : List Value) (h : Hp) (Q : Option Value → Hp → Prop) (l0 : Option Value) (x : Int32), Wp 60 1 (l0 :: some (.int x) :: ls) (st) h Q ↔ Wp 60 2 (l0 :: some (.int x) :: ls) (.int x :: st) h Q) ∧
  (∀ (ls : Lo) (st : List Value) (n sl : Nat) (C Z : Nat → Nat) (I : Nat → Nat → Int32) (L : Nat → Nat → Int64) (R : Nat → Nat → Nat) (Q : Option Value → Hp → Prop) (x0 : Int32) (i : Nat), C i = 10 → (Wp 60 2 (ls) (.int x0 :: .ref i :: st) (n, sl, C, Z, I, L, R) Q ↔ (wsum st ≤ 8 ∧ Call 92 [some (.ref i), some (.int x0)] (n, sl, C, Z, I, L, R) 60 5 ls st Q))) ∧
  (∀ (ls : Lo) (st : List Value) (h : Hp) (Q : Option Value → Hp → Prop) (l0 l1 l2 l3 l4 l5 l6 : Option Value) (i : Nat), Wp 60 5 (l0 :: l1 :: l2 :: l3 :: l4 :: l5 :: l6 :: ls) (.ref i :: st) h Q ↔ Wp 60 7 (l0 :: l1 :: l2 :: l3 :: l4 :: clr l5 :: some (.ref i) :: ls) (st) h Q) ∧
  (∀ (ls : Lo) (st : List Value) (h : Hp) (Q : Option Value → Hp → Prop) (l0 l1 l2 l3 l4 l5 : Option Value) (i : Nat), Wp 60 7 (l0 :: l1 :: l2 :: l3 :: l4 :: l5 :: some (.ref i) :: ls) (st) h Q ↔ Wp 60 9 (l0 :: l1 :: l2 :: l3 :: l4 :: l5 :: some (.ref i) :: ls) (.ref i :: st) h Q) ∧
  (∀ (ls : Lo) (st : List Value) (h : Hp) (Q : Option Value → Hp → Prop) (l0 l1 : Option Value) (x : Int32), Wp 60 9 (l0 :: l1 :: some (.int x) :: ls) (st) h Q ↔ Wp 60 10 (l0 :: l1 :: some (.int x) :: ls) (.int x :: st) h Q) ∧
  (∀ (ls : Lo) (st : List Value) (h : Hp) (Q : Option Value → Hp → Prop) (l0 l1 l2 : Option Value) (x : Int32), Wp 60 10 (l0 :: l1 :: l2 :: some (.int x) :: ls) (st) h Q ↔ Wp 60 11 (l0 :: l1 :: l2 :: some (.int x) :: ls) (.int x :: st) h Q) ∧
  (∀ (ls : Lo) (st : List Value) (h : Hp) (Q : Option Value → Hp → Prop) (l0 l1 l2 l3 : Option Value) (x : Int32), Wp 60 11 (l0 :: l1 :: l2 :: l3 :: some (.int x) :: ls) (st) h Q ↔ Wp 60 13 (l0 :: l1 :: l2 :: l3 :: some (.int x) :: ls) (.int x :: st) h Q) ∧
  (∀ (ls : Lo) (st : List Value) (h : Hp) (Q : Option Value → Hp → Prop) (x0 : Nat) (x1 : Int32) (x2 : Int32) (x3 : Int32), Wp 60 13 (ls) (.int x3 :: .int x2 :: .int x1 :: .ref x0 :: st) h Q ↔ (wsum st ≤ 8 ∧ Call 94 [some (.ref x0), some (.int x1), some (.int x2), some (.int x3)] h 60 16 ls st Q)) ∧
  (∀ (ls : Lo) (st : List Value) (h : Hp) (Q : Option Value → Hp → Prop) (l0 l1 l2 l3 l4 l5 l6 l7 : Option Value) (x : Int32), Wp 60 16 (l0 :: l1 :: l2 :: l3 :: l4 :: l5 :: l6 :: l7 :: ls) (.int x :: st) h Q ↔ Wp 60 18 (l0 :: l1 :: l2 :: l3 :: l4 :: l5 :: clr l6 :: some (.int x) :: ls) (st) h Q) ∧
  (∀ (ls : Lo) (st : List Value) (h : Hp) (Q : Option Value → Hp → Prop) (l0 l1 l2 l3 l4 l5 : Option Value) (i : Nat), Wp 60 18 (l0 :: l1 :: l2 :: l3 :: l4 :: l5 :: some (.ref i) :: ls) (st) h Q ↔ Wp 60 20 (l0 :: l1 :: l2 :: l3 :: l4 :: l5 :: some (.ref i) :: ls) (.ref i :: st) h Q) ∧
  (∀ (ls : Lo) (st : List Value) (h : Hp) (Q : Option Value → Hp → Prop) (i : Nat), Wp 60 20 (ls) (.ref i :: st) h Q ↔ Br 60 39 23 ls st h Q (i = 0)) ∧
  (∀ (ls : Lo) (st : List Value) (h : Hp) (Q : Option Value → Hp → Prop) (l0 l1 l2 l3 l4 l5 l6 : Option Value) (x : Int32), Wp 60 23 (l0 :: l1 :: l2 :: l3 :: l4 :: l5 :: l6 :: some (.int x) :: ls) (st) h Q ↔ Wp 60 25 (l0 :: l1 :: l2 :: l3 :: l4 :: l5 :: l6 :: some (.int x) :: ls) (.int x :: st) h Q) ∧
  (∀ (ls : Lo) (st : List Value) (h : Hp) (Q : Option Value → Hp → Prop) (x : Int32), Wp 60 25 (ls) (.int x :: st) h Q ↔ Br 60 39 28 ls st h Q (x < 0)) ∧
  (∀ (ls : Lo) (st : List Value) (h : Hp) (Q : Option Value → Hp → Prop) (l0 l1 l2 l3 l4 : Option Value) (x : Int32), Wp 60 28 (l0 :: l1 :: l2 :: l3 :: l4 :: some (.int x) :: ls) (st) h Q ↔ Wp 60 30 (l0 :: l1 :: l2 :: l3 :: l4 :: some (.int x) :: ls) (.int x :: st) h Q) ∧
  (∀ (ls : Lo) (st : List Value) (h : Hp) (Q : Option Value → Hp → Prop), Wp 60 30 (ls) (st) h Q ↔ Wp 60 32 (ls) (.int (-3) :: st) h Q) ∧
  (∀ (ls : Lo) (st : List Value) (h : Hp) (Q : Option Value → Hp → Prop), Wp 60 32 (ls) (st) h Q ↔ Wp 60 33 (ls) (.int (3) :: st) h Q) ∧
  (∀ (ls : Lo) (st : List Value) (h : Hp) (Q : Option Value → Hp → Prop) (x0 : Int32) (x1 : Int32) (x2 : Int32), Wp 60 33 (ls) (.int x2 :: .int x1 :: .int x0 :: st) h Q ↔ (wsum st ≤ 8 ∧ Call 87 [some (.int x0), some (.int x1), some (.int x2)] h 60 36 ls st Q)) ∧
  (∀ (ls : Lo) (st : List Value) (h : Hp) (Q : Option Value → Hp → Prop) (x : Int32), Wp 60 36 (ls) (.int x :: st) h Q ↔ Br 60 42 39 ls st h Q (¬ x = 0)) ∧
  (∀ (ls : Lo) (st : List Value) (h : Hp) (Q : Option Value → Hp → Prop), Wp 60 39 (ls) (st) h Q ↔ Wp 60 41 (ls) (.int (-2) :: st) h Q) ∧
  (∀ (ls : Lo) (h : Hp) (Q : Option Value → Hp → Prop) (x : Int32), Wp 60 41 (ls) ([.int x]) h Q ↔ Q (some (.int x)) h) ∧
  (∀ (ls : Lo) (st : List Value) (h : Hp) (Q : Option Value → Hp → Prop) (l0 l1 l2 l3 l4 l5 : Option Value) (i : Nat), Wp 60 42 (l0 :: l1 :: l2 :: l3 :: l4 :: l5 :: some (.ref i) :: ls) (st) h Q ↔ Wp 60 44 (l0 :: l1 :: l2 :: l3 :: l4 :: l5 :: some (.ref i) :: ls) (.ref i :: st) h Q) ∧
  (∀ (ls : Lo) (st : List Value) (n sl : Nat) (C Z : Nat → Nat) (I : Nat → Nat → Int32) (L : Nat → Nat → Int64) (R : Nat → Nat → Nat) (Q : Option Value → Hp → Prop) (i : Nat), Wp 60 44 (ls) (.ref i :: st) (n, sl, C, Z, I, L, R) Q ↔ (inG 7 (C i) = true ∧ Wp 60 47 (ls) (.int (if isa (C i) 4 = true then 1 else 0) :: st) (n, sl, C, Z, I, L, R) Q)) ∧
  (∀ (ls : Lo) (st : List Value) (h : Hp) (Q : Option Value → Hp → Prop) (x : Int32), Wp 60 47 (ls) (.int x :: st) h Q ↔ Br 60 53 50 ls st h Q (x = 0)) ∧
  (∀ (ls : Lo) (st : List Value) (h : Hp) (Q : Option Value → Hp → Prop), Wp 60 50 (ls) (st) h Q ↔ Wp 60 52 (ls) (.int (-3) :: st) h Q) := ⟨by intro ls st h Q i; exact e_aload_n d60_0 rfl,
  by intro ls st h Q l0 x; exact e_iload_n d60_1 rfl,
  by intro ls st n sl C Z I L R Q x0 i hh; exact e_iv (k2 := 92) (c := 10) (as := [.int x0]) d60_2 rfl (by decide) rfl rfl (by decide +kernel) (Nat.le_of_ble_eq_true rfl) rfl hh,
  by intro ls st h Q l0 l1 l2 l3 l4 l5 l6 i; exact e_astore d60_5 rfl,
  by intro ls st h Q l0 l1 l2 l3 l4 l5 i; exact e_aload d60_7 rfl,
  by intro ls st h Q l0 l1 x; exact e_iload_n d60_9 rfl,
  by intro ls st h Q l0 l1 l2 x; exact e_iload_n d60_10 rfl,
  by intro ls st h Q l0 l1 l2 l3 x; exact e_iload d60_11 rfl,
  by intro ls st h Q x0 x1 x2 x3; exact e_is (k2 := 94) (as := [.ref x0, .int x1, .int x2, .int x3]) d60_13 rfl (by decide) rfl rfl (by decide +kernel) (Nat.le_of_ble_eq_true rfl) rfl,
  by intro ls st h Q l0 l1 l2 l3 l4 l5 l6 l7 x; exact e_istore d60_16 rfl,
  by intro ls st h Q l0 l1 l2 l3 l4 l5 i; exact e_aload d60_18 rfl,
  by intro ls st h Q i; exact e_ifnull d60_20 (by decide),
  by intro ls st h Q l0 l1 l2 l3 l4 l5 l6 x; exact e_iload d60_23 rfl,
  by intro ls st h Q x; exact e_if d60_25 (by decide) c_lt,
  by intro ls st h Q l0 l1 l2 l3 l4 x; exact e_iload d60_28 rfl,
  by intro ls st h Q; exact e_bipush d60_30 rfl,
  by intro ls st h Q; exact e_iconst d60_32 rfl,
  by intro ls st h Q x0 x1 x2; exact e_is (k2 := 87) (as := [.int x0, .int x1, .int x2]) d60_33 rfl (by decide) rfl rfl (by decide +kernel) (Nat.le_of_ble_eq_true rfl) rfl,
  by intro ls st h Q x; exact e_if d60_36 (by decide) c_ne,
  by intro ls st h Q; exact e_bipush d60_39 rfl,
  by intros; exact e_rI (p := True) d60_41 rfl,
  by intro ls st h Q l0 l1 l2 l3 l4 l5 i; exact e_aload d60_42 rfl,
  by intro ls st n sl C Z I L R Q i; exact e_io (p := 324) (c := 4) d60_44 rfl (by decide),
  by intro ls st h Q x; exact e_if d60_47 (by decide) c_eq,
  by intro ls st h Q; exact e_bipush d60_50 rfl⟩
set_option maxRecDepth 20000 in
theorem S60_1 : (∀ (ls : Lo) (h : Hp) (Q : Option Value → Hp → Prop) (x : Int32), Wp 60 52 (ls) ([.int x]) h Q ↔ Q (some (.int x)) h) ∧
  (∀ (ls : Lo) (st : List Value) (h : Hp) (Q : Option Value → Hp → Prop) (l0 l1 l2 l3 l4 l5 : Option Value) (i : Nat), Wp 60 53 (l0 :: l1 :: l2 :: l3 :: l4 :: l5 :: some (.ref i) :: ls) (st) h Q ↔ Wp 60 55 (l0 :: l1 :: l2 :: l3 :: l4 :: l5 :: some (.ref i) :: ls) (.ref i :: st) h Q) ∧
  (∀ (ls : Lo) (st : List Value) (h : Hp) (Q : Option Value → Hp → Prop) (l0 l1 : Option Value) (x : Int32), Wp 60 55 (l0 :: l1 :: some (.int x) :: ls) (st) h Q ↔ Wp 60 56 (l0 :: l1 :: some (.int x) :: ls) (.int x :: st) h Q) ∧
  (∀ (ls : Lo) (st : List Value) (n sl : Nat) (C Z : Nat → Nat) (I : Nat → Nat → Int32) (L : Nat → Nat → Int64) (R : Nat → Nat → Nat) (Q : Option Value → Hp → Prop) (x0 : Int32) (i : Nat), C i = 2 → (Wp 60 56 (ls) (.int x0 :: .ref i :: st) (n, sl, C, Z, I, L, R) Q ↔ (wsum st ≤ 8 ∧ Call 53 [some (.ref i), some (.int x0)] (n, sl, C, Z, I, L, R) 60 59 ls st Q))) ∧
  (∀ (ls : Lo) (st : List Value) (n sl : Nat) (C Z : Nat → Nat) (I : Nat → Nat → Int32) (L : Nat → Nat → Int64) (R : Nat → Nat → Nat) (Q : Option Value → Hp → Prop) (x0 : Int32) (i : Nat), C i = 5 → (Wp 60 56 (ls) (.int x0 :: .ref i :: st) (n, sl, C, Z, I, L, R) Q ↔ (wsum st ≤ 8 ∧ Call 53 [some (.ref i), some (.int x0)] (n, sl, C, Z, I, L, R) 60 59 ls st Q))) ∧
  (∀ (ls : Lo) (st : List Value) (n sl : Nat) (C Z : Nat → Nat) (I : Nat → Nat → Int32) (L : Nat → Nat → Int64) (R : Nat → Nat → Nat) (Q : Option Value → Hp → Prop) (x0 : Int32) (i : Nat), C i = 6 → (Wp 60 56 (ls) (.int x0 :: .ref i :: st) (n, sl, C, Z, I, L, R) Q ↔ (wsum st ≤ 8 ∧ Call 53 [some (.ref i), some (.int x0)] (n, sl, C, Z, I, L, R) 60 59 ls st Q))) ∧
  (∀ (ls : Lo) (st : List Value) (n sl : Nat) (C Z : Nat → Nat) (I : Nat → Nat → Int32) (L : Nat → Nat → Int64) (R : Nat → Nat → Nat) (Q : Option Value → Hp → Prop) (x0 : Int32) (i : Nat), C i = 8 → (Wp 60 56 (ls) (.int x0 :: .ref i :: st) (n, sl, C, Z, I, L, R) Q ↔ (wsum st ≤ 8 ∧ Call 53 [some (.ref i), some (.int x0)] (n, sl, C, Z, I, L, R) 60 59 ls st Q))) ∧
  (∀ (ls : Lo) (st : List Value) (h : Hp) (Q : Option Value → Hp → Prop) (l0 l1 l2 l3 l4 l5 l6 l7 l8 : Option Value) (i : Nat), Wp 60 59 (l0 :: l1 :: l2 :: l3 :: l4 :: l5 :: l6 :: l7 :: l8 :: ls) (.ref i :: st) h Q ↔ Wp 60 61 (l0 :: l1 :: l2 :: l3 :: l4 :: l5 :: l6 :: clr l7 :: some (.ref i) :: ls) (st) h Q) ∧
  (∀ (ls : Lo) (st : List Value) (h : Hp) (Q : Option Value → Hp → Prop) (l0 l1 l2 l3 l4 l5 l6 l7 : Option Value) (i : Nat), Wp 60 61 (l0 :: l1 :: l2 :: l3 :: l4 :: l5 :: l6 :: l7 :: some (.ref i) :: ls) (st) h Q ↔ Wp 60 63 (l0 :: l1 :: l2 :: l3 :: l4 :: l5 :: l6 :: l7 :: some (.ref i) :: ls) (.ref i :: st) h Q) ∧
  (∀ (ls : Lo) (st : List Value) (h : Hp) (Q : Option Value → Hp → Prop) (l0 l1 l2 l3 l4 l5 l6 : Option Value) (x : Int32), Wp 60 63 (l0 :: l1 :: l2 :: l3 :: l4 :: l5 :: l6 :: some (.int x) :: ls) (st) h Q ↔ Wp 60 65 (l0 :: l1 :: l2 :: l3 :: l4 :: l5 :: l6 :: some (.int x) :: ls) (.int x :: st) h Q) ∧
  (∀ (ls : Lo) (st : List Value) (n sl : Nat) (C Z : Nat → Nat) (I : Nat → Nat → Int32) (L : Nat → Nat → Int64) (R : Nat → Nat → Nat) (Q : Option Value → Hp → Prop) (i : Nat) (y : Int32), Wp 60 65 (ls) (.int y :: .ref i :: st) (n, sl, C, Z, I, L, R) Q ↔ ((inb y (Z i) = true ∧ C i = 21) ∧ Wp 60 66 (ls) (.int (I i (ix y)) :: st) (n, sl, C, Z, I, L, R) Q)) ∧
  (∀ (ls : Lo) (st : List Value) (h : Hp) (Q : Option Value → Hp → Prop) (l0 l1 l2 l3 l4 l5 l6 l7 l8 l9 : Option Value) (x : Int32), Wp 60 66 (l0 :: l1 :: l2 :: l3 :: l4 :: l5 :: l6 :: l7 :: l8 :: l9 :: ls) (.int x :: st) h Q ↔ Wp 60 68 (l0 :: l1 :: l2 :: l3 :: l4 :: l5 :: l6 :: l7 :: clr l8 :: some (.int x) :: ls) (st) h Q) ∧
  (∀ (ls : Lo) (st : List Value) (h : Hp) (Q : Option Value → Hp → Prop) (l0 l1 l2 l3 l4 l5 l6 l7 : Option Value) (i : Nat), Wp 60 68 (l0 :: l1 :: l2 :: l3 :: l4 :: l5 :: l6 :: l7 :: some (.ref i) :: ls) (st) h Q ↔ Wp 60 70 (l0 :: l1 :: l2 :: l3 :: l4 :: l5 :: l6 :: l7 :: some (.ref i) :: ls) (.ref i :: st) h Q) ∧
  (∀ (ls : Lo) (st : List Value) (h : Hp) (Q : Option Value → Hp → Prop) (l0 l1 l2 l3 l4 l5 l6 : Option Value) (x : Int32), Wp 60 70 (l0 :: l1 :: l2 :: l3 :: l4 :: l5 :: l6 :: some (.int x) :: ls) (st) h Q ↔ Wp 60 72 (l0 :: l1 :: l2 :: l3 :: l4 :: l5 :: l6 :: some (.int x) :: ls) (.int x :: st) h Q) ∧
  (∀ (ls : Lo) (st : List Value) (h : Hp) (Q : Option Value → Hp → Prop) (l0 l1 l2 l3 l4 : Option Value) (x : Int32), Wp 60 72 (l0 :: l1 :: l2 :: l3 :: l4 :: some (.int x) :: ls) (st) h Q ↔ Wp 60 74 (l0 :: l1 :: l2 :: l3 :: l4 :: some (.int x) :: ls) (.int x :: st) h Q) ∧
  (∀ (ls : Lo) (st : List Value) (n sl : Nat) (C Z : Nat → Nat) (I : Nat → Nat → Int32) (L : Nat → Nat → Int64) (R : Nat → Nat → Nat) (Q : Option Value → Hp → Prop) (i : Nat) (x y : Int32), Wp 60 74 (ls) (.int x :: .int y :: .ref i :: st) (n, sl, C, Z, I, L, R) Q ↔ ((inb y (Z i) = true ∧ C i = 21) ∧ Wp 60 75 (ls) (st) (n, sl, C, Z, u2 I i (ix y) x, L, R) Q)) ∧
  (∀ (ls : Lo) (st : List Value) (h : Hp) (Q : Option Value → Hp → Prop) (l0 l1 l2 l3 l4 l5 l6 l7 l8 : Option Value) (x : Int32), Wp 60 75 (l0 :: l1 :: l2 :: l3 :: l4 :: l5 :: l6 :: l7 :: l8 :: some (.int x) :: ls) (st) h Q ↔ Wp 60 77 (l0 :: l1 :: l2 :: l3 :: l4 :: l5 :: l6 :: l7 :: l8 :: some (.int x) :: ls) (.int x :: st) h Q) ∧
  (∀ (ls : Lo) (st : List Value) (h : Hp) (Q : Option Value → Hp → Prop), Wp 60 77 (ls) (st) h Q ↔ Wp 60 79 (ls) (.int (10) :: st) h Q) ∧
  (∀ (ls : Lo) (st : List Value) (h : Hp) (Q : Option Value → Hp → Prop) (x y : Int32), Wp 60 79 (ls) (.int y :: .int x :: st) h Q ↔ Wp 60 80 (ls) (.int (x + y) :: st) h Q) ∧
  (∀ (ls : Lo) (h : Hp) (Q : Option Value → Hp → Prop) (x : Int32), Wp 60 80 (ls) ([.int x]) h Q ↔ Q (some (.int x)) h) := ⟨by intros; exact e_rI (p := True) d60_52 rfl,
  by intro ls st h Q l0 l1 l2 l3 l4 l5 i; exact e_aload d60_53 rfl,
  by intro ls st h Q l0 l1 x; exact e_iload_n d60_55 rfl,
  by intro ls st n sl C Z I L R Q x0 i hh; exact e_iv (k2 := 53) (c := 2) (as := [.int x0]) d60_56 rfl (by decide) rfl rfl (by decide +kernel) (Nat.le_of_ble_eq_true rfl) rfl hh,
  by intro ls st n sl C Z I L R Q x0 i hh; exact e_iv (k2 := 53) (c := 5) (as := [.int x0]) d60_56 rfl (by decide) rfl rfl (by decide +kernel) (Nat.le_of_ble_eq_true rfl) rfl hh,
  by intro ls st n sl C Z I L R Q x0 i hh; exact e_iv (k2 := 53) (c := 6) (as := [.int x0]) d60_56 rfl (by decide) rfl rfl (by decide +kernel) (Nat.le_of_ble_eq_true rfl) rfl hh,
  by intro ls st n sl C Z I L R Q x0 i hh; exact e_iv (k2 := 53) (c := 8) (as := [.int x0]) d60_56 rfl (by decide) rfl rfl (by decide +kernel) (Nat.le_of_ble_eq_true rfl) rfl hh,
  by intro ls st h Q l0 l1 l2 l3 l4 l5 l6 l7 l8 i; exact e_astore d60_59 rfl,
  by intro ls st h Q l0 l1 l2 l3 l4 l5 l6 l7 i; exact e_aload d60_61 rfl,
  by intro ls st h Q l0 l1 l2 l3 l4 l5 l6 x; exact e_iload d60_63 rfl,
  by intro ls st n sl C Z I L R Q i y; exact e_iald d60_65,
  by intro ls st h Q l0 l1 l2 l3 l4 l5 l6 l7 l8 l9 x; exact e_istore d60_66 rfl,
  by intro ls st h Q l0 l1 l2 l3 l4 l5 l6 l7 i; exact e_aload d60_68 rfl,
  by intro ls st h Q l0 l1 l2 l3 l4 l5 l6 x; exact e_iload d60_70 rfl,
  by intro ls st h Q l0 l1 l2 l3 l4 x; exact e_iload d60_72 rfl,
  by intro ls st n sl C Z I L R Q i x y; exact e_iast d60_74,
  by intro ls st h Q l0 l1 l2 l3 l4 l5 l6 l7 l8 x; exact e_iload d60_75 rfl,
  by intro ls st h Q; exact e_bipush d60_77 rfl,
  by intro ls st h Q x y; exact e_iadd d60_79,
  by intros; exact e_rI (p := True) d60_80 rfl⟩
theorem d61_0 : decode (byt 61) 0 = .ok (.aload_n 0, 1) := by decide +kernel
theorem d61_1 : decode (byt 61) 1 = .ok (.iload_n 1, 1) := by decide +kernel
theorem d61_2 : decode (byt 61) 2 = .ok (.iload_n 2, 1) := by decide +kernel
theorem d61_3 : decode (byt 61) 3 = .ok (.iconst 1, 1) := by decide +kernel
theorem d61_4 : decode (byt 61) 4 = .ok (.invokevirtual 98, 3) := by decide +kernel
theorem d61_7 : decode (byt 61) 7 = .ok (.ireturn, 1) := by decide +kernel
set_option maxRecDepth 20000 in
theorem S61_0 : (∀ (ls : Lo) (st : List Value) (h : Hp) (Q : Option Value → Hp → Prop)  (i : Nat), Wp 61 0 (some (.ref i) :: ls) (st) h Q ↔ Wp 61 1 (some (.ref i) :: ls) (.ref i :: st) h Q) ∧
  (∀ (ls : Lo) (st : List Value) (h : Hp) (Q : Option Value → Hp → Prop) (l0 : Option Value) (x : Int32), Wp 61 1 (l0 :: some (.int x) :: ls) (st) h Q ↔ Wp 61 2 (l0 :: some (.int x) :: ls) (.int x :: st) h Q) ∧
  (∀ (ls : Lo) (st : List Value) (h : Hp) (Q : Option Value → Hp → Prop) (l0 l1 : Option Value) (x : Int32), Wp 61 2 (l0 :: l1 :: some (.int x) :: ls) (st) h Q ↔ Wp 61 3 (l0 :: l1 :: some (.int x) :: ls) (.int x :: st) h Q) ∧
  (∀ (ls : Lo) (st : List Value) (h : Hp) (Q : Option Value → Hp → Prop), Wp 61 3 (ls) (st) h Q ↔ Wp 61 4 (ls) (.int (1) :: st) h Q) ∧
  (∀ (ls : Lo) (st : List Value) (n sl : Nat) (C Z : Nat → Nat) (I : Nat → Nat → Int32) (L : Nat → Nat → Int64) (R : Nat → Nat → Nat) (Q : Option Value → Hp → Prop) (x0 : Int32) (x1 : Int32) (x2 : Int32) (i : Nat), C i = 10 → (Wp 61 4 (ls) (.int x2 :: .int x1 :: .int x0 :: .ref i :: st) (n, sl, C, Z, I, L, R) Q ↔ (wsum st ≤ 8 ∧ Call 97 [some (.ref i), some (.int x0), some (.int x1), some (.int x2), none, none, none, none] (n, sl, C, Z, I, L, R) 61 7 ls st Q))) ∧
  (∀ (ls : Lo) (h : Hp) (Q : Option Value → Hp → Prop) (x : Int32), Wp 61 7 (ls) ([.int x]) h Q ↔ Q (some (.int x)) h) := ⟨by intro ls st h Q i; exact e_aload_n d61_0 rfl,
  by intro ls st h Q l0 x; exact e_iload_n d61_1 rfl,
  by intro ls st h Q l0 l1 x; exact e_iload_n d61_2 rfl,
  by intro ls st h Q; exact e_iconst d61_3 rfl,
  by intro ls st n sl C Z I L R Q x0 x1 x2 i hh; exact e_iv (k2 := 97) (c := 10) (as := [.int x0, .int x1, .int x2]) d61_4 rfl (by decide) rfl rfl (by decide +kernel) (Nat.le_of_ble_eq_true rfl) rfl hh,
  by intros; exact e_rI (p := True) d61_7 rfl⟩
theorem d62_0 : decode (byt 62) 0 = .ok (.aload_n 0, 1) := by decide +kernel
theorem d62_1 : decode (byt 62) 1 = .ok (.iload_n 1, 1) := by decide +kernel
theorem d62_2 : decode (byt 62) 2 = .ok (.iload_n 2, 1) := by decide +kernel
theorem d62_3 : decode (byt 62) 3 = .ok (.iconst 0, 1) := by decide +kernel
theorem d62_4 : decode (byt 62) 4 = .ok (.invokevirtual 98, 3) := by decide +kernel
theorem d62_7 : decode (byt 62) 7 = .ok (.ireturn, 1) := by decide +kernel
set_option maxRecDepth 20000 in
theorem S62_0 : (∀ (ls : Lo) (st : List Value) (h : Hp) (Q : Option Value → Hp → Prop)  (i : Nat), Wp 62 0 (some (.ref i) :: ls) (st) h Q ↔ Wp 62 1 (some (.ref i) :: ls) (.ref i :: st) h Q) ∧
  (∀ (ls : Lo) (st : List Value) (h : Hp) (Q : Option Value → Hp → Prop) (l0 : Option Value) (x : Int32), Wp 62 1 (l0 :: some (.int x) :: ls) (st) h Q ↔ Wp 62 2 (l0 :: some (.int x) :: ls) (.int x :: st) h Q) ∧
  (∀ (ls : Lo) (st : List Value) (h : Hp) (Q : Option Value → Hp → Prop) (l0 l1 : Option Value) (x : Int32), Wp 62 2 (l0 :: l1 :: some (.int x) :: ls) (st) h Q ↔ Wp 62 3 (l0 :: l1 :: some (.int x) :: ls) (.int x :: st) h Q) ∧
  (∀ (ls : Lo) (st : List Value) (h : Hp) (Q : Option Value → Hp → Prop), Wp 62 3 (ls) (st) h Q ↔ Wp 62 4 (ls) (.int (0) :: st) h Q) ∧
  (∀ (ls : Lo) (st : List Value) (n sl : Nat) (C Z : Nat → Nat) (I : Nat → Nat → Int32) (L : Nat → Nat → Int64) (R : Nat → Nat → Nat) (Q : Option Value → Hp → Prop) (x0 : Int32) (x1 : Int32) (x2 : Int32) (i : Nat), C i = 10 → (Wp 62 4 (ls) (.int x2 :: .int x1 :: .int x0 :: .ref i :: st) (n, sl, C, Z, I, L, R) Q ↔ (wsum st ≤ 8 ∧ Call 97 [some (.ref i), some (.int x0), some (.int x1), some (.int x2), none, none, none, none] (n, sl, C, Z, I, L, R) 62 7 ls st Q))) ∧
  (∀ (ls : Lo) (h : Hp) (Q : Option Value → Hp → Prop) (x : Int32), Wp 62 7 (ls) ([.int x]) h Q ↔ Q (some (.int x)) h) := ⟨by intro ls st h Q i; exact e_aload_n d62_0 rfl,
  by intro ls st h Q l0 x; exact e_iload_n d62_1 rfl,
  by intro ls st h Q l0 l1 x; exact e_iload_n d62_2 rfl,
  by intro ls st h Q; exact e_iconst d62_3 rfl,
  by intro ls st n sl C Z I L R Q x0 x1 x2 i hh; exact e_iv (k2 := 97) (c := 10) (as := [.int x0, .int x1, .int x2]) d62_4 rfl (by decide) rfl rfl (by decide +kernel) (Nat.le_of_ble_eq_true rfl) rfl hh,
  by intros; exact e_rI (p := True) d62_7 rfl⟩
theorem d63_0 : decode (byt 63) 0 = .ok (.aload_n 0, 1) := by decide +kernel
theorem d63_1 : decode (byt 63) 1 = .ok (.iload_n 1, 1) := by decide +kernel
theorem d63_2 : decode (byt 63) 2 = .ok (.invokevirtual 84, 3) := by decide +kernel
theorem d63_5 : decode (byt 63) 5 = .ok (.astore_n 3, 1) := by decide +kernel
theorem d63_6 : decode (byt 63) 6 = .ok (.aload_n 3, 1) := by decide +kernel
theorem d63_7 : decode (byt 63) 7 = .ok (.ifnull 13, 3) := by decide +kernel
theorem d63_10 : decode (byt 63) 10 = .ok (.iload_n 2, 1) := by decide +kernel
theorem d63_11 : decode (byt 63) 11 = .ok (.iconst 1, 1) := by decide +kernel
theorem d63_12 : decode (byt 63) 12 = .ok (.if_icmp .eq 11, 3) := by decide +kernel
theorem d63_15 : decode (byt 63) 15 = .ok (.iload_n 2, 1) := by decide +kernel
theorem d63_16 : decode (byt 63) 16 = .ok (.iconst (-1), 1) := by decide +kernel
theorem d63_17 : decode (byt 63) 17 = .ok (.if_icmp .eq 6, 3) := by decide +kernel
theorem d63_20 : decode (byt 63) 20 = .ok (.bipush (-2), 2) := by decide +kernel
theorem d63_22 : decode (byt 63) 22 = .ok (.ireturn, 1) := by decide +kernel
theorem d63_23 : decode (byt 63) 23 = .ok (.aload_n 3, 1) := by decide +kernel
theorem d63_24 : decode (byt 63) 24 = .ok (.instanceof 74, 3) := by decide +kernel
theorem d63_27 : decode (byt 63) 27 = .ok (.ifCond .ne 12, 3) := by decide +kernel
theorem d63_30 : decode (byt 63) 30 = .ok (.aload_n 3, 1) := by decide +kernel
theorem d63_31 : decode (byt 63) 31 = .ok (.getfield 102, 3) := by decide +kernel
theorem d63_34 : decode (byt 63) 34 = .ok (.iconst 0, 1) := by decide +kernel
theorem d63_35 : decode (byt 63) 35 = .ok (.iaload, 1) := by decide +kernel
theorem d63_36 : decode (byt 63) 36 = .ok (.ifCond .eq 6, 3) := by decide +kernel
theorem d63_39 : decode (byt 63) 39 = .ok (.bipush (-3), 2) := by decide +kernel
theorem d63_41 : decode (byt 63) 41 = .ok (.ireturn, 1) := by decide +kernel
theorem d63_42 : decode (byt 63) 42 = .ok (.aload_n 0, 1) := by decide +kernel
theorem d63_43 : decode (byt 63) 43 = .ok (.invokevirtual 70, 3) := by decide +kernel
theorem d63_46 : decode (byt 63) 46 = .ok (.ifCond .eq 6, 3) := by decide +kernel
theorem d63_49 : decode (byt 63) 49 = .ok (.bipush (-4), 2) := by decide +kernel
theorem d63_51 : decode (byt 63) 51 = .ok (.ireturn, 1) := by decide +kernel
theorem d63_52 : decode (byt 63) 52 = .ok (.new 92, 3) := by decide +kernel
theorem d63_55 : decode (byt 63) 55 = .ok (.dup, 1) := by decide +kernel
theorem d63_56 : decode (byt 63) 56 = .ok (.aload_n 0, 1) := by decide +kernel
theorem d63_57 : decode (byt 63) 57 = .ok (.getfield 15, 3) := by decide +kernel
theorem d63_60 : decode (byt 63) 60 = .ok (.aload_n 3, 1) := by decide +kernel
theorem d63_61 : decode (byt 63) 61 = .ok (.getfield 106, 3) := by decide +kernel
theorem d63_64 : decode (byt 63) 64 = .ok (.aload_n 3, 1) := by decide +kernel
theorem d63_65 : decode (byt 63) 65 = .ok (.getfield 109, 3) := by decide +kernel
theorem d63_68 : decode (byt 63) 68 = .ok (.invokespecial 112, 3) := by decide +kernel
theorem d63_71 : decode (byt 63) 71 = .ok (.astore 4, 2) := by decide +kernel
theorem d63_73 : decode (byt 63) 73 = .ok (.iconst 0, 1) := by decide +kernel
theorem d63_74 : decode (byt 63) 74 = .ok (.istore 5, 2) := by decide +kernel
theorem d63_76 : decode (byt 63) 76 = .ok (.iload 5, 2) := by decide +kernel
theorem d63_78 : decode (byt 63) 78 = .ok (.aload_n 3, 1) := by decide +kernel
theorem d63_79 : decode (byt 63) 79 = .ok (.getfield 106, 3) := by decide +kernel
theorem d63_82 : decode (byt 63) 82 = .ok (.if_icmp .ge 104, 3) := by decide +kernel
theorem d63_85 : decode (byt 63) 85 = .ok (.iconst 0, 1) := by decide +kernel
theorem d63_86 : decode (byt 63) 86 = .ok (.istore 6, 2) := by decide +kernel
theorem d63_88 : decode (byt 63) 88 = .ok (.iload 6, 2) := by decide +kernel
theorem d63_90 : decode (byt 63) 90 = .ok (.aload_n 3, 1) := by decide +kernel
theorem d63_91 : decode (byt 63) 91 = .ok (.getfield 106, 3) := by decide +kernel
theorem d63_94 : decode (byt 63) 94 = .ok (.if_icmp .ge 56, 3) := by decide +kernel
theorem d63_97 : decode (byt 63) 97 = .ok (.iconst 3, 1) := by decide +kernel
theorem d63_98 : decode (byt 63) 98 = .ok (.iload 5, 2) := by decide +kernel
theorem d63_100 : decode (byt 63) 100 = .ok (.imul, 1) := by decide +kernel
theorem d63_101 : decode (byt 63) 101 = .ok (.iload 6, 2) := by decide +kernel
theorem d63_103 : decode (byt 63) 103 = .ok (.iadd, 1) := by decide +kernel
theorem d63_104 : decode (byt 63) 104 = .ok (.istore 7, 2) := by decide +kernel
theorem d63_106 : decode (byt 63) 106 = .ok (.aload 4, 2) := by decide +kernel
theorem d63_108 : decode (byt 63) 108 = .ok (.getfield 113, 3) := by decide +kernel
theorem d63_111 : decode (byt 63) 111 = .ok (.iload 7, 2) := by decide +kernel
theorem d63_113 : decode (byt 63) 113 = .ok (.aload_n 3, 1) := by decide +kernel
theorem d63_114 : decode (byt 63) 114 = .ok (.getfield 116, 3) := by decide +kernel
theorem d63_117 : decode (byt 63) 117 = .ok (.iload 7, 2) := by decide +kernel
theorem d63_119 : decode (byt 63) 119 = .ok (.iaload, 1) := by decide +kernel
theorem d63_120 : decode (byt 63) 120 = .ok (.iload_n 2, 1) := by decide +kernel
theorem d63_121 : decode (byt 63) 121 = .ok (.aload_n 3, 1) := by decide +kernel
theorem d63_122 : decode (byt 63) 122 = .ok (.getfield 109, 3) := by decide +kernel
theorem d63_125 : decode (byt 63) 125 = .ok (.imul, 1) := by decide +kernel
theorem d63_126 : decode (byt 63) 126 = .ok (.aload_n 3, 1) := by decide +kernel
theorem d63_127 : decode (byt 63) 127 = .ok (.getfield 117, 3) := by decide +kernel
theorem d63_130 : decode (byt 63) 130 = .ok (.iload 5, 2) := by decide +kernel
theorem d63_132 : decode (byt 63) 132 = .ok (.iaload, 1) := by decide +kernel
theorem d63_133 : decode (byt 63) 133 = .ok (.imul, 1) := by decide +kernel
theorem d63_134 : decode (byt 63) 134 = .ok (.aload_n 3, 1) := by decide +kernel
theorem d63_135 : decode (byt 63) 135 = .ok (.getfield 120, 3) := by decide +kernel
theorem d63_138 : decode (byt 63) 138 = .ok (.iload 6, 2) := by decide +kernel
theorem d63_140 : decode (byt 63) 140 = .ok (.iaload, 1) := by decide +kernel
theorem d63_141 : decode (byt 63) 141 = .ok (.imul, 1) := by decide +kernel
theorem d63_142 : decode (byt 63) 142 = .ok (.iadd, 1) := by decide +kernel
theorem d63_143 : decode (byt 63) 143 = .ok (.iastore, 1) := by decide +kernel
theorem d63_144 : decode (byt 63) 144 = .ok (.iinc 6 1, 3) := by decide +kernel
theorem d63_147 : decode (byt 63) 147 = .ok (.goto (-59), 3) := by decide +kernel
theorem d63_150 : decode (byt 63) 150 = .ok (.aload 4, 2) := by decide +kernel
theorem d63_152 : decode (byt 63) 152 = .ok (.getfield 123, 3) := by decide +kernel
theorem d63_155 : decode (byt 63) 155 = .ok (.iload 5, 2) := by decide +kernel
theorem d63_157 : decode (byt 63) 157 = .ok (.aload_n 3, 1) := by decide +kernel
theorem d63_158 : decode (byt 63) 158 = .ok (.getfield 117, 3) := by decide +kernel
theorem d63_161 : decode (byt 63) 161 = .ok (.iload 5, 2) := by decide +kernel
theorem d63_163 : decode (byt 63) 163 = .ok (.iaload, 1) := by decide +kernel
theorem d63_164 : decode (byt 63) 164 = .ok (.iastore, 1) := by decide +kernel
theorem d63_165 : decode (byt 63) 165 = .ok (.aload 4, 2) := by decide +kernel
theorem d63_167 : decode (byt 63) 167 = .ok (.getfield 124, 3) := by decide +kernel
theorem d63_170 : decode (byt 63) 170 = .ok (.iload 5, 2) := by decide +kernel
theorem d63_172 : decode (byt 63) 172 = .ok (.aload_n 3, 1) := by decide +kernel
theorem d63_173 : decode (byt 63) 173 = .ok (.getfield 120, 3) := by decide +kernel
theorem d63_176 : decode (byt 63) 176 = .ok (.iload 5, 2) := by decide +kernel
theorem d63_178 : decode (byt 63) 178 = .ok (.iaload, 1) := by decide +kernel
theorem d63_179 : decode (byt 63) 179 = .ok (.iastore, 1) := by decide +kernel
theorem d63_180 : decode (byt 63) 180 = .ok (.iinc 5 1, 3) := by decide +kernel
theorem d63_183 : decode (byt 63) 183 = .ok (.goto (-107), 3) := by decide +kernel
theorem d63_186 : decode (byt 63) 186 = .ok (.aload_n 0, 1) := by decide +kernel
theorem d63_187 : decode (byt 63) 187 = .ok (.aload 4, 2) := by decide +kernel
theorem d63_189 : decode (byt 63) 189 = .ok (.invokevirtual 125, 3) := by decide +kernel
theorem d63_192 : decode (byt 63) 192 = .ok (.ireturn, 1) := by decide +kernel
set_option maxRecDepth 20000 in
theorem S63_0 : (∀ (ls : Lo) (st : List Value) (h : Hp) (Q : Option Value → Hp → Prop)  (i : Nat), Wp 63 0 (some (.ref i) :: ls) (st) h Q ↔ Wp 63 1 (some (.ref i) :: ls) (.ref i :: st) h Q) ∧
  (∀ (ls : Lo) (st : List Value) (h : Hp) (Q : Option Value → Hp → Prop) (l0 : Option Value) (x : Int32), Wp 63 1 (l0 :: some (.int x) :: ls) (st) h Q ↔ Wp 63 2 (l0 :: some (.int x) :: ls) (.int x :: st) h Q) ∧
  (∀ (ls : Lo) (st : List Value) (n sl : Nat) (C Z : Nat → Nat) (I : Nat → Nat → Int32) (L : Nat → Nat → Int64) (R : Nat → Nat → Nat) (Q : Option Value → Hp → Prop) (x0 : Int32) (i : Nat), C i = 10 → (Wp 63 2 (ls) (.int x0 :: .ref i :: st) (n, sl, C, Z, I, L, R) Q ↔ (wsum st ≤ 8 ∧ Call 92 [some (.ref i), some (.int x0)] (n, sl, C, Z, I, L, R) 63 5 ls st Q))) ∧
  (∀ (ls : Lo) (st : List Value) (h : Hp) (Q : Option Value → Hp → Prop) (l0 l1 l2 l3 : Option Value) (i : Nat), Wp 63 5 (l0 :: l1 :: l2 :: l3 :: ls) (.ref i :: st) h Q ↔ Wp 63 6 (l0 :: l1 :: clr l2 :: some (.ref i) :: ls) (st) h Q) ∧
  (∀ (ls : Lo) (st : List Value) (h : Hp) (Q : Option Value → Hp → Prop) (l0 l1 l2 : Option Value) (i : Nat), Wp 63 6 (l0 :: l1 :: l2 :: some (.ref i) :: ls) (st) h Q ↔ Wp 63 7 (l0 :: l1 :: l2 :: some (.ref i) :: ls) (.ref i :: st) h Q) ∧
  (∀ (ls : Lo) (st : List Value) (h : Hp) (Q : Option Value → Hp → Prop) (i : Nat), Wp 63 7 (ls) (.ref i :: st) h Q ↔ Br 63 20 10 ls st h Q (i = 0)) ∧
  (∀ (ls : Lo) (st : List Value) (h : Hp) (Q : Option Value → Hp → Prop) (l0 l1 : Option Value) (x : Int32), Wp 63 10 (l0 :: l1 :: some (.int x) :: ls) (st) h Q ↔ Wp 63 11 (l0 :: l1 :: some (.int x) :: ls) (.int x :: st) h Q) ∧
  (∀ (ls : Lo) (st : List Value) (h : Hp) (Q : Option Value → Hp → Prop), Wp 63 11 (ls) (st) h Q ↔ Wp 63 12 (ls) (.int (1) :: st) h Q) ∧
  (∀ (ls : Lo) (st : List Value) (h : Hp) (Q : Option Value → Hp → Prop) (x y : Int32), Wp 63 12 (ls) (.int y :: .int x :: st) h Q ↔ Br 63 23 15 ls st h Q (x = y)) ∧
  (∀ (ls : Lo) (st : List Value) (h : Hp) (Q : Option Value → Hp → Prop) (l0 l1 : Option Value) (x : Int32), Wp 63 15 (l0 :: l1 :: some (.int x) :: ls) (st) h Q ↔ Wp 63 16 (l0 :: l1 :: some (.int x) :: ls) (.int x :: st) h Q) ∧
  (∀ (ls : Lo) (st : List Value) (h : Hp) (Q : Option Value → Hp → Prop), Wp 63 16 (ls) (st) h Q ↔ Wp 63 17 (ls) (.int (-1) :: st) h Q) ∧
  (∀ (ls : Lo) (st : List Value) (h : Hp) (Q : Option Value → Hp → Prop) (x y : Int32), Wp 63 17 (ls) (.int y :: .int x :: st) h Q ↔ Br 63 23 20 ls st h Q (x = y)) ∧
  (∀ (ls : Lo) (st : List Value) (h : Hp) (Q : Option Value → Hp → Prop), Wp 63 20 (ls) (st) h Q ↔ Wp 63 22 (ls) (.int (-2) :: st) h Q) ∧
  (∀ (ls : Lo) (h : Hp) (Q : Option Value → Hp → Prop) (x : Int32), Wp 63 22 (ls) ([.int x]) h Q ↔ Q (some (.int x)) h) ∧
  (∀ (ls : Lo) (st : List Value) (h : Hp) (Q : Option Value → Hp → Prop) (l0 l1 l2 : Option Value) (i : Nat), Wp 63 23 (l0 :: l1 :: l2 :: some (.ref i) :: ls) (st) h Q ↔ Wp 63 24 (l0 :: l1 :: l2 :: some (.ref i) :: ls) (.ref i :: st) h Q) ∧
  (∀ (ls : Lo) (st : List Value) (n sl : Nat) (C Z : Nat → Nat) (I : Nat → Nat → Int32) (L : Nat → Nat → Int64) (R : Nat → Nat → Nat) (Q : Option Value → Hp → Prop) (i : Nat), Wp 63 24 (ls) (.ref i :: st) (n, sl, C, Z, I, L, R) Q ↔ (inG 7 (C i) = true ∧ Wp 63 27 (ls) (.int (if isa (C i) 1 = true then 1 else 0) :: st) (n, sl, C, Z, I, L, R) Q)) ∧
  (∀ (ls : Lo) (st : List Value) (h : Hp) (Q : Option Value → Hp → Prop) (x : Int32), Wp 63 27 (ls) (.int x :: st) h Q ↔ Br 63 39 30 ls st h Q (¬ x = 0)) ∧
  (∀ (ls : Lo) (st : List Value) (h : Hp) (Q : Option Value → Hp → Prop) (l0 l1 l2 : Option Value) (i : Nat), Wp 63 30 (l0 :: l1 :: l2 :: some (.ref i) :: ls) (st) h Q ↔ Wp 63 31 (l0 :: l1 :: l2 :: some (.ref i) :: ls) (.ref i :: st) h Q) ∧
  (∀ (ls : Lo) (st : List Value) (n sl : Nat) (C Z : Nat → Nat) (I : Nat → Nat → Int32) (L : Nat → Nat → Int64) (R : Nat → Nat → Nat) (Q : Option Value → Hp → Prop) (i : Nat), Wp 63 31 (ls) (.ref i :: st) (n, sl, C, Z, I, L, R) Q ↔ (inG 7 (C i) = true ∧ Wp 63 34 (ls) (.ref (R i 6) :: st) (n, sl, C, Z, I, L, R) Q)) ∧
  (∀ (ls : Lo) (st : List Value) (h : Hp) (Q : Option Value → Hp → Prop), Wp 63 34 (ls) (st) h Q ↔ Wp 63 35 (ls) (.int (0) :: st) h Q) ∧
  (∀ (ls : Lo) (st : List Value) (n sl : Nat) (C Z : Nat → Nat) (I : Nat → Nat → Int32) (L : Nat → Nat → Int64) (R : Nat → Nat → Nat) (Q : Option Value → Hp → Prop) (i : Nat) (y : Int32), Wp 63 35 (ls) (.int y :: .ref i :: st) (n, sl, C, Z, I, L, R) Q ↔ ((inb y (Z i) = true ∧ C i = 21) ∧ Wp 63 36 (ls) (.int (I i (ix y)) :: st) (n, sl, C, Z, I, L, R) Q)) ∧
  (∀ (ls : Lo) (st : List Value) (h : Hp) (Q : Option Value → Hp → Prop) (x : Int32), Wp 63 36 (ls) (.int x :: st) h Q ↔ Br 63 42 39 ls st h Q (x = 0)) ∧
  (∀ (ls : Lo) (st : List Value) (h : Hp) (Q : Option Value → Hp → Prop), Wp 63 39 (ls) (st) h Q ↔ Wp 63 41 (ls) (.int (-3) :: st) h Q) ∧
  (∀ (ls : Lo) (h : Hp) (Q : Option Value → Hp → Prop) (x : Int32), Wp 63 41 (ls) ([.int x]) h Q ↔ Q (some (.int x)) h) ∧
  (∀ (ls : Lo) (st : List Value) (h : Hp) (Q : Option Value → Hp → Prop)  (i : Nat), Wp 63 42 (some (.ref i) :: ls) (st) h Q ↔ Wp 63 43 (some (.ref i) :: ls) (.ref i :: st) h Q) := ⟨by intro ls st h Q i; exact e_aload_n d63_0 rfl,
  by intro ls st h Q l0 x; exact e_iload_n d63_1 rfl,
  by intro ls st n sl C Z I L R Q x0 i hh; exact e_iv (k2 := 92) (c := 10) (as := [.int x0]) d63_2 rfl (by decide) rfl rfl (by decide +kernel) (Nat.le_of_ble_eq_true rfl) rfl hh,
  by intro ls st h Q l0 l1 l2 l3 i; exact e_astore_n d63_5 rfl,
  by intro ls st h Q l0 l1 l2 i; exact e_aload_n d63_6 rfl,
  by intro ls st h Q i; exact e_ifnull d63_7 (by decide),
  by intro ls st h Q l0 l1 x; exact e_iload_n d63_10 rfl,
  by intro ls st h Q; exact e_iconst d63_11 rfl,
  by intro ls st h Q x y; exact e_ic d63_12 (by decide) c_eq,
  by intro ls st h Q l0 l1 x; exact e_iload_n d63_15 rfl,
  by intro ls st h Q; exact e_iconst d63_16 rfl,
  by intro ls st h Q x y; exact e_ic d63_17 (by decide) c_eq,
  by intro ls st h Q; exact e_bipush d63_20 rfl,
  by intros; exact e_rI (p := True) d63_22 rfl,
  by intro ls st h Q l0 l1 l2 i; exact e_aload_n d63_23 rfl,
  by intro ls st n sl C Z I L R Q i; exact e_io (p := 294) (c := 1) d63_24 rfl (by decide),
  by intro ls st h Q x; exact e_if d63_27 (by decide) c_ne,
  by intro ls st h Q l0 l1 l2 i; exact e_aload_n d63_30 rfl,
  by intro ls st n sl C Z I L R Q i; exact e_get (g := 7) (s := 6) (ty := 2) d63_31 rfl rfl rfl,
  by intro ls st h Q; exact e_iconst d63_34 rfl,
  by intro ls st n sl C Z I L R Q i y; exact e_iald d63_35,
  by intro ls st h Q x; exact e_if d63_36 (by decide) c_eq,
  by intro ls st h Q; exact e_bipush d63_39 rfl,
  by intros; exact e_rI (p := True) d63_41 rfl,
  by intro ls st h Q i; exact e_aload_n d63_42 rfl⟩
set_option maxRecDepth 20000 in
theorem S63_1 : (∀ (ls : Lo) (st : List Value) (n sl : Nat) (C Z : Nat → Nat) (I : Nat → Nat → Int32) (L : Nat → Nat → Int64) (R : Nat → Nat → Nat) (Q : Option Value → Hp → Prop)  (i : Nat), C i = 10 → (Wp 63 43 (ls) (.ref i :: st) (n, sl, C, Z, I, L, R) Q ↔ (wsum st ≤ 8 ∧ Call 91 [some (.ref i)] (n, sl, C, Z, I, L, R) 63 46 ls st Q))) ∧
  (∀ (ls : Lo) (st : List Value) (h : Hp) (Q : Option Value → Hp → Prop) (x : Int32), Wp 63 46 (ls) (.int x :: st) h Q ↔ Br 63 52 49 ls st h Q (x = 0)) ∧
  (∀ (ls : Lo) (st : List Value) (h : Hp) (Q : Option Value → Hp → Prop), Wp 63 49 (ls) (st) h Q ↔ Wp 63 51 (ls) (.int (-4) :: st) h Q) ∧
  (∀ (ls : Lo) (h : Hp) (Q : Option Value → Hp → Prop) (x : Int32), Wp 63 51 (ls) ([.int x]) h Q ↔ Q (some (.int x)) h) ∧
  (∀ (ls : Lo) (st : List Value) (n sl : Nat) (C Z : Nat → Nat) (I : Nat → Nat → Int32) (L : Nat → Nat → Int64) (R : Nat → Nat → Nat) (Q : Option Value → Hp → Prop), Wp 63 52 (ls) (st) (n, sl, C, Z, I, L, R) Q ↔ Wp 63 55 (ls) (.ref (n + 1) :: st) (n + 1, sl + 7, va_up C (n + 1) 5, Z, va_up I (n + 1) (fun _ => 0), va_up L (n + 1) (fun _ => 0), va_up R (n + 1) (fun _ => 0)) Q) ∧
  (∀ (ls : Lo) (st : List Value) (h : Hp) (Q : Option Value → Hp → Prop) (x : Int32), Wp 63 55 (ls) (.int x :: st) h Q ↔ Wp 63 56 (ls) (.int x :: .int x :: st) h Q) ∧
  (∀ (ls : Lo) (st : List Value) (h : Hp) (Q : Option Value → Hp → Prop) (i : Nat), Wp 63 55 (ls) (.ref i :: st) h Q ↔ Wp 63 56 (ls) (.ref i :: .ref i :: st) h Q) ∧
  (∀ (ls : Lo) (st : List Value) (h : Hp) (Q : Option Value → Hp → Prop)  (i : Nat), Wp 63 56 (some (.ref i) :: ls) (st) h Q ↔ Wp 63 57 (some (.ref i) :: ls) (.ref i :: st) h Q) ∧
  (∀ (ls : Lo) (st : List Value) (n sl : Nat) (C Z : Nat → Nat) (I : Nat → Nat → Int32) (L : Nat → Nat → Int64) (R : Nat → Nat → Nat) (Q : Option Value → Hp → Prop) (i : Nat), Wp 63 57 (ls) (.ref i :: st) (n, sl, C, Z, I, L, R) Q ↔ (C i = 10 ∧ Wp 63 60 (ls) (.int (I i 1) :: st) (n, sl, C, Z, I, L, R) Q)) ∧
  (∀ (ls : Lo) (st : List Value) (h : Hp) (Q : Option Value → Hp → Prop) (l0 l1 l2 : Option Value) (i : Nat), Wp 63 60 (l0 :: l1 :: l2 :: some (.ref i) :: ls) (st) h Q ↔ Wp 63 61 (l0 :: l1 :: l2 :: some (.ref i) :: ls) (.ref i :: st) h Q) ∧
  (∀ (ls : Lo) (st : List Value) (n sl : Nat) (C Z : Nat → Nat) (I : Nat → Nat → Int32) (L : Nat → Nat → Int64) (R : Nat → Nat → Nat) (Q : Option Value → Hp → Prop) (i : Nat), Wp 63 61 (ls) (.ref i :: st) (n, sl, C, Z, I, L, R) Q ↔ (inG 7 (C i) = true ∧ Wp 63 64 (ls) (.int (I i 1) :: st) (n, sl, C, Z, I, L, R) Q)) ∧
  (∀ (ls : Lo) (st : List Value) (h : Hp) (Q : Option Value → Hp → Prop) (l0 l1 l2 : Option Value) (i : Nat), Wp 63 64 (l0 :: l1 :: l2 :: some (.ref i) :: ls) (st) h Q ↔ Wp 63 65 (l0 :: l1 :: l2 :: some (.ref i) :: ls) (.ref i :: st) h Q) ∧
  (∀ (ls : Lo) (st : List Value) (n sl : Nat) (C Z : Nat → Nat) (I : Nat → Nat → Int32) (L : Nat → Nat → Int64) (R : Nat → Nat → Nat) (Q : Option Value → Hp → Prop) (i : Nat), Wp 63 65 (ls) (.ref i :: st) (n, sl, C, Z, I, L, R) Q ↔ (inG 7 (C i) = true ∧ Wp 63 68 (ls) (.int (I i 2) :: st) (n, sl, C, Z, I, L, R) Q)) ∧
  (∀ (ls : Lo) (st : List Value) (h : Hp) (Q : Option Value → Hp → Prop) (x0 : Int32) (x1 : Int32) (x2 : Int32) (i : Nat), i ≠ 0 → (Wp 63 68 (ls) (.int x2 :: .int x1 :: .int x0 :: .ref i :: st) h Q ↔ (wsum st ≤ 8 ∧ Call 37 [some (.ref i), some (.int x0), some (.int x1), some (.int x2)] h 63 71 ls st Q))) ∧
  (∀ (ls : Lo) (st : List Value) (h : Hp) (Q : Option Value → Hp → Prop) (l0 l1 l2 l3 l4 : Option Value) (i : Nat), Wp 63 71 (l0 :: l1 :: l2 :: l3 :: l4 :: ls) (.ref i :: st) h Q ↔ Wp 63 73 (l0 :: l1 :: l2 :: clr l3 :: some (.ref i) :: ls) (st) h Q) ∧
  (∀ (ls : Lo) (st : List Value) (h : Hp) (Q : Option Value → Hp → Prop), Wp 63 73 (ls) (st) h Q ↔ Wp 63 74 (ls) (.int (0) :: st) h Q) ∧
  (∀ (ls : Lo) (st : List Value) (h : Hp) (Q : Option Value → Hp → Prop) (l0 l1 l2 l3 l4 l5 : Option Value) (x : Int32), Wp 63 74 (l0 :: l1 :: l2 :: l3 :: l4 :: l5 :: ls) (.int x :: st) h Q ↔ Wp 63 76 (l0 :: l1 :: l2 :: l3 :: clr l4 :: some (.int x) :: ls) (st) h Q) ∧
  (∀ (ls : Lo) (st : List Value) (h : Hp) (Q : Option Value → Hp → Prop) (l0 l1 l2 l3 l4 : Option Value) (x : Int32), Wp 63 76 (l0 :: l1 :: l2 :: l3 :: l4 :: some (.int x) :: ls) (st) h Q ↔ Wp 63 78 (l0 :: l1 :: l2 :: l3 :: l4 :: some (.int x) :: ls) (.int x :: st) h Q) ∧
  (∀ (ls : Lo) (st : List Value) (h : Hp) (Q : Option Value → Hp → Prop) (l0 l1 l2 : Option Value) (i : Nat), Wp 63 78 (l0 :: l1 :: l2 :: some (.ref i) :: ls) (st) h Q ↔ Wp 63 79 (l0 :: l1 :: l2 :: some (.ref i) :: ls) (.ref i :: st) h Q) ∧
  (∀ (ls : Lo) (st : List Value) (n sl : Nat) (C Z : Nat → Nat) (I : Nat → Nat → Int32) (L : Nat → Nat → Int64) (R : Nat → Nat → Nat) (Q : Option Value → Hp → Prop) (i : Nat), Wp 63 79 (ls) (.ref i :: st) (n, sl, C, Z, I, L, R) Q ↔ (inG 7 (C i) = true ∧ Wp 63 82 (ls) (.int (I i 1) :: st) (n, sl, C, Z, I, L, R) Q)) ∧
  (∀ (ls : Lo) (st : List Value) (h : Hp) (Q : Option Value → Hp → Prop) (x y : Int32), Wp 63 82 (ls) (.int y :: .int x :: st) h Q ↔ Br 63 186 85 ls st h Q (y ≤ x)) ∧
  (∀ (ls : Lo) (st : List Value) (h : Hp) (Q : Option Value → Hp → Prop), Wp 63 85 (ls) (st) h Q ↔ Wp 63 86 (ls) (.int (0) :: st) h Q) ∧
  (∀ (ls : Lo) (st : List Value) (h : Hp) (Q : Option Value → Hp → Prop) (l0 l1 l2 l3 l4 l5 l6 : Option Value) (x : Int32), Wp 63 86 (l0 :: l1 :: l2 :: l3 :: l4 :: l5 :: l6 :: ls) (.int x :: st) h Q ↔ Wp 63 88 (l0 :: l1 :: l2 :: l3 :: l4 :: clr l5 :: some (.int x) :: ls) (st) h Q) ∧
  (∀ (ls : Lo) (st : List Value) (h : Hp) (Q : Option Value → Hp → Prop) (l0 l1 l2 l3 l4 l5 : Option Value) (x : Int32), Wp 63 88 (l0 :: l1 :: l2 :: l3 :: l4 :: l5 :: some (.int x) :: ls) (st) h Q ↔ Wp 63 90 (l0 :: l1 :: l2 :: l3 :: l4 :: l5 :: some (.int x) :: ls) (.int x :: st) h Q) ∧
  (∀ (ls : Lo) (st : List Value) (h : Hp) (Q : Option Value → Hp → Prop) (l0 l1 l2 : Option Value) (i : Nat), Wp 63 90 (l0 :: l1 :: l2 :: some (.ref i) :: ls) (st) h Q ↔ Wp 63 91 (l0 :: l1 :: l2 :: some (.ref i) :: ls) (.ref i :: st) h Q) := ⟨by intro ls st n sl C Z I L R Q i hh; exact e_iv (k2 := 91) (c := 10) (as := []) d63_43 rfl (by decide) rfl rfl (by decide +kernel) (Nat.le_of_ble_eq_true rfl) rfl hh,
  by intro ls st h Q x; exact e_if d63_46 (by decide) c_eq,
  by intro ls st h Q; exact e_bipush d63_49 rfl,
  by intros; exact e_rI (p := True) d63_51 rfl,
  by intro ls st n sl C Z I L R Q; exact e_new (p := 324) (c := 4) d63_52 rfl (by decide) rfl,
  by intro ls st h Q x; exact e_dupI d63_55,
  by intro ls st h Q i; exact e_dupR d63_55,
  by intro ls st h Q i; exact e_aload_n d63_56 rfl,
  by intro ls st n sl C Z I L R Q i; exact e_get (g := 9) (s := 1) (ty := 0) d63_57 rfl rfl (inG_ne (by decide)),
  by intro ls st h Q l0 l1 l2 i; exact e_aload_n d63_60 rfl,
  by intro ls st n sl C Z I L R Q i; exact e_get (g := 7) (s := 1) (ty := 0) d63_61 rfl rfl rfl,
  by intro ls st h Q l0 l1 l2 i; exact e_aload_n d63_64 rfl,
  by intro ls st n sl C Z I L R Q i; exact e_get (g := 7) (s := 2) (ty := 0) d63_65 rfl rfl rfl,
  by intro ls st h Q x0 x1 x2 i hh; exact e_ip (k2 := 37) (as := [.int x0, .int x1, .int x2]) d63_68 rfl (by decide) rfl rfl (by decide +kernel) (Nat.le_of_ble_eq_true rfl) rfl hh,
  by intro ls st h Q l0 l1 l2 l3 l4 i; exact e_astore d63_71 rfl,
  by intro ls st h Q; exact e_iconst d63_73 rfl,
  by intro ls st h Q l0 l1 l2 l3 l4 l5 x; exact e_istore d63_74 rfl,
  by intro ls st h Q l0 l1 l2 l3 l4 x; exact e_iload d63_76 rfl,
  by intro ls st h Q l0 l1 l2 i; exact e_aload_n d63_78 rfl,
  by intro ls st n sl C Z I L R Q i; exact e_get (g := 7) (s := 1) (ty := 0) d63_79 rfl rfl rfl,
  by intro ls st h Q x y; exact e_ic d63_82 (by decide) c_ge,
  by intro ls st h Q; exact e_iconst d63_85 rfl,
  by intro ls st h Q l0 l1 l2 l3 l4 l5 l6 x; exact e_istore d63_86 rfl,
  by intro ls st h Q l0 l1 l2 l3 l4 l5 x; exact e_iload d63_88 rfl,
  by intro ls st h Q l0 l1 l2 i; exact e_aload_n d63_90 rfl⟩
set_option maxRecDepth 20000 in
theorem S63_2 : (∀ (ls : Lo) (st : List Value) (n sl : Nat) (C Z : Nat → Nat) (I : Nat → Nat → Int32) (L : Nat → Nat → Int64) (R : Nat → Nat → Nat) (Q : Option Value → Hp → Prop) (i : Nat), Wp 63 91 (ls) (.ref i :: st) (n, sl, C, Z, I, L, R) Q ↔ (inG 7 (C i) = true ∧ Wp 63 94 (ls) (.int (I i 1) :: st) (n, sl, C, Z, I, L, R) Q)) ∧
  (∀ (ls : Lo) (st : List Value) (h : Hp) (Q : Option Value → Hp → Prop) (x y : Int32), Wp 63 94 (ls) (.int y :: .int x :: st) h Q ↔ Br 63 150 97 ls st h Q (y ≤ x)) ∧
  (∀ (ls : Lo) (st : List Value) (h : Hp) (Q : Option Value → Hp → Prop), Wp 63 97 (ls) (st) h Q ↔ Wp 63 98 (ls) (.int (3) :: st) h Q) ∧
  (∀ (ls : Lo) (st : List Value) (h : Hp) (Q : Option Value → Hp → Prop) (l0 l1 l2 l3 l4 : Option Value) (x : Int32), Wp 63 98 (l0 :: l1 :: l2 :: l3 :: l4 :: some (.int x) :: ls) (st) h Q ↔ Wp 63 100 (l0 :: l1 :: l2 :: l3 :: l4 :: some (.int x) :: ls) (.int x :: st) h Q) ∧
  (∀ (ls : Lo) (st : List Value) (h : Hp) (Q : Option Value → Hp → Prop) (x y : Int32), Wp 63 100 (ls) (.int y :: .int x :: st) h Q ↔ Wp 63 101 (ls) (.int (x * y) :: st) h Q) ∧
  (∀ (ls : Lo) (st : List Value) (h : Hp) (Q : Option Value → Hp → Prop) (l0 l1 l2 l3 l4 l5 : Option Value) (x : Int32), Wp 63 101 (l0 :: l1 :: l2 :: l3 :: l4 :: l5 :: some (.int x) :: ls) (st) h Q ↔ Wp 63 103 (l0 :: l1 :: l2 :: l3 :: l4 :: l5 :: some (.int x) :: ls) (.int x :: st) h Q) ∧
  (∀ (ls : Lo) (st : List Value) (h : Hp) (Q : Option Value → Hp → Prop) (x y : Int32), Wp 63 103 (ls) (.int y :: .int x :: st) h Q ↔ Wp 63 104 (ls) (.int (x + y) :: st) h Q) ∧
  (∀ (ls : Lo) (st : List Value) (h : Hp) (Q : Option Value → Hp → Prop) (l0 l1 l2 l3 l4 l5 l6 l7 : Option Value) (x : Int32), Wp 63 104 (l0 :: l1 :: l2 :: l3 :: l4 :: l5 :: l6 :: l7 :: ls) (.int x :: st) h Q ↔ Wp 63 106 (l0 :: l1 :: l2 :: l3 :: l4 :: l5 :: clr l6 :: some (.int x) :: ls) (st) h Q) ∧
  (∀ (ls : Lo) (st : List Value) (h : Hp) (Q : Option Value → Hp → Prop) (l0 l1 l2 l3 : Option Value) (i : Nat), Wp 63 106 (l0 :: l1 :: l2 :: l3 :: some (.ref i) :: ls) (st) h Q ↔ Wp 63 108 (l0 :: l1 :: l2 :: l3 :: some (.ref i) :: ls) (.ref i :: st) h Q) ∧
  (∀ (ls : Lo) (st : List Value) (n sl : Nat) (C Z : Nat → Nat) (I : Nat → Nat → Int32) (L : Nat → Nat → Int64) (R : Nat → Nat → Nat) (Q : Option Value → Hp → Prop) (i : Nat), Wp 63 108 (ls) (.ref i :: st) (n, sl, C, Z, I, L, R) Q ↔ (inG 7 (C i) = true ∧ Wp 63 111 (ls) (.ref (R i 3) :: st) (n, sl, C, Z, I, L, R) Q)) ∧
  (∀ (ls : Lo) (st : List Value) (h : Hp) (Q : Option Value → Hp → Prop) (l0 l1 l2 l3 l4 l5 l6 : Option Value) (x : Int32), Wp 63 111 (l0 :: l1 :: l2 :: l3 :: l4 :: l5 :: l6 :: some (.int x) :: ls) (st) h Q ↔ Wp 63 113 (l0 :: l1 :: l2 :: l3 :: l4 :: l5 :: l6 :: some (.int x) :: ls) (.int x :: st) h Q) ∧
  (∀ (ls : Lo) (st : List Value) (h : Hp) (Q : Option Value → Hp → Prop) (l0 l1 l2 : Option Value) (i : Nat), Wp 63 113 (l0 :: l1 :: l2 :: some (.ref i) :: ls) (st) h Q ↔ Wp 63 114 (l0 :: l1 :: l2 :: some (.ref i) :: ls) (.ref i :: st) h Q) ∧
  (∀ (ls : Lo) (st : List Value) (n sl : Nat) (C Z : Nat → Nat) (I : Nat → Nat → Int32) (L : Nat → Nat → Int64) (R : Nat → Nat → Nat) (Q : Option Value → Hp → Prop) (i : Nat), Wp 63 114 (ls) (.ref i :: st) (n, sl, C, Z, I, L, R) Q ↔ (inG 7 (C i) = true ∧ Wp 63 117 (ls) (.ref (R i 3) :: st) (n, sl, C, Z, I, L, R) Q)) ∧
  (∀ (ls : Lo) (st : List Value) (h : Hp) (Q : Option Value → Hp → Prop) (l0 l1 l2 l3 l4 l5 l6 : Option Value) (x : Int32), Wp 63 117 (l0 :: l1 :: l2 :: l3 :: l4 :: l5 :: l6 :: some (.int x) :: ls) (st) h Q ↔ Wp 63 119 (l0 :: l1 :: l2 :: l3 :: l4 :: l5 :: l6 :: some (.int x) :: ls) (.int x :: st) h Q) ∧
  (∀ (ls : Lo) (st : List Value) (n sl : Nat) (C Z : Nat → Nat) (I : Nat → Nat → Int32) (L : Nat → Nat → Int64) (R : Nat → Nat → Nat) (Q : Option Value → Hp → Prop) (i : Nat) (y : Int32), Wp 63 119 (ls) (.int y :: .ref i :: st) (n, sl, C, Z, I, L, R) Q ↔ ((inb y (Z i) = true ∧ C i = 21) ∧ Wp 63 120 (ls) (.int (I i (ix y)) :: st) (n, sl, C, Z, I, L, R) Q)) ∧
  (∀ (ls : Lo) (st : List Value) (h : Hp) (Q : Option Value → Hp → Prop) (l0 l1 : Option Value) (x : Int32), Wp 63 120 (l0 :: l1 :: some (.int x) :: ls) (st) h Q ↔ Wp 63 121 (l0 :: l1 :: some (.int x) :: ls) (.int x :: st) h Q) ∧
  (∀ (ls : Lo) (st : List Value) (h : Hp) (Q : Option Value → Hp → Prop) (l0 l1 l2 : Option Value) (i : Nat), Wp 63 121 (l0 :: l1 :: l2 :: some (.ref i) :: ls) (st) h Q ↔ Wp 63 122 (l0 :: l1 :: l2 :: some (.ref i) :: ls) (.ref i :: st) h Q) ∧
  (∀ (ls : Lo) (st : List Value) (n sl : Nat) (C Z : Nat → Nat) (I : Nat → Nat → Int32) (L : Nat → Nat → Int64) (R : Nat → Nat → Nat) (Q : Option Value → Hp → Prop) (i : Nat), Wp 63 122 (ls) (.ref i :: st) (n, sl, C, Z, I, L, R) Q ↔ (inG 7 (C i) = true ∧ Wp 63 125 (ls) (.int (I i 2) :: st) (n, sl, C, Z, I, L, R) Q)) ∧
  (∀ (ls : Lo) (st : List Value) (h : Hp) (Q : Option Value → Hp → Prop) (x y : Int32), Wp 63 125 (ls) (.int y :: .int x :: st) h Q ↔ Wp 63 126 (ls) (.int (x * y) :: st) h Q) ∧
  (∀ (ls : Lo) (st : List Value) (h : Hp) (Q : Option Value → Hp → Prop) (l0 l1 l2 : Option Value) (i : Nat), Wp 63 126 (l0 :: l1 :: l2 :: some (.ref i) :: ls) (st) h Q ↔ Wp 63 127 (l0 :: l1 :: l2 :: some (.ref i) :: ls) (.ref i :: st) h Q) ∧
  (∀ (ls : Lo) (st : List Value) (n sl : Nat) (C Z : Nat → Nat) (I : Nat → Nat → Int32) (L : Nat → Nat → Int64) (R : Nat → Nat → Nat) (Q : Option Value → Hp → Prop) (i : Nat), Wp 63 127 (ls) (.ref i :: st) (n, sl, C, Z, I, L, R) Q ↔ (inG 7 (C i) = true ∧ Wp 63 130 (ls) (.ref (R i 4) :: st) (n, sl, C, Z, I, L, R) Q)) ∧
  (∀ (ls : Lo) (st : List Value) (h : Hp) (Q : Option Value → Hp → Prop) (l0 l1 l2 l3 l4 : Option Value) (x : Int32), Wp 63 130 (l0 :: l1 :: l2 :: l3 :: l4 :: some (.int x) :: ls) (st) h Q ↔ Wp 63 132 (l0 :: l1 :: l2 :: l3 :: l4 :: some (.int x) :: ls) (.int x :: st) h Q) ∧
  (∀ (ls : Lo) (st : List Value) (n sl : Nat) (C Z : Nat → Nat) (I : Nat → Nat → Int32) (L : Nat → Nat → Int64) (R : Nat → Nat → Nat) (Q : Option Value → Hp → Prop) (i : Nat) (y : Int32), Wp 63 132 (ls) (.int y :: .ref i :: st) (n, sl, C, Z, I, L, R) Q ↔ ((inb y (Z i) = true ∧ C i = 21) ∧ Wp 63 133 (ls) (.int (I i (ix y)) :: st) (n, sl, C, Z, I, L, R) Q)) ∧
  (∀ (ls : Lo) (st : List Value) (h : Hp) (Q : Option Value → Hp → Prop) (x y : Int32), Wp 63 133 (ls) (.int y :: .int x :: st) h Q ↔ Wp 63 134 (ls) (.int (x * y) :: st) h Q) ∧
  (∀ (ls : Lo) (st : List Value) (h : Hp) (Q : Option Value → Hp → Prop) (l0 l1 l2 : Option Value) (i : Nat), Wp 63 134 (l0 :: l1 :: l2 :: some (.ref i) :: ls) (st) h Q ↔ Wp 63 135 (l0 :: l1 :: l2 :: some (.ref i) :: ls) (.ref i :: st) h Q) := ⟨by intro ls st n sl C Z I L R Q i; exact e_get (g := 7) (s := 1) (ty := 0) d63_91 rfl rfl rfl,
  by intro ls st h Q x y; exact e_ic d63_94 (by decide) c_ge,
  by intro ls st h Q; exact e_iconst d63_97 rfl,
  by intro ls st h Q l0 l1 l2 l3 l4 x; exact e_iload d63_98 rfl,
  by intro ls st h Q x y; exact e_imul d63_100,
  by intro ls st h Q l0 l1 l2 l3 l4 l5 x; exact e_iload d63_101 rfl,
  by intro ls st h Q x y; exact e_iadd d63_103,
  by intro ls st h Q l0 l1 l2 l3 l4 l5 l6 l7 x; exact e_istore d63_104 rfl,
  by intro ls st h Q l0 l1 l2 l3 i; exact e_aload d63_106 rfl,
  by intro ls st n sl C Z I L R Q i; exact e_get (g := 7) (s := 3) (ty := 2) d63_108 rfl rfl rfl,
  by intro ls st h Q l0 l1 l2 l3 l4 l5 l6 x; exact e_iload d63_111 rfl,
  by intro ls st h Q l0 l1 l2 i; exact e_aload_n d63_113 rfl,
  by intro ls st n sl C Z I L R Q i; exact e_get (g := 7) (s := 3) (ty := 2) d63_114 rfl rfl rfl,
  by intro ls st h Q l0 l1 l2 l3 l4 l5 l6 x; exact e_iload d63_117 rfl,
  by intro ls st n sl C Z I L R Q i y; exact e_iald d63_119,
  by intro ls st h Q l0 l1 x; exact e_iload_n d63_120 rfl,
  by intro ls st h Q l0 l1 l2 i; exact e_aload_n d63_121 rfl,
  by intro ls st n sl C Z I L R Q i; exact e_get (g := 7) (s := 2) (ty := 0) d63_122 rfl rfl rfl,
  by intro ls st h Q x y; exact e_imul d63_125,
  by intro ls st h Q l0 l1 l2 i; exact e_aload_n d63_126 rfl,
  by intro ls st n sl C Z I L R Q i; exact e_get (g := 7) (s := 4) (ty := 2) d63_127 rfl rfl rfl,
  by intro ls st h Q l0 l1 l2 l3 l4 x; exact e_iload d63_130 rfl,
  by intro ls st n sl C Z I L R Q i y; exact e_iald d63_132,
  by intro ls st h Q x y; exact e_imul d63_133,
  by intro ls st h Q l0 l1 l2 i; exact e_aload_n d63_134 rfl⟩
set_option maxRecDepth 20000 in
theorem S63_3 : (∀ (ls : Lo) (st : List Value) (n sl : Nat) (C Z : Nat → Nat) (I : Nat → Nat → Int32) (L : Nat → Nat → Int64) (R : Nat → Nat → Nat) (Q : Option Value → Hp → Prop) (i : Nat), Wp 63 135 (ls) (.ref i :: st) (n, sl, C, Z, I, L, R) Q ↔ (inG 7 (C i) = true ∧ Wp 63 138 (ls) (.ref (R i 5) :: st) (n, sl, C, Z, I, L, R) Q)) ∧
  (∀ (ls : Lo) (st : List Value) (h : Hp) (Q : Option Value → Hp → Prop) (l0 l1 l2 l3 l4 l5 : Option Value) (x : Int32), Wp 63 138 (l0 :: l1 :: l2 :: l3 :: l4 :: l5 :: some (.int x) :: ls) (st) h Q ↔ Wp 63 140 (l0 :: l1 :: l2 :: l3 :: l4 :: l5 :: some (.int x) :: ls) (.int x :: st) h Q) ∧
  (∀ (ls : Lo) (st : List Value) (n sl : Nat) (C Z : Nat → Nat) (I : Nat → Nat → Int32) (L : Nat → Nat → Int64) (R : Nat → Nat → Nat) (Q : Option Value → Hp → Prop) (i : Nat) (y : Int32), Wp 63 140 (ls) (.int y :: .ref i :: st) (n, sl, C, Z, I, L, R) Q ↔ ((inb y (Z i) = true ∧ C i = 21) ∧ Wp 63 141 (ls) (.int (I i (ix y)) :: st) (n, sl, C, Z, I, L, R) Q)) ∧
  (∀ (ls : Lo) (st : List Value) (h : Hp) (Q : Option Value → Hp → Prop) (x y : Int32), Wp 63 141 (ls) (.int y :: .int x :: st) h Q ↔ Wp 63 142 (ls) (.int (x * y) :: st) h Q) ∧
  (∀ (ls : Lo) (st : List Value) (h : Hp) (Q : Option Value → Hp → Prop) (x y : Int32), Wp 63 142 (ls) (.int y :: .int x :: st) h Q ↔ Wp 63 143 (ls) (.int (x + y) :: st) h Q) ∧
  (∀ (ls : Lo) (st : List Value) (n sl : Nat) (C Z : Nat → Nat) (I : Nat → Nat → Int32) (L : Nat → Nat → Int64) (R : Nat → Nat → Nat) (Q : Option Value → Hp → Prop) (i : Nat) (x y : Int32), Wp 63 143 (ls) (.int x :: .int y :: .ref i :: st) (n, sl, C, Z, I, L, R) Q ↔ ((inb y (Z i) = true ∧ C i = 21) ∧ Wp 63 144 (ls) (st) (n, sl, C, Z, u2 I i (ix y) x, L, R) Q)) ∧
  (∀ (ls : Lo) (st : List Value) (h : Hp) (Q : Option Value → Hp → Prop) (l0 l1 l2 l3 l4 l5 : Option Value) (x : Int32), Wp 63 144 (l0 :: l1 :: l2 :: l3 :: l4 :: l5 :: some (.int x) :: ls) (st) h Q ↔ Wp 63 147 (l0 :: l1 :: l2 :: l3 :: l4 :: clr l5 :: some (.int (x + (1))) :: ls) (st) h Q) ∧
  (∀ (ls : Lo) (st : List Value) (h : Hp) (Q : Option Value → Hp → Prop), Wp 63 147 (ls) (st) h Q ↔ Wp 63 88 (ls) (st) h Q) ∧
  (∀ (ls : Lo) (st : List Value) (h : Hp) (Q : Option Value → Hp → Prop) (l0 l1 l2 l3 : Option Value) (i : Nat), Wp 63 150 (l0 :: l1 :: l2 :: l3 :: some (.ref i) :: ls) (st) h Q ↔ Wp 63 152 (l0 :: l1 :: l2 :: l3 :: some (.ref i) :: ls) (.ref i :: st) h Q) ∧
  (∀ (ls : Lo) (st : List Value) (n sl : Nat) (C Z : Nat → Nat) (I : Nat → Nat → Int32) (L : Nat → Nat → Int64) (R : Nat → Nat → Nat) (Q : Option Value → Hp → Prop) (i : Nat), Wp 63 152 (ls) (.ref i :: st) (n, sl, C, Z, I, L, R) Q ↔ (inG 7 (C i) = true ∧ Wp 63 155 (ls) (.ref (R i 4) :: st) (n, sl, C, Z, I, L, R) Q)) ∧
  (∀ (ls : Lo) (st : List Value) (h : Hp) (Q : Option Value → Hp → Prop) (l0 l1 l2 l3 l4 : Option Value) (x : Int32), Wp 63 155 (l0 :: l1 :: l2 :: l3 :: l4 :: some (.int x) :: ls) (st) h Q ↔ Wp 63 157 (l0 :: l1 :: l2 :: l3 :: l4 :: some (.int x) :: ls) (.int x :: st) h Q) ∧
  (∀ (ls : Lo) (st : List Value) (h : Hp) (Q : Option Value → Hp → Prop) (l0 l1 l2 : Option Value) (i : Nat), Wp 63 157 (l0 :: l1 :: l2 :: some (.ref i) :: ls) (st) h Q ↔ Wp 63 158 (l0 :: l1 :: l2 :: some (.ref i) :: ls) (.ref i :: st) h Q) ∧
  (∀ (ls : Lo) (st : List Value) (n sl : Nat) (C Z : Nat → Nat) (I : Nat → Nat → Int32) (L : Nat → Nat → Int64) (R : Nat → Nat → Nat) (Q : Option Value → Hp → Prop) (i : Nat), Wp 63 158 (ls) (.ref i :: st) (n, sl, C, Z, I, L, R) Q ↔ (inG 7 (C i) = true ∧ Wp 63 161 (ls) (.ref (R i 4) :: st) (n, sl, C, Z, I, L, R) Q)) ∧
  (∀ (ls : Lo) (st : List Value) (h : Hp) (Q : Option Value → Hp → Prop) (l0 l1 l2 l3 l4 : Option Value) (x : Int32), Wp 63 161 (l0 :: l1 :: l2 :: l3 :: l4 :: some (.int x) :: ls) (st) h Q ↔ Wp 63 163 (l0 :: l1 :: l2 :: l3 :: l4 :: some (.int x) :: ls) (.int x :: st) h Q) ∧
  (∀ (ls : Lo) (st : List Value) (n sl : Nat) (C Z : Nat → Nat) (I : Nat → Nat → Int32) (L : Nat → Nat → Int64) (R : Nat → Nat → Nat) (Q : Option Value → Hp → Prop) (i : Nat) (y : Int32), Wp 63 163 (ls) (.int y :: .ref i :: st) (n, sl, C, Z, I, L, R) Q ↔ ((inb y (Z i) = true ∧ C i = 21) ∧ Wp 63 164 (ls) (.int (I i (ix y)) :: st) (n, sl, C, Z, I, L, R) Q)) ∧
  (∀ (ls : Lo) (st : List Value) (n sl : Nat) (C Z : Nat → Nat) (I : Nat → Nat → Int32) (L : Nat → Nat → Int64) (R : Nat → Nat → Nat) (Q : Option Value → Hp → Prop) (i : Nat) (x y : Int32), Wp 63 164 (ls) (.int x :: .int y :: .ref i :: st) (n, sl, C, Z, I, L, R) Q ↔ ((inb y (Z i) = true ∧ C i = 21) ∧ Wp 63 165 (ls) (st) (n, sl, C, Z, u2 I i (ix y) x, L, R) Q)) ∧
  (∀ (ls : Lo) (st : List Value) (h : Hp) (Q : Option Value → Hp → Prop) (l0 l1 l2 l3 : Option Value) (i : Nat), Wp 63 165 (l0 :: l1 :: l2 :: l3 :: some (.ref i) :: ls) (st) h Q ↔ Wp 63 167 (l0 :: l1 :: l2 :: l3 :: some (.ref i) :: ls) (.ref i :: st) h Q) ∧
  (∀ (ls : Lo) (st : List Value) (n sl : Nat) (C Z : Nat → Nat) (I : Nat → Nat → Int32) (L : Nat → Nat → Int64) (R : Nat → Nat → Nat) (Q : Option Value → Hp → Prop) (i : Nat), Wp 63 167 (ls) (.ref i :: st) (n, sl, C, Z, I, L, R) Q ↔ (inG 7 (C i) = true ∧ Wp 63 170 (ls) (.ref (R i 5) :: st) (n, sl, C, Z, I, L, R) Q)) ∧
  (∀ (ls : Lo) (st : List Value) (h : Hp) (Q : Option Value → Hp → Prop) (l0 l1 l2 l3 l4 : Option Value) (x : Int32), Wp 63 170 (l0 :: l1 :: l2 :: l3 :: l4 :: some (.int x) :: ls) (st) h Q ↔ Wp 63 172 (l0 :: l1 :: l2 :: l3 :: l4 :: some (.int x) :: ls) (.int x :: st) h Q) ∧
  (∀ (ls : Lo) (st : List Value) (h : Hp) (Q : Option Value → Hp → Prop) (l0 l1 l2 : Option Value) (i : Nat), Wp 63 172 (l0 :: l1 :: l2 :: some (.ref i) :: ls) (st) h Q ↔ Wp 63 173 (l0 :: l1 :: l2 :: some (.ref i) :: ls) (.ref i :: st) h Q) ∧
  (∀ (ls : Lo) (st : List Value) (n sl : Nat) (C Z : Nat → Nat) (I : Nat → Nat → Int32) (L : Nat → Nat → Int64) (R : Nat → Nat → Nat) (Q : Option Value → Hp → Prop) (i : Nat), Wp 63 173 (ls) (.ref i :: st) (n, sl, C, Z, I, L, R) Q ↔ (inG 7 (C i) = true ∧ Wp 63 176 (ls) (.ref (R i 5) :: st) (n, sl, C, Z, I, L, R) Q)) ∧
  (∀ (ls : Lo) (st : List Value) (h : Hp) (Q : Option Value → Hp → Prop) (l0 l1 l2 l3 l4 : Option Value) (x : Int32), Wp 63 176 (l0 :: l1 :: l2 :: l3 :: l4 :: some (.int x) :: ls) (st) h Q ↔ Wp 63 178 (l0 :: l1 :: l2 :: l3 :: l4 :: some (.int x) :: ls) (.int x :: st) h Q) ∧
  (∀ (ls : Lo) (st : List Value) (n sl : Nat) (C Z : Nat → Nat) (I : Nat → Nat → Int32) (L : Nat → Nat → Int64) (R : Nat → Nat → Nat) (Q : Option Value → Hp → Prop) (i : Nat) (y : Int32), Wp 63 178 (ls) (.int y :: .ref i :: st) (n, sl, C, Z, I, L, R) Q ↔ ((inb y (Z i) = true ∧ C i = 21) ∧ Wp 63 179 (ls) (.int (I i (ix y)) :: st) (n, sl, C, Z, I, L, R) Q)) ∧
  (∀ (ls : Lo) (st : List Value) (n sl : Nat) (C Z : Nat → Nat) (I : Nat → Nat → Int32) (L : Nat → Nat → Int64) (R : Nat → Nat → Nat) (Q : Option Value → Hp → Prop) (i : Nat) (x y : Int32), Wp 63 179 (ls) (.int x :: .int y :: .ref i :: st) (n, sl, C, Z, I, L, R) Q ↔ ((inb y (Z i) = true ∧ C i = 21) ∧ Wp 63 180 (ls) (st) (n, sl, C, Z, u2 I i (ix y) x, L, R) Q)) ∧
  (∀ (ls : Lo) (st : List Value) (h : Hp) (Q : Option Value → Hp → Prop) (l0 l1 l2 l3 l4 : Option Value) (x : Int32), Wp 63 180 (l0 :: l1 :: l2 :: l3 :: l4 :: some (.int x) :: ls) (st) h Q ↔ Wp 63 183 (l0 :: l1 :: l2 :: l3 :: clr l4 :: some (.int (x + (1))) :: ls) (st) h Q) := ⟨by intro ls st n sl C Z I L R Q i; exact e_get (g := 7) (s := 5) (ty := 2) d63_135 rfl rfl rfl,
  by intro ls st h Q l0 l1 l2 l3 l4 l5 x; exact e_iload d63_138 rfl,
  by intro ls st n sl C Z I L R Q i y; exact e_iald d63_140,
  by intro ls st h Q x y; exact e_imul d63_141,
  by intro ls st h Q x y; exact e_iadd d63_142,
  by intro ls st n sl C Z I L R Q i x y; exact e_iast d63_143,
  by intro ls st h Q l0 l1 l2 l3 l4 l5 x; exact e_iinc d63_144 rfl rfl rfl,
  by intro ls st h Q; exact e_goto d63_147 (by decide),
  by intro ls st h Q l0 l1 l2 l3 i; exact e_aload d63_150 rfl,
  by intro ls st n sl C Z I L R Q i; exact e_get (g := 7) (s := 4) (ty := 2) d63_152 rfl rfl rfl,
  by intro ls st h Q l0 l1 l2 l3 l4 x; exact e_iload d63_155 rfl,
  by intro ls st h Q l0 l1 l2 i; exact e_aload_n d63_157 rfl,
  by intro ls st n sl C Z I L R Q i; exact e_get (g := 7) (s := 4) (ty := 2) d63_158 rfl rfl rfl,
  by intro ls st h Q l0 l1 l2 l3 l4 x; exact e_iload d63_161 rfl,
  by intro ls st n sl C Z I L R Q i y; exact e_iald d63_163,
  by intro ls st n sl C Z I L R Q i x y; exact e_iast d63_164,
  by intro ls st h Q l0 l1 l2 l3 i; exact e_aload d63_165 rfl,
  by intro ls st n sl C Z I L R Q i; exact e_get (g := 7) (s := 5) (ty := 2) d63_167 rfl rfl rfl,
  by intro ls st h Q l0 l1 l2 l3 l4 x; exact e_iload d63_170 rfl,
  by intro ls st h Q l0 l1 l2 i; exact e_aload_n d63_172 rfl,
  by intro ls st n sl C Z I L R Q i; exact e_get (g := 7) (s := 5) (ty := 2) d63_173 rfl rfl rfl,
  by intro ls st h Q l0 l1 l2 l3 l4 x; exact e_iload d63_176 rfl,
  by intro ls st n sl C Z I L R Q i y; exact e_iald d63_178,
  by intro ls st n sl C Z I L R Q i x y; exact e_iast d63_179,
  by intro ls st h Q l0 l1 l2 l3 l4 x; exact e_iinc d63_180 rfl rfl rfl⟩
set_option maxRecDepth 20000 in
theorem S63_4 : (∀ (ls : Lo) (st : List Value) (h : Hp) (Q : Option Value → Hp → Prop), Wp 63 183 (ls) (st) h Q ↔ Wp 63 76 (ls) (st) h Q) ∧
  (∀ (ls : Lo) (st : List Value) (h : Hp) (Q : Option Value → Hp → Prop)  (i : Nat), Wp 63 186 (some (.ref i) :: ls) (st) h Q ↔ Wp 63 187 (some (.ref i) :: ls) (.ref i :: st) h Q) ∧
  (∀ (ls : Lo) (st : List Value) (h : Hp) (Q : Option Value → Hp → Prop) (l0 l1 l2 l3 : Option Value) (i : Nat), Wp 63 187 (l0 :: l1 :: l2 :: l3 :: some (.ref i) :: ls) (st) h Q ↔ Wp 63 189 (l0 :: l1 :: l2 :: l3 :: some (.ref i) :: ls) (.ref i :: st) h Q) ∧
  (∀ (ls : Lo) (st : List Value) (n sl : Nat) (C Z : Nat → Nat) (I : Nat → Nat → Int32) (L : Nat → Nat → Int64) (R : Nat → Nat → Nat) (Q : Option Value → Hp → Prop) (x0 : Nat) (i : Nat), C i = 10 → (Wp 63 189 (ls) (.ref x0 :: .ref i :: st) (n, sl, C, Z, I, L, R) Q ↔ (wsum st ≤ 8 ∧ Call 96 [some (.ref i), some (.ref x0), none, none, none, none, none] (n, sl, C, Z, I, L, R) 63 192 ls st Q))) ∧
  (∀ (ls : Lo) (h : Hp) (Q : Option Value → Hp → Prop) (x : Int32), Wp 63 192 (ls) ([.int x]) h Q ↔ Q (some (.int x)) h) := ⟨by intro ls st h Q; exact e_goto d63_183 (by decide),
  by intro ls st h Q i; exact e_aload_n d63_186 rfl,
  by intro ls st h Q l0 l1 l2 l3 i; exact e_aload d63_187 rfl,
  by intro ls st n sl C Z I L R Q x0 i hh; exact e_iv (k2 := 96) (c := 10) (as := [.ref x0]) d63_189 rfl (by decide) rfl rfl (by decide +kernel) (Nat.le_of_ble_eq_true rfl) rfl hh,
  by intros; exact e_rI (p := True) d63_192 rfl⟩
theorem d64_0 : decode (byt 64) 0 = .ok (.aload_n 0, 1) := by decide +kernel
theorem d64_1 : decode (byt 64) 1 = .ok (.iload_n 1, 1) := by decide +kernel
theorem d64_2 : decode (byt 64) 2 = .ok (.invokevirtual 84, 3) := by decide +kernel
theorem d64_5 : decode (byt 64) 5 = .ok (.astore_n 3, 1) := by decide +kernel
theorem d64_6 : decode (byt 64) 6 = .ok (.aload_n 3, 1) := by decide +kernel
theorem d64_7 : decode (byt 64) 7 = .ok (.ifnull 19, 3) := by decide +kernel
theorem d64_10 : decode (byt 64) 10 = .ok (.iload_n 2, 1) := by decide +kernel
theorem d64_11 : decode (byt 64) 11 = .ok (.iconst 0, 1) := by decide +kernel
theorem d64_12 : decode (byt 64) 12 = .ok (.iconst 1, 1) := by decide +kernel
theorem d64_13 : decode (byt 64) 13 = .ok (.aload_n 3, 1) := by decide +kernel
theorem d64_14 : decode (byt 64) 14 = .ok (.getfield 106, 3) := by decide +kernel
theorem d64_17 : decode (byt 64) 17 = .ok (.ishl, 1) := by decide +kernel
theorem d64_18 : decode (byt 64) 18 = .ok (.iconst 1, 1) := by decide +kernel
theorem d64_19 : decode (byt 64) 19 = .ok (.isub, 1) := by decide +kernel
theorem d64_20 : decode (byt 64) 20 = .ok (.invokestatic 66, 3) := by decide +kernel
theorem d64_23 : decode (byt 64) 23 = .ok (.ifCond .ne 6, 3) := by decide +kernel
theorem d64_26 : decode (byt 64) 26 = .ok (.bipush (-2), 2) := by decide +kernel
theorem d64_28 : decode (byt 64) 28 = .ok (.ireturn, 1) := by decide +kernel
theorem d64_29 : decode (byt 64) 29 = .ok (.aload_n 3, 1) := by decide +kernel
theorem d64_30 : decode (byt 64) 30 = .ok (.instanceof 74, 3) := by decide +kernel
theorem d64_33 : decode (byt 64) 33 = .ok (.ifCond .eq 6, 3) := by decide +kernel
theorem d64_36 : decode (byt 64) 36 = .ok (.bipush (-3), 2) := by decide +kernel
theorem d64_38 : decode (byt 64) 38 = .ok (.ireturn, 1) := by decide +kernel
theorem d64_39 : decode (byt 64) 39 = .ok (.aload_n 0, 1) := by decide +kernel
theorem d64_40 : decode (byt 64) 40 = .ok (.invokevirtual 70, 3) := by decide +kernel
theorem d64_43 : decode (byt 64) 43 = .ok (.ifCond .eq 6, 3) := by decide +kernel
theorem d64_46 : decode (byt 64) 46 = .ok (.bipush (-4), 2) := by decide +kernel
theorem d64_48 : decode (byt 64) 48 = .ok (.ireturn, 1) := by decide +kernel
theorem d64_49 : decode (byt 64) 49 = .ok (.new 129, 3) := by decide +kernel
theorem d64_52 : decode (byt 64) 52 = .ok (.dup, 1) := by decide +kernel
theorem d64_53 : decode (byt 64) 53 = .ok (.aload_n 0, 1) := by decide +kernel
theorem d64_54 : decode (byt 64) 54 = .ok (.getfield 15, 3) := by decide +kernel
theorem d64_57 : decode (byt 64) 57 = .ok (.iload_n 2, 1) := by decide +kernel
theorem d64_58 : decode (byt 64) 58 = .ok (.invokestatic 131, 3) := by decide +kernel
theorem d64_61 : decode (byt 64) 61 = .ok (.aload_n 3, 1) := by decide +kernel
theorem d64_62 : decode (byt 64) 62 = .ok (.getfield 109, 3) := by decide +kernel
theorem d64_65 : decode (byt 64) 65 = .ok (.invokespecial 137, 3) := by decide +kernel
theorem d64_68 : decode (byt 64) 68 = .ok (.astore 4, 2) := by decide +kernel
theorem d64_70 : decode (byt 64) 70 = .ok (.iconst 0, 1) := by decide +kernel
theorem d64_71 : decode (byt 64) 71 = .ok (.istore 5, 2) := by decide +kernel
theorem d64_73 : decode (byt 64) 73 = .ok (.iconst 0, 1) := by decide +kernel
theorem d64_74 : decode (byt 64) 74 = .ok (.istore 6, 2) := by decide +kernel
theorem d64_76 : decode (byt 64) 76 = .ok (.iload 6, 2) := by decide +kernel
theorem d64_78 : decode (byt 64) 78 = .ok (.aload_n 3, 1) := by decide +kernel
theorem d64_79 : decode (byt 64) 79 = .ok (.getfield 106, 3) := by decide +kernel
theorem d64_82 : decode (byt 64) 82 = .ok (.if_icmp .ge 39, 3) := by decide +kernel
theorem d64_85 : decode (byt 64) 85 = .ok (.iload_n 2, 1) := by decide +kernel
theorem d64_86 : decode (byt 64) 86 = .ok (.iload 6, 2) := by decide +kernel
theorem d64_88 : decode (byt 64) 88 = .ok (.ishr, 1) := by decide +kernel
theorem d64_89 : decode (byt 64) 89 = .ok (.iconst 1, 1) := by decide +kernel
theorem d64_90 : decode (byt 64) 90 = .ok (.iand, 1) := by decide +kernel
theorem d64_91 : decode (byt 64) 91 = .ok (.iconst 1, 1) := by decide +kernel
theorem d64_92 : decode (byt 64) 92 = .ok (.if_icmp .ne 23, 3) := by decide +kernel
theorem d64_95 : decode (byt 64) 95 = .ok (.iload 5, 2) := by decide +kernel
theorem d64_97 : decode (byt 64) 97 = .ok (.iconst 3, 1) := by decide +kernel
theorem d64_98 : decode (byt 64) 98 = .ok (.if_icmp .ge 17, 3) := by decide +kernel
theorem d64_101 : decode (byt 64) 101 = .ok (.aload 4, 2) := by decide +kernel
theorem d64_103 : decode (byt 64) 103 = .ok (.iload 5, 2) := by decide +kernel
theorem d64_105 : decode (byt 64) 105 = .ok (.aload_n 3, 1) := by decide +kernel
theorem d64_106 : decode (byt 64) 106 = .ok (.iload 6, 2) := by decide +kernel
theorem d64_108 : decode (byt 64) 108 = .ok (.iload_n 2, 1) := by decide +kernel
theorem d64_109 : decode (byt 64) 109 = .ok (.invokestatic 138, 3) := by decide +kernel
theorem d64_112 : decode (byt 64) 112 = .ok (.iinc 5 1, 3) := by decide +kernel
theorem d64_115 : decode (byt 64) 115 = .ok (.iinc 6 1, 3) := by decide +kernel
theorem d64_118 : decode (byt 64) 118 = .ok (.goto (-42), 3) := by decide +kernel
theorem d64_121 : decode (byt 64) 121 = .ok (.aload 4, 2) := by decide +kernel
theorem d64_123 : decode (byt 64) 123 = .ok (.getfield 142, 3) := by decide +kernel
theorem d64_126 : decode (byt 64) 126 = .ok (.iconst 0, 1) := by decide +kernel
theorem d64_127 : decode (byt 64) 127 = .ok (.aload_n 3, 1) := by decide +kernel
theorem d64_128 : decode (byt 64) 128 = .ok (.getfield 102, 3) := by decide +kernel
theorem d64_131 : decode (byt 64) 131 = .ok (.iconst 0, 1) := by decide +kernel
theorem d64_132 : decode (byt 64) 132 = .ok (.iaload, 1) := by decide +kernel
theorem d64_133 : decode (byt 64) 133 = .ok (.iastore, 1) := by decide +kernel
theorem d64_134 : decode (byt 64) 134 = .ok (.aload_n 0, 1) := by decide +kernel
theorem d64_135 : decode (byt 64) 135 = .ok (.aload 4, 2) := by decide +kernel
theorem d64_137 : decode (byt 64) 137 = .ok (.invokevirtual 80, 3) := by decide +kernel
theorem d64_140 : decode (byt 64) 140 = .ok (.ireturn, 1) := by decide +kernel
set_option maxRecDepth 20000 in
theorem S64_0 : (∀ (ls : Lo) (st : List Value) (h : Hp) (Q : Option Value → Hp → Prop)  (i : Nat), Wp 64 0 (some (.ref i) :: ls) (st) h Q ↔ Wp 64 1 (some (.ref i) :: ls) (.ref i :: st) h Q) ∧
  (∀ (ls : Lo) (st : List Value) (h : Hp) (Q : Option Value → Hp → Prop) (l0 : Option Value) (x : Int32), Wp 64 1 (l0 :: some (.int x) :: ls) (st) h Q ↔ Wp 64 2 (l0 :: some (.int x) :: ls) (.int x :: st) h Q) ∧
  (∀ (ls : Lo) (st : List Value) (n sl : Nat) (C Z : Nat → Nat) (I : Nat → Nat → Int32) (L : Nat → Nat → Int64) (R : Nat → Nat → Nat) (Q : Option Value → Hp → Prop) (x0 : Int32) (i : Nat), C i = 10 → (Wp 64 2 (ls) (.int x0 :: .ref i :: st) (n, sl, C, Z, I, L, R) Q ↔ (wsum st ≤ 8 ∧ Call 92 [some (.ref i), some (.int x0)] (n, sl, C, Z, I, L, R) 64 5 ls st Q))) ∧
  (∀ (ls : Lo) (st : List Value) (h : Hp) (Q : Option Value → Hp → Prop) (l0 l1 l2 l3 : Option Value) (i : Nat), Wp 64 5 (l0 :: l1 :: l2 :: l3 :: ls) (.ref i :: st) h Q ↔ Wp 64 6 (l0 :: l1 :: clr l2 :: some (.ref i) :: ls) (st) h Q) ∧
  (∀ (ls : Lo) (st : List Value) (h : Hp) (Q : Option Value → Hp → Prop) (l0 l1 l2 : Option Value) (i : Nat), Wp 64 6 (l0 :: l1 :: l2 :: some (.ref i) :: ls) (st) h Q ↔ Wp 64 7 (l0 :: l1 :: l2 :: some (.ref i) :: ls) (.ref i :: st) h Q) ∧
  (∀ (ls : Lo) (st : List Value) (h : Hp) (Q : Option Value → Hp → Prop) (i : Nat), Wp 64 7 (ls) (.ref i :: st) h Q ↔ Br 64 26 10 ls st h Q (i = 0)) ∧
  (∀ (ls : Lo) (st : List Value) (h : Hp) (Q : Option Value → Hp → Prop) (l0 l1 : Option Value) (x : Int32), Wp 64 10 (l0 :: l1 :: some (.int x) :: ls) (st) h Q ↔ Wp 64 11 (l0 :: l1 :: some (.int x) :: ls) (.int x :: st) h Q) ∧
  (∀ (ls : Lo) (st : List Value) (h : Hp) (Q : Option Value → Hp → Prop), Wp 64 11 (ls) (st) h Q ↔ Wp 64 12 (ls) (.int (0) :: st) h Q) ∧
  (∀ (ls : Lo) (st : List Value) (h : Hp) (Q : Option Value → Hp → Prop), Wp 64 12 (ls) (st) h Q ↔ Wp 64 13 (ls) (.int (1) :: st) h Q) ∧
  (∀ (ls : Lo) (st : List Value) (h : Hp) (Q : Option Value → Hp → Prop) (l0 l1 l2 : Option Value) (i : Nat), Wp 64 13 (l0 :: l1 :: l2 :: some (.ref i) :: ls) (st) h Q ↔ Wp 64 14 (l0 :: l1 :: l2 :: some (.ref i) :: ls) (.ref i :: st) h Q) ∧
  (∀ (ls : Lo) (st : List Value) (n sl : Nat) (C Z : Nat → Nat) (I : Nat → Nat → Int32) (L : Nat → Nat → Int64) (R : Nat → Nat → Nat) (Q : Option Value → Hp → Prop) (i : Nat), Wp 64 14 (ls) (.ref i :: st) (n, sl, C, Z, I, L, R) Q ↔ (inG 7 (C i) = true ∧ Wp 64 17 (ls) (.int (I i 1) :: st) (n, sl, C, Z, I, L, R) Q)) ∧
  (∀ (ls : Lo) (st : List Value) (h : Hp) (Q : Option Value → Hp → Prop) (x y : Int32), Wp 64 17 (ls) (.int y :: .int x :: st) h Q ↔ Wp 64 18 (ls) (.int (x <<< (y &&& 31)) :: st) h Q) ∧
  (∀ (ls : Lo) (st : List Value) (h : Hp) (Q : Option Value → Hp → Prop), Wp 64 18 (ls) (st) h Q ↔ Wp 64 19 (ls) (.int (1) :: st) h Q) ∧
  (∀ (ls : Lo) (st : List Value) (h : Hp) (Q : Option Value → Hp → Prop) (x y : Int32), Wp 64 19 (ls) (.int y :: .int x :: st) h Q ↔ Wp 64 20 (ls) (.int (x - y) :: st) h Q) ∧
  (∀ (ls : Lo) (st : List Value) (h : Hp) (Q : Option Value → Hp → Prop) (x0 : Int32) (x1 : Int32) (x2 : Int32), Wp 64 20 (ls) (.int x2 :: .int x1 :: .int x0 :: st) h Q ↔ (wsum st ≤ 8 ∧ Call 87 [some (.int x0), some (.int x1), some (.int x2)] h 64 23 ls st Q)) ∧
  (∀ (ls : Lo) (st : List Value) (h : Hp) (Q : Option Value → Hp → Prop) (x : Int32), Wp 64 23 (ls) (.int x :: st) h Q ↔ Br 64 29 26 ls st h Q (¬ x = 0)) ∧
  (∀ (ls : Lo) (st : List Value) (h : Hp) (Q : Option Value → Hp → Prop), Wp 64 26 (ls) (st) h Q ↔ Wp 64 28 (ls) (.int (-2) :: st) h Q) ∧
  (∀ (ls : Lo) (h : Hp) (Q : Option Value → Hp → Prop) (x : Int32), Wp 64 28 (ls) ([.int x]) h Q ↔ Q (some (.int x)) h) ∧
  (∀ (ls : Lo) (st : List Value) (h : Hp) (Q : Option Value → Hp → Prop) (l0 l1 l2 : Option Value) (i : Nat), Wp 64 29 (l0 :: l1 :: l2 :: some (.ref i) :: ls) (st) h Q ↔ Wp 64 30 (l0 :: l1 :: l2 :: some (.ref i) :: ls) (.ref i :: st) h Q) ∧
  (∀ (ls : Lo) (st : List Value) (n sl : Nat) (C Z : Nat → Nat) (I : Nat → Nat → Int32) (L : Nat → Nat → Int64) (R : Nat → Nat → Nat) (Q : Option Value → Hp → Prop) (i : Nat), Wp 64 30 (ls) (.ref i :: st) (n, sl, C, Z, I, L, R) Q ↔ (inG 7 (C i) = true ∧ Wp 64 33 (ls) (.int (if isa (C i) 1 = true then 1 else 0) :: st) (n, sl, C, Z, I, L, R) Q)) ∧
  (∀ (ls : Lo) (st : List Value) (h : Hp) (Q : Option Value → Hp → Prop) (x : Int32), Wp 64 33 (ls) (.int x :: st) h Q ↔ Br 64 39 36 ls st h Q (x = 0)) ∧
  (∀ (ls : Lo) (st : List Value) (h : Hp) (Q : Option Value → Hp → Prop), Wp 64 36 (ls) (st) h Q ↔ Wp 64 38 (ls) (.int (-3) :: st) h Q) ∧
  (∀ (ls : Lo) (h : Hp) (Q : Option Value → Hp → Prop) (x : Int32), Wp 64 38 (ls) ([.int x]) h Q ↔ Q (some (.int x)) h) ∧
  (∀ (ls : Lo) (st : List Value) (h : Hp) (Q : Option Value → Hp → Prop)  (i : Nat), Wp 64 39 (some (.ref i) :: ls) (st) h Q ↔ Wp 64 40 (some (.ref i) :: ls) (.ref i :: st) h Q) ∧
  (∀ (ls : Lo) (st : List Value) (n sl : Nat) (C Z : Nat → Nat) (I : Nat → Nat → Int32) (L : Nat → Nat → Int64) (R : Nat → Nat → Nat) (Q : Option Value → Hp → Prop)  (i : Nat), C i = 10 → (Wp 64 40 (ls) (.ref i :: st) (n, sl, C, Z, I, L, R) Q ↔ (wsum st ≤ 8 ∧ Call 91 [some (.ref i)] (n, sl, C, Z, I, L, R) 64 43 ls st Q))) := ⟨by intro ls st h Q i; exact e_aload_n d64_0 rfl,
  by intro ls st h Q l0 x; exact e_iload_n d64_1 rfl,
  by intro ls st n sl C Z I L R Q x0 i hh; exact e_iv (k2 := 92) (c := 10) (as := [.int x0]) d64_2 rfl (by decide) rfl rfl (by decide +kernel) (Nat.le_of_ble_eq_true rfl) rfl hh,
  by intro ls st h Q l0 l1 l2 l3 i; exact e_astore_n d64_5 rfl,
  by intro ls st h Q l0 l1 l2 i; exact e_aload_n d64_6 rfl,
  by intro ls st h Q i; exact e_ifnull d64_7 (by decide),
  by intro ls st h Q l0 l1 x; exact e_iload_n d64_10 rfl,
  by intro ls st h Q; exact e_iconst d64_11 rfl,
  by intro ls st h Q; exact e_iconst d64_12 rfl,
  by intro ls st h Q l0 l1 l2 i; exact e_aload_n d64_13 rfl,
  by intro ls st n sl C Z I L R Q i; exact e_get (g := 7) (s := 1) (ty := 0) d64_14 rfl rfl rfl,
  by intro ls st h Q x y; exact e_ishl d64_17,
  by intro ls st h Q; exact e_iconst d64_18 rfl,
  by intro ls st h Q x y; exact e_isub d64_19,
  by intro ls st h Q x0 x1 x2; exact e_is (k2 := 87) (as := [.int x0, .int x1, .int x2]) d64_20 rfl (by decide) rfl rfl (by decide +kernel) (Nat.le_of_ble_eq_true rfl) rfl,
  by intro ls st h Q x; exact e_if d64_23 (by decide) c_ne,
  by intro ls st h Q; exact e_bipush d64_26 rfl,
  by intros; exact e_rI (p := True) d64_28 rfl,
  by intro ls st h Q l0 l1 l2 i; exact e_aload_n d64_29 rfl,
  by intro ls st n sl C Z I L R Q i; exact e_io (p := 294) (c := 1) d64_30 rfl (by decide),
  by intro ls st h Q x; exact e_if d64_33 (by decide) c_eq,
  by intro ls st h Q; exact e_bipush d64_36 rfl,
  by intros; exact e_rI (p := True) d64_38 rfl,
  by intro ls st h Q i; exact e_aload_n d64_39 rfl,
  by intro ls st n sl C Z I L R Q i hh; exact e_iv (k2 := 91) (c := 10) (as := []) d64_40 rfl (by decide) rfl rfl (by decide +kernel) (Nat.le_of_ble_eq_true rfl) rfl hh⟩
set_option maxRecDepth 20000 in
theorem S64_1 : (∀ (ls : Lo) (st : List Value) (h : Hp) (Q : Option Value → Hp → Prop) (x : Int32), Wp 64 43 (ls) (.int x :: st) h Q ↔ Br 64 49 46 ls st h Q (x = 0)) ∧
  (∀ (ls : Lo) (st : List Value) (h : Hp) (Q : Option Value → Hp → Prop), Wp 64 46 (ls) (st) h Q ↔ Wp 64 48 (ls) (.int (-4) :: st) h Q) ∧
  (∀ (ls : Lo) (h : Hp) (Q : Option Value → Hp → Prop) (x : Int32), Wp 64 48 (ls) ([.int x]) h Q ↔ Q (some (.int x)) h) ∧
  (∀ (ls : Lo) (st : List Value) (n sl : Nat) (C Z : Nat → Nat) (I : Nat → Nat → Int32) (L : Nat → Nat → Int64) (R : Nat → Nat → Nat) (Q : Option Value → Hp → Prop), Wp 64 49 (ls) (st) (n, sl, C, Z, I, L, R) Q ↔ Wp 64 52 (ls) (.ref (n + 1) :: st) (n + 1, sl + 7, va_up C (n + 1) 6, Z, va_up I (n + 1) (fun _ => 0), va_up L (n + 1) (fun _ => 0), va_up R (n + 1) (fun _ => 0)) Q) ∧
  (∀ (ls : Lo) (st : List Value) (h : Hp) (Q : Option Value → Hp → Prop) (x : Int32), Wp 64 52 (ls) (.int x :: st) h Q ↔ Wp 64 53 (ls) (.int x :: .int x :: st) h Q) ∧
  (∀ (ls : Lo) (st : List Value) (h : Hp) (Q : Option Value → Hp → Prop) (i : Nat), Wp 64 52 (ls) (.ref i :: st) h Q ↔ Wp 64 53 (ls) (.ref i :: .ref i :: st) h Q) ∧
  (∀ (ls : Lo) (st : List Value) (h : Hp) (Q : Option Value → Hp → Prop)  (i : Nat), Wp 64 53 (some (.ref i) :: ls) (st) h Q ↔ Wp 64 54 (some (.ref i) :: ls) (.ref i :: st) h Q) ∧
  (∀ (ls : Lo) (st : List Value) (n sl : Nat) (C Z : Nat → Nat) (I : Nat → Nat → Int32) (L : Nat → Nat → Int64) (R : Nat → Nat → Nat) (Q : Option Value → Hp → Prop) (i : Nat), Wp 64 54 (ls) (.ref i :: st) (n, sl, C, Z, I, L, R) Q ↔ (C i = 10 ∧ Wp 64 57 (ls) (.int (I i 1) :: st) (n, sl, C, Z, I, L, R) Q)) ∧
  (∀ (ls : Lo) (st : List Value) (h : Hp) (Q : Option Value → Hp → Prop) (l0 l1 : Option Value) (x : Int32), Wp 64 57 (l0 :: l1 :: some (.int x) :: ls) (st) h Q ↔ Wp 64 58 (l0 :: l1 :: some (.int x) :: ls) (.int x :: st) h Q) ∧
  (∀ (ls : Lo) (st : List Value) (h : Hp) (Q : Option Value → Hp → Prop) (x0 : Int32), Wp 64 58 (ls) (.int x0 :: st) h Q ↔ (wsum st ≤ 8 ∧ Call 167 [some (.int x0)] h 64 61 ls st Q)) ∧
  (∀ (ls : Lo) (st : List Value) (h : Hp) (Q : Option Value → Hp → Prop) (l0 l1 l2 : Option Value) (i : Nat), Wp 64 61 (l0 :: l1 :: l2 :: some (.ref i) :: ls) (st) h Q ↔ Wp 64 62 (l0 :: l1 :: l2 :: some (.ref i) :: ls) (.ref i :: st) h Q) ∧
  (∀ (ls : Lo) (st : List Value) (n sl : Nat) (C Z : Nat → Nat) (I : Nat → Nat → Int32) (L : Nat → Nat → Int64) (R : Nat → Nat → Nat) (Q : Option Value → Hp → Prop) (i : Nat), Wp 64 62 (ls) (.ref i :: st) (n, sl, C, Z, I, L, R) Q ↔ (inG 7 (C i) = true ∧ Wp 64 65 (ls) (.int (I i 2) :: st) (n, sl, C, Z, I, L, R) Q)) ∧
  (∀ (ls : Lo) (st : List Value) (h : Hp) (Q : Option Value → Hp → Prop) (x0 : Int32) (x1 : Int32) (x2 : Int32) (i : Nat), i ≠ 0 → (Wp 64 65 (ls) (.int x2 :: .int x1 :: .int x0 :: .ref i :: st) h Q ↔ (wsum st ≤ 8 ∧ Call 45 [some (.ref i), some (.int x0), some (.int x1), some (.int x2)] h 64 68 ls st Q))) ∧
  (∀ (ls : Lo) (st : List Value) (h : Hp) (Q : Option Value → Hp → Prop) (l0 l1 l2 l3 l4 : Option Value) (i : Nat), Wp 64 68 (l0 :: l1 :: l2 :: l3 :: l4 :: ls) (.ref i :: st) h Q ↔ Wp 64 70 (l0 :: l1 :: l2 :: clr l3 :: some (.ref i) :: ls) (st) h Q) ∧
  (∀ (ls : Lo) (st : List Value) (h : Hp) (Q : Option Value → Hp → Prop), Wp 64 70 (ls) (st) h Q ↔ Wp 64 71 (ls) (.int (0) :: st) h Q) ∧
  (∀ (ls : Lo) (st : List Value) (h : Hp) (Q : Option Value → Hp → Prop) (l0 l1 l2 l3 l4 l5 : Option Value) (x : Int32), Wp 64 71 (l0 :: l1 :: l2 :: l3 :: l4 :: l5 :: ls) (.int x :: st) h Q ↔ Wp 64 73 (l0 :: l1 :: l2 :: l3 :: clr l4 :: some (.int x) :: ls) (st) h Q) ∧
  (∀ (ls : Lo) (st : List Value) (h : Hp) (Q : Option Value → Hp → Prop), Wp 64 73 (ls) (st) h Q ↔ Wp 64 74 (ls) (.int (0) :: st) h Q) ∧
  (∀ (ls : Lo) (st : List Value) (h : Hp) (Q : Option Value → Hp → Prop) (l0 l1 l2 l3 l4 l5 l6 : Option Value) (x : Int32), Wp 64 74 (l0 :: l1 :: l2 :: l3 :: l4 :: l5 :: l6 :: ls) (.int x :: st) h Q ↔ Wp 64 76 (l0 :: l1 :: l2 :: l3 :: l4 :: clr l5 :: some (.int x) :: ls) (st) h Q) ∧
  (∀ (ls : Lo) (st : List Value) (h : Hp) (Q : Option Value → Hp → Prop) (l0 l1 l2 l3 l4 l5 : Option Value) (x : Int32), Wp 64 76 (l0 :: l1 :: l2 :: l3 :: l4 :: l5 :: some (.int x) :: ls) (st) h Q ↔ Wp 64 78 (l0 :: l1 :: l2 :: l3 :: l4 :: l5 :: some (.int x) :: ls) (.int x :: st) h Q) ∧
  (∀ (ls : Lo) (st : List Value) (h : Hp) (Q : Option Value → Hp → Prop) (l0 l1 l2 : Option Value) (i : Nat), Wp 64 78 (l0 :: l1 :: l2 :: some (.ref i) :: ls) (st) h Q ↔ Wp 64 79 (l0 :: l1 :: l2 :: some (.ref i) :: ls) (.ref i :: st) h Q) ∧
  (∀ (ls : Lo) (st : List Value) (n sl : Nat) (C Z : Nat → Nat) (I : Nat → Nat → Int32) (L : Nat → Nat → Int64) (R : Nat → Nat → Nat) (Q : Option Value → Hp → Prop) (i : Nat), Wp 64 79 (ls) (.ref i :: st) (n, sl, C, Z, I, L, R) Q ↔ (inG 7 (C i) = true ∧ Wp 64 82 (ls) (.int (I i 1) :: st) (n, sl, C, Z, I, L, R) Q)) ∧
  (∀ (ls : Lo) (st : List Value) (h : Hp) (Q : Option Value → Hp → Prop) (x y : Int32), Wp 64 82 (ls) (.int y :: .int x :: st) h Q ↔ Br 64 121 85 ls st h Q (y ≤ x)) ∧
  (∀ (ls : Lo) (st : List Value) (h : Hp) (Q : Option Value → Hp → Prop) (l0 l1 : Option Value) (x : Int32), Wp 64 85 (l0 :: l1 :: some (.int x) :: ls) (st) h Q ↔ Wp 64 86 (l0 :: l1 :: some (.int x) :: ls) (.int x :: st) h Q) ∧
  (∀ (ls : Lo) (st : List Value) (h : Hp) (Q : Option Value → Hp → Prop) (l0 l1 l2 l3 l4 l5 : Option Value) (x : Int32), Wp 64 86 (l0 :: l1 :: l2 :: l3 :: l4 :: l5 :: some (.int x) :: ls) (st) h Q ↔ Wp 64 88 (l0 :: l1 :: l2 :: l3 :: l4 :: l5 :: some (.int x) :: ls) (.int x :: st) h Q) ∧
  (∀ (ls : Lo) (st : List Value) (h : Hp) (Q : Option Value → Hp → Prop) (x y : Int32), Wp 64 88 (ls) (.int y :: .int x :: st) h Q ↔ Wp 64 89 (ls) (.int (x >>> (y &&& 31)) :: st) h Q) := ⟨by intro ls st h Q x; exact e_if d64_43 (by decide) c_eq,
  by intro ls st h Q; exact e_bipush d64_46 rfl,
  by intros; exact e_rI (p := True) d64_48 rfl,
  by intro ls st n sl C Z I L R Q; exact e_new (p := 384) (c := 5) d64_49 rfl (by decide) rfl,
  by intro ls st h Q x; exact e_dupI d64_52,
  by intro ls st h Q i; exact e_dupR d64_52,
  by intro ls st h Q i; exact e_aload_n d64_53 rfl,
  by intro ls st n sl C Z I L R Q i; exact e_get (g := 9) (s := 1) (ty := 0) d64_54 rfl rfl (inG_ne (by decide)),
  by intro ls st h Q l0 l1 x; exact e_iload_n d64_57 rfl,
  by intro ls st h Q x0; exact e_is (k2 := 167) (as := [.int x0]) d64_58 rfl (by decide) rfl rfl (by decide +kernel) (Nat.le_of_ble_eq_true rfl) rfl,
  by intro ls st h Q l0 l1 l2 i; exact e_aload_n d64_61 rfl,
  by intro ls st n sl C Z I L R Q i; exact e_get (g := 7) (s := 2) (ty := 0) d64_62 rfl rfl rfl,
  by intro ls st h Q x0 x1 x2 i hh; exact e_ip (k2 := 45) (as := [.int x0, .int x1, .int x2]) d64_65 rfl (by decide) rfl rfl (by decide +kernel) (Nat.le_of_ble_eq_true rfl) rfl hh,
  by intro ls st h Q l0 l1 l2 l3 l4 i; exact e_astore d64_68 rfl,
  by intro ls st h Q; exact e_iconst d64_70 rfl,
  by intro ls st h Q l0 l1 l2 l3 l4 l5 x; exact e_istore d64_71 rfl,
  by intro ls st h Q; exact e_iconst d64_73 rfl,
  by intro ls st h Q l0 l1 l2 l3 l4 l5 l6 x; exact e_istore d64_74 rfl,
  by intro ls st h Q l0 l1 l2 l3 l4 l5 x; exact e_iload d64_76 rfl,
  by intro ls st h Q l0 l1 l2 i; exact e_aload_n d64_78 rfl,
  by intro ls st n sl C Z I L R Q i; exact e_get (g := 7) (s := 1) (ty := 0) d64_79 rfl rfl rfl,
  by intro ls st h Q x y; exact e_ic d64_82 (by decide) c_ge,
  by intro ls st h Q l0 l1 x; exact e_iload_n d64_85 rfl,
  by intro ls st h Q l0 l1 l2 l3 l4 l5 x; exact e_iload d64_86 rfl,
  by intro ls st h Q x y; exact e_ishr d64_88⟩
set_option maxRecDepth 20000 in
theorem S64_2 : (∀ (ls : Lo) (st : List Value) (h : Hp) (Q : Option Value → Hp → Prop), Wp 64 89 (ls) (st) h Q ↔ Wp 64 90 (ls) (.int (1) :: st) h Q) ∧
  (∀ (ls : Lo) (st : List Value) (h : Hp) (Q : Option Value → Hp → Prop) (x y : Int32), Wp 64 90 (ls) (.int y :: .int x :: st) h Q ↔ Wp 64 91 (ls) (.int (x &&& y) :: st) h Q) ∧
  (∀ (ls : Lo) (st : List Value) (h : Hp) (Q : Option Value → Hp → Prop), Wp 64 91 (ls) (st) h Q ↔ Wp 64 92 (ls) (.int (1) :: st) h Q) ∧
  (∀ (ls : Lo) (st : List Value) (h : Hp) (Q : Option Value → Hp → Prop) (x y : Int32), Wp 64 92 (ls) (.int y :: .int x :: st) h Q ↔ Br 64 115 95 ls st h Q (¬ x = y)) ∧
  (∀ (ls : Lo) (st : List Value) (h : Hp) (Q : Option Value → Hp → Prop) (l0 l1 l2 l3 l4 : Option Value) (x : Int32), Wp 64 95 (l0 :: l1 :: l2 :: l3 :: l4 :: some (.int x) :: ls) (st) h Q ↔ Wp 64 97 (l0 :: l1 :: l2 :: l3 :: l4 :: some (.int x) :: ls) (.int x :: st) h Q) ∧
  (∀ (ls : Lo) (st : List Value) (h : Hp) (Q : Option Value → Hp → Prop), Wp 64 97 (ls) (st) h Q ↔ Wp 64 98 (ls) (.int (3) :: st) h Q) ∧
  (∀ (ls : Lo) (st : List Value) (h : Hp) (Q : Option Value → Hp → Prop) (x y : Int32), Wp 64 98 (ls) (.int y :: .int x :: st) h Q ↔ Br 64 115 101 ls st h Q (y ≤ x)) ∧
  (∀ (ls : Lo) (st : List Value) (h : Hp) (Q : Option Value → Hp → Prop) (l0 l1 l2 l3 : Option Value) (i : Nat), Wp 64 101 (l0 :: l1 :: l2 :: l3 :: some (.ref i) :: ls) (st) h Q ↔ Wp 64 103 (l0 :: l1 :: l2 :: l3 :: some (.ref i) :: ls) (.ref i :: st) h Q) ∧
  (∀ (ls : Lo) (st : List Value) (h : Hp) (Q : Option Value → Hp → Prop) (l0 l1 l2 l3 l4 : Option Value) (x : Int32), Wp 64 103 (l0 :: l1 :: l2 :: l3 :: l4 :: some (.int x) :: ls) (st) h Q ↔ Wp 64 105 (l0 :: l1 :: l2 :: l3 :: l4 :: some (.int x) :: ls) (.int x :: st) h Q) ∧
  (∀ (ls : Lo) (st : List Value) (h : Hp) (Q : Option Value → Hp → Prop) (l0 l1 l2 : Option Value) (i : Nat), Wp 64 105 (l0 :: l1 :: l2 :: some (.ref i) :: ls) (st) h Q ↔ Wp 64 106 (l0 :: l1 :: l2 :: some (.ref i) :: ls) (.ref i :: st) h Q) ∧
  (∀ (ls : Lo) (st : List Value) (h : Hp) (Q : Option Value → Hp → Prop) (l0 l1 l2 l3 l4 l5 : Option Value) (x : Int32), Wp 64 106 (l0 :: l1 :: l2 :: l3 :: l4 :: l5 :: some (.int x) :: ls) (st) h Q ↔ Wp 64 108 (l0 :: l1 :: l2 :: l3 :: l4 :: l5 :: some (.int x) :: ls) (.int x :: st) h Q) ∧
  (∀ (ls : Lo) (st : List Value) (h : Hp) (Q : Option Value → Hp → Prop) (l0 l1 : Option Value) (x : Int32), Wp 64 108 (l0 :: l1 :: some (.int x) :: ls) (st) h Q ↔ Wp 64 109 (l0 :: l1 :: some (.int x) :: ls) (.int x :: st) h Q) ∧
  (∀ (ls : Lo) (st : List Value) (h : Hp) (Q : Option Value → Hp → Prop) (x0 : Nat) (x1 : Int32) (x2 : Nat) (x3 : Int32) (x4 : Int32), Wp 64 109 (ls) (.int x4 :: .int x3 :: .ref x2 :: .int x1 :: .ref x0 :: st) h Q ↔ (wsum st ≤ 8 ∧ Call 100 [some (.ref x0), some (.int x1), some (.ref x2), some (.int x3), some (.int x4), none, none] h 64 112 ls st Q)) ∧
  (∀ (ls : Lo) (st : List Value) (h : Hp) (Q : Option Value → Hp → Prop) (l0 l1 l2 l3 l4 : Option Value) (x : Int32), Wp 64 112 (l0 :: l1 :: l2 :: l3 :: l4 :: some (.int x) :: ls) (st) h Q ↔ Wp 64 115 (l0 :: l1 :: l2 :: l3 :: clr l4 :: some (.int (x + (1))) :: ls) (st) h Q) ∧
  (∀ (ls : Lo) (st : List Value) (h : Hp) (Q : Option Value → Hp → Prop) (l0 l1 l2 l3 l4 l5 : Option Value) (x : Int32), Wp 64 115 (l0 :: l1 :: l2 :: l3 :: l4 :: l5 :: some (.int x) :: ls) (st) h Q ↔ Wp 64 118 (l0 :: l1 :: l2 :: l3 :: l4 :: clr l5 :: some (.int (x + (1))) :: ls) (st) h Q) ∧
  (∀ (ls : Lo) (st : List Value) (h : Hp) (Q : Option Value → Hp → Prop), Wp 64 118 (ls) (st) h Q ↔ Wp 64 76 (ls) (st) h Q) ∧
  (∀ (ls : Lo) (st : List Value) (h : Hp) (Q : Option Value → Hp → Prop) (l0 l1 l2 l3 : Option Value) (i : Nat), Wp 64 121 (l0 :: l1 :: l2 :: l3 :: some (.ref i) :: ls) (st) h Q ↔ Wp 64 123 (l0 :: l1 :: l2 :: l3 :: some (.ref i) :: ls) (.ref i :: st) h Q) ∧
  (∀ (ls : Lo) (st : List Value) (n sl : Nat) (C Z : Nat → Nat) (I : Nat → Nat → Int32) (L : Nat → Nat → Int64) (R : Nat → Nat → Nat) (Q : Option Value → Hp → Prop) (i : Nat), Wp 64 123 (ls) (.ref i :: st) (n, sl, C, Z, I, L, R) Q ↔ (inG 7 (C i) = true ∧ Wp 64 126 (ls) (.ref (R i 6) :: st) (n, sl, C, Z, I, L, R) Q)) ∧
  (∀ (ls : Lo) (st : List Value) (h : Hp) (Q : Option Value → Hp → Prop), Wp 64 126 (ls) (st) h Q ↔ Wp 64 127 (ls) (.int (0) :: st) h Q) ∧
  (∀ (ls : Lo) (st : List Value) (h : Hp) (Q : Option Value → Hp → Prop) (l0 l1 l2 : Option Value) (i : Nat), Wp 64 127 (l0 :: l1 :: l2 :: some (.ref i) :: ls) (st) h Q ↔ Wp 64 128 (l0 :: l1 :: l2 :: some (.ref i) :: ls) (.ref i :: st) h Q) ∧
  (∀ (ls : Lo) (st : List Value) (n sl : Nat) (C Z : Nat → Nat) (I : Nat → Nat → Int32) (L : Nat → Nat → Int64) (R : Nat → Nat → Nat) (Q : Option Value → Hp → Prop) (i : Nat), Wp 64 128 (ls) (.ref i :: st) (n, sl, C, Z, I, L, R) Q ↔ (inG 7 (C i) = true ∧ Wp 64 131 (ls) (.ref (R i 6) :: st) (n, sl, C, Z, I, L, R) Q)) ∧
  (∀ (ls : Lo) (st : List Value) (h : Hp) (Q : Option Value → Hp → Prop), Wp 64 131 (ls) (st) h Q ↔ Wp 64 132 (ls) (.int (0) :: st) h Q) ∧
  (∀ (ls : Lo) (st : List Value) (n sl : Nat) (C Z : Nat → Nat) (I : Nat → Nat → Int32) (L : Nat → Nat → Int64) (R : Nat → Nat → Nat) (Q : Option Value → Hp → Prop) (i : Nat) (y : Int32), Wp 64 132 (ls) (.int y :: .ref i :: st) (n, sl, C, Z, I, L, R) Q ↔ ((inb y (Z i) = true ∧ C i = 21) ∧ Wp 64 133 (ls) (.int (I i (ix y)) :: st) (n, sl, C, Z, I, L, R) Q)) ∧
  (∀ (ls : Lo) (st : List Value) (n sl : Nat) (C Z : Nat → Nat) (I : Nat → Nat → Int32) (L : Nat → Nat → Int64) (R : Nat → Nat → Nat) (Q : Option Value → Hp → Prop) (i : Nat) (x y : Int32), Wp 64 133 (ls) (.int x :: .int y :: .ref i :: st) (n, sl, C, Z, I, L, R) Q ↔ ((inb y (Z i) = true ∧ C i = 21) ∧ Wp 64 134 (ls) (st) (n, sl, C, Z, u2 I i (ix y) x, L, R) Q)) ∧
  (∀ (ls : Lo) (st : List Value) (h : Hp) (Q : Option Value → Hp → Prop)  (i : Nat), Wp 64 134 (some (.ref i) :: ls) (st) h Q ↔ Wp 64 135 (some (.ref i) :: ls) (.ref i :: st) h Q) := ⟨by intro ls st h Q; exact e_iconst d64_89 rfl,
  by intro ls st h Q x y; exact e_iand d64_90,
  by intro ls st h Q; exact e_iconst d64_91 rfl,
  by intro ls st h Q x y; exact e_ic d64_92 (by decide) c_ne,
  by intro ls st h Q l0 l1 l2 l3 l4 x; exact e_iload d64_95 rfl,
  by intro ls st h Q; exact e_iconst d64_97 rfl,
  by intro ls st h Q x y; exact e_ic d64_98 (by decide) c_ge,
  by intro ls st h Q l0 l1 l2 l3 i; exact e_aload d64_101 rfl,
  by intro ls st h Q l0 l1 l2 l3 l4 x; exact e_iload d64_103 rfl,
  by intro ls st h Q l0 l1 l2 i; exact e_aload_n d64_105 rfl,
  by intro ls st h Q l0 l1 l2 l3 l4 l5 x; exact e_iload d64_106 rfl,
  by intro ls st h Q l0 l1 x; exact e_iload_n d64_108 rfl,
  by intro ls st h Q x0 x1 x2 x3 x4; exact e_is (k2 := 100) (as := [.ref x0, .int x1, .ref x2, .int x3, .int x4]) d64_109 rfl (by decide) rfl rfl (by decide +kernel) (Nat.le_of_ble_eq_true rfl) rfl,
  by intro ls st h Q l0 l1 l2 l3 l4 x; exact e_iinc d64_112 rfl rfl rfl,
  by intro ls st h Q l0 l1 l2 l3 l4 l5 x; exact e_iinc d64_115 rfl rfl rfl,
  by intro ls st h Q; exact e_goto d64_118 (by decide),
  by intro ls st h Q l0 l1 l2 l3 i; exact e_aload d64_121 rfl,
  by intro ls st n sl C Z I L R Q i; exact e_get (g := 7) (s := 6) (ty := 2) d64_123 rfl rfl rfl,
  by intro ls st h Q; exact e_iconst d64_126 rfl,
  by intro ls st h Q l0 l1 l2 i; exact e_aload_n d64_127 rfl,
  by intro ls st n sl C Z I L R Q i; exact e_get (g := 7) (s := 6) (ty := 2) d64_128 rfl rfl rfl,
  by intro ls st h Q; exact e_iconst d64_131 rfl,
  by intro ls st n sl C Z I L R Q i y; exact e_iald d64_132,
  by intro ls st n sl C Z I L R Q i x y; exact e_iast d64_133,
  by intro ls st h Q i; exact e_aload_n d64_134 rfl⟩
set_option maxRecDepth 20000 in
theorem S64_3 : (∀ (ls : Lo) (st : List Value) (h : Hp) (Q : Option Value → Hp → Prop) (l0 l1 l2 l3 : Option Value) (i : Nat), Wp 64 135 (l0 :: l1 :: l2 :: l3 :: some (.ref i) :: ls) (st) h Q ↔ Wp 64 137 (l0 :: l1 :: l2 :: l3 :: some (.ref i) :: ls) (.ref i :: st) h Q) ∧
  (∀ (ls : Lo) (st : List Value) (n sl : Nat) (C Z : Nat → Nat) (I : Nat → Nat → Int32) (L : Nat → Nat → Int64) (R : Nat → Nat → Nat) (Q : Option Value → Hp → Prop) (x0 : Nat) (i : Nat), C i = 10 → (Wp 64 137 (ls) (.ref x0 :: .ref i :: st) (n, sl, C, Z, I, L, R) Q ↔ (wsum st ≤ 8 ∧ Call 95 [some (.ref i), some (.ref x0)] (n, sl, C, Z, I, L, R) 64 140 ls st Q))) ∧
  (∀ (ls : Lo) (h : Hp) (Q : Option Value → Hp → Prop) (x : Int32), Wp 64 140 (ls) ([.int x]) h Q ↔ Q (some (.int x)) h) := ⟨by intro ls st h Q l0 l1 l2 l3 i; exact e_aload d64_135 rfl,
  by intro ls st n sl C Z I L R Q x0 i hh; exact e_iv (k2 := 95) (c := 10) (as := [.ref x0]) d64_137 rfl (by decide) rfl rfl (by decide +kernel) (Nat.le_of_ble_eq_true rfl) rfl hh,
  by intros; exact e_rI (p := True) d64_140 rfl⟩
theorem d65_0 : decode (byt 65) 0 = .ok (.aload_n 0, 1) := by decide +kernel
theorem d65_1 : decode (byt 65) 1 = .ok (.getfield 15, 3) := by decide +kernel
theorem d65_4 : decode (byt 65) 4 = .ok (.ifCond .gt 6, 3) := by decide +kernel
theorem d65_7 : decode (byt 65) 7 = .ok (.bipush (-3), 2) := by decide +kernel
theorem d65_9 : decode (byt 65) 9 = .ok (.ireturn, 1) := by decide +kernel
theorem d65_10 : decode (byt 65) 10 = .ok (.aload_n 0, 1) := by decide +kernel
theorem d65_11 : decode (byt 65) 11 = .ok (.dup, 1) := by decide +kernel
theorem d65_12 : decode (byt 65) 12 = .ok (.getfield 15, 3) := by decide +kernel
theorem d65_15 : decode (byt 65) 15 = .ok (.iconst 1, 1) := by decide +kernel
theorem d65_16 : decode (byt 65) 16 = .ok (.isub, 1) := by decide +kernel
theorem d65_17 : decode (byt 65) 17 = .ok (.putfield 15, 3) := by decide +kernel
theorem d65_20 : decode (byt 65) 20 = .ok (.aload_n 0, 1) := by decide +kernel
theorem d65_21 : decode (byt 65) 21 = .ok (.getfield 11, 3) := by decide +kernel
theorem d65_24 : decode (byt 65) 24 = .ok (.aload_n 0, 1) := by decide +kernel
theorem d65_25 : decode (byt 65) 25 = .ok (.getfield 15, 3) := by decide +kernel
theorem d65_28 : decode (byt 65) 28 = .ok (.aconst_null, 1) := by decide +kernel
theorem d65_29 : decode (byt 65) 29 = .ok (.aastore, 1) := by decide +kernel
theorem d65_30 : decode (byt 65) 30 = .ok (.aload_n 0, 1) := by decide +kernel
theorem d65_31 : decode (byt 65) 31 = .ok (.getfield 15, 3) := by decide +kernel
theorem d65_34 : decode (byt 65) 34 = .ok (.ireturn, 1) := by decide +kernel
set_option maxRecDepth 20000 in
theorem S65_0 : (∀ (ls : Lo) (st : List Value) (h : Hp) (Q : Option Value → Hp → Prop)  (i : Nat), Wp 65 0 (some (.ref i) :: ls) (st) h Q ↔ Wp 65 1 (some (.ref i) :: ls) (.ref i :: st) h Q) ∧
  (∀ (ls : Lo) (st : List Value) (n sl : Nat) (C Z : Nat → Nat) (I : Nat → Nat → Int32) (L : Nat → Nat → Int64) (R : Nat → Nat → Nat) (Q : Option Value → Hp → Prop) (i : Nat), Wp 65 1 (ls) (.ref i :: st) (n, sl, C, Z, I, L, R) Q ↔ (C i = 10 ∧ Wp 65 4 (ls) (.int (I i 1) :: st) (n, sl, C, Z, I, L, R) Q)) ∧
  (∀ (ls : Lo) (st : List Value) (h : Hp) (Q : Option Value → Hp → Prop) (x : Int32), Wp 65 4 (ls) (.int x :: st) h Q ↔ Br 65 10 7 ls st h Q (0 < x)) ∧
  (∀ (ls : Lo) (st : List Value) (h : Hp) (Q : Option Value → Hp → Prop), Wp 65 7 (ls) (st) h Q ↔ Wp 65 9 (ls) (.int (-3) :: st) h Q) ∧
  (∀ (ls : Lo) (h : Hp) (Q : Option Value → Hp → Prop) (x : Int32), Wp 65 9 (ls) ([.int x]) h Q ↔ Q (some (.int x)) h) ∧
  (∀ (ls : Lo) (st : List Value) (h : Hp) (Q : Option Value → Hp → Prop)  (i : Nat), Wp 65 10 (some (.ref i) :: ls) (st) h Q ↔ Wp 65 11 (some (.ref i) :: ls) (.ref i :: st) h Q) ∧
  (∀ (ls : Lo) (st : List Value) (h : Hp) (Q : Option Value → Hp → Prop) (x : Int32), Wp 65 11 (ls) (.int x :: st) h Q ↔ Wp 65 12 (ls) (.int x :: .int x :: st) h Q) ∧
  (∀ (ls : Lo) (st : List Value) (h : Hp) (Q : Option Value → Hp → Prop) (i : Nat), Wp 65 11 (ls) (.ref i :: st) h Q ↔ Wp 65 12 (ls) (.ref i :: .ref i :: st) h Q) ∧
  (∀ (ls : Lo) (st : List Value) (n sl : Nat) (C Z : Nat → Nat) (I : Nat → Nat → Int32) (L : Nat → Nat → Int64) (R : Nat → Nat → Nat) (Q : Option Value → Hp → Prop) (i : Nat), Wp 65 12 (ls) (.ref i :: st) (n, sl, C, Z, I, L, R) Q ↔ (C i = 10 ∧ Wp 65 15 (ls) (.int (I i 1) :: st) (n, sl, C, Z, I, L, R) Q)) ∧
  (∀ (ls : Lo) (st : List Value) (h : Hp) (Q : Option Value → Hp → Prop), Wp 65 15 (ls) (st) h Q ↔ Wp 65 16 (ls) (.int (1) :: st) h Q) ∧
  (∀ (ls : Lo) (st : List Value) (h : Hp) (Q : Option Value → Hp → Prop) (x y : Int32), Wp 65 16 (ls) (.int y :: .int x :: st) h Q ↔ Wp 65 17 (ls) (.int (x - y) :: st) h Q) ∧
  (∀ (ls : Lo) (st : List Value) (n sl : Nat) (C Z : Nat → Nat) (I : Nat → Nat → Int32) (L : Nat → Nat → Int64) (R : Nat → Nat → Nat) (Q : Option Value → Hp → Prop) (i : Nat) (x : Int32), Wp 65 17 (ls) (.int x :: .ref i :: st) (n, sl, C, Z, I, L, R) Q ↔ (C i = 10 ∧ Wp 65 20 (ls) (st) (n, sl, C, Z, u2 I i 1 x, L, R) Q)) ∧
  (∀ (ls : Lo) (st : List Value) (h : Hp) (Q : Option Value → Hp → Prop)  (i : Nat), Wp 65 20 (some (.ref i) :: ls) (st) h Q ↔ Wp 65 21 (some (.ref i) :: ls) (.ref i :: st) h Q) ∧
  (∀ (ls : Lo) (st : List Value) (n sl : Nat) (C Z : Nat → Nat) (I : Nat → Nat → Int32) (L : Nat → Nat → Int64) (R : Nat → Nat → Nat) (Q : Option Value → Hp → Prop) (i : Nat), Wp 65 21 (ls) (.ref i :: st) (n, sl, C, Z, I, L, R) Q ↔ (C i = 10 ∧ Wp 65 24 (ls) (.ref (R i 0) :: st) (n, sl, C, Z, I, L, R) Q)) ∧
  (∀ (ls : Lo) (st : List Value) (h : Hp) (Q : Option Value → Hp → Prop)  (i : Nat), Wp 65 24 (some (.ref i) :: ls) (st) h Q ↔ Wp 65 25 (some (.ref i) :: ls) (.ref i :: st) h Q) ∧
  (∀ (ls : Lo) (st : List Value) (n sl : Nat) (C Z : Nat → Nat) (I : Nat → Nat → Int32) (L : Nat → Nat → Int64) (R : Nat → Nat → Nat) (Q : Option Value → Hp → Prop) (i : Nat), Wp 65 25 (ls) (.ref i :: st) (n, sl, C, Z, I, L, R) Q ↔ (C i = 10 ∧ Wp 65 28 (ls) (.int (I i 1) :: st) (n, sl, C, Z, I, L, R) Q)) ∧
  (∀ (ls : Lo) (st : List Value) (h : Hp) (Q : Option Value → Hp → Prop), Wp 65 28 (ls) (st) h Q ↔ Wp 65 29 (ls) (.ref 0 :: st) h Q) ∧
  (∀ (ls : Lo) (st : List Value) (n sl : Nat) (C Z : Nat → Nat) (I : Nat → Nat → Int32) (L : Nat → Nat → Int64) (R : Nat → Nat → Nat) (Q : Option Value → Hp → Prop) (i j : Nat) (y : Int32), Wp 65 29 (ls) (.ref j :: .int y :: .ref i :: st) (n, sl, C, Z, I, L, R) Q ↔ ((inb y (Z i) = true ∧ ((j = 0 ∧ (C i = 24 ∨ C i = 25)) ∨ okS (C i) (C j) = true)) ∧ Wp 65 30 (ls) (st) (n, sl, C, Z, I, L, u2 R i (ix y) j) Q)) ∧
  (∀ (ls : Lo) (st : List Value) (h : Hp) (Q : Option Value → Hp → Prop)  (i : Nat), Wp 65 30 (some (.ref i) :: ls) (st) h Q ↔ Wp 65 31 (some (.ref i) :: ls) (.ref i :: st) h Q) ∧
  (∀ (ls : Lo) (st : List Value) (n sl : Nat) (C Z : Nat → Nat) (I : Nat → Nat → Int32) (L : Nat → Nat → Int64) (R : Nat → Nat → Nat) (Q : Option Value → Hp → Prop) (i : Nat), Wp 65 31 (ls) (.ref i :: st) (n, sl, C, Z, I, L, R) Q ↔ (C i = 10 ∧ Wp 65 34 (ls) (.int (I i 1) :: st) (n, sl, C, Z, I, L, R) Q)) ∧
  (∀ (ls : Lo) (h : Hp) (Q : Option Value → Hp → Prop) (x : Int32), Wp 65 34 (ls) ([.int x]) h Q ↔ Q (some (.int x)) h) := ⟨by intro ls st h Q i; exact e_aload_n d65_0 rfl,
  by intro ls st n sl C Z I L R Q i; exact e_get (g := 9) (s := 1) (ty := 0) d65_1 rfl rfl (inG_ne (by decide)),
  by intro ls st h Q x; exact e_if d65_4 (by decide) c_gt,
  by intro ls st h Q; exact e_bipush d65_7 rfl,
  by intros; exact e_rI (p := True) d65_9 rfl,
  by intro ls st h Q i; exact e_aload_n d65_10 rfl,
  by intro ls st h Q x; exact e_dupI d65_11,
  by intro ls st h Q i; exact e_dupR d65_11,
  by intro ls st n sl C Z I L R Q i; exact e_get (g := 9) (s := 1) (ty := 0) d65_12 rfl rfl (inG_ne (by decide)),
  by intro ls st h Q; exact e_iconst d65_15 rfl,
  by intro ls st h Q x y; exact e_isub d65_16,
  by intro ls st n sl C Z I L R Q i x; exact e_putI (g := 9) (s := 1) d65_17 rfl (Or.inl rfl) (inG_ne (by decide)),
  by intro ls st h Q i; exact e_aload_n d65_20 rfl,
  by intro ls st n sl C Z I L R Q i; exact e_get (g := 9) (s := 0) (ty := 2) d65_21 rfl rfl (inG_ne (by decide)),
  by intro ls st h Q i; exact e_aload_n d65_24 rfl,
  by intro ls st n sl C Z I L R Q i; exact e_get (g := 9) (s := 1) (ty := 0) d65_25 rfl rfl (inG_ne (by decide)),
  by intro ls st h Q; exact e_null d65_28,
  by intro ls st n sl C Z I L R Q i j y; exact e_aast d65_29,
  by intro ls st h Q i; exact e_aload_n d65_30 rfl,
  by intro ls st n sl C Z I L R Q i; exact e_get (g := 9) (s := 1) (ty := 0) d65_31 rfl rfl (inG_ne (by decide)),
  by intros; exact e_rI (p := True) d65_34 rfl⟩
theorem d66_0 : decode (byt 66) 0 = .ok (.aload_n 0, 1) := by decide +kernel
theorem d66_1 : decode (byt 66) 1 = .ok (.iload_n 1, 1) := by decide +kernel
theorem d66_2 : decode (byt 66) 2 = .ok (.invokevirtual 84, 3) := by decide +kernel
theorem d66_5 : decode (byt 66) 5 = .ok (.astore_n 3, 1) := by decide +kernel
theorem d66_6 : decode (byt 66) 6 = .ok (.aload_n 3, 1) := by decide +kernel
theorem d66_7 : decode (byt 66) 7 = .ok (.ifnonnull 6, 3) := by decide +kernel
theorem d66_10 : decode (byt 66) 10 = .ok (.bipush (-2), 2) := by decide +kernel
theorem d66_12 : decode (byt 66) 12 = .ok (.ireturn, 1) := by decide +kernel
theorem d66_13 : decode (byt 66) 13 = .ok (.aload_n 0, 1) := by decide +kernel
theorem d66_14 : decode (byt 66) 14 = .ok (.getfield 45, 3) := by decide +kernel
theorem d66_17 : decode (byt 66) 17 = .ok (.aload_n 3, 1) := by decide +kernel
theorem d66_18 : decode (byt 66) 18 = .ok (.invokevirtual 143, 3) := by decide +kernel
theorem d66_21 : decode (byt 66) 21 = .ok (.aload_n 0, 1) := by decide +kernel
theorem d66_22 : decode (byt 66) 22 = .ok (.getfield 55, 3) := by decide +kernel
theorem d66_25 : decode (byt 66) 25 = .ok (.aload_n 3, 1) := by decide +kernel
theorem d66_26 : decode (byt 66) 26 = .ok (.invokevirtual 147, 3) := by decide +kernel
theorem d66_29 : decode (byt 66) 29 = .ok (.iload_n 2, 1) := by decide +kernel
theorem d66_30 : decode (byt 66) 30 = .ok (.tableswitch 117 0 7 #[46, 51, 56, 61, 77, 85, 93, 101], 46) := by decide +kernel
theorem d66_76 : decode (byt 66) 76 = .ok (.aload_n 3, 1) := by decide +kernel
theorem d66_77 : decode (byt 66) 77 = .ok (.invokevirtual 148, 3) := by decide +kernel
theorem d66_80 : decode (byt 66) 80 = .ok (.ireturn, 1) := by decide +kernel
theorem d66_81 : decode (byt 66) 81 = .ok (.aload_n 3, 1) := by decide +kernel
theorem d66_82 : decode (byt 66) 82 = .ok (.getfield 106, 3) := by decide +kernel
theorem d66_85 : decode (byt 66) 85 = .ok (.ireturn, 1) := by decide +kernel
theorem d66_86 : decode (byt 66) 86 = .ok (.aload_n 3, 1) := by decide +kernel
theorem d66_87 : decode (byt 66) 87 = .ok (.getfield 109, 3) := by decide +kernel
theorem d66_90 : decode (byt 66) 90 = .ok (.ireturn, 1) := by decide +kernel
theorem d66_91 : decode (byt 66) 91 = .ok (.aload_n 0, 1) := by decide +kernel
theorem d66_92 : decode (byt 66) 92 = .ok (.getfield 45, 3) := by decide +kernel
theorem d66_95 : decode (byt 66) 95 = .ok (.invokevirtual 152, 3) := by decide +kernel
theorem d66_98 : decode (byt 66) 98 = .ok (.ifCond .eq 7, 3) := by decide +kernel
theorem d66_101 : decode (byt 66) 101 = .ok (.iconst 1, 1) := by decide +kernel
theorem d66_102 : decode (byt 66) 102 = .ok (.goto 4, 3) := by decide +kernel
theorem d66_105 : decode (byt 66) 105 = .ok (.iconst 0, 1) := by decide +kernel
theorem d66_106 : decode (byt 66) 106 = .ok (.ireturn, 1) := by decide +kernel
theorem d66_107 : decode (byt 66) 107 = .ok (.aload_n 0, 1) := by decide +kernel
theorem d66_108 : decode (byt 66) 108 = .ok (.getfield 45, 3) := by decide +kernel
theorem d66_111 : decode (byt 66) 111 = .ok (.invokevirtual 155, 3) := by decide +kernel
theorem d66_114 : decode (byt 66) 114 = .ok (.ireturn, 1) := by decide +kernel
theorem d66_115 : decode (byt 66) 115 = .ok (.aload_n 0, 1) := by decide +kernel
theorem d66_116 : decode (byt 66) 116 = .ok (.getfield 45, 3) := by decide +kernel
theorem d66_119 : decode (byt 66) 119 = .ok (.invokevirtual 158, 3) := by decide +kernel
theorem d66_122 : decode (byt 66) 122 = .ok (.ireturn, 1) := by decide +kernel
theorem d66_123 : decode (byt 66) 123 = .ok (.aload_n 0, 1) := by decide +kernel
theorem d66_124 : decode (byt 66) 124 = .ok (.getfield 45, 3) := by decide +kernel
theorem d66_127 : decode (byt 66) 127 = .ok (.invokevirtual 161, 3) := by decide +kernel
theorem d66_130 : decode (byt 66) 130 = .ok (.ireturn, 1) := by decide +kernel
theorem d66_131 : decode (byt 66) 131 = .ok (.aload_n 0, 1) := by decide +kernel
theorem d66_132 : decode (byt 66) 132 = .ok (.getfield 55, 3) := by decide +kernel
theorem d66_135 : decode (byt 66) 135 = .ok (.getfield 164, 3) := by decide +kernel
theorem d66_138 : decode (byt 66) 138 = .ok (.ifCond .eq 7, 3) := by decide +kernel
theorem d66_141 : decode (byt 66) 141 = .ok (.iconst 1, 1) := by decide +kernel
theorem d66_142 : decode (byt 66) 142 = .ok (.goto 4, 3) := by decide +kernel
theorem d66_145 : decode (byt 66) 145 = .ok (.iconst 0, 1) := by decide +kernel
theorem d66_146 : decode (byt 66) 146 = .ok (.ireturn, 1) := by decide +kernel
theorem d66_147 : decode (byt 66) 147 = .ok (.bipush (-2), 2) := by decide +kernel
theorem d66_149 : decode (byt 66) 149 = .ok (.ireturn, 1) := by decide +kernel
set_option maxRecDepth 20000 in
theorem S66_0 : (∀ (ls : Lo) (st : List Value) (h : Hp) (Q : Option Value → Hp → Prop)  (i : Nat), Wp 66 0 (some (.ref i) :: ls) (st) h Q ↔ Wp 66 1 (some (.ref i) :: ls) (.ref i :: st) h Q) ∧
  (∀ (ls : Lo) (st : List Value) (h : Hp) (Q : Option Value → Hp → Prop) (l0 : Option Value) (x : Int32), Wp 66 1 (l0 :: some (.int x) :: ls) (st) h Q ↔ Wp 66 2 (l0 :: some (.int x) :: ls) (.int x :: st) h Q) ∧
  (∀ (ls : Lo) (st : List Value) (n sl : Nat) (C Z : Nat → Nat) (I : Nat → Nat → Int32) (L : Nat → Nat → Int64) (R : Nat → Nat → Nat) (Q : Option Value → Hp → Prop) (x0 : Int32) (i : Nat), C i = 10 → (Wp 66 2 (ls) (.int x0 :: .ref i :: st) (n, sl, C, Z, I, L, R) Q ↔ (wsum st ≤ 8 ∧ Call 92 [some (.ref i), some (.int x0)] (n, sl, C, Z, I, L, R) 66 5 ls st Q))) ∧
  (∀ (ls : Lo) (st : List Value) (h : Hp) (Q : Option Value → Hp → Prop) (l0 l1 l2 l3 : Option Value) (i : Nat), Wp 66 5 (l0 :: l1 :: l2 :: l3 :: ls) (.ref i :: st) h Q ↔ Wp 66 6 (l0 :: l1 :: clr l2 :: some (.ref i) :: ls) (st) h Q) ∧
  (∀ (ls : Lo) (st : List Value) (h : Hp) (Q : Option Value → Hp → Prop) (l0 l1 l2 : Option Value) (i : Nat), Wp 66 6 (l0 :: l1 :: l2 :: some (.ref i) :: ls) (st) h Q ↔ Wp 66 7 (l0 :: l1 :: l2 :: some (.ref i) :: ls) (.ref i :: st) h Q) ∧
  (∀ (ls : Lo) (st : List Value) (h : Hp) (Q : Option Value → Hp → Prop) (i : Nat), Wp 66 7 (ls) (.ref i :: st) h Q ↔ Br 66 13 10 ls st h Q (¬ i = 0)) ∧
  (∀ (ls : Lo) (st : List Value) (h : Hp) (Q : Option Value → Hp → Prop), Wp 66 10 (ls) (st) h Q ↔ Wp 66 12 (ls) (.int (-2) :: st) h Q) ∧
  (∀ (ls : Lo) (h : Hp) (Q : Option Value → Hp → Prop) (x : Int32), Wp 66 12 (ls) ([.int x]) h Q ↔ Q (some (.int x)) h) ∧
  (∀ (ls : Lo) (st : List Value) (h : Hp) (Q : Option Value → Hp → Prop)  (i : Nat), Wp 66 13 (some (.ref i) :: ls) (st) h Q ↔ Wp 66 14 (some (.ref i) :: ls) (.ref i :: st) h Q) ∧
  (∀ (ls : Lo) (st : List Value) (n sl : Nat) (C Z : Nat → Nat) (I : Nat → Nat → Int32) (L : Nat → Nat → Int64) (R : Nat → Nat → Nat) (Q : Option Value → Hp → Prop) (i : Nat), Wp 66 14 (ls) (.ref i :: st) (n, sl, C, Z, I, L, R) Q ↔ (C i = 10 ∧ Wp 66 17 (ls) (.ref (R i 7) :: st) (n, sl, C, Z, I, L, R) Q)) ∧
  (∀ (ls : Lo) (st : List Value) (h : Hp) (Q : Option Value → Hp → Prop) (l0 l1 l2 : Option Value) (i : Nat), Wp 66 17 (l0 :: l1 :: l2 :: some (.ref i) :: ls) (st) h Q ↔ Wp 66 18 (l0 :: l1 :: l2 :: some (.ref i) :: ls) (.ref i :: st) h Q) ∧
  (∀ (ls : Lo) (st : List Value) (n sl : Nat) (C Z : Nat → Nat) (I : Nat → Nat → Int32) (L : Nat → Nat → Int64) (R : Nat → Nat → Nat) (Q : Option Value → Hp → Prop) (x0 : Nat) (i : Nat), C i = 4 → (Wp 66 18 (ls) (.ref x0 :: .ref i :: st) (n, sl, C, Z, I, L, R) Q ↔ (wsum st ≤ 8 ∧ Call 17 [some (.ref i), some (.ref x0), none] (n, sl, C, Z, I, L, R) 66 21 ls st Q))) ∧
  (∀ (ls : Lo) (st : List Value) (h : Hp) (Q : Option Value → Hp → Prop)  (i : Nat), Wp 66 21 (some (.ref i) :: ls) (st) h Q ↔ Wp 66 22 (some (.ref i) :: ls) (.ref i :: st) h Q) ∧
  (∀ (ls : Lo) (st : List Value) (n sl : Nat) (C Z : Nat → Nat) (I : Nat → Nat → Int32) (L : Nat → Nat → Int64) (R : Nat → Nat → Nat) (Q : Option Value → Hp → Prop) (i : Nat), Wp 66 22 (ls) (.ref i :: st) (n, sl, C, Z, I, L, R) Q ↔ (C i = 10 ∧ Wp 66 25 (ls) (.ref (R i 9) :: st) (n, sl, C, Z, I, L, R) Q)) ∧
  (∀ (ls : Lo) (st : List Value) (h : Hp) (Q : Option Value → Hp → Prop) (l0 l1 l2 : Option Value) (i : Nat), Wp 66 25 (l0 :: l1 :: l2 :: some (.ref i) :: ls) (st) h Q ↔ Wp 66 26 (l0 :: l1 :: l2 :: some (.ref i) :: ls) (.ref i :: st) h Q) ∧
  (∀ (ls : Lo) (st : List Value) (n sl : Nat) (C Z : Nat → Nat) (I : Nat → Nat → Int32) (L : Nat → Nat → Int64) (R : Nat → Nat → Nat) (Q : Option Value → Hp → Prop) (x0 : Nat) (i : Nat), C i = 1 → (Wp 66 26 (ls) (.ref x0 :: .ref i :: st) (n, sl, C, Z, I, L, R) Q ↔ (wsum st ≤ 8 ∧ Call 1 [some (.ref i), some (.ref x0), none] (n, sl, C, Z, I, L, R) 66 29 ls st Q))) ∧
  (∀ (ls : Lo) (st : List Value) (h : Hp) (Q : Option Value → Hp → Prop) (l0 l1 : Option Value) (x : Int32), Wp 66 29 (l0 :: l1 :: some (.int x) :: ls) (st) h Q ↔ Wp 66 30 (l0 :: l1 :: some (.int x) :: ls) (.int x :: st) h Q) ∧
  (∀ (ls : Lo) (st : List Value) (h : Hp) (Q : Option Value → Hp → Prop) (x : Int32), Wp 66 30 ls (.int x :: st) h Q ↔ Wp 66 (if x = 0 then 76 else if x = 1 then 81 else if x = 2 then 86 else if x = 3 then 91 else if x = 4 then 107 else if x = 5 then 115 else if x = 6 then 123 else if x = 7 then 131 else 147) ls st h Q) ∧
  (∀ (ls : Lo) (st : List Value) (h : Hp) (Q : Option Value → Hp → Prop) (l0 l1 l2 : Option Value) (i : Nat), Wp 66 76 (l0 :: l1 :: l2 :: some (.ref i) :: ls) (st) h Q ↔ Wp 66 77 (l0 :: l1 :: l2 :: some (.ref i) :: ls) (.ref i :: st) h Q) ∧
  (∀ (ls : Lo) (st : List Value) (n sl : Nat) (C Z : Nat → Nat) (I : Nat → Nat → Int32) (L : Nat → Nat → Int64) (R : Nat → Nat → Nat) (Q : Option Value → Hp → Prop)  (i : Nat), C i = 2 → (Wp 66 77 (ls) (.ref i :: st) (n, sl, C, Z, I, L, R) Q ↔ (wsum st ≤ 8 ∧ Call 10 [some (.ref i)] (n, sl, C, Z, I, L, R) 66 80 ls st Q))) ∧
  (∀ (ls : Lo) (st : List Value) (n sl : Nat) (C Z : Nat → Nat) (I : Nat → Nat → Int32) (L : Nat → Nat → Int64) (R : Nat → Nat → Nat) (Q : Option Value → Hp → Prop)  (i : Nat), C i = 5 → (Wp 66 77 (ls) (.ref i :: st) (n, sl, C, Z, I, L, R) Q ↔ (wsum st ≤ 8 ∧ Call 38 [some (.ref i)] (n, sl, C, Z, I, L, R) 66 80 ls st Q))) ∧
  (∀ (ls : Lo) (st : List Value) (n sl : Nat) (C Z : Nat → Nat) (I : Nat → Nat → Int32) (L : Nat → Nat → Int64) (R : Nat → Nat → Nat) (Q : Option Value → Hp → Prop)  (i : Nat), C i = 6 → (Wp 66 77 (ls) (.ref i :: st) (n, sl, C, Z, I, L, R) Q ↔ (wsum st ≤ 8 ∧ Call 46 [some (.ref i)] (n, sl, C, Z, I, L, R) 66 80 ls st Q))) ∧
  (∀ (ls : Lo) (st : List Value) (n sl : Nat) (C Z : Nat → Nat) (I : Nat → Nat → Int32) (L : Nat → Nat → Int64) (R : Nat → Nat → Nat) (Q : Option Value → Hp → Prop)  (i : Nat), C i = 8 → (Wp 66 77 (ls) (.ref i :: st) (n, sl, C, Z, I, L, R) Q ↔ (wsum st ≤ 8 ∧ Call 52 [some (.ref i)] (n, sl, C, Z, I, L, R) 66 80 ls st Q))) ∧
  (∀ (ls : Lo) (h : Hp) (Q : Option Value → Hp → Prop) (x : Int32), Wp 66 80 (ls) ([.int x]) h Q ↔ Q (some (.int x)) h) ∧
  (∀ (ls : Lo) (st : List Value) (h : Hp) (Q : Option Value → Hp → Prop) (l0 l1 l2 : Option Value) (i : Nat), Wp 66 81 (l0 :: l1 :: l2 :: some (.ref i) :: ls) (st) h Q ↔ Wp 66 82 (l0 :: l1 :: l2 :: some (.ref i) :: ls) (.ref i :: st) h Q) := ⟨by intro ls st h Q i; exact e_aload_n d66_0 rfl,
  by intro ls st h Q l0 x; exact e_iload_n d66_1 rfl,
  by intro ls st n sl C Z I L R Q x0 i hh; exact e_iv (k2 := 92) (c := 10) (as := [.int x0]) d66_2 rfl (by decide) rfl rfl (by decide +kernel) (Nat.le_of_ble_eq_true rfl) rfl hh,
  by intro ls st h Q l0 l1 l2 l3 i; exact e_astore_n d66_5 rfl,
  by intro ls st h Q l0 l1 l2 i; exact e_aload_n d66_6 rfl,
  by intro ls st h Q i; exact e_ifnn d66_7 (by decide),
  by intro ls st h Q; exact e_bipush d66_10 rfl,
  by intros; exact e_rI (p := True) d66_12 rfl,
  by intro ls st h Q i; exact e_aload_n d66_13 rfl,
  by intro ls st n sl C Z I L R Q i; exact e_get (g := 9) (s := 7) (ty := 2) d66_14 rfl rfl (inG_ne (by decide)),
  by intro ls st h Q l0 l1 l2 i; exact e_aload_n d66_17 rfl,
  by intro ls st n sl C Z I L R Q x0 i hh; exact e_iv (k2 := 17) (c := 4) (as := [.ref x0]) d66_18 rfl (by decide) rfl rfl (by decide +kernel) (Nat.le_of_ble_eq_true rfl) rfl hh,
  by intro ls st h Q i; exact e_aload_n d66_21 rfl,
  by intro ls st n sl C Z I L R Q i; exact e_get (g := 9) (s := 9) (ty := 2) d66_22 rfl rfl (inG_ne (by decide)),
  by intro ls st h Q l0 l1 l2 i; exact e_aload_n d66_25 rfl,
  by intro ls st n sl C Z I L R Q x0 i hh; exact e_iv (k2 := 1) (c := 1) (as := [.ref x0]) d66_26 rfl (by decide) rfl rfl (by decide +kernel) (Nat.le_of_ble_eq_true rfl) rfl hh,
  by intro ls st h Q l0 l1 x; exact e_iload_n d66_29 rfl,
  by
    intro ls st h Q x
    refine e_ts d66_30 ?_
    by_cases h0 : x = 0
    · subst h0; rfl
    by_cases h1 : x = 1
    · subst h1; rfl
    by_cases h2 : x = 2
    · subst h2; rfl
    by_cases h3 : x = 3
    · subst h3; rfl
    by_cases h4 : x = 4
    · subst h4; rfl
    by_cases h5 : x = 5
    · subst h5; rfl
    by_cases h6 : x = 6
    · subst h6; rfl
    by_cases h7 : x = 7
    · subst h7; rfl
    rw [if_neg h0, if_neg h1, if_neg h2, if_neg h3, if_neg h4, if_neg h5, if_neg h6, if_neg h7]
    exact ts_out_jmp (n := 7) (t := 147) (fun j hj => by
      match j, hj with
      | 0, _ => exact h0
      | 1, _ => exact h1
      | 2, _ => exact h2
      | 3, _ => exact h3
      | 4, _ => exact h4
      | 5, _ => exact h5
      | 6, _ => exact h6
      | 7, _ => exact h7
      ) (by decide) rfl,
  by intro ls st h Q l0 l1 l2 i; exact e_aload_n d66_76 rfl,
  by intro ls st n sl C Z I L R Q i hh; exact e_iv (k2 := 10) (c := 2) (as := []) d66_77 rfl (by decide) rfl rfl (by decide +kernel) (Nat.le_of_ble_eq_true rfl) rfl hh,
  by intro ls st n sl C Z I L R Q i hh; exact e_iv (k2 := 38) (c := 5) (as := []) d66_77 rfl (by decide) rfl rfl (by decide +kernel) (Nat.le_of_ble_eq_true rfl) rfl hh,
  by intro ls st n sl C Z I L R Q i hh; exact e_iv (k2 := 46) (c := 6) (as := []) d66_77 rfl (by decide) rfl rfl (by decide +kernel) (Nat.le_of_ble_eq_true rfl) rfl hh,
  by intro ls st n sl C Z I L R Q i hh; exact e_iv (k2 := 52) (c := 8) (as := []) d66_77 rfl (by decide) rfl rfl (by decide +kernel) (Nat.le_of_ble_eq_true rfl) rfl hh,
  by intros; exact e_rI (p := True) d66_80 rfl,
  by intro ls st h Q l0 l1 l2 i; exact e_aload_n d66_81 rfl⟩
set_option maxRecDepth 20000 in
theorem S66_1 : (∀ (ls : Lo) (st : List Value) (n sl : Nat) (C Z : Nat → Nat) (I : Nat → Nat → Int32) (L : Nat → Nat → Int64) (R : Nat → Nat → Nat) (Q : Option Value → Hp → Prop) (i : Nat), Wp 66 82 (ls) (.ref i :: st) (n, sl, C, Z, I, L, R) Q ↔ (inG 7 (C i) = true ∧ Wp 66 85 (ls) (.int (I i 1) :: st) (n, sl, C, Z, I, L, R) Q)) ∧
  (∀ (ls : Lo) (h : Hp) (Q : Option Value → Hp → Prop) (x : Int32), Wp 66 85 (ls) ([.int x]) h Q ↔ Q (some (.int x)) h) ∧
  (∀ (ls : Lo) (st : List Value) (h : Hp) (Q : Option Value → Hp → Prop) (l0 l1 l2 : Option Value) (i : Nat), Wp 66 86 (l0 :: l1 :: l2 :: some (.ref i) :: ls) (st) h Q ↔ Wp 66 87 (l0 :: l1 :: l2 :: some (.ref i) :: ls) (.ref i :: st) h Q) ∧
  (∀ (ls : Lo) (st : List Value) (n sl : Nat) (C Z : Nat → Nat) (I : Nat → Nat → Int32) (L : Nat → Nat → Int64) (R : Nat → Nat → Nat) (Q : Option Value → Hp → Prop) (i : Nat), Wp 66 87 (ls) (.ref i :: st) (n, sl, C, Z, I, L, R) Q ↔ (inG 7 (C i) = true ∧ Wp 66 90 (ls) (.int (I i 2) :: st) (n, sl, C, Z, I, L, R) Q)) ∧
  (∀ (ls : Lo) (h : Hp) (Q : Option Value → Hp → Prop) (x : Int32), Wp 66 90 (ls) ([.int x]) h Q ↔ Q (some (.int x)) h) ∧
  (∀ (ls : Lo) (st : List Value) (h : Hp) (Q : Option Value → Hp → Prop)  (i : Nat), Wp 66 91 (some (.ref i) :: ls) (st) h Q ↔ Wp 66 92 (some (.ref i) :: ls) (.ref i :: st) h Q) ∧
  (∀ (ls : Lo) (st : List Value) (n sl : Nat) (C Z : Nat → Nat) (I : Nat → Nat → Int32) (L : Nat → Nat → Int64) (R : Nat → Nat → Nat) (Q : Option Value → Hp → Prop) (i : Nat), Wp 66 92 (ls) (.ref i :: st) (n, sl, C, Z, I, L, R) Q ↔ (C i = 10 ∧ Wp 66 95 (ls) (.ref (R i 7) :: st) (n, sl, C, Z, I, L, R) Q)) ∧
  (∀ (ls : Lo) (st : List Value) (n sl : Nat) (C Z : Nat → Nat) (I : Nat → Nat → Int32) (L : Nat → Nat → Int64) (R : Nat → Nat → Nat) (Q : Option Value → Hp → Prop)  (i : Nat), C i = 4 → (Wp 66 95 (ls) (.ref i :: st) (n, sl, C, Z, I, L, R) Q ↔ (wsum st ≤ 8 ∧ Call 25 [some (.ref i)] (n, sl, C, Z, I, L, R) 66 98 ls st Q))) ∧
  (∀ (ls : Lo) (st : List Value) (h : Hp) (Q : Option Value → Hp → Prop) (x : Int32), Wp 66 98 (ls) (.int x :: st) h Q ↔ Br 66 105 101 ls st h Q (x = 0)) ∧
  (∀ (ls : Lo) (st : List Value) (h : Hp) (Q : Option Value → Hp → Prop), Wp 66 101 (ls) (st) h Q ↔ Wp 66 102 (ls) (.int (1) :: st) h Q) ∧
  (∀ (ls : Lo) (st : List Value) (h : Hp) (Q : Option Value → Hp → Prop), Wp 66 102 (ls) (st) h Q ↔ Wp 66 106 (ls) (st) h Q) ∧
  (∀ (ls : Lo) (st : List Value) (h : Hp) (Q : Option Value → Hp → Prop), Wp 66 105 (ls) (st) h Q ↔ Wp 66 106 (ls) (.int (0) :: st) h Q) ∧
  (∀ (ls : Lo) (h : Hp) (Q : Option Value → Hp → Prop) (x : Int32), Wp 66 106 (ls) ([.int x]) h Q ↔ Q (some (.int x)) h) ∧
  (∀ (ls : Lo) (st : List Value) (h : Hp) (Q : Option Value → Hp → Prop)  (i : Nat), Wp 66 107 (some (.ref i) :: ls) (st) h Q ↔ Wp 66 108 (some (.ref i) :: ls) (.ref i :: st) h Q) ∧
  (∀ (ls : Lo) (st : List Value) (n sl : Nat) (C Z : Nat → Nat) (I : Nat → Nat → Int32) (L : Nat → Nat → Int64) (R : Nat → Nat → Nat) (Q : Option Value → Hp → Prop) (i : Nat), Wp 66 108 (ls) (.ref i :: st) (n, sl, C, Z, I, L, R) Q ↔ (C i = 10 ∧ Wp 66 111 (ls) (.ref (R i 7) :: st) (n, sl, C, Z, I, L, R) Q)) ∧
  (∀ (ls : Lo) (st : List Value) (n sl : Nat) (C Z : Nat → Nat) (I : Nat → Nat → Int32) (L : Nat → Nat → Int64) (R : Nat → Nat → Nat) (Q : Option Value → Hp → Prop)  (i : Nat), C i = 4 → (Wp 66 111 (ls) (.ref i :: st) (n, sl, C, Z, I, L, R) Q ↔ (wsum st ≤ 8 ∧ Call 28 [some (.ref i)] (n, sl, C, Z, I, L, R) 66 114 ls st Q))) ∧
  (∀ (ls : Lo) (h : Hp) (Q : Option Value → Hp → Prop) (x : Int32), Wp 66 114 (ls) ([.int x]) h Q ↔ Q (some (.int x)) h) ∧
  (∀ (ls : Lo) (st : List Value) (h : Hp) (Q : Option Value → Hp → Prop)  (i : Nat), Wp 66 115 (some (.ref i) :: ls) (st) h Q ↔ Wp 66 116 (some (.ref i) :: ls) (.ref i :: st) h Q) ∧
  (∀ (ls : Lo) (st : List Value) (n sl : Nat) (C Z : Nat → Nat) (I : Nat → Nat → Int32) (L : Nat → Nat → Int64) (R : Nat → Nat → Nat) (Q : Option Value → Hp → Prop) (i : Nat), Wp 66 116 (ls) (.ref i :: st) (n, sl, C, Z, I, L, R) Q ↔ (C i = 10 ∧ Wp 66 119 (ls) (.ref (R i 7) :: st) (n, sl, C, Z, I, L, R) Q)) ∧
  (∀ (ls : Lo) (st : List Value) (n sl : Nat) (C Z : Nat → Nat) (I : Nat → Nat → Int32) (L : Nat → Nat → Int64) (R : Nat → Nat → Nat) (Q : Option Value → Hp → Prop)  (i : Nat), C i = 4 → (Wp 66 119 (ls) (.ref i :: st) (n, sl, C, Z, I, L, R) Q ↔ (wsum st ≤ 8 ∧ Call 29 [some (.ref i)] (n, sl, C, Z, I, L, R) 66 122 ls st Q))) ∧
  (∀ (ls : Lo) (h : Hp) (Q : Option Value → Hp → Prop) (x : Int32), Wp 66 122 (ls) ([.int x]) h Q ↔ Q (some (.int x)) h) ∧
  (∀ (ls : Lo) (st : List Value) (h : Hp) (Q : Option Value → Hp → Prop)  (i : Nat), Wp 66 123 (some (.ref i) :: ls) (st) h Q ↔ Wp 66 124 (some (.ref i) :: ls) (.ref i :: st) h Q) ∧
  (∀ (ls : Lo) (st : List Value) (n sl : Nat) (C Z : Nat → Nat) (I : Nat → Nat → Int32) (L : Nat → Nat → Int64) (R : Nat → Nat → Nat) (Q : Option Value → Hp → Prop) (i : Nat), Wp 66 124 (ls) (.ref i :: st) (n, sl, C, Z, I, L, R) Q ↔ (C i = 10 ∧ Wp 66 127 (ls) (.ref (R i 7) :: st) (n, sl, C, Z, I, L, R) Q)) ∧
  (∀ (ls : Lo) (st : List Value) (n sl : Nat) (C Z : Nat → Nat) (I : Nat → Nat → Int32) (L : Nat → Nat → Int64) (R : Nat → Nat → Nat) (Q : Option Value → Hp → Prop)  (i : Nat), C i = 4 → (Wp 66 127 (ls) (.ref i :: st) (n, sl, C, Z, I, L, R) Q ↔ (wsum st ≤ 8 ∧ Call 30 [some (.ref i), none, none] (n, sl, C, Z, I, L, R) 66 130 ls st Q))) ∧
  (∀ (ls : Lo) (h : Hp) (Q : Option Value → Hp → Prop) (x : Int32), Wp 66 130 (ls) ([.int x]) h Q ↔ Q (some (.int x)) h) := ⟨by intro ls st n sl C Z I L R Q i; exact e_get (g := 7) (s := 1) (ty := 0) d66_82 rfl rfl rfl,
  by intros; exact e_rI (p := True) d66_85 rfl,
  by intro ls st h Q l0 l1 l2 i; exact e_aload_n d66_86 rfl,
  by intro ls st n sl C Z I L R Q i; exact e_get (g := 7) (s := 2) (ty := 0) d66_87 rfl rfl rfl,
  by intros; exact e_rI (p := True) d66_90 rfl,
  by intro ls st h Q i; exact e_aload_n d66_91 rfl,
  by intro ls st n sl C Z I L R Q i; exact e_get (g := 9) (s := 7) (ty := 2) d66_92 rfl rfl (inG_ne (by decide)),
  by intro ls st n sl C Z I L R Q i hh; exact e_iv (k2 := 25) (c := 4) (as := []) d66_95 rfl (by decide) rfl rfl (by decide +kernel) (Nat.le_of_ble_eq_true rfl) rfl hh,
  by intro ls st h Q x; exact e_if d66_98 (by decide) c_eq,
  by intro ls st h Q; exact e_iconst d66_101 rfl,
  by intro ls st h Q; exact e_goto d66_102 (by decide),
  by intro ls st h Q; exact e_iconst d66_105 rfl,
  by intros; exact e_rI (p := True) d66_106 rfl,
  by intro ls st h Q i; exact e_aload_n d66_107 rfl,
  by intro ls st n sl C Z I L R Q i; exact e_get (g := 9) (s := 7) (ty := 2) d66_108 rfl rfl (inG_ne (by decide)),
  by intro ls st n sl C Z I L R Q i hh; exact e_iv (k2 := 28) (c := 4) (as := []) d66_111 rfl (by decide) rfl rfl (by decide +kernel) (Nat.le_of_ble_eq_true rfl) rfl hh,
  by intros; exact e_rI (p := True) d66_114 rfl,
  by intro ls st h Q i; exact e_aload_n d66_115 rfl,
  by intro ls st n sl C Z I L R Q i; exact e_get (g := 9) (s := 7) (ty := 2) d66_116 rfl rfl (inG_ne (by decide)),
  by intro ls st n sl C Z I L R Q i hh; exact e_iv (k2 := 29) (c := 4) (as := []) d66_119 rfl (by decide) rfl rfl (by decide +kernel) (Nat.le_of_ble_eq_true rfl) rfl hh,
  by intros; exact e_rI (p := True) d66_122 rfl,
  by intro ls st h Q i; exact e_aload_n d66_123 rfl,
  by intro ls st n sl C Z I L R Q i; exact e_get (g := 9) (s := 7) (ty := 2) d66_124 rfl rfl (inG_ne (by decide)),
  by intro ls st n sl C Z I L R Q i hh; exact e_iv (k2 := 30) (c := 4) (as := []) d66_127 rfl (by decide) rfl rfl (by decide +kernel) (Nat.le_of_ble_eq_true rfl) rfl hh,
  by intros; exact e_rI (p := True) d66_130 rfl⟩
set_option maxRecDepth 20000 in
theorem S66_2 : (∀ (ls : Lo) (st : List Value) (h : Hp) (Q : Option Value → Hp → Prop)  (i : Nat), Wp 66 131 (some (.ref i) :: ls) (st) h Q ↔ Wp 66 132 (some (.ref i) :: ls) (.ref i :: st) h Q) ∧
  (∀ (ls : Lo) (st : List Value) (n sl : Nat) (C Z : Nat → Nat) (I : Nat → Nat → Int32) (L : Nat → Nat → Int64) (R : Nat → Nat → Nat) (Q : Option Value → Hp → Prop) (i : Nat), Wp 66 132 (ls) (.ref i :: st) (n, sl, C, Z, I, L, R) Q ↔ (C i = 10 ∧ Wp 66 135 (ls) (.ref (R i 9) :: st) (n, sl, C, Z, I, L, R) Q)) ∧
  (∀ (ls : Lo) (st : List Value) (n sl : Nat) (C Z : Nat → Nat) (I : Nat → Nat → Int32) (L : Nat → Nat → Int64) (R : Nat → Nat → Nat) (Q : Option Value → Hp → Prop) (i : Nat), Wp 66 135 (ls) (.ref i :: st) (n, sl, C, Z, I, L, R) Q ↔ (C i = 1 ∧ Wp 66 138 (ls) (.int (I i 5) :: st) (n, sl, C, Z, I, L, R) Q)) ∧
  (∀ (ls : Lo) (st : List Value) (h : Hp) (Q : Option Value → Hp → Prop) (x : Int32), Wp 66 138 (ls) (.int x :: st) h Q ↔ Br 66 145 141 ls st h Q (x = 0)) ∧
  (∀ (ls : Lo) (st : List Value) (h : Hp) (Q : Option Value → Hp → Prop), Wp 66 141 (ls) (st) h Q ↔ Wp 66 142 (ls) (.int (1) :: st) h Q) ∧
  (∀ (ls : Lo) (st : List Value) (h : Hp) (Q : Option Value → Hp → Prop), Wp 66 142 (ls) (st) h Q ↔ Wp 66 146 (ls) (st) h Q) ∧
  (∀ (ls : Lo) (st : List Value) (h : Hp) (Q : Option Value → Hp → Prop), Wp 66 145 (ls) (st) h Q ↔ Wp 66 146 (ls) (.int (0) :: st) h Q) ∧
  (∀ (ls : Lo) (h : Hp) (Q : Option Value → Hp → Prop) (x : Int32), Wp 66 146 (ls) ([.int x]) h Q ↔ Q (some (.int x)) h) ∧
  (∀ (ls : Lo) (st : List Value) (h : Hp) (Q : Option Value → Hp → Prop), Wp 66 147 (ls) (st) h Q ↔ Wp 66 149 (ls) (.int (-2) :: st) h Q) ∧
  (∀ (ls : Lo) (h : Hp) (Q : Option Value → Hp → Prop) (x : Int32), Wp 66 149 (ls) ([.int x]) h Q ↔ Q (some (.int x)) h) := ⟨by intro ls st h Q i; exact e_aload_n d66_131 rfl,
  by intro ls st n sl C Z I L R Q i; exact e_get (g := 9) (s := 9) (ty := 2) d66_132 rfl rfl (inG_ne (by decide)),
  by intro ls st n sl C Z I L R Q i; exact e_get (g := 0) (s := 5) (ty := 3) d66_135 rfl rfl (inG_ne (by decide)),
  by intro ls st h Q x; exact e_if d66_138 (by decide) c_eq,
  by intro ls st h Q; exact e_iconst d66_141 rfl,
  by intro ls st h Q; exact e_goto d66_142 (by decide),
  by intro ls st h Q; exact e_iconst d66_145 rfl,
  by intros; exact e_rI (p := True) d66_146 rfl,
  by intro ls st h Q; exact e_bipush d66_147 rfl,
  by intros; exact e_rI (p := True) d66_149 rfl⟩
theorem d67_0 : decode (byt 67) 0 = .ok (.aload_n 0, 1) := by decide +kernel
theorem d67_1 : decode (byt 67) 1 = .ok (.iload_n 1, 1) := by decide +kernel
theorem d67_2 : decode (byt 67) 2 = .ok (.invokevirtual 84, 3) := by decide +kernel
theorem d67_5 : decode (byt 67) 5 = .ok (.astore 5, 2) := by decide +kernel
theorem d67_7 : decode (byt 67) 7 = .ok (.aload 5, 2) := by decide +kernel
theorem d67_9 : decode (byt 67) 9 = .ok (.iload_n 2, 1) := by decide +kernel
theorem d67_10 : decode (byt 67) 10 = .ok (.iload_n 3, 1) := by decide +kernel
theorem d67_11 : decode (byt 67) 11 = .ok (.iload 4, 2) := by decide +kernel
theorem d67_13 : decode (byt 67) 13 = .ok (.invokestatic 88, 3) := by decide +kernel
theorem d67_16 : decode (byt 67) 16 = .ok (.istore 6, 2) := by decide +kernel
theorem d67_18 : decode (byt 67) 18 = .ok (.aload 5, 2) := by decide +kernel
theorem d67_20 : decode (byt 67) 20 = .ok (.ifnull 8, 3) := by decide +kernel
theorem d67_23 : decode (byt 67) 23 = .ok (.iload 6, 2) := by decide +kernel
theorem d67_25 : decode (byt 67) 25 = .ok (.ifCond .ge 6, 3) := by decide +kernel
theorem d67_28 : decode (byt 67) 28 = .ok (.ldc 168, 2) := by decide +kernel
theorem d67_30 : decode (byt 67) 30 = .ok (.ireturn, 1) := by decide +kernel
theorem d67_31 : decode (byt 67) 31 = .ok (.aload 5, 2) := by decide +kernel
theorem d67_33 : decode (byt 67) 33 = .ok (.iload_n 2, 1) := by decide +kernel
theorem d67_34 : decode (byt 67) 34 = .ok (.invokevirtual 94, 3) := by decide +kernel
theorem d67_37 : decode (byt 67) 37 = .ok (.iload 6, 2) := by decide +kernel
theorem d67_39 : decode (byt 67) 39 = .ok (.iaload, 1) := by decide +kernel
theorem d67_40 : decode (byt 67) 40 = .ok (.ireturn, 1) := by decide +kernel
set_option maxRecDepth 20000 in
theorem S67_0 : (∀ (ls : Lo) (st : List Value) (h : Hp) (Q : Option Value → Hp → Prop)  (i : Nat), Wp 67 0 (some (.ref i) :: ls) (st) h Q ↔ Wp 67 1 (some (.ref i) :: ls) (.ref i :: st) h Q) ∧
  (∀ (ls : Lo) (st : List Value) (h : Hp) (Q : Option Value → Hp → Prop) (l0 : Option Value) (x : Int32), Wp 67 1 (l0 :: some (.int x) :: ls) (st) h Q ↔ Wp 67 2 (l0 :: some (.int x) :: ls) (.int x :: st) h Q) ∧
  (∀ (ls : Lo) (st : List Value) (n sl : Nat) (C Z : Nat → Nat) (I : Nat → Nat → Int32) (L : Nat → Nat → Int64) (R : Nat → Nat → Nat) (Q : Option Value → Hp → Prop) (x0 : Int32) (i : Nat), C i = 10 → (Wp 67 2 (ls) (.int x0 :: .ref i :: st) (n, sl, C, Z, I, L, R) Q ↔ (wsum st ≤ 8 ∧ Call 92 [some (.ref i), some (.int x0)] (n, sl, C, Z, I, L, R) 67 5 ls st Q))) ∧
  (∀ (ls : Lo) (st : List Value) (h : Hp) (Q : Option Value → Hp → Prop) (l0 l1 l2 l3 l4 l5 : Option Value) (i : Nat), Wp 67 5 (l0 :: l1 :: l2 :: l3 :: l4 :: l5 :: ls) (.ref i :: st) h Q ↔ Wp 67 7 (l0 :: l1 :: l2 :: l3 :: clr l4 :: some (.ref i) :: ls) (st) h Q) ∧
  (∀ (ls : Lo) (st : List Value) (h : Hp) (Q : Option Value → Hp → Prop) (l0 l1 l2 l3 l4 : Option Value) (i : Nat), Wp 67 7 (l0 :: l1 :: l2 :: l3 :: l4 :: some (.ref i) :: ls) (st) h Q ↔ Wp 67 9 (l0 :: l1 :: l2 :: l3 :: l4 :: some (.ref i) :: ls) (.ref i :: st) h Q) ∧
  (∀ (ls : Lo) (st : List Value) (h : Hp) (Q : Option Value → Hp → Prop) (l0 l1 : Option Value) (x : Int32), Wp 67 9 (l0 :: l1 :: some (.int x) :: ls) (st) h Q ↔ Wp 67 10 (l0 :: l1 :: some (.int x) :: ls) (.int x :: st) h Q) ∧
  (∀ (ls : Lo) (st : List Value) (h : Hp) (Q : Option Value → Hp → Prop) (l0 l1 l2 : Option Value) (x : Int32), Wp 67 10 (l0 :: l1 :: l2 :: some (.int x) :: ls) (st) h Q ↔ Wp 67 11 (l0 :: l1 :: l2 :: some (.int x) :: ls) (.int x :: st) h Q) ∧
  (∀ (ls : Lo) (st : List Value) (h : Hp) (Q : Option Value → Hp → Prop) (l0 l1 l2 l3 : Option Value) (x : Int32), Wp 67 11 (l0 :: l1 :: l2 :: l3 :: some (.int x) :: ls) (st) h Q ↔ Wp 67 13 (l0 :: l1 :: l2 :: l3 :: some (.int x) :: ls) (.int x :: st) h Q) ∧
  (∀ (ls : Lo) (st : List Value) (h : Hp) (Q : Option Value → Hp → Prop) (x0 : Nat) (x1 : Int32) (x2 : Int32) (x3 : Int32), Wp 67 13 (ls) (.int x3 :: .int x2 :: .int x1 :: .ref x0 :: st) h Q ↔ (wsum st ≤ 8 ∧ Call 94 [some (.ref x0), some (.int x1), some (.int x2), some (.int x3)] h 67 16 ls st Q)) ∧
  (∀ (ls : Lo) (st : List Value) (h : Hp) (Q : Option Value → Hp → Prop) (l0 l1 l2 l3 l4 l5 l6 : Option Value) (x : Int32), Wp 67 16 (l0 :: l1 :: l2 :: l3 :: l4 :: l5 :: l6 :: ls) (.int x :: st) h Q ↔ Wp 67 18 (l0 :: l1 :: l2 :: l3 :: l4 :: clr l5 :: some (.int x) :: ls) (st) h Q) ∧
  (∀ (ls : Lo) (st : List Value) (h : Hp) (Q : Option Value → Hp → Prop) (l0 l1 l2 l3 l4 : Option Value) (i : Nat), Wp 67 18 (l0 :: l1 :: l2 :: l3 :: l4 :: some (.ref i) :: ls) (st) h Q ↔ Wp 67 20 (l0 :: l1 :: l2 :: l3 :: l4 :: some (.ref i) :: ls) (.ref i :: st) h Q) ∧
  (∀ (ls : Lo) (st : List Value) (h : Hp) (Q : Option Value → Hp → Prop) (i : Nat), Wp 67 20 (ls) (.ref i :: st) h Q ↔ Br 67 28 23 ls st h Q (i = 0)) ∧
  (∀ (ls : Lo) (st : List Value) (h : Hp) (Q : Option Value → Hp → Prop) (l0 l1 l2 l3 l4 l5 : Option Value) (x : Int32), Wp 67 23 (l0 :: l1 :: l2 :: l3 :: l4 :: l5 :: some (.int x) :: ls) (st) h Q ↔ Wp 67 25 (l0 :: l1 :: l2 :: l3 :: l4 :: l5 :: some (.int x) :: ls) (.int x :: st) h Q) ∧
  (∀ (ls : Lo) (st : List Value) (h : Hp) (Q : Option Value → Hp → Prop) (x : Int32), Wp 67 25 (ls) (.int x :: st) h Q ↔ Br 67 31 28 ls st h Q (0 ≤ x)) ∧
  (∀ (ls : Lo) (st : List Value) (h : Hp) (Q : Option Value → Hp → Prop), Wp 67 28 (ls) (st) h Q ↔ Wp 67 30 (ls) (.int (-100000) :: st) h Q) ∧
  (∀ (ls : Lo) (h : Hp) (Q : Option Value → Hp → Prop) (x : Int32), Wp 67 30 (ls) ([.int x]) h Q ↔ Q (some (.int x)) h) ∧
  (∀ (ls : Lo) (st : List Value) (h : Hp) (Q : Option Value → Hp → Prop) (l0 l1 l2 l3 l4 : Option Value) (i : Nat), Wp 67 31 (l0 :: l1 :: l2 :: l3 :: l4 :: some (.ref i) :: ls) (st) h Q ↔ Wp 67 33 (l0 :: l1 :: l2 :: l3 :: l4 :: some (.ref i) :: ls) (.ref i :: st) h Q) ∧
  (∀ (ls : Lo) (st : List Value) (h : Hp) (Q : Option Value → Hp → Prop) (l0 l1 : Option Value) (x : Int32), Wp 67 33 (l0 :: l1 :: some (.int x) :: ls) (st) h Q ↔ Wp 67 34 (l0 :: l1 :: some (.int x) :: ls) (.int x :: st) h Q) ∧
  (∀ (ls : Lo) (st : List Value) (n sl : Nat) (C Z : Nat → Nat) (I : Nat → Nat → Int32) (L : Nat → Nat → Int64) (R : Nat → Nat → Nat) (Q : Option Value → Hp → Prop) (x0 : Int32) (i : Nat), C i = 2 → (Wp 67 34 (ls) (.int x0 :: .ref i :: st) (n, sl, C, Z, I, L, R) Q ↔ (wsum st ≤ 8 ∧ Call 53 [some (.ref i), some (.int x0)] (n, sl, C, Z, I, L, R) 67 37 ls st Q))) ∧
  (∀ (ls : Lo) (st : List Value) (n sl : Nat) (C Z : Nat → Nat) (I : Nat → Nat → Int32) (L : Nat → Nat → Int64) (R : Nat → Nat → Nat) (Q : Option Value → Hp → Prop) (x0 : Int32) (i : Nat), C i = 5 → (Wp 67 34 (ls) (.int x0 :: .ref i :: st) (n, sl, C, Z, I, L, R) Q ↔ (wsum st ≤ 8 ∧ Call 53 [some (.ref i), some (.int x0)] (n, sl, C, Z, I, L, R) 67 37 ls st Q))) ∧
  (∀ (ls : Lo) (st : List Value) (n sl : Nat) (C Z : Nat → Nat) (I : Nat → Nat → Int32) (L : Nat → Nat → Int64) (R : Nat → Nat → Nat) (Q : Option Value → Hp → Prop) (x0 : Int32) (i : Nat), C i = 6 → (Wp 67 34 (ls) (.int x0 :: .ref i :: st) (n, sl, C, Z, I, L, R) Q ↔ (wsum st ≤ 8 ∧ Call 53 [some (.ref i), some (.int x0)] (n, sl, C, Z, I, L, R) 67 37 ls st Q))) ∧
  (∀ (ls : Lo) (st : List Value) (n sl : Nat) (C Z : Nat → Nat) (I : Nat → Nat → Int32) (L : Nat → Nat → Int64) (R : Nat → Nat → Nat) (Q : Option Value → Hp → Prop) (x0 : Int32) (i : Nat), C i = 8 → (Wp 67 34 (ls) (.int x0 :: .ref i :: st) (n, sl, C, Z, I, L, R) Q ↔ (wsum st ≤ 8 ∧ Call 53 [some (.ref i), some (.int x0)] (n, sl, C, Z, I, L, R) 67 37 ls st Q))) ∧
  (∀ (ls : Lo) (st : List Value) (h : Hp) (Q : Option Value → Hp → Prop) (l0 l1 l2 l3 l4 l5 : Option Value) (x : Int32), Wp 67 37 (l0 :: l1 :: l2 :: l3 :: l4 :: l5 :: some (.int x) :: ls) (st) h Q ↔ Wp 67 39 (l0 :: l1 :: l2 :: l3 :: l4 :: l5 :: some (.int x) :: ls) (.int x :: st) h Q) ∧
  (∀ (ls : Lo) (st : List Value) (n sl : Nat) (C Z : Nat → Nat) (I : Nat → Nat → Int32) (L : Nat → Nat → Int64) (R : Nat → Nat → Nat) (Q : Option Value → Hp → Prop) (i : Nat) (y : Int32), Wp 67 39 (ls) (.int y :: .ref i :: st) (n, sl, C, Z, I, L, R) Q ↔ ((inb y (Z i) = true ∧ C i = 21) ∧ Wp 67 40 (ls) (.int (I i (ix y)) :: st) (n, sl, C, Z, I, L, R) Q)) ∧
  (∀ (ls : Lo) (h : Hp) (Q : Option Value → Hp → Prop) (x : Int32), Wp 67 40 (ls) ([.int x]) h Q ↔ Q (some (.int x)) h) := ⟨by intro ls st h Q i; exact e_aload_n d67_0 rfl,
  by intro ls st h Q l0 x; exact e_iload_n d67_1 rfl,
  by intro ls st n sl C Z I L R Q x0 i hh; exact e_iv (k2 := 92) (c := 10) (as := [.int x0]) d67_2 rfl (by decide) rfl rfl (by decide +kernel) (Nat.le_of_ble_eq_true rfl) rfl hh,
  by intro ls st h Q l0 l1 l2 l3 l4 l5 i; exact e_astore d67_5 rfl,
  by intro ls st h Q l0 l1 l2 l3 l4 i; exact e_aload d67_7 rfl,
  by intro ls st h Q l0 l1 x; exact e_iload_n d67_9 rfl,
  by intro ls st h Q l0 l1 l2 x; exact e_iload_n d67_10 rfl,
  by intro ls st h Q l0 l1 l2 l3 x; exact e_iload d67_11 rfl,
  by intro ls st h Q x0 x1 x2 x3; exact e_is (k2 := 94) (as := [.ref x0, .int x1, .int x2, .int x3]) d67_13 rfl (by decide) rfl rfl (by decide +kernel) (Nat.le_of_ble_eq_true rfl) rfl,
  by intro ls st h Q l0 l1 l2 l3 l4 l5 l6 x; exact e_istore d67_16 rfl,
  by intro ls st h Q l0 l1 l2 l3 l4 i; exact e_aload d67_18 rfl,
  by intro ls st h Q i; exact e_ifnull d67_20 (by decide),
  by intro ls st h Q l0 l1 l2 l3 l4 l5 x; exact e_iload d67_23 rfl,
  by intro ls st h Q x; exact e_if d67_25 (by decide) c_ge,
  by intro ls st h Q; exact e_ldc (p := 539) d67_28 rfl,
  by intros; exact e_rI (p := True) d67_30 rfl,
  by intro ls st h Q l0 l1 l2 l3 l4 i; exact e_aload d67_31 rfl,
  by intro ls st h Q l0 l1 x; exact e_iload_n d67_33 rfl,
  by intro ls st n sl C Z I L R Q x0 i hh; exact e_iv (k2 := 53) (c := 2) (as := [.int x0]) d67_34 rfl (by decide) rfl rfl (by decide +kernel) (Nat.le_of_ble_eq_true rfl) rfl hh,
  by intro ls st n sl C Z I L R Q x0 i hh; exact e_iv (k2 := 53) (c := 5) (as := [.int x0]) d67_34 rfl (by decide) rfl rfl (by decide +kernel) (Nat.le_of_ble_eq_true rfl) rfl hh,
  by intro ls st n sl C Z I L R Q x0 i hh; exact e_iv (k2 := 53) (c := 6) (as := [.int x0]) d67_34 rfl (by decide) rfl rfl (by decide +kernel) (Nat.le_of_ble_eq_true rfl) rfl hh,
  by intro ls st n sl C Z I L R Q x0 i hh; exact e_iv (k2 := 53) (c := 8) (as := [.int x0]) d67_34 rfl (by decide) rfl rfl (by decide +kernel) (Nat.le_of_ble_eq_true rfl) rfl hh,
  by intro ls st h Q l0 l1 l2 l3 l4 l5 x; exact e_iload d67_37 rfl,
  by intro ls st n sl C Z I L R Q i y; exact e_iald d67_39,
  by intros; exact e_rI (p := True) d67_40 rfl⟩
theorem d68_0 : decode (byt 68) 0 = .ok (.aload_n 0, 1) := by decide +kernel
theorem d68_1 : decode (byt 68) 1 = .ok (.iload_n 1, 1) := by decide +kernel
theorem d68_2 : decode (byt 68) 2 = .ok (.invokevirtual 84, 3) := by decide +kernel
theorem d68_5 : decode (byt 68) 5 = .ok (.astore 4, 2) := by decide +kernel
theorem d68_7 : decode (byt 68) 7 = .ok (.aload 4, 2) := by decide +kernel
theorem d68_9 : decode (byt 68) 9 = .ok (.ifnull 25, 3) := by decide +kernel
theorem d68_12 : decode (byt 68) 12 = .ok (.iload_n 2, 1) := by decide +kernel
theorem d68_13 : decode (byt 68) 13 = .ok (.iconst 0, 1) := by decide +kernel
theorem d68_14 : decode (byt 68) 14 = .ok (.iconst 1, 1) := by decide +kernel
theorem d68_15 : decode (byt 68) 15 = .ok (.invokestatic 66, 3) := by decide +kernel
theorem d68_18 : decode (byt 68) 18 = .ok (.ifCond .eq 16, 3) := by decide +kernel
theorem d68_21 : decode (byt 68) 21 = .ok (.iload_n 3, 1) := by decide +kernel
theorem d68_22 : decode (byt 68) 22 = .ok (.iconst 0, 1) := by decide +kernel
theorem d68_23 : decode (byt 68) 23 = .ok (.aload 4, 2) := by decide +kernel
theorem d68_25 : decode (byt 68) 25 = .ok (.getfield 106, 3) := by decide +kernel
theorem d68_28 : decode (byt 68) 28 = .ok (.invokestatic 66, 3) := by decide +kernel
theorem d68_31 : decode (byt 68) 31 = .ok (.ifCond .ne 7, 3) := by decide +kernel
theorem d68_34 : decode (byt 68) 34 = .ok (.ldc2_w 169, 3) := by decide +kernel
theorem d68_37 : decode (byt 68) 37 = .ok (.lreturn, 1) := by decide +kernel
theorem d68_38 : decode (byt 68) 38 = .ok (.aload_n 0, 1) := by decide +kernel
theorem d68_39 : decode (byt 68) 39 = .ok (.getfield 45, 3) := by decide +kernel
theorem d68_42 : decode (byt 68) 42 = .ok (.aload 4, 2) := by decide +kernel
theorem d68_44 : decode (byt 68) 44 = .ok (.invokevirtual 143, 3) := by decide +kernel
theorem d68_47 : decode (byt 68) 47 = .ok (.iload_n 2, 1) := by decide +kernel
theorem d68_48 : decode (byt 68) 48 = .ok (.ifCond .ne 15, 3) := by decide +kernel
theorem d68_51 : decode (byt 68) 51 = .ok (.aload_n 0, 1) := by decide +kernel
theorem d68_52 : decode (byt 68) 52 = .ok (.getfield 45, 3) := by decide +kernel
theorem d68_55 : decode (byt 68) 55 = .ok (.getfield 171, 3) := by decide +kernel
theorem d68_58 : decode (byt 68) 58 = .ok (.iload_n 3, 1) := by decide +kernel
theorem d68_59 : decode (byt 68) 59 = .ok (.laload, 1) := by decide +kernel
theorem d68_60 : decode (byt 68) 60 = .ok (.goto 11, 3) := by decide +kernel
theorem d68_63 : decode (byt 68) 63 = .ok (.aload_n 0, 1) := by decide +kernel
theorem d68_64 : decode (byt 68) 64 = .ok (.getfield 45, 3) := by decide +kernel
theorem d68_67 : decode (byt 68) 67 = .ok (.iload_n 3, 1) := by decide +kernel
theorem d68_68 : decode (byt 68) 68 = .ok (.invokevirtual 174, 3) := by decide +kernel
theorem d68_71 : decode (byt 68) 71 = .ok (.lreturn, 1) := by decide +kernel
set_option maxRecDepth 20000 in
theorem S68_0 : (∀ (ls : Lo) (st : List Value) (h : Hp) (Q : Option Value → Hp → Prop)  (i : Nat), Wp 68 0 (some (.ref i) :: ls) (st) h Q ↔ Wp 68 1 (some (.ref i) :: ls) (.ref i :: st) h Q) ∧
  (∀ (ls : Lo) (st : List Value) (h : Hp) (Q : Option Value → Hp → Prop) (l0 : Option Value) (x : Int32), Wp 68 1 (l0 :: some (.int x) :: ls) (st) h Q ↔ Wp 68 2 (l0 :: some (.int x) :: ls) (.int x :: st) h Q) ∧
  (∀ (ls : Lo) (st : List Value) (n sl : Nat) (C Z : Nat → Nat) (I : Nat → Nat → Int32) (L : Nat → Nat → Int64) (R : Nat → Nat → Nat) (Q : Option Value → Hp → Prop) (x0 : Int32) (i : Nat), C i = 10 → (Wp 68 2 (ls) (.int x0 :: .ref i :: st) (n, sl, C, Z, I, L, R) Q ↔ (wsum st ≤ 8 ∧ Call 92 [some (.ref i), some (.int x0)] (n, sl, C, Z, I, L, R) 68 5 ls st Q))) ∧
  (∀ (ls : Lo) (st : List Value) (h : Hp) (Q : Option Value → Hp → Prop) (l0 l1 l2 l3 l4 : Option Value) (i : Nat), Wp 68 5 (l0 :: l1 :: l2 :: l3 :: l4 :: ls) (.ref i :: st) h Q ↔ Wp 68 7 (l0 :: l1 :: l2 :: clr l3 :: some (.ref i) :: ls) (st) h Q) ∧
  (∀ (ls : Lo) (st : List Value) (h : Hp) (Q : Option Value → Hp → Prop) (l0 l1 l2 l3 : Option Value) (i : Nat), Wp 68 7 (l0 :: l1 :: l2 :: l3 :: some (.ref i) :: ls) (st) h Q ↔ Wp 68 9 (l0 :: l1 :: l2 :: l3 :: some (.ref i) :: ls) (.ref i :: st) h Q) ∧
  (∀ (ls : Lo) (st : List Value) (h : Hp) (Q : Option Value → Hp → Prop) (i : Nat), Wp 68 9 (ls) (.ref i :: st) h Q ↔ Br 68 34 12 ls st h Q (i = 0)) ∧
  (∀ (ls : Lo) (st : List Value) (h : Hp) (Q : Option Value → Hp → Prop) (l0 l1 : Option Value) (x : Int32), Wp 68 12 (l0 :: l1 :: some (.int x) :: ls) (st) h Q ↔ Wp 68 13 (l0 :: l1 :: some (.int x) :: ls) (.int x :: st) h Q) ∧
  (∀ (ls : Lo) (st : List Value) (h : Hp) (Q : Option Value → Hp → Prop), Wp 68 13 (ls) (st) h Q ↔ Wp 68 14 (ls) (.int (0) :: st) h Q) ∧
  (∀ (ls : Lo) (st : List Value) (h : Hp) (Q : Option Value → Hp → Prop), Wp 68 14 (ls) (st) h Q ↔ Wp 68 15 (ls) (.int (1) :: st) h Q) ∧
  (∀ (ls : Lo) (st : List Value) (h : Hp) (Q : Option Value → Hp → Prop) (x0 : Int32) (x1 : Int32) (x2 : Int32), Wp 68 15 (ls) (.int x2 :: .int x1 :: .int x0 :: st) h Q ↔ (wsum st ≤ 8 ∧ Call 87 [some (.int x0), some (.int x1), some (.int x2)] h 68 18 ls st Q)) ∧
  (∀ (ls : Lo) (st : List Value) (h : Hp) (Q : Option Value → Hp → Prop) (x : Int32), Wp 68 18 (ls) (.int x :: st) h Q ↔ Br 68 34 21 ls st h Q (x = 0)) ∧
  (∀ (ls : Lo) (st : List Value) (h : Hp) (Q : Option Value → Hp → Prop) (l0 l1 l2 : Option Value) (x : Int32), Wp 68 21 (l0 :: l1 :: l2 :: some (.int x) :: ls) (st) h Q ↔ Wp 68 22 (l0 :: l1 :: l2 :: some (.int x) :: ls) (.int x :: st) h Q) ∧
  (∀ (ls : Lo) (st : List Value) (h : Hp) (Q : Option Value → Hp → Prop), Wp 68 22 (ls) (st) h Q ↔ Wp 68 23 (ls) (.int (0) :: st) h Q) ∧
  (∀ (ls : Lo) (st : List Value) (h : Hp) (Q : Option Value → Hp → Prop) (l0 l1 l2 l3 : Option Value) (i : Nat), Wp 68 23 (l0 :: l1 :: l2 :: l3 :: some (.ref i) :: ls) (st) h Q ↔ Wp 68 25 (l0 :: l1 :: l2 :: l3 :: some (.ref i) :: ls) (.ref i :: st) h Q) ∧
  (∀ (ls : Lo) (st : List Value) (n sl : Nat) (C Z : Nat → Nat) (I : Nat → Nat → Int32) (L : Nat → Nat → Int64) (R : Nat → Nat → Nat) (Q : Option Value → Hp → Prop) (i : Nat), Wp 68 25 (ls) (.ref i :: st) (n, sl, C, Z, I, L, R) Q ↔ (inG 7 (C i) = true ∧ Wp 68 28 (ls) (.int (I i 1) :: st) (n, sl, C, Z, I, L, R) Q)) ∧
  (∀ (ls : Lo) (st : List Value) (h : Hp) (Q : Option Value → Hp → Prop) (x0 : Int32) (x1 : Int32) (x2 : Int32), Wp 68 28 (ls) (.int x2 :: .int x1 :: .int x0 :: st) h Q ↔ (wsum st ≤ 8 ∧ Call 87 [some (.int x0), some (.int x1), some (.int x2)] h 68 31 ls st Q)) ∧
  (∀ (ls : Lo) (st : List Value) (h : Hp) (Q : Option Value → Hp → Prop) (x : Int32), Wp 68 31 (ls) (.int x :: st) h Q ↔ Br 68 38 34 ls st h Q (¬ x = 0)) ∧
  (∀ (ls : Lo) (st : List Value) (h : Hp) (Q : Option Value → Hp → Prop), Wp 68 34 (ls) (st) h Q ↔ Wp 68 37 (ls) (.long (-4611686018427387904) :: st) h Q) ∧
  (∀ (ls : Lo) (h : Hp) (Q : Option Value → Hp → Prop) (a : Int64), Wp 68 37 (ls) ([.long a]) h Q ↔ Q (some (.long a)) h) ∧
  (∀ (ls : Lo) (st : List Value) (h : Hp) (Q : Option Value → Hp → Prop)  (i : Nat), Wp 68 38 (some (.ref i) :: ls) (st) h Q ↔ Wp 68 39 (some (.ref i) :: ls) (.ref i :: st) h Q) ∧
  (∀ (ls : Lo) (st : List Value) (n sl : Nat) (C Z : Nat → Nat) (I : Nat → Nat → Int32) (L : Nat → Nat → Int64) (R : Nat → Nat → Nat) (Q : Option Value → Hp → Prop) (i : Nat), Wp 68 39 (ls) (.ref i :: st) (n, sl, C, Z, I, L, R) Q ↔ (C i = 10 ∧ Wp 68 42 (ls) (.ref (R i 7) :: st) (n, sl, C, Z, I, L, R) Q)) ∧
  (∀ (ls : Lo) (st : List Value) (h : Hp) (Q : Option Value → Hp → Prop) (l0 l1 l2 l3 : Option Value) (i : Nat), Wp 68 42 (l0 :: l1 :: l2 :: l3 :: some (.ref i) :: ls) (st) h Q ↔ Wp 68 44 (l0 :: l1 :: l2 :: l3 :: some (.ref i) :: ls) (.ref i :: st) h Q) ∧
  (∀ (ls : Lo) (st : List Value) (n sl : Nat) (C Z : Nat → Nat) (I : Nat → Nat → Int32) (L : Nat → Nat → Int64) (R : Nat → Nat → Nat) (Q : Option Value → Hp → Prop) (x0 : Nat) (i : Nat), C i = 4 → (Wp 68 44 (ls) (.ref x0 :: .ref i :: st) (n, sl, C, Z, I, L, R) Q ↔ (wsum st ≤ 8 ∧ Call 17 [some (.ref i), some (.ref x0), none] (n, sl, C, Z, I, L, R) 68 47 ls st Q))) ∧
  (∀ (ls : Lo) (st : List Value) (h : Hp) (Q : Option Value → Hp → Prop) (l0 l1 : Option Value) (x : Int32), Wp 68 47 (l0 :: l1 :: some (.int x) :: ls) (st) h Q ↔ Wp 68 48 (l0 :: l1 :: some (.int x) :: ls) (.int x :: st) h Q) ∧
  (∀ (ls : Lo) (st : List Value) (h : Hp) (Q : Option Value → Hp → Prop) (x : Int32), Wp 68 48 (ls) (.int x :: st) h Q ↔ Br 68 63 51 ls st h Q (¬ x = 0)) := ⟨by intro ls st h Q i; exact e_aload_n d68_0 rfl,
  by intro ls st h Q l0 x; exact e_iload_n d68_1 rfl,
  by intro ls st n sl C Z I L R Q x0 i hh; exact e_iv (k2 := 92) (c := 10) (as := [.int x0]) d68_2 rfl (by decide) rfl rfl (by decide +kernel) (Nat.le_of_ble_eq_true rfl) rfl hh,
  by intro ls st h Q l0 l1 l2 l3 l4 i; exact e_astore d68_5 rfl,
  by intro ls st h Q l0 l1 l2 l3 i; exact e_aload d68_7 rfl,
  by intro ls st h Q i; exact e_ifnull d68_9 (by decide),
  by intro ls st h Q l0 l1 x; exact e_iload_n d68_12 rfl,
  by intro ls st h Q; exact e_iconst d68_13 rfl,
  by intro ls st h Q; exact e_iconst d68_14 rfl,
  by intro ls st h Q x0 x1 x2; exact e_is (k2 := 87) (as := [.int x0, .int x1, .int x2]) d68_15 rfl (by decide) rfl rfl (by decide +kernel) (Nat.le_of_ble_eq_true rfl) rfl,
  by intro ls st h Q x; exact e_if d68_18 (by decide) c_eq,
  by intro ls st h Q l0 l1 l2 x; exact e_iload_n d68_21 rfl,
  by intro ls st h Q; exact e_iconst d68_22 rfl,
  by intro ls st h Q l0 l1 l2 l3 i; exact e_aload d68_23 rfl,
  by intro ls st n sl C Z I L R Q i; exact e_get (g := 7) (s := 1) (ty := 0) d68_25 rfl rfl rfl,
  by intro ls st h Q x0 x1 x2; exact e_is (k2 := 87) (as := [.int x0, .int x1, .int x2]) d68_28 rfl (by decide) rfl rfl (by decide +kernel) (Nat.le_of_ble_eq_true rfl) rfl,
  by intro ls st h Q x; exact e_if d68_31 (by decide) c_ne,
  by intro ls st h Q; exact e_ldc2 (p := 544) d68_34 rfl,
  by intros; exact e_rL d68_37 rfl,
  by intro ls st h Q i; exact e_aload_n d68_38 rfl,
  by intro ls st n sl C Z I L R Q i; exact e_get (g := 9) (s := 7) (ty := 2) d68_39 rfl rfl (inG_ne (by decide)),
  by intro ls st h Q l0 l1 l2 l3 i; exact e_aload d68_42 rfl,
  by intro ls st n sl C Z I L R Q x0 i hh; exact e_iv (k2 := 17) (c := 4) (as := [.ref x0]) d68_44 rfl (by decide) rfl rfl (by decide +kernel) (Nat.le_of_ble_eq_true rfl) rfl hh,
  by intro ls st h Q l0 l1 x; exact e_iload_n d68_47 rfl,
  by intro ls st h Q x; exact e_if d68_48 (by decide) c_ne⟩
set_option maxRecDepth 20000 in
theorem S68_1 : (∀ (ls : Lo) (st : List Value) (h : Hp) (Q : Option Value → Hp → Prop)  (i : Nat), Wp 68 51 (some (.ref i) :: ls) (st) h Q ↔ Wp 68 52 (some (.ref i) :: ls) (.ref i :: st) h Q) ∧
  (∀ (ls : Lo) (st : List Value) (n sl : Nat) (C Z : Nat → Nat) (I : Nat → Nat → Int32) (L : Nat → Nat → Int64) (R : Nat → Nat → Nat) (Q : Option Value → Hp → Prop) (i : Nat), Wp 68 52 (ls) (.ref i :: st) (n, sl, C, Z, I, L, R) Q ↔ (C i = 10 ∧ Wp 68 55 (ls) (.ref (R i 7) :: st) (n, sl, C, Z, I, L, R) Q)) ∧
  (∀ (ls : Lo) (st : List Value) (n sl : Nat) (C Z : Nat → Nat) (I : Nat → Nat → Int32) (L : Nat → Nat → Int64) (R : Nat → Nat → Nat) (Q : Option Value → Hp → Prop) (i : Nat), Wp 68 55 (ls) (.ref i :: st) (n, sl, C, Z, I, L, R) Q ↔ (C i = 4 ∧ Wp 68 58 (ls) (.ref (R i 3) :: st) (n, sl, C, Z, I, L, R) Q)) ∧
  (∀ (ls : Lo) (st : List Value) (h : Hp) (Q : Option Value → Hp → Prop) (l0 l1 l2 : Option Value) (x : Int32), Wp 68 58 (l0 :: l1 :: l2 :: some (.int x) :: ls) (st) h Q ↔ Wp 68 59 (l0 :: l1 :: l2 :: some (.int x) :: ls) (.int x :: st) h Q) ∧
  (∀ (ls : Lo) (st : List Value) (n sl : Nat) (C Z : Nat → Nat) (I : Nat → Nat → Int32) (L : Nat → Nat → Int64) (R : Nat → Nat → Nat) (Q : Option Value → Hp → Prop) (i : Nat) (y : Int32), Wp 68 59 (ls) (.int y :: .ref i :: st) (n, sl, C, Z, I, L, R) Q ↔ ((inb y (Z i) = true ∧ C i = 22) ∧ Wp 68 60 (ls) (.long (L i (ix y)) :: st) (n, sl, C, Z, I, L, R) Q)) ∧
  (∀ (ls : Lo) (st : List Value) (h : Hp) (Q : Option Value → Hp → Prop), Wp 68 60 (ls) (st) h Q ↔ Wp 68 71 (ls) (st) h Q) ∧
  (∀ (ls : Lo) (st : List Value) (h : Hp) (Q : Option Value → Hp → Prop)  (i : Nat), Wp 68 63 (some (.ref i) :: ls) (st) h Q ↔ Wp 68 64 (some (.ref i) :: ls) (.ref i :: st) h Q) ∧
  (∀ (ls : Lo) (st : List Value) (n sl : Nat) (C Z : Nat → Nat) (I : Nat → Nat → Int32) (L : Nat → Nat → Int64) (R : Nat → Nat → Nat) (Q : Option Value → Hp → Prop) (i : Nat), Wp 68 64 (ls) (.ref i :: st) (n, sl, C, Z, I, L, R) Q ↔ (C i = 10 ∧ Wp 68 67 (ls) (.ref (R i 7) :: st) (n, sl, C, Z, I, L, R) Q)) ∧
  (∀ (ls : Lo) (st : List Value) (h : Hp) (Q : Option Value → Hp → Prop) (l0 l1 l2 : Option Value) (x : Int32), Wp 68 67 (l0 :: l1 :: l2 :: some (.int x) :: ls) (st) h Q ↔ Wp 68 68 (l0 :: l1 :: l2 :: some (.int x) :: ls) (.int x :: st) h Q) ∧
  (∀ (ls : Lo) (st : List Value) (n sl : Nat) (C Z : Nat → Nat) (I : Nat → Nat → Int32) (L : Nat → Nat → Int64) (R : Nat → Nat → Nat) (Q : Option Value → Hp → Prop) (x0 : Int32) (i : Nat), C i = 4 → (Wp 68 68 (ls) (.int x0 :: .ref i :: st) (n, sl, C, Z, I, L, R) Q ↔ (wsum st ≤ 8 ∧ Call 24 [some (.ref i), some (.int x0), none, none, none] (n, sl, C, Z, I, L, R) 68 71 ls st Q))) ∧
  (∀ (ls : Lo) (h : Hp) (Q : Option Value → Hp → Prop) (a : Int64), Wp 68 71 (ls) ([.long a]) h Q ↔ Q (some (.long a)) h) := ⟨by intro ls st h Q i; exact e_aload_n d68_51 rfl,
  by intro ls st n sl C Z I L R Q i; exact e_get (g := 9) (s := 7) (ty := 2) d68_52 rfl rfl (inG_ne (by decide)),
  by intro ls st n sl C Z I L R Q i; exact e_get (g := 3) (s := 3) (ty := 2) d68_55 rfl rfl (inG_ne (by decide)),
  by intro ls st h Q l0 l1 l2 x; exact e_iload_n d68_58 rfl,
  by intro ls st n sl C Z I L R Q i y; exact e_lald d68_59,
  by intro ls st h Q; exact e_goto d68_60 (by decide),
  by intro ls st h Q i; exact e_aload_n d68_63 rfl,
  by intro ls st n sl C Z I L R Q i; exact e_get (g := 9) (s := 7) (ty := 2) d68_64 rfl rfl (inG_ne (by decide)),
  by intro ls st h Q l0 l1 l2 x; exact e_iload_n d68_67 rfl,
  by intro ls st n sl C Z I L R Q x0 i hh; exact e_iv (k2 := 24) (c := 4) (as := [.int x0]) d68_68 rfl (by decide) rfl rfl (by decide +kernel) (Nat.le_of_ble_eq_true rfl) rfl hh,
  by intros; exact e_rL d68_71 rfl⟩
theorem d69_0 : decode (byt 69) 0 = .ok (.aload_n 0, 1) := by decide +kernel
theorem d69_1 : decode (byt 69) 1 = .ok (.iload_n 1, 1) := by decide +kernel
theorem d69_2 : decode (byt 69) 2 = .ok (.invokevirtual 84, 3) := by decide +kernel
theorem d69_5 : decode (byt 69) 5 = .ok (.astore 4, 2) := by decide +kernel
theorem d69_7 : decode (byt 69) 7 = .ok (.aload 4, 2) := by decide +kernel
theorem d69_9 : decode (byt 69) 9 = .ok (.ifnull 22, 3) := by decide +kernel
theorem d69_12 : decode (byt 69) 12 = .ok (.iload_n 2, 1) := by decide +kernel
theorem d69_13 : decode (byt 69) 13 = .ok (.iconst 0, 1) := by decide +kernel
theorem d69_14 : decode (byt 69) 14 = .ok (.bipush 8, 2) := by decide +kernel
theorem d69_16 : decode (byt 69) 16 = .ok (.invokestatic 66, 3) := by decide +kernel
theorem d69_19 : decode (byt 69) 19 = .ok (.ifCond .eq 12, 3) := by decide +kernel
theorem d69_22 : decode (byt 69) 22 = .ok (.iload_n 3, 1) := by decide +kernel
theorem d69_23 : decode (byt 69) 23 = .ok (.iconst 0, 1) := by decide +kernel
theorem d69_24 : decode (byt 69) 24 = .ok (.iconst 1, 1) := by decide +kernel
theorem d69_25 : decode (byt 69) 25 = .ok (.invokestatic 66, 3) := by decide +kernel
theorem d69_28 : decode (byt 69) 28 = .ok (.ifCond .ne 7, 3) := by decide +kernel
theorem d69_31 : decode (byt 69) 31 = .ok (.ldc2_w 169, 3) := by decide +kernel
theorem d69_34 : decode (byt 69) 34 = .ok (.lreturn, 1) := by decide +kernel
theorem d69_35 : decode (byt 69) 35 = .ok (.aload_n 0, 1) := by decide +kernel
theorem d69_36 : decode (byt 69) 36 = .ok (.getfield 45, 3) := by decide +kernel
theorem d69_39 : decode (byt 69) 39 = .ok (.aload 4, 2) := by decide +kernel
theorem d69_41 : decode (byt 69) 41 = .ok (.invokevirtual 143, 3) := by decide +kernel
theorem d69_44 : decode (byt 69) 44 = .ok (.aload_n 0, 1) := by decide +kernel
theorem d69_45 : decode (byt 69) 45 = .ok (.getfield 45, 3) := by decide +kernel
theorem d69_48 : decode (byt 69) 48 = .ok (.aload_n 0, 1) := by decide +kernel
theorem d69_49 : decode (byt 69) 49 = .ok (.getfield 62, 3) := by decide +kernel
theorem d69_52 : decode (byt 69) 52 = .ok (.iload_n 2, 1) := by decide +kernel
theorem d69_53 : decode (byt 69) 53 = .ok (.invokevirtual 178, 3) := by decide +kernel
theorem d69_56 : decode (byt 69) 56 = .ok (.aload_n 0, 1) := by decide +kernel
theorem d69_57 : decode (byt 69) 57 = .ok (.getfield 62, 3) := by decide +kernel
theorem d69_60 : decode (byt 69) 60 = .ok (.iload_n 3, 1) := by decide +kernel
theorem d69_61 : decode (byt 69) 61 = .ok (.invokevirtual 182, 3) := by decide +kernel
theorem d69_64 : decode (byt 69) 64 = .ok (.lreturn, 1) := by decide +kernel
set_option maxRecDepth 20000 in
theorem S69_0 : (∀ (ls : Lo) (st : List Value) (h : Hp) (Q : Option Value → Hp → Prop)  (i : Nat), Wp 69 0 (some (.ref i) :: ls) (st) h Q ↔ Wp 69 1 (some (.ref i) :: ls) (.ref i :: st) h Q) ∧
  (∀ (ls : Lo) (st : List Value) (h : Hp) (Q : Option Value → Hp → Prop) (l0 : Option Value) (x : Int32), Wp 69 1 (l0 :: some (.int x) :: ls) (st) h Q ↔ Wp 69 2 (l0 :: some (.int x) :: ls) (.int x :: st) h Q) ∧
  (∀ (ls : Lo) (st : List Value) (n sl : Nat) (C Z : Nat → Nat) (I : Nat → Nat → Int32) (L : Nat → Nat → Int64) (R : Nat → Nat → Nat) (Q : Option Value → Hp → Prop) (x0 : Int32) (i : Nat), C i = 10 → (Wp 69 2 (ls) (.int x0 :: .ref i :: st) (n, sl, C, Z, I, L, R) Q ↔ (wsum st ≤ 8 ∧ Call 92 [some (.ref i), some (.int x0)] (n, sl, C, Z, I, L, R) 69 5 ls st Q))) ∧
  (∀ (ls : Lo) (st : List Value) (h : Hp) (Q : Option Value → Hp → Prop) (l0 l1 l2 l3 l4 : Option Value) (i : Nat), Wp 69 5 (l0 :: l1 :: l2 :: l3 :: l4 :: ls) (.ref i :: st) h Q ↔ Wp 69 7 (l0 :: l1 :: l2 :: clr l3 :: some (.ref i) :: ls) (st) h Q) ∧
  (∀ (ls : Lo) (st : List Value) (h : Hp) (Q : Option Value → Hp → Prop) (l0 l1 l2 l3 : Option Value) (i : Nat), Wp 69 7 (l0 :: l1 :: l2 :: l3 :: some (.ref i) :: ls) (st) h Q ↔ Wp 69 9 (l0 :: l1 :: l2 :: l3 :: some (.ref i) :: ls) (.ref i :: st) h Q) ∧
  (∀ (ls : Lo) (st : List Value) (h : Hp) (Q : Option Value → Hp → Prop) (i : Nat), Wp 69 9 (ls) (.ref i :: st) h Q ↔ Br 69 31 12 ls st h Q (i = 0)) ∧
  (∀ (ls : Lo) (st : List Value) (h : Hp) (Q : Option Value → Hp → Prop) (l0 l1 : Option Value) (x : Int32), Wp 69 12 (l0 :: l1 :: some (.int x) :: ls) (st) h Q ↔ Wp 69 13 (l0 :: l1 :: some (.int x) :: ls) (.int x :: st) h Q) ∧
  (∀ (ls : Lo) (st : List Value) (h : Hp) (Q : Option Value → Hp → Prop), Wp 69 13 (ls) (st) h Q ↔ Wp 69 14 (ls) (.int (0) :: st) h Q) ∧
  (∀ (ls : Lo) (st : List Value) (h : Hp) (Q : Option Value → Hp → Prop), Wp 69 14 (ls) (st) h Q ↔ Wp 69 16 (ls) (.int (8) :: st) h Q) ∧
  (∀ (ls : Lo) (st : List Value) (h : Hp) (Q : Option Value → Hp → Prop) (x0 : Int32) (x1 : Int32) (x2 : Int32), Wp 69 16 (ls) (.int x2 :: .int x1 :: .int x0 :: st) h Q ↔ (wsum st ≤ 8 ∧ Call 87 [some (.int x0), some (.int x1), some (.int x2)] h 69 19 ls st Q)) ∧
  (∀ (ls : Lo) (st : List Value) (h : Hp) (Q : Option Value → Hp → Prop) (x : Int32), Wp 69 19 (ls) (.int x :: st) h Q ↔ Br 69 31 22 ls st h Q (x = 0)) ∧
  (∀ (ls : Lo) (st : List Value) (h : Hp) (Q : Option Value → Hp → Prop) (l0 l1 l2 : Option Value) (x : Int32), Wp 69 22 (l0 :: l1 :: l2 :: some (.int x) :: ls) (st) h Q ↔ Wp 69 23 (l0 :: l1 :: l2 :: some (.int x) :: ls) (.int x :: st) h Q) ∧
  (∀ (ls : Lo) (st : List Value) (h : Hp) (Q : Option Value → Hp → Prop), Wp 69 23 (ls) (st) h Q ↔ Wp 69 24 (ls) (.int (0) :: st) h Q) ∧
  (∀ (ls : Lo) (st : List Value) (h : Hp) (Q : Option Value → Hp → Prop), Wp 69 24 (ls) (st) h Q ↔ Wp 69 25 (ls) (.int (1) :: st) h Q) ∧
  (∀ (ls : Lo) (st : List Value) (h : Hp) (Q : Option Value → Hp → Prop) (x0 : Int32) (x1 : Int32) (x2 : Int32), Wp 69 25 (ls) (.int x2 :: .int x1 :: .int x0 :: st) h Q ↔ (wsum st ≤ 8 ∧ Call 87 [some (.int x0), some (.int x1), some (.int x2)] h 69 28 ls st Q)) ∧
  (∀ (ls : Lo) (st : List Value) (h : Hp) (Q : Option Value → Hp → Prop) (x : Int32), Wp 69 28 (ls) (.int x :: st) h Q ↔ Br 69 35 31 ls st h Q (¬ x = 0)) ∧
  (∀ (ls : Lo) (st : List Value) (h : Hp) (Q : Option Value → Hp → Prop), Wp 69 31 (ls) (st) h Q ↔ Wp 69 34 (ls) (.long (-4611686018427387904) :: st) h Q) ∧
  (∀ (ls : Lo) (h : Hp) (Q : Option Value → Hp → Prop) (a : Int64), Wp 69 34 (ls) ([.long a]) h Q ↔ Q (some (.long a)) h) ∧
  (∀ (ls : Lo) (st : List Value) (h : Hp) (Q : Option Value → Hp → Prop)  (i : Nat), Wp 69 35 (some (.ref i) :: ls) (st) h Q ↔ Wp 69 36 (some (.ref i) :: ls) (.ref i :: st) h Q) ∧
  (∀ (ls : Lo) (st : List Value) (n sl : Nat) (C Z : Nat → Nat) (I : Nat → Nat → Int32) (L : Nat → Nat → Int64) (R : Nat → Nat → Nat) (Q : Option Value → Hp → Prop) (i : Nat), Wp 69 36 (ls) (.ref i :: st) (n, sl, C, Z, I, L, R) Q ↔ (C i = 10 ∧ Wp 69 39 (ls) (.ref (R i 7) :: st) (n, sl, C, Z, I, L, R) Q)) ∧
  (∀ (ls : Lo) (st : List Value) (h : Hp) (Q : Option Value → Hp → Prop) (l0 l1 l2 l3 : Option Value) (i : Nat), Wp 69 39 (l0 :: l1 :: l2 :: l3 :: some (.ref i) :: ls) (st) h Q ↔ Wp 69 41 (l0 :: l1 :: l2 :: l3 :: some (.ref i) :: ls) (.ref i :: st) h Q) ∧
  (∀ (ls : Lo) (st : List Value) (n sl : Nat) (C Z : Nat → Nat) (I : Nat → Nat → Int32) (L : Nat → Nat → Int64) (R : Nat → Nat → Nat) (Q : Option Value → Hp → Prop) (x0 : Nat) (i : Nat), C i = 4 → (Wp 69 41 (ls) (.ref x0 :: .ref i :: st) (n, sl, C, Z, I, L, R) Q ↔ (wsum st ≤ 8 ∧ Call 17 [some (.ref i), some (.ref x0), none] (n, sl, C, Z, I, L, R) 69 44 ls st Q))) ∧
  (∀ (ls : Lo) (st : List Value) (h : Hp) (Q : Option Value → Hp → Prop)  (i : Nat), Wp 69 44 (some (.ref i) :: ls) (st) h Q ↔ Wp 69 45 (some (.ref i) :: ls) (.ref i :: st) h Q) ∧
  (∀ (ls : Lo) (st : List Value) (n sl : Nat) (C Z : Nat → Nat) (I : Nat → Nat → Int32) (L : Nat → Nat → Int64) (R : Nat → Nat → Nat) (Q : Option Value → Hp → Prop) (i : Nat), Wp 69 45 (ls) (.ref i :: st) (n, sl, C, Z, I, L, R) Q ↔ (C i = 10 ∧ Wp 69 48 (ls) (.ref (R i 7) :: st) (n, sl, C, Z, I, L, R) Q)) ∧
  (∀ (ls : Lo) (st : List Value) (h : Hp) (Q : Option Value → Hp → Prop)  (i : Nat), Wp 69 48 (some (.ref i) :: ls) (st) h Q ↔ Wp 69 49 (some (.ref i) :: ls) (.ref i :: st) h Q) := ⟨by intro ls st h Q i; exact e_aload_n d69_0 rfl,
  by intro ls st h Q l0 x; exact e_iload_n d69_1 rfl,
  by intro ls st n sl C Z I L R Q x0 i hh; exact e_iv (k2 := 92) (c := 10) (as := [.int x0]) d69_2 rfl (by decide) rfl rfl (by decide +kernel) (Nat.le_of_ble_eq_true rfl) rfl hh,
  by intro ls st h Q l0 l1 l2 l3 l4 i; exact e_astore d69_5 rfl,
  by intro ls st h Q l0 l1 l2 l3 i; exact e_aload d69_7 rfl,
  by intro ls st h Q i; exact e_ifnull d69_9 (by decide),
  by intro ls st h Q l0 l1 x; exact e_iload_n d69_12 rfl,
  by intro ls st h Q; exact e_iconst d69_13 rfl,
  by intro ls st h Q; exact e_bipush d69_14 rfl,
  by intro ls st h Q x0 x1 x2; exact e_is (k2 := 87) (as := [.int x0, .int x1, .int x2]) d69_16 rfl (by decide) rfl rfl (by decide +kernel) (Nat.le_of_ble_eq_true rfl) rfl,
  by intro ls st h Q x; exact e_if d69_19 (by decide) c_eq,
  by intro ls st h Q l0 l1 l2 x; exact e_iload_n d69_22 rfl,
  by intro ls st h Q; exact e_iconst d69_23 rfl,
  by intro ls st h Q; exact e_iconst d69_24 rfl,
  by intro ls st h Q x0 x1 x2; exact e_is (k2 := 87) (as := [.int x0, .int x1, .int x2]) d69_25 rfl (by decide) rfl rfl (by decide +kernel) (Nat.le_of_ble_eq_true rfl) rfl,
  by intro ls st h Q x; exact e_if d69_28 (by decide) c_ne,
  by intro ls st h Q; exact e_ldc2 (p := 544) d69_31 rfl,
  by intros; exact e_rL d69_34 rfl,
  by intro ls st h Q i; exact e_aload_n d69_35 rfl,
  by intro ls st n sl C Z I L R Q i; exact e_get (g := 9) (s := 7) (ty := 2) d69_36 rfl rfl (inG_ne (by decide)),
  by intro ls st h Q l0 l1 l2 l3 i; exact e_aload d69_39 rfl,
  by intro ls st n sl C Z I L R Q x0 i hh; exact e_iv (k2 := 17) (c := 4) (as := [.ref x0]) d69_41 rfl (by decide) rfl rfl (by decide +kernel) (Nat.le_of_ble_eq_true rfl) rfl hh,
  by intro ls st h Q i; exact e_aload_n d69_44 rfl,
  by intro ls st n sl C Z I L R Q i; exact e_get (g := 9) (s := 7) (ty := 2) d69_45 rfl rfl (inG_ne (by decide)),
  by intro ls st h Q i; exact e_aload_n d69_48 rfl⟩
set_option maxRecDepth 20000 in
theorem S69_1 : (∀ (ls : Lo) (st : List Value) (n sl : Nat) (C Z : Nat → Nat) (I : Nat → Nat → Int32) (L : Nat → Nat → Int64) (R : Nat → Nat → Nat) (Q : Option Value → Hp → Prop) (i : Nat), Wp 69 49 (ls) (.ref i :: st) (n, sl, C, Z, I, L, R) Q ↔ (C i = 10 ∧ Wp 69 52 (ls) (.ref (R i 10) :: st) (n, sl, C, Z, I, L, R) Q)) ∧
  (∀ (ls : Lo) (st : List Value) (h : Hp) (Q : Option Value → Hp → Prop) (l0 l1 : Option Value) (x : Int32), Wp 69 52 (l0 :: l1 :: some (.int x) :: ls) (st) h Q ↔ Wp 69 53 (l0 :: l1 :: some (.int x) :: ls) (.int x :: st) h Q) ∧
  (∀ (ls : Lo) (st : List Value) (n sl : Nat) (C Z : Nat → Nat) (I : Nat → Nat → Int32) (L : Nat → Nat → Int64) (R : Nat → Nat → Nat) (Q : Option Value → Hp → Prop) (x0 : Nat) (x1 : Int32) (i : Nat), C i = 4 → (Wp 69 53 (ls) (.int x1 :: .ref x0 :: .ref i :: st) (n, sl, C, Z, I, L, R) Q ↔ (wsum st ≤ 8 ∧ Call 31 [some (.ref i), some (.ref x0), some (.int x1)] (n, sl, C, Z, I, L, R) 69 56 ls st Q))) ∧
  (∀ (ls : Lo) (st : List Value) (h : Hp) (Q : Option Value → Hp → Prop)  (i : Nat), Wp 69 56 (some (.ref i) :: ls) (st) h Q ↔ Wp 69 57 (some (.ref i) :: ls) (.ref i :: st) h Q) ∧
  (∀ (ls : Lo) (st : List Value) (n sl : Nat) (C Z : Nat → Nat) (I : Nat → Nat → Int32) (L : Nat → Nat → Int64) (R : Nat → Nat → Nat) (Q : Option Value → Hp → Prop) (i : Nat), Wp 69 57 (ls) (.ref i :: st) (n, sl, C, Z, I, L, R) Q ↔ (C i = 10 ∧ Wp 69 60 (ls) (.ref (R i 10) :: st) (n, sl, C, Z, I, L, R) Q)) ∧
  (∀ (ls : Lo) (st : List Value) (h : Hp) (Q : Option Value → Hp → Prop) (l0 l1 l2 : Option Value) (x : Int32), Wp 69 60 (l0 :: l1 :: l2 :: some (.int x) :: ls) (st) h Q ↔ Wp 69 61 (l0 :: l1 :: l2 :: some (.int x) :: ls) (.int x :: st) h Q) ∧
  (∀ (ls : Lo) (st : List Value) (n sl : Nat) (C Z : Nat → Nat) (I : Nat → Nat → Int32) (L : Nat → Nat → Int64) (R : Nat → Nat → Nat) (Q : Option Value → Hp → Prop) (x0 : Int32) (i : Nat), C i = 3 → (Wp 69 61 (ls) (.int x0 :: .ref i :: st) (n, sl, C, Z, I, L, R) Q ↔ (wsum st ≤ 8 ∧ Call 14 [some (.ref i), some (.int x0)] (n, sl, C, Z, I, L, R) 69 64 ls st Q))) ∧
  (∀ (ls : Lo) (h : Hp) (Q : Option Value → Hp → Prop) (a : Int64), Wp 69 64 (ls) ([.long a]) h Q ↔ Q (some (.long a)) h) := ⟨by intro ls st n sl C Z I L R Q i; exact e_get (g := 9) (s := 10) (ty := 2) d69_49 rfl rfl (inG_ne (by decide)),
  by intro ls st h Q l0 l1 x; exact e_iload_n d69_52 rfl,
  by intro ls st n sl C Z I L R Q x0 x1 i hh; exact e_iv (k2 := 31) (c := 4) (as := [.ref x0, .int x1]) d69_53 rfl (by decide) rfl rfl (by decide +kernel) (Nat.le_of_ble_eq_true rfl) rfl hh,
  by intro ls st h Q i; exact e_aload_n d69_56 rfl,
  by intro ls st n sl C Z I L R Q i; exact e_get (g := 9) (s := 10) (ty := 2) d69_57 rfl rfl (inG_ne (by decide)),
  by intro ls st h Q l0 l1 l2 x; exact e_iload_n d69_60 rfl,
  by intro ls st n sl C Z I L R Q x0 i hh; exact e_iv (k2 := 14) (c := 3) (as := [.int x0]) d69_61 rfl (by decide) rfl rfl (by decide +kernel) (Nat.le_of_ble_eq_true rfl) rfl hh,
  by intros; exact e_rL d69_64 rfl⟩
theorem d70_0 : decode (byt 70) 0 = .ok (.aload_n 0, 1) := by decide +kernel
theorem d70_1 : decode (byt 70) 1 = .ok (.iload_n 1, 1) := by decide +kernel
theorem d70_2 : decode (byt 70) 2 = .ok (.invokevirtual 84, 3) := by decide +kernel
theorem d70_5 : decode (byt 70) 5 = .ok (.astore 5, 2) := by decide +kernel
theorem d70_7 : decode (byt 70) 7 = .ok (.aload 5, 2) := by decide +kernel
theorem d70_9 : decode (byt 70) 9 = .ok (.ifnull 30, 3) := by decide +kernel
theorem d70_12 : decode (byt 70) 12 = .ok (.aload 5, 2) := by decide +kernel
theorem d70_14 : decode (byt 70) 14 = .ok (.instanceof 74, 3) := by decide +kernel
theorem d70_17 : decode (byt 70) 17 = .ok (.ifCond .ne 22, 3) := by decide +kernel
theorem d70_20 : decode (byt 70) 20 = .ok (.iload_n 2, 1) := by decide +kernel
theorem d70_21 : decode (byt 70) 21 = .ok (.iconst 0, 1) := by decide +kernel
theorem d70_22 : decode (byt 70) 22 = .ok (.iconst 5, 1) := by decide +kernel
theorem d70_23 : decode (byt 70) 23 = .ok (.invokestatic 66, 3) := by decide +kernel
theorem d70_26 : decode (byt 70) 26 = .ok (.ifCond .eq 13, 3) := by decide +kernel
theorem d70_29 : decode (byt 70) 29 = .ok (.iload 4, 2) := by decide +kernel
theorem d70_31 : decode (byt 70) 31 = .ok (.iconst 0, 1) := by decide +kernel
theorem d70_32 : decode (byt 70) 32 = .ok (.iconst 1, 1) := by decide +kernel
theorem d70_33 : decode (byt 70) 33 = .ok (.invokestatic 66, 3) := by decide +kernel
theorem d70_36 : decode (byt 70) 36 = .ok (.ifCond .ne 7, 3) := by decide +kernel
theorem d70_39 : decode (byt 70) 39 = .ok (.ldc2_w 169, 3) := by decide +kernel
theorem d70_42 : decode (byt 70) 42 = .ok (.lreturn, 1) := by decide +kernel
theorem d70_43 : decode (byt 70) 43 = .ok (.iload_n 3, 1) := by decide +kernel
theorem d70_44 : decode (byt 70) 44 = .ok (.iconst 0, 1) := by decide +kernel
theorem d70_45 : decode (byt 70) 45 = .ok (.bipush 7, 2) := by decide +kernel
theorem d70_47 : decode (byt 70) 47 = .ok (.iload_n 2, 1) := by decide +kernel
theorem d70_48 : decode (byt 70) 48 = .ok (.iconst 1, 1) := by decide +kernel
theorem d70_49 : decode (byt 70) 49 = .ok (.iadd, 1) := by decide +kernel
theorem d70_50 : decode (byt 70) 50 = .ok (.invokestatic 185, 3) := by decide +kernel
theorem d70_53 : decode (byt 70) 53 = .ok (.l2i, 1) := by decide +kernel
theorem d70_54 : decode (byt 70) 54 = .ok (.iconst 1, 1) := by decide +kernel
theorem d70_55 : decode (byt 70) 55 = .ok (.isub, 1) := by decide +kernel
theorem d70_56 : decode (byt 70) 56 = .ok (.invokestatic 66, 3) := by decide +kernel
theorem d70_59 : decode (byt 70) 59 = .ok (.ifCond .ne 7, 3) := by decide +kernel
theorem d70_62 : decode (byt 70) 62 = .ok (.ldc2_w 169, 3) := by decide +kernel
theorem d70_65 : decode (byt 70) 65 = .ok (.lreturn, 1) := by decide +kernel
theorem d70_66 : decode (byt 70) 66 = .ok (.aload_n 0, 1) := by decide +kernel
theorem d70_67 : decode (byt 70) 67 = .ok (.getfield 45, 3) := by decide +kernel
theorem d70_70 : decode (byt 70) 70 = .ok (.aload 5, 2) := by decide +kernel
theorem d70_72 : decode (byt 70) 72 = .ok (.invokevirtual 143, 3) := by decide +kernel
theorem d70_75 : decode (byt 70) 75 = .ok (.aload_n 0, 1) := by decide +kernel
theorem d70_76 : decode (byt 70) 76 = .ok (.getfield 45, 3) := by decide +kernel
theorem d70_79 : decode (byt 70) 79 = .ok (.aload_n 0, 1) := by decide +kernel
theorem d70_80 : decode (byt 70) 80 = .ok (.getfield 62, 3) := by decide +kernel
theorem d70_83 : decode (byt 70) 83 = .ok (.iload_n 2, 1) := by decide +kernel
theorem d70_84 : decode (byt 70) 84 = .ok (.iload_n 3, 1) := by decide +kernel
theorem d70_85 : decode (byt 70) 85 = .ok (.invokevirtual 189, 3) := by decide +kernel
theorem d70_88 : decode (byt 70) 88 = .ok (.aload_n 0, 1) := by decide +kernel
theorem d70_89 : decode (byt 70) 89 = .ok (.getfield 62, 3) := by decide +kernel
theorem d70_92 : decode (byt 70) 92 = .ok (.iload 4, 2) := by decide +kernel
theorem d70_94 : decode (byt 70) 94 = .ok (.invokevirtual 182, 3) := by decide +kernel
theorem d70_97 : decode (byt 70) 97 = .ok (.lreturn, 1) := by decide +kernel
set_option maxRecDepth 20000 in
theorem S70_0 : (∀ (ls : Lo) (st : List Value) (h : Hp) (Q : Option Value → Hp → Prop)  (i : Nat), Wp 70 0 (some (.ref i) :: ls) (st) h Q ↔ Wp 70 1 (some (.ref i) :: ls) (.ref i :: st) h Q) ∧
  (∀ (ls : Lo) (st : List Value) (h : Hp) (Q : Option Value → Hp → Prop) (l0 : Option Value) (x : Int32), Wp 70 1 (l0 :: some (.int x) :: ls) (st) h Q ↔ Wp 70 2 (l0 :: some (.int x) :: ls) (.int x :: st) h Q) ∧
  (∀ (ls : Lo) (st : List Value) (n sl : Nat) (C Z : Nat → Nat) (I : Nat → Nat → Int32) (L : Nat → Nat → Int64) (R : Nat → Nat → Nat) (Q : Option Value → Hp → Prop) (x0 : Int32) (i : Nat), C i = 10 → (Wp 70 2 (ls) (.int x0 :: .ref i :: st) (n, sl, C, Z, I, L, R) Q ↔ (wsum st ≤ 8 ∧ Call 92 [some (.ref i), some (.int x0)] (n, sl, C, Z, I, L, R) 70 5 ls st Q))) ∧
  (∀ (ls : Lo) (st : List Value) (h : Hp) (Q : Option Value → Hp → Prop) (l0 l1 l2 l3 l4 l5 : Option Value) (i : Nat), Wp 70 5 (l0 :: l1 :: l2 :: l3 :: l4 :: l5 :: ls) (.ref i :: st) h Q ↔ Wp 70 7 (l0 :: l1 :: l2 :: l3 :: clr l4 :: some (.ref i) :: ls) (st) h Q) ∧
  (∀ (ls : Lo) (st : List Value) (h : Hp) (Q : Option Value → Hp → Prop) (l0 l1 l2 l3 l4 : Option Value) (i : Nat), Wp 70 7 (l0 :: l1 :: l2 :: l3 :: l4 :: some (.ref i) :: ls) (st) h Q ↔ Wp 70 9 (l0 :: l1 :: l2 :: l3 :: l4 :: some (.ref i) :: ls) (.ref i :: st) h Q) ∧
  (∀ (ls : Lo) (st : List Value) (h : Hp) (Q : Option Value → Hp → Prop) (i : Nat), Wp 70 9 (ls) (.ref i :: st) h Q ↔ Br 70 39 12 ls st h Q (i = 0)) ∧
  (∀ (ls : Lo) (st : List Value) (h : Hp) (Q : Option Value → Hp → Prop) (l0 l1 l2 l3 l4 : Option Value) (i : Nat), Wp 70 12 (l0 :: l1 :: l2 :: l3 :: l4 :: some (.ref i) :: ls) (st) h Q ↔ Wp 70 14 (l0 :: l1 :: l2 :: l3 :: l4 :: some (.ref i) :: ls) (.ref i :: st) h Q) ∧
  (∀ (ls : Lo) (st : List Value) (n sl : Nat) (C Z : Nat → Nat) (I : Nat → Nat → Int32) (L : Nat → Nat → Int64) (R : Nat → Nat → Nat) (Q : Option Value → Hp → Prop) (i : Nat), Wp 70 14 (ls) (.ref i :: st) (n, sl, C, Z, I, L, R) Q ↔ (inG 7 (C i) = true ∧ Wp 70 17 (ls) (.int (if isa (C i) 1 = true then 1 else 0) :: st) (n, sl, C, Z, I, L, R) Q)) ∧
  (∀ (ls : Lo) (st : List Value) (h : Hp) (Q : Option Value → Hp → Prop) (x : Int32), Wp 70 17 (ls) (.int x :: st) h Q ↔ Br 70 39 20 ls st h Q (¬ x = 0)) ∧
  (∀ (ls : Lo) (st : List Value) (h : Hp) (Q : Option Value → Hp → Prop) (l0 l1 : Option Value) (x : Int32), Wp 70 20 (l0 :: l1 :: some (.int x) :: ls) (st) h Q ↔ Wp 70 21 (l0 :: l1 :: some (.int x) :: ls) (.int x :: st) h Q) ∧
  (∀ (ls : Lo) (st : List Value) (h : Hp) (Q : Option Value → Hp → Prop), Wp 70 21 (ls) (st) h Q ↔ Wp 70 22 (ls) (.int (0) :: st) h Q) ∧
  (∀ (ls : Lo) (st : List Value) (h : Hp) (Q : Option Value → Hp → Prop), Wp 70 22 (ls) (st) h Q ↔ Wp 70 23 (ls) (.int (5) :: st) h Q) ∧
  (∀ (ls : Lo) (st : List Value) (h : Hp) (Q : Option Value → Hp → Prop) (x0 : Int32) (x1 : Int32) (x2 : Int32), Wp 70 23 (ls) (.int x2 :: .int x1 :: .int x0 :: st) h Q ↔ (wsum st ≤ 8 ∧ Call 87 [some (.int x0), some (.int x1), some (.int x2)] h 70 26 ls st Q)) ∧
  (∀ (ls : Lo) (st : List Value) (h : Hp) (Q : Option Value → Hp → Prop) (x : Int32), Wp 70 26 (ls) (.int x :: st) h Q ↔ Br 70 39 29 ls st h Q (x = 0)) ∧
  (∀ (ls : Lo) (st : List Value) (h : Hp) (Q : Option Value → Hp → Prop) (l0 l1 l2 l3 : Option Value) (x : Int32), Wp 70 29 (l0 :: l1 :: l2 :: l3 :: some (.int x) :: ls) (st) h Q ↔ Wp 70 31 (l0 :: l1 :: l2 :: l3 :: some (.int x) :: ls) (.int x :: st) h Q) ∧
  (∀ (ls : Lo) (st : List Value) (h : Hp) (Q : Option Value → Hp → Prop), Wp 70 31 (ls) (st) h Q ↔ Wp 70 32 (ls) (.int (0) :: st) h Q) ∧
  (∀ (ls : Lo) (st : List Value) (h : Hp) (Q : Option Value → Hp → Prop), Wp 70 32 (ls) (st) h Q ↔ Wp 70 33 (ls) (.int (1) :: st) h Q) ∧
  (∀ (ls : Lo) (st : List Value) (h : Hp) (Q : Option Value → Hp → Prop) (x0 : Int32) (x1 : Int32) (x2 : Int32), Wp 70 33 (ls) (.int x2 :: .int x1 :: .int x0 :: st) h Q ↔ (wsum st ≤ 8 ∧ Call 87 [some (.int x0), some (.int x1), some (.int x2)] h 70 36 ls st Q)) ∧
  (∀ (ls : Lo) (st : List Value) (h : Hp) (Q : Option Value → Hp → Prop) (x : Int32), Wp 70 36 (ls) (.int x :: st) h Q ↔ Br 70 43 39 ls st h Q (¬ x = 0)) ∧
  (∀ (ls : Lo) (st : List Value) (h : Hp) (Q : Option Value → Hp → Prop), Wp 70 39 (ls) (st) h Q ↔ Wp 70 42 (ls) (.long (-4611686018427387904) :: st) h Q) ∧
  (∀ (ls : Lo) (h : Hp) (Q : Option Value → Hp → Prop) (a : Int64), Wp 70 42 (ls) ([.long a]) h Q ↔ Q (some (.long a)) h) ∧
  (∀ (ls : Lo) (st : List Value) (h : Hp) (Q : Option Value → Hp → Prop) (l0 l1 l2 : Option Value) (x : Int32), Wp 70 43 (l0 :: l1 :: l2 :: some (.int x) :: ls) (st) h Q ↔ Wp 70 44 (l0 :: l1 :: l2 :: some (.int x) :: ls) (.int x :: st) h Q) ∧
  (∀ (ls : Lo) (st : List Value) (h : Hp) (Q : Option Value → Hp → Prop), Wp 70 44 (ls) (st) h Q ↔ Wp 70 45 (ls) (.int (0) :: st) h Q) ∧
  (∀ (ls : Lo) (st : List Value) (h : Hp) (Q : Option Value → Hp → Prop), Wp 70 45 (ls) (st) h Q ↔ Wp 70 47 (ls) (.int (7) :: st) h Q) ∧
  (∀ (ls : Lo) (st : List Value) (h : Hp) (Q : Option Value → Hp → Prop) (l0 l1 : Option Value) (x : Int32), Wp 70 47 (l0 :: l1 :: some (.int x) :: ls) (st) h Q ↔ Wp 70 48 (l0 :: l1 :: some (.int x) :: ls) (.int x :: st) h Q) := ⟨by intro ls st h Q i; exact e_aload_n d70_0 rfl,
  by intro ls st h Q l0 x; exact e_iload_n d70_1 rfl,
  by intro ls st n sl C Z I L R Q x0 i hh; exact e_iv (k2 := 92) (c := 10) (as := [.int x0]) d70_2 rfl (by decide) rfl rfl (by decide +kernel) (Nat.le_of_ble_eq_true rfl) rfl hh,
  by intro ls st h Q l0 l1 l2 l3 l4 l5 i; exact e_astore d70_5 rfl,
  by intro ls st h Q l0 l1 l2 l3 l4 i; exact e_aload d70_7 rfl,
  by intro ls st h Q i; exact e_ifnull d70_9 (by decide),
  by intro ls st h Q l0 l1 l2 l3 l4 i; exact e_aload d70_12 rfl,
  by intro ls st n sl C Z I L R Q i; exact e_io (p := 294) (c := 1) d70_14 rfl (by decide),
  by intro ls st h Q x; exact e_if d70_17 (by decide) c_ne,
  by intro ls st h Q l0 l1 x; exact e_iload_n d70_20 rfl,
  by intro ls st h Q; exact e_iconst d70_21 rfl,
  by intro ls st h Q; exact e_iconst d70_22 rfl,
  by intro ls st h Q x0 x1 x2; exact e_is (k2 := 87) (as := [.int x0, .int x1, .int x2]) d70_23 rfl (by decide) rfl rfl (by decide +kernel) (Nat.le_of_ble_eq_true rfl) rfl,
  by intro ls st h Q x; exact e_if d70_26 (by decide) c_eq,
  by intro ls st h Q l0 l1 l2 l3 x; exact e_iload d70_29 rfl,
  by intro ls st h Q; exact e_iconst d70_31 rfl,
  by intro ls st h Q; exact e_iconst d70_32 rfl,
  by intro ls st h Q x0 x1 x2; exact e_is (k2 := 87) (as := [.int x0, .int x1, .int x2]) d70_33 rfl (by decide) rfl rfl (by decide +kernel) (Nat.le_of_ble_eq_true rfl) rfl,
  by intro ls st h Q x; exact e_if d70_36 (by decide) c_ne,
  by intro ls st h Q; exact e_ldc2 (p := 544) d70_39 rfl,
  by intros; exact e_rL d70_42 rfl,
  by intro ls st h Q l0 l1 l2 x; exact e_iload_n d70_43 rfl,
  by intro ls st h Q; exact e_iconst d70_44 rfl,
  by intro ls st h Q; exact e_bipush d70_45 rfl,
  by intro ls st h Q l0 l1 x; exact e_iload_n d70_47 rfl⟩
set_option maxRecDepth 20000 in
theorem S70_1 : (∀ (ls : Lo) (st : List Value) (h : Hp) (Q : Option Value → Hp → Prop), Wp 70 48 (ls) (st) h Q ↔ Wp 70 49 (ls) (.int (1) :: st) h Q) ∧
  (∀ (ls : Lo) (st : List Value) (h : Hp) (Q : Option Value → Hp → Prop) (x y : Int32), Wp 70 49 (ls) (.int y :: .int x :: st) h Q ↔ Wp 70 50 (ls) (.int (x + y) :: st) h Q) ∧
  (∀ (ls : Lo) (st : List Value) (h : Hp) (Q : Option Value → Hp → Prop) (x0 : Int32) (x1 : Int32), Wp 70 50 (ls) (.int x1 :: .int x0 :: st) h Q ↔ (wsum st ≤ 8 ∧ Call 89 [some (.int x0), some (.int x1), none, none, none] h 70 53 ls st Q)) ∧
  (∀ (ls : Lo) (st : List Value) (h : Hp) (Q : Option Value → Hp → Prop) (a : Int64), Wp 70 53 (ls) (.long a :: st) h Q ↔ Wp 70 54 (ls) (.int a.toInt32 :: st) h Q) ∧
  (∀ (ls : Lo) (st : List Value) (h : Hp) (Q : Option Value → Hp → Prop), Wp 70 54 (ls) (st) h Q ↔ Wp 70 55 (ls) (.int (1) :: st) h Q) ∧
  (∀ (ls : Lo) (st : List Value) (h : Hp) (Q : Option Value → Hp → Prop) (x y : Int32), Wp 70 55 (ls) (.int y :: .int x :: st) h Q ↔ Wp 70 56 (ls) (.int (x - y) :: st) h Q) ∧
  (∀ (ls : Lo) (st : List Value) (h : Hp) (Q : Option Value → Hp → Prop) (x0 : Int32) (x1 : Int32) (x2 : Int32), Wp 70 56 (ls) (.int x2 :: .int x1 :: .int x0 :: st) h Q ↔ (wsum st ≤ 8 ∧ Call 87 [some (.int x0), some (.int x1), some (.int x2)] h 70 59 ls st Q)) ∧
  (∀ (ls : Lo) (st : List Value) (h : Hp) (Q : Option Value → Hp → Prop) (x : Int32), Wp 70 59 (ls) (.int x :: st) h Q ↔ Br 70 66 62 ls st h Q (¬ x = 0)) ∧
  (∀ (ls : Lo) (st : List Value) (h : Hp) (Q : Option Value → Hp → Prop), Wp 70 62 (ls) (st) h Q ↔ Wp 70 65 (ls) (.long (-4611686018427387904) :: st) h Q) ∧
  (∀ (ls : Lo) (h : Hp) (Q : Option Value → Hp → Prop) (a : Int64), Wp 70 65 (ls) ([.long a]) h Q ↔ Q (some (.long a)) h) ∧
  (∀ (ls : Lo) (st : List Value) (h : Hp) (Q : Option Value → Hp → Prop)  (i : Nat), Wp 70 66 (some (.ref i) :: ls) (st) h Q ↔ Wp 70 67 (some (.ref i) :: ls) (.ref i :: st) h Q) ∧
  (∀ (ls : Lo) (st : List Value) (n sl : Nat) (C Z : Nat → Nat) (I : Nat → Nat → Int32) (L : Nat → Nat → Int64) (R : Nat → Nat → Nat) (Q : Option Value → Hp → Prop) (i : Nat), Wp 70 67 (ls) (.ref i :: st) (n, sl, C, Z, I, L, R) Q ↔ (C i = 10 ∧ Wp 70 70 (ls) (.ref (R i 7) :: st) (n, sl, C, Z, I, L, R) Q)) ∧
  (∀ (ls : Lo) (st : List Value) (h : Hp) (Q : Option Value → Hp → Prop) (l0 l1 l2 l3 l4 : Option Value) (i : Nat), Wp 70 70 (l0 :: l1 :: l2 :: l3 :: l4 :: some (.ref i) :: ls) (st) h Q ↔ Wp 70 72 (l0 :: l1 :: l2 :: l3 :: l4 :: some (.ref i) :: ls) (.ref i :: st) h Q) ∧
  (∀ (ls : Lo) (st : List Value) (n sl : Nat) (C Z : Nat → Nat) (I : Nat → Nat → Int32) (L : Nat → Nat → Int64) (R : Nat → Nat → Nat) (Q : Option Value → Hp → Prop) (x0 : Nat) (i : Nat), C i = 4 → (Wp 70 72 (ls) (.ref x0 :: .ref i :: st) (n, sl, C, Z, I, L, R) Q ↔ (wsum st ≤ 8 ∧ Call 17 [some (.ref i), some (.ref x0), none] (n, sl, C, Z, I, L, R) 70 75 ls st Q))) ∧
  (∀ (ls : Lo) (st : List Value) (h : Hp) (Q : Option Value → Hp → Prop)  (i : Nat), Wp 70 75 (some (.ref i) :: ls) (st) h Q ↔ Wp 70 76 (some (.ref i) :: ls) (.ref i :: st) h Q) ∧
  (∀ (ls : Lo) (st : List Value) (n sl : Nat) (C Z : Nat → Nat) (I : Nat → Nat → Int32) (L : Nat → Nat → Int64) (R : Nat → Nat → Nat) (Q : Option Value → Hp → Prop) (i : Nat), Wp 70 76 (ls) (.ref i :: st) (n, sl, C, Z, I, L, R) Q ↔ (C i = 10 ∧ Wp 70 79 (ls) (.ref (R i 7) :: st) (n, sl, C, Z, I, L, R) Q)) ∧
  (∀ (ls : Lo) (st : List Value) (h : Hp) (Q : Option Value → Hp → Prop)  (i : Nat), Wp 70 79 (some (.ref i) :: ls) (st) h Q ↔ Wp 70 80 (some (.ref i) :: ls) (.ref i :: st) h Q) ∧
  (∀ (ls : Lo) (st : List Value) (n sl : Nat) (C Z : Nat → Nat) (I : Nat → Nat → Int32) (L : Nat → Nat → Int64) (R : Nat → Nat → Nat) (Q : Option Value → Hp → Prop) (i : Nat), Wp 70 80 (ls) (.ref i :: st) (n, sl, C, Z, I, L, R) Q ↔ (C i = 10 ∧ Wp 70 83 (ls) (.ref (R i 10) :: st) (n, sl, C, Z, I, L, R) Q)) ∧
  (∀ (ls : Lo) (st : List Value) (h : Hp) (Q : Option Value → Hp → Prop) (l0 l1 : Option Value) (x : Int32), Wp 70 83 (l0 :: l1 :: some (.int x) :: ls) (st) h Q ↔ Wp 70 84 (l0 :: l1 :: some (.int x) :: ls) (.int x :: st) h Q) ∧
  (∀ (ls : Lo) (st : List Value) (h : Hp) (Q : Option Value → Hp → Prop) (l0 l1 l2 : Option Value) (x : Int32), Wp 70 84 (l0 :: l1 :: l2 :: some (.int x) :: ls) (st) h Q ↔ Wp 70 85 (l0 :: l1 :: l2 :: some (.int x) :: ls) (.int x :: st) h Q) ∧
  (∀ (ls : Lo) (st : List Value) (n sl : Nat) (C Z : Nat → Nat) (I : Nat → Nat → Int32) (L : Nat → Nat → Int64) (R : Nat → Nat → Nat) (Q : Option Value → Hp → Prop) (x0 : Nat) (x1 : Int32) (x2 : Int32) (i : Nat), C i = 4 → (Wp 70 85 (ls) (.int x2 :: .int x1 :: .ref x0 :: .ref i :: st) (n, sl, C, Z, I, L, R) Q ↔ (wsum st ≤ 8 ∧ Call 32 [some (.ref i), some (.ref x0), some (.int x1), some (.int x2), none, none, none, none, none] (n, sl, C, Z, I, L, R) 70 88 ls st Q))) ∧
  (∀ (ls : Lo) (st : List Value) (h : Hp) (Q : Option Value → Hp → Prop)  (i : Nat), Wp 70 88 (some (.ref i) :: ls) (st) h Q ↔ Wp 70 89 (some (.ref i) :: ls) (.ref i :: st) h Q) ∧
  (∀ (ls : Lo) (st : List Value) (n sl : Nat) (C Z : Nat → Nat) (I : Nat → Nat → Int32) (L : Nat → Nat → Int64) (R : Nat → Nat → Nat) (Q : Option Value → Hp → Prop) (i : Nat), Wp 70 89 (ls) (.ref i :: st) (n, sl, C, Z, I, L, R) Q ↔ (C i = 10 ∧ Wp 70 92 (ls) (.ref (R i 10) :: st) (n, sl, C, Z, I, L, R) Q)) ∧
  (∀ (ls : Lo) (st : List Value) (h : Hp) (Q : Option Value → Hp → Prop) (l0 l1 l2 l3 : Option Value) (x : Int32), Wp 70 92 (l0 :: l1 :: l2 :: l3 :: some (.int x) :: ls) (st) h Q ↔ Wp 70 94 (l0 :: l1 :: l2 :: l3 :: some (.int x) :: ls) (.int x :: st) h Q) ∧
  (∀ (ls : Lo) (st : List Value) (n sl : Nat) (C Z : Nat → Nat) (I : Nat → Nat → Int32) (L : Nat → Nat → Int64) (R : Nat → Nat → Nat) (Q : Option Value → Hp → Prop) (x0 : Int32) (i : Nat), C i = 3 → (Wp 70 94 (ls) (.int x0 :: .ref i :: st) (n, sl, C, Z, I, L, R) Q ↔ (wsum st ≤ 8 ∧ Call 14 [some (.ref i), some (.int x0)] (n, sl, C, Z, I, L, R) 70 97 ls st Q))) := ⟨by intro ls st h Q; exact e_iconst d70_48 rfl,
  by intro ls st h Q x y; exact e_iadd d70_49,
  by intro ls st h Q x0 x1; exact e_is (k2 := 89) (as := [.int x0, .int x1]) d70_50 rfl (by decide) rfl rfl (by decide +kernel) (Nat.le_of_ble_eq_true rfl) rfl,
  by intro ls st h Q a; exact e_l2i d70_53,
  by intro ls st h Q; exact e_iconst d70_54 rfl,
  by intro ls st h Q x y; exact e_isub d70_55,
  by intro ls st h Q x0 x1 x2; exact e_is (k2 := 87) (as := [.int x0, .int x1, .int x2]) d70_56 rfl (by decide) rfl rfl (by decide +kernel) (Nat.le_of_ble_eq_true rfl) rfl,
  by intro ls st h Q x; exact e_if d70_59 (by decide) c_ne,
  by intro ls st h Q; exact e_ldc2 (p := 544) d70_62 rfl,
  by intros; exact e_rL d70_65 rfl,
  by intro ls st h Q i; exact e_aload_n d70_66 rfl,
  by intro ls st n sl C Z I L R Q i; exact e_get (g := 9) (s := 7) (ty := 2) d70_67 rfl rfl (inG_ne (by decide)),
  by intro ls st h Q l0 l1 l2 l3 l4 i; exact e_aload d70_70 rfl,
  by intro ls st n sl C Z I L R Q x0 i hh; exact e_iv (k2 := 17) (c := 4) (as := [.ref x0]) d70_72 rfl (by decide) rfl rfl (by decide +kernel) (Nat.le_of_ble_eq_true rfl) rfl hh,
  by intro ls st h Q i; exact e_aload_n d70_75 rfl,
  by intro ls st n sl C Z I L R Q i; exact e_get (g := 9) (s := 7) (ty := 2) d70_76 rfl rfl (inG_ne (by decide)),
  by intro ls st h Q i; exact e_aload_n d70_79 rfl,
  by intro ls st n sl C Z I L R Q i; exact e_get (g := 9) (s := 10) (ty := 2) d70_80 rfl rfl (inG_ne (by decide)),
  by intro ls st h Q l0 l1 x; exact e_iload_n d70_83 rfl,
  by intro ls st h Q l0 l1 l2 x; exact e_iload_n d70_84 rfl,
  by intro ls st n sl C Z I L R Q x0 x1 x2 i hh; exact e_iv (k2 := 32) (c := 4) (as := [.ref x0, .int x1, .int x2]) d70_85 rfl (by decide) rfl rfl (by decide +kernel) (Nat.le_of_ble_eq_true rfl) rfl hh,
  by intro ls st h Q i; exact e_aload_n d70_88 rfl,
  by intro ls st n sl C Z I L R Q i; exact e_get (g := 9) (s := 10) (ty := 2) d70_89 rfl rfl (inG_ne (by decide)),
  by intro ls st h Q l0 l1 l2 l3 x; exact e_iload d70_92 rfl,
  by intro ls st n sl C Z I L R Q x0 i hh; exact e_iv (k2 := 14) (c := 3) (as := [.int x0]) d70_94 rfl (by decide) rfl rfl (by decide +kernel) (Nat.le_of_ble_eq_true rfl) rfl hh⟩
theorem S70_2 : ∀ (ls : Lo) (h : Hp) (Q : Option Value → Hp → Prop) (a : Int64), Wp 70 97 (ls) ([.long a]) h Q ↔ Q (some (.long a)) h := by intros; exact e_rL d70_97 rfl
theorem d71_0 : decode (byt 71) 0 = .ok (.aload_n 0, 1) := by decide +kernel
theorem d71_1 : decode (byt 71) 1 = .ok (.iload_n 1, 1) := by decide +kernel
theorem d71_2 : decode (byt 71) 2 = .ok (.invokevirtual 84, 3) := by decide +kernel
theorem d71_5 : decode (byt 71) 5 = .ok (.astore_n 3, 1) := by decide +kernel
theorem d71_6 : decode (byt 71) 6 = .ok (.aload_n 0, 1) := by decide +kernel
theorem d71_7 : decode (byt 71) 7 = .ok (.iload_n 2, 1) := by decide +kernel
theorem d71_8 : decode (byt 71) 8 = .ok (.invokevirtual 84, 3) := by decide +kernel
theorem d71_11 : decode (byt 71) 11 = .ok (.astore 4, 2) := by decide +kernel
theorem d71_13 : decode (byt 71) 13 = .ok (.aload_n 3, 1) := by decide +kernel
theorem d71_14 : decode (byt 71) 14 = .ok (.ifnull 8, 3) := by decide +kernel
theorem d71_17 : decode (byt 71) 17 = .ok (.aload 4, 2) := by decide +kernel
theorem d71_19 : decode (byt 71) 19 = .ok (.ifnonnull 6, 3) := by decide +kernel
theorem d71_22 : decode (byt 71) 22 = .ok (.bipush (-2), 2) := by decide +kernel
theorem d71_24 : decode (byt 71) 24 = .ok (.ireturn, 1) := by decide +kernel
theorem d71_25 : decode (byt 71) 25 = .ok (.aload_n 3, 1) := by decide +kernel
theorem d71_26 : decode (byt 71) 26 = .ok (.instanceof 74, 3) := by decide +kernel
theorem d71_29 : decode (byt 71) 29 = .ok (.aload 4, 2) := by decide +kernel
theorem d71_31 : decode (byt 71) 31 = .ok (.instanceof 74, 3) := by decide +kernel
theorem d71_34 : decode (byt 71) 34 = .ok (.if_icmp .eq 5, 3) := by decide +kernel
theorem d71_37 : decode (byt 71) 37 = .ok (.iconst 0, 1) := by decide +kernel
theorem d71_38 : decode (byt 71) 38 = .ok (.ireturn, 1) := by decide +kernel
theorem d71_39 : decode (byt 71) 39 = .ok (.aload_n 0, 1) := by decide +kernel
theorem d71_40 : decode (byt 71) 40 = .ok (.getfield 45, 3) := by decide +kernel
theorem d71_43 : decode (byt 71) 43 = .ok (.aload_n 3, 1) := by decide +kernel
theorem d71_44 : decode (byt 71) 44 = .ok (.invokevirtual 143, 3) := by decide +kernel
theorem d71_47 : decode (byt 71) 47 = .ok (.aload_n 0, 1) := by decide +kernel
theorem d71_48 : decode (byt 71) 48 = .ok (.getfield 49, 3) := by decide +kernel
theorem d71_51 : decode (byt 71) 51 = .ok (.aload 4, 2) := by decide +kernel
theorem d71_53 : decode (byt 71) 53 = .ok (.invokevirtual 143, 3) := by decide +kernel
theorem d71_56 : decode (byt 71) 56 = .ok (.aload_n 0, 1) := by decide +kernel
theorem d71_57 : decode (byt 71) 57 = .ok (.getfield 45, 3) := by decide +kernel
theorem d71_60 : decode (byt 71) 60 = .ok (.aload_n 0, 1) := by decide +kernel
theorem d71_61 : decode (byt 71) 61 = .ok (.getfield 49, 3) := by decide +kernel
theorem d71_64 : decode (byt 71) 64 = .ok (.invokevirtual 193, 3) := by decide +kernel
theorem d71_67 : decode (byt 71) 67 = .ok (.ifCond .eq 7, 3) := by decide +kernel
theorem d71_70 : decode (byt 71) 70 = .ok (.iconst 1, 1) := by decide +kernel
theorem d71_71 : decode (byt 71) 71 = .ok (.goto 4, 3) := by decide +kernel
theorem d71_74 : decode (byt 71) 74 = .ok (.iconst 0, 1) := by decide +kernel
theorem d71_75 : decode (byt 71) 75 = .ok (.ireturn, 1) := by decide +kernel
set_option maxRecDepth 20000 in
theorem S71_0 : (∀ (ls : Lo) (st : List Value) (h : Hp) (Q : Option Value → Hp → Prop)  (i : Nat), Wp 71 0 (some (.ref i) :: ls) (st) h Q ↔ Wp 71 1 (some (.ref i) :: ls) (.ref i :: st) h Q) ∧
  (∀ (ls : Lo) (st : List Value) (h : Hp) (Q : Option Value → Hp → Prop) (l0 : Option Value) (x : Int32), Wp 71 1 (l0 :: some (.int x) :: ls) (st) h Q ↔ Wp 71 2 (l0 :: some (.int x) :: ls) (.int x :: st) h Q) ∧
  (∀ (ls : Lo) (st : List Value) (n sl : Nat) (C Z : Nat → Nat) (I : Nat → Nat → Int32) (L : Nat → Nat → Int64) (R : Nat → Nat → Nat) (Q : Option Value → Hp → Prop) (x0 : Int32) (i : Nat), C i = 10 → (Wp 71 2 (ls) (.int x0 :: .ref i :: st) (n, sl, C, Z, I, L, R) Q ↔ (wsum st ≤ 8 ∧ Call 92 [some (.ref i), some (.int x0)] (n, sl, C, Z, I, L, R) 71 5 ls st Q))) ∧
  (∀ (ls : Lo) (st : List Value) (h : Hp) (Q : Option Value → Hp → Prop) (l0 l1 l2 l3 : Option Value) (i : Nat), Wp 71 5 (l0 :: l1 :: l2 :: l3 :: ls) (.ref i :: st) h Q ↔ Wp 71 6 (l0 :: l1 :: clr l2 :: some (.ref i) :: ls) (st) h Q) ∧
  (∀ (ls : Lo) (st : List Value) (h : Hp) (Q : Option Value → Hp → Prop)  (i : Nat), Wp 71 6 (some (.ref i) :: ls) (st) h Q ↔ Wp 71 7 (some (.ref i) :: ls) (.ref i :: st) h Q) ∧
  (∀ (ls : Lo) (st : List Value) (h : Hp) (Q : Option Value → Hp → Prop) (l0 l1 : Option Value) (x : Int32), Wp 71 7 (l0 :: l1 :: some (.int x) :: ls) (st) h Q ↔ Wp 71 8 (l0 :: l1 :: some (.int x) :: ls) (.int x :: st) h Q) ∧
  (∀ (ls : Lo) (st : List Value) (n sl : Nat) (C Z : Nat → Nat) (I : Nat → Nat → Int32) (L : Nat → Nat → Int64) (R : Nat → Nat → Nat) (Q : Option Value → Hp → Prop) (x0 : Int32) (i : Nat), C i = 10 → (Wp 71 8 (ls) (.int x0 :: .ref i :: st) (n, sl, C, Z, I, L, R) Q ↔ (wsum st ≤ 8 ∧ Call 92 [some (.ref i), some (.int x0)] (n, sl, C, Z, I, L, R) 71 11 ls st Q))) ∧
  (∀ (ls : Lo) (st : List Value) (h : Hp) (Q : Option Value → Hp → Prop) (l0 l1 l2 l3 l4 : Option Value) (i : Nat), Wp 71 11 (l0 :: l1 :: l2 :: l3 :: l4 :: ls) (.ref i :: st) h Q ↔ Wp 71 13 (l0 :: l1 :: l2 :: clr l3 :: some (.ref i) :: ls) (st) h Q) ∧
  (∀ (ls : Lo) (st : List Value) (h : Hp) (Q : Option Value → Hp → Prop) (l0 l1 l2 : Option Value) (i : Nat), Wp 71 13 (l0 :: l1 :: l2 :: some (.ref i) :: ls) (st) h Q ↔ Wp 71 14 (l0 :: l1 :: l2 :: some (.ref i) :: ls) (.ref i :: st) h Q) ∧
  (∀ (ls : Lo) (st : List Value) (h : Hp) (Q : Option Value → Hp → Prop) (i : Nat), Wp 71 14 (ls) (.ref i :: st) h Q ↔ Br 71 22 17 ls st h Q (i = 0)) ∧
  (∀ (ls : Lo) (st : List Value) (h : Hp) (Q : Option Value → Hp → Prop) (l0 l1 l2 l3 : Option Value) (i : Nat), Wp 71 17 (l0 :: l1 :: l2 :: l3 :: some (.ref i) :: ls) (st) h Q ↔ Wp 71 19 (l0 :: l1 :: l2 :: l3 :: some (.ref i) :: ls) (.ref i :: st) h Q) ∧
  (∀ (ls : Lo) (st : List Value) (h : Hp) (Q : Option Value → Hp → Prop) (i : Nat), Wp 71 19 (ls) (.ref i :: st) h Q ↔ Br 71 25 22 ls st h Q (¬ i = 0)) ∧
  (∀ (ls : Lo) (st : List Value) (h : Hp) (Q : Option Value → Hp → Prop), Wp 71 22 (ls) (st) h Q ↔ Wp 71 24 (ls) (.int (-2) :: st) h Q) ∧
  (∀ (ls : Lo) (h : Hp) (Q : Option Value → Hp → Prop) (x : Int32), Wp 71 24 (ls) ([.int x]) h Q ↔ Q (some (.int x)) h) ∧
  (∀ (ls : Lo) (st : List Value) (h : Hp) (Q : Option Value → Hp → Prop) (l0 l1 l2 : Option Value) (i : Nat), Wp 71 25 (l0 :: l1 :: l2 :: some (.ref i) :: ls) (st) h Q ↔ Wp 71 26 (l0 :: l1 :: l2 :: some (.ref i) :: ls) (.ref i :: st) h Q) ∧
  (∀ (ls : Lo) (st : List Value) (n sl : Nat) (C Z : Nat → Nat) (I : Nat → Nat → Int32) (L : Nat → Nat → Int64) (R : Nat → Nat → Nat) (Q : Option Value → Hp → Prop) (i : Nat), Wp 71 26 (ls) (.ref i :: st) (n, sl, C, Z, I, L, R) Q ↔ (inG 7 (C i) = true ∧ Wp 71 29 (ls) (.int (if isa (C i) 1 = true then 1 else 0) :: st) (n, sl, C, Z, I, L, R) Q)) ∧
  (∀ (ls : Lo) (st : List Value) (h : Hp) (Q : Option Value → Hp → Prop) (l0 l1 l2 l3 : Option Value) (i : Nat), Wp 71 29 (l0 :: l1 :: l2 :: l3 :: some (.ref i) :: ls) (st) h Q ↔ Wp 71 31 (l0 :: l1 :: l2 :: l3 :: some (.ref i) :: ls) (.ref i :: st) h Q) ∧
  (∀ (ls : Lo) (st : List Value) (n sl : Nat) (C Z : Nat → Nat) (I : Nat → Nat → Int32) (L : Nat → Nat → Int64) (R : Nat → Nat → Nat) (Q : Option Value → Hp → Prop) (i : Nat), Wp 71 31 (ls) (.ref i :: st) (n, sl, C, Z, I, L, R) Q ↔ (inG 7 (C i) = true ∧ Wp 71 34 (ls) (.int (if isa (C i) 1 = true then 1 else 0) :: st) (n, sl, C, Z, I, L, R) Q)) ∧
  (∀ (ls : Lo) (st : List Value) (h : Hp) (Q : Option Value → Hp → Prop) (x y : Int32), Wp 71 34 (ls) (.int y :: .int x :: st) h Q ↔ Br 71 39 37 ls st h Q (x = y)) ∧
  (∀ (ls : Lo) (st : List Value) (h : Hp) (Q : Option Value → Hp → Prop), Wp 71 37 (ls) (st) h Q ↔ Wp 71 38 (ls) (.int (0) :: st) h Q) ∧
  (∀ (ls : Lo) (h : Hp) (Q : Option Value → Hp → Prop) (x : Int32), Wp 71 38 (ls) ([.int x]) h Q ↔ Q (some (.int x)) h) ∧
  (∀ (ls : Lo) (st : List Value) (h : Hp) (Q : Option Value → Hp → Prop)  (i : Nat), Wp 71 39 (some (.ref i) :: ls) (st) h Q ↔ Wp 71 40 (some (.ref i) :: ls) (.ref i :: st) h Q) ∧
  (∀ (ls : Lo) (st : List Value) (n sl : Nat) (C Z : Nat → Nat) (I : Nat → Nat → Int32) (L : Nat → Nat → Int64) (R : Nat → Nat → Nat) (Q : Option Value → Hp → Prop) (i : Nat), Wp 71 40 (ls) (.ref i :: st) (n, sl, C, Z, I, L, R) Q ↔ (C i = 10 ∧ Wp 71 43 (ls) (.ref (R i 7) :: st) (n, sl, C, Z, I, L, R) Q)) ∧
  (∀ (ls : Lo) (st : List Value) (h : Hp) (Q : Option Value → Hp → Prop) (l0 l1 l2 : Option Value) (i : Nat), Wp 71 43 (l0 :: l1 :: l2 :: some (.ref i) :: ls) (st) h Q ↔ Wp 71 44 (l0 :: l1 :: l2 :: some (.ref i) :: ls) (.ref i :: st) h Q) ∧
  (∀ (ls : Lo) (st : List Value) (n sl : Nat) (C Z : Nat → Nat) (I : Nat → Nat → Int32) (L : Nat → Nat → Int64) (R : Nat → Nat → Nat) (Q : Option Value → Hp → Prop) (x0 : Nat) (i : Nat), C i = 4 → (Wp 71 44 (ls) (.ref x0 :: .ref i :: st) (n, sl, C, Z, I, L, R) Q ↔ (wsum st ≤ 8 ∧ Call 17 [some (.ref i), some (.ref x0), none] (n, sl, C, Z, I, L, R) 71 47 ls st Q))) := ⟨by intro ls st h Q i; exact e_aload_n d71_0 rfl,
  by intro ls st h Q l0 x; exact e_iload_n d71_1 rfl,
  by intro ls st n sl C Z I L R Q x0 i hh; exact e_iv (k2 := 92) (c := 10) (as := [.int x0]) d71_2 rfl (by decide) rfl rfl (by decide +kernel) (Nat.le_of_ble_eq_true rfl) rfl hh,
  by intro ls st h Q l0 l1 l2 l3 i; exact e_astore_n d71_5 rfl,
  by intro ls st h Q i; exact e_aload_n d71_6 rfl,
  by intro ls st h Q l0 l1 x; exact e_iload_n d71_7 rfl,
  by intro ls st n sl C Z I L R Q x0 i hh; exact e_iv (k2 := 92) (c := 10) (as := [.int x0]) d71_8 rfl (by decide) rfl rfl (by decide +kernel) (Nat.le_of_ble_eq_true rfl) rfl hh,
  by intro ls st h Q l0 l1 l2 l3 l4 i; exact e_astore d71_11 rfl,
  by intro ls st h Q l0 l1 l2 i; exact e_aload_n d71_13 rfl,
  by intro ls st h Q i; exact e_ifnull d71_14 (by decide),
  by intro ls st h Q l0 l1 l2 l3 i; exact e_aload d71_17 rfl,
  by intro ls st h Q i; exact e_ifnn d71_19 (by decide),
  by intro ls st h Q; exact e_bipush d71_22 rfl,
  by intros; exact e_rI (p := True) d71_24 rfl,
  by intro ls st h Q l0 l1 l2 i; exact e_aload_n d71_25 rfl,
  by intro ls st n sl C Z I L R Q i; exact e_io (p := 294) (c := 1) d71_26 rfl (by decide),
  by intro ls st h Q l0 l1 l2 l3 i; exact e_aload d71_29 rfl,
  by intro ls st n sl C Z I L R Q i; exact e_io (p := 294) (c := 1) d71_31 rfl (by decide),
  by intro ls st h Q x y; exact e_ic d71_34 (by decide) c_eq,
  by intro ls st h Q; exact e_iconst d71_37 rfl,
  by intros; exact e_rI (p := True) d71_38 rfl,
  by intro ls st h Q i; exact e_aload_n d71_39 rfl,
  by intro ls st n sl C Z I L R Q i; exact e_get (g := 9) (s := 7) (ty := 2) d71_40 rfl rfl (inG_ne (by decide)),
  by intro ls st h Q l0 l1 l2 i; exact e_aload_n d71_43 rfl,
  by intro ls st n sl C Z I L R Q x0 i hh; exact e_iv (k2 := 17) (c := 4) (as := [.ref x0]) d71_44 rfl (by decide) rfl rfl (by decide +kernel) (Nat.le_of_ble_eq_true rfl) rfl hh⟩
set_option maxRecDepth 20000 in
theorem S71_1 : (∀ (ls : Lo) (st : List Value) (h : Hp) (Q : Option Value → Hp → Prop)  (i : Nat), Wp 71 47 (some (.ref i) :: ls) (st) h Q ↔ Wp 71 48 (some (.ref i) :: ls) (.ref i :: st) h Q) ∧
  (∀ (ls : Lo) (st : List Value) (n sl : Nat) (C Z : Nat → Nat) (I : Nat → Nat → Int32) (L : Nat → Nat → Int64) (R : Nat → Nat → Nat) (Q : Option Value → Hp → Prop) (i : Nat), Wp 71 48 (ls) (.ref i :: st) (n, sl, C, Z, I, L, R) Q ↔ (C i = 10 ∧ Wp 71 51 (ls) (.ref (R i 8) :: st) (n, sl, C, Z, I, L, R) Q)) ∧
  (∀ (ls : Lo) (st : List Value) (h : Hp) (Q : Option Value → Hp → Prop) (l0 l1 l2 l3 : Option Value) (i : Nat), Wp 71 51 (l0 :: l1 :: l2 :: l3 :: some (.ref i) :: ls) (st) h Q ↔ Wp 71 53 (l0 :: l1 :: l2 :: l3 :: some (.ref i) :: ls) (.ref i :: st) h Q) ∧
  (∀ (ls : Lo) (st : List Value) (n sl : Nat) (C Z : Nat → Nat) (I : Nat → Nat → Int32) (L : Nat → Nat → Int64) (R : Nat → Nat → Nat) (Q : Option Value → Hp → Prop) (x0 : Nat) (i : Nat), C i = 4 → (Wp 71 53 (ls) (.ref x0 :: .ref i :: st) (n, sl, C, Z, I, L, R) Q ↔ (wsum st ≤ 8 ∧ Call 17 [some (.ref i), some (.ref x0), none] (n, sl, C, Z, I, L, R) 71 56 ls st Q))) ∧
  (∀ (ls : Lo) (st : List Value) (h : Hp) (Q : Option Value → Hp → Prop)  (i : Nat), Wp 71 56 (some (.ref i) :: ls) (st) h Q ↔ Wp 71 57 (some (.ref i) :: ls) (.ref i :: st) h Q) ∧
  (∀ (ls : Lo) (st : List Value) (n sl : Nat) (C Z : Nat → Nat) (I : Nat → Nat → Int32) (L : Nat → Nat → Int64) (R : Nat → Nat → Nat) (Q : Option Value → Hp → Prop) (i : Nat), Wp 71 57 (ls) (.ref i :: st) (n, sl, C, Z, I, L, R) Q ↔ (C i = 10 ∧ Wp 71 60 (ls) (.ref (R i 7) :: st) (n, sl, C, Z, I, L, R) Q)) ∧
  (∀ (ls : Lo) (st : List Value) (h : Hp) (Q : Option Value → Hp → Prop)  (i : Nat), Wp 71 60 (some (.ref i) :: ls) (st) h Q ↔ Wp 71 61 (some (.ref i) :: ls) (.ref i :: st) h Q) ∧
  (∀ (ls : Lo) (st : List Value) (n sl : Nat) (C Z : Nat → Nat) (I : Nat → Nat → Int32) (L : Nat → Nat → Int64) (R : Nat → Nat → Nat) (Q : Option Value → Hp → Prop) (i : Nat), Wp 71 61 (ls) (.ref i :: st) (n, sl, C, Z, I, L, R) Q ↔ (C i = 10 ∧ Wp 71 64 (ls) (.ref (R i 8) :: st) (n, sl, C, Z, I, L, R) Q)) ∧
  (∀ (ls : Lo) (st : List Value) (n sl : Nat) (C Z : Nat → Nat) (I : Nat → Nat → Int32) (L : Nat → Nat → Int64) (R : Nat → Nat → Nat) (Q : Option Value → Hp → Prop) (x0 : Nat) (i : Nat), C i = 4 → (Wp 71 64 (ls) (.ref x0 :: .ref i :: st) (n, sl, C, Z, I, L, R) Q ↔ (wsum st ≤ 8 ∧ Call 33 [some (.ref i), some (.ref x0), none, none, none, none, none] (n, sl, C, Z, I, L, R) 71 67 ls st Q))) ∧
  (∀ (ls : Lo) (st : List Value) (h : Hp) (Q : Option Value → Hp → Prop) (x : Int32), Wp 71 67 (ls) (.int x :: st) h Q ↔ Br 71 74 70 ls st h Q (x = 0)) ∧
  (∀ (ls : Lo) (st : List Value) (h : Hp) (Q : Option Value → Hp → Prop), Wp 71 70 (ls) (st) h Q ↔ Wp 71 71 (ls) (.int (1) :: st) h Q) ∧
  (∀ (ls : Lo) (st : List Value) (h : Hp) (Q : Option Value → Hp → Prop), Wp 71 71 (ls) (st) h Q ↔ Wp 71 75 (ls) (st) h Q) ∧
  (∀ (ls : Lo) (st : List Value) (h : Hp) (Q : Option Value → Hp → Prop), Wp 71 74 (ls) (st) h Q ↔ Wp 71 75 (ls) (.int (0) :: st) h Q) ∧
  (∀ (ls : Lo) (h : Hp) (Q : Option Value → Hp → Prop) (x : Int32), Wp 71 75 (ls) ([.int x]) h Q ↔ Q (some (.int x)) h) := ⟨by intro ls st h Q i; exact e_aload_n d71_47 rfl,
  by intro ls st n sl C Z I L R Q i; exact e_get (g := 9) (s := 8) (ty := 2) d71_48 rfl rfl (inG_ne (by decide)),
  by intro ls st h Q l0 l1 l2 l3 i; exact e_aload d71_51 rfl,
  by intro ls st n sl C Z I L R Q x0 i hh; exact e_iv (k2 := 17) (c := 4) (as := [.ref x0]) d71_53 rfl (by decide) rfl rfl (by decide +kernel) (Nat.le_of_ble_eq_true rfl) rfl hh,
  by intro ls st h Q i; exact e_aload_n d71_56 rfl,
  by intro ls st n sl C Z I L R Q i; exact e_get (g := 9) (s := 7) (ty := 2) d71_57 rfl rfl (inG_ne (by decide)),
  by intro ls st h Q i; exact e_aload_n d71_60 rfl,
  by intro ls st n sl C Z I L R Q i; exact e_get (g := 9) (s := 8) (ty := 2) d71_61 rfl rfl (inG_ne (by decide)),
  by intro ls st n sl C Z I L R Q x0 i hh; exact e_iv (k2 := 33) (c := 4) (as := [.ref x0]) d71_64 rfl (by decide) rfl rfl (by decide +kernel) (Nat.le_of_ble_eq_true rfl) rfl hh,
  by intro ls st h Q x; exact e_if d71_67 (by decide) c_eq,
  by intro ls st h Q; exact e_iconst d71_70 rfl,
  by intro ls st h Q; exact e_goto d71_71 (by decide),
  by intro ls st h Q; exact e_iconst d71_74 rfl,
  by intros; exact e_rI (p := True) d71_75 rfl⟩
theorem d72_0 : decode (byt 72) 0 = .ok (.aload_n 0, 1) := by decide +kernel
theorem d72_1 : decode (byt 72) 1 = .ok (.iload_n 1, 1) := by decide +kernel
theorem d72_2 : decode (byt 72) 2 = .ok (.invokevirtual 84, 3) := by decide +kernel
theorem d72_5 : decode (byt 72) 5 = .ok (.astore 7, 2) := by decide +kernel
theorem d72_7 : decode (byt 72) 7 = .ok (.aload 7, 2) := by decide +kernel
theorem d72_9 : decode (byt 72) 9 = .ok (.ifnull 29, 3) := by decide +kernel
theorem d72_12 : decode (byt 72) 12 = .ok (.iload 5, 2) := by decide +kernel
theorem d72_14 : decode (byt 72) 14 = .ok (.iconst 0, 1) := by decide +kernel
theorem d72_15 : decode (byt 72) 15 = .ok (.aload 7, 2) := by decide +kernel
theorem d72_17 : decode (byt 72) 17 = .ok (.getfield 106, 3) := by decide +kernel
theorem d72_20 : decode (byt 72) 20 = .ok (.iconst 1, 1) := by decide +kernel
theorem d72_21 : decode (byt 72) 21 = .ok (.isub, 1) := by decide +kernel
theorem d72_22 : decode (byt 72) 22 = .ok (.invokestatic 66, 3) := by decide +kernel
theorem d72_25 : decode (byt 72) 25 = .ok (.ifCond .eq 13, 3) := by decide +kernel
theorem d72_28 : decode (byt 72) 28 = .ok (.iload 6, 2) := by decide +kernel
theorem d72_30 : decode (byt 72) 30 = .ok (.iconst 0, 1) := by decide +kernel
theorem d72_31 : decode (byt 72) 31 = .ok (.iconst 1, 1) := by decide +kernel
theorem d72_32 : decode (byt 72) 32 = .ok (.invokestatic 66, 3) := by decide +kernel
theorem d72_35 : decode (byt 72) 35 = .ok (.ifCond .ne 7, 3) := by decide +kernel
theorem d72_38 : decode (byt 72) 38 = .ok (.ldc2_w 169, 3) := by decide +kernel
theorem d72_41 : decode (byt 72) 41 = .ok (.lreturn, 1) := by decide +kernel
theorem d72_42 : decode (byt 72) 42 = .ok (.aload 7, 2) := by decide +kernel
theorem d72_44 : decode (byt 72) 44 = .ok (.getfield 106, 3) := by decide +kernel
theorem d72_47 : decode (byt 72) 47 = .ok (.iload_n 2, 1) := by decide +kernel
theorem d72_48 : decode (byt 72) 48 = .ok (.iload_n 3, 1) := by decide +kernel
theorem d72_49 : decode (byt 72) 49 = .ok (.iload 4, 2) := by decide +kernel
theorem d72_51 : decode (byt 72) 51 = .ok (.bipush 100, 2) := by decide +kernel
theorem d72_53 : decode (byt 72) 53 = .ok (.invokestatic 197, 3) := by decide +kernel
theorem d72_56 : decode (byt 72) 56 = .ok (.ifCond .ne 7, 3) := by decide +kernel
theorem d72_59 : decode (byt 72) 59 = .ok (.ldc2_w 169, 3) := by decide +kernel
theorem d72_62 : decode (byt 72) 62 = .ok (.lreturn, 1) := by decide +kernel
theorem d72_63 : decode (byt 72) 63 = .ok (.aload_n 0, 1) := by decide +kernel
theorem d72_64 : decode (byt 72) 64 = .ok (.getfield 45, 3) := by decide +kernel
theorem d72_67 : decode (byt 72) 67 = .ok (.aload 7, 2) := by decide +kernel
theorem d72_69 : decode (byt 72) 69 = .ok (.invokevirtual 143, 3) := by decide +kernel
theorem d72_72 : decode (byt 72) 72 = .ok (.aload_n 0, 1) := by decide +kernel
theorem d72_73 : decode (byt 72) 73 = .ok (.getfield 45, 3) := by decide +kernel
theorem d72_76 : decode (byt 72) 76 = .ok (.invokevirtual 155, 3) := by decide +kernel
theorem d72_79 : decode (byt 72) 79 = .ok (.aload 7, 2) := by decide +kernel
theorem d72_81 : decode (byt 72) 81 = .ok (.getfield 106, 3) := by decide +kernel
theorem d72_84 : decode (byt 72) 84 = .ok (.if_icmp .eq 7, 3) := by decide +kernel
theorem d72_87 : decode (byt 72) 87 = .ok (.ldc2_w 169, 3) := by decide +kernel
theorem d72_90 : decode (byt 72) 90 = .ok (.lreturn, 1) := by decide +kernel
theorem d72_91 : decode (byt 72) 91 = .ok (.aload_n 0, 1) := by decide +kernel
theorem d72_92 : decode (byt 72) 92 = .ok (.getfield 45, 3) := by decide +kernel
theorem d72_95 : decode (byt 72) 95 = .ok (.aload_n 0, 1) := by decide +kernel
theorem d72_96 : decode (byt 72) 96 = .ok (.getfield 62, 3) := by decide +kernel
theorem d72_99 : decode (byt 72) 99 = .ok (.iload_n 2, 1) := by decide +kernel
theorem d72_100 : decode (byt 72) 100 = .ok (.iload_n 3, 1) := by decide +kernel
theorem d72_101 : decode (byt 72) 101 = .ok (.iload 4, 2) := by decide +kernel
theorem d72_103 : decode (byt 72) 103 = .ok (.iload 5, 2) := by decide +kernel
theorem d72_105 : decode (byt 72) 105 = .ok (.invokevirtual 201, 3) := by decide +kernel
theorem d72_108 : decode (byt 72) 108 = .ok (.aload_n 0, 1) := by decide +kernel
theorem d72_109 : decode (byt 72) 109 = .ok (.getfield 62, 3) := by decide +kernel
theorem d72_112 : decode (byt 72) 112 = .ok (.iload 6, 2) := by decide +kernel
theorem d72_114 : decode (byt 72) 114 = .ok (.invokevirtual 182, 3) := by decide +kernel
theorem d72_117 : decode (byt 72) 117 = .ok (.lreturn, 1) := by decide +kernel
set_option maxRecDepth 20000 in
theorem S72_0 : (∀ (ls : Lo) (st : List Value) (h : Hp) (Q : Option Value → Hp → Prop)  (i : Nat), Wp 72 0 (some (.ref i) :: ls) (st) h Q ↔ Wp 72 1 (some (.ref i) :: ls) (.ref i :: st) h Q) ∧
  (∀ (ls : Lo) (st : List Value) (h : Hp) (Q : Option Value → Hp → Prop) (l0 : Option Value) (x : Int32), Wp 72 1 (l0 :: some (.int x) :: ls) (st) h Q ↔ Wp 72 2 (l0 :: some (.int x) :: ls) (.int x :: st) h Q) ∧
  (∀ (ls : Lo) (st : List Value) (n sl : Nat) (C Z : Nat → Nat) (I : Nat → Nat → Int32) (L : Nat → Nat → Int64) (R : Nat → Nat → Nat) (Q : Option Value → Hp → Prop) (x0 : Int32) (i : Nat), C i = 10 → (Wp 72 2 (ls) (.int x0 :: .ref i :: st) (n, sl, C, Z, I, L, R) Q ↔ (wsum st ≤ 8 ∧ Call 92 [some (.ref i), some (.int x0)] (n, sl, C, Z, I, L, R) 72 5 ls st Q))) ∧
  (∀ (ls : Lo) (st : List Value) (h : Hp) (Q : Option Value → Hp → Prop) (l0 l1 l2 l3 l4 l5 l6 l7 : Option Value) (i : Nat), Wp 72 5 (l0 :: l1 :: l2 :: l3 :: l4 :: l5 :: l6 :: l7 :: ls) (.ref i :: st) h Q ↔ Wp 72 7 (l0 :: l1 :: l2 :: l3 :: l4 :: l5 :: clr l6 :: some (.ref i) :: ls) (st) h Q) ∧
  (∀ (ls : Lo) (st : List Value) (h : Hp) (Q : Option Value → Hp → Prop) (l0 l1 l2 l3 l4 l5 l6 : Option Value) (i : Nat), Wp 72 7 (l0 :: l1 :: l2 :: l3 :: l4 :: l5 :: l6 :: some (.ref i) :: ls) (st) h Q ↔ Wp 72 9 (l0 :: l1 :: l2 :: l3 :: l4 :: l5 :: l6 :: some (.ref i) :: ls) (.ref i :: st) h Q) ∧
  (∀ (ls : Lo) (st : List Value) (h : Hp) (Q : Option Value → Hp → Prop) (i : Nat), Wp 72 9 (ls) (.ref i :: st) h Q ↔ Br 72 38 12 ls st h Q (i = 0)) ∧
  (∀ (ls : Lo) (st : List Value) (h : Hp) (Q : Option Value → Hp → Prop) (l0 l1 l2 l3 l4 : Option Value) (x : Int32), Wp 72 12 (l0 :: l1 :: l2 :: l3 :: l4 :: some (.int x) :: ls) (st) h Q ↔ Wp 72 14 (l0 :: l1 :: l2 :: l3 :: l4 :: some (.int x) :: ls) (.int x :: st) h Q) ∧
  (∀ (ls : Lo) (st : List Value) (h : Hp) (Q : Option Value → Hp → Prop), Wp 72 14 (ls) (st) h Q ↔ Wp 72 15 (ls) (.int (0) :: st) h Q) ∧
  (∀ (ls : Lo) (st : List Value) (h : Hp) (Q : Option Value → Hp → Prop) (l0 l1 l2 l3 l4 l5 l6 : Option Value) (i : Nat), Wp 72 15 (l0 :: l1 :: l2 :: l3 :: l4 :: l5 :: l6 :: some (.ref i) :: ls) (st) h Q ↔ Wp 72 17 (l0 :: l1 :: l2 :: l3 :: l4 :: l5 :: l6 :: some (.ref i) :: ls) (.ref i :: st) h Q) ∧
  (∀ (ls : Lo) (st : List Value) (n sl : Nat) (C Z : Nat → Nat) (I : Nat → Nat → Int32) (L : Nat → Nat → Int64) (R : Nat → Nat → Nat) (Q : Option Value → Hp → Prop) (i : Nat), Wp 72 17 (ls) (.ref i :: st) (n, sl, C, Z, I, L, R) Q ↔ (inG 7 (C i) = true ∧ Wp 72 20 (ls) (.int (I i 1) :: st) (n, sl, C, Z, I, L, R) Q)) ∧
  (∀ (ls : Lo) (st : List Value) (h : Hp) (Q : Option Value → Hp → Prop), Wp 72 20 (ls) (st) h Q ↔ Wp 72 21 (ls) (.int (1) :: st) h Q) ∧
  (∀ (ls : Lo) (st : List Value) (h : Hp) (Q : Option Value → Hp → Prop) (x y : Int32), Wp 72 21 (ls) (.int y :: .int x :: st) h Q ↔ Wp 72 22 (ls) (.int (x - y) :: st) h Q) ∧
  (∀ (ls : Lo) (st : List Value) (h : Hp) (Q : Option Value → Hp → Prop) (x0 : Int32) (x1 : Int32) (x2 : Int32), Wp 72 22 (ls) (.int x2 :: .int x1 :: .int x0 :: st) h Q ↔ (wsum st ≤ 8 ∧ Call 87 [some (.int x0), some (.int x1), some (.int x2)] h 72 25 ls st Q)) ∧
  (∀ (ls : Lo) (st : List Value) (h : Hp) (Q : Option Value → Hp → Prop) (x : Int32), Wp 72 25 (ls) (.int x :: st) h Q ↔ Br 72 38 28 ls st h Q (x = 0)) ∧
  (∀ (ls : Lo) (st : List Value) (h : Hp) (Q : Option Value → Hp → Prop) (l0 l1 l2 l3 l4 l5 : Option Value) (x : Int32), Wp 72 28 (l0 :: l1 :: l2 :: l3 :: l4 :: l5 :: some (.int x) :: ls) (st) h Q ↔ Wp 72 30 (l0 :: l1 :: l2 :: l3 :: l4 :: l5 :: some (.int x) :: ls) (.int x :: st) h Q) ∧
  (∀ (ls : Lo) (st : List Value) (h : Hp) (Q : Option Value → Hp → Prop), Wp 72 30 (ls) (st) h Q ↔ Wp 72 31 (ls) (.int (0) :: st) h Q) ∧
  (∀ (ls : Lo) (st : List Value) (h : Hp) (Q : Option Value → Hp → Prop), Wp 72 31 (ls) (st) h Q ↔ Wp 72 32 (ls) (.int (1) :: st) h Q) ∧
  (∀ (ls : Lo) (st : List Value) (h : Hp) (Q : Option Value → Hp → Prop) (x0 : Int32) (x1 : Int32) (x2 : Int32), Wp 72 32 (ls) (.int x2 :: .int x1 :: .int x0 :: st) h Q ↔ (wsum st ≤ 8 ∧ Call 87 [some (.int x0), some (.int x1), some (.int x2)] h 72 35 ls st Q)) ∧
  (∀ (ls : Lo) (st : List Value) (h : Hp) (Q : Option Value → Hp → Prop) (x : Int32), Wp 72 35 (ls) (.int x :: st) h Q ↔ Br 72 42 38 ls st h Q (¬ x = 0)) ∧
  (∀ (ls : Lo) (st : List Value) (h : Hp) (Q : Option Value → Hp → Prop), Wp 72 38 (ls) (st) h Q ↔ Wp 72 41 (ls) (.long (-4611686018427387904) :: st) h Q) ∧
  (∀ (ls : Lo) (h : Hp) (Q : Option Value → Hp → Prop) (a : Int64), Wp 72 41 (ls) ([.long a]) h Q ↔ Q (some (.long a)) h) ∧
  (∀ (ls : Lo) (st : List Value) (h : Hp) (Q : Option Value → Hp → Prop) (l0 l1 l2 l3 l4 l5 l6 : Option Value) (i : Nat), Wp 72 42 (l0 :: l1 :: l2 :: l3 :: l4 :: l5 :: l6 :: some (.ref i) :: ls) (st) h Q ↔ Wp 72 44 (l0 :: l1 :: l2 :: l3 :: l4 :: l5 :: l6 :: some (.ref i) :: ls) (.ref i :: st) h Q) ∧
  (∀ (ls : Lo) (st : List Value) (n sl : Nat) (C Z : Nat → Nat) (I : Nat → Nat → Int32) (L : Nat → Nat → Int64) (R : Nat → Nat → Nat) (Q : Option Value → Hp → Prop) (i : Nat), Wp 72 44 (ls) (.ref i :: st) (n, sl, C, Z, I, L, R) Q ↔ (inG 7 (C i) = true ∧ Wp 72 47 (ls) (.int (I i 1) :: st) (n, sl, C, Z, I, L, R) Q)) ∧
  (∀ (ls : Lo) (st : List Value) (h : Hp) (Q : Option Value → Hp → Prop) (l0 l1 : Option Value) (x : Int32), Wp 72 47 (l0 :: l1 :: some (.int x) :: ls) (st) h Q ↔ Wp 72 48 (l0 :: l1 :: some (.int x) :: ls) (.int x :: st) h Q) ∧
  (∀ (ls : Lo) (st : List Value) (h : Hp) (Q : Option Value → Hp → Prop) (l0 l1 l2 : Option Value) (x : Int32), Wp 72 48 (l0 :: l1 :: l2 :: some (.int x) :: ls) (st) h Q ↔ Wp 72 49 (l0 :: l1 :: l2 :: some (.int x) :: ls) (.int x :: st) h Q) := ⟨by intro ls st h Q i; exact e_aload_n d72_0 rfl,
  by intro ls st h Q l0 x; exact e_iload_n d72_1 rfl,
  by intro ls st n sl C Z I L R Q x0 i hh; exact e_iv (k2 := 92) (c := 10) (as := [.int x0]) d72_2 rfl (by decide) rfl rfl (by decide +kernel) (Nat.le_of_ble_eq_true rfl) rfl hh,
  by intro ls st h Q l0 l1 l2 l3 l4 l5 l6 l7 i; exact e_astore d72_5 rfl,
  by intro ls st h Q l0 l1 l2 l3 l4 l5 l6 i; exact e_aload d72_7 rfl,
  by intro ls st h Q i; exact e_ifnull d72_9 (by decide),
  by intro ls st h Q l0 l1 l2 l3 l4 x; exact e_iload d72_12 rfl,
  by intro ls st h Q; exact e_iconst d72_14 rfl,
  by intro ls st h Q l0 l1 l2 l3 l4 l5 l6 i; exact e_aload d72_15 rfl,
  by intro ls st n sl C Z I L R Q i; exact e_get (g := 7) (s := 1) (ty := 0) d72_17 rfl rfl rfl,
  by intro ls st h Q; exact e_iconst d72_20 rfl,
  by intro ls st h Q x y; exact e_isub d72_21,
  by intro ls st h Q x0 x1 x2; exact e_is (k2 := 87) (as := [.int x0, .int x1, .int x2]) d72_22 rfl (by decide) rfl rfl (by decide +kernel) (Nat.le_of_ble_eq_true rfl) rfl,
  by intro ls st h Q x; exact e_if d72_25 (by decide) c_eq,
  by intro ls st h Q l0 l1 l2 l3 l4 l5 x; exact e_iload d72_28 rfl,
  by intro ls st h Q; exact e_iconst d72_30 rfl,
  by intro ls st h Q; exact e_iconst d72_31 rfl,
  by intro ls st h Q x0 x1 x2; exact e_is (k2 := 87) (as := [.int x0, .int x1, .int x2]) d72_32 rfl (by decide) rfl rfl (by decide +kernel) (Nat.le_of_ble_eq_true rfl) rfl,
  by intro ls st h Q x; exact e_if d72_35 (by decide) c_ne,
  by intro ls st h Q; exact e_ldc2 (p := 544) d72_38 rfl,
  by intros; exact e_rL d72_41 rfl,
  by intro ls st h Q l0 l1 l2 l3 l4 l5 l6 i; exact e_aload d72_42 rfl,
  by intro ls st n sl C Z I L R Q i; exact e_get (g := 7) (s := 1) (ty := 0) d72_44 rfl rfl rfl,
  by intro ls st h Q l0 l1 x; exact e_iload_n d72_47 rfl,
  by intro ls st h Q l0 l1 l2 x; exact e_iload_n d72_48 rfl⟩
set_option maxRecDepth 20000 in
theorem S72_1 : (∀ (ls : Lo) (st : List Value) (h : Hp) (Q : Option Value → Hp → Prop) (l0 l1 l2 l3 : Option Value) (x : Int32), Wp 72 49 (l0 :: l1 :: l2 :: l3 :: some (.int x) :: ls) (st) h Q ↔ Wp 72 51 (l0 :: l1 :: l2 :: l3 :: some (.int x) :: ls) (.int x :: st) h Q) ∧
  (∀ (ls : Lo) (st : List Value) (h : Hp) (Q : Option Value → Hp → Prop), Wp 72 51 (ls) (st) h Q ↔ Wp 72 53 (ls) (.int (100) :: st) h Q) ∧
  (∀ (ls : Lo) (st : List Value) (h : Hp) (Q : Option Value → Hp → Prop) (x0 : Int32) (x1 : Int32) (x2 : Int32) (x3 : Int32) (x4 : Int32), Wp 72 53 (ls) (.int x4 :: .int x3 :: .int x2 :: .int x1 :: .int x0 :: st) h Q ↔ (wsum st ≤ 8 ∧ Call 88 [some (.int x0), some (.int x1), some (.int x2), some (.int x3), some (.int x4)] h 72 56 ls st Q)) ∧
  (∀ (ls : Lo) (st : List Value) (h : Hp) (Q : Option Value → Hp → Prop) (x : Int32), Wp 72 56 (ls) (.int x :: st) h Q ↔ Br 72 63 59 ls st h Q (¬ x = 0)) ∧
  (∀ (ls : Lo) (st : List Value) (h : Hp) (Q : Option Value → Hp → Prop), Wp 72 59 (ls) (st) h Q ↔ Wp 72 62 (ls) (.long (-4611686018427387904) :: st) h Q) ∧
  (∀ (ls : Lo) (h : Hp) (Q : Option Value → Hp → Prop) (a : Int64), Wp 72 62 (ls) ([.long a]) h Q ↔ Q (some (.long a)) h) ∧
  (∀ (ls : Lo) (st : List Value) (h : Hp) (Q : Option Value → Hp → Prop)  (i : Nat), Wp 72 63 (some (.ref i) :: ls) (st) h Q ↔ Wp 72 64 (some (.ref i) :: ls) (.ref i :: st) h Q) ∧
  (∀ (ls : Lo) (st : List Value) (n sl : Nat) (C Z : Nat → Nat) (I : Nat → Nat → Int32) (L : Nat → Nat → Int64) (R : Nat → Nat → Nat) (Q : Option Value → Hp → Prop) (i : Nat), Wp 72 64 (ls) (.ref i :: st) (n, sl, C, Z, I, L, R) Q ↔ (C i = 10 ∧ Wp 72 67 (ls) (.ref (R i 7) :: st) (n, sl, C, Z, I, L, R) Q)) ∧
  (∀ (ls : Lo) (st : List Value) (h : Hp) (Q : Option Value → Hp → Prop) (l0 l1 l2 l3 l4 l5 l6 : Option Value) (i : Nat), Wp 72 67 (l0 :: l1 :: l2 :: l3 :: l4 :: l5 :: l6 :: some (.ref i) :: ls) (st) h Q ↔ Wp 72 69 (l0 :: l1 :: l2 :: l3 :: l4 :: l5 :: l6 :: some (.ref i) :: ls) (.ref i :: st) h Q) ∧
  (∀ (ls : Lo) (st : List Value) (n sl : Nat) (C Z : Nat → Nat) (I : Nat → Nat → Int32) (L : Nat → Nat → Int64) (R : Nat → Nat → Nat) (Q : Option Value → Hp → Prop) (x0 : Nat) (i : Nat), C i = 4 → (Wp 72 69 (ls) (.ref x0 :: .ref i :: st) (n, sl, C, Z, I, L, R) Q ↔ (wsum st ≤ 8 ∧ Call 17 [some (.ref i), some (.ref x0), none] (n, sl, C, Z, I, L, R) 72 72 ls st Q))) ∧
  (∀ (ls : Lo) (st : List Value) (h : Hp) (Q : Option Value → Hp → Prop)  (i : Nat), Wp 72 72 (some (.ref i) :: ls) (st) h Q ↔ Wp 72 73 (some (.ref i) :: ls) (.ref i :: st) h Q) ∧
  (∀ (ls : Lo) (st : List Value) (n sl : Nat) (C Z : Nat → Nat) (I : Nat → Nat → Int32) (L : Nat → Nat → Int64) (R : Nat → Nat → Nat) (Q : Option Value → Hp → Prop) (i : Nat), Wp 72 73 (ls) (.ref i :: st) (n, sl, C, Z, I, L, R) Q ↔ (C i = 10 ∧ Wp 72 76 (ls) (.ref (R i 7) :: st) (n, sl, C, Z, I, L, R) Q)) ∧
  (∀ (ls : Lo) (st : List Value) (n sl : Nat) (C Z : Nat → Nat) (I : Nat → Nat → Int32) (L : Nat → Nat → Int64) (R : Nat → Nat → Nat) (Q : Option Value → Hp → Prop)  (i : Nat), C i = 4 → (Wp 72 76 (ls) (.ref i :: st) (n, sl, C, Z, I, L, R) Q ↔ (wsum st ≤ 8 ∧ Call 28 [some (.ref i)] (n, sl, C, Z, I, L, R) 72 79 ls st Q))) ∧
  (∀ (ls : Lo) (st : List Value) (h : Hp) (Q : Option Value → Hp → Prop) (l0 l1 l2 l3 l4 l5 l6 : Option Value) (i : Nat), Wp 72 79 (l0 :: l1 :: l2 :: l3 :: l4 :: l5 :: l6 :: some (.ref i) :: ls) (st) h Q ↔ Wp 72 81 (l0 :: l1 :: l2 :: l3 :: l4 :: l5 :: l6 :: some (.ref i) :: ls) (.ref i :: st) h Q) ∧
  (∀ (ls : Lo) (st : List Value) (n sl : Nat) (C Z : Nat → Nat) (I : Nat → Nat → Int32) (L : Nat → Nat → Int64) (R : Nat → Nat → Nat) (Q : Option Value → Hp → Prop) (i : Nat), Wp 72 81 (ls) (.ref i :: st) (n, sl, C, Z, I, L, R) Q ↔ (inG 7 (C i) = true ∧ Wp 72 84 (ls) (.int (I i 1) :: st) (n, sl, C, Z, I, L, R) Q)) ∧
  (∀ (ls : Lo) (st : List Value) (h : Hp) (Q : Option Value → Hp → Prop) (x y : Int32), Wp 72 84 (ls) (.int y :: .int x :: st) h Q ↔ Br 72 91 87 ls st h Q (x = y)) ∧
  (∀ (ls : Lo) (st : List Value) (h : Hp) (Q : Option Value → Hp → Prop), Wp 72 87 (ls) (st) h Q ↔ Wp 72 90 (ls) (.long (-4611686018427387904) :: st) h Q) ∧
  (∀ (ls : Lo) (h : Hp) (Q : Option Value → Hp → Prop) (a : Int64), Wp 72 90 (ls) ([.long a]) h Q ↔ Q (some (.long a)) h) ∧
  (∀ (ls : Lo) (st : List Value) (h : Hp) (Q : Option Value → Hp → Prop)  (i : Nat), Wp 72 91 (some (.ref i) :: ls) (st) h Q ↔ Wp 72 92 (some (.ref i) :: ls) (.ref i :: st) h Q) ∧
  (∀ (ls : Lo) (st : List Value) (n sl : Nat) (C Z : Nat → Nat) (I : Nat → Nat → Int32) (L : Nat → Nat → Int64) (R : Nat → Nat → Nat) (Q : Option Value → Hp → Prop) (i : Nat), Wp 72 92 (ls) (.ref i :: st) (n, sl, C, Z, I, L, R) Q ↔ (C i = 10 ∧ Wp 72 95 (ls) (.ref (R i 7) :: st) (n, sl, C, Z, I, L, R) Q)) ∧
  (∀ (ls : Lo) (st : List Value) (h : Hp) (Q : Option Value → Hp → Prop)  (i : Nat), Wp 72 95 (some (.ref i) :: ls) (st) h Q ↔ Wp 72 96 (some (.ref i) :: ls) (.ref i :: st) h Q) ∧
  (∀ (ls : Lo) (st : List Value) (n sl : Nat) (C Z : Nat → Nat) (I : Nat → Nat → Int32) (L : Nat → Nat → Int64) (R : Nat → Nat → Nat) (Q : Option Value → Hp → Prop) (i : Nat), Wp 72 96 (ls) (.ref i :: st) (n, sl, C, Z, I, L, R) Q ↔ (C i = 10 ∧ Wp 72 99 (ls) (.ref (R i 10) :: st) (n, sl, C, Z, I, L, R) Q)) ∧
  (∀ (ls : Lo) (st : List Value) (h : Hp) (Q : Option Value → Hp → Prop) (l0 l1 : Option Value) (x : Int32), Wp 72 99 (l0 :: l1 :: some (.int x) :: ls) (st) h Q ↔ Wp 72 100 (l0 :: l1 :: some (.int x) :: ls) (.int x :: st) h Q) ∧
  (∀ (ls : Lo) (st : List Value) (h : Hp) (Q : Option Value → Hp → Prop) (l0 l1 l2 : Option Value) (x : Int32), Wp 72 100 (l0 :: l1 :: l2 :: some (.int x) :: ls) (st) h Q ↔ Wp 72 101 (l0 :: l1 :: l2 :: some (.int x) :: ls) (.int x :: st) h Q) ∧
  (∀ (ls : Lo) (st : List Value) (h : Hp) (Q : Option Value → Hp → Prop) (l0 l1 l2 l3 : Option Value) (x : Int32), Wp 72 101 (l0 :: l1 :: l2 :: l3 :: some (.int x) :: ls) (st) h Q ↔ Wp 72 103 (l0 :: l1 :: l2 :: l3 :: some (.int x) :: ls) (.int x :: st) h Q) := ⟨by intro ls st h Q l0 l1 l2 l3 x; exact e_iload d72_49 rfl,
  by intro ls st h Q; exact e_bipush d72_51 rfl,
  by intro ls st h Q x0 x1 x2 x3 x4; exact e_is (k2 := 88) (as := [.int x0, .int x1, .int x2, .int x3, .int x4]) d72_53 rfl (by decide) rfl rfl (by decide +kernel) (Nat.le_of_ble_eq_true rfl) rfl,
  by intro ls st h Q x; exact e_if d72_56 (by decide) c_ne,
  by intro ls st h Q; exact e_ldc2 (p := 544) d72_59 rfl,
  by intros; exact e_rL d72_62 rfl,
  by intro ls st h Q i; exact e_aload_n d72_63 rfl,
  by intro ls st n sl C Z I L R Q i; exact e_get (g := 9) (s := 7) (ty := 2) d72_64 rfl rfl (inG_ne (by decide)),
  by intro ls st h Q l0 l1 l2 l3 l4 l5 l6 i; exact e_aload d72_67 rfl,
  by intro ls st n sl C Z I L R Q x0 i hh; exact e_iv (k2 := 17) (c := 4) (as := [.ref x0]) d72_69 rfl (by decide) rfl rfl (by decide +kernel) (Nat.le_of_ble_eq_true rfl) rfl hh,
  by intro ls st h Q i; exact e_aload_n d72_72 rfl,
  by intro ls st n sl C Z I L R Q i; exact e_get (g := 9) (s := 7) (ty := 2) d72_73 rfl rfl (inG_ne (by decide)),
  by intro ls st n sl C Z I L R Q i hh; exact e_iv (k2 := 28) (c := 4) (as := []) d72_76 rfl (by decide) rfl rfl (by decide +kernel) (Nat.le_of_ble_eq_true rfl) rfl hh,
  by intro ls st h Q l0 l1 l2 l3 l4 l5 l6 i; exact e_aload d72_79 rfl,
  by intro ls st n sl C Z I L R Q i; exact e_get (g := 7) (s := 1) (ty := 0) d72_81 rfl rfl rfl,
  by intro ls st h Q x y; exact e_ic d72_84 (by decide) c_eq,
  by intro ls st h Q; exact e_ldc2 (p := 544) d72_87 rfl,
  by intros; exact e_rL d72_90 rfl,
  by intro ls st h Q i; exact e_aload_n d72_91 rfl,
  by intro ls st n sl C Z I L R Q i; exact e_get (g := 9) (s := 7) (ty := 2) d72_92 rfl rfl (inG_ne (by decide)),
  by intro ls st h Q i; exact e_aload_n d72_95 rfl,
  by intro ls st n sl C Z I L R Q i; exact e_get (g := 9) (s := 10) (ty := 2) d72_96 rfl rfl (inG_ne (by decide)),
  by intro ls st h Q l0 l1 x; exact e_iload_n d72_99 rfl,
  by intro ls st h Q l0 l1 l2 x; exact e_iload_n d72_100 rfl,
  by intro ls st h Q l0 l1 l2 l3 x; exact e_iload d72_101 rfl⟩
set_option maxRecDepth 20000 in
theorem S72_2 : (∀ (ls : Lo) (st : List Value) (h : Hp) (Q : Option Value → Hp → Prop) (l0 l1 l2 l3 l4 : Option Value) (x : Int32), Wp 72 103 (l0 :: l1 :: l2 :: l3 :: l4 :: some (.int x) :: ls) (st) h Q ↔ Wp 72 105 (l0 :: l1 :: l2 :: l3 :: l4 :: some (.int x) :: ls) (.int x :: st) h Q) ∧
  (∀ (ls : Lo) (st : List Value) (n sl : Nat) (C Z : Nat → Nat) (I : Nat → Nat → Int32) (L : Nat → Nat → Int64) (R : Nat → Nat → Nat) (Q : Option Value → Hp → Prop) (x0 : Nat) (x1 : Int32) (x2 : Int32) (x3 : Int32) (x4 : Int32) (i : Nat), C i = 4 → (Wp 72 105 (ls) (.int x4 :: .int x3 :: .int x2 :: .int x1 :: .ref x0 :: .ref i :: st) (n, sl, C, Z, I, L, R) Q ↔ (wsum st ≤ 8 ∧ Call 34 [some (.ref i), some (.ref x0), some (.int x1), some (.int x2), some (.int x3), some (.int x4), none, none, none, none, none, none] (n, sl, C, Z, I, L, R) 72 108 ls st Q))) ∧
  (∀ (ls : Lo) (st : List Value) (h : Hp) (Q : Option Value → Hp → Prop)  (i : Nat), Wp 72 108 (some (.ref i) :: ls) (st) h Q ↔ Wp 72 109 (some (.ref i) :: ls) (.ref i :: st) h Q) ∧
  (∀ (ls : Lo) (st : List Value) (n sl : Nat) (C Z : Nat → Nat) (I : Nat → Nat → Int32) (L : Nat → Nat → Int64) (R : Nat → Nat → Nat) (Q : Option Value → Hp → Prop) (i : Nat), Wp 72 109 (ls) (.ref i :: st) (n, sl, C, Z, I, L, R) Q ↔ (C i = 10 ∧ Wp 72 112 (ls) (.ref (R i 10) :: st) (n, sl, C, Z, I, L, R) Q)) ∧
  (∀ (ls : Lo) (st : List Value) (h : Hp) (Q : Option Value → Hp → Prop) (l0 l1 l2 l3 l4 l5 : Option Value) (x : Int32), Wp 72 112 (l0 :: l1 :: l2 :: l3 :: l4 :: l5 :: some (.int x) :: ls) (st) h Q ↔ Wp 72 114 (l0 :: l1 :: l2 :: l3 :: l4 :: l5 :: some (.int x) :: ls) (.int x :: st) h Q) ∧
  (∀ (ls : Lo) (st : List Value) (n sl : Nat) (C Z : Nat → Nat) (I : Nat → Nat → Int32) (L : Nat → Nat → Int64) (R : Nat → Nat → Nat) (Q : Option Value → Hp → Prop) (x0 : Int32) (i : Nat), C i = 3 → (Wp 72 114 (ls) (.int x0 :: .ref i :: st) (n, sl, C, Z, I, L, R) Q ↔ (wsum st ≤ 8 ∧ Call 14 [some (.ref i), some (.int x0)] (n, sl, C, Z, I, L, R) 72 117 ls st Q))) ∧
  (∀ (ls : Lo) (h : Hp) (Q : Option Value → Hp → Prop) (a : Int64), Wp 72 117 (ls) ([.long a]) h Q ↔ Q (some (.long a)) h) := ⟨by intro ls st h Q l0 l1 l2 l3 l4 x; exact e_iload d72_103 rfl,
  by intro ls st n sl C Z I L R Q x0 x1 x2 x3 x4 i hh; exact e_iv (k2 := 34) (c := 4) (as := [.ref x0, .int x1, .int x2, .int x3, .int x4]) d72_105 rfl (by decide) rfl rfl (by decide +kernel) (Nat.le_of_ble_eq_true rfl) rfl hh,
  by intro ls st h Q i; exact e_aload_n d72_108 rfl,
  by intro ls st n sl C Z I L R Q i; exact e_get (g := 9) (s := 10) (ty := 2) d72_109 rfl rfl (inG_ne (by decide)),
  by intro ls st h Q l0 l1 l2 l3 l4 l5 x; exact e_iload d72_112 rfl,
  by intro ls st n sl C Z I L R Q x0 i hh; exact e_iv (k2 := 14) (c := 3) (as := [.int x0]) d72_114 rfl (by decide) rfl rfl (by decide +kernel) (Nat.le_of_ble_eq_true rfl) rfl hh,
  by intros; exact e_rL d72_117 rfl⟩
theorem d73_0 : decode (byt 73) 0 = .ok (.aload_n 0, 1) := by decide +kernel
theorem d73_1 : decode (byt 73) 1 = .ok (.iload_n 1, 1) := by decide +kernel
theorem d73_2 : decode (byt 73) 2 = .ok (.invokevirtual 84, 3) := by decide +kernel
theorem d73_5 : decode (byt 73) 5 = .ok (.astore 5, 2) := by decide +kernel
theorem d73_7 : decode (byt 73) 7 = .ok (.aload 5, 2) := by decide +kernel
theorem d73_9 : decode (byt 73) 9 = .ok (.ifnull 28, 3) := by decide +kernel
theorem d73_12 : decode (byt 73) 12 = .ok (.aload 5, 2) := by decide +kernel
theorem d73_14 : decode (byt 73) 14 = .ok (.instanceof 74, 3) := by decide +kernel
theorem d73_17 : decode (byt 73) 17 = .ok (.ifCond .ne 20, 3) := by decide +kernel
theorem d73_20 : decode (byt 73) 20 = .ok (.aload 5, 2) := by decide +kernel
theorem d73_22 : decode (byt 73) 22 = .ok (.getfield 106, 3) := by decide +kernel
theorem d73_25 : decode (byt 73) 25 = .ok (.iload_n 2, 1) := by decide +kernel
theorem d73_26 : decode (byt 73) 26 = .ok (.iload_n 3, 1) := by decide +kernel
theorem d73_27 : decode (byt 73) 27 = .ok (.iload 4, 2) := by decide +kernel
theorem d73_29 : decode (byt 73) 29 = .ok (.bipush 9, 2) := by decide +kernel
theorem d73_31 : decode (byt 73) 31 = .ok (.invokestatic 197, 3) := by decide +kernel
theorem d73_34 : decode (byt 73) 34 = .ok (.ifCond .ne 6, 3) := by decide +kernel
theorem d73_37 : decode (byt 73) 37 = .ok (.bipush (-2), 2) := by decide +kernel
theorem d73_39 : decode (byt 73) 39 = .ok (.ireturn, 1) := by decide +kernel
theorem d73_40 : decode (byt 73) 40 = .ok (.aload_n 0, 1) := by decide +kernel
theorem d73_41 : decode (byt 73) 41 = .ok (.getfield 45, 3) := by decide +kernel
theorem d73_44 : decode (byt 73) 44 = .ok (.aload 5, 2) := by decide +kernel
theorem d73_46 : decode (byt 73) 46 = .ok (.invokevirtual 143, 3) := by decide +kernel
theorem d73_49 : decode (byt 73) 49 = .ok (.aload_n 0, 1) := by decide +kernel
theorem d73_50 : decode (byt 73) 50 = .ok (.getfield 45, 3) := by decide +kernel
theorem d73_53 : decode (byt 73) 53 = .ok (.iload_n 2, 1) := by decide +kernel
theorem d73_54 : decode (byt 73) 54 = .ok (.iload_n 3, 1) := by decide +kernel
theorem d73_55 : decode (byt 73) 55 = .ok (.iload 4, 2) := by decide +kernel
theorem d73_57 : decode (byt 73) 57 = .ok (.invokevirtual 205, 3) := by decide +kernel
theorem d73_60 : decode (byt 73) 60 = .ok (.ireturn, 1) := by decide +kernel
set_option maxRecDepth 20000 in
theorem S73_0 : (∀ (ls : Lo) (st : List Value) (h : Hp) (Q : Option Value → Hp → Prop)  (i : Nat), Wp 73 0 (some (.ref i) :: ls) (st) h Q ↔ Wp 73 1 (some (.ref i) :: ls) (.ref i :: st) h Q) ∧
  (∀ (ls : Lo) (st : List Value) (h : Hp) (Q : Option Value → Hp → Prop) (l0 : Option Value) (x : Int32), Wp 73 1 (l0 :: some (.int x) :: ls) (st) h Q ↔ Wp 73 2 (l0 :: some (.int x) :: ls) (.int x :: st) h Q) ∧
  (∀ (ls : Lo) (st : List Value) (n sl : Nat) (C Z : Nat → Nat) (I : Nat → Nat → Int32) (L : Nat → Nat → Int64) (R : Nat → Nat → Nat) (Q : Option Value → Hp → Prop) (x0 : Int32) (i : Nat), C i = 10 → (Wp 73 2 (ls) (.int x0 :: .ref i :: st) (n, sl, C, Z, I, L, R) Q ↔ (wsum st ≤ 8 ∧ Call 92 [some (.ref i), some (.int x0)] (n, sl, C, Z, I, L, R) 73 5 ls st Q))) ∧
  (∀ (ls : Lo) (st : List Value) (h : Hp) (Q : Option Value → Hp → Prop) (l0 l1 l2 l3 l4 l5 : Option Value) (i : Nat), Wp 73 5 (l0 :: l1 :: l2 :: l3 :: l4 :: l5 :: ls) (.ref i :: st) h Q ↔ Wp 73 7 (l0 :: l1 :: l2 :: l3 :: clr l4 :: some (.ref i) :: ls) (st) h Q) ∧
  (∀ (ls : Lo) (st : List Value) (h : Hp) (Q : Option Value → Hp → Prop) (l0 l1 l2 l3 l4 : Option Value) (i : Nat), Wp 73 7 (l0 :: l1 :: l2 :: l3 :: l4 :: some (.ref i) :: ls) (st) h Q ↔ Wp 73 9 (l0 :: l1 :: l2 :: l3 :: l4 :: some (.ref i) :: ls) (.ref i :: st) h Q) ∧
  (∀ (ls : Lo) (st : List Value) (h : Hp) (Q : Option Value → Hp → Prop) (i : Nat), Wp 73 9 (ls) (.ref i :: st) h Q ↔ Br 73 37 12 ls st h Q (i = 0)) ∧
  (∀ (ls : Lo) (st : List Value) (h : Hp) (Q : Option Value → Hp → Prop) (l0 l1 l2 l3 l4 : Option Value) (i : Nat), Wp 73 12 (l0 :: l1 :: l2 :: l3 :: l4 :: some (.ref i) :: ls) (st) h Q ↔ Wp 73 14 (l0 :: l1 :: l2 :: l3 :: l4 :: some (.ref i) :: ls) (.ref i :: st) h Q) ∧
  (∀ (ls : Lo) (st : List Value) (n sl : Nat) (C Z : Nat → Nat) (I : Nat → Nat → Int32) (L : Nat → Nat → Int64) (R : Nat → Nat → Nat) (Q : Option Value → Hp → Prop) (i : Nat), Wp 73 14 (ls) (.ref i :: st) (n, sl, C, Z, I, L, R) Q ↔ (inG 7 (C i) = true ∧ Wp 73 17 (ls) (.int (if isa (C i) 1 = true then 1 else 0) :: st) (n, sl, C, Z, I, L, R) Q)) ∧
  (∀ (ls : Lo) (st : List Value) (h : Hp) (Q : Option Value → Hp → Prop) (x : Int32), Wp 73 17 (ls) (.int x :: st) h Q ↔ Br 73 37 20 ls st h Q (¬ x = 0)) ∧
  (∀ (ls : Lo) (st : List Value) (h : Hp) (Q : Option Value → Hp → Prop) (l0 l1 l2 l3 l4 : Option Value) (i : Nat), Wp 73 20 (l0 :: l1 :: l2 :: l3 :: l4 :: some (.ref i) :: ls) (st) h Q ↔ Wp 73 22 (l0 :: l1 :: l2 :: l3 :: l4 :: some (.ref i) :: ls) (.ref i :: st) h Q) ∧
  (∀ (ls : Lo) (st : List Value) (n sl : Nat) (C Z : Nat → Nat) (I : Nat → Nat → Int32) (L : Nat → Nat → Int64) (R : Nat → Nat → Nat) (Q : Option Value → Hp → Prop) (i : Nat), Wp 73 22 (ls) (.ref i :: st) (n, sl, C, Z, I, L, R) Q ↔ (inG 7 (C i) = true ∧ Wp 73 25 (ls) (.int (I i 1) :: st) (n, sl, C, Z, I, L, R) Q)) ∧
  (∀ (ls : Lo) (st : List Value) (h : Hp) (Q : Option Value → Hp → Prop) (l0 l1 : Option Value) (x : Int32), Wp 73 25 (l0 :: l1 :: some (.int x) :: ls) (st) h Q ↔ Wp 73 26 (l0 :: l1 :: some (.int x) :: ls) (.int x :: st) h Q) ∧
  (∀ (ls : Lo) (st : List Value) (h : Hp) (Q : Option Value → Hp → Prop) (l0 l1 l2 : Option Value) (x : Int32), Wp 73 26 (l0 :: l1 :: l2 :: some (.int x) :: ls) (st) h Q ↔ Wp 73 27 (l0 :: l1 :: l2 :: some (.int x) :: ls) (.int x :: st) h Q) ∧
  (∀ (ls : Lo) (st : List Value) (h : Hp) (Q : Option Value → Hp → Prop) (l0 l1 l2 l3 : Option Value) (x : Int32), Wp 73 27 (l0 :: l1 :: l2 :: l3 :: some (.int x) :: ls) (st) h Q ↔ Wp 73 29 (l0 :: l1 :: l2 :: l3 :: some (.int x) :: ls) (.int x :: st) h Q) ∧
  (∀ (ls : Lo) (st : List Value) (h : Hp) (Q : Option Value → Hp → Prop), Wp 73 29 (ls) (st) h Q ↔ Wp 73 31 (ls) (.int (9) :: st) h Q) ∧
  (∀ (ls : Lo) (st : List Value) (h : Hp) (Q : Option Value → Hp → Prop) (x0 : Int32) (x1 : Int32) (x2 : Int32) (x3 : Int32) (x4 : Int32), Wp 73 31 (ls) (.int x4 :: .int x3 :: .int x2 :: .int x1 :: .int x0 :: st) h Q ↔ (wsum st ≤ 8 ∧ Call 88 [some (.int x0), some (.int x1), some (.int x2), some (.int x3), some (.int x4)] h 73 34 ls st Q)) ∧
  (∀ (ls : Lo) (st : List Value) (h : Hp) (Q : Option Value → Hp → Prop) (x : Int32), Wp 73 34 (ls) (.int x :: st) h Q ↔ Br 73 40 37 ls st h Q (¬ x = 0)) ∧
  (∀ (ls : Lo) (st : List Value) (h : Hp) (Q : Option Value → Hp → Prop), Wp 73 37 (ls) (st) h Q ↔ Wp 73 39 (ls) (.int (-2) :: st) h Q) ∧
  (∀ (ls : Lo) (h : Hp) (Q : Option Value → Hp → Prop) (x : Int32), Wp 73 39 (ls) ([.int x]) h Q ↔ Q (some (.int x)) h) ∧
  (∀ (ls : Lo) (st : List Value) (h : Hp) (Q : Option Value → Hp → Prop)  (i : Nat), Wp 73 40 (some (.ref i) :: ls) (st) h Q ↔ Wp 73 41 (some (.ref i) :: ls) (.ref i :: st) h Q) ∧
  (∀ (ls : Lo) (st : List Value) (n sl : Nat) (C Z : Nat → Nat) (I : Nat → Nat → Int32) (L : Nat → Nat → Int64) (R : Nat → Nat → Nat) (Q : Option Value → Hp → Prop) (i : Nat), Wp 73 41 (ls) (.ref i :: st) (n, sl, C, Z, I, L, R) Q ↔ (C i = 10 ∧ Wp 73 44 (ls) (.ref (R i 7) :: st) (n, sl, C, Z, I, L, R) Q)) ∧
  (∀ (ls : Lo) (st : List Value) (h : Hp) (Q : Option Value → Hp → Prop) (l0 l1 l2 l3 l4 : Option Value) (i : Nat), Wp 73 44 (l0 :: l1 :: l2 :: l3 :: l4 :: some (.ref i) :: ls) (st) h Q ↔ Wp 73 46 (l0 :: l1 :: l2 :: l3 :: l4 :: some (.ref i) :: ls) (.ref i :: st) h Q) ∧
  (∀ (ls : Lo) (st : List Value) (n sl : Nat) (C Z : Nat → Nat) (I : Nat → Nat → Int32) (L : Nat → Nat → Int64) (R : Nat → Nat → Nat) (Q : Option Value → Hp → Prop) (x0 : Nat) (i : Nat), C i = 4 → (Wp 73 46 (ls) (.ref x0 :: .ref i :: st) (n, sl, C, Z, I, L, R) Q ↔ (wsum st ≤ 8 ∧ Call 17 [some (.ref i), some (.ref x0), none] (n, sl, C, Z, I, L, R) 73 49 ls st Q))) ∧
  (∀ (ls : Lo) (st : List Value) (h : Hp) (Q : Option Value → Hp → Prop)  (i : Nat), Wp 73 49 (some (.ref i) :: ls) (st) h Q ↔ Wp 73 50 (some (.ref i) :: ls) (.ref i :: st) h Q) ∧
  (∀ (ls : Lo) (st : List Value) (n sl : Nat) (C Z : Nat → Nat) (I : Nat → Nat → Int32) (L : Nat → Nat → Int64) (R : Nat → Nat → Nat) (Q : Option Value → Hp → Prop) (i : Nat), Wp 73 50 (ls) (.ref i :: st) (n, sl, C, Z, I, L, R) Q ↔ (C i = 10 ∧ Wp 73 53 (ls) (.ref (R i 7) :: st) (n, sl, C, Z, I, L, R) Q)) := ⟨by intro ls st h Q i; exact e_aload_n d73_0 rfl,
  by intro ls st h Q l0 x; exact e_iload_n d73_1 rfl,
  by intro ls st n sl C Z I L R Q x0 i hh; exact e_iv (k2 := 92) (c := 10) (as := [.int x0]) d73_2 rfl (by decide) rfl rfl (by decide +kernel) (Nat.le_of_ble_eq_true rfl) rfl hh,
  by intro ls st h Q l0 l1 l2 l3 l4 l5 i; exact e_astore d73_5 rfl,
  by intro ls st h Q l0 l1 l2 l3 l4 i; exact e_aload d73_7 rfl,
  by intro ls st h Q i; exact e_ifnull d73_9 (by decide),
  by intro ls st h Q l0 l1 l2 l3 l4 i; exact e_aload d73_12 rfl,
  by intro ls st n sl C Z I L R Q i; exact e_io (p := 294) (c := 1) d73_14 rfl (by decide),
  by intro ls st h Q x; exact e_if d73_17 (by decide) c_ne,
  by intro ls st h Q l0 l1 l2 l3 l4 i; exact e_aload d73_20 rfl,
  by intro ls st n sl C Z I L R Q i; exact e_get (g := 7) (s := 1) (ty := 0) d73_22 rfl rfl rfl,
  by intro ls st h Q l0 l1 x; exact e_iload_n d73_25 rfl,
  by intro ls st h Q l0 l1 l2 x; exact e_iload_n d73_26 rfl,
  by intro ls st h Q l0 l1 l2 l3 x; exact e_iload d73_27 rfl,
  by intro ls st h Q; exact e_bipush d73_29 rfl,
  by intro ls st h Q x0 x1 x2 x3 x4; exact e_is (k2 := 88) (as := [.int x0, .int x1, .int x2, .int x3, .int x4]) d73_31 rfl (by decide) rfl rfl (by decide +kernel) (Nat.le_of_ble_eq_true rfl) rfl,
  by intro ls st h Q x; exact e_if d73_34 (by decide) c_ne,
  by intro ls st h Q; exact e_bipush d73_37 rfl,
  by intros; exact e_rI (p := True) d73_39 rfl,
  by intro ls st h Q i; exact e_aload_n d73_40 rfl,
  by intro ls st n sl C Z I L R Q i; exact e_get (g := 9) (s := 7) (ty := 2) d73_41 rfl rfl (inG_ne (by decide)),
  by intro ls st h Q l0 l1 l2 l3 l4 i; exact e_aload d73_44 rfl,
  by intro ls st n sl C Z I L R Q x0 i hh; exact e_iv (k2 := 17) (c := 4) (as := [.ref x0]) d73_46 rfl (by decide) rfl rfl (by decide +kernel) (Nat.le_of_ble_eq_true rfl) rfl hh,
  by intro ls st h Q i; exact e_aload_n d73_49 rfl,
  by intro ls st n sl C Z I L R Q i; exact e_get (g := 9) (s := 7) (ty := 2) d73_50 rfl rfl (inG_ne (by decide))⟩
set_option maxRecDepth 20000 in
theorem S73_1 : (∀ (ls : Lo) (st : List Value) (h : Hp) (Q : Option Value → Hp → Prop) (l0 l1 : Option Value) (x : Int32), Wp 73 53 (l0 :: l1 :: some (.int x) :: ls) (st) h Q ↔ Wp 73 54 (l0 :: l1 :: some (.int x) :: ls) (.int x :: st) h Q) ∧
  (∀ (ls : Lo) (st : List Value) (h : Hp) (Q : Option Value → Hp → Prop) (l0 l1 l2 : Option Value) (x : Int32), Wp 73 54 (l0 :: l1 :: l2 :: some (.int x) :: ls) (st) h Q ↔ Wp 73 55 (l0 :: l1 :: l2 :: some (.int x) :: ls) (.int x :: st) h Q) ∧
  (∀ (ls : Lo) (st : List Value) (h : Hp) (Q : Option Value → Hp → Prop) (l0 l1 l2 l3 : Option Value) (x : Int32), Wp 73 55 (l0 :: l1 :: l2 :: l3 :: some (.int x) :: ls) (st) h Q ↔ Wp 73 57 (l0 :: l1 :: l2 :: l3 :: some (.int x) :: ls) (.int x :: st) h Q) ∧
  (∀ (ls : Lo) (st : List Value) (n sl : Nat) (C Z : Nat → Nat) (I : Nat → Nat → Int32) (L : Nat → Nat → Int64) (R : Nat → Nat → Nat) (Q : Option Value → Hp → Prop) (x0 : Int32) (x1 : Int32) (x2 : Int32) (i : Nat), C i = 4 → (Wp 73 57 (ls) (.int x2 :: .int x1 :: .int x0 :: .ref i :: st) (n, sl, C, Z, I, L, R) Q ↔ (wsum st ≤ 8 ∧ Call 36 [some (.ref i), some (.int x0), some (.int x1), some (.int x2), none] (n, sl, C, Z, I, L, R) 73 60 ls st Q))) ∧
  (∀ (ls : Lo) (h : Hp) (Q : Option Value → Hp → Prop) (x : Int32), Wp 73 60 (ls) ([.int x]) h Q ↔ Q (some (.int x)) h) := ⟨by intro ls st h Q l0 l1 x; exact e_iload_n d73_53 rfl,
  by intro ls st h Q l0 l1 l2 x; exact e_iload_n d73_54 rfl,
  by intro ls st h Q l0 l1 l2 l3 x; exact e_iload d73_55 rfl,
  by intro ls st n sl C Z I L R Q x0 x1 x2 i hh; exact e_iv (k2 := 36) (c := 4) (as := [.int x0, .int x1, .int x2]) d73_57 rfl (by decide) rfl rfl (by decide +kernel) (Nat.le_of_ble_eq_true rfl) rfl hh,
  by intros; exact e_rI (p := True) d73_60 rfl⟩
