theorem d133_0 : decode (byt 133) 0 = .ok (.aload_n 0, 1) := by decide +kernel
theorem d133_1 : decode (byt 133) 1 = .ok (.iload_n 1, 1) := by decide +kernel
theorem d133_2 : decode (byt 133) 2 = .ok (.invokevirtual 105, 3) := by decide +kernel
theorem d133_5 : decode (byt 133) 5 = .ok (.ifCond .ne 6, 3) := by decide +kernel
theorem d133_8 : decode (byt 133) 8 = .ok (.bipush (-2), 2) := by decide +kernel
theorem d133_10 : decode (byt 133) 10 = .ok (.ireturn, 1) := by decide +kernel
theorem d133_11 : decode (byt 133) 11 = .ok (.iload_n 2, 1) := by decide +kernel
theorem d133_12 : decode (byt 133) 12 = .ok (.tableswitch 115 0 7 #[48, 55, 62, 69, 83, 89, 95, 101], 48) := by decide +kernel
theorem d133_60 : decode (byt 133) 60 = .ok (.aload_n 0, 1) := by decide +kernel
theorem d133_61 : decode (byt 133) 61 = .ok (.getfield 7, 3) := by decide +kernel
theorem d133_64 : decode (byt 133) 64 = .ok (.iload_n 1, 1) := by decide +kernel
theorem d133_65 : decode (byt 133) 65 = .ok (.iaload, 1) := by decide +kernel
theorem d133_66 : decode (byt 133) 66 = .ok (.ireturn, 1) := by decide +kernel
theorem d133_67 : decode (byt 133) 67 = .ok (.aload_n 0, 1) := by decide +kernel
theorem d133_68 : decode (byt 133) 68 = .ok (.getfield 13, 3) := by decide +kernel
theorem d133_71 : decode (byt 133) 71 = .ok (.iload_n 1, 1) := by decide +kernel
theorem d133_72 : decode (byt 133) 72 = .ok (.iaload, 1) := by decide +kernel
theorem d133_73 : decode (byt 133) 73 = .ok (.ireturn, 1) := by decide +kernel
theorem d133_74 : decode (byt 133) 74 = .ok (.aload_n 0, 1) := by decide +kernel
theorem d133_75 : decode (byt 133) 75 = .ok (.getfield 16, 3) := by decide +kernel
theorem d133_78 : decode (byt 133) 78 = .ok (.iload_n 1, 1) := by decide +kernel
theorem d133_79 : decode (byt 133) 79 = .ok (.iaload, 1) := by decide +kernel
theorem d133_80 : decode (byt 133) 80 = .ok (.ireturn, 1) := by decide +kernel
theorem d133_81 : decode (byt 133) 81 = .ok (.aload_n 0, 1) := by decide +kernel
theorem d133_82 : decode (byt 133) 82 = .ok (.iload_n 1, 1) := by decide +kernel
theorem d133_83 : decode (byt 133) 83 = .ok (.invokevirtual 154, 3) := by decide +kernel
theorem d133_86 : decode (byt 133) 86 = .ok (.ifCond .eq 7, 3) := by decide +kernel
theorem d133_89 : decode (byt 133) 89 = .ok (.iconst 1, 1) := by decide +kernel
theorem d133_90 : decode (byt 133) 90 = .ok (.goto 4, 3) := by decide +kernel
theorem d133_93 : decode (byt 133) 93 = .ok (.iconst 0, 1) := by decide +kernel
theorem d133_94 : decode (byt 133) 94 = .ok (.ireturn, 1) := by decide +kernel
theorem d133_95 : decode (byt 133) 95 = .ok (.aload_n 0, 1) := by decide +kernel
theorem d133_96 : decode (byt 133) 96 = .ok (.iload_n 1, 1) := by decide +kernel
theorem d133_97 : decode (byt 133) 97 = .ok (.invokevirtual 157, 3) := by decide +kernel
theorem d133_100 : decode (byt 133) 100 = .ok (.ireturn, 1) := by decide +kernel
theorem d133_101 : decode (byt 133) 101 = .ok (.aload_n 0, 1) := by decide +kernel
theorem d133_102 : decode (byt 133) 102 = .ok (.iload_n 1, 1) := by decide +kernel
theorem d133_103 : decode (byt 133) 103 = .ok (.invokevirtual 160, 3) := by decide +kernel
theorem d133_106 : decode (byt 133) 106 = .ok (.ireturn, 1) := by decide +kernel
theorem d133_107 : decode (byt 133) 107 = .ok (.aload_n 0, 1) := by decide +kernel
theorem d133_108 : decode (byt 133) 108 = .ok (.iload_n 1, 1) := by decide +kernel
theorem d133_109 : decode (byt 133) 109 = .ok (.invokevirtual 163, 3) := by decide +kernel
theorem d133_112 : decode (byt 133) 112 = .ok (.ireturn, 1) := by decide +kernel
theorem d133_113 : decode (byt 133) 113 = .ok (.aload_n 0, 1) := by decide +kernel
theorem d133_114 : decode (byt 133) 114 = .ok (.iload_n 1, 1) := by decide +kernel
theorem d133_115 : decode (byt 133) 115 = .ok (.invokevirtual 166, 3) := by decide +kernel
theorem d133_118 : decode (byt 133) 118 = .ok (.ifCond .eq 7, 3) := by decide +kernel
theorem d133_121 : decode (byt 133) 121 = .ok (.iconst 1, 1) := by decide +kernel
theorem d133_122 : decode (byt 133) 122 = .ok (.goto 4, 3) := by decide +kernel
theorem d133_125 : decode (byt 133) 125 = .ok (.iconst 0, 1) := by decide +kernel
theorem d133_126 : decode (byt 133) 126 = .ok (.ireturn, 1) := by decide +kernel
theorem d133_127 : decode (byt 133) 127 = .ok (.bipush (-2), 2) := by decide +kernel
theorem d133_129 : decode (byt 133) 129 = .ok (.ireturn, 1) := by decide +kernel
set_option maxRecDepth 20000 in
theorem S133_0 : (∀ (ls : Lo) (st : List Value) (h : Hp) (Q : Option Value → Hp → Prop)  (i : Nat), Wp 133 0 (some (.ref i) :: ls) (st) h Q ↔ Wp 133 1 (some (.ref i) :: ls) (.ref i :: st) h Q) ∧
  (∀ (ls : Lo) (st : List Value) (h : Hp) (Q : Option Value → Hp → Prop) (l0 : Option Value) (x : Int32), Wp 133 1 (l0 :: some (.int x) :: ls) (st) h Q ↔ Wp 133 2 (l0 :: some (.int x) :: ls) (.int x :: st) h Q) ∧
  (∀ (ls : Lo) (st : List Value) (n sl : Nat) (C Z : Nat → Nat) (I : Nat → Nat → Int32) (L : Nat → Nat → Int64) (R : Nat → Nat → Nat) (Q : Option Value → Hp → Prop) (x0 : Int32) (i : Nat), C i = 11 → (Wp 133 2 (ls) (.int x0 :: .ref i :: st) (n, sl, C, Z, I, L, R) Q ↔ (wsum st ≤ 8 ∧ Call 103 [some (.ref i), some (.int x0)] (n, sl, C, Z, I, L, R) 133 5 ls st Q))) ∧
  (∀ (ls : Lo) (st : List Value) (h : Hp) (Q : Option Value → Hp → Prop) (x : Int32), Wp 133 5 (ls) (.int x :: st) h Q ↔ Br 133 11 8 ls st h Q (¬ x = 0)) ∧
  (∀ (ls : Lo) (st : List Value) (h : Hp) (Q : Option Value → Hp → Prop), Wp 133 8 (ls) (st) h Q ↔ Wp 133 10 (ls) (.int (-2) :: st) h Q) ∧
  (∀ (ls : Lo) (h : Hp) (Q : Option Value → Hp → Prop) (x : Int32), Wp 133 10 (ls) ([.int x]) h Q ↔ Q (some (.int x)) h) ∧
  (∀ (ls : Lo) (st : List Value) (h : Hp) (Q : Option Value → Hp → Prop) (l0 l1 : Option Value) (x : Int32), Wp 133 11 (l0 :: l1 :: some (.int x) :: ls) (st) h Q ↔ Wp 133 12 (l0 :: l1 :: some (.int x) :: ls) (.int x :: st) h Q) ∧
  (∀ (ls : Lo) (st : List Value) (h : Hp) (Q : Option Value → Hp → Prop) (x : Int32), Wp 133 12 ls (.int x :: st) h Q ↔ Wp 133 (if x = 0 then 60 else if x = 1 then 67 else if x = 2 then 74 else if x = 3 then 81 else if x = 4 then 95 else if x = 5 then 101 else if x = 6 then 107 else if x = 7 then 113 else 127) ls st h Q) ∧
  (∀ (ls : Lo) (st : List Value) (h : Hp) (Q : Option Value → Hp → Prop)  (i : Nat), Wp 133 60 (some (.ref i) :: ls) (st) h Q ↔ Wp 133 61 (some (.ref i) :: ls) (.ref i :: st) h Q) ∧
  (∀ (ls : Lo) (st : List Value) (n sl : Nat) (C Z : Nat → Nat) (I : Nat → Nat → Int32) (L : Nat → Nat → Int64) (R : Nat → Nat → Nat) (Q : Option Value → Hp → Prop) (i : Nat), Wp 133 61 (ls) (.ref i :: st) (n, sl, C, Z, I, L, R) Q ↔ (C i = 11 ∧ Wp 133 64 (ls) (.ref (R i 1) :: st) (n, sl, C, Z, I, L, R) Q)) ∧
  (∀ (ls : Lo) (st : List Value) (h : Hp) (Q : Option Value → Hp → Prop) (l0 : Option Value) (x : Int32), Wp 133 64 (l0 :: some (.int x) :: ls) (st) h Q ↔ Wp 133 65 (l0 :: some (.int x) :: ls) (.int x :: st) h Q) ∧
  (∀ (ls : Lo) (st : List Value) (n sl : Nat) (C Z : Nat → Nat) (I : Nat → Nat → Int32) (L : Nat → Nat → Int64) (R : Nat → Nat → Nat) (Q : Option Value → Hp → Prop) (i : Nat) (y : Int32), Wp 133 65 (ls) (.int y :: .ref i :: st) (n, sl, C, Z, I, L, R) Q ↔ ((inb y (Z i) = true ∧ C i = 21) ∧ Wp 133 66 (ls) (.int (I i (ix y)) :: st) (n, sl, C, Z, I, L, R) Q)) ∧
  (∀ (ls : Lo) (h : Hp) (Q : Option Value → Hp → Prop) (x : Int32), Wp 133 66 (ls) ([.int x]) h Q ↔ Q (some (.int x)) h) ∧
  (∀ (ls : Lo) (st : List Value) (h : Hp) (Q : Option Value → Hp → Prop)  (i : Nat), Wp 133 67 (some (.ref i) :: ls) (st) h Q ↔ Wp 133 68 (some (.ref i) :: ls) (.ref i :: st) h Q) ∧
  (∀ (ls : Lo) (st : List Value) (n sl : Nat) (C Z : Nat → Nat) (I : Nat → Nat → Int32) (L : Nat → Nat → Int64) (R : Nat → Nat → Nat) (Q : Option Value → Hp → Prop) (i : Nat), Wp 133 68 (ls) (.ref i :: st) (n, sl, C, Z, I, L, R) Q ↔ (C i = 11 ∧ Wp 133 71 (ls) (.ref (R i 2) :: st) (n, sl, C, Z, I, L, R) Q)) ∧
  (∀ (ls : Lo) (st : List Value) (h : Hp) (Q : Option Value → Hp → Prop) (l0 : Option Value) (x : Int32), Wp 133 71 (l0 :: some (.int x) :: ls) (st) h Q ↔ Wp 133 72 (l0 :: some (.int x) :: ls) (.int x :: st) h Q) ∧
  (∀ (ls : Lo) (st : List Value) (n sl : Nat) (C Z : Nat → Nat) (I : Nat → Nat → Int32) (L : Nat → Nat → Int64) (R : Nat → Nat → Nat) (Q : Option Value → Hp → Prop) (i : Nat) (y : Int32), Wp 133 72 (ls) (.int y :: .ref i :: st) (n, sl, C, Z, I, L, R) Q ↔ ((inb y (Z i) = true ∧ C i = 21) ∧ Wp 133 73 (ls) (.int (I i (ix y)) :: st) (n, sl, C, Z, I, L, R) Q)) ∧
  (∀ (ls : Lo) (h : Hp) (Q : Option Value → Hp → Prop) (x : Int32), Wp 133 73 (ls) ([.int x]) h Q ↔ Q (some (.int x)) h) ∧
  (∀ (ls : Lo) (st : List Value) (h : Hp) (Q : Option Value → Hp → Prop)  (i : Nat), Wp 133 74 (some (.ref i) :: ls) (st) h Q ↔ Wp 133 75 (some (.ref i) :: ls) (.ref i :: st) h Q) ∧
  (∀ (ls : Lo) (st : List Value) (n sl : Nat) (C Z : Nat → Nat) (I : Nat → Nat → Int32) (L : Nat → Nat → Int64) (R : Nat → Nat → Nat) (Q : Option Value → Hp → Prop) (i : Nat), Wp 133 75 (ls) (.ref i :: st) (n, sl, C, Z, I, L, R) Q ↔ (C i = 11 ∧ Wp 133 78 (ls) (.ref (R i 3) :: st) (n, sl, C, Z, I, L, R) Q)) ∧
  (∀ (ls : Lo) (st : List Value) (h : Hp) (Q : Option Value → Hp → Prop) (l0 : Option Value) (x : Int32), Wp 133 78 (l0 :: some (.int x) :: ls) (st) h Q ↔ Wp 133 79 (l0 :: some (.int x) :: ls) (.int x :: st) h Q) ∧
  (∀ (ls : Lo) (st : List Value) (n sl : Nat) (C Z : Nat → Nat) (I : Nat → Nat → Int32) (L : Nat → Nat → Int64) (R : Nat → Nat → Nat) (Q : Option Value → Hp → Prop) (i : Nat) (y : Int32), Wp 133 79 (ls) (.int y :: .ref i :: st) (n, sl, C, Z, I, L, R) Q ↔ ((inb y (Z i) = true ∧ C i = 21) ∧ Wp 133 80 (ls) (.int (I i (ix y)) :: st) (n, sl, C, Z, I, L, R) Q)) ∧
  (∀ (ls : Lo) (h : Hp) (Q : Option Value → Hp → Prop) (x : Int32), Wp 133 80 (ls) ([.int x]) h Q ↔ Q (some (.int x)) h) ∧
  (∀ (ls : Lo) (st : List Value) (h : Hp) (Q : Option Value → Hp → Prop)  (i : Nat), Wp 133 81 (some (.ref i) :: ls) (st) h Q ↔ Wp 133 82 (some (.ref i) :: ls) (.ref i :: st) h Q) ∧
  (∀ (ls : Lo) (st : List Value) (h : Hp) (Q : Option Value → Hp → Prop) (l0 : Option Value) (x : Int32), Wp 133 82 (l0 :: some (.int x) :: ls) (st) h Q ↔ Wp 133 83 (l0 :: some (.int x) :: ls) (.int x :: st) h Q) := ⟨by intro ls st h Q i; exact e_aload_n d133_0 rfl,
  by intro ls st h Q l0 x; exact e_iload_n d133_1 rfl,
  by intro ls st n sl C Z I L R Q x0 i hh; exact e_iv (k2 := 103) (c := 11) (as := [.int x0]) d133_2 rfl (by decide) rfl rfl (by decide +kernel) (Nat.le_of_ble_eq_true rfl) rfl hh,
  by intro ls st h Q x; exact e_if d133_5 (by decide) c_ne,
  by intro ls st h Q; exact e_bipush d133_8 rfl,
  by intros; exact e_rI (p := True) d133_10 rfl,
  by intro ls st h Q l0 l1 x; exact e_iload_n d133_11 rfl,
  by
    intro ls st h Q x
    refine e_ts d133_12 ?_
    by_cases h0 : x = 0
    · subst h0; rfl
    by_cases h1 : x = 1
    · subst h1; rfl
    by_cases h2 : x = 2
    · subst h2; rfl
    by_cases h3 : x = 3
    · subst h3; rfl
    by_cases h4 : x = 4
    · subst h4; rfl
    by_cases h5 : x = 5
    · subst h5; rfl
    by_cases h6 : x = 6
    · subst h6; rfl
    by_cases h7 : x = 7
    · subst h7; rfl
    rw [if_neg h0, if_neg h1, if_neg h2, if_neg h3, if_neg h4, if_neg h5, if_neg h6, if_neg h7]
    exact ts_out_jmp (n := 7) (t := 127) (fun j hj => by
      match j, hj with
      | 0, _ => exact h0
      | 1, _ => exact h1
      | 2, _ => exact h2
      | 3, _ => exact h3
      | 4, _ => exact h4
      | 5, _ => exact h5
      | 6, _ => exact h6
      | 7, _ => exact h7
      ) (by decide) rfl,
  by intro ls st h Q i; exact e_aload_n d133_60 rfl,
  by intro ls st n sl C Z I L R Q i; exact e_get (g := 10) (s := 1) (ty := 2) d133_61 rfl rfl (inG_ne (by decide)),
  by intro ls st h Q l0 x; exact e_iload_n d133_64 rfl,
  by intro ls st n sl C Z I L R Q i y; exact e_iald d133_65,
  by intros; exact e_rI (p := True) d133_66 rfl,
  by intro ls st h Q i; exact e_aload_n d133_67 rfl,
  by intro ls st n sl C Z I L R Q i; exact e_get (g := 10) (s := 2) (ty := 2) d133_68 rfl rfl (inG_ne (by decide)),
  by intro ls st h Q l0 x; exact e_iload_n d133_71 rfl,
  by intro ls st n sl C Z I L R Q i y; exact e_iald d133_72,
  by intros; exact e_rI (p := True) d133_73 rfl,
  by intro ls st h Q i; exact e_aload_n d133_74 rfl,
  by intro ls st n sl C Z I L R Q i; exact e_get (g := 10) (s := 3) (ty := 2) d133_75 rfl rfl (inG_ne (by decide)),
  by intro ls st h Q l0 x; exact e_iload_n d133_78 rfl,
  by intro ls st n sl C Z I L R Q i y; exact e_iald d133_79,
  by intros; exact e_rI (p := True) d133_80 rfl,
  by intro ls st h Q i; exact e_aload_n d133_81 rfl,
  by intro ls st h Q l0 x; exact e_iload_n d133_82 rfl⟩
set_option maxRecDepth 20000 in
theorem S133_1 : (∀ (ls : Lo) (st : List Value) (n sl : Nat) (C Z : Nat → Nat) (I : Nat → Nat → Int32) (L : Nat → Nat → Int64) (R : Nat → Nat → Nat) (Q : Option Value → Hp → Prop) (x0 : Int32) (i : Nat), C i = 11 → (Wp 133 83 (ls) (.int x0 :: .ref i :: st) (n, sl, C, Z, I, L, R) Q ↔ (wsum st ≤ 8 ∧ Call 127 [some (.ref i), some (.int x0), none, none, none, none] (n, sl, C, Z, I, L, R) 133 86 ls st Q))) ∧
  (∀ (ls : Lo) (st : List Value) (h : Hp) (Q : Option Value → Hp → Prop) (x : Int32), Wp 133 86 (ls) (.int x :: st) h Q ↔ Br 133 93 89 ls st h Q (x = 0)) ∧
  (∀ (ls : Lo) (st : List Value) (h : Hp) (Q : Option Value → Hp → Prop), Wp 133 89 (ls) (st) h Q ↔ Wp 133 90 (ls) (.int (1) :: st) h Q) ∧
  (∀ (ls : Lo) (st : List Value) (h : Hp) (Q : Option Value → Hp → Prop), Wp 133 90 (ls) (st) h Q ↔ Wp 133 94 (ls) (st) h Q) ∧
  (∀ (ls : Lo) (st : List Value) (h : Hp) (Q : Option Value → Hp → Prop), Wp 133 93 (ls) (st) h Q ↔ Wp 133 94 (ls) (.int (0) :: st) h Q) ∧
  (∀ (ls : Lo) (h : Hp) (Q : Option Value → Hp → Prop) (x : Int32), Wp 133 94 (ls) ([.int x]) h Q ↔ Q (some (.int x)) h) ∧
  (∀ (ls : Lo) (st : List Value) (h : Hp) (Q : Option Value → Hp → Prop)  (i : Nat), Wp 133 95 (some (.ref i) :: ls) (st) h Q ↔ Wp 133 96 (some (.ref i) :: ls) (.ref i :: st) h Q) ∧
  (∀ (ls : Lo) (st : List Value) (h : Hp) (Q : Option Value → Hp → Prop) (l0 : Option Value) (x : Int32), Wp 133 96 (l0 :: some (.int x) :: ls) (st) h Q ↔ Wp 133 97 (l0 :: some (.int x) :: ls) (.int x :: st) h Q) ∧
  (∀ (ls : Lo) (st : List Value) (n sl : Nat) (C Z : Nat → Nat) (I : Nat → Nat → Int32) (L : Nat → Nat → Int64) (R : Nat → Nat → Nat) (Q : Option Value → Hp → Prop) (x0 : Int32) (i : Nat), C i = 11 → (Wp 133 97 (ls) (.int x0 :: .ref i :: st) (n, sl, C, Z, I, L, R) Q ↔ (wsum st ≤ 8 ∧ Call 130 [some (.ref i), some (.int x0)] (n, sl, C, Z, I, L, R) 133 100 ls st Q))) ∧
  (∀ (ls : Lo) (h : Hp) (Q : Option Value → Hp → Prop) (x : Int32), Wp 133 100 (ls) ([.int x]) h Q ↔ Q (some (.int x)) h) ∧
  (∀ (ls : Lo) (st : List Value) (h : Hp) (Q : Option Value → Hp → Prop)  (i : Nat), Wp 133 101 (some (.ref i) :: ls) (st) h Q ↔ Wp 133 102 (some (.ref i) :: ls) (.ref i :: st) h Q) ∧
  (∀ (ls : Lo) (st : List Value) (h : Hp) (Q : Option Value → Hp → Prop) (l0 : Option Value) (x : Int32), Wp 133 102 (l0 :: some (.int x) :: ls) (st) h Q ↔ Wp 133 103 (l0 :: some (.int x) :: ls) (.int x :: st) h Q) ∧
  (∀ (ls : Lo) (st : List Value) (n sl : Nat) (C Z : Nat → Nat) (I : Nat → Nat → Int32) (L : Nat → Nat → Int64) (R : Nat → Nat → Nat) (Q : Option Value → Hp → Prop) (x0 : Int32) (i : Nat), C i = 11 → (Wp 133 103 (ls) (.int x0 :: .ref i :: st) (n, sl, C, Z, I, L, R) Q ↔ (wsum st ≤ 8 ∧ Call 131 [some (.ref i), some (.int x0), none, none, none, none, none] (n, sl, C, Z, I, L, R) 133 106 ls st Q))) ∧
  (∀ (ls : Lo) (h : Hp) (Q : Option Value → Hp → Prop) (x : Int32), Wp 133 106 (ls) ([.int x]) h Q ↔ Q (some (.int x)) h) ∧
  (∀ (ls : Lo) (st : List Value) (h : Hp) (Q : Option Value → Hp → Prop)  (i : Nat), Wp 133 107 (some (.ref i) :: ls) (st) h Q ↔ Wp 133 108 (some (.ref i) :: ls) (.ref i :: st) h Q) ∧
  (∀ (ls : Lo) (st : List Value) (h : Hp) (Q : Option Value → Hp → Prop) (l0 : Option Value) (x : Int32), Wp 133 108 (l0 :: some (.int x) :: ls) (st) h Q ↔ Wp 133 109 (l0 :: some (.int x) :: ls) (.int x :: st) h Q) ∧
  (∀ (ls : Lo) (st : List Value) (n sl : Nat) (C Z : Nat → Nat) (I : Nat → Nat → Int32) (L : Nat → Nat → Int64) (R : Nat → Nat → Nat) (Q : Option Value → Hp → Prop) (x0 : Int32) (i : Nat), C i = 11 → (Wp 133 109 (ls) (.int x0 :: .ref i :: st) (n, sl, C, Z, I, L, R) Q ↔ (wsum st ≤ 8 ∧ Call 132 [some (.ref i), some (.int x0), none, none] (n, sl, C, Z, I, L, R) 133 112 ls st Q))) ∧
  (∀ (ls : Lo) (h : Hp) (Q : Option Value → Hp → Prop) (x : Int32), Wp 133 112 (ls) ([.int x]) h Q ↔ Q (some (.int x)) h) ∧
  (∀ (ls : Lo) (st : List Value) (h : Hp) (Q : Option Value → Hp → Prop)  (i : Nat), Wp 133 113 (some (.ref i) :: ls) (st) h Q ↔ Wp 133 114 (some (.ref i) :: ls) (.ref i :: st) h Q) ∧
  (∀ (ls : Lo) (st : List Value) (h : Hp) (Q : Option Value → Hp → Prop) (l0 : Option Value) (x : Int32), Wp 133 114 (l0 :: some (.int x) :: ls) (st) h Q ↔ Wp 133 115 (l0 :: some (.int x) :: ls) (.int x :: st) h Q) ∧
  (∀ (ls : Lo) (st : List Value) (n sl : Nat) (C Z : Nat → Nat) (I : Nat → Nat → Int32) (L : Nat → Nat → Int64) (R : Nat → Nat → Nat) (Q : Option Value → Hp → Prop) (x0 : Int32) (i : Nat), C i = 11 → (Wp 133 115 (ls) (.int x0 :: .ref i :: st) (n, sl, C, Z, I, L, R) Q ↔ (wsum st ≤ 8 ∧ Call 143 [some (.ref i), some (.int x0), none] (n, sl, C, Z, I, L, R) 133 118 ls st Q))) ∧
  (∀ (ls : Lo) (st : List Value) (h : Hp) (Q : Option Value → Hp → Prop) (x : Int32), Wp 133 118 (ls) (.int x :: st) h Q ↔ Br 133 125 121 ls st h Q (x = 0)) ∧
  (∀ (ls : Lo) (st : List Value) (h : Hp) (Q : Option Value → Hp → Prop), Wp 133 121 (ls) (st) h Q ↔ Wp 133 122 (ls) (.int (1) :: st) h Q) ∧
  (∀ (ls : Lo) (st : List Value) (h : Hp) (Q : Option Value → Hp → Prop), Wp 133 122 (ls) (st) h Q ↔ Wp 133 126 (ls) (st) h Q) ∧
  (∀ (ls : Lo) (st : List Value) (h : Hp) (Q : Option Value → Hp → Prop), Wp 133 125 (ls) (st) h Q ↔ Wp 133 126 (ls) (.int (0) :: st) h Q) := ⟨by intro ls st n sl C Z I L R Q x0 i hh; exact e_iv (k2 := 127) (c := 11) (as := [.int x0]) d133_83 rfl (by decide) rfl rfl (by decide +kernel) (Nat.le_of_ble_eq_true rfl) rfl hh,
  by intro ls st h Q x; exact e_if d133_86 (by decide) c_eq,
  by intro ls st h Q; exact e_iconst d133_89 rfl,
  by intro ls st h Q; exact e_goto d133_90 (by decide),
  by intro ls st h Q; exact e_iconst d133_93 rfl,
  by intros; exact e_rI (p := True) d133_94 rfl,
  by intro ls st h Q i; exact e_aload_n d133_95 rfl,
  by intro ls st h Q l0 x; exact e_iload_n d133_96 rfl,
  by intro ls st n sl C Z I L R Q x0 i hh; exact e_iv (k2 := 130) (c := 11) (as := [.int x0]) d133_97 rfl (by decide) rfl rfl (by decide +kernel) (Nat.le_of_ble_eq_true rfl) rfl hh,
  by intros; exact e_rI (p := True) d133_100 rfl,
  by intro ls st h Q i; exact e_aload_n d133_101 rfl,
  by intro ls st h Q l0 x; exact e_iload_n d133_102 rfl,
  by intro ls st n sl C Z I L R Q x0 i hh; exact e_iv (k2 := 131) (c := 11) (as := [.int x0]) d133_103 rfl (by decide) rfl rfl (by decide +kernel) (Nat.le_of_ble_eq_true rfl) rfl hh,
  by intros; exact e_rI (p := True) d133_106 rfl,
  by intro ls st h Q i; exact e_aload_n d133_107 rfl,
  by intro ls st h Q l0 x; exact e_iload_n d133_108 rfl,
  by intro ls st n sl C Z I L R Q x0 i hh; exact e_iv (k2 := 132) (c := 11) (as := [.int x0]) d133_109 rfl (by decide) rfl rfl (by decide +kernel) (Nat.le_of_ble_eq_true rfl) rfl hh,
  by intros; exact e_rI (p := True) d133_112 rfl,
  by intro ls st h Q i; exact e_aload_n d133_113 rfl,
  by intro ls st h Q l0 x; exact e_iload_n d133_114 rfl,
  by intro ls st n sl C Z I L R Q x0 i hh; exact e_iv (k2 := 143) (c := 11) (as := [.int x0]) d133_115 rfl (by decide) rfl rfl (by decide +kernel) (Nat.le_of_ble_eq_true rfl) rfl hh,
  by intro ls st h Q x; exact e_if d133_118 (by decide) c_eq,
  by intro ls st h Q; exact e_iconst d133_121 rfl,
  by intro ls st h Q; exact e_goto d133_122 (by decide),
  by intro ls st h Q; exact e_iconst d133_125 rfl⟩
set_option maxRecDepth 20000 in
theorem S133_2 : (∀ (ls : Lo) (h : Hp) (Q : Option Value → Hp → Prop) (x : Int32), Wp 133 126 (ls) ([.int x]) h Q ↔ Q (some (.int x)) h) ∧
  (∀ (ls : Lo) (st : List Value) (h : Hp) (Q : Option Value → Hp → Prop), Wp 133 127 (ls) (st) h Q ↔ Wp 133 129 (ls) (.int (-2) :: st) h Q) ∧
  (∀ (ls : Lo) (h : Hp) (Q : Option Value → Hp → Prop) (x : Int32), Wp 133 129 (ls) ([.int x]) h Q ↔ Q (some (.int x)) h) := ⟨by intros; exact e_rI (p := True) d133_126 rfl,
  by intro ls st h Q; exact e_bipush d133_127 rfl,
  by intros; exact e_rI (p := True) d133_129 rfl⟩
theorem d134_0 : decode (byt 134) 0 = .ok (.aload_n 0, 1) := by decide +kernel
theorem d134_1 : decode (byt 134) 1 = .ok (.iload_n 1, 1) := by decide +kernel
theorem d134_2 : decode (byt 134) 2 = .ok (.invokevirtual 105, 3) := by decide +kernel
theorem d134_5 : decode (byt 134) 5 = .ok (.ifCond .eq 26, 3) := by decide +kernel
theorem d134_8 : decode (byt 134) 8 = .ok (.iload_n 2, 1) := by decide +kernel
theorem d134_9 : decode (byt 134) 9 = .ok (.ifCond .lt 22, 3) := by decide +kernel
theorem d134_12 : decode (byt 134) 12 = .ok (.iload_n 2, 1) := by decide +kernel
theorem d134_13 : decode (byt 134) 13 = .ok (.iconst 1, 1) := by decide +kernel
theorem d134_14 : decode (byt 134) 14 = .ok (.if_icmp .gt 17, 3) := by decide +kernel
theorem d134_17 : decode (byt 134) 17 = .ok (.iload_n 3, 1) := by decide +kernel
theorem d134_18 : decode (byt 134) 18 = .ok (.ifCond .lt 13, 3) := by decide +kernel
theorem d134_21 : decode (byt 134) 21 = .ok (.iload_n 3, 1) := by decide +kernel
theorem d134_22 : decode (byt 134) 22 = .ok (.aload_n 0, 1) := by decide +kernel
theorem d134_23 : decode (byt 134) 23 = .ok (.getfield 13, 3) := by decide +kernel
theorem d134_26 : decode (byt 134) 26 = .ok (.iload_n 1, 1) := by decide +kernel
theorem d134_27 : decode (byt 134) 27 = .ok (.iaload, 1) := by decide +kernel
theorem d134_28 : decode (byt 134) 28 = .ok (.if_icmp .le 7, 3) := by decide +kernel
theorem d134_31 : decode (byt 134) 31 = .ok (.ldc2_w 169, 3) := by decide +kernel
theorem d134_34 : decode (byt 134) 34 = .ok (.lreturn, 1) := by decide +kernel
theorem d134_35 : decode (byt 134) 35 = .ok (.aload_n 0, 1) := by decide +kernel
theorem d134_36 : decode (byt 134) 36 = .ok (.iload_n 1, 1) := by decide +kernel
theorem d134_37 : decode (byt 134) 37 = .ok (.invokevirtual 136, 3) := by decide +kernel
theorem d134_40 : decode (byt 134) 40 = .ok (.iload_n 2, 1) := by decide +kernel
theorem d134_41 : decode (byt 134) 41 = .ok (.ifCond .ne 10, 3) := by decide +kernel
theorem d134_44 : decode (byt 134) 44 = .ok (.aload_n 0, 1) := by decide +kernel
theorem d134_45 : decode (byt 134) 45 = .ok (.getfield 62, 3) := by decide +kernel
theorem d134_48 : decode (byt 134) 48 = .ok (.iload_n 3, 1) := by decide +kernel
theorem d134_49 : decode (byt 134) 49 = .ok (.laload, 1) := by decide +kernel
theorem d134_50 : decode (byt 134) 50 = .ok (.lreturn, 1) := by decide +kernel
theorem d134_51 : decode (byt 134) 51 = .ok (.aload_n 0, 1) := by decide +kernel
theorem d134_52 : decode (byt 134) 52 = .ok (.getfield 19, 3) := by decide +kernel
theorem d134_55 : decode (byt 134) 55 = .ok (.iload_n 1, 1) := by decide +kernel
theorem d134_56 : decode (byt 134) 56 = .ok (.iaload, 1) := by decide +kernel
theorem d134_57 : decode (byt 134) 57 = .ok (.i2l, 1) := by decide +kernel
theorem d134_58 : decode (byt 134) 58 = .ok (.aload_n 0, 1) := by decide +kernel
theorem d134_59 : decode (byt 134) 59 = .ok (.getfield 62, 3) := by decide +kernel
theorem d134_62 : decode (byt 134) 62 = .ok (.iload_n 3, 1) := by decide +kernel
theorem d134_63 : decode (byt 134) 63 = .ok (.laload, 1) := by decide +kernel
theorem d134_64 : decode (byt 134) 64 = .ok (.lmul, 1) := by decide +kernel
theorem d134_65 : decode (byt 134) 65 = .ok (.lstore 4, 2) := by decide +kernel
theorem d134_67 : decode (byt 134) 67 = .ok (.iload_n 3, 1) := by decide +kernel
theorem d134_68 : decode (byt 134) 68 = .ok (.iconst 1, 1) := by decide +kernel
theorem d134_69 : decode (byt 134) 69 = .ok (.iadd, 1) := by decide +kernel
theorem d134_70 : decode (byt 134) 70 = .ok (.istore 6, 2) := by decide +kernel
theorem d134_72 : decode (byt 134) 72 = .ok (.iload 6, 2) := by decide +kernel
theorem d134_74 : decode (byt 134) 74 = .ok (.aload_n 0, 1) := by decide +kernel
theorem d134_75 : decode (byt 134) 75 = .ok (.getfield 13, 3) := by decide +kernel
theorem d134_78 : decode (byt 134) 78 = .ok (.iload_n 1, 1) := by decide +kernel
theorem d134_79 : decode (byt 134) 79 = .ok (.iaload, 1) := by decide +kernel
theorem d134_80 : decode (byt 134) 80 = .ok (.if_icmp .gt 41, 3) := by decide +kernel
theorem d134_83 : decode (byt 134) 83 = .ok (.lload 4, 2) := by decide +kernel
theorem d134_85 : decode (byt 134) 85 = .ok (.aload_n 0, 1) := by decide +kernel
theorem d134_86 : decode (byt 134) 86 = .ok (.getfield 62, 3) := by decide +kernel
theorem d134_89 : decode (byt 134) 89 = .ok (.iload 6, 2) := by decide +kernel
theorem d134_91 : decode (byt 134) 91 = .ok (.laload, 1) := by decide +kernel
theorem d134_92 : decode (byt 134) 92 = .ok (.aload_n 0, 1) := by decide +kernel
theorem d134_93 : decode (byt 134) 93 = .ok (.getfield 16, 3) := by decide +kernel
theorem d134_96 : decode (byt 134) 96 = .ok (.iload_n 1, 1) := by decide +kernel
theorem d134_97 : decode (byt 134) 97 = .ok (.iaload, 1) := by decide +kernel
theorem d134_98 : decode (byt 134) 98 = .ok (.i2l, 1) := by decide +kernel
theorem d134_99 : decode (byt 134) 99 = .ok (.lmul, 1) := by decide +kernel
theorem d134_100 : decode (byt 134) 100 = .ok (.aload_n 0, 1) := by decide +kernel
theorem d134_101 : decode (byt 134) 101 = .ok (.iload_n 1, 1) := by decide +kernel
theorem d134_102 : decode (byt 134) 102 = .ok (.iload 6, 2) := by decide +kernel
theorem d134_104 : decode (byt 134) 104 = .ok (.iload_n 3, 1) := by decide +kernel
theorem d134_105 : decode (byt 134) 105 = .ok (.isub, 1) := by decide +kernel
theorem d134_106 : decode (byt 134) 106 = .ok (.iconst 1, 1) := by decide +kernel
theorem d134_107 : decode (byt 134) 107 = .ok (.isub, 1) := by decide +kernel
theorem d134_108 : decode (byt 134) 108 = .ok (.invokevirtual 150, 3) := by decide +kernel
theorem d134_111 : decode (byt 134) 111 = .ok (.lmul, 1) := by decide +kernel
theorem d134_112 : decode (byt 134) 112 = .ok (.ladd, 1) := by decide +kernel
theorem d134_113 : decode (byt 134) 113 = .ok (.lstore 4, 2) := by decide +kernel
theorem d134_115 : decode (byt 134) 115 = .ok (.iinc 6 1, 3) := by decide +kernel
theorem d134_118 : decode (byt 134) 118 = .ok (.goto (-46), 3) := by decide +kernel
theorem d134_121 : decode (byt 134) 121 = .ok (.lload 4, 2) := by decide +kernel
theorem d134_123 : decode (byt 134) 123 = .ok (.lreturn, 1) := by decide +kernel
set_option maxRecDepth 20000 in
theorem S134_0 : (∀ (ls : Lo) (st : List Value) (h : Hp) (Q : Option Value → Hp → Prop)  (i : Nat), Wp 134 0 (some (.ref i) :: ls) (st) h Q ↔ Wp 134 1 (some (.ref i) :: ls) (.ref i :: st) h Q) ∧
  (∀ (ls : Lo) (st : List Value) (h : Hp) (Q : Option Value → Hp → Prop) (l0 : Option Value) (x : Int32), Wp 134 1 (l0 :: some (.int x) :: ls) (st) h Q ↔ Wp 134 2 (l0 :: some (.int x) :: ls) (.int x :: st) h Q) ∧
  (∀ (ls : Lo) (st : List Value) (n sl : Nat) (C Z : Nat → Nat) (I : Nat → Nat → Int32) (L : Nat → Nat → Int64) (R : Nat → Nat → Nat) (Q : Option Value → Hp → Prop) (x0 : Int32) (i : Nat), C i = 11 → (Wp 134 2 (ls) (.int x0 :: .ref i :: st) (n, sl, C, Z, I, L, R) Q ↔ (wsum st ≤ 8 ∧ Call 103 [some (.ref i), some (.int x0)] (n, sl, C, Z, I, L, R) 134 5 ls st Q))) ∧
  (∀ (ls : Lo) (st : List Value) (h : Hp) (Q : Option Value → Hp → Prop) (x : Int32), Wp 134 5 (ls) (.int x :: st) h Q ↔ Br 134 31 8 ls st h Q (x = 0)) ∧
  (∀ (ls : Lo) (st : List Value) (h : Hp) (Q : Option Value → Hp → Prop) (l0 l1 : Option Value) (x : Int32), Wp 134 8 (l0 :: l1 :: some (.int x) :: ls) (st) h Q ↔ Wp 134 9 (l0 :: l1 :: some (.int x) :: ls) (.int x :: st) h Q) ∧
  (∀ (ls : Lo) (st : List Value) (h : Hp) (Q : Option Value → Hp → Prop) (x : Int32), Wp 134 9 (ls) (.int x :: st) h Q ↔ Br 134 31 12 ls st h Q (x < 0)) ∧
  (∀ (ls : Lo) (st : List Value) (h : Hp) (Q : Option Value → Hp → Prop) (l0 l1 : Option Value) (x : Int32), Wp 134 12 (l0 :: l1 :: some (.int x) :: ls) (st) h Q ↔ Wp 134 13 (l0 :: l1 :: some (.int x) :: ls) (.int x :: st) h Q) ∧
  (∀ (ls : Lo) (st : List Value) (h : Hp) (Q : Option Value → Hp → Prop), Wp 134 13 (ls) (st) h Q ↔ Wp 134 14 (ls) (.int (1) :: st) h Q) ∧
  (∀ (ls : Lo) (st : List Value) (h : Hp) (Q : Option Value → Hp → Prop) (x y : Int32), Wp 134 14 (ls) (.int y :: .int x :: st) h Q ↔ Br 134 31 17 ls st h Q (y < x)) ∧
  (∀ (ls : Lo) (st : List Value) (h : Hp) (Q : Option Value → Hp → Prop) (l0 l1 l2 : Option Value) (x : Int32), Wp 134 17 (l0 :: l1 :: l2 :: some (.int x) :: ls) (st) h Q ↔ Wp 134 18 (l0 :: l1 :: l2 :: some (.int x) :: ls) (.int x :: st) h Q) ∧
  (∀ (ls : Lo) (st : List Value) (h : Hp) (Q : Option Value → Hp → Prop) (x : Int32), Wp 134 18 (ls) (.int x :: st) h Q ↔ Br 134 31 21 ls st h Q (x < 0)) ∧
  (∀ (ls : Lo) (st : List Value) (h : Hp) (Q : Option Value → Hp → Prop) (l0 l1 l2 : Option Value) (x : Int32), Wp 134 21 (l0 :: l1 :: l2 :: some (.int x) :: ls) (st) h Q ↔ Wp 134 22 (l0 :: l1 :: l2 :: some (.int x) :: ls) (.int x :: st) h Q) ∧
  (∀ (ls : Lo) (st : List Value) (h : Hp) (Q : Option Value → Hp → Prop)  (i : Nat), Wp 134 22 (some (.ref i) :: ls) (st) h Q ↔ Wp 134 23 (some (.ref i) :: ls) (.ref i :: st) h Q) ∧
  (∀ (ls : Lo) (st : List Value) (n sl : Nat) (C Z : Nat → Nat) (I : Nat → Nat → Int32) (L : Nat → Nat → Int64) (R : Nat → Nat → Nat) (Q : Option Value → Hp → Prop) (i : Nat), Wp 134 23 (ls) (.ref i :: st) (n, sl, C, Z, I, L, R) Q ↔ (C i = 11 ∧ Wp 134 26 (ls) (.ref (R i 2) :: st) (n, sl, C, Z, I, L, R) Q)) ∧
  (∀ (ls : Lo) (st : List Value) (h : Hp) (Q : Option Value → Hp → Prop) (l0 : Option Value) (x : Int32), Wp 134 26 (l0 :: some (.int x) :: ls) (st) h Q ↔ Wp 134 27 (l0 :: some (.int x) :: ls) (.int x :: st) h Q) ∧
  (∀ (ls : Lo) (st : List Value) (n sl : Nat) (C Z : Nat → Nat) (I : Nat → Nat → Int32) (L : Nat → Nat → Int64) (R : Nat → Nat → Nat) (Q : Option Value → Hp → Prop) (i : Nat) (y : Int32), Wp 134 27 (ls) (.int y :: .ref i :: st) (n, sl, C, Z, I, L, R) Q ↔ ((inb y (Z i) = true ∧ C i = 21) ∧ Wp 134 28 (ls) (.int (I i (ix y)) :: st) (n, sl, C, Z, I, L, R) Q)) ∧
  (∀ (ls : Lo) (st : List Value) (h : Hp) (Q : Option Value → Hp → Prop) (x y : Int32), Wp 134 28 (ls) (.int y :: .int x :: st) h Q ↔ Br 134 35 31 ls st h Q (x ≤ y)) ∧
  (∀ (ls : Lo) (st : List Value) (h : Hp) (Q : Option Value → Hp → Prop), Wp 134 31 (ls) (st) h Q ↔ Wp 134 34 (ls) (.long (-4611686018427387904) :: st) h Q) ∧
  (∀ (ls : Lo) (h : Hp) (Q : Option Value → Hp → Prop) (a : Int64), Wp 134 34 (ls) ([.long a]) h Q ↔ Q (some (.long a)) h) ∧
  (∀ (ls : Lo) (st : List Value) (h : Hp) (Q : Option Value → Hp → Prop)  (i : Nat), Wp 134 35 (some (.ref i) :: ls) (st) h Q ↔ Wp 134 36 (some (.ref i) :: ls) (.ref i :: st) h Q) ∧
  (∀ (ls : Lo) (st : List Value) (h : Hp) (Q : Option Value → Hp → Prop) (l0 : Option Value) (x : Int32), Wp 134 36 (l0 :: some (.int x) :: ls) (st) h Q ↔ Wp 134 37 (l0 :: some (.int x) :: ls) (.int x :: st) h Q) ∧
  (∀ (ls : Lo) (st : List Value) (n sl : Nat) (C Z : Nat → Nat) (I : Nat → Nat → Int32) (L : Nat → Nat → Int64) (R : Nat → Nat → Nat) (Q : Option Value → Hp → Prop) (x0 : Int32) (i : Nat), C i = 11 → (Wp 134 37 (ls) (.int x0 :: .ref i :: st) (n, sl, C, Z, I, L, R) Q ↔ (wsum st ≤ 8 ∧ Call 125 [some (.ref i), some (.int x0), none, none, none, none, none, none, none, none, none, none, none] (n, sl, C, Z, I, L, R) 134 40 ls st Q))) ∧
  (∀ (ls : Lo) (st : List Value) (h : Hp) (Q : Option Value → Hp → Prop) (l0 l1 : Option Value) (x : Int32), Wp 134 40 (l0 :: l1 :: some (.int x) :: ls) (st) h Q ↔ Wp 134 41 (l0 :: l1 :: some (.int x) :: ls) (.int x :: st) h Q) ∧
  (∀ (ls : Lo) (st : List Value) (h : Hp) (Q : Option Value → Hp → Prop) (x : Int32), Wp 134 41 (ls) (.int x :: st) h Q ↔ Br 134 51 44 ls st h Q (¬ x = 0)) ∧
  (∀ (ls : Lo) (st : List Value) (h : Hp) (Q : Option Value → Hp → Prop)  (i : Nat), Wp 134 44 (some (.ref i) :: ls) (st) h Q ↔ Wp 134 45 (some (.ref i) :: ls) (.ref i :: st) h Q) := ⟨by intro ls st h Q i; exact e_aload_n d134_0 rfl,
  by intro ls st h Q l0 x; exact e_iload_n d134_1 rfl,
  by intro ls st n sl C Z I L R Q x0 i hh; exact e_iv (k2 := 103) (c := 11) (as := [.int x0]) d134_2 rfl (by decide) rfl rfl (by decide +kernel) (Nat.le_of_ble_eq_true rfl) rfl hh,
  by intro ls st h Q x; exact e_if d134_5 (by decide) c_eq,
  by intro ls st h Q l0 l1 x; exact e_iload_n d134_8 rfl,
  by intro ls st h Q x; exact e_if d134_9 (by decide) c_lt,
  by intro ls st h Q l0 l1 x; exact e_iload_n d134_12 rfl,
  by intro ls st h Q; exact e_iconst d134_13 rfl,
  by intro ls st h Q x y; exact e_ic d134_14 (by decide) c_gt,
  by intro ls st h Q l0 l1 l2 x; exact e_iload_n d134_17 rfl,
  by intro ls st h Q x; exact e_if d134_18 (by decide) c_lt,
  by intro ls st h Q l0 l1 l2 x; exact e_iload_n d134_21 rfl,
  by intro ls st h Q i; exact e_aload_n d134_22 rfl,
  by intro ls st n sl C Z I L R Q i; exact e_get (g := 10) (s := 2) (ty := 2) d134_23 rfl rfl (inG_ne (by decide)),
  by intro ls st h Q l0 x; exact e_iload_n d134_26 rfl,
  by intro ls st n sl C Z I L R Q i y; exact e_iald d134_27,
  by intro ls st h Q x y; exact e_ic d134_28 (by decide) c_le,
  by intro ls st h Q; exact e_ldc2 (p := 980) d134_31 rfl,
  by intros; exact e_rL d134_34 rfl,
  by intro ls st h Q i; exact e_aload_n d134_35 rfl,
  by intro ls st h Q l0 x; exact e_iload_n d134_36 rfl,
  by intro ls st n sl C Z I L R Q x0 i hh; exact e_iv (k2 := 125) (c := 11) (as := [.int x0]) d134_37 rfl (by decide) rfl rfl (by decide +kernel) (Nat.le_of_ble_eq_true rfl) rfl hh,
  by intro ls st h Q l0 l1 x; exact e_iload_n d134_40 rfl,
  by intro ls st h Q x; exact e_if d134_41 (by decide) c_ne,
  by intro ls st h Q i; exact e_aload_n d134_44 rfl⟩
set_option maxRecDepth 20000 in
theorem S134_1 : (∀ (ls : Lo) (st : List Value) (n sl : Nat) (C Z : Nat → Nat) (I : Nat → Nat → Int32) (L : Nat → Nat → Int64) (R : Nat → Nat → Nat) (Q : Option Value → Hp → Prop) (i : Nat), Wp 134 45 (ls) (.ref i :: st) (n, sl, C, Z, I, L, R) Q ↔ (C i = 11 ∧ Wp 134 48 (ls) (.ref (R i 21) :: st) (n, sl, C, Z, I, L, R) Q)) ∧
  (∀ (ls : Lo) (st : List Value) (h : Hp) (Q : Option Value → Hp → Prop) (l0 l1 l2 : Option Value) (x : Int32), Wp 134 48 (l0 :: l1 :: l2 :: some (.int x) :: ls) (st) h Q ↔ Wp 134 49 (l0 :: l1 :: l2 :: some (.int x) :: ls) (.int x :: st) h Q) ∧
  (∀ (ls : Lo) (st : List Value) (n sl : Nat) (C Z : Nat → Nat) (I : Nat → Nat → Int32) (L : Nat → Nat → Int64) (R : Nat → Nat → Nat) (Q : Option Value → Hp → Prop) (i : Nat) (y : Int32), Wp 134 49 (ls) (.int y :: .ref i :: st) (n, sl, C, Z, I, L, R) Q ↔ ((inb y (Z i) = true ∧ C i = 22) ∧ Wp 134 50 (ls) (.long (L i (ix y)) :: st) (n, sl, C, Z, I, L, R) Q)) ∧
  (∀ (ls : Lo) (h : Hp) (Q : Option Value → Hp → Prop) (a : Int64), Wp 134 50 (ls) ([.long a]) h Q ↔ Q (some (.long a)) h) ∧
  (∀ (ls : Lo) (st : List Value) (h : Hp) (Q : Option Value → Hp → Prop)  (i : Nat), Wp 134 51 (some (.ref i) :: ls) (st) h Q ↔ Wp 134 52 (some (.ref i) :: ls) (.ref i :: st) h Q) ∧
  (∀ (ls : Lo) (st : List Value) (n sl : Nat) (C Z : Nat → Nat) (I : Nat → Nat → Int32) (L : Nat → Nat → Int64) (R : Nat → Nat → Nat) (Q : Option Value → Hp → Prop) (i : Nat), Wp 134 52 (ls) (.ref i :: st) (n, sl, C, Z, I, L, R) Q ↔ (C i = 11 ∧ Wp 134 55 (ls) (.ref (R i 4) :: st) (n, sl, C, Z, I, L, R) Q)) ∧
  (∀ (ls : Lo) (st : List Value) (h : Hp) (Q : Option Value → Hp → Prop) (l0 : Option Value) (x : Int32), Wp 134 55 (l0 :: some (.int x) :: ls) (st) h Q ↔ Wp 134 56 (l0 :: some (.int x) :: ls) (.int x :: st) h Q) ∧
  (∀ (ls : Lo) (st : List Value) (n sl : Nat) (C Z : Nat → Nat) (I : Nat → Nat → Int32) (L : Nat → Nat → Int64) (R : Nat → Nat → Nat) (Q : Option Value → Hp → Prop) (i : Nat) (y : Int32), Wp 134 56 (ls) (.int y :: .ref i :: st) (n, sl, C, Z, I, L, R) Q ↔ ((inb y (Z i) = true ∧ C i = 21) ∧ Wp 134 57 (ls) (.int (I i (ix y)) :: st) (n, sl, C, Z, I, L, R) Q)) ∧
  (∀ (ls : Lo) (st : List Value) (h : Hp) (Q : Option Value → Hp → Prop) (x : Int32), Wp 134 57 (ls) (.int x :: st) h Q ↔ Wp 134 58 (ls) (.long x.toInt64 :: st) h Q) ∧
  (∀ (ls : Lo) (st : List Value) (h : Hp) (Q : Option Value → Hp → Prop)  (i : Nat), Wp 134 58 (some (.ref i) :: ls) (st) h Q ↔ Wp 134 59 (some (.ref i) :: ls) (.ref i :: st) h Q) ∧
  (∀ (ls : Lo) (st : List Value) (n sl : Nat) (C Z : Nat → Nat) (I : Nat → Nat → Int32) (L : Nat → Nat → Int64) (R : Nat → Nat → Nat) (Q : Option Value → Hp → Prop) (i : Nat), Wp 134 59 (ls) (.ref i :: st) (n, sl, C, Z, I, L, R) Q ↔ (C i = 11 ∧ Wp 134 62 (ls) (.ref (R i 21) :: st) (n, sl, C, Z, I, L, R) Q)) ∧
  (∀ (ls : Lo) (st : List Value) (h : Hp) (Q : Option Value → Hp → Prop) (l0 l1 l2 : Option Value) (x : Int32), Wp 134 62 (l0 :: l1 :: l2 :: some (.int x) :: ls) (st) h Q ↔ Wp 134 63 (l0 :: l1 :: l2 :: some (.int x) :: ls) (.int x :: st) h Q) ∧
  (∀ (ls : Lo) (st : List Value) (n sl : Nat) (C Z : Nat → Nat) (I : Nat → Nat → Int32) (L : Nat → Nat → Int64) (R : Nat → Nat → Nat) (Q : Option Value → Hp → Prop) (i : Nat) (y : Int32), Wp 134 63 (ls) (.int y :: .ref i :: st) (n, sl, C, Z, I, L, R) Q ↔ ((inb y (Z i) = true ∧ C i = 22) ∧ Wp 134 64 (ls) (.long (L i (ix y)) :: st) (n, sl, C, Z, I, L, R) Q)) ∧
  (∀ (ls : Lo) (st : List Value) (h : Hp) (Q : Option Value → Hp → Prop) (a b : Int64), Wp 134 64 (ls) (.long b :: .long a :: st) h Q ↔ Wp 134 65 (ls) (.long (a * b) :: st) h Q) ∧
  (∀ (ls : Lo) (st : List Value) (h : Hp) (Q : Option Value → Hp → Prop) (l0 l1 l2 l3 l4 l5 : Option Value) (a : Int64), Wp 134 65 (l0 :: l1 :: l2 :: l3 :: l4 :: l5 :: ls) (.long a :: st) h Q ↔ Wp 134 67 (l0 :: l1 :: l2 :: clr l3 :: some (.long a) :: none :: ls) (st) h Q) ∧
  (∀ (ls : Lo) (st : List Value) (h : Hp) (Q : Option Value → Hp → Prop) (l0 l1 l2 : Option Value) (x : Int32), Wp 134 67 (l0 :: l1 :: l2 :: some (.int x) :: ls) (st) h Q ↔ Wp 134 68 (l0 :: l1 :: l2 :: some (.int x) :: ls) (.int x :: st) h Q) ∧
  (∀ (ls : Lo) (st : List Value) (h : Hp) (Q : Option Value → Hp → Prop), Wp 134 68 (ls) (st) h Q ↔ Wp 134 69 (ls) (.int (1) :: st) h Q) ∧
  (∀ (ls : Lo) (st : List Value) (h : Hp) (Q : Option Value → Hp → Prop) (x y : Int32), Wp 134 69 (ls) (.int y :: .int x :: st) h Q ↔ Wp 134 70 (ls) (.int (x + y) :: st) h Q) ∧
  (∀ (ls : Lo) (st : List Value) (h : Hp) (Q : Option Value → Hp → Prop) (l0 l1 l2 l3 l4 l5 l6 : Option Value) (x : Int32), Wp 134 70 (l0 :: l1 :: l2 :: l3 :: l4 :: l5 :: l6 :: ls) (.int x :: st) h Q ↔ Wp 134 72 (l0 :: l1 :: l2 :: l3 :: l4 :: clr l5 :: some (.int x) :: ls) (st) h Q) ∧
  (∀ (ls : Lo) (st : List Value) (h : Hp) (Q : Option Value → Hp → Prop) (l0 l1 l2 l3 l4 l5 : Option Value) (x : Int32), Wp 134 72 (l0 :: l1 :: l2 :: l3 :: l4 :: l5 :: some (.int x) :: ls) (st) h Q ↔ Wp 134 74 (l0 :: l1 :: l2 :: l3 :: l4 :: l5 :: some (.int x) :: ls) (.int x :: st) h Q) ∧
  (∀ (ls : Lo) (st : List Value) (h : Hp) (Q : Option Value → Hp → Prop)  (i : Nat), Wp 134 74 (some (.ref i) :: ls) (st) h Q ↔ Wp 134 75 (some (.ref i) :: ls) (.ref i :: st) h Q) ∧
  (∀ (ls : Lo) (st : List Value) (n sl : Nat) (C Z : Nat → Nat) (I : Nat → Nat → Int32) (L : Nat → Nat → Int64) (R : Nat → Nat → Nat) (Q : Option Value → Hp → Prop) (i : Nat), Wp 134 75 (ls) (.ref i :: st) (n, sl, C, Z, I, L, R) Q ↔ (C i = 11 ∧ Wp 134 78 (ls) (.ref (R i 2) :: st) (n, sl, C, Z, I, L, R) Q)) ∧
  (∀ (ls : Lo) (st : List Value) (h : Hp) (Q : Option Value → Hp → Prop) (l0 : Option Value) (x : Int32), Wp 134 78 (l0 :: some (.int x) :: ls) (st) h Q ↔ Wp 134 79 (l0 :: some (.int x) :: ls) (.int x :: st) h Q) ∧
  (∀ (ls : Lo) (st : List Value) (n sl : Nat) (C Z : Nat → Nat) (I : Nat → Nat → Int32) (L : Nat → Nat → Int64) (R : Nat → Nat → Nat) (Q : Option Value → Hp → Prop) (i : Nat) (y : Int32), Wp 134 79 (ls) (.int y :: .ref i :: st) (n, sl, C, Z, I, L, R) Q ↔ ((inb y (Z i) = true ∧ C i = 21) ∧ Wp 134 80 (ls) (.int (I i (ix y)) :: st) (n, sl, C, Z, I, L, R) Q)) ∧
  (∀ (ls : Lo) (st : List Value) (h : Hp) (Q : Option Value → Hp → Prop) (x y : Int32), Wp 134 80 (ls) (.int y :: .int x :: st) h Q ↔ Br 134 121 83 ls st h Q (y < x)) := ⟨by intro ls st n sl C Z I L R Q i; exact e_get (g := 10) (s := 21) (ty := 2) d134_45 rfl rfl (inG_ne (by decide)),
  by intro ls st h Q l0 l1 l2 x; exact e_iload_n d134_48 rfl,
  by intro ls st n sl C Z I L R Q i y; exact e_lald d134_49,
  by intros; exact e_rL d134_50 rfl,
  by intro ls st h Q i; exact e_aload_n d134_51 rfl,
  by intro ls st n sl C Z I L R Q i; exact e_get (g := 10) (s := 4) (ty := 2) d134_52 rfl rfl (inG_ne (by decide)),
  by intro ls st h Q l0 x; exact e_iload_n d134_55 rfl,
  by intro ls st n sl C Z I L R Q i y; exact e_iald d134_56,
  by intro ls st h Q x; exact e_i2l d134_57,
  by intro ls st h Q i; exact e_aload_n d134_58 rfl,
  by intro ls st n sl C Z I L R Q i; exact e_get (g := 10) (s := 21) (ty := 2) d134_59 rfl rfl (inG_ne (by decide)),
  by intro ls st h Q l0 l1 l2 x; exact e_iload_n d134_62 rfl,
  by intro ls st n sl C Z I L R Q i y; exact e_lald d134_63,
  by intro ls st h Q a b; exact e_lmul d134_64,
  by intro ls st h Q l0 l1 l2 l3 l4 l5 a; exact e_lstore d134_65 rfl,
  by intro ls st h Q l0 l1 l2 x; exact e_iload_n d134_67 rfl,
  by intro ls st h Q; exact e_iconst d134_68 rfl,
  by intro ls st h Q x y; exact e_iadd d134_69,
  by intro ls st h Q l0 l1 l2 l3 l4 l5 l6 x; exact e_istore d134_70 rfl,
  by intro ls st h Q l0 l1 l2 l3 l4 l5 x; exact e_iload d134_72 rfl,
  by intro ls st h Q i; exact e_aload_n d134_74 rfl,
  by intro ls st n sl C Z I L R Q i; exact e_get (g := 10) (s := 2) (ty := 2) d134_75 rfl rfl (inG_ne (by decide)),
  by intro ls st h Q l0 x; exact e_iload_n d134_78 rfl,
  by intro ls st n sl C Z I L R Q i y; exact e_iald d134_79,
  by intro ls st h Q x y; exact e_ic d134_80 (by decide) c_gt⟩
set_option maxRecDepth 20000 in
theorem S134_2 : (∀ (ls : Lo) (st : List Value) (h : Hp) (Q : Option Value → Hp → Prop) (l0 l1 l2 l3 : Option Value) (a : Int64), Wp 134 83 (l0 :: l1 :: l2 :: l3 :: some (.long a) :: ls) (st) h Q ↔ Wp 134 85 (l0 :: l1 :: l2 :: l3 :: some (.long a) :: ls) (.long a :: st) h Q) ∧
  (∀ (ls : Lo) (st : List Value) (h : Hp) (Q : Option Value → Hp → Prop)  (i : Nat), Wp 134 85 (some (.ref i) :: ls) (st) h Q ↔ Wp 134 86 (some (.ref i) :: ls) (.ref i :: st) h Q) ∧
  (∀ (ls : Lo) (st : List Value) (n sl : Nat) (C Z : Nat → Nat) (I : Nat → Nat → Int32) (L : Nat → Nat → Int64) (R : Nat → Nat → Nat) (Q : Option Value → Hp → Prop) (i : Nat), Wp 134 86 (ls) (.ref i :: st) (n, sl, C, Z, I, L, R) Q ↔ (C i = 11 ∧ Wp 134 89 (ls) (.ref (R i 21) :: st) (n, sl, C, Z, I, L, R) Q)) ∧
  (∀ (ls : Lo) (st : List Value) (h : Hp) (Q : Option Value → Hp → Prop) (l0 l1 l2 l3 l4 l5 : Option Value) (x : Int32), Wp 134 89 (l0 :: l1 :: l2 :: l3 :: l4 :: l5 :: some (.int x) :: ls) (st) h Q ↔ Wp 134 91 (l0 :: l1 :: l2 :: l3 :: l4 :: l5 :: some (.int x) :: ls) (.int x :: st) h Q) ∧
  (∀ (ls : Lo) (st : List Value) (n sl : Nat) (C Z : Nat → Nat) (I : Nat → Nat → Int32) (L : Nat → Nat → Int64) (R : Nat → Nat → Nat) (Q : Option Value → Hp → Prop) (i : Nat) (y : Int32), Wp 134 91 (ls) (.int y :: .ref i :: st) (n, sl, C, Z, I, L, R) Q ↔ ((inb y (Z i) = true ∧ C i = 22) ∧ Wp 134 92 (ls) (.long (L i (ix y)) :: st) (n, sl, C, Z, I, L, R) Q)) ∧
  (∀ (ls : Lo) (st : List Value) (h : Hp) (Q : Option Value → Hp → Prop)  (i : Nat), Wp 134 92 (some (.ref i) :: ls) (st) h Q ↔ Wp 134 93 (some (.ref i) :: ls) (.ref i :: st) h Q) ∧
  (∀ (ls : Lo) (st : List Value) (n sl : Nat) (C Z : Nat → Nat) (I : Nat → Nat → Int32) (L : Nat → Nat → Int64) (R : Nat → Nat → Nat) (Q : Option Value → Hp → Prop) (i : Nat), Wp 134 93 (ls) (.ref i :: st) (n, sl, C, Z, I, L, R) Q ↔ (C i = 11 ∧ Wp 134 96 (ls) (.ref (R i 3) :: st) (n, sl, C, Z, I, L, R) Q)) ∧
  (∀ (ls : Lo) (st : List Value) (h : Hp) (Q : Option Value → Hp → Prop) (l0 : Option Value) (x : Int32), Wp 134 96 (l0 :: some (.int x) :: ls) (st) h Q ↔ Wp 134 97 (l0 :: some (.int x) :: ls) (.int x :: st) h Q) ∧
  (∀ (ls : Lo) (st : List Value) (n sl : Nat) (C Z : Nat → Nat) (I : Nat → Nat → Int32) (L : Nat → Nat → Int64) (R : Nat → Nat → Nat) (Q : Option Value → Hp → Prop) (i : Nat) (y : Int32), Wp 134 97 (ls) (.int y :: .ref i :: st) (n, sl, C, Z, I, L, R) Q ↔ ((inb y (Z i) = true ∧ C i = 21) ∧ Wp 134 98 (ls) (.int (I i (ix y)) :: st) (n, sl, C, Z, I, L, R) Q)) ∧
  (∀ (ls : Lo) (st : List Value) (h : Hp) (Q : Option Value → Hp → Prop) (x : Int32), Wp 134 98 (ls) (.int x :: st) h Q ↔ Wp 134 99 (ls) (.long x.toInt64 :: st) h Q) ∧
  (∀ (ls : Lo) (st : List Value) (h : Hp) (Q : Option Value → Hp → Prop) (a b : Int64), Wp 134 99 (ls) (.long b :: .long a :: st) h Q ↔ Wp 134 100 (ls) (.long (a * b) :: st) h Q) ∧
  (∀ (ls : Lo) (st : List Value) (h : Hp) (Q : Option Value → Hp → Prop)  (i : Nat), Wp 134 100 (some (.ref i) :: ls) (st) h Q ↔ Wp 134 101 (some (.ref i) :: ls) (.ref i :: st) h Q) ∧
  (∀ (ls : Lo) (st : List Value) (h : Hp) (Q : Option Value → Hp → Prop) (l0 : Option Value) (x : Int32), Wp 134 101 (l0 :: some (.int x) :: ls) (st) h Q ↔ Wp 134 102 (l0 :: some (.int x) :: ls) (.int x :: st) h Q) ∧
  (∀ (ls : Lo) (st : List Value) (h : Hp) (Q : Option Value → Hp → Prop) (l0 l1 l2 l3 l4 l5 : Option Value) (x : Int32), Wp 134 102 (l0 :: l1 :: l2 :: l3 :: l4 :: l5 :: some (.int x) :: ls) (st) h Q ↔ Wp 134 104 (l0 :: l1 :: l2 :: l3 :: l4 :: l5 :: some (.int x) :: ls) (.int x :: st) h Q) ∧
  (∀ (ls : Lo) (st : List Value) (h : Hp) (Q : Option Value → Hp → Prop) (l0 l1 l2 : Option Value) (x : Int32), Wp 134 104 (l0 :: l1 :: l2 :: some (.int x) :: ls) (st) h Q ↔ Wp 134 105 (l0 :: l1 :: l2 :: some (.int x) :: ls) (.int x :: st) h Q) ∧
  (∀ (ls : Lo) (st : List Value) (h : Hp) (Q : Option Value → Hp → Prop) (x y : Int32), Wp 134 105 (ls) (.int y :: .int x :: st) h Q ↔ Wp 134 106 (ls) (.int (x - y) :: st) h Q) ∧
  (∀ (ls : Lo) (st : List Value) (h : Hp) (Q : Option Value → Hp → Prop), Wp 134 106 (ls) (st) h Q ↔ Wp 134 107 (ls) (.int (1) :: st) h Q) ∧
  (∀ (ls : Lo) (st : List Value) (h : Hp) (Q : Option Value → Hp → Prop) (x y : Int32), Wp 134 107 (ls) (.int y :: .int x :: st) h Q ↔ Wp 134 108 (ls) (.int (x - y) :: st) h Q) ∧
  (∀ (ls : Lo) (st : List Value) (n sl : Nat) (C Z : Nat → Nat) (I : Nat → Nat → Int32) (L : Nat → Nat → Int64) (R : Nat → Nat → Nat) (Q : Option Value → Hp → Prop) (x0 : Int32) (x1 : Int32) (i : Nat), C i = 11 → (Wp 134 108 (ls) (.int x1 :: .int x0 :: .ref i :: st) (n, sl, C, Z, I, L, R) Q ↔ (wsum st ≤ 8 ∧ Call 122 [some (.ref i), some (.int x0), some (.int x1), none, none, none] (n, sl, C, Z, I, L, R) 134 111 ls st Q))) ∧
  (∀ (ls : Lo) (st : List Value) (h : Hp) (Q : Option Value → Hp → Prop) (a b : Int64), Wp 134 111 (ls) (.long b :: .long a :: st) h Q ↔ Wp 134 112 (ls) (.long (a * b) :: st) h Q) ∧
  (∀ (ls : Lo) (st : List Value) (h : Hp) (Q : Option Value → Hp → Prop) (a b : Int64), Wp 134 112 (ls) (.long b :: .long a :: st) h Q ↔ Wp 134 113 (ls) (.long (a + b) :: st) h Q) ∧
  (∀ (ls : Lo) (st : List Value) (h : Hp) (Q : Option Value → Hp → Prop) (l0 l1 l2 l3 l4 l5 : Option Value) (a : Int64), Wp 134 113 (l0 :: l1 :: l2 :: l3 :: l4 :: l5 :: ls) (.long a :: st) h Q ↔ Wp 134 115 (l0 :: l1 :: l2 :: clr l3 :: some (.long a) :: none :: ls) (st) h Q) ∧
  (∀ (ls : Lo) (st : List Value) (h : Hp) (Q : Option Value → Hp → Prop) (l0 l1 l2 l3 l4 l5 : Option Value) (x : Int32), Wp 134 115 (l0 :: l1 :: l2 :: l3 :: l4 :: l5 :: some (.int x) :: ls) (st) h Q ↔ Wp 134 118 (l0 :: l1 :: l2 :: l3 :: l4 :: clr l5 :: some (.int (x + (1))) :: ls) (st) h Q) ∧
  (∀ (ls : Lo) (st : List Value) (h : Hp) (Q : Option Value → Hp → Prop), Wp 134 118 (ls) (st) h Q ↔ Wp 134 72 (ls) (st) h Q) ∧
  (∀ (ls : Lo) (st : List Value) (h : Hp) (Q : Option Value → Hp → Prop) (l0 l1 l2 l3 : Option Value) (a : Int64), Wp 134 121 (l0 :: l1 :: l2 :: l3 :: some (.long a) :: ls) (st) h Q ↔ Wp 134 123 (l0 :: l1 :: l2 :: l3 :: some (.long a) :: ls) (.long a :: st) h Q) := ⟨by intro ls st h Q l0 l1 l2 l3 a; exact e_lload d134_83 rfl,
  by intro ls st h Q i; exact e_aload_n d134_85 rfl,
  by intro ls st n sl C Z I L R Q i; exact e_get (g := 10) (s := 21) (ty := 2) d134_86 rfl rfl (inG_ne (by decide)),
  by intro ls st h Q l0 l1 l2 l3 l4 l5 x; exact e_iload d134_89 rfl,
  by intro ls st n sl C Z I L R Q i y; exact e_lald d134_91,
  by intro ls st h Q i; exact e_aload_n d134_92 rfl,
  by intro ls st n sl C Z I L R Q i; exact e_get (g := 10) (s := 3) (ty := 2) d134_93 rfl rfl (inG_ne (by decide)),
  by intro ls st h Q l0 x; exact e_iload_n d134_96 rfl,
  by intro ls st n sl C Z I L R Q i y; exact e_iald d134_97,
  by intro ls st h Q x; exact e_i2l d134_98,
  by intro ls st h Q a b; exact e_lmul d134_99,
  by intro ls st h Q i; exact e_aload_n d134_100 rfl,
  by intro ls st h Q l0 x; exact e_iload_n d134_101 rfl,
  by intro ls st h Q l0 l1 l2 l3 l4 l5 x; exact e_iload d134_102 rfl,
  by intro ls st h Q l0 l1 l2 x; exact e_iload_n d134_104 rfl,
  by intro ls st h Q x y; exact e_isub d134_105,
  by intro ls st h Q; exact e_iconst d134_106 rfl,
  by intro ls st h Q x y; exact e_isub d134_107,
  by intro ls st n sl C Z I L R Q x0 x1 i hh; exact e_iv (k2 := 122) (c := 11) (as := [.int x0, .int x1]) d134_108 rfl (by decide) rfl rfl (by decide +kernel) (Nat.le_of_ble_eq_true rfl) rfl hh,
  by intro ls st h Q a b; exact e_lmul d134_111,
  by intro ls st h Q a b; exact e_ladd d134_112,
  by intro ls st h Q l0 l1 l2 l3 l4 l5 a; exact e_lstore d134_113 rfl,
  by intro ls st h Q l0 l1 l2 l3 l4 l5 x; exact e_iinc d134_115 rfl rfl rfl,
  by intro ls st h Q; exact e_goto d134_118 (by decide),
  by intro ls st h Q l0 l1 l2 l3 a; exact e_lload d134_121 rfl⟩
theorem S134_3 : ∀ (ls : Lo) (h : Hp) (Q : Option Value → Hp → Prop) (a : Int64), Wp 134 123 (ls) ([.long a]) h Q ↔ Q (some (.long a)) h := by intros; exact e_rL d134_123 rfl
theorem d135_0 : decode (byt 135) 0 = .ok (.lconst 1, 1) := by decide +kernel
theorem d135_1 : decode (byt 135) 1 = .ok (.lstore_n 3, 1) := by decide +kernel
theorem d135_2 : decode (byt 135) 2 = .ok (.iconst 0, 1) := by decide +kernel
theorem d135_3 : decode (byt 135) 3 = .ok (.istore 5, 2) := by decide +kernel
theorem d135_5 : decode (byt 135) 5 = .ok (.iload 5, 2) := by decide +kernel
theorem d135_7 : decode (byt 135) 7 = .ok (.iload_n 2, 1) := by decide +kernel
theorem d135_8 : decode (byt 135) 8 = .ok (.if_icmp .ge 13, 3) := by decide +kernel
theorem d135_11 : decode (byt 135) 11 = .ok (.lload_n 3, 1) := by decide +kernel
theorem d135_12 : decode (byt 135) 12 = .ok (.lload_n 0, 1) := by decide +kernel
theorem d135_13 : decode (byt 135) 13 = .ok (.lmul, 1) := by decide +kernel
theorem d135_14 : decode (byt 135) 14 = .ok (.lstore_n 3, 1) := by decide +kernel
theorem d135_15 : decode (byt 135) 15 = .ok (.iinc 5 1, 3) := by decide +kernel
theorem d135_18 : decode (byt 135) 18 = .ok (.goto (-13), 3) := by decide +kernel
theorem d135_21 : decode (byt 135) 21 = .ok (.lload_n 3, 1) := by decide +kernel
theorem d135_22 : decode (byt 135) 22 = .ok (.lreturn, 1) := by decide +kernel
set_option maxRecDepth 20000 in
theorem S135_0 : (∀ (ls : Lo) (st : List Value) (h : Hp) (Q : Option Value → Hp → Prop), Wp 135 0 (ls) (st) h Q ↔ Wp 135 1 (ls) (.long 1 :: st) h Q) ∧
  (∀ (ls : Lo) (st : List Value) (h : Hp) (Q : Option Value → Hp → Prop) (l0 l1 l2 l3 l4 : Option Value) (a : Int64), Wp 135 1 (l0 :: l1 :: l2 :: l3 :: l4 :: ls) (.long a :: st) h Q ↔ Wp 135 2 (l0 :: l1 :: clr l2 :: some (.long a) :: none :: ls) (st) h Q) ∧
  (∀ (ls : Lo) (st : List Value) (h : Hp) (Q : Option Value → Hp → Prop), Wp 135 2 (ls) (st) h Q ↔ Wp 135 3 (ls) (.int (0) :: st) h Q) ∧
  (∀ (ls : Lo) (st : List Value) (h : Hp) (Q : Option Value → Hp → Prop) (l0 l1 l2 l3 l4 l5 : Option Value) (x : Int32), Wp 135 3 (l0 :: l1 :: l2 :: l3 :: l4 :: l5 :: ls) (.int x :: st) h Q ↔ Wp 135 5 (l0 :: l1 :: l2 :: l3 :: clr l4 :: some (.int x) :: ls) (st) h Q) ∧
  (∀ (ls : Lo) (st : List Value) (h : Hp) (Q : Option Value → Hp → Prop) (l0 l1 l2 l3 l4 : Option Value) (x : Int32), Wp 135 5 (l0 :: l1 :: l2 :: l3 :: l4 :: some (.int x) :: ls) (st) h Q ↔ Wp 135 7 (l0 :: l1 :: l2 :: l3 :: l4 :: some (.int x) :: ls) (.int x :: st) h Q) ∧
  (∀ (ls : Lo) (st : List Value) (h : Hp) (Q : Option Value → Hp → Prop) (l0 l1 : Option Value) (x : Int32), Wp 135 7 (l0 :: l1 :: some (.int x) :: ls) (st) h Q ↔ Wp 135 8 (l0 :: l1 :: some (.int x) :: ls) (.int x :: st) h Q) ∧
  (∀ (ls : Lo) (st : List Value) (h : Hp) (Q : Option Value → Hp → Prop) (x y : Int32), Wp 135 8 (ls) (.int y :: .int x :: st) h Q ↔ Br 135 21 11 ls st h Q (y ≤ x)) ∧
  (∀ (ls : Lo) (st : List Value) (h : Hp) (Q : Option Value → Hp → Prop) (l0 l1 l2 : Option Value) (a : Int64), Wp 135 11 (l0 :: l1 :: l2 :: some (.long a) :: ls) (st) h Q ↔ Wp 135 12 (l0 :: l1 :: l2 :: some (.long a) :: ls) (.long a :: st) h Q) ∧
  (∀ (ls : Lo) (st : List Value) (h : Hp) (Q : Option Value → Hp → Prop)  (a : Int64), Wp 135 12 (some (.long a) :: ls) (st) h Q ↔ Wp 135 13 (some (.long a) :: ls) (.long a :: st) h Q) ∧
  (∀ (ls : Lo) (st : List Value) (h : Hp) (Q : Option Value → Hp → Prop) (a b : Int64), Wp 135 13 (ls) (.long b :: .long a :: st) h Q ↔ Wp 135 14 (ls) (.long (a * b) :: st) h Q) ∧
  (∀ (ls : Lo) (st : List Value) (h : Hp) (Q : Option Value → Hp → Prop) (l0 l1 l2 l3 l4 : Option Value) (a : Int64), Wp 135 14 (l0 :: l1 :: l2 :: l3 :: l4 :: ls) (.long a :: st) h Q ↔ Wp 135 15 (l0 :: l1 :: clr l2 :: some (.long a) :: none :: ls) (st) h Q) ∧
  (∀ (ls : Lo) (st : List Value) (h : Hp) (Q : Option Value → Hp → Prop) (l0 l1 l2 l3 l4 : Option Value) (x : Int32), Wp 135 15 (l0 :: l1 :: l2 :: l3 :: l4 :: some (.int x) :: ls) (st) h Q ↔ Wp 135 18 (l0 :: l1 :: l2 :: l3 :: clr l4 :: some (.int (x + (1))) :: ls) (st) h Q) ∧
  (∀ (ls : Lo) (st : List Value) (h : Hp) (Q : Option Value → Hp → Prop), Wp 135 18 (ls) (st) h Q ↔ Wp 135 5 (ls) (st) h Q) ∧
  (∀ (ls : Lo) (st : List Value) (h : Hp) (Q : Option Value → Hp → Prop) (l0 l1 l2 : Option Value) (a : Int64), Wp 135 21 (l0 :: l1 :: l2 :: some (.long a) :: ls) (st) h Q ↔ Wp 135 22 (l0 :: l1 :: l2 :: some (.long a) :: ls) (.long a :: st) h Q) ∧
  (∀ (ls : Lo) (h : Hp) (Q : Option Value → Hp → Prop) (a : Int64), Wp 135 22 (ls) ([.long a]) h Q ↔ Q (some (.long a)) h) := ⟨by intro ls st h Q; exact e_lconst d135_0 rfl,
  by intro ls st h Q l0 l1 l2 l3 l4 a; exact e_lstore_n d135_1 rfl,
  by intro ls st h Q; exact e_iconst d135_2 rfl,
  by intro ls st h Q l0 l1 l2 l3 l4 l5 x; exact e_istore d135_3 rfl,
  by intro ls st h Q l0 l1 l2 l3 l4 x; exact e_iload d135_5 rfl,
  by intro ls st h Q l0 l1 x; exact e_iload_n d135_7 rfl,
  by intro ls st h Q x y; exact e_ic d135_8 (by decide) c_ge,
  by intro ls st h Q l0 l1 l2 a; exact e_lload_n d135_11 rfl,
  by intro ls st h Q a; exact e_lload_n d135_12 rfl,
  by intro ls st h Q a b; exact e_lmul d135_13,
  by intro ls st h Q l0 l1 l2 l3 l4 a; exact e_lstore_n d135_14 rfl,
  by intro ls st h Q l0 l1 l2 l3 l4 x; exact e_iinc d135_15 rfl rfl rfl,
  by intro ls st h Q; exact e_goto d135_18 (by decide),
  by intro ls st h Q l0 l1 l2 a; exact e_lload_n d135_21 rfl,
  by intros; exact e_rL d135_22 rfl⟩
theorem d136_0 : decode (byt 136) 0 = .ok (.aload_n 0, 1) := by decide +kernel
theorem d136_1 : decode (byt 136) 1 = .ok (.iload_n 1, 1) := by decide +kernel
theorem d136_2 : decode (byt 136) 2 = .ok (.invokevirtual 105, 3) := by decide +kernel
theorem d136_5 : decode (byt 136) 5 = .ok (.ifCond .eq 22, 3) := by decide +kernel
theorem d136_8 : decode (byt 136) 8 = .ok (.iload_n 2, 1) := by decide +kernel
theorem d136_9 : decode (byt 136) 9 = .ok (.ifCond .lt 18, 3) := by decide +kernel
theorem d136_12 : decode (byt 136) 12 = .ok (.iload_n 2, 1) := by decide +kernel
theorem d136_13 : decode (byt 136) 13 = .ok (.bipush 8, 2) := by decide +kernel
theorem d136_15 : decode (byt 136) 15 = .ok (.if_icmp .gt 12, 3) := by decide +kernel
theorem d136_18 : decode (byt 136) 18 = .ok (.iload_n 3, 1) := by decide +kernel
theorem d136_19 : decode (byt 136) 19 = .ok (.ifCond .lt 8, 3) := by decide +kernel
theorem d136_22 : decode (byt 136) 22 = .ok (.iload_n 3, 1) := by decide +kernel
theorem d136_23 : decode (byt 136) 23 = .ok (.iconst 1, 1) := by decide +kernel
theorem d136_24 : decode (byt 136) 24 = .ok (.if_icmp .le 7, 3) := by decide +kernel
theorem d136_27 : decode (byt 136) 27 = .ok (.ldc2_w 169, 3) := by decide +kernel
theorem d136_30 : decode (byt 136) 30 = .ok (.lreturn, 1) := by decide +kernel
theorem d136_31 : decode (byt 136) 31 = .ok (.iload_n 2, 1) := by decide +kernel
theorem d136_32 : decode (byt 136) 32 = .ok (.ifCond .ne 18, 3) := by decide +kernel
theorem d136_35 : decode (byt 136) 35 = .ok (.aload_n 0, 1) := by decide +kernel
theorem d136_36 : decode (byt 136) 36 = .ok (.aload_n 0, 1) := by decide +kernel
theorem d136_37 : decode (byt 136) 37 = .ok (.getfield 19, 3) := by decide +kernel
theorem d136_40 : decode (byt 136) 40 = .ok (.iload_n 1, 1) := by decide +kernel
theorem d136_41 : decode (byt 136) 41 = .ok (.iaload, 1) := by decide +kernel
theorem d136_42 : decode (byt 136) 42 = .ok (.i2l, 1) := by decide +kernel
theorem d136_43 : decode (byt 136) 43 = .ok (.lconst 1, 1) := by decide +kernel
theorem d136_44 : decode (byt 136) 44 = .ok (.invokevirtual 171, 3) := by decide +kernel
theorem d136_47 : decode (byt 136) 47 = .ok (.goto 28, 3) := by decide +kernel
theorem d136_50 : decode (byt 136) 50 = .ok (.aload_n 0, 1) := by decide +kernel
theorem d136_51 : decode (byt 136) 51 = .ok (.aload_n 0, 1) := by decide +kernel
theorem d136_52 : decode (byt 136) 52 = .ok (.iload_n 1, 1) := by decide +kernel
theorem d136_53 : decode (byt 136) 53 = .ok (.iload_n 2, 1) := by decide +kernel
theorem d136_54 : decode (byt 136) 54 = .ok (.iconst 1, 1) := by decide +kernel
theorem d136_55 : decode (byt 136) 55 = .ok (.isub, 1) := by decide +kernel
theorem d136_56 : decode (byt 136) 56 = .ok (.invokevirtual 150, 3) := by decide +kernel
theorem d136_59 : decode (byt 136) 59 = .ok (.aload_n 0, 1) := by decide +kernel
theorem d136_60 : decode (byt 136) 60 = .ok (.getfield 16, 3) := by decide +kernel
theorem d136_63 : decode (byt 136) 63 = .ok (.iload_n 1, 1) := by decide +kernel
theorem d136_64 : decode (byt 136) 64 = .ok (.iaload, 1) := by decide +kernel
theorem d136_65 : decode (byt 136) 65 = .ok (.i2l, 1) := by decide +kernel
theorem d136_66 : decode (byt 136) 66 = .ok (.iload_n 2, 1) := by decide +kernel
theorem d136_67 : decode (byt 136) 67 = .ok (.iconst 1, 1) := by decide +kernel
theorem d136_68 : decode (byt 136) 68 = .ok (.isub, 1) := by decide +kernel
theorem d136_69 : decode (byt 136) 69 = .ok (.invokestatic 175, 3) := by decide +kernel
theorem d136_72 : decode (byt 136) 72 = .ok (.invokevirtual 171, 3) := by decide +kernel
theorem d136_75 : decode (byt 136) 75 = .ok (.aload_n 0, 1) := by decide +kernel
theorem d136_76 : decode (byt 136) 76 = .ok (.iload_n 3, 1) := by decide +kernel
theorem d136_77 : decode (byt 136) 77 = .ok (.invokevirtual 179, 3) := by decide +kernel
theorem d136_80 : decode (byt 136) 80 = .ok (.lreturn, 1) := by decide +kernel
set_option maxRecDepth 20000 in
theorem S136_0 : (∀ (ls : Lo) (st : List Value) (h : Hp) (Q : Option Value → Hp → Prop)  (i : Nat), Wp 136 0 (some (.ref i) :: ls) (st) h Q ↔ Wp 136 1 (some (.ref i) :: ls) (.ref i :: st) h Q) ∧
  (∀ (ls : Lo) (st : List Value) (h : Hp) (Q : Option Value → Hp → Prop) (l0 : Option Value) (x : Int32), Wp 136 1 (l0 :: some (.int x) :: ls) (st) h Q ↔ Wp 136 2 (l0 :: some (.int x) :: ls) (.int x :: st) h Q) ∧
  (∀ (ls : Lo) (st : List Value) (n sl : Nat) (C Z : Nat → Nat) (I : Nat → Nat → Int32) (L : Nat → Nat → Int64) (R : Nat → Nat → Nat) (Q : Option Value → Hp → Prop) (x0 : Int32) (i : Nat), C i = 11 → (Wp 136 2 (ls) (.int x0 :: .ref i :: st) (n, sl, C, Z, I, L, R) Q ↔ (wsum st ≤ 8 ∧ Call 103 [some (.ref i), some (.int x0)] (n, sl, C, Z, I, L, R) 136 5 ls st Q))) ∧
  (∀ (ls : Lo) (st : List Value) (h : Hp) (Q : Option Value → Hp → Prop) (x : Int32), Wp 136 5 (ls) (.int x :: st) h Q ↔ Br 136 27 8 ls st h Q (x = 0)) ∧
  (∀ (ls : Lo) (st : List Value) (h : Hp) (Q : Option Value → Hp → Prop) (l0 l1 : Option Value) (x : Int32), Wp 136 8 (l0 :: l1 :: some (.int x) :: ls) (st) h Q ↔ Wp 136 9 (l0 :: l1 :: some (.int x) :: ls) (.int x :: st) h Q) ∧
  (∀ (ls : Lo) (st : List Value) (h : Hp) (Q : Option Value → Hp → Prop) (x : Int32), Wp 136 9 (ls) (.int x :: st) h Q ↔ Br 136 27 12 ls st h Q (x < 0)) ∧
  (∀ (ls : Lo) (st : List Value) (h : Hp) (Q : Option Value → Hp → Prop) (l0 l1 : Option Value) (x : Int32), Wp 136 12 (l0 :: l1 :: some (.int x) :: ls) (st) h Q ↔ Wp 136 13 (l0 :: l1 :: some (.int x) :: ls) (.int x :: st) h Q) ∧
  (∀ (ls : Lo) (st : List Value) (h : Hp) (Q : Option Value → Hp → Prop), Wp 136 13 (ls) (st) h Q ↔ Wp 136 15 (ls) (.int (8) :: st) h Q) ∧
  (∀ (ls : Lo) (st : List Value) (h : Hp) (Q : Option Value → Hp → Prop) (x y : Int32), Wp 136 15 (ls) (.int y :: .int x :: st) h Q ↔ Br 136 27 18 ls st h Q (y < x)) ∧
  (∀ (ls : Lo) (st : List Value) (h : Hp) (Q : Option Value → Hp → Prop) (l0 l1 l2 : Option Value) (x : Int32), Wp 136 18 (l0 :: l1 :: l2 :: some (.int x) :: ls) (st) h Q ↔ Wp 136 19 (l0 :: l1 :: l2 :: some (.int x) :: ls) (.int x :: st) h Q) ∧
  (∀ (ls : Lo) (st : List Value) (h : Hp) (Q : Option Value → Hp → Prop) (x : Int32), Wp 136 19 (ls) (.int x :: st) h Q ↔ Br 136 27 22 ls st h Q (x < 0)) ∧
  (∀ (ls : Lo) (st : List Value) (h : Hp) (Q : Option Value → Hp → Prop) (l0 l1 l2 : Option Value) (x : Int32), Wp 136 22 (l0 :: l1 :: l2 :: some (.int x) :: ls) (st) h Q ↔ Wp 136 23 (l0 :: l1 :: l2 :: some (.int x) :: ls) (.int x :: st) h Q) ∧
  (∀ (ls : Lo) (st : List Value) (h : Hp) (Q : Option Value → Hp → Prop), Wp 136 23 (ls) (st) h Q ↔ Wp 136 24 (ls) (.int (1) :: st) h Q) ∧
  (∀ (ls : Lo) (st : List Value) (h : Hp) (Q : Option Value → Hp → Prop) (x y : Int32), Wp 136 24 (ls) (.int y :: .int x :: st) h Q ↔ Br 136 31 27 ls st h Q (x ≤ y)) ∧
  (∀ (ls : Lo) (st : List Value) (h : Hp) (Q : Option Value → Hp → Prop), Wp 136 27 (ls) (st) h Q ↔ Wp 136 30 (ls) (.long (-4611686018427387904) :: st) h Q) ∧
  (∀ (ls : Lo) (h : Hp) (Q : Option Value → Hp → Prop) (a : Int64), Wp 136 30 (ls) ([.long a]) h Q ↔ Q (some (.long a)) h) ∧
  (∀ (ls : Lo) (st : List Value) (h : Hp) (Q : Option Value → Hp → Prop) (l0 l1 : Option Value) (x : Int32), Wp 136 31 (l0 :: l1 :: some (.int x) :: ls) (st) h Q ↔ Wp 136 32 (l0 :: l1 :: some (.int x) :: ls) (.int x :: st) h Q) ∧
  (∀ (ls : Lo) (st : List Value) (h : Hp) (Q : Option Value → Hp → Prop) (x : Int32), Wp 136 32 (ls) (.int x :: st) h Q ↔ Br 136 50 35 ls st h Q (¬ x = 0)) ∧
  (∀ (ls : Lo) (st : List Value) (h : Hp) (Q : Option Value → Hp → Prop)  (i : Nat), Wp 136 35 (some (.ref i) :: ls) (st) h Q ↔ Wp 136 36 (some (.ref i) :: ls) (.ref i :: st) h Q) ∧
  (∀ (ls : Lo) (st : List Value) (h : Hp) (Q : Option Value → Hp → Prop)  (i : Nat), Wp 136 36 (some (.ref i) :: ls) (st) h Q ↔ Wp 136 37 (some (.ref i) :: ls) (.ref i :: st) h Q) ∧
  (∀ (ls : Lo) (st : List Value) (n sl : Nat) (C Z : Nat → Nat) (I : Nat → Nat → Int32) (L : Nat → Nat → Int64) (R : Nat → Nat → Nat) (Q : Option Value → Hp → Prop) (i : Nat), Wp 136 37 (ls) (.ref i :: st) (n, sl, C, Z, I, L, R) Q ↔ (C i = 11 ∧ Wp 136 40 (ls) (.ref (R i 4) :: st) (n, sl, C, Z, I, L, R) Q)) ∧
  (∀ (ls : Lo) (st : List Value) (h : Hp) (Q : Option Value → Hp → Prop) (l0 : Option Value) (x : Int32), Wp 136 40 (l0 :: some (.int x) :: ls) (st) h Q ↔ Wp 136 41 (l0 :: some (.int x) :: ls) (.int x :: st) h Q) ∧
  (∀ (ls : Lo) (st : List Value) (n sl : Nat) (C Z : Nat → Nat) (I : Nat → Nat → Int32) (L : Nat → Nat → Int64) (R : Nat → Nat → Nat) (Q : Option Value → Hp → Prop) (i : Nat) (y : Int32), Wp 136 41 (ls) (.int y :: .ref i :: st) (n, sl, C, Z, I, L, R) Q ↔ ((inb y (Z i) = true ∧ C i = 21) ∧ Wp 136 42 (ls) (.int (I i (ix y)) :: st) (n, sl, C, Z, I, L, R) Q)) ∧
  (∀ (ls : Lo) (st : List Value) (h : Hp) (Q : Option Value → Hp → Prop) (x : Int32), Wp 136 42 (ls) (.int x :: st) h Q ↔ Wp 136 43 (ls) (.long x.toInt64 :: st) h Q) ∧
  (∀ (ls : Lo) (st : List Value) (h : Hp) (Q : Option Value → Hp → Prop), Wp 136 43 (ls) (st) h Q ↔ Wp 136 44 (ls) (.long 1 :: st) h Q) := ⟨by intro ls st h Q i; exact e_aload_n d136_0 rfl,
  by intro ls st h Q l0 x; exact e_iload_n d136_1 rfl,
  by intro ls st n sl C Z I L R Q x0 i hh; exact e_iv (k2 := 103) (c := 11) (as := [.int x0]) d136_2 rfl (by decide) rfl rfl (by decide +kernel) (Nat.le_of_ble_eq_true rfl) rfl hh,
  by intro ls st h Q x; exact e_if d136_5 (by decide) c_eq,
  by intro ls st h Q l0 l1 x; exact e_iload_n d136_8 rfl,
  by intro ls st h Q x; exact e_if d136_9 (by decide) c_lt,
  by intro ls st h Q l0 l1 x; exact e_iload_n d136_12 rfl,
  by intro ls st h Q; exact e_bipush d136_13 rfl,
  by intro ls st h Q x y; exact e_ic d136_15 (by decide) c_gt,
  by intro ls st h Q l0 l1 l2 x; exact e_iload_n d136_18 rfl,
  by intro ls st h Q x; exact e_if d136_19 (by decide) c_lt,
  by intro ls st h Q l0 l1 l2 x; exact e_iload_n d136_22 rfl,
  by intro ls st h Q; exact e_iconst d136_23 rfl,
  by intro ls st h Q x y; exact e_ic d136_24 (by decide) c_le,
  by intro ls st h Q; exact e_ldc2 (p := 980) d136_27 rfl,
  by intros; exact e_rL d136_30 rfl,
  by intro ls st h Q l0 l1 x; exact e_iload_n d136_31 rfl,
  by intro ls st h Q x; exact e_if d136_32 (by decide) c_ne,
  by intro ls st h Q i; exact e_aload_n d136_35 rfl,
  by intro ls st h Q i; exact e_aload_n d136_36 rfl,
  by intro ls st n sl C Z I L R Q i; exact e_get (g := 10) (s := 4) (ty := 2) d136_37 rfl rfl (inG_ne (by decide)),
  by intro ls st h Q l0 x; exact e_iload_n d136_40 rfl,
  by intro ls st n sl C Z I L R Q i y; exact e_iald d136_41,
  by intro ls st h Q x; exact e_i2l d136_42,
  by intro ls st h Q; exact e_lconst d136_43 rfl⟩
set_option maxRecDepth 20000 in
theorem S136_1 : (∀ (ls : Lo) (st : List Value) (n sl : Nat) (C Z : Nat → Nat) (I : Nat → Nat → Int32) (L : Nat → Nat → Int64) (R : Nat → Nat → Nat) (Q : Option Value → Hp → Prop) (x0 : Int64) (x1 : Int64) (i : Nat), C i = 11 → (Wp 136 44 (ls) (.long x1 :: .long x0 :: .ref i :: st) (n, sl, C, Z, I, L, R) Q ↔ (wsum st ≤ 8 ∧ Call 106 [some (.ref i), some (.long x0), none, some (.long x1), none, none, none] (n, sl, C, Z, I, L, R) 136 47 ls st Q))) ∧
  (∀ (ls : Lo) (st : List Value) (h : Hp) (Q : Option Value → Hp → Prop), Wp 136 47 (ls) (st) h Q ↔ Wp 136 75 (ls) (st) h Q) ∧
  (∀ (ls : Lo) (st : List Value) (h : Hp) (Q : Option Value → Hp → Prop)  (i : Nat), Wp 136 50 (some (.ref i) :: ls) (st) h Q ↔ Wp 136 51 (some (.ref i) :: ls) (.ref i :: st) h Q) ∧
  (∀ (ls : Lo) (st : List Value) (h : Hp) (Q : Option Value → Hp → Prop)  (i : Nat), Wp 136 51 (some (.ref i) :: ls) (st) h Q ↔ Wp 136 52 (some (.ref i) :: ls) (.ref i :: st) h Q) ∧
  (∀ (ls : Lo) (st : List Value) (h : Hp) (Q : Option Value → Hp → Prop) (l0 : Option Value) (x : Int32), Wp 136 52 (l0 :: some (.int x) :: ls) (st) h Q ↔ Wp 136 53 (l0 :: some (.int x) :: ls) (.int x :: st) h Q) ∧
  (∀ (ls : Lo) (st : List Value) (h : Hp) (Q : Option Value → Hp → Prop) (l0 l1 : Option Value) (x : Int32), Wp 136 53 (l0 :: l1 :: some (.int x) :: ls) (st) h Q ↔ Wp 136 54 (l0 :: l1 :: some (.int x) :: ls) (.int x :: st) h Q) ∧
  (∀ (ls : Lo) (st : List Value) (h : Hp) (Q : Option Value → Hp → Prop), Wp 136 54 (ls) (st) h Q ↔ Wp 136 55 (ls) (.int (1) :: st) h Q) ∧
  (∀ (ls : Lo) (st : List Value) (h : Hp) (Q : Option Value → Hp → Prop) (x y : Int32), Wp 136 55 (ls) (.int y :: .int x :: st) h Q ↔ Wp 136 56 (ls) (.int (x - y) :: st) h Q) ∧
  (∀ (ls : Lo) (st : List Value) (n sl : Nat) (C Z : Nat → Nat) (I : Nat → Nat → Int32) (L : Nat → Nat → Int64) (R : Nat → Nat → Nat) (Q : Option Value → Hp → Prop) (x0 : Int32) (x1 : Int32) (i : Nat), C i = 11 → (Wp 136 56 (ls) (.int x1 :: .int x0 :: .ref i :: st) (n, sl, C, Z, I, L, R) Q ↔ (wsum st ≤ 8 ∧ Call 122 [some (.ref i), some (.int x0), some (.int x1), none, none, none] (n, sl, C, Z, I, L, R) 136 59 ls st Q))) ∧
  (∀ (ls : Lo) (st : List Value) (h : Hp) (Q : Option Value → Hp → Prop)  (i : Nat), Wp 136 59 (some (.ref i) :: ls) (st) h Q ↔ Wp 136 60 (some (.ref i) :: ls) (.ref i :: st) h Q) ∧
  (∀ (ls : Lo) (st : List Value) (n sl : Nat) (C Z : Nat → Nat) (I : Nat → Nat → Int32) (L : Nat → Nat → Int64) (R : Nat → Nat → Nat) (Q : Option Value → Hp → Prop) (i : Nat), Wp 136 60 (ls) (.ref i :: st) (n, sl, C, Z, I, L, R) Q ↔ (C i = 11 ∧ Wp 136 63 (ls) (.ref (R i 3) :: st) (n, sl, C, Z, I, L, R) Q)) ∧
  (∀ (ls : Lo) (st : List Value) (h : Hp) (Q : Option Value → Hp → Prop) (l0 : Option Value) (x : Int32), Wp 136 63 (l0 :: some (.int x) :: ls) (st) h Q ↔ Wp 136 64 (l0 :: some (.int x) :: ls) (.int x :: st) h Q) ∧
  (∀ (ls : Lo) (st : List Value) (n sl : Nat) (C Z : Nat → Nat) (I : Nat → Nat → Int32) (L : Nat → Nat → Int64) (R : Nat → Nat → Nat) (Q : Option Value → Hp → Prop) (i : Nat) (y : Int32), Wp 136 64 (ls) (.int y :: .ref i :: st) (n, sl, C, Z, I, L, R) Q ↔ ((inb y (Z i) = true ∧ C i = 21) ∧ Wp 136 65 (ls) (.int (I i (ix y)) :: st) (n, sl, C, Z, I, L, R) Q)) ∧
  (∀ (ls : Lo) (st : List Value) (h : Hp) (Q : Option Value → Hp → Prop) (x : Int32), Wp 136 65 (ls) (.int x :: st) h Q ↔ Wp 136 66 (ls) (.long x.toInt64 :: st) h Q) ∧
  (∀ (ls : Lo) (st : List Value) (h : Hp) (Q : Option Value → Hp → Prop) (l0 l1 : Option Value) (x : Int32), Wp 136 66 (l0 :: l1 :: some (.int x) :: ls) (st) h Q ↔ Wp 136 67 (l0 :: l1 :: some (.int x) :: ls) (.int x :: st) h Q) ∧
  (∀ (ls : Lo) (st : List Value) (h : Hp) (Q : Option Value → Hp → Prop), Wp 136 67 (ls) (st) h Q ↔ Wp 136 68 (ls) (.int (1) :: st) h Q) ∧
  (∀ (ls : Lo) (st : List Value) (h : Hp) (Q : Option Value → Hp → Prop) (x y : Int32), Wp 136 68 (ls) (.int y :: .int x :: st) h Q ↔ Wp 136 69 (ls) (.int (x - y) :: st) h Q) ∧
  (∀ (ls : Lo) (st : List Value) (h : Hp) (Q : Option Value → Hp → Prop) (x0 : Int64) (x1 : Int32), Wp 136 69 (ls) (.int x1 :: .long x0 :: st) h Q ↔ (wsum st ≤ 8 ∧ Call 135 [some (.long x0), none, some (.int x1), none, none, none] h 136 72 ls st Q)) ∧
  (∀ (ls : Lo) (st : List Value) (n sl : Nat) (C Z : Nat → Nat) (I : Nat → Nat → Int32) (L : Nat → Nat → Int64) (R : Nat → Nat → Nat) (Q : Option Value → Hp → Prop) (x0 : Int64) (x1 : Int64) (i : Nat), C i = 11 → (Wp 136 72 (ls) (.long x1 :: .long x0 :: .ref i :: st) (n, sl, C, Z, I, L, R) Q ↔ (wsum st ≤ 8 ∧ Call 106 [some (.ref i), some (.long x0), none, some (.long x1), none, none, none] (n, sl, C, Z, I, L, R) 136 75 ls st Q))) ∧
  (∀ (ls : Lo) (st : List Value) (h : Hp) (Q : Option Value → Hp → Prop)  (i : Nat), Wp 136 75 (some (.ref i) :: ls) (st) h Q ↔ Wp 136 76 (some (.ref i) :: ls) (.ref i :: st) h Q) ∧
  (∀ (ls : Lo) (st : List Value) (h : Hp) (Q : Option Value → Hp → Prop) (l0 l1 l2 : Option Value) (x : Int32), Wp 136 76 (l0 :: l1 :: l2 :: some (.int x) :: ls) (st) h Q ↔ Wp 136 77 (l0 :: l1 :: l2 :: some (.int x) :: ls) (.int x :: st) h Q) ∧
  (∀ (ls : Lo) (st : List Value) (n sl : Nat) (C Z : Nat → Nat) (I : Nat → Nat → Int32) (L : Nat → Nat → Int64) (R : Nat → Nat → Nat) (Q : Option Value → Hp → Prop) (x0 : Int32) (i : Nat), C i = 11 → (Wp 136 77 (ls) (.int x0 :: .ref i :: st) (n, sl, C, Z, I, L, R) Q ↔ (wsum st ≤ 8 ∧ Call 107 [some (.ref i), some (.int x0)] (n, sl, C, Z, I, L, R) 136 80 ls st Q))) ∧
  (∀ (ls : Lo) (h : Hp) (Q : Option Value → Hp → Prop) (a : Int64), Wp 136 80 (ls) ([.long a]) h Q ↔ Q (some (.long a)) h) := ⟨by intro ls st n sl C Z I L R Q x0 x1 i hh; exact e_iv (k2 := 106) (c := 11) (as := [.long x0, .long x1]) d136_44 rfl (by decide) rfl rfl (by decide +kernel) (Nat.le_of_ble_eq_true rfl) rfl hh,
  by intro ls st h Q; exact e_goto d136_47 (by decide),
  by intro ls st h Q i; exact e_aload_n d136_50 rfl,
  by intro ls st h Q i; exact e_aload_n d136_51 rfl,
  by intro ls st h Q l0 x; exact e_iload_n d136_52 rfl,
  by intro ls st h Q l0 l1 x; exact e_iload_n d136_53 rfl,
  by intro ls st h Q; exact e_iconst d136_54 rfl,
  by intro ls st h Q x y; exact e_isub d136_55,
  by intro ls st n sl C Z I L R Q x0 x1 i hh; exact e_iv (k2 := 122) (c := 11) (as := [.int x0, .int x1]) d136_56 rfl (by decide) rfl rfl (by decide +kernel) (Nat.le_of_ble_eq_true rfl) rfl hh,
  by intro ls st h Q i; exact e_aload_n d136_59 rfl,
  by intro ls st n sl C Z I L R Q i; exact e_get (g := 10) (s := 3) (ty := 2) d136_60 rfl rfl (inG_ne (by decide)),
  by intro ls st h Q l0 x; exact e_iload_n d136_63 rfl,
  by intro ls st n sl C Z I L R Q i y; exact e_iald d136_64,
  by intro ls st h Q x; exact e_i2l d136_65,
  by intro ls st h Q l0 l1 x; exact e_iload_n d136_66 rfl,
  by intro ls st h Q; exact e_iconst d136_67 rfl,
  by intro ls st h Q x y; exact e_isub d136_68,
  by intro ls st h Q x0 x1; exact e_is (k2 := 135) (as := [.long x0, .int x1]) d136_69 rfl (by decide) rfl rfl (by decide +kernel) (Nat.le_of_ble_eq_true rfl) rfl,
  by intro ls st n sl C Z I L R Q x0 x1 i hh; exact e_iv (k2 := 106) (c := 11) (as := [.long x0, .long x1]) d136_72 rfl (by decide) rfl rfl (by decide +kernel) (Nat.le_of_ble_eq_true rfl) rfl hh,
  by intro ls st h Q i; exact e_aload_n d136_75 rfl,
  by intro ls st h Q l0 l1 l2 x; exact e_iload_n d136_76 rfl,
  by intro ls st n sl C Z I L R Q x0 i hh; exact e_iv (k2 := 107) (c := 11) (as := [.int x0]) d136_77 rfl (by decide) rfl rfl (by decide +kernel) (Nat.le_of_ble_eq_true rfl) rfl hh,
  by intros; exact e_rL d136_80 rfl⟩
theorem d137_0 : decode (byt 137) 0 = .ok (.aload_n 0, 1) := by decide +kernel
theorem d137_1 : decode (byt 137) 1 = .ok (.iload_n 1, 1) := by decide +kernel
theorem d137_2 : decode (byt 137) 2 = .ok (.invokevirtual 105, 3) := by decide +kernel
theorem d137_5 : decode (byt 137) 5 = .ok (.ifCond .eq 33, 3) := by decide +kernel
theorem d137_8 : decode (byt 137) 8 = .ok (.aload_n 0, 1) := by decide +kernel
theorem d137_9 : decode (byt 137) 9 = .ok (.getfield 7, 3) := by decide +kernel
theorem d137_12 : decode (byt 137) 12 = .ok (.iload_n 1, 1) := by decide +kernel
theorem d137_13 : decode (byt 137) 13 = .ok (.iaload, 1) := by decide +kernel
theorem d137_14 : decode (byt 137) 14 = .ok (.iconst 1, 1) := by decide +kernel
theorem d137_15 : decode (byt 137) 15 = .ok (.if_icmp .eq 23, 3) := by decide +kernel
theorem d137_18 : decode (byt 137) 18 = .ok (.iload_n 2, 1) := by decide +kernel
theorem d137_19 : decode (byt 137) 19 = .ok (.ifCond .lt 19, 3) := by decide +kernel
theorem d137_22 : decode (byt 137) 22 = .ok (.iload_n 2, 1) := by decide +kernel
theorem d137_23 : decode (byt 137) 23 = .ok (.iconst 5, 1) := by decide +kernel
theorem d137_24 : decode (byt 137) 24 = .ok (.if_icmp .gt 14, 3) := by decide +kernel
theorem d137_27 : decode (byt 137) 27 = .ok (.iload 4, 2) := by decide +kernel
theorem d137_29 : decode (byt 137) 29 = .ok (.ifCond .lt 9, 3) := by decide +kernel
theorem d137_32 : decode (byt 137) 32 = .ok (.iload 4, 2) := by decide +kernel
theorem d137_34 : decode (byt 137) 34 = .ok (.iconst 1, 1) := by decide +kernel
theorem d137_35 : decode (byt 137) 35 = .ok (.if_icmp .le 7, 3) := by decide +kernel
theorem d137_38 : decode (byt 137) 38 = .ok (.ldc2_w 169, 3) := by decide +kernel
theorem d137_41 : decode (byt 137) 41 = .ok (.lreturn, 1) := by decide +kernel
theorem d137_42 : decode (byt 137) 42 = .ok (.iload_n 3, 1) := by decide +kernel
theorem d137_43 : decode (byt 137) 43 = .ok (.ifCond .lt 18, 3) := by decide +kernel
theorem d137_46 : decode (byt 137) 46 = .ok (.iload_n 3, 1) := by decide +kernel
theorem d137_47 : decode (byt 137) 47 = .ok (.i2l, 1) := by decide +kernel
theorem d137_48 : decode (byt 137) 48 = .ok (.ldc2_w 183, 3) := by decide +kernel
theorem d137_51 : decode (byt 137) 51 = .ok (.iload_n 2, 1) := by decide +kernel
theorem d137_52 : decode (byt 137) 52 = .ok (.iconst 1, 1) := by decide +kernel
theorem d137_53 : decode (byt 137) 53 = .ok (.iadd, 1) := by decide +kernel
theorem d137_54 : decode (byt 137) 54 = .ok (.invokestatic 175, 3) := by decide +kernel
theorem d137_57 : decode (byt 137) 57 = .ok (.lcmp, 1) := by decide +kernel
theorem d137_58 : decode (byt 137) 58 = .ok (.ifCond .lt 7, 3) := by decide +kernel
theorem d137_61 : decode (byt 137) 61 = .ok (.ldc2_w 169, 3) := by decide +kernel
theorem d137_64 : decode (byt 137) 64 = .ok (.lreturn, 1) := by decide +kernel
theorem d137_65 : decode (byt 137) 65 = .ok (.lconst 0, 1) := by decide +kernel
theorem d137_66 : decode (byt 137) 66 = .ok (.lstore 5, 2) := by decide +kernel
theorem d137_68 : decode (byt 137) 68 = .ok (.iload_n 2, 1) := by decide +kernel
theorem d137_69 : decode (byt 137) 69 = .ok (.ifCond .le 19, 3) := by decide +kernel
theorem d137_72 : decode (byt 137) 72 = .ok (.aload_n 0, 1) := by decide +kernel
theorem d137_73 : decode (byt 137) 73 = .ok (.getfield 16, 3) := by decide +kernel
theorem d137_76 : decode (byt 137) 76 = .ok (.iload_n 1, 1) := by decide +kernel
theorem d137_77 : decode (byt 137) 77 = .ok (.iaload, 1) := by decide +kernel
theorem d137_78 : decode (byt 137) 78 = .ok (.i2l, 1) := by decide +kernel
theorem d137_79 : decode (byt 137) 79 = .ok (.iload_n 2, 1) := by decide +kernel
theorem d137_80 : decode (byt 137) 80 = .ok (.iconst 1, 1) := by decide +kernel
theorem d137_81 : decode (byt 137) 81 = .ok (.isub, 1) := by decide +kernel
theorem d137_82 : decode (byt 137) 82 = .ok (.invokestatic 175, 3) := by decide +kernel
theorem d137_85 : decode (byt 137) 85 = .ok (.goto 4, 3) := by decide +kernel
theorem d137_88 : decode (byt 137) 88 = .ok (.lconst 1, 1) := by decide +kernel
theorem d137_89 : decode (byt 137) 89 = .ok (.lstore 7, 2) := by decide +kernel
theorem d137_91 : decode (byt 137) 91 = .ok (.iload_n 3, 1) := by decide +kernel
theorem d137_92 : decode (byt 137) 92 = .ok (.istore 9, 2) := by decide +kernel
theorem d137_94 : decode (byt 137) 94 = .ok (.iconst 0, 1) := by decide +kernel
theorem d137_95 : decode (byt 137) 95 = .ok (.istore 10, 2) := by decide +kernel
theorem d137_97 : decode (byt 137) 97 = .ok (.iload 10, 2) := by decide +kernel
theorem d137_99 : decode (byt 137) 99 = .ok (.iload_n 2, 1) := by decide +kernel
theorem d137_100 : decode (byt 137) 100 = .ok (.if_icmp .gt 86, 3) := by decide +kernel
theorem d137_103 : decode (byt 137) 103 = .ok (.iload 9, 2) := by decide +kernel
theorem d137_105 : decode (byt 137) 105 = .ok (.bipush 7, 2) := by decide +kernel
theorem d137_107 : decode (byt 137) 107 = .ok (.irem, 1) := by decide +kernel
theorem d137_108 : decode (byt 137) 108 = .ok (.iconst 3, 1) := by decide +kernel
theorem d137_109 : decode (byt 137) 109 = .ok (.isub, 1) := by decide +kernel
theorem d137_110 : decode (byt 137) 110 = .ok (.istore 11, 2) := by decide +kernel
theorem d137_112 : decode (byt 137) 112 = .ok (.iload 9, 2) := by decide +kernel
theorem d137_114 : decode (byt 137) 114 = .ok (.bipush 7, 2) := by decide +kernel
theorem d137_116 : decode (byt 137) 116 = .ok (.idiv, 1) := by decide +kernel
theorem d137_117 : decode (byt 137) 117 = .ok (.istore 9, 2) := by decide +kernel
theorem d137_119 : decode (byt 137) 119 = .ok (.iload 10, 2) := by decide +kernel
theorem d137_121 : decode (byt 137) 121 = .ok (.iload_n 2, 1) := by decide +kernel
theorem d137_122 : decode (byt 137) 122 = .ok (.if_icmp .ne 25, 3) := by decide +kernel
theorem d137_125 : decode (byt 137) 125 = .ok (.lload 5, 2) := by decide +kernel
theorem d137_127 : decode (byt 137) 127 = .ok (.lload 7, 2) := by decide +kernel
theorem d137_129 : decode (byt 137) 129 = .ok (.aload_n 0, 1) := by decide +kernel
theorem d137_130 : decode (byt 137) 130 = .ok (.getfield 19, 3) := by decide +kernel
theorem d137_133 : decode (byt 137) 133 = .ok (.iload_n 1, 1) := by decide +kernel
theorem d137_134 : decode (byt 137) 134 = .ok (.iaload, 1) := by decide +kernel
theorem d137_135 : decode (byt 137) 135 = .ok (.i2l, 1) := by decide +kernel
theorem d137_136 : decode (byt 137) 136 = .ok (.lmul, 1) := by decide +kernel
theorem d137_137 : decode (byt 137) 137 = .ok (.iload 11, 2) := by decide +kernel
theorem d137_139 : decode (byt 137) 139 = .ok (.i2l, 1) := by decide +kernel
theorem d137_140 : decode (byt 137) 140 = .ok (.lmul, 1) := by decide +kernel
theorem d137_141 : decode (byt 137) 141 = .ok (.ladd, 1) := by decide +kernel
theorem d137_142 : decode (byt 137) 142 = .ok (.lstore 5, 2) := by decide +kernel
theorem d137_144 : decode (byt 137) 144 = .ok (.goto 36, 3) := by decide +kernel
theorem d137_147 : decode (byt 137) 147 = .ok (.lload 5, 2) := by decide +kernel
theorem d137_149 : decode (byt 137) 149 = .ok (.aload_n 0, 1) := by decide +kernel
theorem d137_150 : decode (byt 137) 150 = .ok (.iload_n 1, 1) := by decide +kernel
theorem d137_151 : decode (byt 137) 151 = .ok (.iload_n 2, 1) := by decide +kernel
theorem d137_152 : decode (byt 137) 152 = .ok (.iload 10, 2) := by decide +kernel
theorem d137_154 : decode (byt 137) 154 = .ok (.isub, 1) := by decide +kernel
theorem d137_155 : decode (byt 137) 155 = .ok (.iconst 1, 1) := by decide +kernel
theorem d137_156 : decode (byt 137) 156 = .ok (.isub, 1) := by decide +kernel
theorem d137_157 : decode (byt 137) 157 = .ok (.invokevirtual 150, 3) := by decide +kernel
theorem d137_160 : decode (byt 137) 160 = .ok (.iload 11, 2) := by decide +kernel
theorem d137_162 : decode (byt 137) 162 = .ok (.i2l, 1) := by decide +kernel
theorem d137_163 : decode (byt 137) 163 = .ok (.lmul, 1) := by decide +kernel
theorem d137_164 : decode (byt 137) 164 = .ok (.aload_n 0, 1) := by decide +kernel
theorem d137_165 : decode (byt 137) 165 = .ok (.getfield 16, 3) := by decide +kernel
theorem d137_168 : decode (byt 137) 168 = .ok (.iload_n 1, 1) := by decide +kernel
theorem d137_169 : decode (byt 137) 169 = .ok (.iaload, 1) := by decide +kernel
theorem d137_170 : decode (byt 137) 170 = .ok (.i2l, 1) := by decide +kernel
theorem d137_171 : decode (byt 137) 171 = .ok (.iload 10, 2) := by decide +kernel
theorem d137_173 : decode (byt 137) 173 = .ok (.invokestatic 175, 3) := by decide +kernel
theorem d137_176 : decode (byt 137) 176 = .ok (.lmul, 1) := by decide +kernel
theorem d137_177 : decode (byt 137) 177 = .ok (.ladd, 1) := by decide +kernel
theorem d137_178 : decode (byt 137) 178 = .ok (.lstore 5, 2) := by decide +kernel
theorem d137_180 : decode (byt 137) 180 = .ok (.iinc 10 1, 3) := by decide +kernel
theorem d137_183 : decode (byt 137) 183 = .ok (.goto (-86), 3) := by decide +kernel
theorem d137_186 : decode (byt 137) 186 = .ok (.aload_n 0, 1) := by decide +kernel
theorem d137_187 : decode (byt 137) 187 = .ok (.lload 5, 2) := by decide +kernel
theorem d137_189 : decode (byt 137) 189 = .ok (.lload 7, 2) := by decide +kernel
theorem d137_191 : decode (byt 137) 191 = .ok (.invokevirtual 171, 3) := by decide +kernel
theorem d137_194 : decode (byt 137) 194 = .ok (.aload_n 0, 1) := by decide +kernel
theorem d137_195 : decode (byt 137) 195 = .ok (.iload 4, 2) := by decide +kernel
theorem d137_197 : decode (byt 137) 197 = .ok (.invokevirtual 179, 3) := by decide +kernel
theorem d137_200 : decode (byt 137) 200 = .ok (.lreturn, 1) := by decide +kernel
set_option maxRecDepth 20000 in
theorem S137_0 : (∀ (ls : Lo) (st : List Value) (h : Hp) (Q : Option Value → Hp → Prop)  (i : Nat), Wp 137 0 (some (.ref i) :: ls) (st) h Q ↔ Wp 137 1 (some (.ref i) :: ls) (.ref i :: st) h Q) ∧
  (∀ (ls : Lo) (st : List Value) (h : Hp) (Q : Option Value → Hp → Prop) (l0 : Option Value) (x : Int32), Wp 137 1 (l0 :: some (.int x) :: ls) (st) h Q ↔ Wp 137 2 (l0 :: some (.int x) :: ls) (.int x :: st) h Q) ∧
  (∀ (ls : Lo) (st : List Value) (n sl : Nat) (C Z : Nat → Nat) (I : Nat → Nat → Int32) (L : Nat → Nat → Int64) (R : Nat → Nat → Nat) (Q : Option Value → Hp → Prop) (x0 : Int32) (i : Nat), C i = 11 → (Wp 137 2 (ls) (.int x0 :: .ref i :: st) (n, sl, C, Z, I, L, R) Q ↔ (wsum st ≤ 8 ∧ Call 103 [some (.ref i), some (.int x0)] (n, sl, C, Z, I, L, R) 137 5 ls st Q))) ∧
  (∀ (ls : Lo) (st : List Value) (h : Hp) (Q : Option Value → Hp → Prop) (x : Int32), Wp 137 5 (ls) (.int x :: st) h Q ↔ Br 137 38 8 ls st h Q (x = 0)) ∧
  (∀ (ls : Lo) (st : List Value) (h : Hp) (Q : Option Value → Hp → Prop)  (i : Nat), Wp 137 8 (some (.ref i) :: ls) (st) h Q ↔ Wp 137 9 (some (.ref i) :: ls) (.ref i :: st) h Q) ∧
  (∀ (ls : Lo) (st : List Value) (n sl : Nat) (C Z : Nat → Nat) (I : Nat → Nat → Int32) (L : Nat → Nat → Int64) (R : Nat → Nat → Nat) (Q : Option Value → Hp → Prop) (i : Nat), Wp 137 9 (ls) (.ref i :: st) (n, sl, C, Z, I, L, R) Q ↔ (C i = 11 ∧ Wp 137 12 (ls) (.ref (R i 1) :: st) (n, sl, C, Z, I, L, R) Q)) ∧
  (∀ (ls : Lo) (st : List Value) (h : Hp) (Q : Option Value → Hp → Prop) (l0 : Option Value) (x : Int32), Wp 137 12 (l0 :: some (.int x) :: ls) (st) h Q ↔ Wp 137 13 (l0 :: some (.int x) :: ls) (.int x :: st) h Q) ∧
  (∀ (ls : Lo) (st : List Value) (n sl : Nat) (C Z : Nat → Nat) (I : Nat → Nat → Int32) (L : Nat → Nat → Int64) (R : Nat → Nat → Nat) (Q : Option Value → Hp → Prop) (i : Nat) (y : Int32), Wp 137 13 (ls) (.int y :: .ref i :: st) (n, sl, C, Z, I, L, R) Q ↔ ((inb y (Z i) = true ∧ C i = 21) ∧ Wp 137 14 (ls) (.int (I i (ix y)) :: st) (n, sl, C, Z, I, L, R) Q)) ∧
  (∀ (ls : Lo) (st : List Value) (h : Hp) (Q : Option Value → Hp → Prop), Wp 137 14 (ls) (st) h Q ↔ Wp 137 15 (ls) (.int (1) :: st) h Q) ∧
  (∀ (ls : Lo) (st : List Value) (h : Hp) (Q : Option Value → Hp → Prop) (x y : Int32), Wp 137 15 (ls) (.int y :: .int x :: st) h Q ↔ Br 137 38 18 ls st h Q (x = y)) ∧
  (∀ (ls : Lo) (st : List Value) (h : Hp) (Q : Option Value → Hp → Prop) (l0 l1 : Option Value) (x : Int32), Wp 137 18 (l0 :: l1 :: some (.int x) :: ls) (st) h Q ↔ Wp 137 19 (l0 :: l1 :: some (.int x) :: ls) (.int x :: st) h Q) ∧
  (∀ (ls : Lo) (st : List Value) (h : Hp) (Q : Option Value → Hp → Prop) (x : Int32), Wp 137 19 (ls) (.int x :: st) h Q ↔ Br 137 38 22 ls st h Q (x < 0)) ∧
  (∀ (ls : Lo) (st : List Value) (h : Hp) (Q : Option Value → Hp → Prop) (l0 l1 : Option Value) (x : Int32), Wp 137 22 (l0 :: l1 :: some (.int x) :: ls) (st) h Q ↔ Wp 137 23 (l0 :: l1 :: some (.int x) :: ls) (.int x :: st) h Q) ∧
  (∀ (ls : Lo) (st : List Value) (h : Hp) (Q : Option Value → Hp → Prop), Wp 137 23 (ls) (st) h Q ↔ Wp 137 24 (ls) (.int (5) :: st) h Q) ∧
  (∀ (ls : Lo) (st : List Value) (h : Hp) (Q : Option Value → Hp → Prop) (x y : Int32), Wp 137 24 (ls) (.int y :: .int x :: st) h Q ↔ Br 137 38 27 ls st h Q (y < x)) ∧
  (∀ (ls : Lo) (st : List Value) (h : Hp) (Q : Option Value → Hp → Prop) (l0 l1 l2 l3 : Option Value) (x : Int32), Wp 137 27 (l0 :: l1 :: l2 :: l3 :: some (.int x) :: ls) (st) h Q ↔ Wp 137 29 (l0 :: l1 :: l2 :: l3 :: some (.int x) :: ls) (.int x :: st) h Q) ∧
  (∀ (ls : Lo) (st : List Value) (h : Hp) (Q : Option Value → Hp → Prop) (x : Int32), Wp 137 29 (ls) (.int x :: st) h Q ↔ Br 137 38 32 ls st h Q (x < 0)) ∧
  (∀ (ls : Lo) (st : List Value) (h : Hp) (Q : Option Value → Hp → Prop) (l0 l1 l2 l3 : Option Value) (x : Int32), Wp 137 32 (l0 :: l1 :: l2 :: l3 :: some (.int x) :: ls) (st) h Q ↔ Wp 137 34 (l0 :: l1 :: l2 :: l3 :: some (.int x) :: ls) (.int x :: st) h Q) ∧
  (∀ (ls : Lo) (st : List Value) (h : Hp) (Q : Option Value → Hp → Prop), Wp 137 34 (ls) (st) h Q ↔ Wp 137 35 (ls) (.int (1) :: st) h Q) ∧
  (∀ (ls : Lo) (st : List Value) (h : Hp) (Q : Option Value → Hp → Prop) (x y : Int32), Wp 137 35 (ls) (.int y :: .int x :: st) h Q ↔ Br 137 42 38 ls st h Q (x ≤ y)) ∧
  (∀ (ls : Lo) (st : List Value) (h : Hp) (Q : Option Value → Hp → Prop), Wp 137 38 (ls) (st) h Q ↔ Wp 137 41 (ls) (.long (-4611686018427387904) :: st) h Q) ∧
  (∀ (ls : Lo) (h : Hp) (Q : Option Value → Hp → Prop) (a : Int64), Wp 137 41 (ls) ([.long a]) h Q ↔ Q (some (.long a)) h) ∧
  (∀ (ls : Lo) (st : List Value) (h : Hp) (Q : Option Value → Hp → Prop) (l0 l1 l2 : Option Value) (x : Int32), Wp 137 42 (l0 :: l1 :: l2 :: some (.int x) :: ls) (st) h Q ↔ Wp 137 43 (l0 :: l1 :: l2 :: some (.int x) :: ls) (.int x :: st) h Q) ∧
  (∀ (ls : Lo) (st : List Value) (h : Hp) (Q : Option Value → Hp → Prop) (x : Int32), Wp 137 43 (ls) (.int x :: st) h Q ↔ Br 137 61 46 ls st h Q (x < 0)) ∧
  (∀ (ls : Lo) (st : List Value) (h : Hp) (Q : Option Value → Hp → Prop) (l0 l1 l2 : Option Value) (x : Int32), Wp 137 46 (l0 :: l1 :: l2 :: some (.int x) :: ls) (st) h Q ↔ Wp 137 47 (l0 :: l1 :: l2 :: some (.int x) :: ls) (.int x :: st) h Q) := ⟨by intro ls st h Q i; exact e_aload_n d137_0 rfl,
  by intro ls st h Q l0 x; exact e_iload_n d137_1 rfl,
  by intro ls st n sl C Z I L R Q x0 i hh; exact e_iv (k2 := 103) (c := 11) (as := [.int x0]) d137_2 rfl (by decide) rfl rfl (by decide +kernel) (Nat.le_of_ble_eq_true rfl) rfl hh,
  by intro ls st h Q x; exact e_if d137_5 (by decide) c_eq,
  by intro ls st h Q i; exact e_aload_n d137_8 rfl,
  by intro ls st n sl C Z I L R Q i; exact e_get (g := 10) (s := 1) (ty := 2) d137_9 rfl rfl (inG_ne (by decide)),
  by intro ls st h Q l0 x; exact e_iload_n d137_12 rfl,
  by intro ls st n sl C Z I L R Q i y; exact e_iald d137_13,
  by intro ls st h Q; exact e_iconst d137_14 rfl,
  by intro ls st h Q x y; exact e_ic d137_15 (by decide) c_eq,
  by intro ls st h Q l0 l1 x; exact e_iload_n d137_18 rfl,
  by intro ls st h Q x; exact e_if d137_19 (by decide) c_lt,
  by intro ls st h Q l0 l1 x; exact e_iload_n d137_22 rfl,
  by intro ls st h Q; exact e_iconst d137_23 rfl,
  by intro ls st h Q x y; exact e_ic d137_24 (by decide) c_gt,
  by intro ls st h Q l0 l1 l2 l3 x; exact e_iload d137_27 rfl,
  by intro ls st h Q x; exact e_if d137_29 (by decide) c_lt,
  by intro ls st h Q l0 l1 l2 l3 x; exact e_iload d137_32 rfl,
  by intro ls st h Q; exact e_iconst d137_34 rfl,
  by intro ls st h Q x y; exact e_ic d137_35 (by decide) c_le,
  by intro ls st h Q; exact e_ldc2 (p := 980) d137_38 rfl,
  by intros; exact e_rL d137_41 rfl,
  by intro ls st h Q l0 l1 l2 x; exact e_iload_n d137_42 rfl,
  by intro ls st h Q x; exact e_if d137_43 (by decide) c_lt,
  by intro ls st h Q l0 l1 l2 x; exact e_iload_n d137_46 rfl⟩
set_option maxRecDepth 20000 in
theorem S137_1 : (∀ (ls : Lo) (st : List Value) (h : Hp) (Q : Option Value → Hp → Prop) (x : Int32), Wp 137 47 (ls) (.int x :: st) h Q ↔ Wp 137 48 (ls) (.long x.toInt64 :: st) h Q) ∧
  (∀ (ls : Lo) (st : List Value) (h : Hp) (Q : Option Value → Hp → Prop), Wp 137 48 (ls) (st) h Q ↔ Wp 137 51 (ls) (.long (7) :: st) h Q) ∧
  (∀ (ls : Lo) (st : List Value) (h : Hp) (Q : Option Value → Hp → Prop) (l0 l1 : Option Value) (x : Int32), Wp 137 51 (l0 :: l1 :: some (.int x) :: ls) (st) h Q ↔ Wp 137 52 (l0 :: l1 :: some (.int x) :: ls) (.int x :: st) h Q) ∧
  (∀ (ls : Lo) (st : List Value) (h : Hp) (Q : Option Value → Hp → Prop), Wp 137 52 (ls) (st) h Q ↔ Wp 137 53 (ls) (.int (1) :: st) h Q) ∧
  (∀ (ls : Lo) (st : List Value) (h : Hp) (Q : Option Value → Hp → Prop) (x y : Int32), Wp 137 53 (ls) (.int y :: .int x :: st) h Q ↔ Wp 137 54 (ls) (.int (x + y) :: st) h Q) ∧
  (∀ (ls : Lo) (st : List Value) (h : Hp) (Q : Option Value → Hp → Prop) (x0 : Int64) (x1 : Int32), Wp 137 54 (ls) (.int x1 :: .long x0 :: st) h Q ↔ (wsum st ≤ 8 ∧ Call 135 [some (.long x0), none, some (.int x1), none, none, none] h 137 57 ls st Q)) ∧
  (∀ (ls : Lo) (st : List Value) (h : Hp) (Q : Option Value → Hp → Prop) (a b : Int64), Wp 137 57 (ls) (.long b :: .long a :: st) h Q ↔ Wp 137 58 (ls) (.int (lg_cmp a b) :: st) h Q) ∧
  (∀ (ls : Lo) (st : List Value) (h : Hp) (Q : Option Value → Hp → Prop) (x : Int32), Wp 137 58 (ls) (.int x :: st) h Q ↔ Br 137 65 61 ls st h Q (x < 0)) ∧
  (∀ (ls : Lo) (st : List Value) (h : Hp) (Q : Option Value → Hp → Prop), Wp 137 61 (ls) (st) h Q ↔ Wp 137 64 (ls) (.long (-4611686018427387904) :: st) h Q) ∧
  (∀ (ls : Lo) (h : Hp) (Q : Option Value → Hp → Prop) (a : Int64), Wp 137 64 (ls) ([.long a]) h Q ↔ Q (some (.long a)) h) ∧
  (∀ (ls : Lo) (st : List Value) (h : Hp) (Q : Option Value → Hp → Prop), Wp 137 65 (ls) (st) h Q ↔ Wp 137 66 (ls) (.long 0 :: st) h Q) ∧
  (∀ (ls : Lo) (st : List Value) (h : Hp) (Q : Option Value → Hp → Prop) (l0 l1 l2 l3 l4 l5 l6 : Option Value) (a : Int64), Wp 137 66 (l0 :: l1 :: l2 :: l3 :: l4 :: l5 :: l6 :: ls) (.long a :: st) h Q ↔ Wp 137 68 (l0 :: l1 :: l2 :: l3 :: clr l4 :: some (.long a) :: none :: ls) (st) h Q) ∧
  (∀ (ls : Lo) (st : List Value) (h : Hp) (Q : Option Value → Hp → Prop) (l0 l1 : Option Value) (x : Int32), Wp 137 68 (l0 :: l1 :: some (.int x) :: ls) (st) h Q ↔ Wp 137 69 (l0 :: l1 :: some (.int x) :: ls) (.int x :: st) h Q) ∧
  (∀ (ls : Lo) (st : List Value) (h : Hp) (Q : Option Value → Hp → Prop) (x : Int32), Wp 137 69 (ls) (.int x :: st) h Q ↔ Br 137 88 72 ls st h Q (x ≤ 0)) ∧
  (∀ (ls : Lo) (st : List Value) (h : Hp) (Q : Option Value → Hp → Prop)  (i : Nat), Wp 137 72 (some (.ref i) :: ls) (st) h Q ↔ Wp 137 73 (some (.ref i) :: ls) (.ref i :: st) h Q) ∧
  (∀ (ls : Lo) (st : List Value) (n sl : Nat) (C Z : Nat → Nat) (I : Nat → Nat → Int32) (L : Nat → Nat → Int64) (R : Nat → Nat → Nat) (Q : Option Value → Hp → Prop) (i : Nat), Wp 137 73 (ls) (.ref i :: st) (n, sl, C, Z, I, L, R) Q ↔ (C i = 11 ∧ Wp 137 76 (ls) (.ref (R i 3) :: st) (n, sl, C, Z, I, L, R) Q)) ∧
  (∀ (ls : Lo) (st : List Value) (h : Hp) (Q : Option Value → Hp → Prop) (l0 : Option Value) (x : Int32), Wp 137 76 (l0 :: some (.int x) :: ls) (st) h Q ↔ Wp 137 77 (l0 :: some (.int x) :: ls) (.int x :: st) h Q) ∧
  (∀ (ls : Lo) (st : List Value) (n sl : Nat) (C Z : Nat → Nat) (I : Nat → Nat → Int32) (L : Nat → Nat → Int64) (R : Nat → Nat → Nat) (Q : Option Value → Hp → Prop) (i : Nat) (y : Int32), Wp 137 77 (ls) (.int y :: .ref i :: st) (n, sl, C, Z, I, L, R) Q ↔ ((inb y (Z i) = true ∧ C i = 21) ∧ Wp 137 78 (ls) (.int (I i (ix y)) :: st) (n, sl, C, Z, I, L, R) Q)) ∧
  (∀ (ls : Lo) (st : List Value) (h : Hp) (Q : Option Value → Hp → Prop) (x : Int32), Wp 137 78 (ls) (.int x :: st) h Q ↔ Wp 137 79 (ls) (.long x.toInt64 :: st) h Q) ∧
  (∀ (ls : Lo) (st : List Value) (h : Hp) (Q : Option Value → Hp → Prop) (l0 l1 : Option Value) (x : Int32), Wp 137 79 (l0 :: l1 :: some (.int x) :: ls) (st) h Q ↔ Wp 137 80 (l0 :: l1 :: some (.int x) :: ls) (.int x :: st) h Q) ∧
  (∀ (ls : Lo) (st : List Value) (h : Hp) (Q : Option Value → Hp → Prop), Wp 137 80 (ls) (st) h Q ↔ Wp 137 81 (ls) (.int (1) :: st) h Q) ∧
  (∀ (ls : Lo) (st : List Value) (h : Hp) (Q : Option Value → Hp → Prop) (x y : Int32), Wp 137 81 (ls) (.int y :: .int x :: st) h Q ↔ Wp 137 82 (ls) (.int (x - y) :: st) h Q) ∧
  (∀ (ls : Lo) (st : List Value) (h : Hp) (Q : Option Value → Hp → Prop) (x0 : Int64) (x1 : Int32), Wp 137 82 (ls) (.int x1 :: .long x0 :: st) h Q ↔ (wsum st ≤ 8 ∧ Call 135 [some (.long x0), none, some (.int x1), none, none, none] h 137 85 ls st Q)) ∧
  (∀ (ls : Lo) (st : List Value) (h : Hp) (Q : Option Value → Hp → Prop), Wp 137 85 (ls) (st) h Q ↔ Wp 137 89 (ls) (st) h Q) ∧
  (∀ (ls : Lo) (st : List Value) (h : Hp) (Q : Option Value → Hp → Prop), Wp 137 88 (ls) (st) h Q ↔ Wp 137 89 (ls) (.long 1 :: st) h Q) := ⟨by intro ls st h Q x; exact e_i2l d137_47,
  by intro ls st h Q; exact e_ldc2 (p := 1000) d137_48 rfl,
  by intro ls st h Q l0 l1 x; exact e_iload_n d137_51 rfl,
  by intro ls st h Q; exact e_iconst d137_52 rfl,
  by intro ls st h Q x y; exact e_iadd d137_53,
  by intro ls st h Q x0 x1; exact e_is (k2 := 135) (as := [.long x0, .int x1]) d137_54 rfl (by decide) rfl rfl (by decide +kernel) (Nat.le_of_ble_eq_true rfl) rfl,
  by intro ls st h Q a b; exact e_lcmp d137_57,
  by intro ls st h Q x; exact e_if d137_58 (by decide) c_lt,
  by intro ls st h Q; exact e_ldc2 (p := 980) d137_61 rfl,
  by intros; exact e_rL d137_64 rfl,
  by intro ls st h Q; exact e_lconst d137_65 rfl,
  by intro ls st h Q l0 l1 l2 l3 l4 l5 l6 a; exact e_lstore d137_66 rfl,
  by intro ls st h Q l0 l1 x; exact e_iload_n d137_68 rfl,
  by intro ls st h Q x; exact e_if d137_69 (by decide) c_le,
  by intro ls st h Q i; exact e_aload_n d137_72 rfl,
  by intro ls st n sl C Z I L R Q i; exact e_get (g := 10) (s := 3) (ty := 2) d137_73 rfl rfl (inG_ne (by decide)),
  by intro ls st h Q l0 x; exact e_iload_n d137_76 rfl,
  by intro ls st n sl C Z I L R Q i y; exact e_iald d137_77,
  by intro ls st h Q x; exact e_i2l d137_78,
  by intro ls st h Q l0 l1 x; exact e_iload_n d137_79 rfl,
  by intro ls st h Q; exact e_iconst d137_80 rfl,
  by intro ls st h Q x y; exact e_isub d137_81,
  by intro ls st h Q x0 x1; exact e_is (k2 := 135) (as := [.long x0, .int x1]) d137_82 rfl (by decide) rfl rfl (by decide +kernel) (Nat.le_of_ble_eq_true rfl) rfl,
  by intro ls st h Q; exact e_goto d137_85 (by decide),
  by intro ls st h Q; exact e_lconst d137_88 rfl⟩
set_option maxRecDepth 20000 in
theorem S137_2 : (∀ (ls : Lo) (st : List Value) (h : Hp) (Q : Option Value → Hp → Prop) (l0 l1 l2 l3 l4 l5 l6 l7 l8 : Option Value) (a : Int64), Wp 137 89 (l0 :: l1 :: l2 :: l3 :: l4 :: l5 :: l6 :: l7 :: l8 :: ls) (.long a :: st) h Q ↔ Wp 137 91 (l0 :: l1 :: l2 :: l3 :: l4 :: l5 :: clr l6 :: some (.long a) :: none :: ls) (st) h Q) ∧
  (∀ (ls : Lo) (st : List Value) (h : Hp) (Q : Option Value → Hp → Prop) (l0 l1 l2 : Option Value) (x : Int32), Wp 137 91 (l0 :: l1 :: l2 :: some (.int x) :: ls) (st) h Q ↔ Wp 137 92 (l0 :: l1 :: l2 :: some (.int x) :: ls) (.int x :: st) h Q) ∧
  (∀ (ls : Lo) (st : List Value) (h : Hp) (Q : Option Value → Hp → Prop) (l0 l1 l2 l3 l4 l5 l6 l7 l8 l9 : Option Value) (x : Int32), Wp 137 92 (l0 :: l1 :: l2 :: l3 :: l4 :: l5 :: l6 :: l7 :: l8 :: l9 :: ls) (.int x :: st) h Q ↔ Wp 137 94 (l0 :: l1 :: l2 :: l3 :: l4 :: l5 :: l6 :: l7 :: clr l8 :: some (.int x) :: ls) (st) h Q) ∧
  (∀ (ls : Lo) (st : List Value) (h : Hp) (Q : Option Value → Hp → Prop), Wp 137 94 (ls) (st) h Q ↔ Wp 137 95 (ls) (.int (0) :: st) h Q) ∧
  (∀ (ls : Lo) (st : List Value) (h : Hp) (Q : Option Value → Hp → Prop) (l0 l1 l2 l3 l4 l5 l6 l7 l8 l9 l10 : Option Value) (x : Int32), Wp 137 95 (l0 :: l1 :: l2 :: l3 :: l4 :: l5 :: l6 :: l7 :: l8 :: l9 :: l10 :: ls) (.int x :: st) h Q ↔ Wp 137 97 (l0 :: l1 :: l2 :: l3 :: l4 :: l5 :: l6 :: l7 :: l8 :: clr l9 :: some (.int x) :: ls) (st) h Q) ∧
  (∀ (ls : Lo) (st : List Value) (h : Hp) (Q : Option Value → Hp → Prop) (l0 l1 l2 l3 l4 l5 l6 l7 l8 l9 : Option Value) (x : Int32), Wp 137 97 (l0 :: l1 :: l2 :: l3 :: l4 :: l5 :: l6 :: l7 :: l8 :: l9 :: some (.int x) :: ls) (st) h Q ↔ Wp 137 99 (l0 :: l1 :: l2 :: l3 :: l4 :: l5 :: l6 :: l7 :: l8 :: l9 :: some (.int x) :: ls) (.int x :: st) h Q) ∧
  (∀ (ls : Lo) (st : List Value) (h : Hp) (Q : Option Value → Hp → Prop) (l0 l1 : Option Value) (x : Int32), Wp 137 99 (l0 :: l1 :: some (.int x) :: ls) (st) h Q ↔ Wp 137 100 (l0 :: l1 :: some (.int x) :: ls) (.int x :: st) h Q) ∧
  (∀ (ls : Lo) (st : List Value) (h : Hp) (Q : Option Value → Hp → Prop) (x y : Int32), Wp 137 100 (ls) (.int y :: .int x :: st) h Q ↔ Br 137 186 103 ls st h Q (y < x)) ∧
  (∀ (ls : Lo) (st : List Value) (h : Hp) (Q : Option Value → Hp → Prop) (l0 l1 l2 l3 l4 l5 l6 l7 l8 : Option Value) (x : Int32), Wp 137 103 (l0 :: l1 :: l2 :: l3 :: l4 :: l5 :: l6 :: l7 :: l8 :: some (.int x) :: ls) (st) h Q ↔ Wp 137 105 (l0 :: l1 :: l2 :: l3 :: l4 :: l5 :: l6 :: l7 :: l8 :: some (.int x) :: ls) (.int x :: st) h Q) ∧
  (∀ (ls : Lo) (st : List Value) (h : Hp) (Q : Option Value → Hp → Prop), Wp 137 105 (ls) (st) h Q ↔ Wp 137 107 (ls) (.int (7) :: st) h Q) ∧
  (∀ (ls : Lo) (st : List Value) (h : Hp) (Q : Option Value → Hp → Prop) (x y : Int32), Wp 137 107 (ls) (.int y :: .int x :: st) h Q ↔ (¬ y = 0 ∧ Wp 137 108 (ls) (.int (x - x / y * y) :: st) h Q)) ∧
  (∀ (ls : Lo) (st : List Value) (h : Hp) (Q : Option Value → Hp → Prop), Wp 137 108 (ls) (st) h Q ↔ Wp 137 109 (ls) (.int (3) :: st) h Q) ∧
  (∀ (ls : Lo) (st : List Value) (h : Hp) (Q : Option Value → Hp → Prop) (x y : Int32), Wp 137 109 (ls) (.int y :: .int x :: st) h Q ↔ Wp 137 110 (ls) (.int (x - y) :: st) h Q) ∧
  (∀ (ls : Lo) (st : List Value) (h : Hp) (Q : Option Value → Hp → Prop) (l0 l1 l2 l3 l4 l5 l6 l7 l8 l9 l10 l11 : Option Value) (x : Int32), Wp 137 110 (l0 :: l1 :: l2 :: l3 :: l4 :: l5 :: l6 :: l7 :: l8 :: l9 :: l10 :: l11 :: ls) (.int x :: st) h Q ↔ Wp 137 112 (l0 :: l1 :: l2 :: l3 :: l4 :: l5 :: l6 :: l7 :: l8 :: l9 :: clr l10 :: some (.int x) :: ls) (st) h Q) ∧
  (∀ (ls : Lo) (st : List Value) (h : Hp) (Q : Option Value → Hp → Prop) (l0 l1 l2 l3 l4 l5 l6 l7 l8 : Option Value) (x : Int32), Wp 137 112 (l0 :: l1 :: l2 :: l3 :: l4 :: l5 :: l6 :: l7 :: l8 :: some (.int x) :: ls) (st) h Q ↔ Wp 137 114 (l0 :: l1 :: l2 :: l3 :: l4 :: l5 :: l6 :: l7 :: l8 :: some (.int x) :: ls) (.int x :: st) h Q) ∧
  (∀ (ls : Lo) (st : List Value) (h : Hp) (Q : Option Value → Hp → Prop), Wp 137 114 (ls) (st) h Q ↔ Wp 137 116 (ls) (.int (7) :: st) h Q) ∧
  (∀ (ls : Lo) (st : List Value) (h : Hp) (Q : Option Value → Hp → Prop) (x y : Int32), Wp 137 116 (ls) (.int y :: .int x :: st) h Q ↔ (¬ y = 0 ∧ Wp 137 117 (ls) (.int (x / y) :: st) h Q)) ∧
  (∀ (ls : Lo) (st : List Value) (h : Hp) (Q : Option Value → Hp → Prop) (l0 l1 l2 l3 l4 l5 l6 l7 l8 l9 : Option Value) (x : Int32), Wp 137 117 (l0 :: l1 :: l2 :: l3 :: l4 :: l5 :: l6 :: l7 :: l8 :: l9 :: ls) (.int x :: st) h Q ↔ Wp 137 119 (l0 :: l1 :: l2 :: l3 :: l4 :: l5 :: l6 :: l7 :: clr l8 :: some (.int x) :: ls) (st) h Q) ∧
  (∀ (ls : Lo) (st : List Value) (h : Hp) (Q : Option Value → Hp → Prop) (l0 l1 l2 l3 l4 l5 l6 l7 l8 l9 : Option Value) (x : Int32), Wp 137 119 (l0 :: l1 :: l2 :: l3 :: l4 :: l5 :: l6 :: l7 :: l8 :: l9 :: some (.int x) :: ls) (st) h Q ↔ Wp 137 121 (l0 :: l1 :: l2 :: l3 :: l4 :: l5 :: l6 :: l7 :: l8 :: l9 :: some (.int x) :: ls) (.int x :: st) h Q) ∧
  (∀ (ls : Lo) (st : List Value) (h : Hp) (Q : Option Value → Hp → Prop) (l0 l1 : Option Value) (x : Int32), Wp 137 121 (l0 :: l1 :: some (.int x) :: ls) (st) h Q ↔ Wp 137 122 (l0 :: l1 :: some (.int x) :: ls) (.int x :: st) h Q) ∧
  (∀ (ls : Lo) (st : List Value) (h : Hp) (Q : Option Value → Hp → Prop) (x y : Int32), Wp 137 122 (ls) (.int y :: .int x :: st) h Q ↔ Br 137 147 125 ls st h Q (¬ x = y)) ∧
  (∀ (ls : Lo) (st : List Value) (h : Hp) (Q : Option Value → Hp → Prop) (l0 l1 l2 l3 l4 : Option Value) (a : Int64), Wp 137 125 (l0 :: l1 :: l2 :: l3 :: l4 :: some (.long a) :: ls) (st) h Q ↔ Wp 137 127 (l0 :: l1 :: l2 :: l3 :: l4 :: some (.long a) :: ls) (.long a :: st) h Q) ∧
  (∀ (ls : Lo) (st : List Value) (h : Hp) (Q : Option Value → Hp → Prop) (l0 l1 l2 l3 l4 l5 l6 : Option Value) (a : Int64), Wp 137 127 (l0 :: l1 :: l2 :: l3 :: l4 :: l5 :: l6 :: some (.long a) :: ls) (st) h Q ↔ Wp 137 129 (l0 :: l1 :: l2 :: l3 :: l4 :: l5 :: l6 :: some (.long a) :: ls) (.long a :: st) h Q) ∧
  (∀ (ls : Lo) (st : List Value) (h : Hp) (Q : Option Value → Hp → Prop)  (i : Nat), Wp 137 129 (some (.ref i) :: ls) (st) h Q ↔ Wp 137 130 (some (.ref i) :: ls) (.ref i :: st) h Q) ∧
  (∀ (ls : Lo) (st : List Value) (n sl : Nat) (C Z : Nat → Nat) (I : Nat → Nat → Int32) (L : Nat → Nat → Int64) (R : Nat → Nat → Nat) (Q : Option Value → Hp → Prop) (i : Nat), Wp 137 130 (ls) (.ref i :: st) (n, sl, C, Z, I, L, R) Q ↔ (C i = 11 ∧ Wp 137 133 (ls) (.ref (R i 4) :: st) (n, sl, C, Z, I, L, R) Q)) := ⟨by intro ls st h Q l0 l1 l2 l3 l4 l5 l6 l7 l8 a; exact e_lstore d137_89 rfl,
  by intro ls st h Q l0 l1 l2 x; exact e_iload_n d137_91 rfl,
  by intro ls st h Q l0 l1 l2 l3 l4 l5 l6 l7 l8 l9 x; exact e_istore d137_92 rfl,
  by intro ls st h Q; exact e_iconst d137_94 rfl,
  by intro ls st h Q l0 l1 l2 l3 l4 l5 l6 l7 l8 l9 l10 x; exact e_istore d137_95 rfl,
  by intro ls st h Q l0 l1 l2 l3 l4 l5 l6 l7 l8 l9 x; exact e_iload d137_97 rfl,
  by intro ls st h Q l0 l1 x; exact e_iload_n d137_99 rfl,
  by intro ls st h Q x y; exact e_ic d137_100 (by decide) c_gt,
  by intro ls st h Q l0 l1 l2 l3 l4 l5 l6 l7 l8 x; exact e_iload d137_103 rfl,
  by intro ls st h Q; exact e_bipush d137_105 rfl,
  by intro ls st h Q x y; exact e_irem d137_107,
  by intro ls st h Q; exact e_iconst d137_108 rfl,
  by intro ls st h Q x y; exact e_isub d137_109,
  by intro ls st h Q l0 l1 l2 l3 l4 l5 l6 l7 l8 l9 l10 l11 x; exact e_istore d137_110 rfl,
  by intro ls st h Q l0 l1 l2 l3 l4 l5 l6 l7 l8 x; exact e_iload d137_112 rfl,
  by intro ls st h Q; exact e_bipush d137_114 rfl,
  by intro ls st h Q x y; exact e_idiv d137_116,
  by intro ls st h Q l0 l1 l2 l3 l4 l5 l6 l7 l8 l9 x; exact e_istore d137_117 rfl,
  by intro ls st h Q l0 l1 l2 l3 l4 l5 l6 l7 l8 l9 x; exact e_iload d137_119 rfl,
  by intro ls st h Q l0 l1 x; exact e_iload_n d137_121 rfl,
  by intro ls st h Q x y; exact e_ic d137_122 (by decide) c_ne,
  by intro ls st h Q l0 l1 l2 l3 l4 a; exact e_lload d137_125 rfl,
  by intro ls st h Q l0 l1 l2 l3 l4 l5 l6 a; exact e_lload d137_127 rfl,
  by intro ls st h Q i; exact e_aload_n d137_129 rfl,
  by intro ls st n sl C Z I L R Q i; exact e_get (g := 10) (s := 4) (ty := 2) d137_130 rfl rfl (inG_ne (by decide))⟩
set_option maxRecDepth 20000 in
theorem S137_3 : (∀ (ls : Lo) (st : List Value) (h : Hp) (Q : Option Value → Hp → Prop) (l0 : Option Value) (x : Int32), Wp 137 133 (l0 :: some (.int x) :: ls) (st) h Q ↔ Wp 137 134 (l0 :: some (.int x) :: ls) (.int x :: st) h Q) ∧
  (∀ (ls : Lo) (st : List Value) (n sl : Nat) (C Z : Nat → Nat) (I : Nat → Nat → Int32) (L : Nat → Nat → Int64) (R : Nat → Nat → Nat) (Q : Option Value → Hp → Prop) (i : Nat) (y : Int32), Wp 137 134 (ls) (.int y :: .ref i :: st) (n, sl, C, Z, I, L, R) Q ↔ ((inb y (Z i) = true ∧ C i = 21) ∧ Wp 137 135 (ls) (.int (I i (ix y)) :: st) (n, sl, C, Z, I, L, R) Q)) ∧
  (∀ (ls : Lo) (st : List Value) (h : Hp) (Q : Option Value → Hp → Prop) (x : Int32), Wp 137 135 (ls) (.int x :: st) h Q ↔ Wp 137 136 (ls) (.long x.toInt64 :: st) h Q) ∧
  (∀ (ls : Lo) (st : List Value) (h : Hp) (Q : Option Value → Hp → Prop) (a b : Int64), Wp 137 136 (ls) (.long b :: .long a :: st) h Q ↔ Wp 137 137 (ls) (.long (a * b) :: st) h Q) ∧
  (∀ (ls : Lo) (st : List Value) (h : Hp) (Q : Option Value → Hp → Prop) (l0 l1 l2 l3 l4 l5 l6 l7 l8 l9 l10 : Option Value) (x : Int32), Wp 137 137 (l0 :: l1 :: l2 :: l3 :: l4 :: l5 :: l6 :: l7 :: l8 :: l9 :: l10 :: some (.int x) :: ls) (st) h Q ↔ Wp 137 139 (l0 :: l1 :: l2 :: l3 :: l4 :: l5 :: l6 :: l7 :: l8 :: l9 :: l10 :: some (.int x) :: ls) (.int x :: st) h Q) ∧
  (∀ (ls : Lo) (st : List Value) (h : Hp) (Q : Option Value → Hp → Prop) (x : Int32), Wp 137 139 (ls) (.int x :: st) h Q ↔ Wp 137 140 (ls) (.long x.toInt64 :: st) h Q) ∧
  (∀ (ls : Lo) (st : List Value) (h : Hp) (Q : Option Value → Hp → Prop) (a b : Int64), Wp 137 140 (ls) (.long b :: .long a :: st) h Q ↔ Wp 137 141 (ls) (.long (a * b) :: st) h Q) ∧
  (∀ (ls : Lo) (st : List Value) (h : Hp) (Q : Option Value → Hp → Prop) (a b : Int64), Wp 137 141 (ls) (.long b :: .long a :: st) h Q ↔ Wp 137 142 (ls) (.long (a + b) :: st) h Q) ∧
  (∀ (ls : Lo) (st : List Value) (h : Hp) (Q : Option Value → Hp → Prop) (l0 l1 l2 l3 l4 l5 l6 : Option Value) (a : Int64), Wp 137 142 (l0 :: l1 :: l2 :: l3 :: l4 :: l5 :: l6 :: ls) (.long a :: st) h Q ↔ Wp 137 144 (l0 :: l1 :: l2 :: l3 :: clr l4 :: some (.long a) :: none :: ls) (st) h Q) ∧
  (∀ (ls : Lo) (st : List Value) (h : Hp) (Q : Option Value → Hp → Prop), Wp 137 144 (ls) (st) h Q ↔ Wp 137 180 (ls) (st) h Q) ∧
  (∀ (ls : Lo) (st : List Value) (h : Hp) (Q : Option Value → Hp → Prop) (l0 l1 l2 l3 l4 : Option Value) (a : Int64), Wp 137 147 (l0 :: l1 :: l2 :: l3 :: l4 :: some (.long a) :: ls) (st) h Q ↔ Wp 137 149 (l0 :: l1 :: l2 :: l3 :: l4 :: some (.long a) :: ls) (.long a :: st) h Q) ∧
  (∀ (ls : Lo) (st : List Value) (h : Hp) (Q : Option Value → Hp → Prop)  (i : Nat), Wp 137 149 (some (.ref i) :: ls) (st) h Q ↔ Wp 137 150 (some (.ref i) :: ls) (.ref i :: st) h Q) ∧
  (∀ (ls : Lo) (st : List Value) (h : Hp) (Q : Option Value → Hp → Prop) (l0 : Option Value) (x : Int32), Wp 137 150 (l0 :: some (.int x) :: ls) (st) h Q ↔ Wp 137 151 (l0 :: some (.int x) :: ls) (.int x :: st) h Q) ∧
  (∀ (ls : Lo) (st : List Value) (h : Hp) (Q : Option Value → Hp → Prop) (l0 l1 : Option Value) (x : Int32), Wp 137 151 (l0 :: l1 :: some (.int x) :: ls) (st) h Q ↔ Wp 137 152 (l0 :: l1 :: some (.int x) :: ls) (.int x :: st) h Q) ∧
  (∀ (ls : Lo) (st : List Value) (h : Hp) (Q : Option Value → Hp → Prop) (l0 l1 l2 l3 l4 l5 l6 l7 l8 l9 : Option Value) (x : Int32), Wp 137 152 (l0 :: l1 :: l2 :: l3 :: l4 :: l5 :: l6 :: l7 :: l8 :: l9 :: some (.int x) :: ls) (st) h Q ↔ Wp 137 154 (l0 :: l1 :: l2 :: l3 :: l4 :: l5 :: l6 :: l7 :: l8 :: l9 :: some (.int x) :: ls) (.int x :: st) h Q) ∧
  (∀ (ls : Lo) (st : List Value) (h : Hp) (Q : Option Value → Hp → Prop) (x y : Int32), Wp 137 154 (ls) (.int y :: .int x :: st) h Q ↔ Wp 137 155 (ls) (.int (x - y) :: st) h Q) ∧
  (∀ (ls : Lo) (st : List Value) (h : Hp) (Q : Option Value → Hp → Prop), Wp 137 155 (ls) (st) h Q ↔ Wp 137 156 (ls) (.int (1) :: st) h Q) ∧
  (∀ (ls : Lo) (st : List Value) (h : Hp) (Q : Option Value → Hp → Prop) (x y : Int32), Wp 137 156 (ls) (.int y :: .int x :: st) h Q ↔ Wp 137 157 (ls) (.int (x - y) :: st) h Q) ∧
  (∀ (ls : Lo) (st : List Value) (n sl : Nat) (C Z : Nat → Nat) (I : Nat → Nat → Int32) (L : Nat → Nat → Int64) (R : Nat → Nat → Nat) (Q : Option Value → Hp → Prop) (x0 : Int32) (x1 : Int32) (i : Nat), C i = 11 → (Wp 137 157 (ls) (.int x1 :: .int x0 :: .ref i :: st) (n, sl, C, Z, I, L, R) Q ↔ (wsum st ≤ 8 ∧ Call 122 [some (.ref i), some (.int x0), some (.int x1), none, none, none] (n, sl, C, Z, I, L, R) 137 160 ls st Q))) ∧
  (∀ (ls : Lo) (st : List Value) (h : Hp) (Q : Option Value → Hp → Prop) (l0 l1 l2 l3 l4 l5 l6 l7 l8 l9 l10 : Option Value) (x : Int32), Wp 137 160 (l0 :: l1 :: l2 :: l3 :: l4 :: l5 :: l6 :: l7 :: l8 :: l9 :: l10 :: some (.int x) :: ls) (st) h Q ↔ Wp 137 162 (l0 :: l1 :: l2 :: l3 :: l4 :: l5 :: l6 :: l7 :: l8 :: l9 :: l10 :: some (.int x) :: ls) (.int x :: st) h Q) ∧
  (∀ (ls : Lo) (st : List Value) (h : Hp) (Q : Option Value → Hp → Prop) (x : Int32), Wp 137 162 (ls) (.int x :: st) h Q ↔ Wp 137 163 (ls) (.long x.toInt64 :: st) h Q) ∧
  (∀ (ls : Lo) (st : List Value) (h : Hp) (Q : Option Value → Hp → Prop) (a b : Int64), Wp 137 163 (ls) (.long b :: .long a :: st) h Q ↔ Wp 137 164 (ls) (.long (a * b) :: st) h Q) ∧
  (∀ (ls : Lo) (st : List Value) (h : Hp) (Q : Option Value → Hp → Prop)  (i : Nat), Wp 137 164 (some (.ref i) :: ls) (st) h Q ↔ Wp 137 165 (some (.ref i) :: ls) (.ref i :: st) h Q) ∧
  (∀ (ls : Lo) (st : List Value) (n sl : Nat) (C Z : Nat → Nat) (I : Nat → Nat → Int32) (L : Nat → Nat → Int64) (R : Nat → Nat → Nat) (Q : Option Value → Hp → Prop) (i : Nat), Wp 137 165 (ls) (.ref i :: st) (n, sl, C, Z, I, L, R) Q ↔ (C i = 11 ∧ Wp 137 168 (ls) (.ref (R i 3) :: st) (n, sl, C, Z, I, L, R) Q)) ∧
  (∀ (ls : Lo) (st : List Value) (h : Hp) (Q : Option Value → Hp → Prop) (l0 : Option Value) (x : Int32), Wp 137 168 (l0 :: some (.int x) :: ls) (st) h Q ↔ Wp 137 169 (l0 :: some (.int x) :: ls) (.int x :: st) h Q) := ⟨by intro ls st h Q l0 x; exact e_iload_n d137_133 rfl,
  by intro ls st n sl C Z I L R Q i y; exact e_iald d137_134,
  by intro ls st h Q x; exact e_i2l d137_135,
  by intro ls st h Q a b; exact e_lmul d137_136,
  by intro ls st h Q l0 l1 l2 l3 l4 l5 l6 l7 l8 l9 l10 x; exact e_iload d137_137 rfl,
  by intro ls st h Q x; exact e_i2l d137_139,
  by intro ls st h Q a b; exact e_lmul d137_140,
  by intro ls st h Q a b; exact e_ladd d137_141,
  by intro ls st h Q l0 l1 l2 l3 l4 l5 l6 a; exact e_lstore d137_142 rfl,
  by intro ls st h Q; exact e_goto d137_144 (by decide),
  by intro ls st h Q l0 l1 l2 l3 l4 a; exact e_lload d137_147 rfl,
  by intro ls st h Q i; exact e_aload_n d137_149 rfl,
  by intro ls st h Q l0 x; exact e_iload_n d137_150 rfl,
  by intro ls st h Q l0 l1 x; exact e_iload_n d137_151 rfl,
  by intro ls st h Q l0 l1 l2 l3 l4 l5 l6 l7 l8 l9 x; exact e_iload d137_152 rfl,
  by intro ls st h Q x y; exact e_isub d137_154,
  by intro ls st h Q; exact e_iconst d137_155 rfl,
  by intro ls st h Q x y; exact e_isub d137_156,
  by intro ls st n sl C Z I L R Q x0 x1 i hh; exact e_iv (k2 := 122) (c := 11) (as := [.int x0, .int x1]) d137_157 rfl (by decide) rfl rfl (by decide +kernel) (Nat.le_of_ble_eq_true rfl) rfl hh,
  by intro ls st h Q l0 l1 l2 l3 l4 l5 l6 l7 l8 l9 l10 x; exact e_iload d137_160 rfl,
  by intro ls st h Q x; exact e_i2l d137_162,
  by intro ls st h Q a b; exact e_lmul d137_163,
  by intro ls st h Q i; exact e_aload_n d137_164 rfl,
  by intro ls st n sl C Z I L R Q i; exact e_get (g := 10) (s := 3) (ty := 2) d137_165 rfl rfl (inG_ne (by decide)),
  by intro ls st h Q l0 x; exact e_iload_n d137_168 rfl⟩
set_option maxRecDepth 20000 in
theorem S137_4 : (∀ (ls : Lo) (st : List Value) (n sl : Nat) (C Z : Nat → Nat) (I : Nat → Nat → Int32) (L : Nat → Nat → Int64) (R : Nat → Nat → Nat) (Q : Option Value → Hp → Prop) (i : Nat) (y : Int32), Wp 137 169 (ls) (.int y :: .ref i :: st) (n, sl, C, Z, I, L, R) Q ↔ ((inb y (Z i) = true ∧ C i = 21) ∧ Wp 137 170 (ls) (.int (I i (ix y)) :: st) (n, sl, C, Z, I, L, R) Q)) ∧
  (∀ (ls : Lo) (st : List Value) (h : Hp) (Q : Option Value → Hp → Prop) (x : Int32), Wp 137 170 (ls) (.int x :: st) h Q ↔ Wp 137 171 (ls) (.long x.toInt64 :: st) h Q) ∧
  (∀ (ls : Lo) (st : List Value) (h : Hp) (Q : Option Value → Hp → Prop) (l0 l1 l2 l3 l4 l5 l6 l7 l8 l9 : Option Value) (x : Int32), Wp 137 171 (l0 :: l1 :: l2 :: l3 :: l4 :: l5 :: l6 :: l7 :: l8 :: l9 :: some (.int x) :: ls) (st) h Q ↔ Wp 137 173 (l0 :: l1 :: l2 :: l3 :: l4 :: l5 :: l6 :: l7 :: l8 :: l9 :: some (.int x) :: ls) (.int x :: st) h Q) ∧
  (∀ (ls : Lo) (st : List Value) (h : Hp) (Q : Option Value → Hp → Prop) (x0 : Int64) (x1 : Int32), Wp 137 173 (ls) (.int x1 :: .long x0 :: st) h Q ↔ (wsum st ≤ 8 ∧ Call 135 [some (.long x0), none, some (.int x1), none, none, none] h 137 176 ls st Q)) ∧
  (∀ (ls : Lo) (st : List Value) (h : Hp) (Q : Option Value → Hp → Prop) (a b : Int64), Wp 137 176 (ls) (.long b :: .long a :: st) h Q ↔ Wp 137 177 (ls) (.long (a * b) :: st) h Q) ∧
  (∀ (ls : Lo) (st : List Value) (h : Hp) (Q : Option Value → Hp → Prop) (a b : Int64), Wp 137 177 (ls) (.long b :: .long a :: st) h Q ↔ Wp 137 178 (ls) (.long (a + b) :: st) h Q) ∧
  (∀ (ls : Lo) (st : List Value) (h : Hp) (Q : Option Value → Hp → Prop) (l0 l1 l2 l3 l4 l5 l6 : Option Value) (a : Int64), Wp 137 178 (l0 :: l1 :: l2 :: l3 :: l4 :: l5 :: l6 :: ls) (.long a :: st) h Q ↔ Wp 137 180 (l0 :: l1 :: l2 :: l3 :: clr l4 :: some (.long a) :: none :: ls) (st) h Q) ∧
  (∀ (ls : Lo) (st : List Value) (h : Hp) (Q : Option Value → Hp → Prop) (l0 l1 l2 l3 l4 l5 l6 l7 l8 l9 : Option Value) (x : Int32), Wp 137 180 (l0 :: l1 :: l2 :: l3 :: l4 :: l5 :: l6 :: l7 :: l8 :: l9 :: some (.int x) :: ls) (st) h Q ↔ Wp 137 183 (l0 :: l1 :: l2 :: l3 :: l4 :: l5 :: l6 :: l7 :: l8 :: clr l9 :: some (.int (x + (1))) :: ls) (st) h Q) ∧
  (∀ (ls : Lo) (st : List Value) (h : Hp) (Q : Option Value → Hp → Prop), Wp 137 183 (ls) (st) h Q ↔ Wp 137 97 (ls) (st) h Q) ∧
  (∀ (ls : Lo) (st : List Value) (h : Hp) (Q : Option Value → Hp → Prop)  (i : Nat), Wp 137 186 (some (.ref i) :: ls) (st) h Q ↔ Wp 137 187 (some (.ref i) :: ls) (.ref i :: st) h Q) ∧
  (∀ (ls : Lo) (st : List Value) (h : Hp) (Q : Option Value → Hp → Prop) (l0 l1 l2 l3 l4 : Option Value) (a : Int64), Wp 137 187 (l0 :: l1 :: l2 :: l3 :: l4 :: some (.long a) :: ls) (st) h Q ↔ Wp 137 189 (l0 :: l1 :: l2 :: l3 :: l4 :: some (.long a) :: ls) (.long a :: st) h Q) ∧
  (∀ (ls : Lo) (st : List Value) (h : Hp) (Q : Option Value → Hp → Prop) (l0 l1 l2 l3 l4 l5 l6 : Option Value) (a : Int64), Wp 137 189 (l0 :: l1 :: l2 :: l3 :: l4 :: l5 :: l6 :: some (.long a) :: ls) (st) h Q ↔ Wp 137 191 (l0 :: l1 :: l2 :: l3 :: l4 :: l5 :: l6 :: some (.long a) :: ls) (.long a :: st) h Q) ∧
  (∀ (ls : Lo) (st : List Value) (n sl : Nat) (C Z : Nat → Nat) (I : Nat → Nat → Int32) (L : Nat → Nat → Int64) (R : Nat → Nat → Nat) (Q : Option Value → Hp → Prop) (x0 : Int64) (x1 : Int64) (i : Nat), C i = 11 → (Wp 137 191 (ls) (.long x1 :: .long x0 :: .ref i :: st) (n, sl, C, Z, I, L, R) Q ↔ (wsum st ≤ 8 ∧ Call 106 [some (.ref i), some (.long x0), none, some (.long x1), none, none, none] (n, sl, C, Z, I, L, R) 137 194 ls st Q))) ∧
  (∀ (ls : Lo) (st : List Value) (h : Hp) (Q : Option Value → Hp → Prop)  (i : Nat), Wp 137 194 (some (.ref i) :: ls) (st) h Q ↔ Wp 137 195 (some (.ref i) :: ls) (.ref i :: st) h Q) ∧
  (∀ (ls : Lo) (st : List Value) (h : Hp) (Q : Option Value → Hp → Prop) (l0 l1 l2 l3 : Option Value) (x : Int32), Wp 137 195 (l0 :: l1 :: l2 :: l3 :: some (.int x) :: ls) (st) h Q ↔ Wp 137 197 (l0 :: l1 :: l2 :: l3 :: some (.int x) :: ls) (.int x :: st) h Q) ∧
  (∀ (ls : Lo) (st : List Value) (n sl : Nat) (C Z : Nat → Nat) (I : Nat → Nat → Int32) (L : Nat → Nat → Int64) (R : Nat → Nat → Nat) (Q : Option Value → Hp → Prop) (x0 : Int32) (i : Nat), C i = 11 → (Wp 137 197 (ls) (.int x0 :: .ref i :: st) (n, sl, C, Z, I, L, R) Q ↔ (wsum st ≤ 8 ∧ Call 107 [some (.ref i), some (.int x0)] (n, sl, C, Z, I, L, R) 137 200 ls st Q))) ∧
  (∀ (ls : Lo) (h : Hp) (Q : Option Value → Hp → Prop) (a : Int64), Wp 137 200 (ls) ([.long a]) h Q ↔ Q (some (.long a)) h) := ⟨by intro ls st n sl C Z I L R Q i y; exact e_iald d137_169,
  by intro ls st h Q x; exact e_i2l d137_170,
  by intro ls st h Q l0 l1 l2 l3 l4 l5 l6 l7 l8 l9 x; exact e_iload d137_171 rfl,
  by intro ls st h Q x0 x1; exact e_is (k2 := 135) (as := [.long x0, .int x1]) d137_173 rfl (by decide) rfl rfl (by decide +kernel) (Nat.le_of_ble_eq_true rfl) rfl,
  by intro ls st h Q a b; exact e_lmul d137_176,
  by intro ls st h Q a b; exact e_ladd d137_177,
  by intro ls st h Q l0 l1 l2 l3 l4 l5 l6 a; exact e_lstore d137_178 rfl,
  by intro ls st h Q l0 l1 l2 l3 l4 l5 l6 l7 l8 l9 x; exact e_iinc d137_180 rfl rfl rfl,
  by intro ls st h Q; exact e_goto d137_183 (by decide),
  by intro ls st h Q i; exact e_aload_n d137_186 rfl,
  by intro ls st h Q l0 l1 l2 l3 l4 a; exact e_lload d137_187 rfl,
  by intro ls st h Q l0 l1 l2 l3 l4 l5 l6 a; exact e_lload d137_189 rfl,
  by intro ls st n sl C Z I L R Q x0 x1 i hh; exact e_iv (k2 := 106) (c := 11) (as := [.long x0, .long x1]) d137_191 rfl (by decide) rfl rfl (by decide +kernel) (Nat.le_of_ble_eq_true rfl) rfl hh,
  by intro ls st h Q i; exact e_aload_n d137_194 rfl,
  by intro ls st h Q l0 l1 l2 l3 x; exact e_iload d137_195 rfl,
  by intro ls st n sl C Z I L R Q x0 i hh; exact e_iv (k2 := 107) (c := 11) (as := [.int x0]) d137_197 rfl (by decide) rfl rfl (by decide +kernel) (Nat.le_of_ble_eq_true rfl) rfl hh,
  by intros; exact e_rL d137_200 rfl⟩
theorem d138_0 : decode (byt 138) 0 = .ok (.aload_n 0, 1) := by decide +kernel
theorem d138_1 : decode (byt 138) 1 = .ok (.iload_n 1, 1) := by decide +kernel
theorem d138_2 : decode (byt 138) 2 = .ok (.invokevirtual 105, 3) := by decide +kernel
theorem d138_5 : decode (byt 138) 5 = .ok (.ifCond .eq 11, 3) := by decide +kernel
theorem d138_8 : decode (byt 138) 8 = .ok (.aload_n 0, 1) := by decide +kernel
theorem d138_9 : decode (byt 138) 9 = .ok (.iload_n 2, 1) := by decide +kernel
theorem d138_10 : decode (byt 138) 10 = .ok (.invokevirtual 105, 3) := by decide +kernel
theorem d138_13 : decode (byt 138) 13 = .ok (.ifCond .ne 6, 3) := by decide +kernel
theorem d138_16 : decode (byt 138) 16 = .ok (.bipush (-2), 2) := by decide +kernel
theorem d138_18 : decode (byt 138) 18 = .ok (.ireturn, 1) := by decide +kernel
theorem d138_19 : decode (byt 138) 19 = .ok (.aload_n 0, 1) := by decide +kernel
theorem d138_20 : decode (byt 138) 20 = .ok (.getfield 19, 3) := by decide +kernel
theorem d138_23 : decode (byt 138) 23 = .ok (.iload_n 1, 1) := by decide +kernel
theorem d138_24 : decode (byt 138) 24 = .ok (.iaload, 1) := by decide +kernel
theorem d138_25 : decode (byt 138) 25 = .ok (.aload_n 0, 1) := by decide +kernel
theorem d138_26 : decode (byt 138) 26 = .ok (.getfield 19, 3) := by decide +kernel
theorem d138_29 : decode (byt 138) 29 = .ok (.iload_n 2, 1) := by decide +kernel
theorem d138_30 : decode (byt 138) 30 = .ok (.iaload, 1) := by decide +kernel
theorem d138_31 : decode (byt 138) 31 = .ok (.if_icmp .ne 36, 3) := by decide +kernel
theorem d138_34 : decode (byt 138) 34 = .ok (.aload_n 0, 1) := by decide +kernel
theorem d138_35 : decode (byt 138) 35 = .ok (.getfield 7, 3) := by decide +kernel
theorem d138_38 : decode (byt 138) 38 = .ok (.iload_n 1, 1) := by decide +kernel
theorem d138_39 : decode (byt 138) 39 = .ok (.iaload, 1) := by decide +kernel
theorem d138_40 : decode (byt 138) 40 = .ok (.iconst 1, 1) := by decide +kernel
theorem d138_41 : decode (byt 138) 41 = .ok (.if_icmp .ne 7, 3) := by decide +kernel
theorem d138_44 : decode (byt 138) 44 = .ok (.iconst 1, 1) := by decide +kernel
theorem d138_45 : decode (byt 138) 45 = .ok (.goto 4, 3) := by decide +kernel
theorem d138_48 : decode (byt 138) 48 = .ok (.iconst 0, 1) := by decide +kernel
theorem d138_49 : decode (byt 138) 49 = .ok (.aload_n 0, 1) := by decide +kernel
theorem d138_50 : decode (byt 138) 50 = .ok (.getfield 7, 3) := by decide +kernel
theorem d138_53 : decode (byt 138) 53 = .ok (.iload_n 2, 1) := by decide +kernel
theorem d138_54 : decode (byt 138) 54 = .ok (.iaload, 1) := by decide +kernel
theorem d138_55 : decode (byt 138) 55 = .ok (.iconst 1, 1) := by decide +kernel
theorem d138_56 : decode (byt 138) 56 = .ok (.if_icmp .ne 7, 3) := by decide +kernel
theorem d138_59 : decode (byt 138) 59 = .ok (.iconst 1, 1) := by decide +kernel
theorem d138_60 : decode (byt 138) 60 = .ok (.goto 4, 3) := by decide +kernel
theorem d138_63 : decode (byt 138) 63 = .ok (.iconst 0, 1) := by decide +kernel
theorem d138_64 : decode (byt 138) 64 = .ok (.if_icmp .eq 5, 3) := by decide +kernel
theorem d138_67 : decode (byt 138) 67 = .ok (.iconst 0, 1) := by decide +kernel
theorem d138_68 : decode (byt 138) 68 = .ok (.ireturn, 1) := by decide +kernel
theorem d138_69 : decode (byt 138) 69 = .ok (.iconst 0, 1) := by decide +kernel
theorem d138_70 : decode (byt 138) 70 = .ok (.istore_n 3, 1) := by decide +kernel
theorem d138_71 : decode (byt 138) 71 = .ok (.iload_n 3, 1) := by decide +kernel
theorem d138_72 : decode (byt 138) 72 = .ok (.aload_n 0, 1) := by decide +kernel
theorem d138_73 : decode (byt 138) 73 = .ok (.getfield 13, 3) := by decide +kernel
theorem d138_76 : decode (byt 138) 76 = .ok (.iload_n 1, 1) := by decide +kernel
theorem d138_77 : decode (byt 138) 77 = .ok (.iaload, 1) := by decide +kernel
theorem d138_78 : decode (byt 138) 78 = .ok (.aload_n 0, 1) := by decide +kernel
theorem d138_79 : decode (byt 138) 79 = .ok (.getfield 13, 3) := by decide +kernel
theorem d138_82 : decode (byt 138) 82 = .ok (.iload_n 2, 1) := by decide +kernel
theorem d138_83 : decode (byt 138) 83 = .ok (.iaload, 1) := by decide +kernel
theorem d138_84 : decode (byt 138) 84 = .ok (.iadd, 1) := by decide +kernel
theorem d138_85 : decode (byt 138) 85 = .ok (.if_icmp .ge 51, 3) := by decide +kernel
theorem d138_88 : decode (byt 138) 88 = .ok (.aload_n 0, 1) := by decide +kernel
theorem d138_89 : decode (byt 138) 89 = .ok (.iload_n 1, 1) := by decide +kernel
theorem d138_90 : decode (byt 138) 90 = .ok (.iload_n 3, 1) := by decide +kernel
theorem d138_91 : decode (byt 138) 91 = .ok (.invokevirtual 150, 3) := by decide +kernel
theorem d138_94 : decode (byt 138) 94 = .ok (.aload_n 0, 1) := by decide +kernel
theorem d138_95 : decode (byt 138) 95 = .ok (.getfield 16, 3) := by decide +kernel
theorem d138_98 : decode (byt 138) 98 = .ok (.iload_n 2, 1) := by decide +kernel
theorem d138_99 : decode (byt 138) 99 = .ok (.iaload, 1) := by decide +kernel
theorem d138_100 : decode (byt 138) 100 = .ok (.i2l, 1) := by decide +kernel
theorem d138_101 : decode (byt 138) 101 = .ok (.iload_n 3, 1) := by decide +kernel
theorem d138_102 : decode (byt 138) 102 = .ok (.invokestatic 175, 3) := by decide +kernel
theorem d138_105 : decode (byt 138) 105 = .ok (.lmul, 1) := by decide +kernel
theorem d138_106 : decode (byt 138) 106 = .ok (.aload_n 0, 1) := by decide +kernel
theorem d138_107 : decode (byt 138) 107 = .ok (.iload_n 2, 1) := by decide +kernel
theorem d138_108 : decode (byt 138) 108 = .ok (.iload_n 3, 1) := by decide +kernel
theorem d138_109 : decode (byt 138) 109 = .ok (.invokevirtual 150, 3) := by decide +kernel
theorem d138_112 : decode (byt 138) 112 = .ok (.aload_n 0, 1) := by decide +kernel
theorem d138_113 : decode (byt 138) 113 = .ok (.getfield 16, 3) := by decide +kernel
theorem d138_116 : decode (byt 138) 116 = .ok (.iload_n 1, 1) := by decide +kernel
theorem d138_117 : decode (byt 138) 117 = .ok (.iaload, 1) := by decide +kernel
theorem d138_118 : decode (byt 138) 118 = .ok (.i2l, 1) := by decide +kernel
theorem d138_119 : decode (byt 138) 119 = .ok (.iload_n 3, 1) := by decide +kernel
theorem d138_120 : decode (byt 138) 120 = .ok (.invokestatic 175, 3) := by decide +kernel
theorem d138_123 : decode (byt 138) 123 = .ok (.lmul, 1) := by decide +kernel
theorem d138_124 : decode (byt 138) 124 = .ok (.lcmp, 1) := by decide +kernel
theorem d138_125 : decode (byt 138) 125 = .ok (.ifCond .eq 5, 3) := by decide +kernel
theorem d138_128 : decode (byt 138) 128 = .ok (.iconst 0, 1) := by decide +kernel
theorem d138_129 : decode (byt 138) 129 = .ok (.ireturn, 1) := by decide +kernel
theorem d138_130 : decode (byt 138) 130 = .ok (.iinc 3 1, 3) := by decide +kernel
theorem d138_133 : decode (byt 138) 133 = .ok (.goto (-62), 3) := by decide +kernel
theorem d138_136 : decode (byt 138) 136 = .ok (.iconst 1, 1) := by decide +kernel
theorem d138_137 : decode (byt 138) 137 = .ok (.ireturn, 1) := by decide +kernel
set_option maxRecDepth 20000 in
theorem S138_0 : (∀ (ls : Lo) (st : List Value) (h : Hp) (Q : Option Value → Hp → Prop)  (i : Nat), Wp 138 0 (some (.ref i) :: ls) (st) h Q ↔ Wp 138 1 (some (.ref i) :: ls) (.ref i :: st) h Q) ∧
  (∀ (ls : Lo) (st : List Value) (h : Hp) (Q : Option Value → Hp → Prop) (l0 : Option Value) (x : Int32), Wp 138 1 (l0 :: some (.int x) :: ls) (st) h Q ↔ Wp 138 2 (l0 :: some (.int x) :: ls) (.int x :: st) h Q) ∧
  (∀ (ls : Lo) (st : List Value) (n sl : Nat) (C Z : Nat → Nat) (I : Nat → Nat → Int32) (L : Nat → Nat → Int64) (R : Nat → Nat → Nat) (Q : Option Value → Hp → Prop) (x0 : Int32) (i : Nat), C i = 11 → (Wp 138 2 (ls) (.int x0 :: .ref i :: st) (n, sl, C, Z, I, L, R) Q ↔ (wsum st ≤ 8 ∧ Call 103 [some (.ref i), some (.int x0)] (n, sl, C, Z, I, L, R) 138 5 ls st Q))) ∧
  (∀ (ls : Lo) (st : List Value) (h : Hp) (Q : Option Value → Hp → Prop) (x : Int32), Wp 138 5 (ls) (.int x :: st) h Q ↔ Br 138 16 8 ls st h Q (x = 0)) ∧
  (∀ (ls : Lo) (st : List Value) (h : Hp) (Q : Option Value → Hp → Prop)  (i : Nat), Wp 138 8 (some (.ref i) :: ls) (st) h Q ↔ Wp 138 9 (some (.ref i) :: ls) (.ref i :: st) h Q) ∧
  (∀ (ls : Lo) (st : List Value) (h : Hp) (Q : Option Value → Hp → Prop) (l0 l1 : Option Value) (x : Int32), Wp 138 9 (l0 :: l1 :: some (.int x) :: ls) (st) h Q ↔ Wp 138 10 (l0 :: l1 :: some (.int x) :: ls) (.int x :: st) h Q) ∧
  (∀ (ls : Lo) (st : List Value) (n sl : Nat) (C Z : Nat → Nat) (I : Nat → Nat → Int32) (L : Nat → Nat → Int64) (R : Nat → Nat → Nat) (Q : Option Value → Hp → Prop) (x0 : Int32) (i : Nat), C i = 11 → (Wp 138 10 (ls) (.int x0 :: .ref i :: st) (n, sl, C, Z, I, L, R) Q ↔ (wsum st ≤ 8 ∧ Call 103 [some (.ref i), some (.int x0)] (n, sl, C, Z, I, L, R) 138 13 ls st Q))) ∧
  (∀ (ls : Lo) (st : List Value) (h : Hp) (Q : Option Value → Hp → Prop) (x : Int32), Wp 138 13 (ls) (.int x :: st) h Q ↔ Br 138 19 16 ls st h Q (¬ x = 0)) ∧
  (∀ (ls : Lo) (st : List Value) (h : Hp) (Q : Option Value → Hp → Prop), Wp 138 16 (ls) (st) h Q ↔ Wp 138 18 (ls) (.int (-2) :: st) h Q) ∧
  (∀ (ls : Lo) (h : Hp) (Q : Option Value → Hp → Prop) (x : Int32), Wp 138 18 (ls) ([.int x]) h Q ↔ Q (some (.int x)) h) ∧
  (∀ (ls : Lo) (st : List Value) (h : Hp) (Q : Option Value → Hp → Prop)  (i : Nat), Wp 138 19 (some (.ref i) :: ls) (st) h Q ↔ Wp 138 20 (some (.ref i) :: ls) (.ref i :: st) h Q) ∧
  (∀ (ls : Lo) (st : List Value) (n sl : Nat) (C Z : Nat → Nat) (I : Nat → Nat → Int32) (L : Nat → Nat → Int64) (R : Nat → Nat → Nat) (Q : Option Value → Hp → Prop) (i : Nat), Wp 138 20 (ls) (.ref i :: st) (n, sl, C, Z, I, L, R) Q ↔ (C i = 11 ∧ Wp 138 23 (ls) (.ref (R i 4) :: st) (n, sl, C, Z, I, L, R) Q)) ∧
  (∀ (ls : Lo) (st : List Value) (h : Hp) (Q : Option Value → Hp → Prop) (l0 : Option Value) (x : Int32), Wp 138 23 (l0 :: some (.int x) :: ls) (st) h Q ↔ Wp 138 24 (l0 :: some (.int x) :: ls) (.int x :: st) h Q) ∧
  (∀ (ls : Lo) (st : List Value) (n sl : Nat) (C Z : Nat → Nat) (I : Nat → Nat → Int32) (L : Nat → Nat → Int64) (R : Nat → Nat → Nat) (Q : Option Value → Hp → Prop) (i : Nat) (y : Int32), Wp 138 24 (ls) (.int y :: .ref i :: st) (n, sl, C, Z, I, L, R) Q ↔ ((inb y (Z i) = true ∧ C i = 21) ∧ Wp 138 25 (ls) (.int (I i (ix y)) :: st) (n, sl, C, Z, I, L, R) Q)) ∧
  (∀ (ls : Lo) (st : List Value) (h : Hp) (Q : Option Value → Hp → Prop)  (i : Nat), Wp 138 25 (some (.ref i) :: ls) (st) h Q ↔ Wp 138 26 (some (.ref i) :: ls) (.ref i :: st) h Q) ∧
  (∀ (ls : Lo) (st : List Value) (n sl : Nat) (C Z : Nat → Nat) (I : Nat → Nat → Int32) (L : Nat → Nat → Int64) (R : Nat → Nat → Nat) (Q : Option Value → Hp → Prop) (i : Nat), Wp 138 26 (ls) (.ref i :: st) (n, sl, C, Z, I, L, R) Q ↔ (C i = 11 ∧ Wp 138 29 (ls) (.ref (R i 4) :: st) (n, sl, C, Z, I, L, R) Q)) ∧
  (∀ (ls : Lo) (st : List Value) (h : Hp) (Q : Option Value → Hp → Prop) (l0 l1 : Option Value) (x : Int32), Wp 138 29 (l0 :: l1 :: some (.int x) :: ls) (st) h Q ↔ Wp 138 30 (l0 :: l1 :: some (.int x) :: ls) (.int x :: st) h Q) ∧
  (∀ (ls : Lo) (st : List Value) (n sl : Nat) (C Z : Nat → Nat) (I : Nat → Nat → Int32) (L : Nat → Nat → Int64) (R : Nat → Nat → Nat) (Q : Option Value → Hp → Prop) (i : Nat) (y : Int32), Wp 138 30 (ls) (.int y :: .ref i :: st) (n, sl, C, Z, I, L, R) Q ↔ ((inb y (Z i) = true ∧ C i = 21) ∧ Wp 138 31 (ls) (.int (I i (ix y)) :: st) (n, sl, C, Z, I, L, R) Q)) ∧
  (∀ (ls : Lo) (st : List Value) (h : Hp) (Q : Option Value → Hp → Prop) (x y : Int32), Wp 138 31 (ls) (.int y :: .int x :: st) h Q ↔ Br 138 67 34 ls st h Q (¬ x = y)) ∧
  (∀ (ls : Lo) (st : List Value) (h : Hp) (Q : Option Value → Hp → Prop)  (i : Nat), Wp 138 34 (some (.ref i) :: ls) (st) h Q ↔ Wp 138 35 (some (.ref i) :: ls) (.ref i :: st) h Q) ∧
  (∀ (ls : Lo) (st : List Value) (n sl : Nat) (C Z : Nat → Nat) (I : Nat → Nat → Int32) (L : Nat → Nat → Int64) (R : Nat → Nat → Nat) (Q : Option Value → Hp → Prop) (i : Nat), Wp 138 35 (ls) (.ref i :: st) (n, sl, C, Z, I, L, R) Q ↔ (C i = 11 ∧ Wp 138 38 (ls) (.ref (R i 1) :: st) (n, sl, C, Z, I, L, R) Q)) ∧
  (∀ (ls : Lo) (st : List Value) (h : Hp) (Q : Option Value → Hp → Prop) (l0 : Option Value) (x : Int32), Wp 138 38 (l0 :: some (.int x) :: ls) (st) h Q ↔ Wp 138 39 (l0 :: some (.int x) :: ls) (.int x :: st) h Q) ∧
  (∀ (ls : Lo) (st : List Value) (n sl : Nat) (C Z : Nat → Nat) (I : Nat → Nat → Int32) (L : Nat → Nat → Int64) (R : Nat → Nat → Nat) (Q : Option Value → Hp → Prop) (i : Nat) (y : Int32), Wp 138 39 (ls) (.int y :: .ref i :: st) (n, sl, C, Z, I, L, R) Q ↔ ((inb y (Z i) = true ∧ C i = 21) ∧ Wp 138 40 (ls) (.int (I i (ix y)) :: st) (n, sl, C, Z, I, L, R) Q)) ∧
  (∀ (ls : Lo) (st : List Value) (h : Hp) (Q : Option Value → Hp → Prop), Wp 138 40 (ls) (st) h Q ↔ Wp 138 41 (ls) (.int (1) :: st) h Q) ∧
  (∀ (ls : Lo) (st : List Value) (h : Hp) (Q : Option Value → Hp → Prop) (x y : Int32), Wp 138 41 (ls) (.int y :: .int x :: st) h Q ↔ Br 138 48 44 ls st h Q (¬ x = y)) := ⟨by intro ls st h Q i; exact e_aload_n d138_0 rfl,
  by intro ls st h Q l0 x; exact e_iload_n d138_1 rfl,
  by intro ls st n sl C Z I L R Q x0 i hh; exact e_iv (k2 := 103) (c := 11) (as := [.int x0]) d138_2 rfl (by decide) rfl rfl (by decide +kernel) (Nat.le_of_ble_eq_true rfl) rfl hh,
  by intro ls st h Q x; exact e_if d138_5 (by decide) c_eq,
  by intro ls st h Q i; exact e_aload_n d138_8 rfl,
  by intro ls st h Q l0 l1 x; exact e_iload_n d138_9 rfl,
  by intro ls st n sl C Z I L R Q x0 i hh; exact e_iv (k2 := 103) (c := 11) (as := [.int x0]) d138_10 rfl (by decide) rfl rfl (by decide +kernel) (Nat.le_of_ble_eq_true rfl) rfl hh,
  by intro ls st h Q x; exact e_if d138_13 (by decide) c_ne,
  by intro ls st h Q; exact e_bipush d138_16 rfl,
  by intros; exact e_rI (p := True) d138_18 rfl,
  by intro ls st h Q i; exact e_aload_n d138_19 rfl,
  by intro ls st n sl C Z I L R Q i; exact e_get (g := 10) (s := 4) (ty := 2) d138_20 rfl rfl (inG_ne (by decide)),
  by intro ls st h Q l0 x; exact e_iload_n d138_23 rfl,
  by intro ls st n sl C Z I L R Q i y; exact e_iald d138_24,
  by intro ls st h Q i; exact e_aload_n d138_25 rfl,
  by intro ls st n sl C Z I L R Q i; exact e_get (g := 10) (s := 4) (ty := 2) d138_26 rfl rfl (inG_ne (by decide)),
  by intro ls st h Q l0 l1 x; exact e_iload_n d138_29 rfl,
  by intro ls st n sl C Z I L R Q i y; exact e_iald d138_30,
  by intro ls st h Q x y; exact e_ic d138_31 (by decide) c_ne,
  by intro ls st h Q i; exact e_aload_n d138_34 rfl,
  by intro ls st n sl C Z I L R Q i; exact e_get (g := 10) (s := 1) (ty := 2) d138_35 rfl rfl (inG_ne (by decide)),
  by intro ls st h Q l0 x; exact e_iload_n d138_38 rfl,
  by intro ls st n sl C Z I L R Q i y; exact e_iald d138_39,
  by intro ls st h Q; exact e_iconst d138_40 rfl,
  by intro ls st h Q x y; exact e_ic d138_41 (by decide) c_ne⟩
set_option maxRecDepth 20000 in
theorem S138_1 : (∀ (ls : Lo) (st : List Value) (h : Hp) (Q : Option Value → Hp → Prop), Wp 138 44 (ls) (st) h Q ↔ Wp 138 45 (ls) (.int (1) :: st) h Q) ∧
  (∀ (ls : Lo) (st : List Value) (h : Hp) (Q : Option Value → Hp → Prop), Wp 138 45 (ls) (st) h Q ↔ Wp 138 49 (ls) (st) h Q) ∧
  (∀ (ls : Lo) (st : List Value) (h : Hp) (Q : Option Value → Hp → Prop), Wp 138 48 (ls) (st) h Q ↔ Wp 138 49 (ls) (.int (0) :: st) h Q) ∧
  (∀ (ls : Lo) (st : List Value) (h : Hp) (Q : Option Value → Hp → Prop)  (i : Nat), Wp 138 49 (some (.ref i) :: ls) (st) h Q ↔ Wp 138 50 (some (.ref i) :: ls) (.ref i :: st) h Q) ∧
  (∀ (ls : Lo) (st : List Value) (n sl : Nat) (C Z : Nat → Nat) (I : Nat → Nat → Int32) (L : Nat → Nat → Int64) (R : Nat → Nat → Nat) (Q : Option Value → Hp → Prop) (i : Nat), Wp 138 50 (ls) (.ref i :: st) (n, sl, C, Z, I, L, R) Q ↔ (C i = 11 ∧ Wp 138 53 (ls) (.ref (R i 1) :: st) (n, sl, C, Z, I, L, R) Q)) ∧
  (∀ (ls : Lo) (st : List Value) (h : Hp) (Q : Option Value → Hp → Prop) (l0 l1 : Option Value) (x : Int32), Wp 138 53 (l0 :: l1 :: some (.int x) :: ls) (st) h Q ↔ Wp 138 54 (l0 :: l1 :: some (.int x) :: ls) (.int x :: st) h Q) ∧
  (∀ (ls : Lo) (st : List Value) (n sl : Nat) (C Z : Nat → Nat) (I : Nat → Nat → Int32) (L : Nat → Nat → Int64) (R : Nat → Nat → Nat) (Q : Option Value → Hp → Prop) (i : Nat) (y : Int32), Wp 138 54 (ls) (.int y :: .ref i :: st) (n, sl, C, Z, I, L, R) Q ↔ ((inb y (Z i) = true ∧ C i = 21) ∧ Wp 138 55 (ls) (.int (I i (ix y)) :: st) (n, sl, C, Z, I, L, R) Q)) ∧
  (∀ (ls : Lo) (st : List Value) (h : Hp) (Q : Option Value → Hp → Prop), Wp 138 55 (ls) (st) h Q ↔ Wp 138 56 (ls) (.int (1) :: st) h Q) ∧
  (∀ (ls : Lo) (st : List Value) (h : Hp) (Q : Option Value → Hp → Prop) (x y : Int32), Wp 138 56 (ls) (.int y :: .int x :: st) h Q ↔ Br 138 63 59 ls st h Q (¬ x = y)) ∧
  (∀ (ls : Lo) (st : List Value) (h : Hp) (Q : Option Value → Hp → Prop), Wp 138 59 (ls) (st) h Q ↔ Wp 138 60 (ls) (.int (1) :: st) h Q) ∧
  (∀ (ls : Lo) (st : List Value) (h : Hp) (Q : Option Value → Hp → Prop), Wp 138 60 (ls) (st) h Q ↔ Wp 138 64 (ls) (st) h Q) ∧
  (∀ (ls : Lo) (st : List Value) (h : Hp) (Q : Option Value → Hp → Prop), Wp 138 63 (ls) (st) h Q ↔ Wp 138 64 (ls) (.int (0) :: st) h Q) ∧
  (∀ (ls : Lo) (st : List Value) (h : Hp) (Q : Option Value → Hp → Prop) (x y : Int32), Wp 138 64 (ls) (.int y :: .int x :: st) h Q ↔ Br 138 69 67 ls st h Q (x = y)) ∧
  (∀ (ls : Lo) (st : List Value) (h : Hp) (Q : Option Value → Hp → Prop), Wp 138 67 (ls) (st) h Q ↔ Wp 138 68 (ls) (.int (0) :: st) h Q) ∧
  (∀ (ls : Lo) (h : Hp) (Q : Option Value → Hp → Prop) (x : Int32), Wp 138 68 (ls) ([.int x]) h Q ↔ Q (some (.int x)) h) ∧
  (∀ (ls : Lo) (st : List Value) (h : Hp) (Q : Option Value → Hp → Prop), Wp 138 69 (ls) (st) h Q ↔ Wp 138 70 (ls) (.int (0) :: st) h Q) ∧
  (∀ (ls : Lo) (st : List Value) (h : Hp) (Q : Option Value → Hp → Prop) (l0 l1 l2 l3 : Option Value) (x : Int32), Wp 138 70 (l0 :: l1 :: l2 :: l3 :: ls) (.int x :: st) h Q ↔ Wp 138 71 (l0 :: l1 :: clr l2 :: some (.int x) :: ls) (st) h Q) ∧
  (∀ (ls : Lo) (st : List Value) (h : Hp) (Q : Option Value → Hp → Prop) (l0 l1 l2 : Option Value) (x : Int32), Wp 138 71 (l0 :: l1 :: l2 :: some (.int x) :: ls) (st) h Q ↔ Wp 138 72 (l0 :: l1 :: l2 :: some (.int x) :: ls) (.int x :: st) h Q) ∧
  (∀ (ls : Lo) (st : List Value) (h : Hp) (Q : Option Value → Hp → Prop)  (i : Nat), Wp 138 72 (some (.ref i) :: ls) (st) h Q ↔ Wp 138 73 (some (.ref i) :: ls) (.ref i :: st) h Q) ∧
  (∀ (ls : Lo) (st : List Value) (n sl : Nat) (C Z : Nat → Nat) (I : Nat → Nat → Int32) (L : Nat → Nat → Int64) (R : Nat → Nat → Nat) (Q : Option Value → Hp → Prop) (i : Nat), Wp 138 73 (ls) (.ref i :: st) (n, sl, C, Z, I, L, R) Q ↔ (C i = 11 ∧ Wp 138 76 (ls) (.ref (R i 2) :: st) (n, sl, C, Z, I, L, R) Q)) ∧
  (∀ (ls : Lo) (st : List Value) (h : Hp) (Q : Option Value → Hp → Prop) (l0 : Option Value) (x : Int32), Wp 138 76 (l0 :: some (.int x) :: ls) (st) h Q ↔ Wp 138 77 (l0 :: some (.int x) :: ls) (.int x :: st) h Q) ∧
  (∀ (ls : Lo) (st : List Value) (n sl : Nat) (C Z : Nat → Nat) (I : Nat → Nat → Int32) (L : Nat → Nat → Int64) (R : Nat → Nat → Nat) (Q : Option Value → Hp → Prop) (i : Nat) (y : Int32), Wp 138 77 (ls) (.int y :: .ref i :: st) (n, sl, C, Z, I, L, R) Q ↔ ((inb y (Z i) = true ∧ C i = 21) ∧ Wp 138 78 (ls) (.int (I i (ix y)) :: st) (n, sl, C, Z, I, L, R) Q)) ∧
  (∀ (ls : Lo) (st : List Value) (h : Hp) (Q : Option Value → Hp → Prop)  (i : Nat), Wp 138 78 (some (.ref i) :: ls) (st) h Q ↔ Wp 138 79 (some (.ref i) :: ls) (.ref i :: st) h Q) ∧
  (∀ (ls : Lo) (st : List Value) (n sl : Nat) (C Z : Nat → Nat) (I : Nat → Nat → Int32) (L : Nat → Nat → Int64) (R : Nat → Nat → Nat) (Q : Option Value → Hp → Prop) (i : Nat), Wp 138 79 (ls) (.ref i :: st) (n, sl, C, Z, I, L, R) Q ↔ (C i = 11 ∧ Wp 138 82 (ls) (.ref (R i 2) :: st) (n, sl, C, Z, I, L, R) Q)) ∧
  (∀ (ls : Lo) (st : List Value) (h : Hp) (Q : Option Value → Hp → Prop) (l0 l1 : Option Value) (x : Int32), Wp 138 82 (l0 :: l1 :: some (.int x) :: ls) (st) h Q ↔ Wp 138 83 (l0 :: l1 :: some (.int x) :: ls) (.int x :: st) h Q) := ⟨by intro ls st h Q; exact e_iconst d138_44 rfl,
  by intro ls st h Q; exact e_goto d138_45 (by decide),
  by intro ls st h Q; exact e_iconst d138_48 rfl,
  by intro ls st h Q i; exact e_aload_n d138_49 rfl,
  by intro ls st n sl C Z I L R Q i; exact e_get (g := 10) (s := 1) (ty := 2) d138_50 rfl rfl (inG_ne (by decide)),
  by intro ls st h Q l0 l1 x; exact e_iload_n d138_53 rfl,
  by intro ls st n sl C Z I L R Q i y; exact e_iald d138_54,
  by intro ls st h Q; exact e_iconst d138_55 rfl,
  by intro ls st h Q x y; exact e_ic d138_56 (by decide) c_ne,
  by intro ls st h Q; exact e_iconst d138_59 rfl,
  by intro ls st h Q; exact e_goto d138_60 (by decide),
  by intro ls st h Q; exact e_iconst d138_63 rfl,
  by intro ls st h Q x y; exact e_ic d138_64 (by decide) c_eq,
  by intro ls st h Q; exact e_iconst d138_67 rfl,
  by intros; exact e_rI (p := True) d138_68 rfl,
  by intro ls st h Q; exact e_iconst d138_69 rfl,
  by intro ls st h Q l0 l1 l2 l3 x; exact e_istore_n d138_70 rfl,
  by intro ls st h Q l0 l1 l2 x; exact e_iload_n d138_71 rfl,
  by intro ls st h Q i; exact e_aload_n d138_72 rfl,
  by intro ls st n sl C Z I L R Q i; exact e_get (g := 10) (s := 2) (ty := 2) d138_73 rfl rfl (inG_ne (by decide)),
  by intro ls st h Q l0 x; exact e_iload_n d138_76 rfl,
  by intro ls st n sl C Z I L R Q i y; exact e_iald d138_77,
  by intro ls st h Q i; exact e_aload_n d138_78 rfl,
  by intro ls st n sl C Z I L R Q i; exact e_get (g := 10) (s := 2) (ty := 2) d138_79 rfl rfl (inG_ne (by decide)),
  by intro ls st h Q l0 l1 x; exact e_iload_n d138_82 rfl⟩
set_option maxRecDepth 20000 in
theorem S138_2 : (∀ (ls : Lo) (st : List Value) (n sl : Nat) (C Z : Nat → Nat) (I : Nat → Nat → Int32) (L : Nat → Nat → Int64) (R : Nat → Nat → Nat) (Q : Option Value → Hp → Prop) (i : Nat) (y : Int32), Wp 138 83 (ls) (.int y :: .ref i :: st) (n, sl, C, Z, I, L, R) Q ↔ ((inb y (Z i) = true ∧ C i = 21) ∧ Wp 138 84 (ls) (.int (I i (ix y)) :: st) (n, sl, C, Z, I, L, R) Q)) ∧
  (∀ (ls : Lo) (st : List Value) (h : Hp) (Q : Option Value → Hp → Prop) (x y : Int32), Wp 138 84 (ls) (.int y :: .int x :: st) h Q ↔ Wp 138 85 (ls) (.int (x + y) :: st) h Q) ∧
  (∀ (ls : Lo) (st : List Value) (h : Hp) (Q : Option Value → Hp → Prop) (x y : Int32), Wp 138 85 (ls) (.int y :: .int x :: st) h Q ↔ Br 138 136 88 ls st h Q (y ≤ x)) ∧
  (∀ (ls : Lo) (st : List Value) (h : Hp) (Q : Option Value → Hp → Prop)  (i : Nat), Wp 138 88 (some (.ref i) :: ls) (st) h Q ↔ Wp 138 89 (some (.ref i) :: ls) (.ref i :: st) h Q) ∧
  (∀ (ls : Lo) (st : List Value) (h : Hp) (Q : Option Value → Hp → Prop) (l0 : Option Value) (x : Int32), Wp 138 89 (l0 :: some (.int x) :: ls) (st) h Q ↔ Wp 138 90 (l0 :: some (.int x) :: ls) (.int x :: st) h Q) ∧
  (∀ (ls : Lo) (st : List Value) (h : Hp) (Q : Option Value → Hp → Prop) (l0 l1 l2 : Option Value) (x : Int32), Wp 138 90 (l0 :: l1 :: l2 :: some (.int x) :: ls) (st) h Q ↔ Wp 138 91 (l0 :: l1 :: l2 :: some (.int x) :: ls) (.int x :: st) h Q) ∧
  (∀ (ls : Lo) (st : List Value) (n sl : Nat) (C Z : Nat → Nat) (I : Nat → Nat → Int32) (L : Nat → Nat → Int64) (R : Nat → Nat → Nat) (Q : Option Value → Hp → Prop) (x0 : Int32) (x1 : Int32) (i : Nat), C i = 11 → (Wp 138 91 (ls) (.int x1 :: .int x0 :: .ref i :: st) (n, sl, C, Z, I, L, R) Q ↔ (wsum st ≤ 8 ∧ Call 122 [some (.ref i), some (.int x0), some (.int x1), none, none, none] (n, sl, C, Z, I, L, R) 138 94 ls st Q))) ∧
  (∀ (ls : Lo) (st : List Value) (h : Hp) (Q : Option Value → Hp → Prop)  (i : Nat), Wp 138 94 (some (.ref i) :: ls) (st) h Q ↔ Wp 138 95 (some (.ref i) :: ls) (.ref i :: st) h Q) ∧
  (∀ (ls : Lo) (st : List Value) (n sl : Nat) (C Z : Nat → Nat) (I : Nat → Nat → Int32) (L : Nat → Nat → Int64) (R : Nat → Nat → Nat) (Q : Option Value → Hp → Prop) (i : Nat), Wp 138 95 (ls) (.ref i :: st) (n, sl, C, Z, I, L, R) Q ↔ (C i = 11 ∧ Wp 138 98 (ls) (.ref (R i 3) :: st) (n, sl, C, Z, I, L, R) Q)) ∧
  (∀ (ls : Lo) (st : List Value) (h : Hp) (Q : Option Value → Hp → Prop) (l0 l1 : Option Value) (x : Int32), Wp 138 98 (l0 :: l1 :: some (.int x) :: ls) (st) h Q ↔ Wp 138 99 (l0 :: l1 :: some (.int x) :: ls) (.int x :: st) h Q) ∧
  (∀ (ls : Lo) (st : List Value) (n sl : Nat) (C Z : Nat → Nat) (I : Nat → Nat → Int32) (L : Nat → Nat → Int64) (R : Nat → Nat → Nat) (Q : Option Value → Hp → Prop) (i : Nat) (y : Int32), Wp 138 99 (ls) (.int y :: .ref i :: st) (n, sl, C, Z, I, L, R) Q ↔ ((inb y (Z i) = true ∧ C i = 21) ∧ Wp 138 100 (ls) (.int (I i (ix y)) :: st) (n, sl, C, Z, I, L, R) Q)) ∧
  (∀ (ls : Lo) (st : List Value) (h : Hp) (Q : Option Value → Hp → Prop) (x : Int32), Wp 138 100 (ls) (.int x :: st) h Q ↔ Wp 138 101 (ls) (.long x.toInt64 :: st) h Q) ∧
  (∀ (ls : Lo) (st : List Value) (h : Hp) (Q : Option Value → Hp → Prop) (l0 l1 l2 : Option Value) (x : Int32), Wp 138 101 (l0 :: l1 :: l2 :: some (.int x) :: ls) (st) h Q ↔ Wp 138 102 (l0 :: l1 :: l2 :: some (.int x) :: ls) (.int x :: st) h Q) ∧
  (∀ (ls : Lo) (st : List Value) (h : Hp) (Q : Option Value → Hp → Prop) (x0 : Int64) (x1 : Int32), Wp 138 102 (ls) (.int x1 :: .long x0 :: st) h Q ↔ (wsum st ≤ 8 ∧ Call 135 [some (.long x0), none, some (.int x1), none, none, none] h 138 105 ls st Q)) ∧
  (∀ (ls : Lo) (st : List Value) (h : Hp) (Q : Option Value → Hp → Prop) (a b : Int64), Wp 138 105 (ls) (.long b :: .long a :: st) h Q ↔ Wp 138 106 (ls) (.long (a * b) :: st) h Q) ∧
  (∀ (ls : Lo) (st : List Value) (h : Hp) (Q : Option Value → Hp → Prop)  (i : Nat), Wp 138 106 (some (.ref i) :: ls) (st) h Q ↔ Wp 138 107 (some (.ref i) :: ls) (.ref i :: st) h Q) ∧
  (∀ (ls : Lo) (st : List Value) (h : Hp) (Q : Option Value → Hp → Prop) (l0 l1 : Option Value) (x : Int32), Wp 138 107 (l0 :: l1 :: some (.int x) :: ls) (st) h Q ↔ Wp 138 108 (l0 :: l1 :: some (.int x) :: ls) (.int x :: st) h Q) ∧
  (∀ (ls : Lo) (st : List Value) (h : Hp) (Q : Option Value → Hp → Prop) (l0 l1 l2 : Option Value) (x : Int32), Wp 138 108 (l0 :: l1 :: l2 :: some (.int x) :: ls) (st) h Q ↔ Wp 138 109 (l0 :: l1 :: l2 :: some (.int x) :: ls) (.int x :: st) h Q) ∧
  (∀ (ls : Lo) (st : List Value) (n sl : Nat) (C Z : Nat → Nat) (I : Nat → Nat → Int32) (L : Nat → Nat → Int64) (R : Nat → Nat → Nat) (Q : Option Value → Hp → Prop) (x0 : Int32) (x1 : Int32) (i : Nat), C i = 11 → (Wp 138 109 (ls) (.int x1 :: .int x0 :: .ref i :: st) (n, sl, C, Z, I, L, R) Q ↔ (wsum st ≤ 8 ∧ Call 122 [some (.ref i), some (.int x0), some (.int x1), none, none, none] (n, sl, C, Z, I, L, R) 138 112 ls st Q))) ∧
  (∀ (ls : Lo) (st : List Value) (h : Hp) (Q : Option Value → Hp → Prop)  (i : Nat), Wp 138 112 (some (.ref i) :: ls) (st) h Q ↔ Wp 138 113 (some (.ref i) :: ls) (.ref i :: st) h Q) ∧
  (∀ (ls : Lo) (st : List Value) (n sl : Nat) (C Z : Nat → Nat) (I : Nat → Nat → Int32) (L : Nat → Nat → Int64) (R : Nat → Nat → Nat) (Q : Option Value → Hp → Prop) (i : Nat), Wp 138 113 (ls) (.ref i :: st) (n, sl, C, Z, I, L, R) Q ↔ (C i = 11 ∧ Wp 138 116 (ls) (.ref (R i 3) :: st) (n, sl, C, Z, I, L, R) Q)) ∧
  (∀ (ls : Lo) (st : List Value) (h : Hp) (Q : Option Value → Hp → Prop) (l0 : Option Value) (x : Int32), Wp 138 116 (l0 :: some (.int x) :: ls) (st) h Q ↔ Wp 138 117 (l0 :: some (.int x) :: ls) (.int x :: st) h Q) ∧
  (∀ (ls : Lo) (st : List Value) (n sl : Nat) (C Z : Nat → Nat) (I : Nat → Nat → Int32) (L : Nat → Nat → Int64) (R : Nat → Nat → Nat) (Q : Option Value → Hp → Prop) (i : Nat) (y : Int32), Wp 138 117 (ls) (.int y :: .ref i :: st) (n, sl, C, Z, I, L, R) Q ↔ ((inb y (Z i) = true ∧ C i = 21) ∧ Wp 138 118 (ls) (.int (I i (ix y)) :: st) (n, sl, C, Z, I, L, R) Q)) ∧
  (∀ (ls : Lo) (st : List Value) (h : Hp) (Q : Option Value → Hp → Prop) (x : Int32), Wp 138 118 (ls) (.int x :: st) h Q ↔ Wp 138 119 (ls) (.long x.toInt64 :: st) h Q) ∧
  (∀ (ls : Lo) (st : List Value) (h : Hp) (Q : Option Value → Hp → Prop) (l0 l1 l2 : Option Value) (x : Int32), Wp 138 119 (l0 :: l1 :: l2 :: some (.int x) :: ls) (st) h Q ↔ Wp 138 120 (l0 :: l1 :: l2 :: some (.int x) :: ls) (.int x :: st) h Q) := ⟨by intro ls st n sl C Z I L R Q i y; exact e_iald d138_83,
  by intro ls st h Q x y; exact e_iadd d138_84,
  by intro ls st h Q x y; exact e_ic d138_85 (by decide) c_ge,
  by intro ls st h Q i; exact e_aload_n d138_88 rfl,
  by intro ls st h Q l0 x; exact e_iload_n d138_89 rfl,
  by intro ls st h Q l0 l1 l2 x; exact e_iload_n d138_90 rfl,
  by intro ls st n sl C Z I L R Q x0 x1 i hh; exact e_iv (k2 := 122) (c := 11) (as := [.int x0, .int x1]) d138_91 rfl (by decide) rfl rfl (by decide +kernel) (Nat.le_of_ble_eq_true rfl) rfl hh,
  by intro ls st h Q i; exact e_aload_n d138_94 rfl,
  by intro ls st n sl C Z I L R Q i; exact e_get (g := 10) (s := 3) (ty := 2) d138_95 rfl rfl (inG_ne (by decide)),
  by intro ls st h Q l0 l1 x; exact e_iload_n d138_98 rfl,
  by intro ls st n sl C Z I L R Q i y; exact e_iald d138_99,
  by intro ls st h Q x; exact e_i2l d138_100,
  by intro ls st h Q l0 l1 l2 x; exact e_iload_n d138_101 rfl,
  by intro ls st h Q x0 x1; exact e_is (k2 := 135) (as := [.long x0, .int x1]) d138_102 rfl (by decide) rfl rfl (by decide +kernel) (Nat.le_of_ble_eq_true rfl) rfl,
  by intro ls st h Q a b; exact e_lmul d138_105,
  by intro ls st h Q i; exact e_aload_n d138_106 rfl,
  by intro ls st h Q l0 l1 x; exact e_iload_n d138_107 rfl,
  by intro ls st h Q l0 l1 l2 x; exact e_iload_n d138_108 rfl,
  by intro ls st n sl C Z I L R Q x0 x1 i hh; exact e_iv (k2 := 122) (c := 11) (as := [.int x0, .int x1]) d138_109 rfl (by decide) rfl rfl (by decide +kernel) (Nat.le_of_ble_eq_true rfl) rfl hh,
  by intro ls st h Q i; exact e_aload_n d138_112 rfl,
  by intro ls st n sl C Z I L R Q i; exact e_get (g := 10) (s := 3) (ty := 2) d138_113 rfl rfl (inG_ne (by decide)),
  by intro ls st h Q l0 x; exact e_iload_n d138_116 rfl,
  by intro ls st n sl C Z I L R Q i y; exact e_iald d138_117,
  by intro ls st h Q x; exact e_i2l d138_118,
  by intro ls st h Q l0 l1 l2 x; exact e_iload_n d138_119 rfl⟩
set_option maxRecDepth 20000 in
theorem S138_3 : (∀ (ls : Lo) (st : List Value) (h : Hp) (Q : Option Value → Hp → Prop) (x0 : Int64) (x1 : Int32), Wp 138 120 (ls) (.int x1 :: .long x0 :: st) h Q ↔ (wsum st ≤ 8 ∧ Call 135 [some (.long x0), none, some (.int x1), none, none, none] h 138 123 ls st Q)) ∧
  (∀ (ls : Lo) (st : List Value) (h : Hp) (Q : Option Value → Hp → Prop) (a b : Int64), Wp 138 123 (ls) (.long b :: .long a :: st) h Q ↔ Wp 138 124 (ls) (.long (a * b) :: st) h Q) ∧
  (∀ (ls : Lo) (st : List Value) (h : Hp) (Q : Option Value → Hp → Prop) (a b : Int64), Wp 138 124 (ls) (.long b :: .long a :: st) h Q ↔ Wp 138 125 (ls) (.int (lg_cmp a b) :: st) h Q) ∧
  (∀ (ls : Lo) (st : List Value) (h : Hp) (Q : Option Value → Hp → Prop) (x : Int32), Wp 138 125 (ls) (.int x :: st) h Q ↔ Br 138 130 128 ls st h Q (x = 0)) ∧
  (∀ (ls : Lo) (st : List Value) (h : Hp) (Q : Option Value → Hp → Prop), Wp 138 128 (ls) (st) h Q ↔ Wp 138 129 (ls) (.int (0) :: st) h Q) ∧
  (∀ (ls : Lo) (h : Hp) (Q : Option Value → Hp → Prop) (x : Int32), Wp 138 129 (ls) ([.int x]) h Q ↔ Q (some (.int x)) h) ∧
  (∀ (ls : Lo) (st : List Value) (h : Hp) (Q : Option Value → Hp → Prop) (l0 l1 l2 : Option Value) (x : Int32), Wp 138 130 (l0 :: l1 :: l2 :: some (.int x) :: ls) (st) h Q ↔ Wp 138 133 (l0 :: l1 :: clr l2 :: some (.int (x + (1))) :: ls) (st) h Q) ∧
  (∀ (ls : Lo) (st : List Value) (h : Hp) (Q : Option Value → Hp → Prop), Wp 138 133 (ls) (st) h Q ↔ Wp 138 71 (ls) (st) h Q) ∧
  (∀ (ls : Lo) (st : List Value) (h : Hp) (Q : Option Value → Hp → Prop), Wp 138 136 (ls) (st) h Q ↔ Wp 138 137 (ls) (.int (1) :: st) h Q) ∧
  (∀ (ls : Lo) (h : Hp) (Q : Option Value → Hp → Prop) (x : Int32), Wp 138 137 (ls) ([.int x]) h Q ↔ Q (some (.int x)) h) := ⟨by intro ls st h Q x0 x1; exact e_is (k2 := 135) (as := [.long x0, .int x1]) d138_120 rfl (by decide) rfl rfl (by decide +kernel) (Nat.le_of_ble_eq_true rfl) rfl,
  by intro ls st h Q a b; exact e_lmul d138_123,
  by intro ls st h Q a b; exact e_lcmp d138_124,
  by intro ls st h Q x; exact e_if d138_125 (by decide) c_eq,
  by intro ls st h Q; exact e_iconst d138_128 rfl,
  by intros; exact e_rI (p := True) d138_129 rfl,
  by intro ls st h Q l0 l1 l2 x; exact e_iinc d138_130 rfl rfl rfl,
  by intro ls st h Q; exact e_goto d138_133 (by decide),
  by intro ls st h Q; exact e_iconst d138_136 rfl,
  by intros; exact e_rI (p := True) d138_137 rfl⟩
theorem d139_0 : decode (byt 139) 0 = .ok (.iconst 0, 1) := by decide +kernel
theorem d139_1 : decode (byt 139) 1 = .ok (.istore_n 3, 1) := by decide +kernel
theorem d139_2 : decode (byt 139) 2 = .ok (.iload_n 3, 1) := by decide +kernel
theorem d139_3 : decode (byt 139) 3 = .ok (.iload_n 1, 1) := by decide +kernel
theorem d139_4 : decode (byt 139) 4 = .ok (.if_icmp .ge 61, 3) := by decide +kernel
theorem d139_7 : decode (byt 139) 7 = .ok (.iconst 0, 1) := by decide +kernel
theorem d139_8 : decode (byt 139) 8 = .ok (.istore 4, 2) := by decide +kernel
theorem d139_10 : decode (byt 139) 10 = .ok (.iload 4, 2) := by decide +kernel
theorem d139_12 : decode (byt 139) 12 = .ok (.iload_n 1, 1) := by decide +kernel
theorem d139_13 : decode (byt 139) 13 = .ok (.if_icmp .ge 46, 3) := by decide +kernel
theorem d139_16 : decode (byt 139) 16 = .ok (.aload_n 0, 1) := by decide +kernel
theorem d139_17 : decode (byt 139) 17 = .ok (.getfield 74, 3) := by decide +kernel
theorem d139_20 : decode (byt 139) 20 = .ok (.iconst 3, 1) := by decide +kernel
theorem d139_21 : decode (byt 139) 21 = .ok (.iload_n 3, 1) := by decide +kernel
theorem d139_22 : decode (byt 139) 22 = .ok (.imul, 1) := by decide +kernel
theorem d139_23 : decode (byt 139) 23 = .ok (.iload 4, 2) := by decide +kernel
theorem d139_25 : decode (byt 139) 25 = .ok (.iadd, 1) := by decide +kernel
theorem d139_26 : decode (byt 139) 26 = .ok (.iload 4, 2) := by decide +kernel
theorem d139_28 : decode (byt 139) 28 = .ok (.iload_n 2, 1) := by decide +kernel
theorem d139_29 : decode (byt 139) 29 = .ok (.if_icmp .ne 12, 3) := by decide +kernel
theorem d139_32 : decode (byt 139) 32 = .ok (.aload_n 0, 1) := by decide +kernel
theorem d139_33 : decode (byt 139) 33 = .ok (.getfield 77, 3) := by decide +kernel
theorem d139_36 : decode (byt 139) 36 = .ok (.iload_n 3, 1) := by decide +kernel
theorem d139_37 : decode (byt 139) 37 = .ok (.laload, 1) := by decide +kernel
theorem d139_38 : decode (byt 139) 38 = .ok (.goto 14, 3) := by decide +kernel
theorem d139_41 : decode (byt 139) 41 = .ok (.aload_n 0, 1) := by decide +kernel
theorem d139_42 : decode (byt 139) 42 = .ok (.getfield 71, 3) := by decide +kernel
theorem d139_45 : decode (byt 139) 45 = .ok (.iconst 3, 1) := by decide +kernel
theorem d139_46 : decode (byt 139) 46 = .ok (.iload_n 3, 1) := by decide +kernel
theorem d139_47 : decode (byt 139) 47 = .ok (.imul, 1) := by decide +kernel
theorem d139_48 : decode (byt 139) 48 = .ok (.iload 4, 2) := by decide +kernel
theorem d139_50 : decode (byt 139) 50 = .ok (.iadd, 1) := by decide +kernel
theorem d139_51 : decode (byt 139) 51 = .ok (.laload, 1) := by decide +kernel
theorem d139_52 : decode (byt 139) 52 = .ok (.lastore, 1) := by decide +kernel
theorem d139_53 : decode (byt 139) 53 = .ok (.iinc 4 1, 3) := by decide +kernel
theorem d139_56 : decode (byt 139) 56 = .ok (.goto (-46), 3) := by decide +kernel
theorem d139_59 : decode (byt 139) 59 = .ok (.iinc 3 1, 3) := by decide +kernel
theorem d139_62 : decode (byt 139) 62 = .ok (.goto (-60), 3) := by decide +kernel
theorem d139_65 : decode (byt 139) 65 = .ok (.iload_n 1, 1) := by decide +kernel
theorem d139_66 : decode (byt 139) 66 = .ok (.iconst 1, 1) := by decide +kernel
theorem d139_67 : decode (byt 139) 67 = .ok (.if_icmp .ne 10, 3) := by decide +kernel
theorem d139_70 : decode (byt 139) 70 = .ok (.aload_n 0, 1) := by decide +kernel
theorem d139_71 : decode (byt 139) 71 = .ok (.getfield 74, 3) := by decide +kernel
theorem d139_74 : decode (byt 139) 74 = .ok (.iconst 0, 1) := by decide +kernel
theorem d139_75 : decode (byt 139) 75 = .ok (.laload, 1) := by decide +kernel
theorem d139_76 : decode (byt 139) 76 = .ok (.lreturn, 1) := by decide +kernel
theorem d139_77 : decode (byt 139) 77 = .ok (.iload_n 1, 1) := by decide +kernel
theorem d139_78 : decode (byt 139) 78 = .ok (.iconst 2, 1) := by decide +kernel
theorem d139_79 : decode (byt 139) 79 = .ok (.if_icmp .ne 31, 3) := by decide +kernel
theorem d139_82 : decode (byt 139) 82 = .ok (.aload_n 0, 1) := by decide +kernel
theorem d139_83 : decode (byt 139) 83 = .ok (.getfield 74, 3) := by decide +kernel
theorem d139_86 : decode (byt 139) 86 = .ok (.iconst 0, 1) := by decide +kernel
theorem d139_87 : decode (byt 139) 87 = .ok (.laload, 1) := by decide +kernel
theorem d139_88 : decode (byt 139) 88 = .ok (.aload_n 0, 1) := by decide +kernel
theorem d139_89 : decode (byt 139) 89 = .ok (.getfield 74, 3) := by decide +kernel
theorem d139_92 : decode (byt 139) 92 = .ok (.iconst 4, 1) := by decide +kernel
theorem d139_93 : decode (byt 139) 93 = .ok (.laload, 1) := by decide +kernel
theorem d139_94 : decode (byt 139) 94 = .ok (.lmul, 1) := by decide +kernel
theorem d139_95 : decode (byt 139) 95 = .ok (.aload_n 0, 1) := by decide +kernel
theorem d139_96 : decode (byt 139) 96 = .ok (.getfield 74, 3) := by decide +kernel
theorem d139_99 : decode (byt 139) 99 = .ok (.iconst 1, 1) := by decide +kernel
theorem d139_100 : decode (byt 139) 100 = .ok (.laload, 1) := by decide +kernel
theorem d139_101 : decode (byt 139) 101 = .ok (.aload_n 0, 1) := by decide +kernel
theorem d139_102 : decode (byt 139) 102 = .ok (.getfield 74, 3) := by decide +kernel
theorem d139_105 : decode (byt 139) 105 = .ok (.iconst 3, 1) := by decide +kernel
theorem d139_106 : decode (byt 139) 106 = .ok (.laload, 1) := by decide +kernel
theorem d139_107 : decode (byt 139) 107 = .ok (.lmul, 1) := by decide +kernel
theorem d139_108 : decode (byt 139) 108 = .ok (.lsub, 1) := by decide +kernel
theorem d139_109 : decode (byt 139) 109 = .ok (.lreturn, 1) := by decide +kernel
theorem d139_110 : decode (byt 139) 110 = .ok (.aload_n 0, 1) := by decide +kernel
theorem d139_111 : decode (byt 139) 111 = .ok (.getfield 74, 3) := by decide +kernel
theorem d139_114 : decode (byt 139) 114 = .ok (.iconst 0, 1) := by decide +kernel
theorem d139_115 : decode (byt 139) 115 = .ok (.laload, 1) := by decide +kernel
theorem d139_116 : decode (byt 139) 116 = .ok (.aload_n 0, 1) := by decide +kernel
theorem d139_117 : decode (byt 139) 117 = .ok (.getfield 74, 3) := by decide +kernel
theorem d139_120 : decode (byt 139) 120 = .ok (.iconst 4, 1) := by decide +kernel
theorem d139_121 : decode (byt 139) 121 = .ok (.laload, 1) := by decide +kernel
theorem d139_122 : decode (byt 139) 122 = .ok (.aload_n 0, 1) := by decide +kernel
theorem d139_123 : decode (byt 139) 123 = .ok (.getfield 74, 3) := by decide +kernel
theorem d139_126 : decode (byt 139) 126 = .ok (.bipush 8, 2) := by decide +kernel
theorem d139_128 : decode (byt 139) 128 = .ok (.laload, 1) := by decide +kernel
theorem d139_129 : decode (byt 139) 129 = .ok (.lmul, 1) := by decide +kernel
theorem d139_130 : decode (byt 139) 130 = .ok (.aload_n 0, 1) := by decide +kernel
theorem d139_131 : decode (byt 139) 131 = .ok (.getfield 74, 3) := by decide +kernel
theorem d139_134 : decode (byt 139) 134 = .ok (.iconst 5, 1) := by decide +kernel
theorem d139_135 : decode (byt 139) 135 = .ok (.laload, 1) := by decide +kernel
theorem d139_136 : decode (byt 139) 136 = .ok (.aload_n 0, 1) := by decide +kernel
theorem d139_137 : decode (byt 139) 137 = .ok (.getfield 74, 3) := by decide +kernel
theorem d139_140 : decode (byt 139) 140 = .ok (.bipush 7, 2) := by decide +kernel
theorem d139_142 : decode (byt 139) 142 = .ok (.laload, 1) := by decide +kernel
theorem d139_143 : decode (byt 139) 143 = .ok (.lmul, 1) := by decide +kernel
theorem d139_144 : decode (byt 139) 144 = .ok (.lsub, 1) := by decide +kernel
theorem d139_145 : decode (byt 139) 145 = .ok (.lmul, 1) := by decide +kernel
theorem d139_146 : decode (byt 139) 146 = .ok (.aload_n 0, 1) := by decide +kernel
theorem d139_147 : decode (byt 139) 147 = .ok (.getfield 74, 3) := by decide +kernel
theorem d139_150 : decode (byt 139) 150 = .ok (.iconst 1, 1) := by decide +kernel
theorem d139_151 : decode (byt 139) 151 = .ok (.laload, 1) := by decide +kernel
theorem d139_152 : decode (byt 139) 152 = .ok (.aload_n 0, 1) := by decide +kernel
theorem d139_153 : decode (byt 139) 153 = .ok (.getfield 74, 3) := by decide +kernel
theorem d139_156 : decode (byt 139) 156 = .ok (.iconst 3, 1) := by decide +kernel
theorem d139_157 : decode (byt 139) 157 = .ok (.laload, 1) := by decide +kernel
theorem d139_158 : decode (byt 139) 158 = .ok (.aload_n 0, 1) := by decide +kernel
theorem d139_159 : decode (byt 139) 159 = .ok (.getfield 74, 3) := by decide +kernel
theorem d139_162 : decode (byt 139) 162 = .ok (.bipush 8, 2) := by decide +kernel
theorem d139_164 : decode (byt 139) 164 = .ok (.laload, 1) := by decide +kernel
theorem d139_165 : decode (byt 139) 165 = .ok (.lmul, 1) := by decide +kernel
theorem d139_166 : decode (byt 139) 166 = .ok (.aload_n 0, 1) := by decide +kernel
theorem d139_167 : decode (byt 139) 167 = .ok (.getfield 74, 3) := by decide +kernel
theorem d139_170 : decode (byt 139) 170 = .ok (.iconst 5, 1) := by decide +kernel
theorem d139_171 : decode (byt 139) 171 = .ok (.laload, 1) := by decide +kernel
theorem d139_172 : decode (byt 139) 172 = .ok (.aload_n 0, 1) := by decide +kernel
theorem d139_173 : decode (byt 139) 173 = .ok (.getfield 74, 3) := by decide +kernel
theorem d139_176 : decode (byt 139) 176 = .ok (.bipush 6, 2) := by decide +kernel
theorem d139_178 : decode (byt 139) 178 = .ok (.laload, 1) := by decide +kernel
theorem d139_179 : decode (byt 139) 179 = .ok (.lmul, 1) := by decide +kernel
theorem d139_180 : decode (byt 139) 180 = .ok (.lsub, 1) := by decide +kernel
theorem d139_181 : decode (byt 139) 181 = .ok (.lmul, 1) := by decide +kernel
theorem d139_182 : decode (byt 139) 182 = .ok (.lsub, 1) := by decide +kernel
theorem d139_183 : decode (byt 139) 183 = .ok (.aload_n 0, 1) := by decide +kernel
theorem d139_184 : decode (byt 139) 184 = .ok (.getfield 74, 3) := by decide +kernel
theorem d139_187 : decode (byt 139) 187 = .ok (.iconst 2, 1) := by decide +kernel
theorem d139_188 : decode (byt 139) 188 = .ok (.laload, 1) := by decide +kernel
theorem d139_189 : decode (byt 139) 189 = .ok (.aload_n 0, 1) := by decide +kernel
theorem d139_190 : decode (byt 139) 190 = .ok (.getfield 74, 3) := by decide +kernel
theorem d139_193 : decode (byt 139) 193 = .ok (.iconst 3, 1) := by decide +kernel
theorem d139_194 : decode (byt 139) 194 = .ok (.laload, 1) := by decide +kernel
theorem d139_195 : decode (byt 139) 195 = .ok (.aload_n 0, 1) := by decide +kernel
theorem d139_196 : decode (byt 139) 196 = .ok (.getfield 74, 3) := by decide +kernel
theorem d139_199 : decode (byt 139) 199 = .ok (.bipush 7, 2) := by decide +kernel
theorem d139_201 : decode (byt 139) 201 = .ok (.laload, 1) := by decide +kernel
theorem d139_202 : decode (byt 139) 202 = .ok (.lmul, 1) := by decide +kernel
theorem d139_203 : decode (byt 139) 203 = .ok (.aload_n 0, 1) := by decide +kernel
theorem d139_204 : decode (byt 139) 204 = .ok (.getfield 74, 3) := by decide +kernel
theorem d139_207 : decode (byt 139) 207 = .ok (.iconst 4, 1) := by decide +kernel
theorem d139_208 : decode (byt 139) 208 = .ok (.laload, 1) := by decide +kernel
theorem d139_209 : decode (byt 139) 209 = .ok (.aload_n 0, 1) := by decide +kernel
theorem d139_210 : decode (byt 139) 210 = .ok (.getfield 74, 3) := by decide +kernel
theorem d139_213 : decode (byt 139) 213 = .ok (.bipush 6, 2) := by decide +kernel
theorem d139_215 : decode (byt 139) 215 = .ok (.laload, 1) := by decide +kernel
theorem d139_216 : decode (byt 139) 216 = .ok (.lmul, 1) := by decide +kernel
theorem d139_217 : decode (byt 139) 217 = .ok (.lsub, 1) := by decide +kernel
theorem d139_218 : decode (byt 139) 218 = .ok (.lmul, 1) := by decide +kernel
theorem d139_219 : decode (byt 139) 219 = .ok (.ladd, 1) := by decide +kernel
theorem d139_220 : decode (byt 139) 220 = .ok (.lreturn, 1) := by decide +kernel
set_option maxRecDepth 20000 in
theorem S139_0 : (∀ (ls : Lo) (st : List Value) (h : Hp) (Q : Option Value → Hp → Prop), Wp 139 0 (ls) (st) h Q ↔ Wp 139 1 (ls) (.int (0) :: st) h Q) ∧
  (∀ (ls : Lo) (st : List Value) (h : Hp) (Q : Option Value → Hp → Prop) (l0 l1 l2 l3 : Option Value) (x : Int32), Wp 139 1 (l0 :: l1 :: l2 :: l3 :: ls) (.int x :: st) h Q ↔ Wp 139 2 (l0 :: l1 :: clr l2 :: some (.int x) :: ls) (st) h Q) ∧
  (∀ (ls : Lo) (st : List Value) (h : Hp) (Q : Option Value → Hp → Prop) (l0 l1 l2 : Option Value) (x : Int32), Wp 139 2 (l0 :: l1 :: l2 :: some (.int x) :: ls) (st) h Q ↔ Wp 139 3 (l0 :: l1 :: l2 :: some (.int x) :: ls) (.int x :: st) h Q) ∧
  (∀ (ls : Lo) (st : List Value) (h : Hp) (Q : Option Value → Hp → Prop) (l0 : Option Value) (x : Int32), Wp 139 3 (l0 :: some (.int x) :: ls) (st) h Q ↔ Wp 139 4 (l0 :: some (.int x) :: ls) (.int x :: st) h Q) ∧
  (∀ (ls : Lo) (st : List Value) (h : Hp) (Q : Option Value → Hp → Prop) (x y : Int32), Wp 139 4 (ls) (.int y :: .int x :: st) h Q ↔ Br 139 65 7 ls st h Q (y ≤ x)) ∧
  (∀ (ls : Lo) (st : List Value) (h : Hp) (Q : Option Value → Hp → Prop), Wp 139 7 (ls) (st) h Q ↔ Wp 139 8 (ls) (.int (0) :: st) h Q) ∧
  (∀ (ls : Lo) (st : List Value) (h : Hp) (Q : Option Value → Hp → Prop) (l0 l1 l2 l3 l4 : Option Value) (x : Int32), Wp 139 8 (l0 :: l1 :: l2 :: l3 :: l4 :: ls) (.int x :: st) h Q ↔ Wp 139 10 (l0 :: l1 :: l2 :: clr l3 :: some (.int x) :: ls) (st) h Q) ∧
  (∀ (ls : Lo) (st : List Value) (h : Hp) (Q : Option Value → Hp → Prop) (l0 l1 l2 l3 : Option Value) (x : Int32), Wp 139 10 (l0 :: l1 :: l2 :: l3 :: some (.int x) :: ls) (st) h Q ↔ Wp 139 12 (l0 :: l1 :: l2 :: l3 :: some (.int x) :: ls) (.int x :: st) h Q) ∧
  (∀ (ls : Lo) (st : List Value) (h : Hp) (Q : Option Value → Hp → Prop) (l0 : Option Value) (x : Int32), Wp 139 12 (l0 :: some (.int x) :: ls) (st) h Q ↔ Wp 139 13 (l0 :: some (.int x) :: ls) (.int x :: st) h Q) ∧
  (∀ (ls : Lo) (st : List Value) (h : Hp) (Q : Option Value → Hp → Prop) (x y : Int32), Wp 139 13 (ls) (.int y :: .int x :: st) h Q ↔ Br 139 59 16 ls st h Q (y ≤ x)) ∧
  (∀ (ls : Lo) (st : List Value) (h : Hp) (Q : Option Value → Hp → Prop)  (i : Nat), Wp 139 16 (some (.ref i) :: ls) (st) h Q ↔ Wp 139 17 (some (.ref i) :: ls) (.ref i :: st) h Q) ∧
  (∀ (ls : Lo) (st : List Value) (n sl : Nat) (C Z : Nat → Nat) (I : Nat → Nat → Int32) (L : Nat → Nat → Int64) (R : Nat → Nat → Nat) (Q : Option Value → Hp → Prop) (i : Nat), Wp 139 17 (ls) (.ref i :: st) (n, sl, C, Z, I, L, R) Q ↔ (C i = 11 ∧ Wp 139 20 (ls) (.ref (R i 25) :: st) (n, sl, C, Z, I, L, R) Q)) ∧
  (∀ (ls : Lo) (st : List Value) (h : Hp) (Q : Option Value → Hp → Prop), Wp 139 20 (ls) (st) h Q ↔ Wp 139 21 (ls) (.int (3) :: st) h Q) ∧
  (∀ (ls : Lo) (st : List Value) (h : Hp) (Q : Option Value → Hp → Prop) (l0 l1 l2 : Option Value) (x : Int32), Wp 139 21 (l0 :: l1 :: l2 :: some (.int x) :: ls) (st) h Q ↔ Wp 139 22 (l0 :: l1 :: l2 :: some (.int x) :: ls) (.int x :: st) h Q) ∧
  (∀ (ls : Lo) (st : List Value) (h : Hp) (Q : Option Value → Hp → Prop) (x y : Int32), Wp 139 22 (ls) (.int y :: .int x :: st) h Q ↔ Wp 139 23 (ls) (.int (x * y) :: st) h Q) ∧
  (∀ (ls : Lo) (st : List Value) (h : Hp) (Q : Option Value → Hp → Prop) (l0 l1 l2 l3 : Option Value) (x : Int32), Wp 139 23 (l0 :: l1 :: l2 :: l3 :: some (.int x) :: ls) (st) h Q ↔ Wp 139 25 (l0 :: l1 :: l2 :: l3 :: some (.int x) :: ls) (.int x :: st) h Q) ∧
  (∀ (ls : Lo) (st : List Value) (h : Hp) (Q : Option Value → Hp → Prop) (x y : Int32), Wp 139 25 (ls) (.int y :: .int x :: st) h Q ↔ Wp 139 26 (ls) (.int (x + y) :: st) h Q) ∧
  (∀ (ls : Lo) (st : List Value) (h : Hp) (Q : Option Value → Hp → Prop) (l0 l1 l2 l3 : Option Value) (x : Int32), Wp 139 26 (l0 :: l1 :: l2 :: l3 :: some (.int x) :: ls) (st) h Q ↔ Wp 139 28 (l0 :: l1 :: l2 :: l3 :: some (.int x) :: ls) (.int x :: st) h Q) ∧
  (∀ (ls : Lo) (st : List Value) (h : Hp) (Q : Option Value → Hp → Prop) (l0 l1 : Option Value) (x : Int32), Wp 139 28 (l0 :: l1 :: some (.int x) :: ls) (st) h Q ↔ Wp 139 29 (l0 :: l1 :: some (.int x) :: ls) (.int x :: st) h Q) ∧
  (∀ (ls : Lo) (st : List Value) (h : Hp) (Q : Option Value → Hp → Prop) (x y : Int32), Wp 139 29 (ls) (.int y :: .int x :: st) h Q ↔ Br 139 41 32 ls st h Q (¬ x = y)) ∧
  (∀ (ls : Lo) (st : List Value) (h : Hp) (Q : Option Value → Hp → Prop)  (i : Nat), Wp 139 32 (some (.ref i) :: ls) (st) h Q ↔ Wp 139 33 (some (.ref i) :: ls) (.ref i :: st) h Q) ∧
  (∀ (ls : Lo) (st : List Value) (n sl : Nat) (C Z : Nat → Nat) (I : Nat → Nat → Int32) (L : Nat → Nat → Int64) (R : Nat → Nat → Nat) (Q : Option Value → Hp → Prop) (i : Nat), Wp 139 33 (ls) (.ref i :: st) (n, sl, C, Z, I, L, R) Q ↔ (C i = 11 ∧ Wp 139 36 (ls) (.ref (R i 26) :: st) (n, sl, C, Z, I, L, R) Q)) ∧
  (∀ (ls : Lo) (st : List Value) (h : Hp) (Q : Option Value → Hp → Prop) (l0 l1 l2 : Option Value) (x : Int32), Wp 139 36 (l0 :: l1 :: l2 :: some (.int x) :: ls) (st) h Q ↔ Wp 139 37 (l0 :: l1 :: l2 :: some (.int x) :: ls) (.int x :: st) h Q) ∧
  (∀ (ls : Lo) (st : List Value) (n sl : Nat) (C Z : Nat → Nat) (I : Nat → Nat → Int32) (L : Nat → Nat → Int64) (R : Nat → Nat → Nat) (Q : Option Value → Hp → Prop) (i : Nat) (y : Int32), Wp 139 37 (ls) (.int y :: .ref i :: st) (n, sl, C, Z, I, L, R) Q ↔ ((inb y (Z i) = true ∧ C i = 22) ∧ Wp 139 38 (ls) (.long (L i (ix y)) :: st) (n, sl, C, Z, I, L, R) Q)) ∧
  (∀ (ls : Lo) (st : List Value) (h : Hp) (Q : Option Value → Hp → Prop), Wp 139 38 (ls) (st) h Q ↔ Wp 139 52 (ls) (st) h Q) := ⟨by intro ls st h Q; exact e_iconst d139_0 rfl,
  by intro ls st h Q l0 l1 l2 l3 x; exact e_istore_n d139_1 rfl,
  by intro ls st h Q l0 l1 l2 x; exact e_iload_n d139_2 rfl,
  by intro ls st h Q l0 x; exact e_iload_n d139_3 rfl,
  by intro ls st h Q x y; exact e_ic d139_4 (by decide) c_ge,
  by intro ls st h Q; exact e_iconst d139_7 rfl,
  by intro ls st h Q l0 l1 l2 l3 l4 x; exact e_istore d139_8 rfl,
  by intro ls st h Q l0 l1 l2 l3 x; exact e_iload d139_10 rfl,
  by intro ls st h Q l0 x; exact e_iload_n d139_12 rfl,
  by intro ls st h Q x y; exact e_ic d139_13 (by decide) c_ge,
  by intro ls st h Q i; exact e_aload_n d139_16 rfl,
  by intro ls st n sl C Z I L R Q i; exact e_get (g := 10) (s := 25) (ty := 2) d139_17 rfl rfl (inG_ne (by decide)),
  by intro ls st h Q; exact e_iconst d139_20 rfl,
  by intro ls st h Q l0 l1 l2 x; exact e_iload_n d139_21 rfl,
  by intro ls st h Q x y; exact e_imul d139_22,
  by intro ls st h Q l0 l1 l2 l3 x; exact e_iload d139_23 rfl,
  by intro ls st h Q x y; exact e_iadd d139_25,
  by intro ls st h Q l0 l1 l2 l3 x; exact e_iload d139_26 rfl,
  by intro ls st h Q l0 l1 x; exact e_iload_n d139_28 rfl,
  by intro ls st h Q x y; exact e_ic d139_29 (by decide) c_ne,
  by intro ls st h Q i; exact e_aload_n d139_32 rfl,
  by intro ls st n sl C Z I L R Q i; exact e_get (g := 10) (s := 26) (ty := 2) d139_33 rfl rfl (inG_ne (by decide)),
  by intro ls st h Q l0 l1 l2 x; exact e_iload_n d139_36 rfl,
  by intro ls st n sl C Z I L R Q i y; exact e_lald d139_37,
  by intro ls st h Q; exact e_goto d139_38 (by decide)⟩
set_option maxRecDepth 20000 in
theorem S139_1 : (∀ (ls : Lo) (st : List Value) (h : Hp) (Q : Option Value → Hp → Prop)  (i : Nat), Wp 139 41 (some (.ref i) :: ls) (st) h Q ↔ Wp 139 42 (some (.ref i) :: ls) (.ref i :: st) h Q) ∧
  (∀ (ls : Lo) (st : List Value) (n sl : Nat) (C Z : Nat → Nat) (I : Nat → Nat → Int32) (L : Nat → Nat → Int64) (R : Nat → Nat → Nat) (Q : Option Value → Hp → Prop) (i : Nat), Wp 139 42 (ls) (.ref i :: st) (n, sl, C, Z, I, L, R) Q ↔ (C i = 11 ∧ Wp 139 45 (ls) (.ref (R i 24) :: st) (n, sl, C, Z, I, L, R) Q)) ∧
  (∀ (ls : Lo) (st : List Value) (h : Hp) (Q : Option Value → Hp → Prop), Wp 139 45 (ls) (st) h Q ↔ Wp 139 46 (ls) (.int (3) :: st) h Q) ∧
  (∀ (ls : Lo) (st : List Value) (h : Hp) (Q : Option Value → Hp → Prop) (l0 l1 l2 : Option Value) (x : Int32), Wp 139 46 (l0 :: l1 :: l2 :: some (.int x) :: ls) (st) h Q ↔ Wp 139 47 (l0 :: l1 :: l2 :: some (.int x) :: ls) (.int x :: st) h Q) ∧
  (∀ (ls : Lo) (st : List Value) (h : Hp) (Q : Option Value → Hp → Prop) (x y : Int32), Wp 139 47 (ls) (.int y :: .int x :: st) h Q ↔ Wp 139 48 (ls) (.int (x * y) :: st) h Q) ∧
  (∀ (ls : Lo) (st : List Value) (h : Hp) (Q : Option Value → Hp → Prop) (l0 l1 l2 l3 : Option Value) (x : Int32), Wp 139 48 (l0 :: l1 :: l2 :: l3 :: some (.int x) :: ls) (st) h Q ↔ Wp 139 50 (l0 :: l1 :: l2 :: l3 :: some (.int x) :: ls) (.int x :: st) h Q) ∧
  (∀ (ls : Lo) (st : List Value) (h : Hp) (Q : Option Value → Hp → Prop) (x y : Int32), Wp 139 50 (ls) (.int y :: .int x :: st) h Q ↔ Wp 139 51 (ls) (.int (x + y) :: st) h Q) ∧
  (∀ (ls : Lo) (st : List Value) (n sl : Nat) (C Z : Nat → Nat) (I : Nat → Nat → Int32) (L : Nat → Nat → Int64) (R : Nat → Nat → Nat) (Q : Option Value → Hp → Prop) (i : Nat) (y : Int32), Wp 139 51 (ls) (.int y :: .ref i :: st) (n, sl, C, Z, I, L, R) Q ↔ ((inb y (Z i) = true ∧ C i = 22) ∧ Wp 139 52 (ls) (.long (L i (ix y)) :: st) (n, sl, C, Z, I, L, R) Q)) ∧
  (∀ (ls : Lo) (st : List Value) (n sl : Nat) (C Z : Nat → Nat) (I : Nat → Nat → Int32) (L : Nat → Nat → Int64) (R : Nat → Nat → Nat) (Q : Option Value → Hp → Prop) (i : Nat) (y : Int32) (a : Int64), Wp 139 52 (ls) (.long a :: .int y :: .ref i :: st) (n, sl, C, Z, I, L, R) Q ↔ ((inb y (Z i) = true ∧ C i = 22) ∧ Wp 139 53 (ls) (st) (n, sl, C, Z, I, u2 L i (ix y) a, R) Q)) ∧
  (∀ (ls : Lo) (st : List Value) (h : Hp) (Q : Option Value → Hp → Prop) (l0 l1 l2 l3 : Option Value) (x : Int32), Wp 139 53 (l0 :: l1 :: l2 :: l3 :: some (.int x) :: ls) (st) h Q ↔ Wp 139 56 (l0 :: l1 :: l2 :: clr l3 :: some (.int (x + (1))) :: ls) (st) h Q) ∧
  (∀ (ls : Lo) (st : List Value) (h : Hp) (Q : Option Value → Hp → Prop), Wp 139 56 (ls) (st) h Q ↔ Wp 139 10 (ls) (st) h Q) ∧
  (∀ (ls : Lo) (st : List Value) (h : Hp) (Q : Option Value → Hp → Prop) (l0 l1 l2 : Option Value) (x : Int32), Wp 139 59 (l0 :: l1 :: l2 :: some (.int x) :: ls) (st) h Q ↔ Wp 139 62 (l0 :: l1 :: clr l2 :: some (.int (x + (1))) :: ls) (st) h Q) ∧
  (∀ (ls : Lo) (st : List Value) (h : Hp) (Q : Option Value → Hp → Prop), Wp 139 62 (ls) (st) h Q ↔ Wp 139 2 (ls) (st) h Q) ∧
  (∀ (ls : Lo) (st : List Value) (h : Hp) (Q : Option Value → Hp → Prop) (l0 : Option Value) (x : Int32), Wp 139 65 (l0 :: some (.int x) :: ls) (st) h Q ↔ Wp 139 66 (l0 :: some (.int x) :: ls) (.int x :: st) h Q) ∧
  (∀ (ls : Lo) (st : List Value) (h : Hp) (Q : Option Value → Hp → Prop), Wp 139 66 (ls) (st) h Q ↔ Wp 139 67 (ls) (.int (1) :: st) h Q) ∧
  (∀ (ls : Lo) (st : List Value) (h : Hp) (Q : Option Value → Hp → Prop) (x y : Int32), Wp 139 67 (ls) (.int y :: .int x :: st) h Q ↔ Br 139 77 70 ls st h Q (¬ x = y)) ∧
  (∀ (ls : Lo) (st : List Value) (h : Hp) (Q : Option Value → Hp → Prop)  (i : Nat), Wp 139 70 (some (.ref i) :: ls) (st) h Q ↔ Wp 139 71 (some (.ref i) :: ls) (.ref i :: st) h Q) ∧
  (∀ (ls : Lo) (st : List Value) (n sl : Nat) (C Z : Nat → Nat) (I : Nat → Nat → Int32) (L : Nat → Nat → Int64) (R : Nat → Nat → Nat) (Q : Option Value → Hp → Prop) (i : Nat), Wp 139 71 (ls) (.ref i :: st) (n, sl, C, Z, I, L, R) Q ↔ (C i = 11 ∧ Wp 139 74 (ls) (.ref (R i 25) :: st) (n, sl, C, Z, I, L, R) Q)) ∧
  (∀ (ls : Lo) (st : List Value) (h : Hp) (Q : Option Value → Hp → Prop), Wp 139 74 (ls) (st) h Q ↔ Wp 139 75 (ls) (.int (0) :: st) h Q) ∧
  (∀ (ls : Lo) (st : List Value) (n sl : Nat) (C Z : Nat → Nat) (I : Nat → Nat → Int32) (L : Nat → Nat → Int64) (R : Nat → Nat → Nat) (Q : Option Value → Hp → Prop) (i : Nat) (y : Int32), Wp 139 75 (ls) (.int y :: .ref i :: st) (n, sl, C, Z, I, L, R) Q ↔ ((inb y (Z i) = true ∧ C i = 22) ∧ Wp 139 76 (ls) (.long (L i (ix y)) :: st) (n, sl, C, Z, I, L, R) Q)) ∧
  (∀ (ls : Lo) (h : Hp) (Q : Option Value → Hp → Prop) (a : Int64), Wp 139 76 (ls) ([.long a]) h Q ↔ Q (some (.long a)) h) ∧
  (∀ (ls : Lo) (st : List Value) (h : Hp) (Q : Option Value → Hp → Prop) (l0 : Option Value) (x : Int32), Wp 139 77 (l0 :: some (.int x) :: ls) (st) h Q ↔ Wp 139 78 (l0 :: some (.int x) :: ls) (.int x :: st) h Q) ∧
  (∀ (ls : Lo) (st : List Value) (h : Hp) (Q : Option Value → Hp → Prop), Wp 139 78 (ls) (st) h Q ↔ Wp 139 79 (ls) (.int (2) :: st) h Q) ∧
  (∀ (ls : Lo) (st : List Value) (h : Hp) (Q : Option Value → Hp → Prop) (x y : Int32), Wp 139 79 (ls) (.int y :: .int x :: st) h Q ↔ Br 139 110 82 ls st h Q (¬ x = y)) ∧
  (∀ (ls : Lo) (st : List Value) (h : Hp) (Q : Option Value → Hp → Prop)  (i : Nat), Wp 139 82 (some (.ref i) :: ls) (st) h Q ↔ Wp 139 83 (some (.ref i) :: ls) (.ref i :: st) h Q) := ⟨by intro ls st h Q i; exact e_aload_n d139_41 rfl,
  by intro ls st n sl C Z I L R Q i; exact e_get (g := 10) (s := 24) (ty := 2) d139_42 rfl rfl (inG_ne (by decide)),
  by intro ls st h Q; exact e_iconst d139_45 rfl,
  by intro ls st h Q l0 l1 l2 x; exact e_iload_n d139_46 rfl,
  by intro ls st h Q x y; exact e_imul d139_47,
  by intro ls st h Q l0 l1 l2 l3 x; exact e_iload d139_48 rfl,
  by intro ls st h Q x y; exact e_iadd d139_50,
  by intro ls st n sl C Z I L R Q i y; exact e_lald d139_51,
  by intro ls st n sl C Z I L R Q i y a; exact e_last d139_52,
  by intro ls st h Q l0 l1 l2 l3 x; exact e_iinc d139_53 rfl rfl rfl,
  by intro ls st h Q; exact e_goto d139_56 (by decide),
  by intro ls st h Q l0 l1 l2 x; exact e_iinc d139_59 rfl rfl rfl,
  by intro ls st h Q; exact e_goto d139_62 (by decide),
  by intro ls st h Q l0 x; exact e_iload_n d139_65 rfl,
  by intro ls st h Q; exact e_iconst d139_66 rfl,
  by intro ls st h Q x y; exact e_ic d139_67 (by decide) c_ne,
  by intro ls st h Q i; exact e_aload_n d139_70 rfl,
  by intro ls st n sl C Z I L R Q i; exact e_get (g := 10) (s := 25) (ty := 2) d139_71 rfl rfl (inG_ne (by decide)),
  by intro ls st h Q; exact e_iconst d139_74 rfl,
  by intro ls st n sl C Z I L R Q i y; exact e_lald d139_75,
  by intros; exact e_rL d139_76 rfl,
  by intro ls st h Q l0 x; exact e_iload_n d139_77 rfl,
  by intro ls st h Q; exact e_iconst d139_78 rfl,
  by intro ls st h Q x y; exact e_ic d139_79 (by decide) c_ne,
  by intro ls st h Q i; exact e_aload_n d139_82 rfl⟩
set_option maxRecDepth 20000 in
theorem S139_2 : (∀ (ls : Lo) (st : List Value) (n sl : Nat) (C Z : Nat → Nat) (I : Nat → Nat → Int32) (L : Nat → Nat → Int64) (R : Nat → Nat → Nat) (Q : Option Value → Hp → Prop) (i : Nat), Wp 139 83 (ls) (.ref i :: st) (n, sl, C, Z, I, L, R) Q ↔ (C i = 11 ∧ Wp 139 86 (ls) (.ref (R i 25) :: st) (n, sl, C, Z, I, L, R) Q)) ∧
  (∀ (ls : Lo) (st : List Value) (h : Hp) (Q : Option Value → Hp → Prop), Wp 139 86 (ls) (st) h Q ↔ Wp 139 87 (ls) (.int (0) :: st) h Q) ∧
  (∀ (ls : Lo) (st : List Value) (n sl : Nat) (C Z : Nat → Nat) (I : Nat → Nat → Int32) (L : Nat → Nat → Int64) (R : Nat → Nat → Nat) (Q : Option Value → Hp → Prop) (i : Nat) (y : Int32), Wp 139 87 (ls) (.int y :: .ref i :: st) (n, sl, C, Z, I, L, R) Q ↔ ((inb y (Z i) = true ∧ C i = 22) ∧ Wp 139 88 (ls) (.long (L i (ix y)) :: st) (n, sl, C, Z, I, L, R) Q)) ∧
  (∀ (ls : Lo) (st : List Value) (h : Hp) (Q : Option Value → Hp → Prop)  (i : Nat), Wp 139 88 (some (.ref i) :: ls) (st) h Q ↔ Wp 139 89 (some (.ref i) :: ls) (.ref i :: st) h Q) ∧
  (∀ (ls : Lo) (st : List Value) (n sl : Nat) (C Z : Nat → Nat) (I : Nat → Nat → Int32) (L : Nat → Nat → Int64) (R : Nat → Nat → Nat) (Q : Option Value → Hp → Prop) (i : Nat), Wp 139 89 (ls) (.ref i :: st) (n, sl, C, Z, I, L, R) Q ↔ (C i = 11 ∧ Wp 139 92 (ls) (.ref (R i 25) :: st) (n, sl, C, Z, I, L, R) Q)) ∧
  (∀ (ls : Lo) (st : List Value) (h : Hp) (Q : Option Value → Hp → Prop), Wp 139 92 (ls) (st) h Q ↔ Wp 139 93 (ls) (.int (4) :: st) h Q) ∧
  (∀ (ls : Lo) (st : List Value) (n sl : Nat) (C Z : Nat → Nat) (I : Nat → Nat → Int32) (L : Nat → Nat → Int64) (R : Nat → Nat → Nat) (Q : Option Value → Hp → Prop) (i : Nat) (y : Int32), Wp 139 93 (ls) (.int y :: .ref i :: st) (n, sl, C, Z, I, L, R) Q ↔ ((inb y (Z i) = true ∧ C i = 22) ∧ Wp 139 94 (ls) (.long (L i (ix y)) :: st) (n, sl, C, Z, I, L, R) Q)) ∧
  (∀ (ls : Lo) (st : List Value) (h : Hp) (Q : Option Value → Hp → Prop) (a b : Int64), Wp 139 94 (ls) (.long b :: .long a :: st) h Q ↔ Wp 139 95 (ls) (.long (a * b) :: st) h Q) ∧
  (∀ (ls : Lo) (st : List Value) (h : Hp) (Q : Option Value → Hp → Prop)  (i : Nat), Wp 139 95 (some (.ref i) :: ls) (st) h Q ↔ Wp 139 96 (some (.ref i) :: ls) (.ref i :: st) h Q) ∧
  (∀ (ls : Lo) (st : List Value) (n sl : Nat) (C Z : Nat → Nat) (I : Nat → Nat → Int32) (L : Nat → Nat → Int64) (R : Nat → Nat → Nat) (Q : Option Value → Hp → Prop) (i : Nat), Wp 139 96 (ls) (.ref i :: st) (n, sl, C, Z, I, L, R) Q ↔ (C i = 11 ∧ Wp 139 99 (ls) (.ref (R i 25) :: st) (n, sl, C, Z, I, L, R) Q)) ∧
  (∀ (ls : Lo) (st : List Value) (h : Hp) (Q : Option Value → Hp → Prop), Wp 139 99 (ls) (st) h Q ↔ Wp 139 100 (ls) (.int (1) :: st) h Q) ∧
  (∀ (ls : Lo) (st : List Value) (n sl : Nat) (C Z : Nat → Nat) (I : Nat → Nat → Int32) (L : Nat → Nat → Int64) (R : Nat → Nat → Nat) (Q : Option Value → Hp → Prop) (i : Nat) (y : Int32), Wp 139 100 (ls) (.int y :: .ref i :: st) (n, sl, C, Z, I, L, R) Q ↔ ((inb y (Z i) = true ∧ C i = 22) ∧ Wp 139 101 (ls) (.long (L i (ix y)) :: st) (n, sl, C, Z, I, L, R) Q)) ∧
  (∀ (ls : Lo) (st : List Value) (h : Hp) (Q : Option Value → Hp → Prop)  (i : Nat), Wp 139 101 (some (.ref i) :: ls) (st) h Q ↔ Wp 139 102 (some (.ref i) :: ls) (.ref i :: st) h Q) ∧
  (∀ (ls : Lo) (st : List Value) (n sl : Nat) (C Z : Nat → Nat) (I : Nat → Nat → Int32) (L : Nat → Nat → Int64) (R : Nat → Nat → Nat) (Q : Option Value → Hp → Prop) (i : Nat), Wp 139 102 (ls) (.ref i :: st) (n, sl, C, Z, I, L, R) Q ↔ (C i = 11 ∧ Wp 139 105 (ls) (.ref (R i 25) :: st) (n, sl, C, Z, I, L, R) Q)) ∧
  (∀ (ls : Lo) (st : List Value) (h : Hp) (Q : Option Value → Hp → Prop), Wp 139 105 (ls) (st) h Q ↔ Wp 139 106 (ls) (.int (3) :: st) h Q) ∧
  (∀ (ls : Lo) (st : List Value) (n sl : Nat) (C Z : Nat → Nat) (I : Nat → Nat → Int32) (L : Nat → Nat → Int64) (R : Nat → Nat → Nat) (Q : Option Value → Hp → Prop) (i : Nat) (y : Int32), Wp 139 106 (ls) (.int y :: .ref i :: st) (n, sl, C, Z, I, L, R) Q ↔ ((inb y (Z i) = true ∧ C i = 22) ∧ Wp 139 107 (ls) (.long (L i (ix y)) :: st) (n, sl, C, Z, I, L, R) Q)) ∧
  (∀ (ls : Lo) (st : List Value) (h : Hp) (Q : Option Value → Hp → Prop) (a b : Int64), Wp 139 107 (ls) (.long b :: .long a :: st) h Q ↔ Wp 139 108 (ls) (.long (a * b) :: st) h Q) ∧
  (∀ (ls : Lo) (st : List Value) (h : Hp) (Q : Option Value → Hp → Prop) (a b : Int64), Wp 139 108 (ls) (.long b :: .long a :: st) h Q ↔ Wp 139 109 (ls) (.long (a - b) :: st) h Q) ∧
  (∀ (ls : Lo) (h : Hp) (Q : Option Value → Hp → Prop) (a : Int64), Wp 139 109 (ls) ([.long a]) h Q ↔ Q (some (.long a)) h) ∧
  (∀ (ls : Lo) (st : List Value) (h : Hp) (Q : Option Value → Hp → Prop)  (i : Nat), Wp 139 110 (some (.ref i) :: ls) (st) h Q ↔ Wp 139 111 (some (.ref i) :: ls) (.ref i :: st) h Q) ∧
  (∀ (ls : Lo) (st : List Value) (n sl : Nat) (C Z : Nat → Nat) (I : Nat → Nat → Int32) (L : Nat → Nat → Int64) (R : Nat → Nat → Nat) (Q : Option Value → Hp → Prop) (i : Nat), Wp 139 111 (ls) (.ref i :: st) (n, sl, C, Z, I, L, R) Q ↔ (C i = 11 ∧ Wp 139 114 (ls) (.ref (R i 25) :: st) (n, sl, C, Z, I, L, R) Q)) ∧
  (∀ (ls : Lo) (st : List Value) (h : Hp) (Q : Option Value → Hp → Prop), Wp 139 114 (ls) (st) h Q ↔ Wp 139 115 (ls) (.int (0) :: st) h Q) ∧
  (∀ (ls : Lo) (st : List Value) (n sl : Nat) (C Z : Nat → Nat) (I : Nat → Nat → Int32) (L : Nat → Nat → Int64) (R : Nat → Nat → Nat) (Q : Option Value → Hp → Prop) (i : Nat) (y : Int32), Wp 139 115 (ls) (.int y :: .ref i :: st) (n, sl, C, Z, I, L, R) Q ↔ ((inb y (Z i) = true ∧ C i = 22) ∧ Wp 139 116 (ls) (.long (L i (ix y)) :: st) (n, sl, C, Z, I, L, R) Q)) ∧
  (∀ (ls : Lo) (st : List Value) (h : Hp) (Q : Option Value → Hp → Prop)  (i : Nat), Wp 139 116 (some (.ref i) :: ls) (st) h Q ↔ Wp 139 117 (some (.ref i) :: ls) (.ref i :: st) h Q) ∧
  (∀ (ls : Lo) (st : List Value) (n sl : Nat) (C Z : Nat → Nat) (I : Nat → Nat → Int32) (L : Nat → Nat → Int64) (R : Nat → Nat → Nat) (Q : Option Value → Hp → Prop) (i : Nat), Wp 139 117 (ls) (.ref i :: st) (n, sl, C, Z, I, L, R) Q ↔ (C i = 11 ∧ Wp 139 120 (ls) (.ref (R i 25) :: st) (n, sl, C, Z, I, L, R) Q)) := ⟨by intro ls st n sl C Z I L R Q i; exact e_get (g := 10) (s := 25) (ty := 2) d139_83 rfl rfl (inG_ne (by decide)),
  by intro ls st h Q; exact e_iconst d139_86 rfl,
  by intro ls st n sl C Z I L R Q i y; exact e_lald d139_87,
  by intro ls st h Q i; exact e_aload_n d139_88 rfl,
  by intro ls st n sl C Z I L R Q i; exact e_get (g := 10) (s := 25) (ty := 2) d139_89 rfl rfl (inG_ne (by decide)),
  by intro ls st h Q; exact e_iconst d139_92 rfl,
  by intro ls st n sl C Z I L R Q i y; exact e_lald d139_93,
  by intro ls st h Q a b; exact e_lmul d139_94,
  by intro ls st h Q i; exact e_aload_n d139_95 rfl,
  by intro ls st n sl C Z I L R Q i; exact e_get (g := 10) (s := 25) (ty := 2) d139_96 rfl rfl (inG_ne (by decide)),
  by intro ls st h Q; exact e_iconst d139_99 rfl,
  by intro ls st n sl C Z I L R Q i y; exact e_lald d139_100,
  by intro ls st h Q i; exact e_aload_n d139_101 rfl,
  by intro ls st n sl C Z I L R Q i; exact e_get (g := 10) (s := 25) (ty := 2) d139_102 rfl rfl (inG_ne (by decide)),
  by intro ls st h Q; exact e_iconst d139_105 rfl,
  by intro ls st n sl C Z I L R Q i y; exact e_lald d139_106,
  by intro ls st h Q a b; exact e_lmul d139_107,
  by intro ls st h Q a b; exact e_lsub d139_108,
  by intros; exact e_rL d139_109 rfl,
  by intro ls st h Q i; exact e_aload_n d139_110 rfl,
  by intro ls st n sl C Z I L R Q i; exact e_get (g := 10) (s := 25) (ty := 2) d139_111 rfl rfl (inG_ne (by decide)),
  by intro ls st h Q; exact e_iconst d139_114 rfl,
  by intro ls st n sl C Z I L R Q i y; exact e_lald d139_115,
  by intro ls st h Q i; exact e_aload_n d139_116 rfl,
  by intro ls st n sl C Z I L R Q i; exact e_get (g := 10) (s := 25) (ty := 2) d139_117 rfl rfl (inG_ne (by decide))⟩
set_option maxRecDepth 20000 in
theorem S139_3 : (∀ (ls : Lo) (st : List Value) (h : Hp) (Q : Option Value → Hp → Prop), Wp 139 120 (ls) (st) h Q ↔ Wp 139 121 (ls) (.int (4) :: st) h Q) ∧
  (∀ (ls : Lo) (st : List Value) (n sl : Nat) (C Z : Nat → Nat) (I : Nat → Nat → Int32) (L : Nat → Nat → Int64) (R : Nat → Nat → Nat) (Q : Option Value → Hp → Prop) (i : Nat) (y : Int32), Wp 139 121 (ls) (.int y :: .ref i :: st) (n, sl, C, Z, I, L, R) Q ↔ ((inb y (Z i) = true ∧ C i = 22) ∧ Wp 139 122 (ls) (.long (L i (ix y)) :: st) (n, sl, C, Z, I, L, R) Q)) ∧
  (∀ (ls : Lo) (st : List Value) (h : Hp) (Q : Option Value → Hp → Prop)  (i : Nat), Wp 139 122 (some (.ref i) :: ls) (st) h Q ↔ Wp 139 123 (some (.ref i) :: ls) (.ref i :: st) h Q) ∧
  (∀ (ls : Lo) (st : List Value) (n sl : Nat) (C Z : Nat → Nat) (I : Nat → Nat → Int32) (L : Nat → Nat → Int64) (R : Nat → Nat → Nat) (Q : Option Value → Hp → Prop) (i : Nat), Wp 139 123 (ls) (.ref i :: st) (n, sl, C, Z, I, L, R) Q ↔ (C i = 11 ∧ Wp 139 126 (ls) (.ref (R i 25) :: st) (n, sl, C, Z, I, L, R) Q)) ∧
  (∀ (ls : Lo) (st : List Value) (h : Hp) (Q : Option Value → Hp → Prop), Wp 139 126 (ls) (st) h Q ↔ Wp 139 128 (ls) (.int (8) :: st) h Q) ∧
  (∀ (ls : Lo) (st : List Value) (n sl : Nat) (C Z : Nat → Nat) (I : Nat → Nat → Int32) (L : Nat → Nat → Int64) (R : Nat → Nat → Nat) (Q : Option Value → Hp → Prop) (i : Nat) (y : Int32), Wp 139 128 (ls) (.int y :: .ref i :: st) (n, sl, C, Z, I, L, R) Q ↔ ((inb y (Z i) = true ∧ C i = 22) ∧ Wp 139 129 (ls) (.long (L i (ix y)) :: st) (n, sl, C, Z, I, L, R) Q)) ∧
  (∀ (ls : Lo) (st : List Value) (h : Hp) (Q : Option Value → Hp → Prop) (a b : Int64), Wp 139 129 (ls) (.long b :: .long a :: st) h Q ↔ Wp 139 130 (ls) (.long (a * b) :: st) h Q) ∧
  (∀ (ls : Lo) (st : List Value) (h : Hp) (Q : Option Value → Hp → Prop)  (i : Nat), Wp 139 130 (some (.ref i) :: ls) (st) h Q ↔ Wp 139 131 (some (.ref i) :: ls) (.ref i :: st) h Q) ∧
  (∀ (ls : Lo) (st : List Value) (n sl : Nat) (C Z : Nat → Nat) (I : Nat → Nat → Int32) (L : Nat → Nat → Int64) (R : Nat → Nat → Nat) (Q : Option Value → Hp → Prop) (i : Nat), Wp 139 131 (ls) (.ref i :: st) (n, sl, C, Z, I, L, R) Q ↔ (C i = 11 ∧ Wp 139 134 (ls) (.ref (R i 25) :: st) (n, sl, C, Z, I, L, R) Q)) ∧
  (∀ (ls : Lo) (st : List Value) (h : Hp) (Q : Option Value → Hp → Prop), Wp 139 134 (ls) (st) h Q ↔ Wp 139 135 (ls) (.int (5) :: st) h Q) ∧
  (∀ (ls : Lo) (st : List Value) (n sl : Nat) (C Z : Nat → Nat) (I : Nat → Nat → Int32) (L : Nat → Nat → Int64) (R : Nat → Nat → Nat) (Q : Option Value → Hp → Prop) (i : Nat) (y : Int32), Wp 139 135 (ls) (.int y :: .ref i :: st) (n, sl, C, Z, I, L, R) Q ↔ ((inb y (Z i) = true ∧ C i = 22) ∧ Wp 139 136 (ls) (.long (L i (ix y)) :: st) (n, sl, C, Z, I, L, R) Q)) ∧
  (∀ (ls : Lo) (st : List Value) (h : Hp) (Q : Option Value → Hp → Prop)  (i : Nat), Wp 139 136 (some (.ref i) :: ls) (st) h Q ↔ Wp 139 137 (some (.ref i) :: ls) (.ref i :: st) h Q) ∧
  (∀ (ls : Lo) (st : List Value) (n sl : Nat) (C Z : Nat → Nat) (I : Nat → Nat → Int32) (L : Nat → Nat → Int64) (R : Nat → Nat → Nat) (Q : Option Value → Hp → Prop) (i : Nat), Wp 139 137 (ls) (.ref i :: st) (n, sl, C, Z, I, L, R) Q ↔ (C i = 11 ∧ Wp 139 140 (ls) (.ref (R i 25) :: st) (n, sl, C, Z, I, L, R) Q)) ∧
  (∀ (ls : Lo) (st : List Value) (h : Hp) (Q : Option Value → Hp → Prop), Wp 139 140 (ls) (st) h Q ↔ Wp 139 142 (ls) (.int (7) :: st) h Q) ∧
  (∀ (ls : Lo) (st : List Value) (n sl : Nat) (C Z : Nat → Nat) (I : Nat → Nat → Int32) (L : Nat → Nat → Int64) (R : Nat → Nat → Nat) (Q : Option Value → Hp → Prop) (i : Nat) (y : Int32), Wp 139 142 (ls) (.int y :: .ref i :: st) (n, sl, C, Z, I, L, R) Q ↔ ((inb y (Z i) = true ∧ C i = 22) ∧ Wp 139 143 (ls) (.long (L i (ix y)) :: st) (n, sl, C, Z, I, L, R) Q)) ∧
  (∀ (ls : Lo) (st : List Value) (h : Hp) (Q : Option Value → Hp → Prop) (a b : Int64), Wp 139 143 (ls) (.long b :: .long a :: st) h Q ↔ Wp 139 144 (ls) (.long (a * b) :: st) h Q) ∧
  (∀ (ls : Lo) (st : List Value) (h : Hp) (Q : Option Value → Hp → Prop) (a b : Int64), Wp 139 144 (ls) (.long b :: .long a :: st) h Q ↔ Wp 139 145 (ls) (.long (a - b) :: st) h Q) ∧
  (∀ (ls : Lo) (st : List Value) (h : Hp) (Q : Option Value → Hp → Prop) (a b : Int64), Wp 139 145 (ls) (.long b :: .long a :: st) h Q ↔ Wp 139 146 (ls) (.long (a * b) :: st) h Q) ∧
  (∀ (ls : Lo) (st : List Value) (h : Hp) (Q : Option Value → Hp → Prop)  (i : Nat), Wp 139 146 (some (.ref i) :: ls) (st) h Q ↔ Wp 139 147 (some (.ref i) :: ls) (.ref i :: st) h Q) ∧
  (∀ (ls : Lo) (st : List Value) (n sl : Nat) (C Z : Nat → Nat) (I : Nat → Nat → Int32) (L : Nat → Nat → Int64) (R : Nat → Nat → Nat) (Q : Option Value → Hp → Prop) (i : Nat), Wp 139 147 (ls) (.ref i :: st) (n, sl, C, Z, I, L, R) Q ↔ (C i = 11 ∧ Wp 139 150 (ls) (.ref (R i 25) :: st) (n, sl, C, Z, I, L, R) Q)) ∧
  (∀ (ls : Lo) (st : List Value) (h : Hp) (Q : Option Value → Hp → Prop), Wp 139 150 (ls) (st) h Q ↔ Wp 139 151 (ls) (.int (1) :: st) h Q) ∧
  (∀ (ls : Lo) (st : List Value) (n sl : Nat) (C Z : Nat → Nat) (I : Nat → Nat → Int32) (L : Nat → Nat → Int64) (R : Nat → Nat → Nat) (Q : Option Value → Hp → Prop) (i : Nat) (y : Int32), Wp 139 151 (ls) (.int y :: .ref i :: st) (n, sl, C, Z, I, L, R) Q ↔ ((inb y (Z i) = true ∧ C i = 22) ∧ Wp 139 152 (ls) (.long (L i (ix y)) :: st) (n, sl, C, Z, I, L, R) Q)) ∧
  (∀ (ls : Lo) (st : List Value) (h : Hp) (Q : Option Value → Hp → Prop)  (i : Nat), Wp 139 152 (some (.ref i) :: ls) (st) h Q ↔ Wp 139 153 (some (.ref i) :: ls) (.ref i :: st) h Q) ∧
  (∀ (ls : Lo) (st : List Value) (n sl : Nat) (C Z : Nat → Nat) (I : Nat → Nat → Int32) (L : Nat → Nat → Int64) (R : Nat → Nat → Nat) (Q : Option Value → Hp → Prop) (i : Nat), Wp 139 153 (ls) (.ref i :: st) (n, sl, C, Z, I, L, R) Q ↔ (C i = 11 ∧ Wp 139 156 (ls) (.ref (R i 25) :: st) (n, sl, C, Z, I, L, R) Q)) ∧
  (∀ (ls : Lo) (st : List Value) (h : Hp) (Q : Option Value → Hp → Prop), Wp 139 156 (ls) (st) h Q ↔ Wp 139 157 (ls) (.int (3) :: st) h Q) := ⟨by intro ls st h Q; exact e_iconst d139_120 rfl,
  by intro ls st n sl C Z I L R Q i y; exact e_lald d139_121,
  by intro ls st h Q i; exact e_aload_n d139_122 rfl,
  by intro ls st n sl C Z I L R Q i; exact e_get (g := 10) (s := 25) (ty := 2) d139_123 rfl rfl (inG_ne (by decide)),
  by intro ls st h Q; exact e_bipush d139_126 rfl,
  by intro ls st n sl C Z I L R Q i y; exact e_lald d139_128,
  by intro ls st h Q a b; exact e_lmul d139_129,
  by intro ls st h Q i; exact e_aload_n d139_130 rfl,
  by intro ls st n sl C Z I L R Q i; exact e_get (g := 10) (s := 25) (ty := 2) d139_131 rfl rfl (inG_ne (by decide)),
  by intro ls st h Q; exact e_iconst d139_134 rfl,
  by intro ls st n sl C Z I L R Q i y; exact e_lald d139_135,
  by intro ls st h Q i; exact e_aload_n d139_136 rfl,
  by intro ls st n sl C Z I L R Q i; exact e_get (g := 10) (s := 25) (ty := 2) d139_137 rfl rfl (inG_ne (by decide)),
  by intro ls st h Q; exact e_bipush d139_140 rfl,
  by intro ls st n sl C Z I L R Q i y; exact e_lald d139_142,
  by intro ls st h Q a b; exact e_lmul d139_143,
  by intro ls st h Q a b; exact e_lsub d139_144,
  by intro ls st h Q a b; exact e_lmul d139_145,
  by intro ls st h Q i; exact e_aload_n d139_146 rfl,
  by intro ls st n sl C Z I L R Q i; exact e_get (g := 10) (s := 25) (ty := 2) d139_147 rfl rfl (inG_ne (by decide)),
  by intro ls st h Q; exact e_iconst d139_150 rfl,
  by intro ls st n sl C Z I L R Q i y; exact e_lald d139_151,
  by intro ls st h Q i; exact e_aload_n d139_152 rfl,
  by intro ls st n sl C Z I L R Q i; exact e_get (g := 10) (s := 25) (ty := 2) d139_153 rfl rfl (inG_ne (by decide)),
  by intro ls st h Q; exact e_iconst d139_156 rfl⟩
set_option maxRecDepth 20000 in
theorem S139_4 : (∀ (ls : Lo) (st : List Value) (n sl : Nat) (C Z : Nat → Nat) (I : Nat → Nat → Int32) (L : Nat → Nat → Int64) (R : Nat → Nat → Nat) (Q : Option Value → Hp → Prop) (i : Nat) (y : Int32), Wp 139 157 (ls) (.int y :: .ref i :: st) (n, sl, C, Z, I, L, R) Q ↔ ((inb y (Z i) = true ∧ C i = 22) ∧ Wp 139 158 (ls) (.long (L i (ix y)) :: st) (n, sl, C, Z, I, L, R) Q)) ∧
  (∀ (ls : Lo) (st : List Value) (h : Hp) (Q : Option Value → Hp → Prop)  (i : Nat), Wp 139 158 (some (.ref i) :: ls) (st) h Q ↔ Wp 139 159 (some (.ref i) :: ls) (.ref i :: st) h Q) ∧
  (∀ (ls : Lo) (st : List Value) (n sl : Nat) (C Z : Nat → Nat) (I : Nat → Nat → Int32) (L : Nat → Nat → Int64) (R : Nat → Nat → Nat) (Q : Option Value → Hp → Prop) (i : Nat), Wp 139 159 (ls) (.ref i :: st) (n, sl, C, Z, I, L, R) Q ↔ (C i = 11 ∧ Wp 139 162 (ls) (.ref (R i 25) :: st) (n, sl, C, Z, I, L, R) Q)) ∧
  (∀ (ls : Lo) (st : List Value) (h : Hp) (Q : Option Value → Hp → Prop), Wp 139 162 (ls) (st) h Q ↔ Wp 139 164 (ls) (.int (8) :: st) h Q) ∧
  (∀ (ls : Lo) (st : List Value) (n sl : Nat) (C Z : Nat → Nat) (I : Nat → Nat → Int32) (L : Nat → Nat → Int64) (R : Nat → Nat → Nat) (Q : Option Value → Hp → Prop) (i : Nat) (y : Int32), Wp 139 164 (ls) (.int y :: .ref i :: st) (n, sl, C, Z, I, L, R) Q ↔ ((inb y (Z i) = true ∧ C i = 22) ∧ Wp 139 165 (ls) (.long (L i (ix y)) :: st) (n, sl, C, Z, I, L, R) Q)) ∧
  (∀ (ls : Lo) (st : List Value) (h : Hp) (Q : Option Value → Hp → Prop) (a b : Int64), Wp 139 165 (ls) (.long b :: .long a :: st) h Q ↔ Wp 139 166 (ls) (.long (a * b) :: st) h Q) ∧
  (∀ (ls : Lo) (st : List Value) (h : Hp) (Q : Option Value → Hp → Prop)  (i : Nat), Wp 139 166 (some (.ref i) :: ls) (st) h Q ↔ Wp 139 167 (some (.ref i) :: ls) (.ref i :: st) h Q) ∧
  (∀ (ls : Lo) (st : List Value) (n sl : Nat) (C Z : Nat → Nat) (I : Nat → Nat → Int32) (L : Nat → Nat → Int64) (R : Nat → Nat → Nat) (Q : Option Value → Hp → Prop) (i : Nat), Wp 139 167 (ls) (.ref i :: st) (n, sl, C, Z, I, L, R) Q ↔ (C i = 11 ∧ Wp 139 170 (ls) (.ref (R i 25) :: st) (n, sl, C, Z, I, L, R) Q)) ∧
  (∀ (ls : Lo) (st : List Value) (h : Hp) (Q : Option Value → Hp → Prop), Wp 139 170 (ls) (st) h Q ↔ Wp 139 171 (ls) (.int (5) :: st) h Q) ∧
  (∀ (ls : Lo) (st : List Value) (n sl : Nat) (C Z : Nat → Nat) (I : Nat → Nat → Int32) (L : Nat → Nat → Int64) (R : Nat → Nat → Nat) (Q : Option Value → Hp → Prop) (i : Nat) (y : Int32), Wp 139 171 (ls) (.int y :: .ref i :: st) (n, sl, C, Z, I, L, R) Q ↔ ((inb y (Z i) = true ∧ C i = 22) ∧ Wp 139 172 (ls) (.long (L i (ix y)) :: st) (n, sl, C, Z, I, L, R) Q)) ∧
  (∀ (ls : Lo) (st : List Value) (h : Hp) (Q : Option Value → Hp → Prop)  (i : Nat), Wp 139 172 (some (.ref i) :: ls) (st) h Q ↔ Wp 139 173 (some (.ref i) :: ls) (.ref i :: st) h Q) ∧
  (∀ (ls : Lo) (st : List Value) (n sl : Nat) (C Z : Nat → Nat) (I : Nat → Nat → Int32) (L : Nat → Nat → Int64) (R : Nat → Nat → Nat) (Q : Option Value → Hp → Prop) (i : Nat), Wp 139 173 (ls) (.ref i :: st) (n, sl, C, Z, I, L, R) Q ↔ (C i = 11 ∧ Wp 139 176 (ls) (.ref (R i 25) :: st) (n, sl, C, Z, I, L, R) Q)) ∧
  (∀ (ls : Lo) (st : List Value) (h : Hp) (Q : Option Value → Hp → Prop), Wp 139 176 (ls) (st) h Q ↔ Wp 139 178 (ls) (.int (6) :: st) h Q) ∧
  (∀ (ls : Lo) (st : List Value) (n sl : Nat) (C Z : Nat → Nat) (I : Nat → Nat → Int32) (L : Nat → Nat → Int64) (R : Nat → Nat → Nat) (Q : Option Value → Hp → Prop) (i : Nat) (y : Int32), Wp 139 178 (ls) (.int y :: .ref i :: st) (n, sl, C, Z, I, L, R) Q ↔ ((inb y (Z i) = true ∧ C i = 22) ∧ Wp 139 179 (ls) (.long (L i (ix y)) :: st) (n, sl, C, Z, I, L, R) Q)) ∧
  (∀ (ls : Lo) (st : List Value) (h : Hp) (Q : Option Value → Hp → Prop) (a b : Int64), Wp 139 179 (ls) (.long b :: .long a :: st) h Q ↔ Wp 139 180 (ls) (.long (a * b) :: st) h Q) ∧
  (∀ (ls : Lo) (st : List Value) (h : Hp) (Q : Option Value → Hp → Prop) (a b : Int64), Wp 139 180 (ls) (.long b :: .long a :: st) h Q ↔ Wp 139 181 (ls) (.long (a - b) :: st) h Q) ∧
  (∀ (ls : Lo) (st : List Value) (h : Hp) (Q : Option Value → Hp → Prop) (a b : Int64), Wp 139 181 (ls) (.long b :: .long a :: st) h Q ↔ Wp 139 182 (ls) (.long (a * b) :: st) h Q) ∧
  (∀ (ls : Lo) (st : List Value) (h : Hp) (Q : Option Value → Hp → Prop) (a b : Int64), Wp 139 182 (ls) (.long b :: .long a :: st) h Q ↔ Wp 139 183 (ls) (.long (a - b) :: st) h Q) ∧
  (∀ (ls : Lo) (st : List Value) (h : Hp) (Q : Option Value → Hp → Prop)  (i : Nat), Wp 139 183 (some (.ref i) :: ls) (st) h Q ↔ Wp 139 184 (some (.ref i) :: ls) (.ref i :: st) h Q) ∧
  (∀ (ls : Lo) (st : List Value) (n sl : Nat) (C Z : Nat → Nat) (I : Nat → Nat → Int32) (L : Nat → Nat → Int64) (R : Nat → Nat → Nat) (Q : Option Value → Hp → Prop) (i : Nat), Wp 139 184 (ls) (.ref i :: st) (n, sl, C, Z, I, L, R) Q ↔ (C i = 11 ∧ Wp 139 187 (ls) (.ref (R i 25) :: st) (n, sl, C, Z, I, L, R) Q)) ∧
  (∀ (ls : Lo) (st : List Value) (h : Hp) (Q : Option Value → Hp → Prop), Wp 139 187 (ls) (st) h Q ↔ Wp 139 188 (ls) (.int (2) :: st) h Q) ∧
  (∀ (ls : Lo) (st : List Value) (n sl : Nat) (C Z : Nat → Nat) (I : Nat → Nat → Int32) (L : Nat → Nat → Int64) (R : Nat → Nat → Nat) (Q : Option Value → Hp → Prop) (i : Nat) (y : Int32), Wp 139 188 (ls) (.int y :: .ref i :: st) (n, sl, C, Z, I, L, R) Q ↔ ((inb y (Z i) = true ∧ C i = 22) ∧ Wp 139 189 (ls) (.long (L i (ix y)) :: st) (n, sl, C, Z, I, L, R) Q)) ∧
  (∀ (ls : Lo) (st : List Value) (h : Hp) (Q : Option Value → Hp → Prop)  (i : Nat), Wp 139 189 (some (.ref i) :: ls) (st) h Q ↔ Wp 139 190 (some (.ref i) :: ls) (.ref i :: st) h Q) ∧
  (∀ (ls : Lo) (st : List Value) (n sl : Nat) (C Z : Nat → Nat) (I : Nat → Nat → Int32) (L : Nat → Nat → Int64) (R : Nat → Nat → Nat) (Q : Option Value → Hp → Prop) (i : Nat), Wp 139 190 (ls) (.ref i :: st) (n, sl, C, Z, I, L, R) Q ↔ (C i = 11 ∧ Wp 139 193 (ls) (.ref (R i 25) :: st) (n, sl, C, Z, I, L, R) Q)) ∧
  (∀ (ls : Lo) (st : List Value) (h : Hp) (Q : Option Value → Hp → Prop), Wp 139 193 (ls) (st) h Q ↔ Wp 139 194 (ls) (.int (3) :: st) h Q) := ⟨by intro ls st n sl C Z I L R Q i y; exact e_lald d139_157,
  by intro ls st h Q i; exact e_aload_n d139_158 rfl,
  by intro ls st n sl C Z I L R Q i; exact e_get (g := 10) (s := 25) (ty := 2) d139_159 rfl rfl (inG_ne (by decide)),
  by intro ls st h Q; exact e_bipush d139_162 rfl,
  by intro ls st n sl C Z I L R Q i y; exact e_lald d139_164,
  by intro ls st h Q a b; exact e_lmul d139_165,
  by intro ls st h Q i; exact e_aload_n d139_166 rfl,
  by intro ls st n sl C Z I L R Q i; exact e_get (g := 10) (s := 25) (ty := 2) d139_167 rfl rfl (inG_ne (by decide)),
  by intro ls st h Q; exact e_iconst d139_170 rfl,
  by intro ls st n sl C Z I L R Q i y; exact e_lald d139_171,
  by intro ls st h Q i; exact e_aload_n d139_172 rfl,
  by intro ls st n sl C Z I L R Q i; exact e_get (g := 10) (s := 25) (ty := 2) d139_173 rfl rfl (inG_ne (by decide)),
  by intro ls st h Q; exact e_bipush d139_176 rfl,
  by intro ls st n sl C Z I L R Q i y; exact e_lald d139_178,
  by intro ls st h Q a b; exact e_lmul d139_179,
  by intro ls st h Q a b; exact e_lsub d139_180,
  by intro ls st h Q a b; exact e_lmul d139_181,
  by intro ls st h Q a b; exact e_lsub d139_182,
  by intro ls st h Q i; exact e_aload_n d139_183 rfl,
  by intro ls st n sl C Z I L R Q i; exact e_get (g := 10) (s := 25) (ty := 2) d139_184 rfl rfl (inG_ne (by decide)),
  by intro ls st h Q; exact e_iconst d139_187 rfl,
  by intro ls st n sl C Z I L R Q i y; exact e_lald d139_188,
  by intro ls st h Q i; exact e_aload_n d139_189 rfl,
  by intro ls st n sl C Z I L R Q i; exact e_get (g := 10) (s := 25) (ty := 2) d139_190 rfl rfl (inG_ne (by decide)),
  by intro ls st h Q; exact e_iconst d139_193 rfl⟩
set_option maxRecDepth 20000 in
theorem S139_5 : (∀ (ls : Lo) (st : List Value) (n sl : Nat) (C Z : Nat → Nat) (I : Nat → Nat → Int32) (L : Nat → Nat → Int64) (R : Nat → Nat → Nat) (Q : Option Value → Hp → Prop) (i : Nat) (y : Int32), Wp 139 194 (ls) (.int y :: .ref i :: st) (n, sl, C, Z, I, L, R) Q ↔ ((inb y (Z i) = true ∧ C i = 22) ∧ Wp 139 195 (ls) (.long (L i (ix y)) :: st) (n, sl, C, Z, I, L, R) Q)) ∧
  (∀ (ls : Lo) (st : List Value) (h : Hp) (Q : Option Value → Hp → Prop)  (i : Nat), Wp 139 195 (some (.ref i) :: ls) (st) h Q ↔ Wp 139 196 (some (.ref i) :: ls) (.ref i :: st) h Q) ∧
  (∀ (ls : Lo) (st : List Value) (n sl : Nat) (C Z : Nat → Nat) (I : Nat → Nat → Int32) (L : Nat → Nat → Int64) (R : Nat → Nat → Nat) (Q : Option Value → Hp → Prop) (i : Nat), Wp 139 196 (ls) (.ref i :: st) (n, sl, C, Z, I, L, R) Q ↔ (C i = 11 ∧ Wp 139 199 (ls) (.ref (R i 25) :: st) (n, sl, C, Z, I, L, R) Q)) ∧
  (∀ (ls : Lo) (st : List Value) (h : Hp) (Q : Option Value → Hp → Prop), Wp 139 199 (ls) (st) h Q ↔ Wp 139 201 (ls) (.int (7) :: st) h Q) ∧
  (∀ (ls : Lo) (st : List Value) (n sl : Nat) (C Z : Nat → Nat) (I : Nat → Nat → Int32) (L : Nat → Nat → Int64) (R : Nat → Nat → Nat) (Q : Option Value → Hp → Prop) (i : Nat) (y : Int32), Wp 139 201 (ls) (.int y :: .ref i :: st) (n, sl, C, Z, I, L, R) Q ↔ ((inb y (Z i) = true ∧ C i = 22) ∧ Wp 139 202 (ls) (.long (L i (ix y)) :: st) (n, sl, C, Z, I, L, R) Q)) ∧
  (∀ (ls : Lo) (st : List Value) (h : Hp) (Q : Option Value → Hp → Prop) (a b : Int64), Wp 139 202 (ls) (.long b :: .long a :: st) h Q ↔ Wp 139 203 (ls) (.long (a * b) :: st) h Q) ∧
  (∀ (ls : Lo) (st : List Value) (h : Hp) (Q : Option Value → Hp → Prop)  (i : Nat), Wp 139 203 (some (.ref i) :: ls) (st) h Q ↔ Wp 139 204 (some (.ref i) :: ls) (.ref i :: st) h Q) ∧
  (∀ (ls : Lo) (st : List Value) (n sl : Nat) (C Z : Nat → Nat) (I : Nat → Nat → Int32) (L : Nat → Nat → Int64) (R : Nat → Nat → Nat) (Q : Option Value → Hp → Prop) (i : Nat), Wp 139 204 (ls) (.ref i :: st) (n, sl, C, Z, I, L, R) Q ↔ (C i = 11 ∧ Wp 139 207 (ls) (.ref (R i 25) :: st) (n, sl, C, Z, I, L, R) Q)) ∧
  (∀ (ls : Lo) (st : List Value) (h : Hp) (Q : Option Value → Hp → Prop), Wp 139 207 (ls) (st) h Q ↔ Wp 139 208 (ls) (.int (4) :: st) h Q) ∧
  (∀ (ls : Lo) (st : List Value) (n sl : Nat) (C Z : Nat → Nat) (I : Nat → Nat → Int32) (L : Nat → Nat → Int64) (R : Nat → Nat → Nat) (Q : Option Value → Hp → Prop) (i : Nat) (y : Int32), Wp 139 208 (ls) (.int y :: .ref i :: st) (n, sl, C, Z, I, L, R) Q ↔ ((inb y (Z i) = true ∧ C i = 22) ∧ Wp 139 209 (ls) (.long (L i (ix y)) :: st) (n, sl, C, Z, I, L, R) Q)) ∧
  (∀ (ls : Lo) (st : List Value) (h : Hp) (Q : Option Value → Hp → Prop)  (i : Nat), Wp 139 209 (some (.ref i) :: ls) (st) h Q ↔ Wp 139 210 (some (.ref i) :: ls) (.ref i :: st) h Q) ∧
  (∀ (ls : Lo) (st : List Value) (n sl : Nat) (C Z : Nat → Nat) (I : Nat → Nat → Int32) (L : Nat → Nat → Int64) (R : Nat → Nat → Nat) (Q : Option Value → Hp → Prop) (i : Nat), Wp 139 210 (ls) (.ref i :: st) (n, sl, C, Z, I, L, R) Q ↔ (C i = 11 ∧ Wp 139 213 (ls) (.ref (R i 25) :: st) (n, sl, C, Z, I, L, R) Q)) ∧
  (∀ (ls : Lo) (st : List Value) (h : Hp) (Q : Option Value → Hp → Prop), Wp 139 213 (ls) (st) h Q ↔ Wp 139 215 (ls) (.int (6) :: st) h Q) ∧
  (∀ (ls : Lo) (st : List Value) (n sl : Nat) (C Z : Nat → Nat) (I : Nat → Nat → Int32) (L : Nat → Nat → Int64) (R : Nat → Nat → Nat) (Q : Option Value → Hp → Prop) (i : Nat) (y : Int32), Wp 139 215 (ls) (.int y :: .ref i :: st) (n, sl, C, Z, I, L, R) Q ↔ ((inb y (Z i) = true ∧ C i = 22) ∧ Wp 139 216 (ls) (.long (L i (ix y)) :: st) (n, sl, C, Z, I, L, R) Q)) ∧
  (∀ (ls : Lo) (st : List Value) (h : Hp) (Q : Option Value → Hp → Prop) (a b : Int64), Wp 139 216 (ls) (.long b :: .long a :: st) h Q ↔ Wp 139 217 (ls) (.long (a * b) :: st) h Q) ∧
  (∀ (ls : Lo) (st : List Value) (h : Hp) (Q : Option Value → Hp → Prop) (a b : Int64), Wp 139 217 (ls) (.long b :: .long a :: st) h Q ↔ Wp 139 218 (ls) (.long (a - b) :: st) h Q) ∧
  (∀ (ls : Lo) (st : List Value) (h : Hp) (Q : Option Value → Hp → Prop) (a b : Int64), Wp 139 218 (ls) (.long b :: .long a :: st) h Q ↔ Wp 139 219 (ls) (.long (a * b) :: st) h Q) ∧
  (∀ (ls : Lo) (st : List Value) (h : Hp) (Q : Option Value → Hp → Prop) (a b : Int64), Wp 139 219 (ls) (.long b :: .long a :: st) h Q ↔ Wp 139 220 (ls) (.long (a + b) :: st) h Q) ∧
  (∀ (ls : Lo) (h : Hp) (Q : Option Value → Hp → Prop) (a : Int64), Wp 139 220 (ls) ([.long a]) h Q ↔ Q (some (.long a)) h) := ⟨by intro ls st n sl C Z I L R Q i y; exact e_lald d139_194,
  by intro ls st h Q i; exact e_aload_n d139_195 rfl,
  by intro ls st n sl C Z I L R Q i; exact e_get (g := 10) (s := 25) (ty := 2) d139_196 rfl rfl (inG_ne (by decide)),
  by intro ls st h Q; exact e_bipush d139_199 rfl,
  by intro ls st n sl C Z I L R Q i y; exact e_lald d139_201,
  by intro ls st h Q a b; exact e_lmul d139_202,
  by intro ls st h Q i; exact e_aload_n d139_203 rfl,
  by intro ls st n sl C Z I L R Q i; exact e_get (g := 10) (s := 25) (ty := 2) d139_204 rfl rfl (inG_ne (by decide)),
  by intro ls st h Q; exact e_iconst d139_207 rfl,
  by intro ls st n sl C Z I L R Q i y; exact e_lald d139_208,
  by intro ls st h Q i; exact e_aload_n d139_209 rfl,
  by intro ls st n sl C Z I L R Q i; exact e_get (g := 10) (s := 25) (ty := 2) d139_210 rfl rfl (inG_ne (by decide)),
  by intro ls st h Q; exact e_bipush d139_213 rfl,
  by intro ls st n sl C Z I L R Q i y; exact e_lald d139_215,
  by intro ls st h Q a b; exact e_lmul d139_216,
  by intro ls st h Q a b; exact e_lsub d139_217,
  by intro ls st h Q a b; exact e_lmul d139_218,
  by intro ls st h Q a b; exact e_ladd d139_219,
  by intros; exact e_rL d139_220 rfl⟩
