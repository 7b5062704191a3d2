theorem look_mem {α : Type} : ∀ {l : List (Nat × α)} {i : Nat} {v : α}, look l i = some v → (i, v) ∈ l
  | [], _, _, h => by cases h
  | (j, w) :: t, i, v, h => by
    unfold look at h
    by_cases e : j = i
    · rw [if_pos e] at h
      cases h
      subst e
      exact List.mem_cons_self
    · rw [if_neg e] at h
      exact List.mem_cons_of_mem _ (look_mem h)
def TB : List Cond := lw_tbl.filter goodWord
theorem TB_good {w : Cond} (h : w ∈ TB) : (w.onTables && w.keeps) = true ∨ ∃ ty, w = .arrayClass ty := good_of_word (List.mem_filter.mp h).2
theorem TB_in {w : Cond} (h : w ∈ TB) : w ∈ lw_tbl := (List.mem_filter.mp h).1
theorem TB_at {w : Cond} (i : Nat) (h : lw_tbl[i]? = some w) (g : goodWord w = true) : w ∈ TB := List.mem_filter.mpr ⟨List.mem_of_getElem? h, g⟩
def isT (i : Nat) (w : Cond) : Bool := goodWord w && decide (lw_tbl[i]? = some w)
theorem isT_TB {i : Nat} {w : Cond} (h : isT i w = true) : w ∈ TB := by
  simp only [isT, Bool.and_eq_true, decide_eq_true_eq] at h
  exact TB_at i h.2 h.1
def mP (q : Nat × MethodName × ByteArray × Nat × Option FieldType × Nat × Nat) : Prop := Cond.code q.2.1 q.2.2.1 q.2.2.2.1 q.2.2.2.2.1 ∈ TB ∧ q.2.1.cls = ow q.1 ∧ Cond.initialized q.2.1.cls ∈ TB ∧ plainName q.2.1.cls = true ∧ q.2.1.cls ≠ "java/lang/invoke/MethodHandle" ∧ q.2.1.cls ≠ "java/lang/invoke/VarHandle"
theorem iw_0 : Cond.initialized RX0 ∈ TB := TB_at 57 (by decide +kernel) rfl
theorem iw_1 : Cond.initialized RX1 ∈ TB := TB_at 60 (by decide +kernel) rfl
theorem iw_2 : Cond.initialized RX2 ∈ TB := TB_at 58 (by decide +kernel) rfl
theorem iw_3 : Cond.initialized RX3 ∈ TB := TB_at 55 (by decide +kernel) rfl
theorem iw_4 : Cond.initialized RX4 ∈ TB := TB_at 61 (by decide +kernel) rfl
theorem iw_5 : Cond.initialized RX5 ∈ TB := TB_at 65 (by decide +kernel) rfl
theorem iw_6 : Cond.initialized RX6 ∈ TB := TB_at 63 (by decide +kernel) rfl
theorem iw_7 : Cond.initialized RX7 ∈ TB := TB_at 67 (by decide +kernel) rfl
theorem iw_8 : Cond.initialized RX8 ∈ TB := TB_at 56 (by decide +kernel) rfl
theorem iw_9 : Cond.initialized RX9 ∈ TB := TB_at 54 (by decide +kernel) rfl
theorem iw_10 : Cond.initialized RX10 ∈ TB := TB_at 53 (by decide +kernel) rfl
theorem iw_11 : Cond.initialized RX11 ∈ TB := TB_at 59 (by decide +kernel) rfl
theorem iw_12 : Cond.initialized RJ6 ∈ TB := TB_at 64 (by decide +kernel) rfl
set_option maxRecDepth 100000 in
theorem mp_0 : mP (0, yX0_init, cX0_init, 1, none, 1, 20) := ⟨TB_at 211 rfl rfl, rfl, iw_0, by decide +kernel, by decide +kernel, by decide +kernel⟩
set_option maxRecDepth 100000 in
theorem mp_1 : mP (0, yX0_at, cX0_at, 3, none, 2, 57) := ⟨TB_at 445 rfl rfl, rfl, iw_0, by decide +kernel, by decide +kernel, by decide +kernel⟩
set_option maxRecDepth 100000 in
theorem mp_2 : mP (0, yX0_fillTicks, cX0_fillTicks, 11, none, 1, 27) := ⟨TB_at 463 rfl rfl, rfl, iw_0, by decide +kernel, by decide +kernel, by decide +kernel⟩
set_option maxRecDepth 100000 in
theorem mp_3 : mP (0, yX0_fillFlow, cX0_fillFlow, 11, none, 1, 27) := ⟨TB_at 450 rfl rfl, rfl, iw_0, by decide +kernel, by decide +kernel, by decide +kernel⟩
set_option maxRecDepth 100000 in
theorem mp_4 : mP (0, yX0_fill, cX0_fill, 8, none, 0, 0) := ⟨TB_at 455 rfl rfl, rfl, iw_0, by decide +kernel, by decide +kernel, by decide +kernel⟩
set_option maxRecDepth 100000 in
theorem mp_5 : mP (0, yX0_fillSides, cX0_fillSides, 3, none, 0, 0) := ⟨TB_at 459 rfl rfl, rfl, iw_0, by decide +kernel, by decide +kernel, by decide +kernel⟩
set_option maxRecDepth 100000 in
theorem mp_6 : mP (0, yX0_leaveOut, cX0_leaveOut, 2, none, 1, 27) := ⟨TB_at 468 rfl rfl, rfl, iw_0, by decide +kernel, by decide +kernel, by decide +kernel⟩
set_option maxRecDepth 100000 in
theorem mp_7 : mP (0, yX0_numberInto, cX0_numberInto, 3, none, 3, 79) := ⟨TB_at 616 rfl rfl, rfl, iw_0, by decide +kernel, by decide +kernel, by decide +kernel⟩
set_option maxRecDepth 100000 in
theorem mp_8 : mP (0, yX0_isAboveZero, cX0_isAboveZero, 1, (some .boolean), 0, 0) := ⟨TB_at 643 rfl rfl, rfl, iw_0, by decide +kernel, by decide +kernel, by decide +kernel⟩
set_option maxRecDepth 100000 in
theorem mp_9 : mP (1, yX1_init, cX1_init, 4, none, 2, 43) := ⟨TB_at 298 rfl rfl, rfl, iw_1, by decide +kernel, by decide +kernel, by decide +kernel⟩
set_option maxRecDepth 100000 in
theorem mp_10 : mP (1, yX1_kind, cX1_kind, 1, (some .int), 0, 0) := ⟨TB_at 476 rfl rfl, rfl, iw_1, by decide +kernel, by decide +kernel, by decide +kernel⟩
set_option maxRecDepth 100000 in
theorem mp_11 : mP (1, yX1_goes, cX1_goes, 3, (some .int), 1, 22) := ⟨TB_at 654 rfl rfl, rfl, iw_1, by decide +kernel, by decide +kernel, by decide +kernel⟩
set_option maxRecDepth 100000 in
theorem mp_12 : mP (2, yX2_init, cX2_init, 1, none, 1, 20) := ⟨TB_at 238 rfl rfl, rfl, iw_2, by decide +kernel, by decide +kernel, by decide +kernel⟩
set_option maxRecDepth 100000 in
theorem mp_13 : mP (2, yX2_put, cX2_put, 9, none, 2, 51) := ⟨TB_at 560 rfl rfl, rfl, iw_2, by decide +kernel, by decide +kernel, by decide +kernel⟩
set_option maxRecDepth 100000 in
theorem mp_14 : mP (2, yX2_told, cX2_told, 2, (some .long), 0, 0) := ⟨TB_at 568 rfl rfl, rfl, iw_2, by decide +kernel, by decide +kernel, by decide +kernel⟩
set_option maxRecDepth 100000 in
theorem mp_15 : mP (2, yX2_sharedDivisor, cX2_sharedDivisor, 11, (some .long), 1, 21) := ⟨TB_at 563 rfl rfl, rfl, iw_2, by decide +kernel, by decide +kernel, by decide +kernel⟩
set_option maxRecDepth 100000 in
theorem mp_16 : mP (3, yX3_init, cX3_init, 1, none, 2, 43) := ⟨TB_at 109 rfl rfl, rfl, iw_3, by decide +kernel, by decide +kernel, by decide +kernel⟩
set_option maxRecDepth 100000 in
theorem mp_17 : mP (3, yX3_at, cX3_at, 3, none, 2, 45) := ⟨TB_at 418 rfl rfl, rfl, iw_3, by decide +kernel, by decide +kernel, by decide +kernel⟩
set_option maxRecDepth 100000 in
theorem mp_18 : mP (3, yX3_columnInto, cX3_columnInto, 7, none, 0, 0) := ⟨TB_at 422 rfl rfl, rfl, iw_3, by decide +kernel, by decide +kernel, by decide +kernel⟩
set_option maxRecDepth 100000 in
theorem mp_19 : mP (3, yX3_rowInto, cX3_rowInto, 7, none, 0, 0) := ⟨TB_at 426 rfl rfl, rfl, iw_3, by decide +kernel, by decide +kernel, by decide +kernel⟩
set_option maxRecDepth 100000 in
theorem mp_20 : mP (3, yX3_fillOwn, cX3_fillOwn, 3, none, 1, 23) := ⟨TB_at 430 rfl rfl, rfl, iw_3, by decide +kernel, by decide +kernel, by decide +kernel⟩
set_option maxRecDepth 100000 in
theorem mp_21 : mP (3, yX3_putOwn, cX3_putOwn, 4, none, 0, 0) := ⟨TB_at 434 rfl rfl, rfl, iw_3, by decide +kernel, by decide +kernel, by decide +kernel⟩
set_option maxRecDepth 100000 in
theorem mp_22 : mP (3, yX3_pairMinor, cX3_pairMinor, 3, (some .long), 0, 0) := ⟨TB_at 438 rfl rfl, rfl, iw_3, by decide +kernel, by decide +kernel, by decide +kernel⟩
set_option maxRecDepth 100000 in
theorem mp_23 : mP (3, yX3_plainPulse, cX3_plainPulse, 5, (some .long), 0, 0) := ⟨TB_at 534 rfl rfl, rfl, iw_3, by decide +kernel, by decide +kernel, by decide +kernel⟩
set_option maxRecDepth 100000 in
theorem mp_24 : mP (3, yX3_above, cX3_above, 5, (some .long), 1, 24) := ⟨TB_at 548 rfl rfl, rfl, iw_3, by decide +kernel, by decide +kernel, by decide +kernel⟩
set_option maxRecDepth 100000 in
theorem mp_25 : mP (3, yX3_isSteady, cX3_isSteady, 1, (some .boolean), 2, 74) := ⟨TB_at 487 rfl rfl, rfl, iw_3, by decide +kernel, by decide +kernel, by decide +kernel⟩
set_option maxRecDepth 100000 in
theorem mp_26 : mP (3, yX3_rootsAreLeftOfZero, cX3_rootsAreLeftOfZero, 2, (some .boolean), 0, 0) := ⟨TB_at 492 rfl rfl, rfl, iw_3, by decide +kernel, by decide +kernel, by decide +kernel⟩
set_option maxRecDepth 100000 in
theorem mp_27 : mP (3, yX3_rootsAreWithinCircle, cX3_rootsAreWithinCircle, 7, (some .boolean), 1, 48) := ⟨TB_at 496 rfl rfl, rfl, iw_3, by decide +kernel, by decide +kernel, by decide +kernel⟩
set_option maxRecDepth 100000 in
theorem mp_28 : mP (3, yX3_reached, cX3_reached, 1, (some .int), 2, 47) := ⟨TB_at 509 rfl rfl, rfl, iw_3, by decide +kernel, by decide +kernel, by decide +kernel⟩
set_option maxRecDepth 100000 in
theorem mp_29 : mP (3, yX3_seen, cX3_seen, 1, (some .int), 2, 47) := ⟨TB_at 526 rfl rfl, rfl, iw_3, by decide +kernel, by decide +kernel, by decide +kernel⟩
set_option maxRecDepth 100000 in
theorem mp_30 : mP (3, yX3_least, cX3_least, 3, (some .int), 2, 47) := ⟨TB_at 530 rfl rfl, rfl, iw_3, by decide +kernel, by decide +kernel, by decide +kernel⟩
set_option maxRecDepth 100000 in
theorem mp_31 : mP (3, yX3_pulseInto, cX3_pulseInto, 3, none, 3, 79) := ⟨TB_at 556 rfl rfl, rfl, iw_3, by decide +kernel, by decide +kernel, by decide +kernel⟩
set_option maxRecDepth 100000 in
theorem mp_32 : mP (3, yX3_outputInto, cX3_outputInto, 9, none, 3, 79) := ⟨TB_at 577 rfl rfl, rfl, iw_3, by decide +kernel, by decide +kernel, by decide +kernel⟩
set_option maxRecDepth 100000 in
theorem mp_33 : mP (3, yX3_pulsesAreAlike, cX3_pulsesAreAlike, 7, (some .boolean), 1, 24) := ⟨TB_at 585 rfl rfl, rfl, iw_3, by decide +kernel, by decide +kernel, by decide +kernel⟩
set_option maxRecDepth 100000 in
theorem mp_34 : mP (3, yX3_gainInto, cX3_gainInto, 12, none, 3, 79) := ⟨TB_at 596 rfl rfl, rfl, iw_3, by decide +kernel, by decide +kernel, by decide +kernel⟩
set_option maxRecDepth 100000 in
theorem mp_35 : mP (3, yX3_leadInto, cX3_leadInto, 6, none, 0, 0) := ⟨TB_at 600 rfl rfl, rfl, iw_3, by decide +kernel, by decide +kernel, by decide +kernel⟩
set_option maxRecDepth 100000 in
theorem mp_36 : mP (3, yX3_soonestRest, cX3_soonestRest, 5, (some .int), 2, 48) := ⟨TB_at 608 rfl rfl, rfl, iw_3, by decide +kernel, by decide +kernel, by decide +kernel⟩
set_option maxRecDepth 100000 in
theorem mp_37 : mP (4, yX4_init, cX4_init, 4, none, 2, 43) := ⟨TB_at 344 rfl rfl, rfl, iw_4, by decide +kernel, by decide +kernel, by decide +kernel⟩
set_option maxRecDepth 100000 in
theorem mp_38 : mP (4, yX4_kind, cX4_kind, 1, (some .int), 0, 0) := ⟨TB_at 479 rfl rfl, rfl, iw_4, by decide +kernel, by decide +kernel, by decide +kernel⟩
set_option maxRecDepth 100000 in
theorem mp_39 : mP (4, yX4_leads, cX4_leads, 3, (some .int), 3, 66) := ⟨TB_at 671 rfl rfl, rfl, iw_4, by decide +kernel, by decide +kernel, by decide +kernel⟩
set_option maxRecDepth 100000 in
theorem mp_40 : mP (4, yX4_shows, cX4_shows, 3, (some .int), 5, 110) := ⟨TB_at 683 rfl rfl, rfl, iw_4, by decide +kernel, by decide +kernel, by decide +kernel⟩
set_option maxRecDepth 100000 in
theorem mp_41 : mP (5, yX5_whole, cX5_whole, 3, (some .long), 0, 0) := ⟨TB_at 441 rfl rfl, rfl, iw_5, by decide +kernel, by decide +kernel, by decide +kernel⟩
set_option maxRecDepth 100000 in
theorem mp_42 : mP (5, yX5_areFree, cX5_areFree, 2, (some .boolean), 0, 0) := ⟨TB_at 521 rfl rfl, rfl, iw_5, by decide +kernel, by decide +kernel, by decide +kernel⟩
set_option maxRecDepth 100000 in
theorem mp_43 : mP (5, yX5_isFree, cX5_isFree, 1, (some .boolean), 0, 0) := ⟨TB_at 515 rfl rfl, rfl, iw_5, by decide +kernel, by decide +kernel, by decide +kernel⟩
set_option maxRecDepth 100000 in
theorem mp_44 : mP (5, yX5_rank, cX5_rank, 6, (some .int), 1, 22) := ⟨TB_at 512 rfl rfl, rfl, iw_5, by decide +kernel, by decide +kernel, by decide +kernel⟩
set_option maxRecDepth 100000 in
theorem mp_45 : mP (6, yX6_init, cX6_init, 4, none, 3, 66) := ⟨TB_at 394 rfl rfl, rfl, iw_6, by decide +kernel, by decide +kernel, by decide +kernel⟩
set_option maxRecDepth 100000 in
theorem mp_46 : mP (6, yX6_kind, cX6_kind, 1, (some .int), 0, 0) := ⟨TB_at 482 rfl rfl, rfl, iw_6, by decide +kernel, by decide +kernel, by decide +kernel⟩
set_option maxRecDepth 100000 in
theorem mp_47 : mP (6, yX6_goes, cX6_goes, 3, (some .int), 1, 22) := ⟨TB_at 659 rfl rfl, rfl, iw_6, by decide +kernel, by decide +kernel, by decide +kernel⟩
set_option maxRecDepth 100000 in
theorem mp_48 : mP (6, yX6_shows, cX6_shows, 3, (some .int), 6, 132) := ⟨TB_at 687 rfl rfl, rfl, iw_6, by decide +kernel, by decide +kernel, by decide +kernel⟩
set_option maxRecDepth 100000 in
theorem mp_49 : mP (7, yX7_init, cX7_init, 3, none, 1, 21) := ⟨TB_at 713 rfl rfl, rfl, iw_7, by decide +kernel, by decide +kernel, by decide +kernel⟩
set_option maxRecDepth 100000 in
theorem mp_50 : mP (7, yX7_has, cX7_has, 3, (some .boolean), 0, 0) := ⟨TB_at 736 rfl rfl, rfl, iw_7, by decide +kernel, by decide +kernel, by decide +kernel⟩
set_option maxRecDepth 100000 in
theorem mp_51 : mP (8, yX8_init, cX8_init, 4, none, 1, 20) := ⟨TB_at 115 rfl rfl, rfl, iw_8, by decide +kernel, by decide +kernel, by decide +kernel⟩
set_option maxRecDepth 100000 in
theorem mp_52 : mP (8, yX8_kind, cX8_kind, 1, (some .int), 0, 0) := ⟨TB_at 483 rfl rfl, rfl, iw_8, by decide +kernel, by decide +kernel, by decide +kernel⟩
set_option maxRecDepth 100000 in
theorem mp_53 : mP (8, yX8_numbersOf, cX8_numbersOf, 2, (some (.array .int)), 0, 0) := ⟨TB_at 332 rfl rfl, rfl, iw_8, by decide +kernel, by decide +kernel, by decide +kernel⟩
set_option maxRecDepth 100000 in
theorem mp_54 : mP (8, yX8_goes, cX8_goes, 3, (some .int), 0, 0) := ⟨TB_at 663 rfl rfl, rfl, iw_8, by decide +kernel, by decide +kernel, by decide +kernel⟩
set_option maxRecDepth 100000 in
theorem mp_55 : mP (8, yX8_leads, cX8_leads, 3, (some .int), 2, 44) := ⟨TB_at 674 rfl rfl, rfl, iw_8, by decide +kernel, by decide +kernel, by decide +kernel⟩
set_option maxRecDepth 100000 in
theorem mp_56 : mP (8, yX8_shows, cX8_shows, 3, (some .int), 4, 88) := ⟨TB_at 693 rfl rfl, rfl, iw_8, by decide +kernel, by decide +kernel, by decide +kernel⟩
set_option maxRecDepth 100000 in
theorem mp_57 : mP (9, yX9_init, cX9_init, 1, none, 1, 20) := ⟨TB_at 82 rfl rfl, rfl, iw_9, by decide +kernel, by decide +kernel, by decide +kernel⟩
set_option maxRecDepth 100000 in
theorem mp_58 : mP (10, yX10_init, cX10_init, 1, none, 3, 63) := ⟨TB_at 72 rfl rfl, rfl, iw_10, by decide +kernel, by decide +kernel, by decide +kernel⟩
set_option maxRecDepth 100000 in
theorem mp_59 : mP (10, yX10_machine, cX10_machine, 5, (some .int), 3, 66) := ⟨TB_at 286 rfl rfl, rfl, iw_10, by decide +kernel, by decide +kernel, by decide +kernel⟩
set_option maxRecDepth 100000 in
theorem mp_60 : mP (10, yX10_set, cX10_set, 10, (some .int), 2, 45) := ⟨TB_at 316 rfl rfl, rfl, iw_10, by decide +kernel, by decide +kernel, by decide +kernel⟩
set_option maxRecDepth 100000 in
theorem mp_61 : mP (10, yX10_series, cX10_series, 3, (some .int), 4, 94) := ⟨TB_at 336 rfl rfl, rfl, iw_10, by decide +kernel, by decide +kernel, by decide +kernel⟩
set_option maxRecDepth 100000 in
theorem mp_62 : mP (10, yX10_side, cX10_side, 3, (some .int), 4, 94) := ⟨TB_at 375 rfl rfl, rfl, iw_10, by decide +kernel, by decide +kernel, by decide +kernel⟩
set_option maxRecDepth 100000 in
theorem mp_63 : mP (10, yX10_back, cX10_back, 8, (some .int), 3, 67) := ⟨TB_at 379 rfl rfl, rfl, iw_10, by decide +kernel, by decide +kernel, by decide +kernel⟩
set_option maxRecDepth 100000 in
theorem mp_64 : mP (10, yX10_part, cX10_part, 7, (some .int), 4, 89) := ⟨TB_at 383 rfl rfl, rfl, iw_10, by decide +kernel, by decide +kernel, by decide +kernel⟩
set_option maxRecDepth 100000 in
theorem mp_65 : mP (10, yX10_drop, cX10_drop, 1, (some .int), 0, 0) := ⟨TB_at 410 rfl rfl, rfl, iw_10, by decide +kernel, by decide +kernel, by decide +kernel⟩
set_option maxRecDepth 100000 in
theorem mp_66 : mP (10, yX10_machineTold, cX10_machineTold, 4, (some .int), 3, 94) := ⟨TB_at 414 rfl rfl, rfl, iw_10, by decide +kernel, by decide +kernel, by decide +kernel⟩
set_option maxRecDepth 100000 in
theorem mp_67 : mP (10, yX10_table, cX10_table, 7, (some .int), 2, 45) := ⟨TB_at 538 rfl rfl, rfl, iw_10, by decide +kernel, by decide +kernel, by decide +kernel⟩
set_option maxRecDepth 100000 in
theorem mp_68 : mP (10, yX10_own, cX10_own, 5, (some .long), 3, 67) := ⟨TB_at 543 rfl rfl, rfl, iw_10, by decide +kernel, by decide +kernel, by decide +kernel⟩
set_option maxRecDepth 100000 in
theorem mp_69 : mP (10, yX10_pulse, cX10_pulse, 5, (some .long), 4, 101) := ⟨TB_at 552 rfl rfl, rfl, iw_10, by decide +kernel, by decide +kernel, by decide +kernel⟩
set_option maxRecDepth 100000 in
theorem mp_70 : mP (10, yX10_run, cX10_run, 6, (some .long), 4, 107) := ⟨TB_at 572 rfl rfl, rfl, iw_10, by decide +kernel, by decide +kernel, by decide +kernel⟩
set_option maxRecDepth 100000 in
theorem mp_71 : mP (10, yX10_like, cX10_like, 5, (some .int), 3, 67) := ⟨TB_at 581 rfl rfl, rfl, iw_10, by decide +kernel, by decide +kernel, by decide +kernel⟩
set_option maxRecDepth 100000 in
theorem mp_72 : mP (10, yX10_gain, cX10_gain, 8, (some .long), 4, 110) := ⟨TB_at 589 rfl rfl, rfl, iw_10, by decide +kernel, by decide +kernel, by decide +kernel⟩
set_option maxRecDepth 100000 in
theorem mp_73 : mP (10, yX10_soonest, cX10_soonest, 6, (some .int), 3, 72) := ⟨TB_at 604 rfl rfl, rfl, iw_10, by decide +kernel, by decide +kernel, by decide +kernel⟩
set_option maxRecDepth 100000 in
theorem mp_74 : mP (10, yX10_energy, cX10_energy, 6, (some .long), 4, 101) := ⟨TB_at 612 rfl rfl, rfl, iw_10, by decide +kernel, by decide +kernel, by decide +kernel⟩
set_option maxRecDepth 100000 in
theorem mp_75 : mP (10, yX10_write, cX10_write, 3, (some .int), 5, 127) := ⟨TB_at 621 rfl rfl, rfl, iw_10, by decide +kernel, by decide +kernel, by decide +kernel⟩
set_option maxRecDepth 100000 in
theorem mp_76 : mP (10, yX10_row, cX10_row, 2, (some .long), 1, 22) := ⟨TB_at 629 rfl rfl, rfl, iw_10, by decide +kernel, by decide +kernel, by decide +kernel⟩
set_option maxRecDepth 100000 in
theorem mp_77 : mP (10, yX10_forge, cX10_forge, 4, (some .int), 1, 22) := ⟨TB_at 633 rfl rfl, rfl, iw_10, by decide +kernel, by decide +kernel, by decide +kernel⟩
set_option maxRecDepth 100000 in
theorem mp_78 : mP (10, yX10_check, cX10_check, 6, (some .int), 5, 127) := ⟨TB_at 639 rfl rfl, rfl, iw_10, by decide +kernel, by decide +kernel, by decide +kernel⟩
set_option maxRecDepth 100000 in
theorem mp_79 : mP (10, yX10_act, cX10_act, 5, (some .int), 7, 154) := ⟨TB_at 647 rfl rfl, rfl, iw_10, by decide +kernel, by decide +kernel, by decide +kernel⟩
set_option maxRecDepth 100000 in
theorem mp_80 : mP (10, yX10_trace, cX10_trace, 2, (some .int), 1, 22) := ⟨TB_at 698 rfl rfl, rfl, iw_10, by decide +kernel, by decide +kernel, by decide +kernel⟩
set_option maxRecDepth 100000 in
theorem mp_81 : mP (10, yX10_count, cX10_count, 2, (some .int), 0, 0) := ⟨TB_at 702 rfl rfl, rfl, iw_10, by decide +kernel, by decide +kernel, by decide +kernel⟩
set_option maxRecDepth 100000 in
theorem mp_82 : mP (10, yX10_sheet, cX10_sheet, 4, (some .int), 2, 43) := ⟨TB_at 706 rfl rfl, rfl, iw_10, by decide +kernel, by decide +kernel, by decide +kernel⟩
set_option maxRecDepth 100000 in
theorem mp_83 : mP (10, yX10_cell, cX10_cell, 5, (some .int), 2, 42) := ⟨TB_at 728 rfl rfl, rfl, iw_10, by decide +kernel, by decide +kernel, by decide +kernel⟩
set_option maxRecDepth 100000 in
theorem mp_84 : mP (10, yX10_lay, cX10_lay, 9, (some .int), 2, 43) := ⟨TB_at 732 rfl rfl, rfl, iw_10, by decide +kernel, by decide +kernel, by decide +kernel⟩
set_option maxRecDepth 100000 in
theorem mp_85 : mP (10, yX10_copy, cX10_copy, 8, (some .int), 2, 48) := ⟨TB_at 742 rfl rfl, rfl, iw_10, by decide +kernel, by decide +kernel, by decide +kernel⟩
set_option maxRecDepth 100000 in
theorem mp_86 : mP (10, yX10_taken, cX10_taken, 4, (some .int), 2, 43) := ⟨TB_at 747 rfl rfl, rfl, iw_10, by decide +kernel, by decide +kernel, by decide +kernel⟩
set_option maxRecDepth 100000 in
theorem mp_87 : mP (10, yX10_isWithin, cX10_isWithin, 3, (some .boolean), 0, 0) := ⟨TB_at 289 rfl rfl, rfl, iw_10, by decide +kernel, by decide +kernel, by decide +kernel⟩
set_option maxRecDepth 100000 in
theorem mp_88 : mP (10, yX10_areWithin, cX10_areWithin, 5, (some .boolean), 1, 22) := ⟨TB_at 592 rfl rfl, rfl, iw_10, by decide +kernel, by decide +kernel, by decide +kernel⟩
set_option maxRecDepth 100000 in
theorem mp_89 : mP (10, yX10_power, cX10_power, 5, (some .long), 0, 0) := ⟨TB_at 499 rfl rfl, rfl, iw_10, by decide +kernel, by decide +kernel, by decide +kernel⟩
set_option maxRecDepth 100000 in
theorem mp_90 : mP (10, yX10_isSheet, cX10_isSheet, 1, (some .boolean), 1, 22) := ⟨TB_at 709 rfl rfl, rfl, iw_10, by decide +kernel, by decide +kernel, by decide +kernel⟩
set_option maxRecDepth 100000 in
theorem mp_91 : mP (10, yX10_isFull, cX10_isFull, 1, (some .boolean), 0, 0) := ⟨TB_at 293 rfl rfl, rfl, iw_10, by decide +kernel, by decide +kernel, by decide +kernel⟩
set_option maxRecDepth 100000 in
theorem mp_92 : mP (10, yX10_machineAt, cX10_machineAt, 2, (some (.object "SteerBench$Steps")), 1, 22) := ⟨TB_at 320 rfl rfl, rfl, iw_10, by decide +kernel, by decide +kernel, by decide +kernel⟩
set_option maxRecDepth 100000 in
theorem mp_93 : mP (10, yX10_isOfKind, cX10_isOfKind, 2, (some .boolean), 0, 0) := ⟨TB_at 750 rfl rfl, rfl, iw_10, by decide +kernel, by decide +kernel, by decide +kernel⟩
set_option maxRecDepth 100000 in
theorem mp_94 : mP (10, yX10_placeIn, cX10_placeIn, 4, (some .int), 1, 22) := ⟨TB_at 323 rfl rfl, rfl, iw_10, by decide +kernel, by decide +kernel, by decide +kernel⟩
set_option maxRecDepth 100000 in
theorem mp_95 : mP (10, yX10_kept, cX10_kept, 2, (some .int), 1, 20) := ⟨TB_at 312 rfl rfl, rfl, iw_10, by decide +kernel, by decide +kernel, by decide +kernel⟩
set_option maxRecDepth 100000 in
theorem mp_96 : mP (10, yX10_keptIfSmall, cX10_keptIfSmall, 7, (some .int), 2, 41) := ⟨TB_at 366 rfl rfl, rfl, iw_10, by decide +kernel, by decide +kernel, by decide +kernel⟩
set_option maxRecDepth 100000 in
theorem mp_97 : mP (10, yX10_joined, cX10_joined, 8, (some .int), 3, 67) := ⟨TB_at 340 rfl rfl, rfl, iw_10, by decide +kernel, by decide +kernel, by decide +kernel⟩
set_option maxRecDepth 100000 in
theorem mp_98 : mP (10, yX10_putBlock, cX10_putBlock, 8, none, 1, 21) := ⟨TB_at 356 rfl rfl, rfl, iw_10, by decide +kernel, by decide +kernel, by decide +kernel⟩
set_option maxRecDepth 100000 in
theorem mp_99 : mP (10, yX10_putCrossing, cX10_putCrossing, 5, none, 0, 0) := ⟨TB_at 362 rfl rfl, rfl, iw_10, by decide +kernel, by decide +kernel, by decide +kernel⟩
set_option maxRecDepth 100000 in
theorem mp_100 : mP (10, yX10_fillRow, cX10_fillRow, 7, none, 0, 0) := ⟨TB_at 406 rfl rfl, rfl, iw_10, by decide +kernel, by decide +kernel, by decide +kernel⟩
set_option maxRecDepth 100000 in
theorem mp_101 : mP (10, yX10_proofInto, cX10_proofInto, 7, (some .int), 4, 101) := ⟨TB_at 625 rfl rfl, rfl, iw_10, by decide +kernel, by decide +kernel, by decide +kernel⟩
set_option maxRecDepth 100000 in
theorem mp_102 : mP (11, yX11_init, cX11_init, 2, none, 1, 20) := ⟨TB_at 755 rfl rfl, rfl, iw_11, by decide +kernel, by decide +kernel, by decide +kernel⟩
set_option maxRecDepth 100000 in
theorem mp_103 : mP (11, yX11_is, cX11_is, 2, (some .boolean), 0, 0) := ⟨TB_at 863 rfl rfl, rfl, iw_11, by decide +kernel, by decide +kernel, by decide +kernel⟩
set_option maxRecDepth 100000 in
theorem mp_104 : mP (11, yX11_at, cX11_at, 4, (some .int), 0, 0) := ⟨TB_at 875 rfl rfl, rfl, iw_11, by decide +kernel, by decide +kernel, by decide +kernel⟩
set_option maxRecDepth 100000 in
theorem mp_105 : mP (11, yX11_common, cX11_common, 10, (some .long), 0, 0) := ⟨TB_at 934 rfl rfl, rfl, iw_11, by decide +kernel, by decide +kernel, by decide +kernel⟩
set_option maxRecDepth 100000 in
theorem mp_106 : mP (11, yX11_lowest, cX11_lowest, 7, none, 1, 29) := ⟨TB_at 988 rfl rfl, rfl, iw_11, by decide +kernel, by decide +kernel, by decide +kernel⟩
set_option maxRecDepth 100000 in
theorem mp_107 : mP (11, yX11_told, cX11_told, 2, (some .long), 0, 0) := ⟨TB_at 995 rfl rfl, rfl, iw_11, by decide +kernel, by decide +kernel, by decide +kernel⟩
set_option maxRecDepth 100000 in
theorem mp_108 : mP (11, yX11_makes, cX11_makes, 6, (some .int), 0, 0) := ⟨TB_at 855 rfl rfl, rfl, iw_11, by decide +kernel, by decide +kernel, by decide +kernel⟩
set_option maxRecDepth 100000 in
theorem mp_109 : mP (11, yX11_machine, cX11_machine, 4, (some .int), 1, 25) := ⟨TB_at 851 rfl rfl, rfl, iw_11, by decide +kernel, by decide +kernel, by decide +kernel⟩
set_option maxRecDepth 100000 in
theorem mp_110 : mP (11, yX11_isPlace, cX11_isPlace, 5, (some .boolean), 0, 0) := ⟨TB_at 867 rfl rfl, rfl, iw_11, by decide +kernel, by decide +kernel, by decide +kernel⟩
set_option maxRecDepth 100000 in
theorem mp_111 : mP (11, yX11_number, cX11_number, 5, (some .int), 1, 23) := ⟨TB_at 871 rfl rfl, rfl, iw_11, by decide +kernel, by decide +kernel, by decide +kernel⟩
set_option maxRecDepth 100000 in
theorem mp_112 : mP (11, yX11_set, cX11_set, 7, (some .int), 2, 47) := ⟨TB_at 859 rfl rfl, rfl, iw_11, by decide +kernel, by decide +kernel, by decide +kernel⟩
set_option maxRecDepth 100000 in
theorem mp_113 : mP (11, yX11_table, cX11_table, 5, (some .int), 2, 47) := ⟨TB_at 879 rfl rfl, rfl, iw_11, by decide +kernel, by decide +kernel, by decide +kernel⟩
set_option maxRecDepth 100000 in
theorem mp_114 : mP (11, yX11_fits, cX11_fits, 1, (some .boolean), 0, 0) := ⟨TB_at 895 rfl rfl, rfl, iw_11, by decide +kernel, by decide +kernel, by decide +kernel⟩
set_option maxRecDepth 100000 in
theorem mp_115 : mP (11, yX11_keeps, cX11_keeps, 9, (some .int), 1, 25) := ⟨TB_at 892 rfl rfl, rfl, iw_11, by decide +kernel, by decide +kernel, by decide +kernel⟩
set_option maxRecDepth 100000 in
theorem mp_116 : mP (11, yX11_joins, cX11_joins, 10, (some .int), 2, 53) := ⟨TB_at 888 rfl rfl, rfl, iw_11, by decide +kernel, by decide +kernel, by decide +kernel⟩
set_option maxRecDepth 100000 in
theorem mp_117 : mP (11, yX11_series, cX11_series, 3, (some .int), 3, 82) := ⟨TB_at 884 rfl rfl, rfl, iw_11, by decide +kernel, by decide +kernel, by decide +kernel⟩
set_option maxRecDepth 100000 in
theorem mp_118 : mP (11, yX11_side, cX11_side, 3, (some .int), 3, 82) := ⟨TB_at 899 rfl rfl, rfl, iw_11, by decide +kernel, by decide +kernel, by decide +kernel⟩
set_option maxRecDepth 100000 in
theorem mp_119 : mP (11, yX11_back, cX11_back, 5, (some .int), 2, 53) := ⟨TB_at 903 rfl rfl, rfl, iw_11, by decide +kernel, by decide +kernel, by decide +kernel⟩
set_option maxRecDepth 100000 in
theorem mp_120 : mP (11, yX11_part, cX11_part, 7, (some .int), 2, 53) := ⟨TB_at 907 rfl rfl, rfl, iw_11, by decide +kernel, by decide +kernel, by decide +kernel⟩
set_option maxRecDepth 100000 in
theorem mp_121 : mP (11, yX11_drop, cX11_drop, 1, (some .int), 0, 0) := ⟨TB_at 911 rfl rfl, rfl, iw_11, by decide +kernel, by decide +kernel, by decide +kernel⟩
set_option maxRecDepth 100000 in
theorem mp_122 : mP (11, yX11_beat, cX11_beat, 6, (some .long), 2, 46) := ⟨TB_at 962 rfl rfl, rfl, iw_11, by decide +kernel, by decide +kernel, by decide +kernel⟩
set_option maxRecDepth 100000 in
theorem mp_123 : mP (11, yX11_turnsOn, cX11_turnsOn, 4, none, 1, 23) := ⟨TB_at 946 rfl rfl, rfl, iw_11, by decide +kernel, by decide +kernel, by decide +kernel⟩
set_option maxRecDepth 100000 in
theorem mp_124 : mP (11, yX11_minor, cX11_minor, 4, (some .long), 1, 23) := ⟨TB_at 927 rfl rfl, rfl, iw_11, by decide +kernel, by decide +kernel, by decide +kernel⟩
set_option maxRecDepth 100000 in
theorem mp_125 : mP (11, yX11_owns, cX11_owns, 13, none, 2, 46) := ⟨TB_at 923 rfl rfl, rfl, iw_11, by decide +kernel, by decide +kernel, by decide +kernel⟩
set_option maxRecDepth 100000 in
theorem mp_126 : mP (11, yX11_isWithin, cX11_isWithin, 10, (some .boolean), 1, 29) := ⟨TB_at 931 rfl rfl, rfl, iw_11, by decide +kernel, by decide +kernel, by decide +kernel⟩
set_option maxRecDepth 100000 in
theorem mp_127 : mP (11, yX11_isSteady, cX11_isSteady, 6, (some .boolean), 3, 78) := ⟨TB_at 919 rfl rfl, rfl, iw_11, by decide +kernel, by decide +kernel, by decide +kernel⟩
set_option maxRecDepth 100000 in
theorem mp_128 : mP (11, yX11_rank, cX11_rank, 11, (some .int), 1, 29) := ⟨TB_at 950 rfl rfl, rfl, iw_11, by decide +kernel, by decide +kernel, by decide +kernel⟩
set_option maxRecDepth 100000 in
theorem mp_129 : mP (11, yX11_reaches, cX11_reaches, 5, none, 2, 46) := ⟨TB_at 942 rfl rfl, rfl, iw_11, by decide +kernel, by decide +kernel, by decide +kernel⟩
set_option maxRecDepth 100000 in
theorem mp_130 : mP (11, yX11_reached, cX11_reached, 2, (some .int), 3, 70) := ⟨TB_at 938 rfl rfl, rfl, iw_11, by decide +kernel, by decide +kernel, by decide +kernel⟩
set_option maxRecDepth 100000 in
theorem mp_131 : mP (11, yX11_seen, cX11_seen, 7, (some .int), 2, 59) := ⟨TB_at 954 rfl rfl, rfl, iw_11, by decide +kernel, by decide +kernel, by decide +kernel⟩
set_option maxRecDepth 100000 in
theorem mp_132 : mP (11, yX11_least, cX11_least, 4, (some .int), 3, 71) := ⟨TB_at 958 rfl rfl, rfl, iw_11, by decide +kernel, by decide +kernel, by decide +kernel⟩
set_option maxRecDepth 100000 in
theorem mp_133 : mP (11, yX11_machineTold, cX11_machineTold, 3, (some .int), 4, 103) := ⟨TB_at 915 rfl rfl, rfl, iw_11, by decide +kernel, by decide +kernel, by decide +kernel⟩
set_option maxRecDepth 100000 in
theorem mp_134 : mP (11, yX11_own, cX11_own, 7, (some .long), 3, 78) := ⟨TB_at 979 rfl rfl, rfl, iw_11, by decide +kernel, by decide +kernel, by decide +kernel⟩
set_option maxRecDepth 100000 in
theorem mp_135 : mP (11, yX11_power, cX11_power, 6, (some .long), 0, 0) := ⟨TB_at 991 rfl rfl, rfl, iw_11, by decide +kernel, by decide +kernel, by decide +kernel⟩
set_option maxRecDepth 100000 in
theorem mp_136 : mP (11, yX11_pulse, cX11_pulse, 4, (some .long), 3, 71) := ⟨TB_at 984 rfl rfl, rfl, iw_11, by decide +kernel, by decide +kernel, by decide +kernel⟩
set_option maxRecDepth 100000 in
theorem mp_137 : mP (11, yX11_run, cX11_run, 12, (some .long), 3, 71) := ⟨TB_at 999 rfl rfl, rfl, iw_11, by decide +kernel, by decide +kernel, by decide +kernel⟩
set_option maxRecDepth 100000 in
theorem mp_138 : mP (11, yX11_like, cX11_like, 4, (some .int), 3, 71) := ⟨TB_at 1004 rfl rfl, rfl, iw_11, by decide +kernel, by decide +kernel, by decide +kernel⟩
set_option maxRecDepth 100000 in
theorem mp_139 : mP (11, yX11_worth, cX11_worth, 5, (some .long), 0, 0) := ⟨TB_at 975 rfl rfl, rfl, iw_11, by decide +kernel, by decide +kernel, by decide +kernel⟩
set_option maxRecDepth 100000 in
theorem mp_140 : mP (11, yX11_gain, cX11_gain, 11, (some .long), 4, 91) := ⟨TB_at 1008 rfl rfl, rfl, iw_11, by decide +kernel, by decide +kernel, by decide +kernel⟩
set_option maxRecDepth 100000 in
theorem mp_141 : mP (11, yX11_soonest, cX11_soonest, 9, (some .int), 3, 70) := ⟨TB_at 1012 rfl rfl, rfl, iw_11, by decide +kernel, by decide +kernel, by decide +kernel⟩
set_option maxRecDepth 100000 in
theorem mp_142 : mP (11, yX11_lays, cX11_lays, 16, (some .int), 1, 23) := ⟨TB_at 970 rfl rfl, rfl, iw_11, by decide +kernel, by decide +kernel, by decide +kernel⟩
set_option maxRecDepth 100000 in
theorem mp_143 : mP (11, yX11_hasEnergy, cX11_hasEnergy, 3, (some .boolean), 2, 58) := ⟨TB_at 966 rfl rfl, rfl, iw_11, by decide +kernel, by decide +kernel, by decide +kernel⟩
set_option maxRecDepth 100000 in
theorem mp_144 : mP (11, yX11_energy, cX11_energy, 5, (some .long), 3, 80) := ⟨TB_at 1016 rfl rfl, rfl, iw_11, by decide +kernel, by decide +kernel, by decide +kernel⟩
set_option maxRecDepth 100000 in
theorem mp_145 : mP (11, yX11_writes, cX11_writes, 5, none, 4, 104) := ⟨TB_at 1024 rfl rfl, rfl, iw_11, by decide +kernel, by decide +kernel, by decide +kernel⟩
set_option maxRecDepth 100000 in
theorem mp_146 : mP (11, yX11_write, cX11_write, 3, (some .int), 5, 128) := ⟨TB_at 1020 rfl rfl, rfl, iw_11, by decide +kernel, by decide +kernel, by decide +kernel⟩
set_option maxRecDepth 100000 in
theorem mp_147 : mP (11, yX11_row, cX11_row, 2, (some .long), 0, 0) := ⟨TB_at 1029 rfl rfl, rfl, iw_11, by decide +kernel, by decide +kernel, by decide +kernel⟩
set_option maxRecDepth 100000 in
theorem mp_148 : mP (11, yX11_forge, cX11_forge, 4, (some .int), 0, 0) := ⟨TB_at 1033 rfl rfl, rfl, iw_11, by decide +kernel, by decide +kernel, by decide +kernel⟩
set_option maxRecDepth 100000 in
theorem mp_149 : mP (11, yX11_check, cX11_check, 10, (some .int), 5, 128) := ⟨TB_at 1039 rfl rfl, rfl, iw_11, by decide +kernel, by decide +kernel, by decide +kernel⟩
set_option maxRecDepth 100000 in
theorem mp_150 : mP (11, yX11_ran, cX11_ran, 2, none, 0, 0) := ⟨TB_at 1051 rfl rfl, rfl, iw_11, by decide +kernel, by decide +kernel, by decide +kernel⟩
set_option maxRecDepth 100000 in
theorem mp_151 : mP (11, yX11_goesSteps, cX11_goesSteps, 3, (some .int), 1, 21) := ⟨TB_at 1055 rfl rfl, rfl, iw_11, by decide +kernel, by decide +kernel, by decide +kernel⟩
set_option maxRecDepth 100000 in
theorem mp_152 : mP (11, yX11_goes, cX11_goes, 3, (some .int), 2, 43) := ⟨TB_at 1047 rfl rfl, rfl, iw_11, by decide +kernel, by decide +kernel, by decide +kernel⟩
set_option maxRecDepth 100000 in
theorem mp_153 : mP (11, yX11_leadsSteps, cX11_leadsSteps, 3, (some .int), 3, 65) := ⟨TB_at 1063 rfl rfl, rfl, iw_11, by decide +kernel, by decide +kernel, by decide +kernel⟩
set_option maxRecDepth 100000 in
theorem mp_154 : mP (11, yX11_leads, cX11_leads, 3, (some .int), 4, 87) := ⟨TB_at 1059 rfl rfl, rfl, iw_11, by decide +kernel, by decide +kernel, by decide +kernel⟩
set_option maxRecDepth 100000 in
theorem mp_155 : mP (11, yX11_showsSteps, cX11_showsSteps, 4, (some .int), 5, 109) := ⟨TB_at 1071 rfl rfl, rfl, iw_11, by decide +kernel, by decide +kernel, by decide +kernel⟩
set_option maxRecDepth 100000 in
theorem mp_156 : mP (11, yX11_showsLoop, cX11_showsLoop, 3, (some .int), 6, 132) := ⟨TB_at 1075 rfl rfl, rfl, iw_11, by decide +kernel, by decide +kernel, by decide +kernel⟩
set_option maxRecDepth 100000 in
theorem mp_157 : mP (11, yX11_shows, cX11_shows, 4, (some .int), 7, 154) := ⟨TB_at 1067 rfl rfl, rfl, iw_11, by decide +kernel, by decide +kernel, by decide +kernel⟩
set_option maxRecDepth 100000 in
theorem mp_158 : mP (11, yX11_act, cX11_act, 4, (some .int), 8, 177) := ⟨TB_at 1043 rfl rfl, rfl, iw_11, by decide +kernel, by decide +kernel, by decide +kernel⟩
set_option maxRecDepth 100000 in
theorem mp_159 : mP (11, yX11_trace, cX11_trace, 2, (some .int), 0, 0) := ⟨TB_at 1079 rfl rfl, rfl, iw_11, by decide +kernel, by decide +kernel, by decide +kernel⟩
set_option maxRecDepth 100000 in
theorem mp_160 : mP (11, yX11_count, cX11_count, 2, (some .int), 0, 0) := ⟨TB_at 1083 rfl rfl, rfl, iw_11, by decide +kernel, by decide +kernel, by decide +kernel⟩
set_option maxRecDepth 100000 in
theorem mp_161 : mP (11, yX11_isSheet, cX11_isSheet, 1, (some .boolean), 0, 0) := ⟨TB_at 1090 rfl rfl, rfl, iw_11, by decide +kernel, by decide +kernel, by decide +kernel⟩
set_option maxRecDepth 100000 in
theorem mp_162 : mP (11, yX11_sheet, cX11_sheet, 5, (some .int), 1, 20) := ⟨TB_at 1087 rfl rfl, rfl, iw_11, by decide +kernel, by decide +kernel, by decide +kernel⟩
set_option maxRecDepth 100000 in
theorem mp_163 : mP (11, yX11_cell, cX11_cell, 4, (some .int), 1, 20) := ⟨TB_at 1094 rfl rfl, rfl, iw_11, by decide +kernel, by decide +kernel, by decide +kernel⟩
set_option maxRecDepth 100000 in
theorem mp_164 : mP (11, yX11_lay, cX11_lay, 9, (some .int), 1, 21) := ⟨TB_at 1098 rfl rfl, rfl, iw_11, by decide +kernel, by decide +kernel, by decide +kernel⟩
set_option maxRecDepth 100000 in
theorem mp_165 : mP (11, yX11_copy, cX11_copy, 7, (some .int), 1, 20) := ⟨TB_at 1104 rfl rfl, rfl, iw_11, by decide +kernel, by decide +kernel, by decide +kernel⟩
set_option maxRecDepth 100000 in
theorem mp_166 : mP (11, yX11_taken, cX11_taken, 4, (some .int), 1, 21) := ⟨TB_at 1108 rfl rfl, rfl, iw_11, by decide +kernel, by decide +kernel, by decide +kernel⟩
set_option maxRecDepth 100000 in
theorem mp_167 : mP (12, yJ6_bitCount_0f7a4, cJ6_bitCount_0f7a4, 1, (some .int), 0, 0) := ⟨TB_at 388 rfl rfl, rfl, iw_12, by decide +kernel, by decide +kernel, by decide +kernel⟩
theorem mpa_0 : ∀ q ∈ mtab_0, mP q := List.forall_mem_cons.mpr ⟨mp_0, List.forall_mem_cons.mpr ⟨mp_1, List.forall_mem_cons.mpr ⟨mp_2, List.forall_mem_cons.mpr ⟨mp_3, List.forall_mem_cons.mpr ⟨mp_4, List.forall_mem_cons.mpr ⟨mp_5, List.forall_mem_cons.mpr ⟨mp_6, List.forall_mem_cons.mpr ⟨mp_7, List.forall_mem_cons.mpr ⟨mp_8, List.forall_mem_cons.mpr ⟨mp_9, List.forall_mem_cons.mpr ⟨mp_10, List.forall_mem_cons.mpr ⟨mp_11, List.forall_mem_cons.mpr ⟨mp_12, List.forall_mem_cons.mpr ⟨mp_13, List.forall_mem_cons.mpr ⟨mp_14, List.forall_mem_cons.mpr ⟨mp_15, List.forall_mem_cons.mpr ⟨mp_16, List.forall_mem_cons.mpr ⟨mp_17, List.forall_mem_cons.mpr ⟨mp_18, List.forall_mem_cons.mpr ⟨mp_19, List.forall_mem_cons.mpr ⟨mp_20, List.forall_mem_cons.mpr ⟨mp_21, List.forall_mem_cons.mpr ⟨mp_22, List.forall_mem_cons.mpr ⟨mp_23, List.forall_mem_cons.mpr ⟨mp_24, List.forall_mem_cons.mpr ⟨mp_25, List.forall_mem_cons.mpr ⟨mp_26, List.forall_mem_cons.mpr ⟨mp_27, List.forall_mem_cons.mpr ⟨mp_28, List.forall_mem_cons.mpr ⟨mp_29, fun _ h => absurd h List.not_mem_nil⟩⟩⟩⟩⟩⟩⟩⟩⟩⟩⟩⟩⟩⟩⟩⟩⟩⟩⟩⟩⟩⟩⟩⟩⟩⟩⟩⟩⟩⟩
theorem mpa_1 : ∀ q ∈ mtab_1, mP q := List.forall_mem_cons.mpr ⟨mp_30, List.forall_mem_cons.mpr ⟨mp_31, List.forall_mem_cons.mpr ⟨mp_32, List.forall_mem_cons.mpr ⟨mp_33, List.forall_mem_cons.mpr ⟨mp_34, List.forall_mem_cons.mpr ⟨mp_35, List.forall_mem_cons.mpr ⟨mp_36, List.forall_mem_cons.mpr ⟨mp_37, List.forall_mem_cons.mpr ⟨mp_38, List.forall_mem_cons.mpr ⟨mp_39, List.forall_mem_cons.mpr ⟨mp_40, List.forall_mem_cons.mpr ⟨mp_41, List.forall_mem_cons.mpr ⟨mp_42, List.forall_mem_cons.mpr ⟨mp_43, List.forall_mem_cons.mpr ⟨mp_44, List.forall_mem_cons.mpr ⟨mp_45, List.forall_mem_cons.mpr ⟨mp_46, List.forall_mem_cons.mpr ⟨mp_47, List.forall_mem_cons.mpr ⟨mp_48, List.forall_mem_cons.mpr ⟨mp_49, List.forall_mem_cons.mpr ⟨mp_50, List.forall_mem_cons.mpr ⟨mp_51, List.forall_mem_cons.mpr ⟨mp_52, List.forall_mem_cons.mpr ⟨mp_53, List.forall_mem_cons.mpr ⟨mp_54, List.forall_mem_cons.mpr ⟨mp_55, List.forall_mem_cons.mpr ⟨mp_56, List.forall_mem_cons.mpr ⟨mp_57, List.forall_mem_cons.mpr ⟨mp_58, List.forall_mem_cons.mpr ⟨mp_59, fun _ h => absurd h List.not_mem_nil⟩⟩⟩⟩⟩⟩⟩⟩⟩⟩⟩⟩⟩⟩⟩⟩⟩⟩⟩⟩⟩⟩⟩⟩⟩⟩⟩⟩⟩⟩
theorem mpa_2 : ∀ q ∈ mtab_2, mP q := List.forall_mem_cons.mpr ⟨mp_60, List.forall_mem_cons.mpr ⟨mp_61, List.forall_mem_cons.mpr ⟨mp_62, List.forall_mem_cons.mpr ⟨mp_63, List.forall_mem_cons.mpr ⟨mp_64, List.forall_mem_cons.mpr ⟨mp_65, List.forall_mem_cons.mpr ⟨mp_66, List.forall_mem_cons.mpr ⟨mp_67, List.forall_mem_cons.mpr ⟨mp_68, List.forall_mem_cons.mpr ⟨mp_69, List.forall_mem_cons.mpr ⟨mp_70, List.forall_mem_cons.mpr ⟨mp_71, List.forall_mem_cons.mpr ⟨mp_72, List.forall_mem_cons.mpr ⟨mp_73, List.forall_mem_cons.mpr ⟨mp_74, List.forall_mem_cons.mpr ⟨mp_75, List.forall_mem_cons.mpr ⟨mp_76, List.forall_mem_cons.mpr ⟨mp_77, List.forall_mem_cons.mpr ⟨mp_78, List.forall_mem_cons.mpr ⟨mp_79, List.forall_mem_cons.mpr ⟨mp_80, List.forall_mem_cons.mpr ⟨mp_81, List.forall_mem_cons.mpr ⟨mp_82, List.forall_mem_cons.mpr ⟨mp_83, List.forall_mem_cons.mpr ⟨mp_84, List.forall_mem_cons.mpr ⟨mp_85, List.forall_mem_cons.mpr ⟨mp_86, List.forall_mem_cons.mpr ⟨mp_87, List.forall_mem_cons.mpr ⟨mp_88, List.forall_mem_cons.mpr ⟨mp_89, fun _ h => absurd h List.not_mem_nil⟩⟩⟩⟩⟩⟩⟩⟩⟩⟩⟩⟩⟩⟩⟩⟩⟩⟩⟩⟩⟩⟩⟩⟩⟩⟩⟩⟩⟩⟩
theorem mpa_3 : ∀ q ∈ mtab_3, mP q := List.forall_mem_cons.mpr ⟨mp_90, List.forall_mem_cons.mpr ⟨mp_91, List.forall_mem_cons.mpr ⟨mp_92, List.forall_mem_cons.mpr ⟨mp_93, List.forall_mem_cons.mpr ⟨mp_94, List.forall_mem_cons.mpr ⟨mp_95, List.forall_mem_cons.mpr ⟨mp_96, List.forall_mem_cons.mpr ⟨mp_97, List.forall_mem_cons.mpr ⟨mp_98, List.forall_mem_cons.mpr ⟨mp_99, List.forall_mem_cons.mpr ⟨mp_100, List.forall_mem_cons.mpr ⟨mp_101, List.forall_mem_cons.mpr ⟨mp_102, List.forall_mem_cons.mpr ⟨mp_103, List.forall_mem_cons.mpr ⟨mp_104, List.forall_mem_cons.mpr ⟨mp_105, List.forall_mem_cons.mpr ⟨mp_106, List.forall_mem_cons.mpr ⟨mp_107, List.forall_mem_cons.mpr ⟨mp_108, List.forall_mem_cons.mpr ⟨mp_109, List.forall_mem_cons.mpr ⟨mp_110, List.forall_mem_cons.mpr ⟨mp_111, List.forall_mem_cons.mpr ⟨mp_112, List.forall_mem_cons.mpr ⟨mp_113, List.forall_mem_cons.mpr ⟨mp_114, List.forall_mem_cons.mpr ⟨mp_115, List.forall_mem_cons.mpr ⟨mp_116, List.forall_mem_cons.mpr ⟨mp_117, List.forall_mem_cons.mpr ⟨mp_118, List.forall_mem_cons.mpr ⟨mp_119, fun _ h => absurd h List.not_mem_nil⟩⟩⟩⟩⟩⟩⟩⟩⟩⟩⟩⟩⟩⟩⟩⟩⟩⟩⟩⟩⟩⟩⟩⟩⟩⟩⟩⟩⟩⟩
theorem mpa_4 : ∀ q ∈ mtab_4, mP q := List.forall_mem_cons.mpr ⟨mp_120, List.forall_mem_cons.mpr ⟨mp_121, List.forall_mem_cons.mpr ⟨mp_122, List.forall_mem_cons.mpr ⟨mp_123, List.forall_mem_cons.mpr ⟨mp_124, List.forall_mem_cons.mpr ⟨mp_125, List.forall_mem_cons.mpr ⟨mp_126, List.forall_mem_cons.mpr ⟨mp_127, List.forall_mem_cons.mpr ⟨mp_128, List.forall_mem_cons.mpr ⟨mp_129, List.forall_mem_cons.mpr ⟨mp_130, List.forall_mem_cons.mpr ⟨mp_131, List.forall_mem_cons.mpr ⟨mp_132, List.forall_mem_cons.mpr ⟨mp_133, List.forall_mem_cons.mpr ⟨mp_134, List.forall_mem_cons.mpr ⟨mp_135, List.forall_mem_cons.mpr ⟨mp_136, List.forall_mem_cons.mpr ⟨mp_137, List.forall_mem_cons.mpr ⟨mp_138, List.forall_mem_cons.mpr ⟨mp_139, List.forall_mem_cons.mpr ⟨mp_140, List.forall_mem_cons.mpr ⟨mp_141, List.forall_mem_cons.mpr ⟨mp_142, List.forall_mem_cons.mpr ⟨mp_143, List.forall_mem_cons.mpr ⟨mp_144, List.forall_mem_cons.mpr ⟨mp_145, List.forall_mem_cons.mpr ⟨mp_146, List.forall_mem_cons.mpr ⟨mp_147, List.forall_mem_cons.mpr ⟨mp_148, List.forall_mem_cons.mpr ⟨mp_149, fun _ h => absurd h List.not_mem_nil⟩⟩⟩⟩⟩⟩⟩⟩⟩⟩⟩⟩⟩⟩⟩⟩⟩⟩⟩⟩⟩⟩⟩⟩⟩⟩⟩⟩⟩⟩
theorem mpa_5 : ∀ q ∈ mtab_5, mP q := List.forall_mem_cons.mpr ⟨mp_150, List.forall_mem_cons.mpr ⟨mp_151, List.forall_mem_cons.mpr ⟨mp_152, List.forall_mem_cons.mpr ⟨mp_153, List.forall_mem_cons.mpr ⟨mp_154, List.forall_mem_cons.mpr ⟨mp_155, List.forall_mem_cons.mpr ⟨mp_156, List.forall_mem_cons.mpr ⟨mp_157, List.forall_mem_cons.mpr ⟨mp_158, List.forall_mem_cons.mpr ⟨mp_159, List.forall_mem_cons.mpr ⟨mp_160, List.forall_mem_cons.mpr ⟨mp_161, List.forall_mem_cons.mpr ⟨mp_162, List.forall_mem_cons.mpr ⟨mp_163, List.forall_mem_cons.mpr ⟨mp_164, List.forall_mem_cons.mpr ⟨mp_165, List.forall_mem_cons.mpr ⟨mp_166, List.forall_mem_cons.mpr ⟨mp_167, fun _ h => absurd h List.not_mem_nil⟩⟩⟩⟩⟩⟩⟩⟩⟩⟩⟩⟩⟩⟩⟩⟩⟩⟩
theorem mpa : ∀ q ∈ mtab, mP q := List.forall_mem_append.mpr ⟨mpa_0, List.forall_mem_append.mpr ⟨mpa_1, List.forall_mem_append.mpr ⟨mpa_2, List.forall_mem_append.mpr ⟨mpa_3, List.forall_mem_append.mpr ⟨mpa_4, mpa_5⟩⟩⟩⟩⟩
def clN (c : Nat) : String := if c = 23 then "[[J" else match vwCl[c]? with | some r => r.1 | none => ""
def fOk1 (o idx s ty : Nat) (fin : Bool) (ref : String) (wd sf c : Nat) : Bool := match vwCl[c]? with
  | some r => decide (s < r.2.2) && isT wd (.fieldLink (ow o) idx ref (r.2.1 s).2.1 (r.2.1 s).2.2.1) && ((ref == (r.2.1 s).1) || isT sf (.sameField ref (r.2.1 s).1 (r.2.1 s).2.1 (r.2.1 s).2.2.1)) && (tyc c s == ty) && ((r.2.1 s).2.2.2 == fin) && (!fin || ref == (r.2.1 s).1 || sf != 0)
  | none => false
def fOk (o : Nat) (q : Nat × Nat × Nat × Nat × Bool × String × Nat × Nat) : Bool := (fam q.2.1).all (fOk1 o q.1 q.2.2.1 q.2.2.2.1 q.2.2.2.2.1 q.2.2.2.2.2.1 q.2.2.2.2.2.2.1 q.2.2.2.2.2.2.2)
set_option maxRecDepth 100000 in
theorem ftb_ok_0 : (ftb 0).all (fOk 0) = true := by decide +kernel
set_option maxRecDepth 100000 in
theorem ftb_ok_1 : (ftb 1).all (fOk 1) = true := by decide +kernel
set_option maxRecDepth 100000 in
theorem ftb_ok_2 : (ftb 2).all (fOk 2) = true := by decide +kernel
set_option maxRecDepth 100000 in
theorem ftb_ok_3 : (ftb 3).all (fOk 3) = true := by decide +kernel
set_option maxRecDepth 100000 in
theorem ftb_ok_4 : (ftb 4).all (fOk 4) = true := by decide +kernel
set_option maxRecDepth 100000 in
theorem ftb_ok_5 : (ftb 5).all (fOk 5) = true := by decide +kernel
set_option maxRecDepth 100000 in
theorem ftb_ok_6 : (ftb 6).all (fOk 6) = true := by decide +kernel
set_option maxRecDepth 100000 in
theorem ftb_ok_7 : (ftb 7).all (fOk 7) = true := by decide +kernel
set_option maxRecDepth 100000 in
theorem ftb_ok_8 : (ftb 8).all (fOk 8) = true := by decide +kernel
set_option maxRecDepth 100000 in
theorem ftb_ok_9 : (ftb 9).all (fOk 9) = true := by decide +kernel
set_option maxRecDepth 100000 in
theorem ftb_ok_10 : (ftb 10).all (fOk 10) = true := by decide +kernel
set_option maxRecDepth 100000 in
theorem ftb_ok_11 : (ftb 11).all (fOk 11) = true := by decide +kernel
set_option maxRecDepth 100000 in
theorem ftb_ok_12 : (ftb 12).all (fOk 12) = true := by decide +kernel
theorem ftb_ok : ∀ o : Nat, (ftb o).all (fOk o) = true
  | 0 => ftb_ok_0
  | 1 => ftb_ok_1
  | 2 => ftb_ok_2
  | 3 => ftb_ok_3
  | 4 => ftb_ok_4
  | 5 => ftb_ok_5
  | 6 => ftb_ok_6
  | 7 => ftb_ok_7
  | 8 => ftb_ok_8
  | 9 => ftb_ok_9
  | 10 => ftb_ok_10
  | 11 => ftb_ok_11
  | 12 => ftb_ok_12
  | _ + 13 => rfl
def cOk (o : Nat) (q : Nat × Nat × Nat) : Bool := isT q.2.2 (.classLink (ow o) q.1 (clN q.2.1))
set_option maxRecDepth 100000 in
theorem ctb_ok_0 : (ctb 0).all (cOk 0) = true := by decide +kernel
set_option maxRecDepth 100000 in
theorem ctb_ok_1 : (ctb 1).all (cOk 1) = true := by decide +kernel
set_option maxRecDepth 100000 in
theorem ctb_ok_2 : (ctb 2).all (cOk 2) = true := by decide +kernel
set_option maxRecDepth 100000 in
theorem ctb_ok_3 : (ctb 3).all (cOk 3) = true := by decide +kernel
set_option maxRecDepth 100000 in
theorem ctb_ok_4 : (ctb 4).all (cOk 4) = true := by decide +kernel
set_option maxRecDepth 100000 in
theorem ctb_ok_5 : (ctb 5).all (cOk 5) = true := by decide +kernel
set_option maxRecDepth 100000 in
theorem ctb_ok_6 : (ctb 6).all (cOk 6) = true := by decide +kernel
set_option maxRecDepth 100000 in
theorem ctb_ok_7 : (ctb 7).all (cOk 7) = true := by decide +kernel
set_option maxRecDepth 100000 in
theorem ctb_ok_8 : (ctb 8).all (cOk 8) = true := by decide +kernel
set_option maxRecDepth 100000 in
theorem ctb_ok_9 : (ctb 9).all (cOk 9) = true := by decide +kernel
set_option maxRecDepth 100000 in
theorem ctb_ok_10 : (ctb 10).all (cOk 10) = true := by decide +kernel
set_option maxRecDepth 100000 in
theorem ctb_ok_11 : (ctb 11).all (cOk 11) = true := by decide +kernel
set_option maxRecDepth 100000 in
theorem ctb_ok_12 : (ctb 12).all (cOk 12) = true := by decide +kernel
theorem ctb_ok : ∀ o : Nat, (ctb o).all (cOk o) = true
  | 0 => ctb_ok_0
  | 1 => ctb_ok_1
  | 2 => ctb_ok_2
  | 3 => ctb_ok_3
  | 4 => ctb_ok_4
  | 5 => ctb_ok_5
  | 6 => ctb_ok_6
  | 7 => ctb_ok_7
  | 8 => ctb_ok_8
  | 9 => ctb_ok_9
  | 10 => ctb_ok_10
  | 11 => ctb_ok_11
  | 12 => ctb_ok_12
  | _ + 13 => rfl
def lOk (o : Nat) (q : Nat × Int64 × Nat) : Bool := isT q.2.2 (.constantLong (ow o) q.1 q.2.1)
set_option maxRecDepth 100000 in
theorem ltb_ok_0 : (ltb 0).all (lOk 0) = true := by decide +kernel
set_option maxRecDepth 100000 in
theorem ltb_ok_1 : (ltb 1).all (lOk 1) = true := by decide +kernel
set_option maxRecDepth 100000 in
theorem ltb_ok_2 : (ltb 2).all (lOk 2) = true := by decide +kernel
set_option maxRecDepth 100000 in
theorem ltb_ok_3 : (ltb 3).all (lOk 3) = true := by decide +kernel
set_option maxRecDepth 100000 in
theorem ltb_ok_4 : (ltb 4).all (lOk 4) = true := by decide +kernel
set_option maxRecDepth 100000 in
theorem ltb_ok_5 : (ltb 5).all (lOk 5) = true := by decide +kernel
set_option maxRecDepth 100000 in
theorem ltb_ok_6 : (ltb 6).all (lOk 6) = true := by decide +kernel
set_option maxRecDepth 100000 in
theorem ltb_ok_7 : (ltb 7).all (lOk 7) = true := by decide +kernel
set_option maxRecDepth 100000 in
theorem ltb_ok_8 : (ltb 8).all (lOk 8) = true := by decide +kernel
set_option maxRecDepth 100000 in
theorem ltb_ok_9 : (ltb 9).all (lOk 9) = true := by decide +kernel
set_option maxRecDepth 100000 in
theorem ltb_ok_10 : (ltb 10).all (lOk 10) = true := by decide +kernel
set_option maxRecDepth 100000 in
theorem ltb_ok_11 : (ltb 11).all (lOk 11) = true := by decide +kernel
set_option maxRecDepth 100000 in
theorem ltb_ok_12 : (ltb 12).all (lOk 12) = true := by decide +kernel
theorem ltb_ok : ∀ o : Nat, (ltb o).all (lOk o) = true
  | 0 => ltb_ok_0
  | 1 => ltb_ok_1
  | 2 => ltb_ok_2
  | 3 => ltb_ok_3
  | 4 => ltb_ok_4
  | 5 => ltb_ok_5
  | 6 => ltb_ok_6
  | 7 => ltb_ok_7
  | 8 => ltb_ok_8
  | 9 => ltb_ok_9
  | 10 => ltb_ok_10
  | 11 => ltb_ok_11
  | 12 => ltb_ok_12
  | _ + 13 => rfl
def iOk (o : Nat) (q : Nat × Int32 × Nat) : Bool := isT q.2.2 (.constant (ow o) q.1 q.2.1)
set_option maxRecDepth 100000 in
theorem itb_ok_0 : (itb 0).all (iOk 0) = true := by decide +kernel
set_option maxRecDepth 100000 in
theorem itb_ok_1 : (itb 1).all (iOk 1) = true := by decide +kernel
set_option maxRecDepth 100000 in
theorem itb_ok_2 : (itb 2).all (iOk 2) = true := by decide +kernel
set_option maxRecDepth 100000 in
theorem itb_ok_3 : (itb 3).all (iOk 3) = true := by decide +kernel
set_option maxRecDepth 100000 in
theorem itb_ok_4 : (itb 4).all (iOk 4) = true := by decide +kernel
set_option maxRecDepth 100000 in
theorem itb_ok_5 : (itb 5).all (iOk 5) = true := by decide +kernel
set_option maxRecDepth 100000 in
theorem itb_ok_6 : (itb 6).all (iOk 6) = true := by decide +kernel
set_option maxRecDepth 100000 in
theorem itb_ok_7 : (itb 7).all (iOk 7) = true := by decide +kernel
set_option maxRecDepth 100000 in
theorem itb_ok_8 : (itb 8).all (iOk 8) = true := by decide +kernel
set_option maxRecDepth 100000 in
theorem itb_ok_9 : (itb 9).all (iOk 9) = true := by decide +kernel
set_option maxRecDepth 100000 in
theorem itb_ok_10 : (itb 10).all (iOk 10) = true := by decide +kernel
set_option maxRecDepth 100000 in
theorem itb_ok_11 : (itb 11).all (iOk 11) = true := by decide +kernel
set_option maxRecDepth 100000 in
theorem itb_ok_12 : (itb 12).all (iOk 12) = true := by decide +kernel
theorem itb_ok : ∀ o : Nat, (itb o).all (iOk o) = true
  | 0 => itb_ok_0
  | 1 => itb_ok_1
  | 2 => itb_ok_2
  | 3 => itb_ok_3
  | 4 => itb_ok_4
  | 5 => itb_ok_5
  | 6 => itb_ok_6
  | 7 => itb_ok_7
  | 8 => itb_ok_8
  | 9 => itb_ok_9
  | 10 => itb_ok_10
  | 11 => itb_ok_11
  | 12 => itb_ok_12
  | _ + 13 => rfl
def nwN : List Cond := [.methodLinkNest "SteerBench" 31 ⟨"SteerBench$Trace", "<init>", "()V"⟩ "SteerBench", .methodLinkNest "SteerBench" 44 ⟨"SteerBench$Look", "<init>", "()V"⟩ "SteerBench", .methodLinkNest "SteerBench" 54 ⟨"SteerBench$Energy", "<init>", "()V"⟩ "SteerBench", .methodLinkNest "SteerBench" 61 ⟨"SteerBench$Fraction", "<init>", "()V"⟩ "SteerBench", .methodLinkNest "SteerBench$Look" 104 ⟨"SteerBench", "power", "(II)J"⟩ "SteerBench"]
def nwC : List (String × String) := [("SteerBench$Part", "SteerBench$Loop"), ("SteerBench$Flow", "SteerBench$Steps"), ("SteerBench$Loop", "SteerBench$Steps"), ("SteerBench$Part", "SteerBench$Steps")]
def ncL : List (String × String) := [("SteerBench$Steps", "SteerBench$Loop"), ("SteerBench$Flow", "SteerBench$Loop"), ("SteerBench$Steps", "SteerBench$Flow"), ("SteerBench$Loop", "SteerBench$Flow"), ("SteerBench$Part", "SteerBench$Flow"), ("SteerBench$Steps", "SteerBench$Part"), ("SteerBench$Flow", "SteerBench$Part"), ("SteerBench$Loop", "SteerBench$Part")]
def npr (d : String) : Option Nat := (parseMethodDescriptor d).map (fun d => d.parameters.length)
def vOk (o : Nat) (q : Nat × Nat × Nat × MethodName × String × List (Nat × Nat × List Nat) × List Nat) : Bool := match q with
  | (idx, kd, na, x, owner, al, ws) =>
    if kd = 0 then isT (ws.getD 0 0) (.methodLink (ow o) idx x) && isT (ws.getD 1 0) (.static x) && al.all (fun a => decide (mNm a.2.1 = x)) && decide (npr x.desc = some na)
    else if kd = 1 then isT (ws.getD 0 0) (.methodLink (ow o) idx x) && isT (ws.getD 1 0) (.instanceMethod x) && al.all (fun a => decide (mNm a.2.1 = x) && decide (mRt a.2.1 = none)) && decide (npr x.desc = some na) && (x.name == "<init>")
    else if kd = 2 then isT (ws.getD 0 0) (.methodLink (ow o) idx x) && isT (ws.getD 1 0) (.instanceMethod x) && isT (ws.getD 2 0) (.selects x.cls x x) && al.all (fun a => decide (mNm a.2.1 = x) && (clN (a.1 - 1) == x.cls) && decide (0 < a.1) && decide (a.1 < 12)) && decide (npr x.desc = some na)
    else if kd = 3 then isT (ws.getD 0 0) (.methodLink (ow o) idx x) && isT (ws.getD 1 0) (.sameMethod x.cls owner x.name x.desc) && isT (ws.getD 2 0) (.instanceMethod ⟨owner, x.name, x.desc⟩) && decide (mNm (ws.getD 3 0) = ⟨owner, x.name, x.desc⟩) && decide (ws.getD 3 0 < 168) && al.all (fun a => isT (a.2.2.getD 0 0) (.selects (clN (a.1 - 1)) x (mNm a.2.1)) && isT (a.2.2.getD 1 0) (.instanceMethod (mNm a.2.1)) && decide (0 < a.1) && decide (a.1 < 12)) && decide (npr x.desc = some na) && (owner != "java/lang/invoke/MethodHandle") && (owner != "java/lang/invoke/VarHandle")
    else if kd = 4 then isT (ws.getD 0 0) (.methodLink (ow o) idx x) && isT (ws.getD 1 0) (.sameMethod x.cls x.cls x.name x.desc) && isT (ws.getD 2 0) (.superclass (ow o) x.cls) && isT (ws.getD 3 0) (.instanceMethod x) && al.all (fun a => decide (mNm a.2.1 = x)) && decide (npr x.desc = some na) && (x.name != "<init>")
    else if kd = 5 then isT (ws.getD 0 0) (.methodLink (ow o) idx Lib.objectInit) && isT (ws.getD 1 0) (.instanceMethod Lib.objectInit) && isT (ws.getD 2 0) (.code Lib.objectInit ⟨#[0xb1]⟩ 1 none) && decide (na = 0)
    else if kd = 6 then isT (ws.getD 0 0) (.methodLink (ow o) idx arraycopyName) && isT (ws.getD 1 0) (.native arraycopyName) && isT (ws.getD 2 0) (.static arraycopyName) && isT (ws.getD 3 0) (.initialized "java/lang/System")
    else if kd = 7 then decide (Cond.methodLinkNest (ow o) idx x "SteerBench" ∈ nwN) && isT (ws.getD 1 0) (.static x) && al.all (fun a => decide (mNm a.2.1 = x)) && decide (npr x.desc = some na)
    else if kd = 8 then decide (Cond.methodLinkNest (ow o) idx x "SteerBench" ∈ nwN) && isT (ws.getD 1 0) (.instanceMethod x) && al.all (fun a => decide (mNm a.2.1 = x) && decide (mRt a.2.1 = none)) && decide (npr x.desc = some na) && (x.name == "<init>")
    else if kd = 9 then isT (ws.getD 0 0) (.methodLink (ow o) idx x) && isT (ws.getD 1 0) (.sameMethod x.cls owner x.name x.desc) && isT (ws.getD 2 0) (.superclass (ow o) x.cls) && isT (ws.getD 3 0) (.superclass x.cls owner) && isT (ws.getD 4 0) (.instanceMethod ⟨owner, x.name, x.desc⟩) && al.all (fun a => decide (mNm a.2.1 = ⟨owner, x.name, x.desc⟩)) && decide (npr x.desc = some na) && (x.name != "<init>")
    else if kd = 10 then isT (ws.getD 0 0) (.methodLink (ow o) idx Lib.Math.max.name) && isT (ws.getD 1 0) (.static Lib.Math.max.name) && isT (ws.getD 2 0) (.initialized "java/lang/Math") && isT (ws.getD 3 0) (.code Lib.Math.max.name Lib.Math.max.code 2 (some .int))
    else if kd = 11 then isT (ws.getD 0 0) (.methodLink (ow o) idx Lib.Math.min.name) && isT (ws.getD 1 0) (.static Lib.Math.min.name) && isT (ws.getD 2 0) (.initialized "java/lang/Math") && isT (ws.getD 3 0) (.code Lib.Math.min.name Lib.Math.min.code 2 (some .int))
    else if kd = 12 then isT (ws.getD 0 0) (.methodLink (ow o) idx Lib.MathLoose.abs_long.x) && isT (ws.getD 1 0) (.static Lib.MathLoose.abs_long.x) && isT (ws.getD 2 0) (.initialized "java/lang/Math") && isT (ws.getD 3 0) (.code Lib.MathLoose.abs_long.x Lib.MathLoose.abs_long.code 2 (some .long))
    else false
set_option maxRecDepth 100000 in
theorem vtb_ok_0 : (vtb 0).all (vOk 0) = true := by decide +kernel
set_option maxRecDepth 100000 in
theorem vtb_ok_1 : (vtb 1).all (vOk 1) = true := by decide +kernel
set_option maxRecDepth 100000 in
theorem vtb_ok_2 : (vtb 2).all (vOk 2) = true := by decide +kernel
set_option maxRecDepth 100000 in
theorem vtb_ok_3 : (vtb 3).all (vOk 3) = true := by decide +kernel
set_option maxRecDepth 100000 in
theorem vtb_ok_4 : (vtb 4).all (vOk 4) = true := by decide +kernel
set_option maxRecDepth 100000 in
theorem vtb_ok_5 : (vtb 5).all (vOk 5) = true := by decide +kernel
set_option maxRecDepth 100000 in
theorem vtb_ok_6 : (vtb 6).all (vOk 6) = true := by decide +kernel
set_option maxRecDepth 100000 in
theorem vtb_ok_7 : (vtb 7).all (vOk 7) = true := by decide +kernel
set_option maxRecDepth 100000 in
theorem vtb_ok_8 : (vtb 8).all (vOk 8) = true := by decide +kernel
set_option maxRecDepth 100000 in
theorem vtb_ok_9 : (vtb 9).all (vOk 9) = true := by decide +kernel
set_option maxRecDepth 100000 in
theorem vtb_ok_10 : (vtb 10).all (vOk 10) = true := by decide +kernel
set_option maxRecDepth 100000 in
theorem vtb_ok_11 : (vtb 11).all (vOk 11) = true := by decide +kernel
set_option maxRecDepth 100000 in
theorem vtb_ok_12 : (vtb 12).all (vOk 12) = true := by decide +kernel
theorem vtb_ok : ∀ o : Nat, (vtb o).all (vOk o) = true
  | 0 => vtb_ok_0
  | 1 => vtb_ok_1
  | 2 => vtb_ok_2
  | 3 => vtb_ok_3
  | 4 => vtb_ok_4
  | 5 => vtb_ok_5
  | 6 => vtb_ok_6
  | 7 => vtb_ok_7
  | 8 => vtb_ok_8
  | 9 => vtb_ok_9
  | 10 => vtb_ok_10
  | 11 => vtb_ok_11
  | 12 => vtb_ok_12
  | _ + 13 => rfl
def clP (c : Nat) (r : vw_C) : Prop := (∀ w ∈ u_ws r.1 r.2.1 r.2.2, w ∈ TB) ∧ (∀ k, k < r.2.2 → parseFieldDescriptor (r.2.1 k).2.2.1 = some ((tyF.getD c (fun _ => .int)) k)) ∧ (∀ a, a < r.2.2 → ∀ b, b < r.2.2 → a ≠ b → (r.2.1 a).2.1 ≠ (r.2.1 b).2.1) ∧ Cond.instantiable r.1 r.2.2 ∈ TB ∧ Cond.initialized r.1 ∈ TB
theorem zip_all : ∀ (is : List Nat) (ws : List Cond), is.length = ws.length → (is.zip ws).all (fun q => isT q.1 q.2) = true → ∀ w ∈ ws, w ∈ TB
  | [], [], _, _, w, h => by cases h
  | i :: is, v :: ws, hl, ha, w, h => by
    simp only [List.zip_cons_cons, List.all_cons, Bool.and_eq_true] at ha
    rcases List.mem_cons.mp h with h | h
    · rw [h]; exact isT_TB ha.1
    · exact zip_all is ws (by simpa using hl) ha.2 w h
set_option maxRecDepth 100000 in
theorem clp_0 : clP 0 (RX0, TX0, 6) := ⟨zip_all [221, 223, 225, 227, 229, 231] _ rfl (by decide +kernel), tyX0_ok, nmX0, TB_at 208 (by decide +kernel) rfl, TB_at 57 (by decide +kernel) rfl⟩
set_option maxRecDepth 100000 in
theorem clp_1 : clP 1 (RX1, TX1, 7) := ⟨zip_all [300, 301, 302, 303, 304, 305, 306] _ rfl (by decide +kernel), tyX1_ok, nmX1, TB_at 295 (by decide +kernel) rfl, TB_at 60 (by decide +kernel) rfl⟩
set_option maxRecDepth 100000 in
theorem clp_2 : clP 2 (RX2, TX2, 2) := ⟨zip_all [244, 246] _ rfl (by decide +kernel), tyX2_ok, nmX2, TB_at 235 (by decide +kernel) rfl, TB_at 58 (by decide +kernel) rfl⟩
set_option maxRecDepth 100000 in
theorem clp_3 : clP 3 (RX3, TX3, 9) := ⟨zip_all [188, 190, 192, 194, 196, 198, 200, 202, 204] _ rfl (by decide +kernel), tyX3_ok, nmX3, TB_at 106 (by decide +kernel) rfl, TB_at 55 (by decide +kernel) rfl⟩
set_option maxRecDepth 100000 in
theorem clp_4 : clP 4 (RX4, TX4, 7) := ⟨zip_all [346, 347, 348, 349, 350, 351, 352] _ rfl (by decide +kernel), tyX4_ok, nmX4, TB_at 341 (by decide +kernel) rfl, TB_at 61 (by decide +kernel) rfl⟩
set_option maxRecDepth 100000 in
theorem clp_5 : clP 5 (RX6, TX6, 7) := ⟨zip_all [396, 397, 398, 399, 400, 401, 402] _ rfl (by decide +kernel), tyX6_ok, nmX6, TB_at 385 (by decide +kernel) rfl, TB_at 63 (by decide +kernel) rfl⟩
set_option maxRecDepth 100000 in
theorem clp_6 : clP 6 (RX7, TX7, 2) := ⟨zip_all [720, 722] _ rfl (by decide +kernel), tyX7_ok, nmX7, TB_at 710 (by decide +kernel) rfl, TB_at 67 (by decide +kernel) rfl⟩
set_option maxRecDepth 100000 in
theorem clp_7 : clP 7 (RX8, TX8, 7) := ⟨zip_all [161, 163, 165, 167, 169, 171, 173] _ rfl (by decide +kernel), tyX8_ok, nmX8, TB_at 112 (by decide +kernel) rfl, TB_at 56 (by decide +kernel) rfl⟩
set_option maxRecDepth 100000 in
theorem clp_8 : clP 8 (RX9, TX9, 2) := ⟨zip_all [96, 98] _ rfl (by decide +kernel), tyX9_ok, nmX9, TB_at 79 (by decide +kernel) rfl, TB_at 54 (by decide +kernel) rfl⟩
set_option maxRecDepth 100000 in
theorem clp_9 : clP 9 (RX10, TX10, 11) := ⟨zip_all [260, 262, 264, 266, 268, 270, 272, 274, 276, 278, 280] _ rfl (by decide +kernel), tyX10_ok, nmX10, TB_at 69 (by decide +kernel) rfl, TB_at 53 (by decide +kernel) rfl⟩
set_option maxRecDepth 100000 in
theorem clp_10 : clP 10 (RX11, TX11, 30) := ⟨zip_all [787, 789, 791, 793, 795, 797, 799, 801, 803, 805, 807, 809, 811, 813, 815, 817, 819, 821, 823, 825, 827, 829, 831, 833, 835, 837, 839, 841, 843, 845] _ rfl (by decide +kernel), tyX11_ok, nmX11, TB_at 752 (by decide +kernel) rfl, TB_at 59 (by decide +kernel) rfl⟩
theorem clp : ∀ (c : Nat) (r : vw_C), vwCl[c]? = some r → clP c r
  | 0, _, h => by cases h; exact clp_0
  | 1, _, h => by cases h; exact clp_1
  | 2, _, h => by cases h; exact clp_2
  | 3, _, h => by cases h; exact clp_3
  | 4, _, h => by cases h; exact clp_4
  | 5, _, h => by cases h; exact clp_5
  | 6, _, h => by cases h; exact clp_6
  | 7, _, h => by cases h; exact clp_7
  | 8, _, h => by cases h; exact clp_8
  | 9, _, h => by cases h; exact clp_9
  | 10, _, h => by cases h; exact clp_10
  | _ + 11, _, h => by simp [vwCl] at h
