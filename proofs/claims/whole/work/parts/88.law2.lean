/-! the law -/
abbrev lawL (base b n : Nat) : List (Nat × Value) := [(3, .int (nI (7 * n))), (2, .ref (base + 73)), (1, .ref (base + 0)), (0, .ref b)]
theorem lw_push {p : Program} {l : Launch} {e : Env} {s : State} {m : MethodId} {below : List Frame} {meth : Method} {c : Code} {b L : Nat} {xs : Nat → Int32} (C0 : lw_At p s m meth c b L xs) (hL : L ≤ 3584) {n k pc : Nat} {kI : Int} {lsC : Array Slot} {H : Heap} {locs : List Loc} {cells slots : Nat} {Q : State → Prop} {rest : List Value} (hS : va_S (fun q => s.heap.size ≤ q) s.heap H locs) (hl : lv_has lsC 4 (lawL s.heap.size b n)) (hk : 7 * n + k < L) (d0 : decode code pc = .ok (.aload_n 0, 1)) (d1 : decode code (pc + 1) = .ok (.iload_n 3, 1)) (d2 : decode code (pc + 2) = .ok (.iconst kI, 1)) (ek : Int32.ofInt kI = nI k) (d3 : decode code (pc + 3) = .ok (.iadd, 1)) (d4 : decode code (pc + 4) = .ok (.iaload, 1)) (kk : W p l e room_1 s m #[Value.ref b] below meth c H locs cells slots Q (F0 m (pc + 5) lsC (.int (xs (7 * n + k)) :: rest))) : W p l e room_1 s m #[Value.ref b] below meth c H locs cells slots Q (F0 m pc lsC rest) := by
  obtain ⟨hx, hb, -, -, -, -, hX, hbl, -, -⟩ := C0
  refine lv_aload_n hx hb d0 rfl (lv_at hl 3 rfl) ?_
  refine lv_iload_n hx hb d1 rfl (lv_at hl 0 rfl) ?_
  refine lv_iconst hx hb d2 ek ?_
  refine lv_iadd hx hb d3 ?_
  rw [nI_add]
  refine va_sld hx hb hX hbl (Nat.not_le.mpr hbl) hS (nI_in hk (by omega)) d4 ?_
  rw [nI_clamp (by omega)]
  exact kk
theorem lw_push6 {p : Program} {l : Launch} {e : Env} {s : State} {m : MethodId} {below : List Frame} {meth : Method} {c : Code} {b L : Nat} {xs : Nat → Int32} (C0 : lw_At p s m meth c b L xs) (hL : L ≤ 3584) {n k pc : Nat} {kI : Int} {lsC : Array Slot} {H : Heap} {locs : List Loc} {cells slots : Nat} {Q : State → Prop} {rest : List Value} (hS : va_S (fun q => s.heap.size ≤ q) s.heap H locs) (hl : lv_has lsC 4 (lawL s.heap.size b n)) (hk : 7 * n + k < L) (d0 : decode code pc = .ok (.aload_n 0, 1)) (d1 : decode code (pc + 1) = .ok (.iload_n 3, 1)) (d2 : decode code (pc + 2) = .ok (.bipush kI, 2)) (ek : (Int8.ofInt kI).toInt32 = nI k) (d3 : decode code (pc + 4) = .ok (.iadd, 1)) (d4 : decode code (pc + 5) = .ok (.iaload, 1)) (kk : W p l e room_1 s m #[Value.ref b] below meth c H locs cells slots Q (F0 m (pc + 6) lsC (.int (xs (7 * n + k)) :: rest))) : W p l e room_1 s m #[Value.ref b] below meth c H locs cells slots Q (F0 m pc lsC rest) := by
  obtain ⟨hx, hb, -, -, -, -, hX, hbl, -, -⟩ := C0
  refine lv_aload_n hx hb d0 rfl (lv_at hl 3 rfl) ?_
  refine lv_iload_n hx hb d1 rfl (lv_at hl 0 rfl) ?_
  refine lv_bipush hx hb d2 ek ?_
  refine lv_iadd hx hb d3 ?_
  rw [nI_add]
  refine va_sld hx hb hX hbl (Nat.not_le.mpr hbl) hS (nI_in hk (by omega)) d4 ?_
  rw [nI_clamp (by omega)]
  exact kk
def lcOK (a b c z k n : Nat) : Bool := isT a (.methodLink R_law z (mNm k)) && isT b (.instanceMethod (mNm k)) && isT c (.selects (mNm k).cls (mNm k) (mNm k)) && decide (k < 168) && decide (npr (mNm k).desc = some n) && decide (mFr k + 1 ≤ 11 ∧ 8 + (mxl k + 11) + mLo k ≤ 406)
theorem lcOK_of {a b c z k n : Nat} (h : lcOK a b c z k n = true) : k < 168 ∧ (Cond.methodLink R_law z (mNm k) ∈ TB ∧ Cond.instanceMethod (mNm k) ∈ TB ∧ Cond.selects (mNm k).cls (mNm k) (mNm k) ∈ TB) ∧ npr (mNm k).desc = some n ∧ (mFr k + 1 ≤ 11 ∧ 8 + (mxl k + 11) + mLo k ≤ 406) := by
  unfold lcOK at h
  simp only [Bool.and_eq_true, decide_eq_true_eq] at h
  obtain ⟨⟨⟨⟨⟨h1, h2⟩, h3⟩, h4⟩, h5⟩, h6⟩ := h
  exact ⟨h4, ⟨isT_TB h1, isT_TB h2, isT_TB h3⟩, h5, h6⟩
theorem lc_13 : lcOK 283 284 285 13 59 3 = true := by decide +kernel
theorem lc_17 : lcOK 848 849 850 17 109 3 = true := by decide +kernel
theorem lc_18 : lcOK 313 314 315 18 60 5 = true := by decide +kernel
theorem lc_22 : lcOK 856 857 858 22 112 5 = true := by decide +kernel
theorem lc_23 : lcOK 333 334 335 23 61 2 = true := by decide +kernel
theorem lc_27 : lcOK 881 882 883 27 117 2 = true := by decide +kernel
theorem lc_28 : lcOK 372 373 374 28 62 2 = true := by decide +kernel
theorem lc_31 : lcOK 896 897 898 31 118 2 = true := by decide +kernel
theorem lc_32 : lcOK 376 377 378 32 63 2 = true := by decide +kernel
theorem lc_35 : lcOK 900 901 902 35 119 2 = true := by decide +kernel
theorem lc_36 : lcOK 380 381 382 36 64 2 = true := by decide +kernel
theorem lc_39 : lcOK 904 905 906 39 120 2 = true := by decide +kernel
theorem lc_40 : lcOK 407 408 409 40 65 0 = true := by decide +kernel
theorem lc_44 : lcOK 908 909 910 44 121 0 = true := by decide +kernel
theorem lc_45 : lcOK 411 412 413 45 66 2 = true := by decide +kernel
theorem lc_48 : lcOK 912 913 914 48 133 2 = true := by decide +kernel
theorem lc_49 : lcOK 535 536 537 49 67 4 = true := by decide +kernel
theorem lc_53 : lcOK 876 877 878 53 113 4 = true := by decide +kernel
theorem lc_54 : lcOK 540 541 542 54 68 3 = true := by decide +kernel
theorem lc_58 : lcOK 976 977 978 58 134 3 = true := by decide +kernel
theorem lc_59 : lcOK 549 550 551 59 69 3 = true := by decide +kernel
theorem lc_62 : lcOK 981 982 983 62 136 3 = true := by decide +kernel
theorem lc_63 : lcOK 569 570 571 63 70 4 = true := by decide +kernel
theorem lc_67 : lcOK 996 997 998 67 137 4 = true := by decide +kernel
theorem lc_68 : lcOK 578 579 580 68 71 2 = true := by decide +kernel
theorem lc_71 : lcOK 1001 1002 1003 71 138 2 = true := by decide +kernel
theorem lc_72 : lcOK 586 587 588 72 72 6 = true := by decide +kernel
theorem lc_76 : lcOK 1005 1006 1007 76 140 6 = true := by decide +kernel
theorem lc_77 : lcOK 601 602 603 77 73 4 = true := by decide +kernel
theorem lc_80 : lcOK 1009 1010 1011 80 141 4 = true := by decide +kernel
theorem lc_81 : lcOK 609 610 611 81 74 4 = true := by decide +kernel
theorem lc_84 : lcOK 1013 1014 1015 84 144 4 = true := by decide +kernel
theorem lc_85 : lcOK 618 619 620 85 75 1 = true := by decide +kernel
theorem lc_89 : lcOK 1017 1018 1019 89 146 1 = true := by decide +kernel
theorem lc_90 : lcOK 626 627 628 90 76 1 = true := by decide +kernel
theorem lc_94 : lcOK 1026 1027 1028 94 147 1 = true := by decide +kernel
theorem lc_97 : lcOK 630 631 632 97 77 2 = true := by decide +kernel
theorem lc_101 : lcOK 1030 1031 1032 101 148 2 = true := by decide +kernel
theorem lc_102 : lcOK 636 637 638 102 78 1 = true := by decide +kernel
theorem lc_105 : lcOK 1036 1037 1038 105 149 1 = true := by decide +kernel
theorem lc_106 : lcOK 644 645 646 106 79 3 = true := by decide +kernel
theorem lc_109 : lcOK 1040 1041 1042 109 158 3 = true := by decide +kernel
theorem lc_110 : lcOK 695 696 697 110 80 1 = true := by decide +kernel
theorem lc_113 : lcOK 1076 1077 1078 113 159 1 = true := by decide +kernel
theorem lc_114 : lcOK 699 700 701 114 81 1 = true := by decide +kernel
theorem lc_117 : lcOK 1080 1081 1082 117 160 1 = true := by decide +kernel
theorem lc_118 : lcOK 703 704 705 118 82 3 = true := by decide +kernel
theorem lc_121 : lcOK 1084 1085 1086 121 162 3 = true := by decide +kernel
theorem lc_122 : lcOK 725 726 727 122 83 3 = true := by decide +kernel
theorem lc_125 : lcOK 1091 1092 1093 125 163 3 = true := by decide +kernel
theorem lc_126 : lcOK 729 730 731 126 84 4 = true := by decide +kernel
theorem lc_129 : lcOK 1095 1096 1097 129 164 4 = true := by decide +kernel
theorem lc_130 : lcOK 739 740 741 130 85 5 = true := by decide +kernel
theorem lc_133 : lcOK 1101 1102 1103 133 165 5 = true := by decide +kernel
theorem lc_134 : lcOK 744 745 746 134 86 2 = true := by decide +kernel
theorem lc_137 : lcOK 1105 1106 1107 137 166 2 = true := by decide +kernel
