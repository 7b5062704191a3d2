theorem and31 (y : Int32) : ∃ z, z < 32 ∧ (y &&& 31) = nI z := pk_andE y 5 rfl
set_option maxRecDepth 100000 in
set_option maxHeartbeats 4000000 in
theorem law_loop {D : va_G} {dA : Nat → ClassId} {p : Program} {l : Launch} {e : Env} {s : State} {m : MethodId} {below : List Frame} {meth : Method} {c : Code} {b L : Nat} {xs : Nat → Int32} (C0 : lw_At p s m meth c b L xs) (hst : Stt D dA s) (hL : L ≤ 3584) : ∀ (d n : Nat) (h : Hp) (H : Heap) (locs : List Loc) (lsC : Array Slot), L ≤ 7 * n + 7 * d → n ≤ 513 → HR D dA s.heap.size h H → Inv h → h.1 ≤ 98 + 5 * n → h.2.1 ≤ 2000 + 42 * n → va_S (fun q => s.heap.size ≤ q) s.heap H locs → lv_has lsC 4 (lawL s.heap.size b n) → W p l e room_1 s m #[Value.ref b] below meth c H locs h.1 h.2.1 (lw_Z below #[Value.ref b] s) (F0 m 18 lsC []) := by
  obtain ⟨hx, hb, hrt, hml, hown, hts, hX, hbl, hlk, -⟩ := id C0
  have tL : (Int32.ofNat L - 7).toInt = (L : Int) - 7 := by
    rw [Int32.toInt_sub, show (Int32.ofNat L).toInt = (L : Int) from nI_toInt (n := L) (by omega), show (7 : Int32).toInt = 7 from rfl, Int.bmod_eq_of_le (by omega) (by omega)]
  have tn : ∀ n, n ≤ 513 → (Int32.ofNat L - 7 < nI (7 * n) ↔ L < 7 * n + 7) := fun n hn => by
    rw [Int32.lt_iff_toInt_lt, tL, nI_toInt (by omega)]
    omega
  intro d
  induction d with
  | zero =>
    intro n h H locs lsC hd hn hH hI hb1 hb2 hS hl
    refine lv_iload_n hx hb dl_18 rfl (lv_at hl 0 rfl) ?_
    refine lv_aload_n hx hb dl_19 rfl (lv_at hl 3 rfl) ?_
    refine va_slen hx hb hX hbl (Nat.not_le.mpr hbl) hS dl_20 ?_
    refine lv_bipush (v := 7) hx hb dl_21 (by decide +kernel) ?_
    refine lv_isub hx hb dl_23 ?_
    refine lv_icmp_gt (tgt := 1318) hx hb dl_24 rfl (fun _ => ?_) (fun q => absurd ((tn n hn).mpr (by omega)) q)
    refine lv_iconst (v := 1) hx hb dl_1318 (by decide) ?_
    refine va_forget hS.2.2 ?_
    refine W.widen (k := 702281) (n := 6995406) (by omega) (by omega) ?_
    exact lw_ret hx hb hrt hlk dl_1319
  | succ d ih =>
    intro n h H locs lsC hd hn hH hI hb1 hb2 hS hl
    refine lv_iload_n hx hb dl_18 rfl (lv_at hl 0 rfl) ?_
    refine lv_aload_n hx hb dl_19 rfl (lv_at hl 3 rfl) ?_
    refine va_slen hx hb hX hbl (Nat.not_le.mpr hbl) hS dl_20 ?_
    refine lv_bipush (v := 7) hx hb dl_21 (by decide +kernel) ?_
    refine lv_isub hx hb dl_23 ?_
    refine lv_icmp_gt (tgt := 1318) hx hb dl_24 rfl (fun _ => ?_) (fun q => ?_)
    · refine lv_iconst (v := 1) hx hb dl_1318 (by decide) ?_
      refine va_forget hS.2.2 ?_
      refine W.widen (k := 702281) (n := 6995406) (by omega) (by omega) ?_
      exact lw_ret hx hb hrt hlk dl_1319
    · have hn7 : 7 * n + 7 ≤ L := by
        refine Classical.byContradiction (fun w => q ((tn n hn).mpr ?_))
        omega
      refine lv_aload_n hx hb dl_27 rfl (lv_at hl 3 rfl) ?_
      refine lv_iload_n hx hb dl_28 rfl (lv_at hl 0 rfl) ?_
      refine va_sld hx hb hX hbl (Nat.not_le.mpr hbl) hS (nI_in (c := 7 * n) (by omega) (by omega)) dl_29 ?_
      refine lv_bipush (v := 31) hx hb dl_30 (by decide +kernel) ?_
      refine lv_iand hx hb dl_32 ?_
      have kk : ∀ (h2 : Hp) (H2 : Heap) (locs2 : List Loc), HR D dA s.heap.size h2 H2 → Inv h2 → h2.1 ≤ h.1 + 5 → h2.2.1 ≤ h.2.1 + 42 → va_S (fun q => s.heap.size ≤ q) s.heap H2 locs2 → W p l e room_1 s m #[Value.ref b] below meth c H2 locs2 h2.1 h2.2.1 (lw_Z below #[Value.ref b] s) (F0 m 1312 lsC []) := by
        intro h2 H2 locs2 hH2 hI2 c1 c2 hS2
        refine lv_iinc (k := 0) (v := nI (7 * (n + 1))) (lv' := lawL s.heap.size b (n + 1)) hx hb dl_1312 hl rfl ?_ (by decide) rfl (fun ls' hl' => ?_)
        · rw [show Int32.ofInt 7 = nI 7 from by decide +kernel, nI_add, show 7 * n + 7 = 7 * (n + 1) by omega]
        · refine lv_goto (tgt := 18) hx hb dl_1315 rfl ?_
          exact ih (n + 1) h2 H2 locs2 ls' (by omega) (by omega) hH2 hI2 (by omega) (by omega) hS2 hl'
      obtain ⟨z, hz, ez⟩ : ∃ z, z < 32 ∧ (xs (nI (7 * n)).toNatClampNeg &&& 31) = nI z := and31 _
      rw [ez]
      have tz : (nI z).toInt = (z : Int) := nI_toInt (by omega)
      by_cases z28 : z < 28
      · have cs : z = 0 ∨ z = 1 ∨ z = 2 ∨ z = 3 ∨ z = 4 ∨ z = 5 ∨ z = 6 ∨ z = 7 ∨ z = 8 ∨ z = 9 ∨ z = 10 ∨ z = 11 ∨ z = 12 ∨ z = 13 ∨ z = 14 ∨ z = 15 ∨ z = 16 ∨ z = 17 ∨ z = 18 ∨ z = 19 ∨ z = 20 ∨ z = 21 ∨ z = 22 ∨ z = 23 ∨ z = 24 ∨ z = 25 ∨ z = 26 ∨ z = 27 := by omega
        rcases cs with rfl | rfl | rfl | rfl | rfl | rfl | rfl | rfl | rfl | rfl | rfl | rfl | rfl | rfl | rfl | rfl | rfl | rfl | rfl | rfl | rfl | rfl | rfl | rfl | rfl | rfl | rfl | rfl
        · exact lv_tableIn (tgt := 160) hx hb dl_33 (by rw [tz]; decide) (by rw [tz]; decide) (off := 127) (by rw [tz]; rfl) rfl (law_c0 C0 hst hL hn7 hH hI hb1 hb2 hS hl kk)
        · exact lv_tableIn (tgt := 203) hx hb dl_33 (by rw [tz]; decide) (by rw [tz]; decide) (off := 170) (by rw [tz]; rfl) rfl (law_c1 C0 hst hL hn7 hH hI hb1 hb2 hS hl kk)
        · exact lv_tableIn (tgt := 266) hx hb dl_33 (by rw [tz]; decide) (by rw [tz]; decide) (off := 233) (by rw [tz]; rfl) rfl (law_c2 C0 hst hL hn7 hH hI hb1 hb2 hS hl kk)
        · exact lv_tableIn (tgt := 299) hx hb dl_33 (by rw [tz]; decide) (by rw [tz]; decide) (off := 266) (by rw [tz]; rfl) rfl (law_c3 C0 hst hL hn7 hH hI hb1 hb2 hS hl kk)
        · exact lv_tableIn (tgt := 332) hx hb dl_33 (by rw [tz]; decide) (by rw [tz]; decide) (off := 299) (by rw [tz]; rfl) rfl (law_c4 C0 hst hL hn7 hH hI hb1 hb2 hS hl kk)
        · exact lv_tableIn (tgt := 365) hx hb dl_33 (by rw [tz]; decide) (by rw [tz]; decide) (off := 332) (by rw [tz]; rfl) rfl (law_c5 C0 hst hL hn7 hH hI hb1 hb2 hS hl kk)
        · exact lv_tableIn (tgt := 398) hx hb dl_33 (by rw [tz]; decide) (by rw [tz]; decide) (off := 365) (by rw [tz]; rfl) rfl (law_c6 C0 hst hL hn7 hH hI hb1 hb2 hS hl kk)
        · exact lv_tableIn (tgt := 411) hx hb dl_33 (by rw [tz]; decide) (by rw [tz]; decide) (off := 378) (by rw [tz]; rfl) rfl (law_c7 C0 hst hL hn7 hH hI hb1 hb2 hS hl kk)
        · exact lv_tableIn (tgt := 444) hx hb dl_33 (by rw [tz]; decide) (by rw [tz]; decide) (off := 411) (by rw [tz]; rfl) rfl (law_c8 C0 hst hL hn7 hH hI hb1 hb2 hS hl kk)
        · exact lv_tableIn (tgt := 497) hx hb dl_33 (by rw [tz]; decide) (by rw [tz]; decide) (off := 464) (by rw [tz]; rfl) rfl (law_c9 C0 hst hL hn7 hH hI hb1 hb2 hS hl kk)
        · exact lv_tableIn (tgt := 541) hx hb dl_33 (by rw [tz]; decide) (by rw [tz]; decide) (off := 508) (by rw [tz]; rfl) rfl (law_c10 C0 hst hL hn7 hH hI hb1 hb2 hS hl kk)
        · exact lv_tableIn (tgt := 585) hx hb dl_33 (by rw [tz]; decide) (by rw [tz]; decide) (off := 552) (by rw [tz]; rfl) rfl (law_c11 C0 hst hL hn7 hH hI hb1 hb2 hS hl kk)
        · exact lv_tableIn (tgt := 639) hx hb dl_33 (by rw [tz]; decide) (by rw [tz]; decide) (off := 606) (by rw [tz]; rfl) rfl (law_c12 C0 hst hL hn7 hH hI hb1 hb2 hS hl kk)
        · exact lv_tableIn (tgt := 672) hx hb dl_33 (by rw [tz]; decide) (by rw [tz]; decide) (off := 639) (by rw [tz]; rfl) rfl (law_c13 C0 hst hL hn7 hH hI hb1 hb2 hS hl kk)
        · exact lv_tableIn (tgt := 748) hx hb dl_33 (by rw [tz]; decide) (by rw [tz]; decide) (off := 715) (by rw [tz]; rfl) rfl (law_c14 C0 hst hL hn7 hH hI hb1 hb2 hS hl kk)
        · exact lv_tableIn (tgt := 801) hx hb dl_33 (by rw [tz]; decide) (by rw [tz]; decide) (off := 768) (by rw [tz]; rfl) rfl (law_c15 C0 hst hL hn7 hH hI hb1 hb2 hS hl kk)
        · exact lv_tableIn (tgt := 855) hx hb dl_33 (by rw [tz]; decide) (by rw [tz]; decide) (off := 822) (by rw [tz]; rfl) rfl (law_c16 C0 hst hL hn7 hH hI hb1 hb2 hS hl kk)
        · exact lv_tableIn (tgt := 878) hx hb dl_33 (by rw [tz]; decide) (by rw [tz]; decide) (off := 845) (by rw [tz]; rfl) rfl (law_c17 C0 hst hL hn7 hH hI hb1 hb2 hS hl kk)
        · exact lv_tableIn (tgt := 902) hx hb dl_33 (by rw [tz]; decide) (by rw [tz]; decide) (off := 869) (by rw [tz]; rfl) rfl (law_c18 C0 hst hL hn7 hH hI hb1 hb2 hS hl kk)
        · exact lv_tableIn (tgt := 965) hx hb dl_33 (by rw [tz]; decide) (by rw [tz]; decide) (off := 932) (by rw [tz]; rfl) rfl (law_c19 C0 hst hL hn7 hH hI hb1 hb2 hS hl kk)
        · exact lv_tableIn (tgt := 988) hx hb dl_33 (by rw [tz]; decide) (by rw [tz]; decide) (off := 955) (by rw [tz]; rfl) rfl (law_c20 C0 hst hL hn7 hH hI hb1 hb2 hS hl kk)
        · exact lv_tableIn (tgt := 1031) hx hb dl_33 (by rw [tz]; decide) (by rw [tz]; decide) (off := 998) (by rw [tz]; rfl) rfl (law_c21 C0 hst hL hn7 hH hI hb1 hb2 hS hl kk)
        · exact lv_tableIn (tgt := 1054) hx hb dl_33 (by rw [tz]; decide) (by rw [tz]; decide) (off := 1021) (by rw [tz]; rfl) rfl (law_c22 C0 hst hL hn7 hH hI hb1 hb2 hS hl kk)
        · exact lv_tableIn (tgt := 1077) hx hb dl_33 (by rw [tz]; decide) (by rw [tz]; decide) (off := 1044) (by rw [tz]; rfl) rfl (law_c23 C0 hst hL hn7 hH hI hb1 hb2 hS hl kk)
        · exact lv_tableIn (tgt := 1120) hx hb dl_33 (by rw [tz]; decide) (by rw [tz]; decide) (off := 1087) (by rw [tz]; rfl) rfl (law_c24 C0 hst hL hn7 hH hI hb1 hb2 hS hl kk)
        · exact lv_tableIn (tgt := 1163) hx hb dl_33 (by rw [tz]; decide) (by rw [tz]; decide) (off := 1130) (by rw [tz]; rfl) rfl (law_c25 C0 hst hL hn7 hH hI hb1 hb2 hS hl kk)
        · exact lv_tableIn (tgt := 1216) hx hb dl_33 (by rw [tz]; decide) (by rw [tz]; decide) (off := 1183) (by rw [tz]; rfl) rfl (law_c26 C0 hst hL hn7 hH hI hb1 hb2 hS hl kk)
        · exact lv_tableIn (tgt := 1279) hx hb dl_33 (by rw [tz]; decide) (by rw [tz]; decide) (off := 1246) (by rw [tz]; rfl) rfl (law_c27 C0 hst hL hn7 hH hI hb1 hb2 hS hl kk)
      · exact lv_tableOut (tgt := 1312) hx hb dl_33 (by rw [tz]; omega) rfl (kk h H locs hH hI (by omega) (by omega) hS)
