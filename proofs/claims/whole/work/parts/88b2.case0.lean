set_option maxRecDepth 100000 in
set_option maxHeartbeats 4000000 in
theorem law_c0 {D : va_G} {dA : Nat → ClassId} {p : Program} {l : Launch} {e : Env} {s : State} {m : MethodId} {below : List Frame} {meth : Method} {c : Code} {b L : Nat} {xs : Nat → Int32} (C0 : lw_At p s m meth c b L xs) (hst : Stt D dA s) (hL : L ≤ 3584) {n : Nat} {h : Hp} {H : Heap} {locs : List Loc} {lsC : Array Slot} {Q : State → Prop} (hn : 7 * n + 7 ≤ L) (hH : HR D dA s.heap.size h H) (hI : Inv h) (hb1 : h.1 ≤ 98 + 5 * n) (hb2 : h.2.1 ≤ 2000 + 42 * n) (hS : va_S (fun q => s.heap.size ≤ q) s.heap H locs) (hl : lv_has lsC 4 (lawL s.heap.size b n)) (kk : ∀ (h2 : Hp) (H2 : Heap) (locs2 : List Loc), HR D dA s.heap.size h2 H2 → Inv h2 → h2.1 ≤ h.1 + 5 → h2.2.1 ≤ h.2.1 + 42 → va_S (fun q => s.heap.size ≤ q) s.heap H2 locs2 → W p l e room_1 s m #[Value.ref b] below meth c H2 locs2 h2.1 h2.2.1 Q (F0 m 1312 lsC [])) : W p l e room_1 s m #[Value.ref b] below meth c H locs h.1 h.2.1 Q (F0 m 160 lsC []) := by
  obtain ⟨hx, hb, hrt, hml, hown, hts, hX, hbl, -, -⟩ := id C0
  obtain ⟨r, h1, h2, v1, v2, rk, c74, hI2, b1, b2⟩ := two_split (l := l) hI (two_machine h hI (xs (7 * n + 1)) (xs (7 * n + 2)) (xs (7 * n + 3)))
  have g1 := v1.1
  have g2 := v2.1
  have m1 : mxl 59 = 5 := by decide +kernel
  have m2 : mxl 109 = 4 := by decide +kernel
  obtain ⟨v, rfl⟩ := rk.1 (by decide +kernel)
  obtain ⟨a1, a2, a3, a4⟩ := lcOK_of lc_13
  obtain ⟨a5, a6, a7, a8⟩ := lcOK_of lc_17
  refine lv_aload_n hx hb dl_160 rfl (lv_at hl 2 rfl) ?_
  refine lw_push (k := 1) C0 hL hS hl (by omega) dl_161 dl_162 dl_163 (by decide +kernel) dl_164 dl_165 ?_
  refine lw_push (k := 2) C0 hL hS hl (by omega) dl_166 dl_167 dl_168 (by decide +kernel) dl_169 dl_170 ?_
  refine lw_push (k := 3) C0 hL hS hl (by omega) dl_171 dl_172 dl_173 (by decide +kernel) dl_174 dl_175 ?_
  refine lw_callV (base := s.heap.size) (h := h) (as := [.int (xs (7 * n + 1)), .int (xs (7 * n + 2)), .int (xs (7 * n + 3))]) (rest := []) (j := 0) C0 hst a1 dl_176 a2 a3 a4 hI.c1 (vwc 9 (by decide)) (by decide +kernel) (by rw [m1]; exact Nat.le_of_ble_eq_true rfl) (by rw [m1]; exact v1) (by decide) ⟨by omega, by omega⟩ hH hS hl.1 (fun H1 locs1 hH hS => ?_)
  show W p l e room_1 s m #[Value.ref b] below meth c H1 locs1 h1.1 h1.2.1 Q (F0 m 179 lsC [.int v])
  refine lv_aload_n hx hb dl_179 rfl (lv_at hl 1 rfl) ?_
  refine lw_push (k := 1) C0 hL hS hl (by omega) dl_180 dl_181 dl_182 (by decide +kernel) dl_183 dl_184 ?_
  refine lw_push (k := 2) C0 hL hS hl (by omega) dl_185 dl_186 dl_187 (by decide +kernel) dl_188 dl_189 ?_
  refine lw_push (k := 3) C0 hL hS hl (by omega) dl_190 dl_191 dl_192 (by decide +kernel) dl_193 dl_194 ?_
  refine lw_callV (base := s.heap.size) (h := h1) (as := [.int (xs (7 * n + 1)), .int (xs (7 * n + 2)), .int (xs (7 * n + 3))]) (rest := [.int v]) (j := 73) C0 hst a5 dl_195 a6 a7 a8 c74 (vwc 10 (by decide)) (by decide +kernel) (by rw [m2]; exact Nat.le_of_ble_eq_true rfl) (by rw [m2]; exact v2) (Nat.le_of_ble_eq_true rfl) ⟨by omega, by omega⟩ hH hS hl.1 (fun H2 locs2 hH hS => ?_)
  show W p l e room_1 s m #[Value.ref b] below meth c H2 locs2 h2.1 h2.2.1 Q (F0 m 198 lsC [.int v, .int v])
  exact lv_icmp_eq (tgt := 1312) hx hb dl_198 rfl (fun _ => kk h2 H2 locs2 hH hI2 b1 b2 hS) (fun q => absurd rfl q)
