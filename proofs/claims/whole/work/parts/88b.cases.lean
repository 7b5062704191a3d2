theorem vwc (cc : Nat) (h : cc < 11) : vwCl[cc]? = some (vwCl[cc]'(by simpa [vwCl] using h)) := List.getElem?_eq_getElem _
set_option maxRecDepth 100000 in
set_option maxHeartbeats 4000000 in
theorem law_c1 {D : va_G} {dA : Nat → ClassId} {p : Program} {l : Launch} {e : Env} {s : State} {m : MethodId} {below : List Frame} {meth : Method} {c : Code} {b L : Nat} {xs : Nat → Int32} (C0 : lw_At p s m meth c b L xs) (hst : Stt D dA s) (hL : L ≤ 3584) {n : Nat} {h : Hp} {H : Heap} {locs : List Loc} {lsC : Array Slot} {Q : State → Prop} (hn : 7 * n + 7 ≤ L) (hH : HR D dA s.heap.size h H) (hI : Inv h) (hb1 : h.1 ≤ 98 + 5 * n) (hb2 : h.2.1 ≤ 2000 + 42 * n) (hS : va_S (fun q => s.heap.size ≤ q) s.heap H locs) (hl : lv_has lsC 4 (lawL s.heap.size b n)) (kk : ∀ (h2 : Hp) (H2 : Heap) (locs2 : List Loc), HR D dA s.heap.size h2 H2 → Inv h2 → h2.1 ≤ h.1 + 5 → h2.2.1 ≤ h.2.1 + 42 → va_S (fun q => s.heap.size ≤ q) s.heap H2 locs2 → W p l e room_1 s m #[Value.ref b] below meth c H2 locs2 h2.1 h2.2.1 Q (F0 m 1312 lsC [])) : W p l e room_1 s m #[Value.ref b] below meth c H locs h.1 h.2.1 Q (F0 m 203 lsC []) := by
  obtain ⟨hx, hb, hrt, hml, hown, hts, hX, hbl, -, -⟩ := id C0
  obtain ⟨r, h1, h2, v1, v2, rk, c74, hI2, b1, b2⟩ := two_split (l := l) hI (two_set h hI (xs (7 * n + 1)) (xs (7 * n + 2)) (xs (7 * n + 3)) (xs (7 * n + 4)) (xs (7 * n + 5)))
  have g1 := v1.1
  have g2 := v2.1
  have m1 : mxl 60 = 10 := by decide +kernel
  have m2 : mxl 112 = 7 := by decide +kernel
  obtain ⟨v, rfl⟩ := rk.1 (by decide +kernel)
  obtain ⟨a1, a2, a3, a4⟩ := lcOK_of lc_18
  obtain ⟨a5, a6, a7, a8⟩ := lcOK_of lc_22
  refine lv_aload_n hx hb dl_203 rfl (lv_at hl 2 rfl) ?_
  refine lw_push (k := 1) C0 hL hS hl (by omega) dl_204 dl_205 dl_206 (by decide +kernel) dl_207 dl_208 ?_
  refine lw_push (k := 2) C0 hL hS hl (by omega) dl_209 dl_210 dl_211 (by decide +kernel) dl_212 dl_213 ?_
  refine lw_push (k := 3) C0 hL hS hl (by omega) dl_214 dl_215 dl_216 (by decide +kernel) dl_217 dl_218 ?_
  refine lw_push (k := 4) C0 hL hS hl (by omega) dl_219 dl_220 dl_221 (by decide +kernel) dl_222 dl_223 ?_
  refine lw_push (k := 5) C0 hL hS hl (by omega) dl_224 dl_225 dl_226 (by decide +kernel) dl_227 dl_228 ?_
  refine lw_callV (base := s.heap.size) (h := h) (as := [.int (xs (7 * n + 1)), .int (xs (7 * n + 2)), .int (xs (7 * n + 3)), .int (xs (7 * n + 4)), .int (xs (7 * n + 5))]) (rest := []) (j := 0) C0 hst a1 dl_229 a2 a3 a4 hI.c1 (vwc 9 (by decide)) (by decide +kernel) (by rw [m1]; exact Nat.le_of_ble_eq_true rfl) (by rw [m1]; exact v1) (by decide) ⟨by omega, by omega⟩ hH hS hl.1 (fun H1 locs1 hH hS => ?_)
  show W p l e room_1 s m #[Value.ref b] below meth c H1 locs1 h1.1 h1.2.1 Q (F0 m 232 lsC [.int v])
  refine lv_aload_n hx hb dl_232 rfl (lv_at hl 1 rfl) ?_
  refine lw_push (k := 1) C0 hL hS hl (by omega) dl_233 dl_234 dl_235 (by decide +kernel) dl_236 dl_237 ?_
  refine lw_push (k := 2) C0 hL hS hl (by omega) dl_238 dl_239 dl_240 (by decide +kernel) dl_241 dl_242 ?_
  refine lw_push (k := 3) C0 hL hS hl (by omega) dl_243 dl_244 dl_245 (by decide +kernel) dl_246 dl_247 ?_
  refine lw_push (k := 4) C0 hL hS hl (by omega) dl_248 dl_249 dl_250 (by decide +kernel) dl_251 dl_252 ?_
  refine lw_push (k := 5) C0 hL hS hl (by omega) dl_253 dl_254 dl_255 (by decide +kernel) dl_256 dl_257 ?_
  refine lw_callV (base := s.heap.size) (h := h1) (as := [.int (xs (7 * n + 1)), .int (xs (7 * n + 2)), .int (xs (7 * n + 3)), .int (xs (7 * n + 4)), .int (xs (7 * n + 5))]) (rest := [.int v]) (j := 73) C0 hst a5 dl_258 a6 a7 a8 c74 (vwc 10 (by decide)) (by decide +kernel) (by rw [m2]; exact Nat.le_of_ble_eq_true rfl) (by rw [m2]; exact v2) (Nat.le_of_ble_eq_true rfl) ⟨by omega, by omega⟩ hH hS hl.1 (fun H2 locs2 hH hS => ?_)
  show W p l e room_1 s m #[Value.ref b] below meth c H2 locs2 h2.1 h2.2.1 Q (F0 m 261 lsC [.int v, .int v])
  exact lv_icmp_eq (tgt := 1312) hx hb dl_261 rfl (fun _ => kk h2 H2 locs2 hH hI2 b1 b2 hS) (fun q => absurd rfl q)
set_option maxRecDepth 100000 in
set_option maxHeartbeats 4000000 in
theorem law_c2 {D : va_G} {dA : Nat → ClassId} {p : Program} {l : Launch} {e : Env} {s : State} {m : MethodId} {below : List Frame} {meth : Method} {c : Code} {b L : Nat} {xs : Nat → Int32} (C0 : lw_At p s m meth c b L xs) (hst : Stt D dA s) (hL : L ≤ 3584) {n : Nat} {h : Hp} {H : Heap} {locs : List Loc} {lsC : Array Slot} {Q : State → Prop} (hn : 7 * n + 7 ≤ L) (hH : HR D dA s.heap.size h H) (hI : Inv h) (hb1 : h.1 ≤ 98 + 5 * n) (hb2 : h.2.1 ≤ 2000 + 42 * n) (hS : va_S (fun q => s.heap.size ≤ q) s.heap H locs) (hl : lv_has lsC 4 (lawL s.heap.size b n)) (kk : ∀ (h2 : Hp) (H2 : Heap) (locs2 : List Loc), HR D dA s.heap.size h2 H2 → Inv h2 → h2.1 ≤ h.1 + 5 → h2.2.1 ≤ h.2.1 + 42 → va_S (fun q => s.heap.size ≤ q) s.heap H2 locs2 → W p l e room_1 s m #[Value.ref b] below meth c H2 locs2 h2.1 h2.2.1 Q (F0 m 1312 lsC [])) : W p l e room_1 s m #[Value.ref b] below meth c H locs h.1 h.2.1 Q (F0 m 266 lsC []) := by
  obtain ⟨hx, hb, hrt, hml, hown, hts, hX, hbl, -, -⟩ := id C0
  obtain ⟨r, h1, h2, v1, v2, rk, c74, hI2, b1, b2⟩ := two_split (l := l) hI (two_series h hI (xs (7 * n + 1)) (xs (7 * n + 2)))
  have g1 := v1.1
  have g2 := v2.1
  have m1 : mxl 61 = 3 := by decide +kernel
  have m2 : mxl 117 = 3 := by decide +kernel
  obtain ⟨v, rfl⟩ := rk.1 (by decide +kernel)
  obtain ⟨a1, a2, a3, a4⟩ := lcOK_of lc_23
  obtain ⟨a5, a6, a7, a8⟩ := lcOK_of lc_27
  refine lv_aload_n hx hb dl_266 rfl (lv_at hl 2 rfl) ?_
  refine lw_push (k := 1) C0 hL hS hl (by omega) dl_267 dl_268 dl_269 (by decide +kernel) dl_270 dl_271 ?_
  refine lw_push (k := 2) C0 hL hS hl (by omega) dl_272 dl_273 dl_274 (by decide +kernel) dl_275 dl_276 ?_
  refine lw_callV (base := s.heap.size) (h := h) (as := [.int (xs (7 * n + 1)), .int (xs (7 * n + 2))]) (rest := []) (j := 0) C0 hst a1 dl_277 a2 a3 a4 hI.c1 (vwc 9 (by decide)) (by decide +kernel) (by rw [m1]; exact Nat.le_of_ble_eq_true rfl) (by rw [m1]; exact v1) (by decide) ⟨by omega, by omega⟩ hH hS hl.1 (fun H1 locs1 hH hS => ?_)
  show W p l e room_1 s m #[Value.ref b] below meth c H1 locs1 h1.1 h1.2.1 Q (F0 m 280 lsC [.int v])
  refine lv_aload_n hx hb dl_280 rfl (lv_at hl 1 rfl) ?_
  refine lw_push (k := 1) C0 hL hS hl (by omega) dl_281 dl_282 dl_283 (by decide +kernel) dl_284 dl_285 ?_
  refine lw_push (k := 2) C0 hL hS hl (by omega) dl_286 dl_287 dl_288 (by decide +kernel) dl_289 dl_290 ?_
  refine lw_callV (base := s.heap.size) (h := h1) (as := [.int (xs (7 * n + 1)), .int (xs (7 * n + 2))]) (rest := [.int v]) (j := 73) C0 hst a5 dl_291 a6 a7 a8 c74 (vwc 10 (by decide)) (by decide +kernel) (by rw [m2]; exact Nat.le_of_ble_eq_true rfl) (by rw [m2]; exact v2) (Nat.le_of_ble_eq_true rfl) ⟨by omega, by omega⟩ hH hS hl.1 (fun H2 locs2 hH hS => ?_)
  show W p l e room_1 s m #[Value.ref b] below meth c H2 locs2 h2.1 h2.2.1 Q (F0 m 294 lsC [.int v, .int v])
  exact lv_icmp_eq (tgt := 1312) hx hb dl_294 rfl (fun _ => kk h2 H2 locs2 hH hI2 b1 b2 hS) (fun q => absurd rfl q)
set_option maxRecDepth 100000 in
set_option maxHeartbeats 4000000 in
theorem law_c3 {D : va_G} {dA : Nat → ClassId} {p : Program} {l : Launch} {e : Env} {s : State} {m : MethodId} {below : List Frame} {meth : Method} {c : Code} {b L : Nat} {xs : Nat → Int32} (C0 : lw_At p s m meth c b L xs) (hst : Stt D dA s) (hL : L ≤ 3584) {n : Nat} {h : Hp} {H : Heap} {locs : List Loc} {lsC : Array Slot} {Q : State → Prop} (hn : 7 * n + 7 ≤ L) (hH : HR D dA s.heap.size h H) (hI : Inv h) (hb1 : h.1 ≤ 98 + 5 * n) (hb2 : h.2.1 ≤ 2000 + 42 * n) (hS : va_S (fun q => s.heap.size ≤ q) s.heap H locs) (hl : lv_has lsC 4 (lawL s.heap.size b n)) (kk : ∀ (h2 : Hp) (H2 : Heap) (locs2 : List Loc), HR D dA s.heap.size h2 H2 → Inv h2 → h2.1 ≤ h.1 + 5 → h2.2.1 ≤ h.2.1 + 42 → va_S (fun q => s.heap.size ≤ q) s.heap H2 locs2 → W p l e room_1 s m #[Value.ref b] below meth c H2 locs2 h2.1 h2.2.1 Q (F0 m 1312 lsC [])) : W p l e room_1 s m #[Value.ref b] below meth c H locs h.1 h.2.1 Q (F0 m 299 lsC []) := by
  obtain ⟨hx, hb, hrt, hml, hown, hts, hX, hbl, -, -⟩ := id C0
  obtain ⟨r, h1, h2, v1, v2, rk, c74, hI2, b1, b2⟩ := two_split (l := l) hI (two_side h hI (xs (7 * n + 1)) (xs (7 * n + 2)))
  have g1 := v1.1
  have g2 := v2.1
  have m1 : mxl 62 = 3 := by decide +kernel
  have m2 : mxl 118 = 3 := by decide +kernel
  obtain ⟨v, rfl⟩ := rk.1 (by decide +kernel)
  obtain ⟨a1, a2, a3, a4⟩ := lcOK_of lc_28
  obtain ⟨a5, a6, a7, a8⟩ := lcOK_of lc_31
  refine lv_aload_n hx hb dl_299 rfl (lv_at hl 2 rfl) ?_
  refine lw_push (k := 1) C0 hL hS hl (by omega) dl_300 dl_301 dl_302 (by decide +kernel) dl_303 dl_304 ?_
  refine lw_push (k := 2) C0 hL hS hl (by omega) dl_305 dl_306 dl_307 (by decide +kernel) dl_308 dl_309 ?_
  refine lw_callV (base := s.heap.size) (h := h) (as := [.int (xs (7 * n + 1)), .int (xs (7 * n + 2))]) (rest := []) (j := 0) C0 hst a1 dl_310 a2 a3 a4 hI.c1 (vwc 9 (by decide)) (by decide +kernel) (by rw [m1]; exact Nat.le_of_ble_eq_true rfl) (by rw [m1]; exact v1) (by decide) ⟨by omega, by omega⟩ hH hS hl.1 (fun H1 locs1 hH hS => ?_)
  show W p l e room_1 s m #[Value.ref b] below meth c H1 locs1 h1.1 h1.2.1 Q (F0 m 313 lsC [.int v])
  refine lv_aload_n hx hb dl_313 rfl (lv_at hl 1 rfl) ?_
  refine lw_push (k := 1) C0 hL hS hl (by omega) dl_314 dl_315 dl_316 (by decide +kernel) dl_317 dl_318 ?_
  refine lw_push (k := 2) C0 hL hS hl (by omega) dl_319 dl_320 dl_321 (by decide +kernel) dl_322 dl_323 ?_
  refine lw_callV (base := s.heap.size) (h := h1) (as := [.int (xs (7 * n + 1)), .int (xs (7 * n + 2))]) (rest := [.int v]) (j := 73) C0 hst a5 dl_324 a6 a7 a8 c74 (vwc 10 (by decide)) (by decide +kernel) (by rw [m2]; exact Nat.le_of_ble_eq_true rfl) (by rw [m2]; exact v2) (Nat.le_of_ble_eq_true rfl) ⟨by omega, by omega⟩ hH hS hl.1 (fun H2 locs2 hH hS => ?_)
  show W p l e room_1 s m #[Value.ref b] below meth c H2 locs2 h2.1 h2.2.1 Q (F0 m 327 lsC [.int v, .int v])
  exact lv_icmp_eq (tgt := 1312) hx hb dl_327 rfl (fun _ => kk h2 H2 locs2 hH hI2 b1 b2 hS) (fun q => absurd rfl q)
set_option maxRecDepth 100000 in
set_option maxHeartbeats 4000000 in
theorem law_c4 {D : va_G} {dA : Nat → ClassId} {p : Program} {l : Launch} {e : Env} {s : State} {m : MethodId} {below : List Frame} {meth : Method} {c : Code} {b L : Nat} {xs : Nat → Int32} (C0 : lw_At p s m meth c b L xs) (hst : Stt D dA s) (hL : L ≤ 3584) {n : Nat} {h : Hp} {H : Heap} {locs : List Loc} {lsC : Array Slot} {Q : State → Prop} (hn : 7 * n + 7 ≤ L) (hH : HR D dA s.heap.size h H) (hI : Inv h) (hb1 : h.1 ≤ 98 + 5 * n) (hb2 : h.2.1 ≤ 2000 + 42 * n) (hS : va_S (fun q => s.heap.size ≤ q) s.heap H locs) (hl : lv_has lsC 4 (lawL s.heap.size b n)) (kk : ∀ (h2 : Hp) (H2 : Heap) (locs2 : List Loc), HR D dA s.heap.size h2 H2 → Inv h2 → h2.1 ≤ h.1 + 5 → h2.2.1 ≤ h.2.1 + 42 → va_S (fun q => s.heap.size ≤ q) s.heap H2 locs2 → W p l e room_1 s m #[Value.ref b] below meth c H2 locs2 h2.1 h2.2.1 Q (F0 m 1312 lsC [])) : W p l e room_1 s m #[Value.ref b] below meth c H locs h.1 h.2.1 Q (F0 m 332 lsC []) := by
  obtain ⟨hx, hb, hrt, hml, hown, hts, hX, hbl, -, -⟩ := id C0
  obtain ⟨r, h1, h2, v1, v2, rk, c74, hI2, b1, b2⟩ := two_split (l := l) hI (two_back h hI (xs (7 * n + 1)) (xs (7 * n + 2)))
  have g1 := v1.1
  have g2 := v2.1
  have m1 : mxl 63 = 8 := by decide +kernel
  have m2 : mxl 119 = 5 := by decide +kernel
  obtain ⟨v, rfl⟩ := rk.1 (by decide +kernel)
  obtain ⟨a1, a2, a3, a4⟩ := lcOK_of lc_32
  obtain ⟨a5, a6, a7, a8⟩ := lcOK_of lc_35
  refine lv_aload_n hx hb dl_332 rfl (lv_at hl 2 rfl) ?_
  refine lw_push (k := 1) C0 hL hS hl (by omega) dl_333 dl_334 dl_335 (by decide +kernel) dl_336 dl_337 ?_
  refine lw_push (k := 2) C0 hL hS hl (by omega) dl_338 dl_339 dl_340 (by decide +kernel) dl_341 dl_342 ?_
  refine lw_callV (base := s.heap.size) (h := h) (as := [.int (xs (7 * n + 1)), .int (xs (7 * n + 2))]) (rest := []) (j := 0) C0 hst a1 dl_343 a2 a3 a4 hI.c1 (vwc 9 (by decide)) (by decide +kernel) (by rw [m1]; exact Nat.le_of_ble_eq_true rfl) (by rw [m1]; exact v1) (by decide) ⟨by omega, by omega⟩ hH hS hl.1 (fun H1 locs1 hH hS => ?_)
  show W p l e room_1 s m #[Value.ref b] below meth c H1 locs1 h1.1 h1.2.1 Q (F0 m 346 lsC [.int v])
  refine lv_aload_n hx hb dl_346 rfl (lv_at hl 1 rfl) ?_
  refine lw_push (k := 1) C0 hL hS hl (by omega) dl_347 dl_348 dl_349 (by decide +kernel) dl_350 dl_351 ?_
  refine lw_push (k := 2) C0 hL hS hl (by omega) dl_352 dl_353 dl_354 (by decide +kernel) dl_355 dl_356 ?_
  refine lw_callV (base := s.heap.size) (h := h1) (as := [.int (xs (7 * n + 1)), .int (xs (7 * n + 2))]) (rest := [.int v]) (j := 73) C0 hst a5 dl_357 a6 a7 a8 c74 (vwc 10 (by decide)) (by decide +kernel) (by rw [m2]; exact Nat.le_of_ble_eq_true rfl) (by rw [m2]; exact v2) (Nat.le_of_ble_eq_true rfl) ⟨by omega, by omega⟩ hH hS hl.1 (fun H2 locs2 hH hS => ?_)
  show W p l e room_1 s m #[Value.ref b] below meth c H2 locs2 h2.1 h2.2.1 Q (F0 m 360 lsC [.int v, .int v])
  exact lv_icmp_eq (tgt := 1312) hx hb dl_360 rfl (fun _ => kk h2 H2 locs2 hH hI2 b1 b2 hS) (fun q => absurd rfl q)
set_option maxRecDepth 100000 in
set_option maxHeartbeats 4000000 in
theorem law_c5 {D : va_G} {dA : Nat → ClassId} {p : Program} {l : Launch} {e : Env} {s : State} {m : MethodId} {below : List Frame} {meth : Method} {c : Code} {b L : Nat} {xs : Nat → Int32} (C0 : lw_At p s m meth c b L xs) (hst : Stt D dA s) (hL : L ≤ 3584) {n : Nat} {h : Hp} {H : Heap} {locs : List Loc} {lsC : Array Slot} {Q : State → Prop} (hn : 7 * n + 7 ≤ L) (hH : HR D dA s.heap.size h H) (hI : Inv h) (hb1 : h.1 ≤ 98 + 5 * n) (hb2 : h.2.1 ≤ 2000 + 42 * n) (hS : va_S (fun q => s.heap.size ≤ q) s.heap H locs) (hl : lv_has lsC 4 (lawL s.heap.size b n)) (kk : ∀ (h2 : Hp) (H2 : Heap) (locs2 : List Loc), HR D dA s.heap.size h2 H2 → Inv h2 → h2.1 ≤ h.1 + 5 → h2.2.1 ≤ h.2.1 + 42 → va_S (fun q => s.heap.size ≤ q) s.heap H2 locs2 → W p l e room_1 s m #[Value.ref b] below meth c H2 locs2 h2.1 h2.2.1 Q (F0 m 1312 lsC [])) : W p l e room_1 s m #[Value.ref b] below meth c H locs h.1 h.2.1 Q (F0 m 365 lsC []) := by
  obtain ⟨hx, hb, hrt, hml, hown, hts, hX, hbl, -, -⟩ := id C0
  obtain ⟨r, h1, h2, v1, v2, rk, c74, hI2, b1, b2⟩ := two_split (l := l) hI (two_part h hI (xs (7 * n + 1)) (xs (7 * n + 2)))
  have g1 := v1.1
  have g2 := v2.1
  have m1 : mxl 64 = 7 := by decide +kernel
  have m2 : mxl 120 = 7 := by decide +kernel
  obtain ⟨v, rfl⟩ := rk.1 (by decide +kernel)
  obtain ⟨a1, a2, a3, a4⟩ := lcOK_of lc_36
  obtain ⟨a5, a6, a7, a8⟩ := lcOK_of lc_39
  refine lv_aload_n hx hb dl_365 rfl (lv_at hl 2 rfl) ?_
  refine lw_push (k := 1) C0 hL hS hl (by omega) dl_366 dl_367 dl_368 (by decide +kernel) dl_369 dl_370 ?_
  refine lw_push (k := 2) C0 hL hS hl (by omega) dl_371 dl_372 dl_373 (by decide +kernel) dl_374 dl_375 ?_
  refine lw_callV (base := s.heap.size) (h := h) (as := [.int (xs (7 * n + 1)), .int (xs (7 * n + 2))]) (rest := []) (j := 0) C0 hst a1 dl_376 a2 a3 a4 hI.c1 (vwc 9 (by decide)) (by decide +kernel) (by rw [m1]; exact Nat.le_of_ble_eq_true rfl) (by rw [m1]; exact v1) (by decide) ⟨by omega, by omega⟩ hH hS hl.1 (fun H1 locs1 hH hS => ?_)
  show W p l e room_1 s m #[Value.ref b] below meth c H1 locs1 h1.1 h1.2.1 Q (F0 m 379 lsC [.int v])
  refine lv_aload_n hx hb dl_379 rfl (lv_at hl 1 rfl) ?_
  refine lw_push (k := 1) C0 hL hS hl (by omega) dl_380 dl_381 dl_382 (by decide +kernel) dl_383 dl_384 ?_
  refine lw_push (k := 2) C0 hL hS hl (by omega) dl_385 dl_386 dl_387 (by decide +kernel) dl_388 dl_389 ?_
  refine lw_callV (base := s.heap.size) (h := h1) (as := [.int (xs (7 * n + 1)), .int (xs (7 * n + 2))]) (rest := [.int v]) (j := 73) C0 hst a5 dl_390 a6 a7 a8 c74 (vwc 10 (by decide)) (by decide +kernel) (by rw [m2]; exact Nat.le_of_ble_eq_true rfl) (by rw [m2]; exact v2) (Nat.le_of_ble_eq_true rfl) ⟨by omega, by omega⟩ hH hS hl.1 (fun H2 locs2 hH hS => ?_)
  show W p l e room_1 s m #[Value.ref b] below meth c H2 locs2 h2.1 h2.2.1 Q (F0 m 393 lsC [.int v, .int v])
  exact lv_icmp_eq (tgt := 1312) hx hb dl_393 rfl (fun _ => kk h2 H2 locs2 hH hI2 b1 b2 hS) (fun q => absurd rfl q)
set_option maxRecDepth 100000 in
set_option maxHeartbeats 4000000 in
theorem law_c6 {D : va_G} {dA : Nat → ClassId} {p : Program} {l : Launch} {e : Env} {s : State} {m : MethodId} {below : List Frame} {meth : Method} {c : Code} {b L : Nat} {xs : Nat → Int32} (C0 : lw_At p s m meth c b L xs) (hst : Stt D dA s) (hL : L ≤ 3584) {n : Nat} {h : Hp} {H : Heap} {locs : List Loc} {lsC : Array Slot} {Q : State → Prop} (hn : 7 * n + 7 ≤ L) (hH : HR D dA s.heap.size h H) (hI : Inv h) (hb1 : h.1 ≤ 98 + 5 * n) (hb2 : h.2.1 ≤ 2000 + 42 * n) (hS : va_S (fun q => s.heap.size ≤ q) s.heap H locs) (hl : lv_has lsC 4 (lawL s.heap.size b n)) (kk : ∀ (h2 : Hp) (H2 : Heap) (locs2 : List Loc), HR D dA s.heap.size h2 H2 → Inv h2 → h2.1 ≤ h.1 + 5 → h2.2.1 ≤ h.2.1 + 42 → va_S (fun q => s.heap.size ≤ q) s.heap H2 locs2 → W p l e room_1 s m #[Value.ref b] below meth c H2 locs2 h2.1 h2.2.1 Q (F0 m 1312 lsC [])) : W p l e room_1 s m #[Value.ref b] below meth c H locs h.1 h.2.1 Q (F0 m 398 lsC []) := by
  obtain ⟨hx, hb, hrt, hml, hown, hts, hX, hbl, -, -⟩ := id C0
  obtain ⟨r, h1, h2, v1, v2, rk, c74, hI2, b1, b2⟩ := two_split (l := l) hI (two_drop h hI )
  have g1 := v1.1
  have g2 := v2.1
  have m1 : mxl 65 = 1 := by decide +kernel
  have m2 : mxl 121 = 1 := by decide +kernel
  obtain ⟨v, rfl⟩ := rk.1 (by decide +kernel)
  obtain ⟨a1, a2, a3, a4⟩ := lcOK_of lc_40
  obtain ⟨a5, a6, a7, a8⟩ := lcOK_of lc_44
  refine lv_aload_n hx hb dl_398 rfl (lv_at hl 2 rfl) ?_
  refine lw_callV (base := s.heap.size) (h := h) (as := []) (rest := []) (j := 0) C0 hst a1 dl_399 a2 a3 a4 hI.c1 (vwc 9 (by decide)) (by decide +kernel) (by rw [m1]; exact Nat.le_of_ble_eq_true rfl) (by rw [m1]; exact v1) (by decide) ⟨by omega, by omega⟩ hH hS hl.1 (fun H1 locs1 hH hS => ?_)
  show W p l e room_1 s m #[Value.ref b] below meth c H1 locs1 h1.1 h1.2.1 Q (F0 m 402 lsC [.int v])
  refine lv_aload_n hx hb dl_402 rfl (lv_at hl 1 rfl) ?_
  refine lw_callV (base := s.heap.size) (h := h1) (as := []) (rest := [.int v]) (j := 73) C0 hst a5 dl_403 a6 a7 a8 c74 (vwc 10 (by decide)) (by decide +kernel) (by rw [m2]; exact Nat.le_of_ble_eq_true rfl) (by rw [m2]; exact v2) (Nat.le_of_ble_eq_true rfl) ⟨by omega, by omega⟩ hH hS hl.1 (fun H2 locs2 hH hS => ?_)
  show W p l e room_1 s m #[Value.ref b] below meth c H2 locs2 h2.1 h2.2.1 Q (F0 m 406 lsC [.int v, .int v])
  exact lv_icmp_eq (tgt := 1312) hx hb dl_406 rfl (fun _ => kk h2 H2 locs2 hH hI2 b1 b2 hS) (fun q => absurd rfl q)
set_option maxRecDepth 100000 in
set_option maxHeartbeats 4000000 in
theorem law_c7 {D : va_G} {dA : Nat → ClassId} {p : Program} {l : Launch} {e : Env} {s : State} {m : MethodId} {below : List Frame} {meth : Method} {c : Code} {b L : Nat} {xs : Nat → Int32} (C0 : lw_At p s m meth c b L xs) (hst : Stt D dA s) (hL : L ≤ 3584) {n : Nat} {h : Hp} {H : Heap} {locs : List Loc} {lsC : Array Slot} {Q : State → Prop} (hn : 7 * n + 7 ≤ L) (hH : HR D dA s.heap.size h H) (hI : Inv h) (hb1 : h.1 ≤ 98 + 5 * n) (hb2 : h.2.1 ≤ 2000 + 42 * n) (hS : va_S (fun q => s.heap.size ≤ q) s.heap H locs) (hl : lv_has lsC 4 (lawL s.heap.size b n)) (kk : ∀ (h2 : Hp) (H2 : Heap) (locs2 : List Loc), HR D dA s.heap.size h2 H2 → Inv h2 → h2.1 ≤ h.1 + 5 → h2.2.1 ≤ h.2.1 + 42 → va_S (fun q => s.heap.size ≤ q) s.heap H2 locs2 → W p l e room_1 s m #[Value.ref b] below meth c H2 locs2 h2.1 h2.2.1 Q (F0 m 1312 lsC [])) : W p l e room_1 s m #[Value.ref b] below meth c H locs h.1 h.2.1 Q (F0 m 411 lsC []) := by
  obtain ⟨hx, hb, hrt, hml, hown, hts, hX, hbl, -, -⟩ := id C0
  obtain ⟨r, h1, h2, v1, v2, rk, c74, hI2, b1, b2⟩ := two_split (l := l) hI (two_told h hI (xs (7 * n + 1)) (xs (7 * n + 2)))
  have g1 := v1.1
  have g2 := v2.1
  have m1 : mxl 66 = 4 := by decide +kernel
  have m2 : mxl 133 = 3 := by decide +kernel
  obtain ⟨v, rfl⟩ := rk.1 (by decide +kernel)
  obtain ⟨a1, a2, a3, a4⟩ := lcOK_of lc_45
  obtain ⟨a5, a6, a7, a8⟩ := lcOK_of lc_48
  refine lv_aload_n hx hb dl_411 rfl (lv_at hl 2 rfl) ?_
  refine lw_push (k := 1) C0 hL hS hl (by omega) dl_412 dl_413 dl_414 (by decide +kernel) dl_415 dl_416 ?_
  refine lw_push (k := 2) C0 hL hS hl (by omega) dl_417 dl_418 dl_419 (by decide +kernel) dl_420 dl_421 ?_
  refine lw_callV (base := s.heap.size) (h := h) (as := [.int (xs (7 * n + 1)), .int (xs (7 * n + 2))]) (rest := []) (j := 0) C0 hst a1 dl_422 a2 a3 a4 hI.c1 (vwc 9 (by decide)) (by decide +kernel) (by rw [m1]; exact Nat.le_of_ble_eq_true rfl) (by rw [m1]; exact v1) (by decide) ⟨by omega, by omega⟩ hH hS hl.1 (fun H1 locs1 hH hS => ?_)
  show W p l e room_1 s m #[Value.ref b] below meth c H1 locs1 h1.1 h1.2.1 Q (F0 m 425 lsC [.int v])
  refine lv_aload_n hx hb dl_425 rfl (lv_at hl 1 rfl) ?_
  refine lw_push (k := 1) C0 hL hS hl (by omega) dl_426 dl_427 dl_428 (by decide +kernel) dl_429 dl_430 ?_
  refine lw_push (k := 2) C0 hL hS hl (by omega) dl_431 dl_432 dl_433 (by decide +kernel) dl_434 dl_435 ?_
  refine lw_callV (base := s.heap.size) (h := h1) (as := [.int (xs (7 * n + 1)), .int (xs (7 * n + 2))]) (rest := [.int v]) (j := 73) C0 hst a5 dl_436 a6 a7 a8 c74 (vwc 10 (by decide)) (by decide +kernel) (by rw [m2]; exact Nat.le_of_ble_eq_true rfl) (by rw [m2]; exact v2) (Nat.le_of_ble_eq_true rfl) ⟨by omega, by omega⟩ hH hS hl.1 (fun H2 locs2 hH hS => ?_)
  show W p l e room_1 s m #[Value.ref b] below meth c H2 locs2 h2.1 h2.2.1 Q (F0 m 439 lsC [.int v, .int v])
  exact lv_icmp_eq (tgt := 1312) hx hb dl_439 rfl (fun _ => kk h2 H2 locs2 hH hI2 b1 b2 hS) (fun q => absurd rfl q)
set_option maxRecDepth 100000 in
set_option maxHeartbeats 4000000 in
theorem law_c8 {D : va_G} {dA : Nat → ClassId} {p : Program} {l : Launch} {e : Env} {s : State} {m : MethodId} {below : List Frame} {meth : Method} {c : Code} {b L : Nat} {xs : Nat → Int32} (C0 : lw_At p s m meth c b L xs) (hst : Stt D dA s) (hL : L ≤ 3584) {n : Nat} {h : Hp} {H : Heap} {locs : List Loc} {lsC : Array Slot} {Q : State → Prop} (hn : 7 * n + 7 ≤ L) (hH : HR D dA s.heap.size h H) (hI : Inv h) (hb1 : h.1 ≤ 98 + 5 * n) (hb2 : h.2.1 ≤ 2000 + 42 * n) (hS : va_S (fun q => s.heap.size ≤ q) s.heap H locs) (hl : lv_has lsC 4 (lawL s.heap.size b n)) (kk : ∀ (h2 : Hp) (H2 : Heap) (locs2 : List Loc), HR D dA s.heap.size h2 H2 → Inv h2 → h2.1 ≤ h.1 + 5 → h2.2.1 ≤ h.2.1 + 42 → va_S (fun q => s.heap.size ≤ q) s.heap H2 locs2 → W p l e room_1 s m #[Value.ref b] below meth c H2 locs2 h2.1 h2.2.1 Q (F0 m 1312 lsC [])) : W p l e room_1 s m #[Value.ref b] below meth c H locs h.1 h.2.1 Q (F0 m 444 lsC []) := by
  obtain ⟨hx, hb, hrt, hml, hown, hts, hX, hbl, -, -⟩ := id C0
  obtain ⟨r, h1, h2, v1, v2, rk, c74, hI2, b1, b2⟩ := two_split (l := l) hI (two_table h hI (xs (7 * n + 1)) (xs (7 * n + 2)) (xs (7 * n + 3)) (xs (7 * n + 4)))
  have g1 := v1.1
  have g2 := v2.1
  have m1 : mxl 67 = 7 := by decide +kernel
  have m2 : mxl 113 = 5 := by decide +kernel
  obtain ⟨v, rfl⟩ := rk.1 (by decide +kernel)
  obtain ⟨a1, a2, a3, a4⟩ := lcOK_of lc_49
  obtain ⟨a5, a6, a7, a8⟩ := lcOK_of lc_53
  refine lv_aload_n hx hb dl_444 rfl (lv_at hl 2 rfl) ?_
  refine lw_push (k := 1) C0 hL hS hl (by omega) dl_445 dl_446 dl_447 (by decide +kernel) dl_448 dl_449 ?_
  refine lw_push (k := 2) C0 hL hS hl (by omega) dl_450 dl_451 dl_452 (by decide +kernel) dl_453 dl_454 ?_
  refine lw_push (k := 3) C0 hL hS hl (by omega) dl_455 dl_456 dl_457 (by decide +kernel) dl_458 dl_459 ?_
  refine lw_push (k := 4) C0 hL hS hl (by omega) dl_460 dl_461 dl_462 (by decide +kernel) dl_463 dl_464 ?_
  refine lw_callV (base := s.heap.size) (h := h) (as := [.int (xs (7 * n + 1)), .int (xs (7 * n + 2)), .int (xs (7 * n + 3)), .int (xs (7 * n + 4))]) (rest := []) (j := 0) C0 hst a1 dl_465 a2 a3 a4 hI.c1 (vwc 9 (by decide)) (by decide +kernel) (by rw [m1]; exact Nat.le_of_ble_eq_true rfl) (by rw [m1]; exact v1) (by decide) ⟨by omega, by omega⟩ hH hS hl.1 (fun H1 locs1 hH hS => ?_)
  show W p l e room_1 s m #[Value.ref b] below meth c H1 locs1 h1.1 h1.2.1 Q (F0 m 468 lsC [.int v])
  refine lv_aload_n hx hb dl_468 rfl (lv_at hl 1 rfl) ?_
  refine lw_push (k := 1) C0 hL hS hl (by omega) dl_469 dl_470 dl_471 (by decide +kernel) dl_472 dl_473 ?_
  refine lw_push (k := 2) C0 hL hS hl (by omega) dl_474 dl_475 dl_476 (by decide +kernel) dl_477 dl_478 ?_
  refine lw_push (k := 3) C0 hL hS hl (by omega) dl_479 dl_480 dl_481 (by decide +kernel) dl_482 dl_483 ?_
  refine lw_push (k := 4) C0 hL hS hl (by omega) dl_484 dl_485 dl_486 (by decide +kernel) dl_487 dl_488 ?_
  refine lw_callV (base := s.heap.size) (h := h1) (as := [.int (xs (7 * n + 1)), .int (xs (7 * n + 2)), .int (xs (7 * n + 3)), .int (xs (7 * n + 4))]) (rest := [.int v]) (j := 73) C0 hst a5 dl_489 a6 a7 a8 c74 (vwc 10 (by decide)) (by decide +kernel) (by rw [m2]; exact Nat.le_of_ble_eq_true rfl) (by rw [m2]; exact v2) (Nat.le_of_ble_eq_true rfl) ⟨by omega, by omega⟩ hH hS hl.1 (fun H2 locs2 hH hS => ?_)
  show W p l e room_1 s m #[Value.ref b] below meth c H2 locs2 h2.1 h2.2.1 Q (F0 m 492 lsC [.int v, .int v])
  exact lv_icmp_eq (tgt := 1312) hx hb dl_492 rfl (fun _ => kk h2 H2 locs2 hH hI2 b1 b2 hS) (fun q => absurd rfl q)
set_option maxRecDepth 100000 in
set_option maxHeartbeats 4000000 in
theorem law_c9 {D : va_G} {dA : Nat → ClassId} {p : Program} {l : Launch} {e : Env} {s : State} {m : MethodId} {below : List Frame} {meth : Method} {c : Code} {b L : Nat} {xs : Nat → Int32} (C0 : lw_At p s m meth c b L xs) (hst : Stt D dA s) (hL : L ≤ 3584) {n : Nat} {h : Hp} {H : Heap} {locs : List Loc} {lsC : Array Slot} {Q : State → Prop} (hn : 7 * n + 7 ≤ L) (hH : HR D dA s.heap.size h H) (hI : Inv h) (hb1 : h.1 ≤ 98 + 5 * n) (hb2 : h.2.1 ≤ 2000 + 42 * n) (hS : va_S (fun q => s.heap.size ≤ q) s.heap H locs) (hl : lv_has lsC 4 (lawL s.heap.size b n)) (kk : ∀ (h2 : Hp) (H2 : Heap) (locs2 : List Loc), HR D dA s.heap.size h2 H2 → Inv h2 → h2.1 ≤ h.1 + 5 → h2.2.1 ≤ h.2.1 + 42 → va_S (fun q => s.heap.size ≤ q) s.heap H2 locs2 → W p l e room_1 s m #[Value.ref b] below meth c H2 locs2 h2.1 h2.2.1 Q (F0 m 1312 lsC [])) : W p l e room_1 s m #[Value.ref b] below meth c H locs h.1 h.2.1 Q (F0 m 497 lsC []) := by
  obtain ⟨hx, hb, hrt, hml, hown, hts, hX, hbl, -, -⟩ := id C0
  obtain ⟨r, h1, h2, v1, v2, rk, c74, hI2, b1, b2⟩ := two_split (l := l) hI (two_own h hI (xs (7 * n + 1)) (xs (7 * n + 2)) (xs (7 * n + 3)))
  have g1 := v1.1
  have g2 := v2.1
  have m1 : mxl 68 = 5 := by decide +kernel
  have m2 : mxl 134 = 7 := by decide +kernel
  obtain ⟨v, rfl⟩ := rk.2.1 (by decide +kernel)
  obtain ⟨a1, a2, a3, a4⟩ := lcOK_of lc_54
  obtain ⟨a5, a6, a7, a8⟩ := lcOK_of lc_58
  refine lv_aload_n hx hb dl_497 rfl (lv_at hl 2 rfl) ?_
  refine lw_push (k := 1) C0 hL hS hl (by omega) dl_498 dl_499 dl_500 (by decide +kernel) dl_501 dl_502 ?_
  refine lw_push (k := 2) C0 hL hS hl (by omega) dl_503 dl_504 dl_505 (by decide +kernel) dl_506 dl_507 ?_
  refine lw_push (k := 3) C0 hL hS hl (by omega) dl_508 dl_509 dl_510 (by decide +kernel) dl_511 dl_512 ?_
  refine lw_callV (base := s.heap.size) (h := h) (as := [.int (xs (7 * n + 1)), .int (xs (7 * n + 2)), .int (xs (7 * n + 3))]) (rest := []) (j := 0) C0 hst a1 dl_513 a2 a3 a4 hI.c1 (vwc 9 (by decide)) (by decide +kernel) (by rw [m1]; exact Nat.le_of_ble_eq_true rfl) (by rw [m1]; exact v1) (by decide) ⟨by omega, by omega⟩ hH hS hl.1 (fun H1 locs1 hH hS => ?_)
  show W p l e room_1 s m #[Value.ref b] below meth c H1 locs1 h1.1 h1.2.1 Q (F0 m 516 lsC [.long v])
  refine lv_aload_n hx hb dl_516 rfl (lv_at hl 1 rfl) ?_
  refine lw_push (k := 1) C0 hL hS hl (by omega) dl_517 dl_518 dl_519 (by decide +kernel) dl_520 dl_521 ?_
  refine lw_push (k := 2) C0 hL hS hl (by omega) dl_522 dl_523 dl_524 (by decide +kernel) dl_525 dl_526 ?_
  refine lw_push (k := 3) C0 hL hS hl (by omega) dl_527 dl_528 dl_529 (by decide +kernel) dl_530 dl_531 ?_
  refine lw_callV (base := s.heap.size) (h := h1) (as := [.int (xs (7 * n + 1)), .int (xs (7 * n + 2)), .int (xs (7 * n + 3))]) (rest := [.long v]) (j := 73) C0 hst a5 dl_532 a6 a7 a8 c74 (vwc 10 (by decide)) (by decide +kernel) (by rw [m2]; exact Nat.le_of_ble_eq_true rfl) (by rw [m2]; exact v2) (Nat.le_of_ble_eq_true rfl) ⟨by omega, by omega⟩ hH hS hl.1 (fun H2 locs2 hH hS => ?_)
  show W p l e room_1 s m #[Value.ref b] below meth c H2 locs2 h2.1 h2.2.1 Q (F0 m 535 lsC [.long v, .long v])
  refine W.lcmp hx hb dl_535 ?_
  refine lv_if_eq (tgt := 1312) hx hb dl_536 rfl (fun _ => kk h2 H2 locs2 hH hI2 b1 b2 hS) (fun q => absurd ?_ q)
  rw [lg_eq]
set_option maxRecDepth 100000 in
set_option maxHeartbeats 4000000 in
theorem law_c10 {D : va_G} {dA : Nat → ClassId} {p : Program} {l : Launch} {e : Env} {s : State} {m : MethodId} {below : List Frame} {meth : Method} {c : Code} {b L : Nat} {xs : Nat → Int32} (C0 : lw_At p s m meth c b L xs) (hst : Stt D dA s) (hL : L ≤ 3584) {n : Nat} {h : Hp} {H : Heap} {locs : List Loc} {lsC : Array Slot} {Q : State → Prop} (hn : 7 * n + 7 ≤ L) (hH : HR D dA s.heap.size h H) (hI : Inv h) (hb1 : h.1 ≤ 98 + 5 * n) (hb2 : h.2.1 ≤ 2000 + 42 * n) (hS : va_S (fun q => s.heap.size ≤ q) s.heap H locs) (hl : lv_has lsC 4 (lawL s.heap.size b n)) (kk : ∀ (h2 : Hp) (H2 : Heap) (locs2 : List Loc), HR D dA s.heap.size h2 H2 → Inv h2 → h2.1 ≤ h.1 + 5 → h2.2.1 ≤ h.2.1 + 42 → va_S (fun q => s.heap.size ≤ q) s.heap H2 locs2 → W p l e room_1 s m #[Value.ref b] below meth c H2 locs2 h2.1 h2.2.1 Q (F0 m 1312 lsC [])) : W p l e room_1 s m #[Value.ref b] below meth c H locs h.1 h.2.1 Q (F0 m 541 lsC []) := by
  obtain ⟨hx, hb, hrt, hml, hown, hts, hX, hbl, -, -⟩ := id C0
  obtain ⟨r, h1, h2, v1, v2, rk, c74, hI2, b1, b2⟩ := two_split (l := l) hI (two_pulse h hI (xs (7 * n + 1)) (xs (7 * n + 2)) (xs (7 * n + 3)))
  have g1 := v1.1
  have g2 := v2.1
  have m1 : mxl 69 = 5 := by decide +kernel
  have m2 : mxl 136 = 4 := by decide +kernel
  obtain ⟨v, rfl⟩ := rk.2.1 (by decide +kernel)
  obtain ⟨a1, a2, a3, a4⟩ := lcOK_of lc_59
  obtain ⟨a5, a6, a7, a8⟩ := lcOK_of lc_62
  refine lv_aload_n hx hb dl_541 rfl (lv_at hl 2 rfl) ?_
  refine lw_push (k := 1) C0 hL hS hl (by omega) dl_542 dl_543 dl_544 (by decide +kernel) dl_545 dl_546 ?_
  refine lw_push (k := 2) C0 hL hS hl (by omega) dl_547 dl_548 dl_549 (by decide +kernel) dl_550 dl_551 ?_
  refine lw_push (k := 3) C0 hL hS hl (by omega) dl_552 dl_553 dl_554 (by decide +kernel) dl_555 dl_556 ?_
  refine lw_callV (base := s.heap.size) (h := h) (as := [.int (xs (7 * n + 1)), .int (xs (7 * n + 2)), .int (xs (7 * n + 3))]) (rest := []) (j := 0) C0 hst a1 dl_557 a2 a3 a4 hI.c1 (vwc 9 (by decide)) (by decide +kernel) (by rw [m1]; exact Nat.le_of_ble_eq_true rfl) (by rw [m1]; exact v1) (by decide) ⟨by omega, by omega⟩ hH hS hl.1 (fun H1 locs1 hH hS => ?_)
  show W p l e room_1 s m #[Value.ref b] below meth c H1 locs1 h1.1 h1.2.1 Q (F0 m 560 lsC [.long v])
  refine lv_aload_n hx hb dl_560 rfl (lv_at hl 1 rfl) ?_
  refine lw_push (k := 1) C0 hL hS hl (by omega) dl_561 dl_562 dl_563 (by decide +kernel) dl_564 dl_565 ?_
  refine lw_push (k := 2) C0 hL hS hl (by omega) dl_566 dl_567 dl_568 (by decide +kernel) dl_569 dl_570 ?_
  refine lw_push (k := 3) C0 hL hS hl (by omega) dl_571 dl_572 dl_573 (by decide +kernel) dl_574 dl_575 ?_
  refine lw_callV (base := s.heap.size) (h := h1) (as := [.int (xs (7 * n + 1)), .int (xs (7 * n + 2)), .int (xs (7 * n + 3))]) (rest := [.long v]) (j := 73) C0 hst a5 dl_576 a6 a7 a8 c74 (vwc 10 (by decide)) (by decide +kernel) (by rw [m2]; exact Nat.le_of_ble_eq_true rfl) (by rw [m2]; exact v2) (Nat.le_of_ble_eq_true rfl) ⟨by omega, by omega⟩ hH hS hl.1 (fun H2 locs2 hH hS => ?_)
  show W p l e room_1 s m #[Value.ref b] below meth c H2 locs2 h2.1 h2.2.1 Q (F0 m 579 lsC [.long v, .long v])
  refine W.lcmp hx hb dl_579 ?_
  refine lv_if_eq (tgt := 1312) hx hb dl_580 rfl (fun _ => kk h2 H2 locs2 hH hI2 b1 b2 hS) (fun q => absurd ?_ q)
  rw [lg_eq]
set_option maxRecDepth 100000 in
set_option maxHeartbeats 4000000 in
theorem law_c11 {D : va_G} {dA : Nat → ClassId} {p : Program} {l : Launch} {e : Env} {s : State} {m : MethodId} {below : List Frame} {meth : Method} {c : Code} {b L : Nat} {xs : Nat → Int32} (C0 : lw_At p s m meth c b L xs) (hst : Stt D dA s) (hL : L ≤ 3584) {n : Nat} {h : Hp} {H : Heap} {locs : List Loc} {lsC : Array Slot} {Q : State → Prop} (hn : 7 * n + 7 ≤ L) (hH : HR D dA s.heap.size h H) (hI : Inv h) (hb1 : h.1 ≤ 98 + 5 * n) (hb2 : h.2.1 ≤ 2000 + 42 * n) (hS : va_S (fun q => s.heap.size ≤ q) s.heap H locs) (hl : lv_has lsC 4 (lawL s.heap.size b n)) (kk : ∀ (h2 : Hp) (H2 : Heap) (locs2 : List Loc), HR D dA s.heap.size h2 H2 → Inv h2 → h2.1 ≤ h.1 + 5 → h2.2.1 ≤ h.2.1 + 42 → va_S (fun q => s.heap.size ≤ q) s.heap H2 locs2 → W p l e room_1 s m #[Value.ref b] below meth c H2 locs2 h2.1 h2.2.1 Q (F0 m 1312 lsC [])) : W p l e room_1 s m #[Value.ref b] below meth c H locs h.1 h.2.1 Q (F0 m 585 lsC []) := by
  obtain ⟨hx, hb, hrt, hml, hown, hts, hX, hbl, -, -⟩ := id C0
  obtain ⟨r, h1, h2, v1, v2, rk, c74, hI2, b1, b2⟩ := two_split (l := l) hI (two_run h hI (xs (7 * n + 1)) (xs (7 * n + 2)) (xs (7 * n + 3)) (xs (7 * n + 4)))
  have g1 := v1.1
  have g2 := v2.1
  have m1 : mxl 70 = 6 := by decide +kernel
  have m2 : mxl 137 = 12 := by decide +kernel
  obtain ⟨v, rfl⟩ := rk.2.1 (by decide +kernel)
  obtain ⟨a1, a2, a3, a4⟩ := lcOK_of lc_63
  obtain ⟨a5, a6, a7, a8⟩ := lcOK_of lc_67
  refine lv_aload_n hx hb dl_585 rfl (lv_at hl 2 rfl) ?_
  refine lw_push (k := 1) C0 hL hS hl (by omega) dl_586 dl_587 dl_588 (by decide +kernel) dl_589 dl_590 ?_
  refine lw_push (k := 2) C0 hL hS hl (by omega) dl_591 dl_592 dl_593 (by decide +kernel) dl_594 dl_595 ?_
  refine lw_push (k := 3) C0 hL hS hl (by omega) dl_596 dl_597 dl_598 (by decide +kernel) dl_599 dl_600 ?_
  refine lw_push (k := 4) C0 hL hS hl (by omega) dl_601 dl_602 dl_603 (by decide +kernel) dl_604 dl_605 ?_
  refine lw_callV (base := s.heap.size) (h := h) (as := [.int (xs (7 * n + 1)), .int (xs (7 * n + 2)), .int (xs (7 * n + 3)), .int (xs (7 * n + 4))]) (rest := []) (j := 0) C0 hst a1 dl_606 a2 a3 a4 hI.c1 (vwc 9 (by decide)) (by decide +kernel) (by rw [m1]; exact Nat.le_of_ble_eq_true rfl) (by rw [m1]; exact v1) (by decide) ⟨by omega, by omega⟩ hH hS hl.1 (fun H1 locs1 hH hS => ?_)
  show W p l e room_1 s m #[Value.ref b] below meth c H1 locs1 h1.1 h1.2.1 Q (F0 m 609 lsC [.long v])
  refine lv_aload_n hx hb dl_609 rfl (lv_at hl 1 rfl) ?_
  refine lw_push (k := 1) C0 hL hS hl (by omega) dl_610 dl_611 dl_612 (by decide +kernel) dl_613 dl_614 ?_
  refine lw_push (k := 2) C0 hL hS hl (by omega) dl_615 dl_616 dl_617 (by decide +kernel) dl_618 dl_619 ?_
  refine lw_push (k := 3) C0 hL hS hl (by omega) dl_620 dl_621 dl_622 (by decide +kernel) dl_623 dl_624 ?_
  refine lw_push (k := 4) C0 hL hS hl (by omega) dl_625 dl_626 dl_627 (by decide +kernel) dl_628 dl_629 ?_
  refine lw_callV (base := s.heap.size) (h := h1) (as := [.int (xs (7 * n + 1)), .int (xs (7 * n + 2)), .int (xs (7 * n + 3)), .int (xs (7 * n + 4))]) (rest := [.long v]) (j := 73) C0 hst a5 dl_630 a6 a7 a8 c74 (vwc 10 (by decide)) (by decide +kernel) (by rw [m2]; exact Nat.le_of_ble_eq_true rfl) (by rw [m2]; exact v2) (Nat.le_of_ble_eq_true rfl) ⟨by omega, by omega⟩ hH hS hl.1 (fun H2 locs2 hH hS => ?_)
  show W p l e room_1 s m #[Value.ref b] below meth c H2 locs2 h2.1 h2.2.1 Q (F0 m 633 lsC [.long v, .long v])
  refine W.lcmp hx hb dl_633 ?_
  refine lv_if_eq (tgt := 1312) hx hb dl_634 rfl (fun _ => kk h2 H2 locs2 hH hI2 b1 b2 hS) (fun q => absurd ?_ q)
  rw [lg_eq]
set_option maxRecDepth 100000 in
set_option maxHeartbeats 4000000 in
theorem law_c12 {D : va_G} {dA : Nat → ClassId} {p : Program} {l : Launch} {e : Env} {s : State} {m : MethodId} {below : List Frame} {meth : Method} {c : Code} {b L : Nat} {xs : Nat → Int32} (C0 : lw_At p s m meth c b L xs) (hst : Stt D dA s) (hL : L ≤ 3584) {n : Nat} {h : Hp} {H : Heap} {locs : List Loc} {lsC : Array Slot} {Q : State → Prop} (hn : 7 * n + 7 ≤ L) (hH : HR D dA s.heap.size h H) (hI : Inv h) (hb1 : h.1 ≤ 98 + 5 * n) (hb2 : h.2.1 ≤ 2000 + 42 * n) (hS : va_S (fun q => s.heap.size ≤ q) s.heap H locs) (hl : lv_has lsC 4 (lawL s.heap.size b n)) (kk : ∀ (h2 : Hp) (H2 : Heap) (locs2 : List Loc), HR D dA s.heap.size h2 H2 → Inv h2 → h2.1 ≤ h.1 + 5 → h2.2.1 ≤ h.2.1 + 42 → va_S (fun q => s.heap.size ≤ q) s.heap H2 locs2 → W p l e room_1 s m #[Value.ref b] below meth c H2 locs2 h2.1 h2.2.1 Q (F0 m 1312 lsC [])) : W p l e room_1 s m #[Value.ref b] below meth c H locs h.1 h.2.1 Q (F0 m 639 lsC []) := by
  obtain ⟨hx, hb, hrt, hml, hown, hts, hX, hbl, -, -⟩ := id C0
  obtain ⟨r, h1, h2, v1, v2, rk, c74, hI2, b1, b2⟩ := two_split (l := l) hI (two_like h hI (xs (7 * n + 1)) (xs (7 * n + 2)))
  have g1 := v1.1
  have g2 := v2.1
  have m1 : mxl 71 = 5 := by decide +kernel
  have m2 : mxl 138 = 4 := by decide +kernel
  obtain ⟨v, rfl⟩ := rk.1 (by decide +kernel)
  obtain ⟨a1, a2, a3, a4⟩ := lcOK_of lc_68
  obtain ⟨a5, a6, a7, a8⟩ := lcOK_of lc_71
  refine lv_aload_n hx hb dl_639 rfl (lv_at hl 2 rfl) ?_
  refine lw_push (k := 1) C0 hL hS hl (by omega) dl_640 dl_641 dl_642 (by decide +kernel) dl_643 dl_644 ?_
  refine lw_push (k := 2) C0 hL hS hl (by omega) dl_645 dl_646 dl_647 (by decide +kernel) dl_648 dl_649 ?_
  refine lw_callV (base := s.heap.size) (h := h) (as := [.int (xs (7 * n + 1)), .int (xs (7 * n + 2))]) (rest := []) (j := 0) C0 hst a1 dl_650 a2 a3 a4 hI.c1 (vwc 9 (by decide)) (by decide +kernel) (by rw [m1]; exact Nat.le_of_ble_eq_true rfl) (by rw [m1]; exact v1) (by decide) ⟨by omega, by omega⟩ hH hS hl.1 (fun H1 locs1 hH hS => ?_)
  show W p l e room_1 s m #[Value.ref b] below meth c H1 locs1 h1.1 h1.2.1 Q (F0 m 653 lsC [.int v])
  refine lv_aload_n hx hb dl_653 rfl (lv_at hl 1 rfl) ?_
  refine lw_push (k := 1) C0 hL hS hl (by omega) dl_654 dl_655 dl_656 (by decide +kernel) dl_657 dl_658 ?_
  refine lw_push (k := 2) C0 hL hS hl (by omega) dl_659 dl_660 dl_661 (by decide +kernel) dl_662 dl_663 ?_
  refine lw_callV (base := s.heap.size) (h := h1) (as := [.int (xs (7 * n + 1)), .int (xs (7 * n + 2))]) (rest := [.int v]) (j := 73) C0 hst a5 dl_664 a6 a7 a8 c74 (vwc 10 (by decide)) (by decide +kernel) (by rw [m2]; exact Nat.le_of_ble_eq_true rfl) (by rw [m2]; exact v2) (Nat.le_of_ble_eq_true rfl) ⟨by omega, by omega⟩ hH hS hl.1 (fun H2 locs2 hH hS => ?_)
  show W p l e room_1 s m #[Value.ref b] below meth c H2 locs2 h2.1 h2.2.1 Q (F0 m 667 lsC [.int v, .int v])
  exact lv_icmp_eq (tgt := 1312) hx hb dl_667 rfl (fun _ => kk h2 H2 locs2 hH hI2 b1 b2 hS) (fun q => absurd rfl q)
set_option maxRecDepth 100000 in
set_option maxHeartbeats 4000000 in
theorem law_c13 {D : va_G} {dA : Nat → ClassId} {p : Program} {l : Launch} {e : Env} {s : State} {m : MethodId} {below : List Frame} {meth : Method} {c : Code} {b L : Nat} {xs : Nat → Int32} (C0 : lw_At p s m meth c b L xs) (hst : Stt D dA s) (hL : L ≤ 3584) {n : Nat} {h : Hp} {H : Heap} {locs : List Loc} {lsC : Array Slot} {Q : State → Prop} (hn : 7 * n + 7 ≤ L) (hH : HR D dA s.heap.size h H) (hI : Inv h) (hb1 : h.1 ≤ 98 + 5 * n) (hb2 : h.2.1 ≤ 2000 + 42 * n) (hS : va_S (fun q => s.heap.size ≤ q) s.heap H locs) (hl : lv_has lsC 4 (lawL s.heap.size b n)) (kk : ∀ (h2 : Hp) (H2 : Heap) (locs2 : List Loc), HR D dA s.heap.size h2 H2 → Inv h2 → h2.1 ≤ h.1 + 5 → h2.2.1 ≤ h.2.1 + 42 → va_S (fun q => s.heap.size ≤ q) s.heap H2 locs2 → W p l e room_1 s m #[Value.ref b] below meth c H2 locs2 h2.1 h2.2.1 Q (F0 m 1312 lsC [])) : W p l e room_1 s m #[Value.ref b] below meth c H locs h.1 h.2.1 Q (F0 m 672 lsC []) := by
  obtain ⟨hx, hb, hrt, hml, hown, hts, hX, hbl, -, -⟩ := id C0
  obtain ⟨r, h1, h2, v1, v2, rk, c74, hI2, b1, b2⟩ := two_split (l := l) hI (two_gain h hI (xs (7 * n + 1)) (xs (7 * n + 2)) (xs (7 * n + 3)) (xs (7 * n + 4)) (xs (7 * n + 5)) (xs (7 * n + 6)))
  have g1 := v1.1
  have g2 := v2.1
  have m1 : mxl 72 = 8 := by decide +kernel
  have m2 : mxl 140 = 11 := by decide +kernel
  obtain ⟨v, rfl⟩ := rk.2.1 (by decide +kernel)
  obtain ⟨a1, a2, a3, a4⟩ := lcOK_of lc_72
  obtain ⟨a5, a6, a7, a8⟩ := lcOK_of lc_76
  refine lv_aload_n hx hb dl_672 rfl (lv_at hl 2 rfl) ?_
  refine lw_push (k := 1) C0 hL hS hl (by omega) dl_673 dl_674 dl_675 (by decide +kernel) dl_676 dl_677 ?_
  refine lw_push (k := 2) C0 hL hS hl (by omega) dl_678 dl_679 dl_680 (by decide +kernel) dl_681 dl_682 ?_
  refine lw_push (k := 3) C0 hL hS hl (by omega) dl_683 dl_684 dl_685 (by decide +kernel) dl_686 dl_687 ?_
  refine lw_push (k := 4) C0 hL hS hl (by omega) dl_688 dl_689 dl_690 (by decide +kernel) dl_691 dl_692 ?_
  refine lw_push (k := 5) C0 hL hS hl (by omega) dl_693 dl_694 dl_695 (by decide +kernel) dl_696 dl_697 ?_
  refine lw_push6 (k := 6) C0 hL hS hl (by omega) dl_698 dl_699 dl_700 (by decide +kernel) dl_702 dl_703 ?_
  refine lw_callV (base := s.heap.size) (h := h) (as := [.int (xs (7 * n + 1)), .int (xs (7 * n + 2)), .int (xs (7 * n + 3)), .int (xs (7 * n + 4)), .int (xs (7 * n + 5)), .int (xs (7 * n + 6))]) (rest := []) (j := 0) C0 hst a1 dl_704 a2 a3 a4 hI.c1 (vwc 9 (by decide)) (by decide +kernel) (by rw [m1]; exact Nat.le_of_ble_eq_true rfl) (by rw [m1]; exact v1) (by decide) ⟨by omega, by omega⟩ hH hS hl.1 (fun H1 locs1 hH hS => ?_)
  show W p l e room_1 s m #[Value.ref b] below meth c H1 locs1 h1.1 h1.2.1 Q (F0 m 707 lsC [.long v])
  refine lv_aload_n hx hb dl_707 rfl (lv_at hl 1 rfl) ?_
  refine lw_push (k := 1) C0 hL hS hl (by omega) dl_708 dl_709 dl_710 (by decide +kernel) dl_711 dl_712 ?_
  refine lw_push (k := 2) C0 hL hS hl (by omega) dl_713 dl_714 dl_715 (by decide +kernel) dl_716 dl_717 ?_
  refine lw_push (k := 3) C0 hL hS hl (by omega) dl_718 dl_719 dl_720 (by decide +kernel) dl_721 dl_722 ?_
  refine lw_push (k := 4) C0 hL hS hl (by omega) dl_723 dl_724 dl_725 (by decide +kernel) dl_726 dl_727 ?_
  refine lw_push (k := 5) C0 hL hS hl (by omega) dl_728 dl_729 dl_730 (by decide +kernel) dl_731 dl_732 ?_
  refine lw_push6 (k := 6) C0 hL hS hl (by omega) dl_733 dl_734 dl_735 (by decide +kernel) dl_737 dl_738 ?_
  refine lw_callV (base := s.heap.size) (h := h1) (as := [.int (xs (7 * n + 1)), .int (xs (7 * n + 2)), .int (xs (7 * n + 3)), .int (xs (7 * n + 4)), .int (xs (7 * n + 5)), .int (xs (7 * n + 6))]) (rest := [.long v]) (j := 73) C0 hst a5 dl_739 a6 a7 a8 c74 (vwc 10 (by decide)) (by decide +kernel) (by rw [m2]; exact Nat.le_of_ble_eq_true rfl) (by rw [m2]; exact v2) (Nat.le_of_ble_eq_true rfl) ⟨by omega, by omega⟩ hH hS hl.1 (fun H2 locs2 hH hS => ?_)
  show W p l e room_1 s m #[Value.ref b] below meth c H2 locs2 h2.1 h2.2.1 Q (F0 m 742 lsC [.long v, .long v])
  refine W.lcmp hx hb dl_742 ?_
  refine lv_if_eq (tgt := 1312) hx hb dl_743 rfl (fun _ => kk h2 H2 locs2 hH hI2 b1 b2 hS) (fun q => absurd ?_ q)
  rw [lg_eq]
set_option maxRecDepth 100000 in
set_option maxHeartbeats 4000000 in
theorem law_c14 {D : va_G} {dA : Nat → ClassId} {p : Program} {l : Launch} {e : Env} {s : State} {m : MethodId} {below : List Frame} {meth : Method} {c : Code} {b L : Nat} {xs : Nat → Int32} (C0 : lw_At p s m meth c b L xs) (hst : Stt D dA s) (hL : L ≤ 3584) {n : Nat} {h : Hp} {H : Heap} {locs : List Loc} {lsC : Array Slot} {Q : State → Prop} (hn : 7 * n + 7 ≤ L) (hH : HR D dA s.heap.size h H) (hI : Inv h) (hb1 : h.1 ≤ 98 + 5 * n) (hb2 : h.2.1 ≤ 2000 + 42 * n) (hS : va_S (fun q => s.heap.size ≤ q) s.heap H locs) (hl : lv_has lsC 4 (lawL s.heap.size b n)) (kk : ∀ (h2 : Hp) (H2 : Heap) (locs2 : List Loc), HR D dA s.heap.size h2 H2 → Inv h2 → h2.1 ≤ h.1 + 5 → h2.2.1 ≤ h.2.1 + 42 → va_S (fun q => s.heap.size ≤ q) s.heap H2 locs2 → W p l e room_1 s m #[Value.ref b] below meth c H2 locs2 h2.1 h2.2.1 Q (F0 m 1312 lsC [])) : W p l e room_1 s m #[Value.ref b] below meth c H locs h.1 h.2.1 Q (F0 m 748 lsC []) := by
  obtain ⟨hx, hb, hrt, hml, hown, hts, hX, hbl, -, -⟩ := id C0
  obtain ⟨r, h1, h2, v1, v2, rk, c74, hI2, b1, b2⟩ := two_split (l := l) hI (two_soonest h hI (xs (7 * n + 1)) (xs (7 * n + 2)) (xs (7 * n + 3)) (xs (7 * n + 4)))
  have g1 := v1.1
  have g2 := v2.1
  have m1 : mxl 73 = 6 := by decide +kernel
  have m2 : mxl 141 = 9 := by decide +kernel
  obtain ⟨v, rfl⟩ := rk.1 (by decide +kernel)
  obtain ⟨a1, a2, a3, a4⟩ := lcOK_of lc_77
  obtain ⟨a5, a6, a7, a8⟩ := lcOK_of lc_80
  refine lv_aload_n hx hb dl_748 rfl (lv_at hl 2 rfl) ?_
  refine lw_push (k := 1) C0 hL hS hl (by omega) dl_749 dl_750 dl_751 (by decide +kernel) dl_752 dl_753 ?_
  refine lw_push (k := 2) C0 hL hS hl (by omega) dl_754 dl_755 dl_756 (by decide +kernel) dl_757 dl_758 ?_
  refine lw_push (k := 3) C0 hL hS hl (by omega) dl_759 dl_760 dl_761 (by decide +kernel) dl_762 dl_763 ?_
  refine lw_push (k := 4) C0 hL hS hl (by omega) dl_764 dl_765 dl_766 (by decide +kernel) dl_767 dl_768 ?_
  refine lw_callV (base := s.heap.size) (h := h) (as := [.int (xs (7 * n + 1)), .int (xs (7 * n + 2)), .int (xs (7 * n + 3)), .int (xs (7 * n + 4))]) (rest := []) (j := 0) C0 hst a1 dl_769 a2 a3 a4 hI.c1 (vwc 9 (by decide)) (by decide +kernel) (by rw [m1]; exact Nat.le_of_ble_eq_true rfl) (by rw [m1]; exact v1) (by decide) ⟨by omega, by omega⟩ hH hS hl.1 (fun H1 locs1 hH hS => ?_)
  show W p l e room_1 s m #[Value.ref b] below meth c H1 locs1 h1.1 h1.2.1 Q (F0 m 772 lsC [.int v])
  refine lv_aload_n hx hb dl_772 rfl (lv_at hl 1 rfl) ?_
  refine lw_push (k := 1) C0 hL hS hl (by omega) dl_773 dl_774 dl_775 (by decide +kernel) dl_776 dl_777 ?_
  refine lw_push (k := 2) C0 hL hS hl (by omega) dl_778 dl_779 dl_780 (by decide +kernel) dl_781 dl_782 ?_
  refine lw_push (k := 3) C0 hL hS hl (by omega) dl_783 dl_784 dl_785 (by decide +kernel) dl_786 dl_787 ?_
  refine lw_push (k := 4) C0 hL hS hl (by omega) dl_788 dl_789 dl_790 (by decide +kernel) dl_791 dl_792 ?_
  refine lw_callV (base := s.heap.size) (h := h1) (as := [.int (xs (7 * n + 1)), .int (xs (7 * n + 2)), .int (xs (7 * n + 3)), .int (xs (7 * n + 4))]) (rest := [.int v]) (j := 73) C0 hst a5 dl_793 a6 a7 a8 c74 (vwc 10 (by decide)) (by decide +kernel) (by rw [m2]; exact Nat.le_of_ble_eq_true rfl) (by rw [m2]; exact v2) (Nat.le_of_ble_eq_true rfl) ⟨by omega, by omega⟩ hH hS hl.1 (fun H2 locs2 hH hS => ?_)
  show W p l e room_1 s m #[Value.ref b] below meth c H2 locs2 h2.1 h2.2.1 Q (F0 m 796 lsC [.int v, .int v])
  exact lv_icmp_eq (tgt := 1312) hx hb dl_796 rfl (fun _ => kk h2 H2 locs2 hH hI2 b1 b2 hS) (fun q => absurd rfl q)
set_option maxRecDepth 100000 in
set_option maxHeartbeats 4000000 in
theorem law_c15 {D : va_G} {dA : Nat → ClassId} {p : Program} {l : Launch} {e : Env} {s : State} {m : MethodId} {below : List Frame} {meth : Method} {c : Code} {b L : Nat} {xs : Nat → Int32} (C0 : lw_At p s m meth c b L xs) (hst : Stt D dA s) (hL : L ≤ 3584) {n : Nat} {h : Hp} {H : Heap} {locs : List Loc} {lsC : Array Slot} {Q : State → Prop} (hn : 7 * n + 7 ≤ L) (hH : HR D dA s.heap.size h H) (hI : Inv h) (hb1 : h.1 ≤ 98 + 5 * n) (hb2 : h.2.1 ≤ 2000 + 42 * n) (hS : va_S (fun q => s.heap.size ≤ q) s.heap H locs) (hl : lv_has lsC 4 (lawL s.heap.size b n)) (kk : ∀ (h2 : Hp) (H2 : Heap) (locs2 : List Loc), HR D dA s.heap.size h2 H2 → Inv h2 → h2.1 ≤ h.1 + 5 → h2.2.1 ≤ h.2.1 + 42 → va_S (fun q => s.heap.size ≤ q) s.heap H2 locs2 → W p l e room_1 s m #[Value.ref b] below meth c H2 locs2 h2.1 h2.2.1 Q (F0 m 1312 lsC [])) : W p l e room_1 s m #[Value.ref b] below meth c H locs h.1 h.2.1 Q (F0 m 801 lsC []) := by
  obtain ⟨hx, hb, hrt, hml, hown, hts, hX, hbl, -, -⟩ := id C0
  obtain ⟨r, h1, h2, v1, v2, rk, c74, hI2, b1, b2⟩ := two_split (l := l) hI (two_energy h hI (xs (7 * n + 1)) (xs (7 * n + 2)) (xs (7 * n + 3)) (xs (7 * n + 4)))
  have g1 := v1.1
  have g2 := v2.1
  have m1 : mxl 74 = 6 := by decide +kernel
  have m2 : mxl 144 = 5 := by decide +kernel
  obtain ⟨v, rfl⟩ := rk.2.1 (by decide +kernel)
  obtain ⟨a1, a2, a3, a4⟩ := lcOK_of lc_81
  obtain ⟨a5, a6, a7, a8⟩ := lcOK_of lc_84
  refine lv_aload_n hx hb dl_801 rfl (lv_at hl 2 rfl) ?_
  refine lw_push (k := 1) C0 hL hS hl (by omega) dl_802 dl_803 dl_804 (by decide +kernel) dl_805 dl_806 ?_
  refine lw_push (k := 2) C0 hL hS hl (by omega) dl_807 dl_808 dl_809 (by decide +kernel) dl_810 dl_811 ?_
  refine lw_push (k := 3) C0 hL hS hl (by omega) dl_812 dl_813 dl_814 (by decide +kernel) dl_815 dl_816 ?_
  refine lw_push (k := 4) C0 hL hS hl (by omega) dl_817 dl_818 dl_819 (by decide +kernel) dl_820 dl_821 ?_
  refine lw_callV (base := s.heap.size) (h := h) (as := [.int (xs (7 * n + 1)), .int (xs (7 * n + 2)), .int (xs (7 * n + 3)), .int (xs (7 * n + 4))]) (rest := []) (j := 0) C0 hst a1 dl_822 a2 a3 a4 hI.c1 (vwc 9 (by decide)) (by decide +kernel) (by rw [m1]; exact Nat.le_of_ble_eq_true rfl) (by rw [m1]; exact v1) (by decide) ⟨by omega, by omega⟩ hH hS hl.1 (fun H1 locs1 hH hS => ?_)
  show W p l e room_1 s m #[Value.ref b] below meth c H1 locs1 h1.1 h1.2.1 Q (F0 m 825 lsC [.long v])
  refine lv_aload_n hx hb dl_825 rfl (lv_at hl 1 rfl) ?_
  refine lw_push (k := 1) C0 hL hS hl (by omega) dl_826 dl_827 dl_828 (by decide +kernel) dl_829 dl_830 ?_
  refine lw_push (k := 2) C0 hL hS hl (by omega) dl_831 dl_832 dl_833 (by decide +kernel) dl_834 dl_835 ?_
  refine lw_push (k := 3) C0 hL hS hl (by omega) dl_836 dl_837 dl_838 (by decide +kernel) dl_839 dl_840 ?_
  refine lw_push (k := 4) C0 hL hS hl (by omega) dl_841 dl_842 dl_843 (by decide +kernel) dl_844 dl_845 ?_
  refine lw_callV (base := s.heap.size) (h := h1) (as := [.int (xs (7 * n + 1)), .int (xs (7 * n + 2)), .int (xs (7 * n + 3)), .int (xs (7 * n + 4))]) (rest := [.long v]) (j := 73) C0 hst a5 dl_846 a6 a7 a8 c74 (vwc 10 (by decide)) (by decide +kernel) (by rw [m2]; exact Nat.le_of_ble_eq_true rfl) (by rw [m2]; exact v2) (Nat.le_of_ble_eq_true rfl) ⟨by omega, by omega⟩ hH hS hl.1 (fun H2 locs2 hH hS => ?_)
  show W p l e room_1 s m #[Value.ref b] below meth c H2 locs2 h2.1 h2.2.1 Q (F0 m 849 lsC [.long v, .long v])
  refine W.lcmp hx hb dl_849 ?_
  refine lv_if_eq (tgt := 1312) hx hb dl_850 rfl (fun _ => kk h2 H2 locs2 hH hI2 b1 b2 hS) (fun q => absurd ?_ q)
  rw [lg_eq]
set_option maxRecDepth 100000 in
set_option maxHeartbeats 4000000 in
theorem law_c16 {D : va_G} {dA : Nat → ClassId} {p : Program} {l : Launch} {e : Env} {s : State} {m : MethodId} {below : List Frame} {meth : Method} {c : Code} {b L : Nat} {xs : Nat → Int32} (C0 : lw_At p s m meth c b L xs) (hst : Stt D dA s) (hL : L ≤ 3584) {n : Nat} {h : Hp} {H : Heap} {locs : List Loc} {lsC : Array Slot} {Q : State → Prop} (hn : 7 * n + 7 ≤ L) (hH : HR D dA s.heap.size h H) (hI : Inv h) (hb1 : h.1 ≤ 98 + 5 * n) (hb2 : h.2.1 ≤ 2000 + 42 * n) (hS : va_S (fun q => s.heap.size ≤ q) s.heap H locs) (hl : lv_has lsC 4 (lawL s.heap.size b n)) (kk : ∀ (h2 : Hp) (H2 : Heap) (locs2 : List Loc), HR D dA s.heap.size h2 H2 → Inv h2 → h2.1 ≤ h.1 + 5 → h2.2.1 ≤ h.2.1 + 42 → va_S (fun q => s.heap.size ≤ q) s.heap H2 locs2 → W p l e room_1 s m #[Value.ref b] below meth c H2 locs2 h2.1 h2.2.1 Q (F0 m 1312 lsC [])) : W p l e room_1 s m #[Value.ref b] below meth c H locs h.1 h.2.1 Q (F0 m 855 lsC []) := by
  obtain ⟨hx, hb, hrt, hml, hown, hts, hX, hbl, -, -⟩ := id C0
  obtain ⟨r, h1, h2, v1, v2, rk, c74, hI2, b1, b2⟩ := two_split (l := l) hI (two_write h hI (xs (7 * n + 1)))
  have g1 := v1.1
  have g2 := v2.1
  have m1 : mxl 75 = 3 := by decide +kernel
  have m2 : mxl 146 = 3 := by decide +kernel
  obtain ⟨v, rfl⟩ := rk.1 (by decide +kernel)
  obtain ⟨a1, a2, a3, a4⟩ := lcOK_of lc_85
  obtain ⟨a5, a6, a7, a8⟩ := lcOK_of lc_89
  refine lv_aload_n hx hb dl_855 rfl (lv_at hl 2 rfl) ?_
  refine lw_push (k := 1) C0 hL hS hl (by omega) dl_856 dl_857 dl_858 (by decide +kernel) dl_859 dl_860 ?_
  refine lw_callV (base := s.heap.size) (h := h) (as := [.int (xs (7 * n + 1))]) (rest := []) (j := 0) C0 hst a1 dl_861 a2 a3 a4 hI.c1 (vwc 9 (by decide)) (by decide +kernel) (by rw [m1]; exact Nat.le_of_ble_eq_true rfl) (by rw [m1]; exact v1) (by decide) ⟨by omega, by omega⟩ hH hS hl.1 (fun H1 locs1 hH hS => ?_)
  show W p l e room_1 s m #[Value.ref b] below meth c H1 locs1 h1.1 h1.2.1 Q (F0 m 864 lsC [.int v])
  refine lv_aload_n hx hb dl_864 rfl (lv_at hl 1 rfl) ?_
  refine lw_push (k := 1) C0 hL hS hl (by omega) dl_865 dl_866 dl_867 (by decide +kernel) dl_868 dl_869 ?_
  refine lw_callV (base := s.heap.size) (h := h1) (as := [.int (xs (7 * n + 1))]) (rest := [.int v]) (j := 73) C0 hst a5 dl_870 a6 a7 a8 c74 (vwc 10 (by decide)) (by decide +kernel) (by rw [m2]; exact Nat.le_of_ble_eq_true rfl) (by rw [m2]; exact v2) (Nat.le_of_ble_eq_true rfl) ⟨by omega, by omega⟩ hH hS hl.1 (fun H2 locs2 hH hS => ?_)
  show W p l e room_1 s m #[Value.ref b] below meth c H2 locs2 h2.1 h2.2.1 Q (F0 m 873 lsC [.int v, .int v])
  exact lv_icmp_eq (tgt := 1312) hx hb dl_873 rfl (fun _ => kk h2 H2 locs2 hH hI2 b1 b2 hS) (fun q => absurd rfl q)
set_option maxRecDepth 100000 in
set_option maxHeartbeats 4000000 in
theorem law_c17 {D : va_G} {dA : Nat → ClassId} {p : Program} {l : Launch} {e : Env} {s : State} {m : MethodId} {below : List Frame} {meth : Method} {c : Code} {b L : Nat} {xs : Nat → Int32} (C0 : lw_At p s m meth c b L xs) (hst : Stt D dA s) (hL : L ≤ 3584) {n : Nat} {h : Hp} {H : Heap} {locs : List Loc} {lsC : Array Slot} {Q : State → Prop} (hn : 7 * n + 7 ≤ L) (hH : HR D dA s.heap.size h H) (hI : Inv h) (hb1 : h.1 ≤ 98 + 5 * n) (hb2 : h.2.1 ≤ 2000 + 42 * n) (hS : va_S (fun q => s.heap.size ≤ q) s.heap H locs) (hl : lv_has lsC 4 (lawL s.heap.size b n)) (kk : ∀ (h2 : Hp) (H2 : Heap) (locs2 : List Loc), HR D dA s.heap.size h2 H2 → Inv h2 → h2.1 ≤ h.1 + 5 → h2.2.1 ≤ h.2.1 + 42 → va_S (fun q => s.heap.size ≤ q) s.heap H2 locs2 → W p l e room_1 s m #[Value.ref b] below meth c H2 locs2 h2.1 h2.2.1 Q (F0 m 1312 lsC [])) : W p l e room_1 s m #[Value.ref b] below meth c H locs h.1 h.2.1 Q (F0 m 878 lsC []) := by
  obtain ⟨hx, hb, hrt, hml, hown, hts, hX, hbl, -, -⟩ := id C0
  obtain ⟨r, h1, h2, v1, v2, rk, c74, hI2, b1, b2⟩ := two_split (l := l) hI (two_row h hI (xs (7 * n + 1)))
  have g1 := v1.1
  have g2 := v2.1
  have m1 : mxl 76 = 2 := by decide +kernel
  have m2 : mxl 147 = 2 := by decide +kernel
  obtain ⟨v, rfl⟩ := rk.2.1 (by decide +kernel)
  obtain ⟨a1, a2, a3, a4⟩ := lcOK_of lc_90
  obtain ⟨a5, a6, a7, a8⟩ := lcOK_of lc_94
  refine lv_aload_n hx hb dl_878 rfl (lv_at hl 2 rfl) ?_
  refine lw_push (k := 1) C0 hL hS hl (by omega) dl_879 dl_880 dl_881 (by decide +kernel) dl_882 dl_883 ?_
  refine lw_callV (base := s.heap.size) (h := h) (as := [.int (xs (7 * n + 1))]) (rest := []) (j := 0) C0 hst a1 dl_884 a2 a3 a4 hI.c1 (vwc 9 (by decide)) (by decide +kernel) (by rw [m1]; exact Nat.le_of_ble_eq_true rfl) (by rw [m1]; exact v1) (by decide) ⟨by omega, by omega⟩ hH hS hl.1 (fun H1 locs1 hH hS => ?_)
  show W p l e room_1 s m #[Value.ref b] below meth c H1 locs1 h1.1 h1.2.1 Q (F0 m 887 lsC [.long v])
  refine lv_aload_n hx hb dl_887 rfl (lv_at hl 1 rfl) ?_
  refine lw_push (k := 1) C0 hL hS hl (by omega) dl_888 dl_889 dl_890 (by decide +kernel) dl_891 dl_892 ?_
  refine lw_callV (base := s.heap.size) (h := h1) (as := [.int (xs (7 * n + 1))]) (rest := [.long v]) (j := 73) C0 hst a5 dl_893 a6 a7 a8 c74 (vwc 10 (by decide)) (by decide +kernel) (by rw [m2]; exact Nat.le_of_ble_eq_true rfl) (by rw [m2]; exact v2) (Nat.le_of_ble_eq_true rfl) ⟨by omega, by omega⟩ hH hS hl.1 (fun H2 locs2 hH hS => ?_)
  show W p l e room_1 s m #[Value.ref b] below meth c H2 locs2 h2.1 h2.2.1 Q (F0 m 896 lsC [.long v, .long v])
  refine W.lcmp hx hb dl_896 ?_
  refine lv_if_eq (tgt := 1312) hx hb dl_897 rfl (fun _ => kk h2 H2 locs2 hH hI2 b1 b2 hS) (fun q => absurd ?_ q)
  rw [lg_eq]
set_option maxRecDepth 100000 in
set_option maxHeartbeats 4000000 in
theorem law_c18 {D : va_G} {dA : Nat → ClassId} {p : Program} {l : Launch} {e : Env} {s : State} {m : MethodId} {below : List Frame} {meth : Method} {c : Code} {b L : Nat} {xs : Nat → Int32} (C0 : lw_At p s m meth c b L xs) (hst : Stt D dA s) (hL : L ≤ 3584) {n : Nat} {h : Hp} {H : Heap} {locs : List Loc} {lsC : Array Slot} {Q : State → Prop} (hn : 7 * n + 7 ≤ L) (hH : HR D dA s.heap.size h H) (hI : Inv h) (hb1 : h.1 ≤ 98 + 5 * n) (hb2 : h.2.1 ≤ 2000 + 42 * n) (hS : va_S (fun q => s.heap.size ≤ q) s.heap H locs) (hl : lv_has lsC 4 (lawL s.heap.size b n)) (kk : ∀ (h2 : Hp) (H2 : Heap) (locs2 : List Loc), HR D dA s.heap.size h2 H2 → Inv h2 → h2.1 ≤ h.1 + 5 → h2.2.1 ≤ h.2.1 + 42 → va_S (fun q => s.heap.size ≤ q) s.heap H2 locs2 → W p l e room_1 s m #[Value.ref b] below meth c H2 locs2 h2.1 h2.2.1 Q (F0 m 1312 lsC [])) : W p l e room_1 s m #[Value.ref b] below meth c H locs h.1 h.2.1 Q (F0 m 902 lsC []) := by
  obtain ⟨hx, hb, hrt, hml, hown, hts, hX, hbl, -, -⟩ := id C0
  obtain ⟨r, h1, h2, v1, v2, rk, c74, hI2, b1, b2⟩ := two_split (l := l) hI (two_forge h hI (xs (7 * n + 1)) ((xs (7 * n + 2)).toInt64 <<< ((32 : Int32).toInt64 &&& 63) ||| ((xs (7 * n + 3)).toInt64 &&& 4294967295)))
  have g1 := v1.1
  have g2 := v2.1
  have m1 : mxl 77 = 4 := by decide +kernel
  have m2 : mxl 148 = 4 := by decide +kernel
  obtain ⟨v, rfl⟩ := rk.1 (by decide +kernel)
  obtain ⟨a1, a2, a3, a4⟩ := lcOK_of lc_97
  obtain ⟨a5, a6, a7, a8⟩ := lcOK_of lc_101
  refine lv_aload_n hx hb dl_902 rfl (lv_at hl 2 rfl) ?_
  refine lw_push (k := 1) C0 hL hS hl (by omega) dl_903 dl_904 dl_905 (by decide +kernel) dl_906 dl_907 ?_
  refine lw_push (k := 2) C0 hL hS hl (by omega) dl_908 dl_909 dl_910 (by decide +kernel) dl_911 dl_912 ?_
  refine lv_i2l hx hb dl_913 rfl ?_
  refine lv_bipush (v := 32) hx hb dl_914 (by decide +kernel) ?_
  refine lv_lshl hx hb dl_916 rfl ?_
  refine lw_push (k := 3) C0 hL hS hl (by omega) dl_917 dl_918 dl_919 (by decide +kernel) dl_920 dl_921 ?_
  refine lv_i2l hx hb dl_922 rfl ?_
  refine lv_ldc2 (v := 4294967295) hx hb hown (hts (.constantLong R_law 95 4294967295) (by decide +kernel)) dl_923 ?_
  refine lv_land hx hb dl_926 ?_
  refine lv_lor hx hb dl_927 ?_
  refine lw_callV (base := s.heap.size) (h := h) (as := [.int (xs (7 * n + 1)), .long ((xs (7 * n + 2)).toInt64 <<< ((32 : Int32).toInt64 &&& 63) ||| ((xs (7 * n + 3)).toInt64 &&& 4294967295))]) (rest := []) (j := 0) C0 hst a1 dl_928 a2 a3 a4 hI.c1 (vwc 9 (by decide)) (by decide +kernel) (by rw [m1]; exact Nat.le_of_ble_eq_true rfl) (by rw [m1]; exact v1) (by decide) ⟨by omega, by omega⟩ hH hS hl.1 (fun H1 locs1 hH hS => ?_)
  show W p l e room_1 s m #[Value.ref b] below meth c H1 locs1 h1.1 h1.2.1 Q (F0 m 931 lsC [.int v])
  refine lv_aload_n hx hb dl_931 rfl (lv_at hl 1 rfl) ?_
  refine lw_push (k := 1) C0 hL hS hl (by omega) dl_932 dl_933 dl_934 (by decide +kernel) dl_935 dl_936 ?_
  refine lw_push (k := 2) C0 hL hS hl (by omega) dl_937 dl_938 dl_939 (by decide +kernel) dl_940 dl_941 ?_
  refine lv_i2l hx hb dl_942 rfl ?_
  refine lv_bipush (v := 32) hx hb dl_943 (by decide +kernel) ?_
  refine lv_lshl hx hb dl_945 rfl ?_
  refine lw_push (k := 3) C0 hL hS hl (by omega) dl_946 dl_947 dl_948 (by decide +kernel) dl_949 dl_950 ?_
  refine lv_i2l hx hb dl_951 rfl ?_
  refine lv_ldc2 (v := 4294967295) hx hb hown (hts (.constantLong R_law 95 4294967295) (by decide +kernel)) dl_952 ?_
  refine lv_land hx hb dl_955 ?_
  refine lv_lor hx hb dl_956 ?_
  refine lw_callV (base := s.heap.size) (h := h1) (as := [.int (xs (7 * n + 1)), .long ((xs (7 * n + 2)).toInt64 <<< ((32 : Int32).toInt64 &&& 63) ||| ((xs (7 * n + 3)).toInt64 &&& 4294967295))]) (rest := [.int v]) (j := 73) C0 hst a5 dl_957 a6 a7 a8 c74 (vwc 10 (by decide)) (by decide +kernel) (by rw [m2]; exact Nat.le_of_ble_eq_true rfl) (by rw [m2]; exact v2) (Nat.le_of_ble_eq_true rfl) ⟨by omega, by omega⟩ hH hS hl.1 (fun H2 locs2 hH hS => ?_)
  show W p l e room_1 s m #[Value.ref b] below meth c H2 locs2 h2.1 h2.2.1 Q (F0 m 960 lsC [.int v, .int v])
  exact lv_icmp_eq (tgt := 1312) hx hb dl_960 rfl (fun _ => kk h2 H2 locs2 hH hI2 b1 b2 hS) (fun q => absurd rfl q)
set_option maxRecDepth 100000 in
set_option maxHeartbeats 4000000 in
theorem law_c19 {D : va_G} {dA : Nat → ClassId} {p : Program} {l : Launch} {e : Env} {s : State} {m : MethodId} {below : List Frame} {meth : Method} {c : Code} {b L : Nat} {xs : Nat → Int32} (C0 : lw_At p s m meth c b L xs) (hst : Stt D dA s) (hL : L ≤ 3584) {n : Nat} {h : Hp} {H : Heap} {locs : List Loc} {lsC : Array Slot} {Q : State → Prop} (hn : 7 * n + 7 ≤ L) (hH : HR D dA s.heap.size h H) (hI : Inv h) (hb1 : h.1 ≤ 98 + 5 * n) (hb2 : h.2.1 ≤ 2000 + 42 * n) (hS : va_S (fun q => s.heap.size ≤ q) s.heap H locs) (hl : lv_has lsC 4 (lawL s.heap.size b n)) (kk : ∀ (h2 : Hp) (H2 : Heap) (locs2 : List Loc), HR D dA s.heap.size h2 H2 → Inv h2 → h2.1 ≤ h.1 + 5 → h2.2.1 ≤ h.2.1 + 42 → va_S (fun q => s.heap.size ≤ q) s.heap H2 locs2 → W p l e room_1 s m #[Value.ref b] below meth c H2 locs2 h2.1 h2.2.1 Q (F0 m 1312 lsC [])) : W p l e room_1 s m #[Value.ref b] below meth c H locs h.1 h.2.1 Q (F0 m 965 lsC []) := by
  obtain ⟨hx, hb, hrt, hml, hown, hts, hX, hbl, -, -⟩ := id C0
  obtain ⟨r, h1, h2, v1, v2, rk, c74, hI2, b1, b2⟩ := two_split (l := l) hI (two_check h hI (xs (7 * n + 1)))
  have g1 := v1.1
  have g2 := v2.1
  have m1 : mxl 78 = 6 := by decide +kernel
  have m2 : mxl 149 = 10 := by decide +kernel
  obtain ⟨v, rfl⟩ := rk.1 (by decide +kernel)
  obtain ⟨a1, a2, a3, a4⟩ := lcOK_of lc_102
  obtain ⟨a5, a6, a7, a8⟩ := lcOK_of lc_105
  refine lv_aload_n hx hb dl_965 rfl (lv_at hl 2 rfl) ?_
  refine lw_push (k := 1) C0 hL hS hl (by omega) dl_966 dl_967 dl_968 (by decide +kernel) dl_969 dl_970 ?_
  refine lw_callV (base := s.heap.size) (h := h) (as := [.int (xs (7 * n + 1))]) (rest := []) (j := 0) C0 hst a1 dl_971 a2 a3 a4 hI.c1 (vwc 9 (by decide)) (by decide +kernel) (by rw [m1]; exact Nat.le_of_ble_eq_true rfl) (by rw [m1]; exact v1) (by decide) ⟨by omega, by omega⟩ hH hS hl.1 (fun H1 locs1 hH hS => ?_)
  show W p l e room_1 s m #[Value.ref b] below meth c H1 locs1 h1.1 h1.2.1 Q (F0 m 974 lsC [.int v])
  refine lv_aload_n hx hb dl_974 rfl (lv_at hl 1 rfl) ?_
  refine lw_push (k := 1) C0 hL hS hl (by omega) dl_975 dl_976 dl_977 (by decide +kernel) dl_978 dl_979 ?_
  refine lw_callV (base := s.heap.size) (h := h1) (as := [.int (xs (7 * n + 1))]) (rest := [.int v]) (j := 73) C0 hst a5 dl_980 a6 a7 a8 c74 (vwc 10 (by decide)) (by decide +kernel) (by rw [m2]; exact Nat.le_of_ble_eq_true rfl) (by rw [m2]; exact v2) (Nat.le_of_ble_eq_true rfl) ⟨by omega, by omega⟩ hH hS hl.1 (fun H2 locs2 hH hS => ?_)
  show W p l e room_1 s m #[Value.ref b] below meth c H2 locs2 h2.1 h2.2.1 Q (F0 m 983 lsC [.int v, .int v])
  exact lv_icmp_eq (tgt := 1312) hx hb dl_983 rfl (fun _ => kk h2 H2 locs2 hH hI2 b1 b2 hS) (fun q => absurd rfl q)
set_option maxRecDepth 100000 in
set_option maxHeartbeats 4000000 in
theorem law_c20 {D : va_G} {dA : Nat → ClassId} {p : Program} {l : Launch} {e : Env} {s : State} {m : MethodId} {below : List Frame} {meth : Method} {c : Code} {b L : Nat} {xs : Nat → Int32} (C0 : lw_At p s m meth c b L xs) (hst : Stt D dA s) (hL : L ≤ 3584) {n : Nat} {h : Hp} {H : Heap} {locs : List Loc} {lsC : Array Slot} {Q : State → Prop} (hn : 7 * n + 7 ≤ L) (hH : HR D dA s.heap.size h H) (hI : Inv h) (hb1 : h.1 ≤ 98 + 5 * n) (hb2 : h.2.1 ≤ 2000 + 42 * n) (hS : va_S (fun q => s.heap.size ≤ q) s.heap H locs) (hl : lv_has lsC 4 (lawL s.heap.size b n)) (kk : ∀ (h2 : Hp) (H2 : Heap) (locs2 : List Loc), HR D dA s.heap.size h2 H2 → Inv h2 → h2.1 ≤ h.1 + 5 → h2.2.1 ≤ h.2.1 + 42 → va_S (fun q => s.heap.size ≤ q) s.heap H2 locs2 → W p l e room_1 s m #[Value.ref b] below meth c H2 locs2 h2.1 h2.2.1 Q (F0 m 1312 lsC [])) : W p l e room_1 s m #[Value.ref b] below meth c H locs h.1 h.2.1 Q (F0 m 988 lsC []) := by
  obtain ⟨hx, hb, hrt, hml, hown, hts, hX, hbl, -, -⟩ := id C0
  obtain ⟨r, h1, h2, v1, v2, rk, c74, hI2, b1, b2⟩ := two_split (l := l) hI (two_act h hI (xs (7 * n + 1)) (xs (7 * n + 2)) (xs (7 * n + 3)))
  have g1 := v1.1
  have g2 := v2.1
  have m1 : mxl 79 = 5 := by decide +kernel
  have m2 : mxl 158 = 4 := by decide +kernel
  obtain ⟨v, rfl⟩ := rk.1 (by decide +kernel)
  obtain ⟨a1, a2, a3, a4⟩ := lcOK_of lc_106
  obtain ⟨a5, a6, a7, a8⟩ := lcOK_of lc_109
  refine lv_aload_n hx hb dl_988 rfl (lv_at hl 2 rfl) ?_
  refine lw_push (k := 1) C0 hL hS hl (by omega) dl_989 dl_990 dl_991 (by decide +kernel) dl_992 dl_993 ?_
  refine lw_push (k := 2) C0 hL hS hl (by omega) dl_994 dl_995 dl_996 (by decide +kernel) dl_997 dl_998 ?_
  refine lw_push (k := 3) C0 hL hS hl (by omega) dl_999 dl_1000 dl_1001 (by decide +kernel) dl_1002 dl_1003 ?_
  refine lw_callV (base := s.heap.size) (h := h) (as := [.int (xs (7 * n + 1)), .int (xs (7 * n + 2)), .int (xs (7 * n + 3))]) (rest := []) (j := 0) C0 hst a1 dl_1004 a2 a3 a4 hI.c1 (vwc 9 (by decide)) (by decide +kernel) (by rw [m1]; exact Nat.le_of_ble_eq_true rfl) (by rw [m1]; exact v1) (by decide) ⟨by omega, by omega⟩ hH hS hl.1 (fun H1 locs1 hH hS => ?_)
  show W p l e room_1 s m #[Value.ref b] below meth c H1 locs1 h1.1 h1.2.1 Q (F0 m 1007 lsC [.int v])
  refine lv_aload_n hx hb dl_1007 rfl (lv_at hl 1 rfl) ?_
  refine lw_push (k := 1) C0 hL hS hl (by omega) dl_1008 dl_1009 dl_1010 (by decide +kernel) dl_1011 dl_1012 ?_
  refine lw_push (k := 2) C0 hL hS hl (by omega) dl_1013 dl_1014 dl_1015 (by decide +kernel) dl_1016 dl_1017 ?_
  refine lw_push (k := 3) C0 hL hS hl (by omega) dl_1018 dl_1019 dl_1020 (by decide +kernel) dl_1021 dl_1022 ?_
  refine lw_callV (base := s.heap.size) (h := h1) (as := [.int (xs (7 * n + 1)), .int (xs (7 * n + 2)), .int (xs (7 * n + 3))]) (rest := [.int v]) (j := 73) C0 hst a5 dl_1023 a6 a7 a8 c74 (vwc 10 (by decide)) (by decide +kernel) (by rw [m2]; exact Nat.le_of_ble_eq_true rfl) (by rw [m2]; exact v2) (Nat.le_of_ble_eq_true rfl) ⟨by omega, by omega⟩ hH hS hl.1 (fun H2 locs2 hH hS => ?_)
  show W p l e room_1 s m #[Value.ref b] below meth c H2 locs2 h2.1 h2.2.1 Q (F0 m 1026 lsC [.int v, .int v])
  exact lv_icmp_eq (tgt := 1312) hx hb dl_1026 rfl (fun _ => kk h2 H2 locs2 hH hI2 b1 b2 hS) (fun q => absurd rfl q)
set_option maxRecDepth 100000 in
set_option maxHeartbeats 4000000 in
theorem law_c21 {D : va_G} {dA : Nat → ClassId} {p : Program} {l : Launch} {e : Env} {s : State} {m : MethodId} {below : List Frame} {meth : Method} {c : Code} {b L : Nat} {xs : Nat → Int32} (C0 : lw_At p s m meth c b L xs) (hst : Stt D dA s) (hL : L ≤ 3584) {n : Nat} {h : Hp} {H : Heap} {locs : List Loc} {lsC : Array Slot} {Q : State → Prop} (hn : 7 * n + 7 ≤ L) (hH : HR D dA s.heap.size h H) (hI : Inv h) (hb1 : h.1 ≤ 98 + 5 * n) (hb2 : h.2.1 ≤ 2000 + 42 * n) (hS : va_S (fun q => s.heap.size ≤ q) s.heap H locs) (hl : lv_has lsC 4 (lawL s.heap.size b n)) (kk : ∀ (h2 : Hp) (H2 : Heap) (locs2 : List Loc), HR D dA s.heap.size h2 H2 → Inv h2 → h2.1 ≤ h.1 + 5 → h2.2.1 ≤ h.2.1 + 42 → va_S (fun q => s.heap.size ≤ q) s.heap H2 locs2 → W p l e room_1 s m #[Value.ref b] below meth c H2 locs2 h2.1 h2.2.1 Q (F0 m 1312 lsC [])) : W p l e room_1 s m #[Value.ref b] below meth c H locs h.1 h.2.1 Q (F0 m 1031 lsC []) := by
  obtain ⟨hx, hb, hrt, hml, hown, hts, hX, hbl, -, -⟩ := id C0
  obtain ⟨r, h1, h2, v1, v2, rk, c74, hI2, b1, b2⟩ := two_split (l := l) hI (two_trace h hI (xs (7 * n + 1)))
  have g1 := v1.1
  have g2 := v2.1
  have m1 : mxl 80 = 2 := by decide +kernel
  have m2 : mxl 159 = 2 := by decide +kernel
  obtain ⟨v, rfl⟩ := rk.1 (by decide +kernel)
  obtain ⟨a1, a2, a3, a4⟩ := lcOK_of lc_110
  obtain ⟨a5, a6, a7, a8⟩ := lcOK_of lc_113
  refine lv_aload_n hx hb dl_1031 rfl (lv_at hl 2 rfl) ?_
  refine lw_push (k := 1) C0 hL hS hl (by omega) dl_1032 dl_1033 dl_1034 (by decide +kernel) dl_1035 dl_1036 ?_
  refine lw_callV (base := s.heap.size) (h := h) (as := [.int (xs (7 * n + 1))]) (rest := []) (j := 0) C0 hst a1 dl_1037 a2 a3 a4 hI.c1 (vwc 9 (by decide)) (by decide +kernel) (by rw [m1]; exact Nat.le_of_ble_eq_true rfl) (by rw [m1]; exact v1) (by decide) ⟨by omega, by omega⟩ hH hS hl.1 (fun H1 locs1 hH hS => ?_)
  show W p l e room_1 s m #[Value.ref b] below meth c H1 locs1 h1.1 h1.2.1 Q (F0 m 1040 lsC [.int v])
  refine lv_aload_n hx hb dl_1040 rfl (lv_at hl 1 rfl) ?_
  refine lw_push (k := 1) C0 hL hS hl (by omega) dl_1041 dl_1042 dl_1043 (by decide +kernel) dl_1044 dl_1045 ?_
  refine lw_callV (base := s.heap.size) (h := h1) (as := [.int (xs (7 * n + 1))]) (rest := [.int v]) (j := 73) C0 hst a5 dl_1046 a6 a7 a8 c74 (vwc 10 (by decide)) (by decide +kernel) (by rw [m2]; exact Nat.le_of_ble_eq_true rfl) (by rw [m2]; exact v2) (Nat.le_of_ble_eq_true rfl) ⟨by omega, by omega⟩ hH hS hl.1 (fun H2 locs2 hH hS => ?_)
  show W p l e room_1 s m #[Value.ref b] below meth c H2 locs2 h2.1 h2.2.1 Q (F0 m 1049 lsC [.int v, .int v])
  exact lv_icmp_eq (tgt := 1312) hx hb dl_1049 rfl (fun _ => kk h2 H2 locs2 hH hI2 b1 b2 hS) (fun q => absurd rfl q)
set_option maxRecDepth 100000 in
set_option maxHeartbeats 4000000 in
theorem law_c22 {D : va_G} {dA : Nat → ClassId} {p : Program} {l : Launch} {e : Env} {s : State} {m : MethodId} {below : List Frame} {meth : Method} {c : Code} {b L : Nat} {xs : Nat → Int32} (C0 : lw_At p s m meth c b L xs) (hst : Stt D dA s) (hL : L ≤ 3584) {n : Nat} {h : Hp} {H : Heap} {locs : List Loc} {lsC : Array Slot} {Q : State → Prop} (hn : 7 * n + 7 ≤ L) (hH : HR D dA s.heap.size h H) (hI : Inv h) (hb1 : h.1 ≤ 98 + 5 * n) (hb2 : h.2.1 ≤ 2000 + 42 * n) (hS : va_S (fun q => s.heap.size ≤ q) s.heap H locs) (hl : lv_has lsC 4 (lawL s.heap.size b n)) (kk : ∀ (h2 : Hp) (H2 : Heap) (locs2 : List Loc), HR D dA s.heap.size h2 H2 → Inv h2 → h2.1 ≤ h.1 + 5 → h2.2.1 ≤ h.2.1 + 42 → va_S (fun q => s.heap.size ≤ q) s.heap H2 locs2 → W p l e room_1 s m #[Value.ref b] below meth c H2 locs2 h2.1 h2.2.1 Q (F0 m 1312 lsC [])) : W p l e room_1 s m #[Value.ref b] below meth c H locs h.1 h.2.1 Q (F0 m 1054 lsC []) := by
  obtain ⟨hx, hb, hrt, hml, hown, hts, hX, hbl, -, -⟩ := id C0
  obtain ⟨r, h1, h2, v1, v2, rk, c74, hI2, b1, b2⟩ := two_split (l := l) hI (two_count h hI (xs (7 * n + 1)))
  have g1 := v1.1
  have g2 := v2.1
  have m1 : mxl 81 = 2 := by decide +kernel
  have m2 : mxl 160 = 2 := by decide +kernel
  obtain ⟨v, rfl⟩ := rk.1 (by decide +kernel)
  obtain ⟨a1, a2, a3, a4⟩ := lcOK_of lc_114
  obtain ⟨a5, a6, a7, a8⟩ := lcOK_of lc_117
  refine lv_aload_n hx hb dl_1054 rfl (lv_at hl 2 rfl) ?_
  refine lw_push (k := 1) C0 hL hS hl (by omega) dl_1055 dl_1056 dl_1057 (by decide +kernel) dl_1058 dl_1059 ?_
  refine lw_callV (base := s.heap.size) (h := h) (as := [.int (xs (7 * n + 1))]) (rest := []) (j := 0) C0 hst a1 dl_1060 a2 a3 a4 hI.c1 (vwc 9 (by decide)) (by decide +kernel) (by rw [m1]; exact Nat.le_of_ble_eq_true rfl) (by rw [m1]; exact v1) (by decide) ⟨by omega, by omega⟩ hH hS hl.1 (fun H1 locs1 hH hS => ?_)
  show W p l e room_1 s m #[Value.ref b] below meth c H1 locs1 h1.1 h1.2.1 Q (F0 m 1063 lsC [.int v])
  refine lv_aload_n hx hb dl_1063 rfl (lv_at hl 1 rfl) ?_
  refine lw_push (k := 1) C0 hL hS hl (by omega) dl_1064 dl_1065 dl_1066 (by decide +kernel) dl_1067 dl_1068 ?_
  refine lw_callV (base := s.heap.size) (h := h1) (as := [.int (xs (7 * n + 1))]) (rest := [.int v]) (j := 73) C0 hst a5 dl_1069 a6 a7 a8 c74 (vwc 10 (by decide)) (by decide +kernel) (by rw [m2]; exact Nat.le_of_ble_eq_true rfl) (by rw [m2]; exact v2) (Nat.le_of_ble_eq_true rfl) ⟨by omega, by omega⟩ hH hS hl.1 (fun H2 locs2 hH hS => ?_)
  show W p l e room_1 s m #[Value.ref b] below meth c H2 locs2 h2.1 h2.2.1 Q (F0 m 1072 lsC [.int v, .int v])
  exact lv_icmp_eq (tgt := 1312) hx hb dl_1072 rfl (fun _ => kk h2 H2 locs2 hH hI2 b1 b2 hS) (fun q => absurd rfl q)
set_option maxRecDepth 100000 in
set_option maxHeartbeats 4000000 in
theorem law_c23 {D : va_G} {dA : Nat → ClassId} {p : Program} {l : Launch} {e : Env} {s : State} {m : MethodId} {below : List Frame} {meth : Method} {c : Code} {b L : Nat} {xs : Nat → Int32} (C0 : lw_At p s m meth c b L xs) (hst : Stt D dA s) (hL : L ≤ 3584) {n : Nat} {h : Hp} {H : Heap} {locs : List Loc} {lsC : Array Slot} {Q : State → Prop} (hn : 7 * n + 7 ≤ L) (hH : HR D dA s.heap.size h H) (hI : Inv h) (hb1 : h.1 ≤ 98 + 5 * n) (hb2 : h.2.1 ≤ 2000 + 42 * n) (hS : va_S (fun q => s.heap.size ≤ q) s.heap H locs) (hl : lv_has lsC 4 (lawL s.heap.size b n)) (kk : ∀ (h2 : Hp) (H2 : Heap) (locs2 : List Loc), HR D dA s.heap.size h2 H2 → Inv h2 → h2.1 ≤ h.1 + 5 → h2.2.1 ≤ h.2.1 + 42 → va_S (fun q => s.heap.size ≤ q) s.heap H2 locs2 → W p l e room_1 s m #[Value.ref b] below meth c H2 locs2 h2.1 h2.2.1 Q (F0 m 1312 lsC [])) : W p l e room_1 s m #[Value.ref b] below meth c H locs h.1 h.2.1 Q (F0 m 1077 lsC []) := by
  obtain ⟨hx, hb, hrt, hml, hown, hts, hX, hbl, -, -⟩ := id C0
  obtain ⟨r, h1, h2, v1, v2, rk, c74, hI2, b1, b2⟩ := two_split (l := l) hI (two_sheet h hI (xs (7 * n + 1)) (xs (7 * n + 2)) (xs (7 * n + 3)))
  have g1 := v1.1
  have g2 := v2.1
  have m1 : mxl 82 = 4 := by decide +kernel
  have m2 : mxl 162 = 5 := by decide +kernel
  obtain ⟨v, rfl⟩ := rk.1 (by decide +kernel)
  obtain ⟨a1, a2, a3, a4⟩ := lcOK_of lc_118
  obtain ⟨a5, a6, a7, a8⟩ := lcOK_of lc_121
  refine lv_aload_n hx hb dl_1077 rfl (lv_at hl 2 rfl) ?_
  refine lw_push (k := 1) C0 hL hS hl (by omega) dl_1078 dl_1079 dl_1080 (by decide +kernel) dl_1081 dl_1082 ?_
  refine lw_push (k := 2) C0 hL hS hl (by omega) dl_1083 dl_1084 dl_1085 (by decide +kernel) dl_1086 dl_1087 ?_
  refine lw_push (k := 3) C0 hL hS hl (by omega) dl_1088 dl_1089 dl_1090 (by decide +kernel) dl_1091 dl_1092 ?_
  refine lw_callV (base := s.heap.size) (h := h) (as := [.int (xs (7 * n + 1)), .int (xs (7 * n + 2)), .int (xs (7 * n + 3))]) (rest := []) (j := 0) C0 hst a1 dl_1093 a2 a3 a4 hI.c1 (vwc 9 (by decide)) (by decide +kernel) (by rw [m1]; exact Nat.le_of_ble_eq_true rfl) (by rw [m1]; exact v1) (by decide) ⟨by omega, by omega⟩ hH hS hl.1 (fun H1 locs1 hH hS => ?_)
  show W p l e room_1 s m #[Value.ref b] below meth c H1 locs1 h1.1 h1.2.1 Q (F0 m 1096 lsC [.int v])
  refine lv_aload_n hx hb dl_1096 rfl (lv_at hl 1 rfl) ?_
  refine lw_push (k := 1) C0 hL hS hl (by omega) dl_1097 dl_1098 dl_1099 (by decide +kernel) dl_1100 dl_1101 ?_
  refine lw_push (k := 2) C0 hL hS hl (by omega) dl_1102 dl_1103 dl_1104 (by decide +kernel) dl_1105 dl_1106 ?_
  refine lw_push (k := 3) C0 hL hS hl (by omega) dl_1107 dl_1108 dl_1109 (by decide +kernel) dl_1110 dl_1111 ?_
  refine lw_callV (base := s.heap.size) (h := h1) (as := [.int (xs (7 * n + 1)), .int (xs (7 * n + 2)), .int (xs (7 * n + 3))]) (rest := [.int v]) (j := 73) C0 hst a5 dl_1112 a6 a7 a8 c74 (vwc 10 (by decide)) (by decide +kernel) (by rw [m2]; exact Nat.le_of_ble_eq_true rfl) (by rw [m2]; exact v2) (Nat.le_of_ble_eq_true rfl) ⟨by omega, by omega⟩ hH hS hl.1 (fun H2 locs2 hH hS => ?_)
  show W p l e room_1 s m #[Value.ref b] below meth c H2 locs2 h2.1 h2.2.1 Q (F0 m 1115 lsC [.int v, .int v])
  exact lv_icmp_eq (tgt := 1312) hx hb dl_1115 rfl (fun _ => kk h2 H2 locs2 hH hI2 b1 b2 hS) (fun q => absurd rfl q)
set_option maxRecDepth 100000 in
set_option maxHeartbeats 4000000 in
theorem law_c24 {D : va_G} {dA : Nat → ClassId} {p : Program} {l : Launch} {e : Env} {s : State} {m : MethodId} {below : List Frame} {meth : Method} {c : Code} {b L : Nat} {xs : Nat → Int32} (C0 : lw_At p s m meth c b L xs) (hst : Stt D dA s) (hL : L ≤ 3584) {n : Nat} {h : Hp} {H : Heap} {locs : List Loc} {lsC : Array Slot} {Q : State → Prop} (hn : 7 * n + 7 ≤ L) (hH : HR D dA s.heap.size h H) (hI : Inv h) (hb1 : h.1 ≤ 98 + 5 * n) (hb2 : h.2.1 ≤ 2000 + 42 * n) (hS : va_S (fun q => s.heap.size ≤ q) s.heap H locs) (hl : lv_has lsC 4 (lawL s.heap.size b n)) (kk : ∀ (h2 : Hp) (H2 : Heap) (locs2 : List Loc), HR D dA s.heap.size h2 H2 → Inv h2 → h2.1 ≤ h.1 + 5 → h2.2.1 ≤ h.2.1 + 42 → va_S (fun q => s.heap.size ≤ q) s.heap H2 locs2 → W p l e room_1 s m #[Value.ref b] below meth c H2 locs2 h2.1 h2.2.1 Q (F0 m 1312 lsC [])) : W p l e room_1 s m #[Value.ref b] below meth c H locs h.1 h.2.1 Q (F0 m 1120 lsC []) := by
  obtain ⟨hx, hb, hrt, hml, hown, hts, hX, hbl, -, -⟩ := id C0
  obtain ⟨r, h1, h2, v1, v2, rk, c74, hI2, b1, b2⟩ := two_split (l := l) hI (two_cell h hI (xs (7 * n + 1)) (xs (7 * n + 2)) (xs (7 * n + 3)))
  have g1 := v1.1
  have g2 := v2.1
  have m1 : mxl 83 = 5 := by decide +kernel
  have m2 : mxl 163 = 4 := by decide +kernel
  obtain ⟨v, rfl⟩ := rk.1 (by decide +kernel)
  obtain ⟨a1, a2, a3, a4⟩ := lcOK_of lc_122
  obtain ⟨a5, a6, a7, a8⟩ := lcOK_of lc_125
  refine lv_aload_n hx hb dl_1120 rfl (lv_at hl 2 rfl) ?_
  refine lw_push (k := 1) C0 hL hS hl (by omega) dl_1121 dl_1122 dl_1123 (by decide +kernel) dl_1124 dl_1125 ?_
  refine lw_push (k := 2) C0 hL hS hl (by omega) dl_1126 dl_1127 dl_1128 (by decide +kernel) dl_1129 dl_1130 ?_
  refine lw_push (k := 3) C0 hL hS hl (by omega) dl_1131 dl_1132 dl_1133 (by decide +kernel) dl_1134 dl_1135 ?_
  refine lw_callV (base := s.heap.size) (h := h) (as := [.int (xs (7 * n + 1)), .int (xs (7 * n + 2)), .int (xs (7 * n + 3))]) (rest := []) (j := 0) C0 hst a1 dl_1136 a2 a3 a4 hI.c1 (vwc 9 (by decide)) (by decide +kernel) (by rw [m1]; exact Nat.le_of_ble_eq_true rfl) (by rw [m1]; exact v1) (by decide) ⟨by omega, by omega⟩ hH hS hl.1 (fun H1 locs1 hH hS => ?_)
  show W p l e room_1 s m #[Value.ref b] below meth c H1 locs1 h1.1 h1.2.1 Q (F0 m 1139 lsC [.int v])
  refine lv_aload_n hx hb dl_1139 rfl (lv_at hl 1 rfl) ?_
  refine lw_push (k := 1) C0 hL hS hl (by omega) dl_1140 dl_1141 dl_1142 (by decide +kernel) dl_1143 dl_1144 ?_
  refine lw_push (k := 2) C0 hL hS hl (by omega) dl_1145 dl_1146 dl_1147 (by decide +kernel) dl_1148 dl_1149 ?_
  refine lw_push (k := 3) C0 hL hS hl (by omega) dl_1150 dl_1151 dl_1152 (by decide +kernel) dl_1153 dl_1154 ?_
  refine lw_callV (base := s.heap.size) (h := h1) (as := [.int (xs (7 * n + 1)), .int (xs (7 * n + 2)), .int (xs (7 * n + 3))]) (rest := [.int v]) (j := 73) C0 hst a5 dl_1155 a6 a7 a8 c74 (vwc 10 (by decide)) (by decide +kernel) (by rw [m2]; exact Nat.le_of_ble_eq_true rfl) (by rw [m2]; exact v2) (Nat.le_of_ble_eq_true rfl) ⟨by omega, by omega⟩ hH hS hl.1 (fun H2 locs2 hH hS => ?_)
  show W p l e room_1 s m #[Value.ref b] below meth c H2 locs2 h2.1 h2.2.1 Q (F0 m 1158 lsC [.int v, .int v])
  exact lv_icmp_eq (tgt := 1312) hx hb dl_1158 rfl (fun _ => kk h2 H2 locs2 hH hI2 b1 b2 hS) (fun q => absurd rfl q)
set_option maxRecDepth 100000 in
set_option maxHeartbeats 4000000 in
theorem law_c25 {D : va_G} {dA : Nat → ClassId} {p : Program} {l : Launch} {e : Env} {s : State} {m : MethodId} {below : List Frame} {meth : Method} {c : Code} {b L : Nat} {xs : Nat → Int32} (C0 : lw_At p s m meth c b L xs) (hst : Stt D dA s) (hL : L ≤ 3584) {n : Nat} {h : Hp} {H : Heap} {locs : List Loc} {lsC : Array Slot} {Q : State → Prop} (hn : 7 * n + 7 ≤ L) (hH : HR D dA s.heap.size h H) (hI : Inv h) (hb1 : h.1 ≤ 98 + 5 * n) (hb2 : h.2.1 ≤ 2000 + 42 * n) (hS : va_S (fun q => s.heap.size ≤ q) s.heap H locs) (hl : lv_has lsC 4 (lawL s.heap.size b n)) (kk : ∀ (h2 : Hp) (H2 : Heap) (locs2 : List Loc), HR D dA s.heap.size h2 H2 → Inv h2 → h2.1 ≤ h.1 + 5 → h2.2.1 ≤ h.2.1 + 42 → va_S (fun q => s.heap.size ≤ q) s.heap H2 locs2 → W p l e room_1 s m #[Value.ref b] below meth c H2 locs2 h2.1 h2.2.1 Q (F0 m 1312 lsC [])) : W p l e room_1 s m #[Value.ref b] below meth c H locs h.1 h.2.1 Q (F0 m 1163 lsC []) := by
  obtain ⟨hx, hb, hrt, hml, hown, hts, hX, hbl, -, -⟩ := id C0
  obtain ⟨r, h1, h2, v1, v2, rk, c74, hI2, b1, b2⟩ := two_split (l := l) hI (two_lay h hI (xs (7 * n + 1)) (xs (7 * n + 2)) (xs (7 * n + 3)) (xs (7 * n + 4)))
  have g1 := v1.1
  have g2 := v2.1
  have m1 : mxl 84 = 9 := by decide +kernel
  have m2 : mxl 164 = 9 := by decide +kernel
  obtain ⟨v, rfl⟩ := rk.1 (by decide +kernel)
  obtain ⟨a1, a2, a3, a4⟩ := lcOK_of lc_126
  obtain ⟨a5, a6, a7, a8⟩ := lcOK_of lc_129
  refine lv_aload_n hx hb dl_1163 rfl (lv_at hl 2 rfl) ?_
  refine lw_push (k := 1) C0 hL hS hl (by omega) dl_1164 dl_1165 dl_1166 (by decide +kernel) dl_1167 dl_1168 ?_
  refine lw_push (k := 2) C0 hL hS hl (by omega) dl_1169 dl_1170 dl_1171 (by decide +kernel) dl_1172 dl_1173 ?_
  refine lw_push (k := 3) C0 hL hS hl (by omega) dl_1174 dl_1175 dl_1176 (by decide +kernel) dl_1177 dl_1178 ?_
  refine lw_push (k := 4) C0 hL hS hl (by omega) dl_1179 dl_1180 dl_1181 (by decide +kernel) dl_1182 dl_1183 ?_
  refine lw_callV (base := s.heap.size) (h := h) (as := [.int (xs (7 * n + 1)), .int (xs (7 * n + 2)), .int (xs (7 * n + 3)), .int (xs (7 * n + 4))]) (rest := []) (j := 0) C0 hst a1 dl_1184 a2 a3 a4 hI.c1 (vwc 9 (by decide)) (by decide +kernel) (by rw [m1]; exact Nat.le_of_ble_eq_true rfl) (by rw [m1]; exact v1) (by decide) ⟨by omega, by omega⟩ hH hS hl.1 (fun H1 locs1 hH hS => ?_)
  show W p l e room_1 s m #[Value.ref b] below meth c H1 locs1 h1.1 h1.2.1 Q (F0 m 1187 lsC [.int v])
  refine lv_aload_n hx hb dl_1187 rfl (lv_at hl 1 rfl) ?_
  refine lw_push (k := 1) C0 hL hS hl (by omega) dl_1188 dl_1189 dl_1190 (by decide +kernel) dl_1191 dl_1192 ?_
  refine lw_push (k := 2) C0 hL hS hl (by omega) dl_1193 dl_1194 dl_1195 (by decide +kernel) dl_1196 dl_1197 ?_
  refine lw_push (k := 3) C0 hL hS hl (by omega) dl_1198 dl_1199 dl_1200 (by decide +kernel) dl_1201 dl_1202 ?_
  refine lw_push (k := 4) C0 hL hS hl (by omega) dl_1203 dl_1204 dl_1205 (by decide +kernel) dl_1206 dl_1207 ?_
  refine lw_callV (base := s.heap.size) (h := h1) (as := [.int (xs (7 * n + 1)), .int (xs (7 * n + 2)), .int (xs (7 * n + 3)), .int (xs (7 * n + 4))]) (rest := [.int v]) (j := 73) C0 hst a5 dl_1208 a6 a7 a8 c74 (vwc 10 (by decide)) (by decide +kernel) (by rw [m2]; exact Nat.le_of_ble_eq_true rfl) (by rw [m2]; exact v2) (Nat.le_of_ble_eq_true rfl) ⟨by omega, by omega⟩ hH hS hl.1 (fun H2 locs2 hH hS => ?_)
  show W p l e room_1 s m #[Value.ref b] below meth c H2 locs2 h2.1 h2.2.1 Q (F0 m 1211 lsC [.int v, .int v])
  exact lv_icmp_eq (tgt := 1312) hx hb dl_1211 rfl (fun _ => kk h2 H2 locs2 hH hI2 b1 b2 hS) (fun q => absurd rfl q)
set_option maxRecDepth 100000 in
set_option maxHeartbeats 4000000 in
theorem law_c26 {D : va_G} {dA : Nat → ClassId} {p : Program} {l : Launch} {e : Env} {s : State} {m : MethodId} {below : List Frame} {meth : Method} {c : Code} {b L : Nat} {xs : Nat → Int32} (C0 : lw_At p s m meth c b L xs) (hst : Stt D dA s) (hL : L ≤ 3584) {n : Nat} {h : Hp} {H : Heap} {locs : List Loc} {lsC : Array Slot} {Q : State → Prop} (hn : 7 * n + 7 ≤ L) (hH : HR D dA s.heap.size h H) (hI : Inv h) (hb1 : h.1 ≤ 98 + 5 * n) (hb2 : h.2.1 ≤ 2000 + 42 * n) (hS : va_S (fun q => s.heap.size ≤ q) s.heap H locs) (hl : lv_has lsC 4 (lawL s.heap.size b n)) (kk : ∀ (h2 : Hp) (H2 : Heap) (locs2 : List Loc), HR D dA s.heap.size h2 H2 → Inv h2 → h2.1 ≤ h.1 + 5 → h2.2.1 ≤ h.2.1 + 42 → va_S (fun q => s.heap.size ≤ q) s.heap H2 locs2 → W p l e room_1 s m #[Value.ref b] below meth c H2 locs2 h2.1 h2.2.1 Q (F0 m 1312 lsC [])) : W p l e room_1 s m #[Value.ref b] below meth c H locs h.1 h.2.1 Q (F0 m 1216 lsC []) := by
  obtain ⟨hx, hb, hrt, hml, hown, hts, hX, hbl, -, -⟩ := id C0
  obtain ⟨r, h1, h2, v1, v2, rk, c74, hI2, b1, b2⟩ := two_split (l := l) hI (two_copy h hI (xs (7 * n + 1)) (xs (7 * n + 2)) (xs (7 * n + 3)) (xs (7 * n + 4)) (xs (7 * n + 5)))
  have g1 := v1.1
  have g2 := v2.1
  have m1 : mxl 85 = 8 := by decide +kernel
  have m2 : mxl 165 = 7 := by decide +kernel
  obtain ⟨v, rfl⟩ := rk.1 (by decide +kernel)
  obtain ⟨a1, a2, a3, a4⟩ := lcOK_of lc_130
  obtain ⟨a5, a6, a7, a8⟩ := lcOK_of lc_133
  refine lv_aload_n hx hb dl_1216 rfl (lv_at hl 2 rfl) ?_
  refine lw_push (k := 1) C0 hL hS hl (by omega) dl_1217 dl_1218 dl_1219 (by decide +kernel) dl_1220 dl_1221 ?_
  refine lw_push (k := 2) C0 hL hS hl (by omega) dl_1222 dl_1223 dl_1224 (by decide +kernel) dl_1225 dl_1226 ?_
  refine lw_push (k := 3) C0 hL hS hl (by omega) dl_1227 dl_1228 dl_1229 (by decide +kernel) dl_1230 dl_1231 ?_
  refine lw_push (k := 4) C0 hL hS hl (by omega) dl_1232 dl_1233 dl_1234 (by decide +kernel) dl_1235 dl_1236 ?_
  refine lw_push (k := 5) C0 hL hS hl (by omega) dl_1237 dl_1238 dl_1239 (by decide +kernel) dl_1240 dl_1241 ?_
  refine lw_callV (base := s.heap.size) (h := h) (as := [.int (xs (7 * n + 1)), .int (xs (7 * n + 2)), .int (xs (7 * n + 3)), .int (xs (7 * n + 4)), .int (xs (7 * n + 5))]) (rest := []) (j := 0) C0 hst a1 dl_1242 a2 a3 a4 hI.c1 (vwc 9 (by decide)) (by decide +kernel) (by rw [m1]; exact Nat.le_of_ble_eq_true rfl) (by rw [m1]; exact v1) (by decide) ⟨by omega, by omega⟩ hH hS hl.1 (fun H1 locs1 hH hS => ?_)
  show W p l e room_1 s m #[Value.ref b] below meth c H1 locs1 h1.1 h1.2.1 Q (F0 m 1245 lsC [.int v])
  refine lv_aload_n hx hb dl_1245 rfl (lv_at hl 1 rfl) ?_
  refine lw_push (k := 1) C0 hL hS hl (by omega) dl_1246 dl_1247 dl_1248 (by decide +kernel) dl_1249 dl_1250 ?_
  refine lw_push (k := 2) C0 hL hS hl (by omega) dl_1251 dl_1252 dl_1253 (by decide +kernel) dl_1254 dl_1255 ?_
  refine lw_push (k := 3) C0 hL hS hl (by omega) dl_1256 dl_1257 dl_1258 (by decide +kernel) dl_1259 dl_1260 ?_
  refine lw_push (k := 4) C0 hL hS hl (by omega) dl_1261 dl_1262 dl_1263 (by decide +kernel) dl_1264 dl_1265 ?_
  refine lw_push (k := 5) C0 hL hS hl (by omega) dl_1266 dl_1267 dl_1268 (by decide +kernel) dl_1269 dl_1270 ?_
  refine lw_callV (base := s.heap.size) (h := h1) (as := [.int (xs (7 * n + 1)), .int (xs (7 * n + 2)), .int (xs (7 * n + 3)), .int (xs (7 * n + 4)), .int (xs (7 * n + 5))]) (rest := [.int v]) (j := 73) C0 hst a5 dl_1271 a6 a7 a8 c74 (vwc 10 (by decide)) (by decide +kernel) (by rw [m2]; exact Nat.le_of_ble_eq_true rfl) (by rw [m2]; exact v2) (Nat.le_of_ble_eq_true rfl) ⟨by omega, by omega⟩ hH hS hl.1 (fun H2 locs2 hH hS => ?_)
  show W p l e room_1 s m #[Value.ref b] below meth c H2 locs2 h2.1 h2.2.1 Q (F0 m 1274 lsC [.int v, .int v])
  exact lv_icmp_eq (tgt := 1312) hx hb dl_1274 rfl (fun _ => kk h2 H2 locs2 hH hI2 b1 b2 hS) (fun q => absurd rfl q)
set_option maxRecDepth 100000 in
set_option maxHeartbeats 4000000 in
theorem law_c27 {D : va_G} {dA : Nat → ClassId} {p : Program} {l : Launch} {e : Env} {s : State} {m : MethodId} {below : List Frame} {meth : Method} {c : Code} {b L : Nat} {xs : Nat → Int32} (C0 : lw_At p s m meth c b L xs) (hst : Stt D dA s) (hL : L ≤ 3584) {n : Nat} {h : Hp} {H : Heap} {locs : List Loc} {lsC : Array Slot} {Q : State → Prop} (hn : 7 * n + 7 ≤ L) (hH : HR D dA s.heap.size h H) (hI : Inv h) (hb1 : h.1 ≤ 98 + 5 * n) (hb2 : h.2.1 ≤ 2000 + 42 * n) (hS : va_S (fun q => s.heap.size ≤ q) s.heap H locs) (hl : lv_has lsC 4 (lawL s.heap.size b n)) (kk : ∀ (h2 : Hp) (H2 : Heap) (locs2 : List Loc), HR D dA s.heap.size h2 H2 → Inv h2 → h2.1 ≤ h.1 + 5 → h2.2.1 ≤ h.2.1 + 42 → va_S (fun q => s.heap.size ≤ q) s.heap H2 locs2 → W p l e room_1 s m #[Value.ref b] below meth c H2 locs2 h2.1 h2.2.1 Q (F0 m 1312 lsC [])) : W p l e room_1 s m #[Value.ref b] below meth c H locs h.1 h.2.1 Q (F0 m 1279 lsC []) := by
  obtain ⟨hx, hb, hrt, hml, hown, hts, hX, hbl, -, -⟩ := id C0
  obtain ⟨r, h1, h2, v1, v2, rk, c74, hI2, b1, b2⟩ := two_split (l := l) hI (two_taken h hI (xs (7 * n + 1)) (xs (7 * n + 2)))
  have g1 := v1.1
  have g2 := v2.1
  have m1 : mxl 86 = 4 := by decide +kernel
  have m2 : mxl 166 = 4 := by decide +kernel
  obtain ⟨v, rfl⟩ := rk.1 (by decide +kernel)
  obtain ⟨a1, a2, a3, a4⟩ := lcOK_of lc_134
  obtain ⟨a5, a6, a7, a8⟩ := lcOK_of lc_137
  refine lv_aload_n hx hb dl_1279 rfl (lv_at hl 2 rfl) ?_
  refine lw_push (k := 1) C0 hL hS hl (by omega) dl_1280 dl_1281 dl_1282 (by decide +kernel) dl_1283 dl_1284 ?_
  refine lw_push (k := 2) C0 hL hS hl (by omega) dl_1285 dl_1286 dl_1287 (by decide +kernel) dl_1288 dl_1289 ?_
  refine lw_callV (base := s.heap.size) (h := h) (as := [.int (xs (7 * n + 1)), .int (xs (7 * n + 2))]) (rest := []) (j := 0) C0 hst a1 dl_1290 a2 a3 a4 hI.c1 (vwc 9 (by decide)) (by decide +kernel) (by rw [m1]; exact Nat.le_of_ble_eq_true rfl) (by rw [m1]; exact v1) (by decide) ⟨by omega, by omega⟩ hH hS hl.1 (fun H1 locs1 hH hS => ?_)
  show W p l e room_1 s m #[Value.ref b] below meth c H1 locs1 h1.1 h1.2.1 Q (F0 m 1293 lsC [.int v])
  refine lv_aload_n hx hb dl_1293 rfl (lv_at hl 1 rfl) ?_
  refine lw_push (k := 1) C0 hL hS hl (by omega) dl_1294 dl_1295 dl_1296 (by decide +kernel) dl_1297 dl_1298 ?_
  refine lw_push (k := 2) C0 hL hS hl (by omega) dl_1299 dl_1300 dl_1301 (by decide +kernel) dl_1302 dl_1303 ?_
  refine lw_callV (base := s.heap.size) (h := h1) (as := [.int (xs (7 * n + 1)), .int (xs (7 * n + 2))]) (rest := [.int v]) (j := 73) C0 hst a5 dl_1304 a6 a7 a8 c74 (vwc 10 (by decide)) (by decide +kernel) (by rw [m2]; exact Nat.le_of_ble_eq_true rfl) (by rw [m2]; exact v2) (Nat.le_of_ble_eq_true rfl) ⟨by omega, by omega⟩ hH hS hl.1 (fun H2 locs2 hH hS => ?_)
  show W p l e room_1 s m #[Value.ref b] below meth c H2 locs2 h2.1 h2.2.1 Q (F0 m 1307 lsC [.int v, .int v])
  exact lv_icmp_eq (tgt := 1312) hx hb dl_1307 rfl (fun _ => kk h2 H2 locs2 hH hI2 b1 b2 hS) (fun q => absurd rfl q)
