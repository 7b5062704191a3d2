theorem d140_0 : decode (byt 140) 0 = .ok (.aload_n 0, 1) := by decide +kernel
theorem d140_1 : decode (byt 140) 1 = .ok (.iload_n 1, 1) := by decide +kernel
theorem d140_2 : decode (byt 140) 2 = .ok (.invokevirtual 105, 3) := by decide +kernel
theorem d140_5 : decode (byt 140) 5 = .ok (.ifCond .eq 30, 3) := by decide +kernel
theorem d140_8 : decode (byt 140) 8 = .ok (.iload 5, 2) := by decide +kernel
theorem d140_10 : decode (byt 140) 10 = .ok (.ifCond .lt 25, 3) := by decide +kernel
theorem d140_13 : decode (byt 140) 13 = .ok (.iload 5, 2) := by decide +kernel
theorem d140_15 : decode (byt 140) 15 = .ok (.aload_n 0, 1) := by decide +kernel
theorem d140_16 : decode (byt 140) 16 = .ok (.getfield 13, 3) := by decide +kernel
theorem d140_19 : decode (byt 140) 19 = .ok (.iload_n 1, 1) := by decide +kernel
theorem d140_20 : decode (byt 140) 20 = .ok (.iaload, 1) := by decide +kernel
theorem d140_21 : decode (byt 140) 21 = .ok (.if_icmp .ge 14, 3) := by decide +kernel
theorem d140_24 : decode (byt 140) 24 = .ok (.iload 6, 2) := by decide +kernel
theorem d140_26 : decode (byt 140) 26 = .ok (.ifCond .lt 9, 3) := by decide +kernel
theorem d140_29 : decode (byt 140) 29 = .ok (.iload 6, 2) := by decide +kernel
theorem d140_31 : decode (byt 140) 31 = .ok (.iconst 1, 1) := by decide +kernel
theorem d140_32 : decode (byt 140) 32 = .ok (.if_icmp .le 7, 3) := by decide +kernel
theorem d140_35 : decode (byt 140) 35 = .ok (.ldc2_w 169, 3) := by decide +kernel
theorem d140_38 : decode (byt 140) 38 = .ok (.lreturn, 1) := by decide +kernel
theorem d140_39 : decode (byt 140) 39 = .ok (.aload_n 0, 1) := by decide +kernel
theorem d140_40 : decode (byt 140) 40 = .ok (.getfield 13, 3) := by decide +kernel
theorem d140_43 : decode (byt 140) 43 = .ok (.iload_n 1, 1) := by decide +kernel
theorem d140_44 : decode (byt 140) 44 = .ok (.iaload, 1) := by decide +kernel
theorem d140_45 : decode (byt 140) 45 = .ok (.istore 7, 2) := by decide +kernel
theorem d140_47 : decode (byt 140) 47 = .ok (.iconst 0, 1) := by decide +kernel
theorem d140_48 : decode (byt 140) 48 = .ok (.istore 8, 2) := by decide +kernel
theorem d140_50 : decode (byt 140) 50 = .ok (.iload 8, 2) := by decide +kernel
theorem d140_52 : decode (byt 140) 52 = .ok (.iload 7, 2) := by decide +kernel
theorem d140_54 : decode (byt 140) 54 = .ok (.if_icmp .ge 50, 3) := by decide +kernel
theorem d140_57 : decode (byt 140) 57 = .ok (.iload 8, 2) := by decide +kernel
theorem d140_59 : decode (byt 140) 59 = .ok (.ifCond .ne 7, 3) := by decide +kernel
theorem d140_62 : decode (byt 140) 62 = .ok (.iload_n 2, 1) := by decide +kernel
theorem d140_63 : decode (byt 140) 63 = .ok (.goto 15, 3) := by decide +kernel
theorem d140_66 : decode (byt 140) 66 = .ok (.iload 8, 2) := by decide +kernel
theorem d140_68 : decode (byt 140) 68 = .ok (.iconst 1, 1) := by decide +kernel
theorem d140_69 : decode (byt 140) 69 = .ok (.if_icmp .ne 7, 3) := by decide +kernel
theorem d140_72 : decode (byt 140) 72 = .ok (.iload_n 3, 1) := by decide +kernel
theorem d140_73 : decode (byt 140) 73 = .ok (.goto 5, 3) := by decide +kernel
theorem d140_76 : decode (byt 140) 76 = .ok (.iload 4, 2) := by decide +kernel
theorem d140_78 : decode (byt 140) 78 = .ok (.istore 9, 2) := by decide +kernel
theorem d140_80 : decode (byt 140) 80 = .ok (.iload 9, 2) := by decide +kernel
theorem d140_82 : decode (byt 140) 82 = .ok (.bipush (-100), 2) := by decide +kernel
theorem d140_84 : decode (byt 140) 84 = .ok (.if_icmp .lt 10, 3) := by decide +kernel
theorem d140_87 : decode (byt 140) 87 = .ok (.iload 9, 2) := by decide +kernel
theorem d140_89 : decode (byt 140) 89 = .ok (.bipush 100, 2) := by decide +kernel
theorem d140_91 : decode (byt 140) 91 = .ok (.if_icmp .le 7, 3) := by decide +kernel
theorem d140_94 : decode (byt 140) 94 = .ok (.ldc2_w 169, 3) := by decide +kernel
theorem d140_97 : decode (byt 140) 97 = .ok (.lreturn, 1) := by decide +kernel
theorem d140_98 : decode (byt 140) 98 = .ok (.iinc 8 1, 3) := by decide +kernel
theorem d140_101 : decode (byt 140) 101 = .ok (.goto (-51), 3) := by decide +kernel
theorem d140_104 : decode (byt 140) 104 = .ok (.aload_n 0, 1) := by decide +kernel
theorem d140_105 : decode (byt 140) 105 = .ok (.iload_n 1, 1) := by decide +kernel
theorem d140_106 : decode (byt 140) 106 = .ok (.invokevirtual 157, 3) := by decide +kernel
theorem d140_109 : decode (byt 140) 109 = .ok (.iload 7, 2) := by decide +kernel
theorem d140_111 : decode (byt 140) 111 = .ok (.if_icmp .eq 7, 3) := by decide +kernel
theorem d140_114 : decode (byt 140) 114 = .ok (.ldc2_w 169, 3) := by decide +kernel
theorem d140_117 : decode (byt 140) 117 = .ok (.lreturn, 1) := by decide +kernel
theorem d140_118 : decode (byt 140) 118 = .ok (.aload_n 0, 1) := by decide +kernel
theorem d140_119 : decode (byt 140) 119 = .ok (.iload_n 1, 1) := by decide +kernel
theorem d140_120 : decode (byt 140) 120 = .ok (.invokevirtual 136, 3) := by decide +kernel
theorem d140_123 : decode (byt 140) 123 = .ok (.iconst 0, 1) := by decide +kernel
theorem d140_124 : decode (byt 140) 124 = .ok (.istore 8, 2) := by decide +kernel
theorem d140_126 : decode (byt 140) 126 = .ok (.iload 8, 2) := by decide +kernel
theorem d140_128 : decode (byt 140) 128 = .ok (.iload 7, 2) := by decide +kernel
theorem d140_130 : decode (byt 140) 130 = .ok (.if_icmp .ge 172, 3) := by decide +kernel
theorem d140_133 : decode (byt 140) 133 = .ok (.iconst 0, 1) := by decide +kernel
theorem d140_134 : decode (byt 140) 134 = .ok (.istore 9, 2) := by decide +kernel
theorem d140_136 : decode (byt 140) 136 = .ok (.iload 9, 2) := by decide +kernel
theorem d140_138 : decode (byt 140) 138 = .ok (.iload 7, 2) := by decide +kernel
theorem d140_140 : decode (byt 140) 140 = .ok (.if_icmp .ge 22, 3) := by decide +kernel
theorem d140_143 : decode (byt 140) 143 = .ok (.aload_n 0, 1) := by decide +kernel
theorem d140_144 : decode (byt 140) 144 = .ok (.getfield 71, 3) := by decide +kernel
theorem d140_147 : decode (byt 140) 147 = .ok (.iconst 3, 1) := by decide +kernel
theorem d140_148 : decode (byt 140) 148 = .ok (.iload 8, 2) := by decide +kernel
theorem d140_150 : decode (byt 140) 150 = .ok (.imul, 1) := by decide +kernel
theorem d140_151 : decode (byt 140) 151 = .ok (.iload 9, 2) := by decide +kernel
theorem d140_153 : decode (byt 140) 153 = .ok (.iadd, 1) := by decide +kernel
theorem d140_154 : decode (byt 140) 154 = .ok (.lconst 0, 1) := by decide +kernel
theorem d140_155 : decode (byt 140) 155 = .ok (.lastore, 1) := by decide +kernel
theorem d140_156 : decode (byt 140) 156 = .ok (.iinc 9 1, 3) := by decide +kernel
theorem d140_159 : decode (byt 140) 159 = .ok (.goto (-23), 3) := by decide +kernel
theorem d140_162 : decode (byt 140) 162 = .ok (.iload 8, 2) := by decide +kernel
theorem d140_164 : decode (byt 140) 164 = .ok (.iconst 1, 1) := by decide +kernel
theorem d140_165 : decode (byt 140) 165 = .ok (.iadd, 1) := by decide +kernel
theorem d140_166 : decode (byt 140) 166 = .ok (.istore 9, 2) := by decide +kernel
theorem d140_168 : decode (byt 140) 168 = .ok (.iload 9, 2) := by decide +kernel
theorem d140_170 : decode (byt 140) 170 = .ok (.iload 7, 2) := by decide +kernel
theorem d140_172 : decode (byt 140) 172 = .ok (.if_icmp .gt 124, 3) := by decide +kernel
theorem d140_175 : decode (byt 140) 175 = .ok (.iconst 0, 1) := by decide +kernel
theorem d140_176 : decode (byt 140) 176 = .ok (.istore 10, 2) := by decide +kernel
theorem d140_178 : decode (byt 140) 178 = .ok (.iload 10, 2) := by decide +kernel
theorem d140_180 : decode (byt 140) 180 = .ok (.iload 7, 2) := by decide +kernel
theorem d140_182 : decode (byt 140) 182 = .ok (.if_icmp .ge 28, 3) := by decide +kernel
theorem d140_185 : decode (byt 140) 185 = .ok (.aload_n 0, 1) := by decide +kernel
theorem d140_186 : decode (byt 140) 186 = .ok (.getfield 77, 3) := by decide +kernel
theorem d140_189 : decode (byt 140) 189 = .ok (.iload 10, 2) := by decide +kernel
theorem d140_191 : decode (byt 140) 191 = .ok (.aload_n 0, 1) := by decide +kernel
theorem d140_192 : decode (byt 140) 192 = .ok (.getfield 25, 3) := by decide +kernel
theorem d140_195 : decode (byt 140) 195 = .ok (.iconst 3, 1) := by decide +kernel
theorem d140_196 : decode (byt 140) 196 = .ok (.iload_n 1, 1) := by decide +kernel
theorem d140_197 : decode (byt 140) 197 = .ok (.imul, 1) := by decide +kernel
theorem d140_198 : decode (byt 140) 198 = .ok (.iload 10, 2) := by decide +kernel
theorem d140_200 : decode (byt 140) 200 = .ok (.iadd, 1) := by decide +kernel
theorem d140_201 : decode (byt 140) 201 = .ok (.iaload, 1) := by decide +kernel
theorem d140_202 : decode (byt 140) 202 = .ok (.i2l, 1) := by decide +kernel
theorem d140_203 : decode (byt 140) 203 = .ok (.lastore, 1) := by decide +kernel
theorem d140_204 : decode (byt 140) 204 = .ok (.iinc 10 1, 3) := by decide +kernel
theorem d140_207 : decode (byt 140) 207 = .ok (.goto (-29), 3) := by decide +kernel
theorem d140_210 : decode (byt 140) 210 = .ok (.iconst 0, 1) := by decide +kernel
theorem d140_211 : decode (byt 140) 211 = .ok (.istore 10, 2) := by decide +kernel
theorem d140_213 : decode (byt 140) 213 = .ok (.iload 10, 2) := by decide +kernel
theorem d140_215 : decode (byt 140) 215 = .ok (.iload 9, 2) := by decide +kernel
theorem d140_217 : decode (byt 140) 217 = .ok (.iload 8, 2) := by decide +kernel
theorem d140_219 : decode (byt 140) 219 = .ok (.isub, 1) := by decide +kernel
theorem d140_220 : decode (byt 140) 220 = .ok (.iconst 1, 1) := by decide +kernel
theorem d140_221 : decode (byt 140) 221 = .ok (.isub, 1) := by decide +kernel
theorem d140_222 : decode (byt 140) 222 = .ok (.if_icmp .ge 14, 3) := by decide +kernel
theorem d140_225 : decode (byt 140) 225 = .ok (.aload_n 0, 1) := by decide +kernel
theorem d140_226 : decode (byt 140) 226 = .ok (.iload_n 1, 1) := by decide +kernel
theorem d140_227 : decode (byt 140) 227 = .ok (.invokevirtual 128, 3) := by decide +kernel
theorem d140_230 : decode (byt 140) 230 = .ok (.iinc 10 1, 3) := by decide +kernel
theorem d140_233 : decode (byt 140) 233 = .ok (.goto (-20), 3) := by decide +kernel
theorem d140_236 : decode (byt 140) 236 = .ok (.iconst 0, 1) := by decide +kernel
theorem d140_237 : decode (byt 140) 237 = .ok (.istore 10, 2) := by decide +kernel
theorem d140_239 : decode (byt 140) 239 = .ok (.iload 10, 2) := by decide +kernel
theorem d140_241 : decode (byt 140) 241 = .ok (.iload 7, 2) := by decide +kernel
theorem d140_243 : decode (byt 140) 243 = .ok (.if_icmp .ge 47, 3) := by decide +kernel
theorem d140_246 : decode (byt 140) 246 = .ok (.aload_n 0, 1) := by decide +kernel
theorem d140_247 : decode (byt 140) 247 = .ok (.getfield 71, 3) := by decide +kernel
theorem d140_250 : decode (byt 140) 250 = .ok (.iconst 3, 1) := by decide +kernel
theorem d140_251 : decode (byt 140) 251 = .ok (.iload 8, 2) := by decide +kernel
theorem d140_253 : decode (byt 140) 253 = .ok (.imul, 1) := by decide +kernel
theorem d140_254 : decode (byt 140) 254 = .ok (.iload 10, 2) := by decide +kernel
theorem d140_256 : decode (byt 140) 256 = .ok (.iadd, 1) := by decide +kernel
theorem d140_257 : decode (byt 140) 257 = .ok (.dup2, 1) := by decide +kernel
theorem d140_258 : decode (byt 140) 258 = .ok (.laload, 1) := by decide +kernel
theorem d140_259 : decode (byt 140) 259 = .ok (.aload_n 0, 1) := by decide +kernel
theorem d140_260 : decode (byt 140) 260 = .ok (.getfield 62, 3) := by decide +kernel
theorem d140_263 : decode (byt 140) 263 = .ok (.iload 9, 2) := by decide +kernel
theorem d140_265 : decode (byt 140) 265 = .ok (.laload, 1) := by decide +kernel
theorem d140_266 : decode (byt 140) 266 = .ok (.aload_n 0, 1) := by decide +kernel
theorem d140_267 : decode (byt 140) 267 = .ok (.getfield 16, 3) := by decide +kernel
theorem d140_270 : decode (byt 140) 270 = .ok (.iload_n 1, 1) := by decide +kernel
theorem d140_271 : decode (byt 140) 271 = .ok (.iaload, 1) := by decide +kernel
theorem d140_272 : decode (byt 140) 272 = .ok (.i2l, 1) := by decide +kernel
theorem d140_273 : decode (byt 140) 273 = .ok (.lmul, 1) := by decide +kernel
theorem d140_274 : decode (byt 140) 274 = .ok (.aload_n 0, 1) := by decide +kernel
theorem d140_275 : decode (byt 140) 275 = .ok (.getfield 77, 3) := by decide +kernel
theorem d140_278 : decode (byt 140) 278 = .ok (.iload 10, 2) := by decide +kernel
theorem d140_280 : decode (byt 140) 280 = .ok (.laload, 1) := by decide +kernel
theorem d140_281 : decode (byt 140) 281 = .ok (.lmul, 1) := by decide +kernel
theorem d140_282 : decode (byt 140) 282 = .ok (.ladd, 1) := by decide +kernel
theorem d140_283 : decode (byt 140) 283 = .ok (.lastore, 1) := by decide +kernel
theorem d140_284 : decode (byt 140) 284 = .ok (.iinc 10 1, 3) := by decide +kernel
theorem d140_287 : decode (byt 140) 287 = .ok (.goto (-48), 3) := by decide +kernel
theorem d140_290 : decode (byt 140) 290 = .ok (.iinc 9 1, 3) := by decide +kernel
theorem d140_293 : decode (byt 140) 293 = .ok (.goto (-125), 3) := by decide +kernel
theorem d140_296 : decode (byt 140) 296 = .ok (.iinc 8 1, 3) := by decide +kernel
theorem d140_299 : decode (byt 140) 299 = .ok (.goto (-173), 3) := by decide +kernel
theorem d140_302 : decode (byt 140) 302 = .ok (.iconst 0, 1) := by decide +kernel
theorem d140_303 : decode (byt 140) 303 = .ok (.istore 8, 2) := by decide +kernel
theorem d140_305 : decode (byt 140) 305 = .ok (.iload 8, 2) := by decide +kernel
theorem d140_307 : decode (byt 140) 307 = .ok (.iload 7, 2) := by decide +kernel
theorem d140_309 : decode (byt 140) 309 = .ok (.if_icmp .ge 46, 3) := by decide +kernel
theorem d140_312 : decode (byt 140) 312 = .ok (.aload_n 0, 1) := by decide +kernel
theorem d140_313 : decode (byt 140) 313 = .ok (.getfield 77, 3) := by decide +kernel
theorem d140_316 : decode (byt 140) 316 = .ok (.iload 8, 2) := by decide +kernel
theorem d140_318 : decode (byt 140) 318 = .ok (.iload 8, 2) := by decide +kernel
theorem d140_320 : decode (byt 140) 320 = .ok (.ifCond .ne 7, 3) := by decide +kernel
theorem d140_323 : decode (byt 140) 323 = .ok (.iload_n 2, 1) := by decide +kernel
theorem d140_324 : decode (byt 140) 324 = .ok (.goto 15, 3) := by decide +kernel
theorem d140_327 : decode (byt 140) 327 = .ok (.iload 8, 2) := by decide +kernel
theorem d140_329 : decode (byt 140) 329 = .ok (.iconst 1, 1) := by decide +kernel
theorem d140_330 : decode (byt 140) 330 = .ok (.if_icmp .ne 7, 3) := by decide +kernel
theorem d140_333 : decode (byt 140) 333 = .ok (.iload_n 3, 1) := by decide +kernel
theorem d140_334 : decode (byt 140) 334 = .ok (.goto 5, 3) := by decide +kernel
theorem d140_337 : decode (byt 140) 337 = .ok (.iload 4, 2) := by decide +kernel
theorem d140_339 : decode (byt 140) 339 = .ok (.i2l, 1) := by decide +kernel
theorem d140_340 : decode (byt 140) 340 = .ok (.aload_n 0, 1) := by decide +kernel
theorem d140_341 : decode (byt 140) 341 = .ok (.getfield 62, 3) := by decide +kernel
theorem d140_344 : decode (byt 140) 344 = .ok (.iload 8, 2) := by decide +kernel
theorem d140_346 : decode (byt 140) 346 = .ok (.laload, 1) := by decide +kernel
theorem d140_347 : decode (byt 140) 347 = .ok (.lsub, 1) := by decide +kernel
theorem d140_348 : decode (byt 140) 348 = .ok (.lastore, 1) := by decide +kernel
theorem d140_349 : decode (byt 140) 349 = .ok (.iinc 8 1, 3) := by decide +kernel
theorem d140_352 : decode (byt 140) 352 = .ok (.goto (-47), 3) := by decide +kernel
theorem d140_355 : decode (byt 140) 355 = .ok (.aload_n 0, 1) := by decide +kernel
theorem d140_356 : decode (byt 140) 356 = .ok (.aload_n 0, 1) := by decide +kernel
theorem d140_357 : decode (byt 140) 357 = .ok (.iload 7, 2) := by decide +kernel
theorem d140_359 : decode (byt 140) 359 = .ok (.iload 5, 2) := by decide +kernel
theorem d140_361 : decode (byt 140) 361 = .ok (.invokevirtual 185, 3) := by decide +kernel
theorem d140_364 : decode (byt 140) 364 = .ok (.aload_n 0, 1) := by decide +kernel
theorem d140_365 : decode (byt 140) 365 = .ok (.iload 7, 2) := by decide +kernel
theorem d140_367 : decode (byt 140) 367 = .ok (.iconst (-1), 1) := by decide +kernel
theorem d140_368 : decode (byt 140) 368 = .ok (.invokevirtual 185, 3) := by decide +kernel
theorem d140_371 : decode (byt 140) 371 = .ok (.invokevirtual 171, 3) := by decide +kernel
theorem d140_374 : decode (byt 140) 374 = .ok (.aload_n 0, 1) := by decide +kernel
theorem d140_375 : decode (byt 140) 375 = .ok (.iload 6, 2) := by decide +kernel
theorem d140_377 : decode (byt 140) 377 = .ok (.invokevirtual 179, 3) := by decide +kernel
theorem d140_380 : decode (byt 140) 380 = .ok (.lreturn, 1) := by decide +kernel
set_option maxRecDepth 20000 in
theorem S140_0 : (∀ (ls : Lo) (st : List Value) (h : Hp) (Q : Option Value → Hp → Prop)  (i : Nat), Wp 140 0 (some (.ref i) :: ls) (st) h Q ↔ Wp 140 1 (some (.ref i) :: ls) (.ref i :: st) h Q) ∧
  (∀ (ls : Lo) (st : List Value) (h : Hp) (Q : Option Value → Hp → Prop) (l0 : Option Value) (x : Int32), Wp 140 1 (l0 :: some (.int x) :: ls) (st) h Q ↔ Wp 140 2 (l0 :: some (.int x) :: ls) (.int x :: st) h Q) ∧
  (∀ (ls : Lo) (st : List Value) (n sl : Nat) (C Z : Nat → Nat) (I : Nat → Nat → Int32) (L : Nat → Nat → Int64) (R : Nat → Nat → Nat) (Q : Option Value → Hp → Prop) (x0 : Int32) (i : Nat), C i = 11 → (Wp 140 2 (ls) (.int x0 :: .ref i :: st) (n, sl, C, Z, I, L, R) Q ↔ (wsum st ≤ 8 ∧ Call 103 [some (.ref i), some (.int x0)] (n, sl, C, Z, I, L, R) 140 5 ls st Q))) ∧
  (∀ (ls : Lo) (st : List Value) (h : Hp) (Q : Option Value → Hp → Prop) (x : Int32), Wp 140 5 (ls) (.int x :: st) h Q ↔ Br 140 35 8 ls st h Q (x = 0)) ∧
  (∀ (ls : Lo) (st : List Value) (h : Hp) (Q : Option Value → Hp → Prop) (l0 l1 l2 l3 l4 : Option Value) (x : Int32), Wp 140 8 (l0 :: l1 :: l2 :: l3 :: l4 :: some (.int x) :: ls) (st) h Q ↔ Wp 140 10 (l0 :: l1 :: l2 :: l3 :: l4 :: some (.int x) :: ls) (.int x :: st) h Q) ∧
  (∀ (ls : Lo) (st : List Value) (h : Hp) (Q : Option Value → Hp → Prop) (x : Int32), Wp 140 10 (ls) (.int x :: st) h Q ↔ Br 140 35 13 ls st h Q (x < 0)) ∧
  (∀ (ls : Lo) (st : List Value) (h : Hp) (Q : Option Value → Hp → Prop) (l0 l1 l2 l3 l4 : Option Value) (x : Int32), Wp 140 13 (l0 :: l1 :: l2 :: l3 :: l4 :: some (.int x) :: ls) (st) h Q ↔ Wp 140 15 (l0 :: l1 :: l2 :: l3 :: l4 :: some (.int x) :: ls) (.int x :: st) h Q) ∧
  (∀ (ls : Lo) (st : List Value) (h : Hp) (Q : Option Value → Hp → Prop)  (i : Nat), Wp 140 15 (some (.ref i) :: ls) (st) h Q ↔ Wp 140 16 (some (.ref i) :: ls) (.ref i :: st) h Q) ∧
  (∀ (ls : Lo) (st : List Value) (n sl : Nat) (C Z : Nat → Nat) (I : Nat → Nat → Int32) (L : Nat → Nat → Int64) (R : Nat → Nat → Nat) (Q : Option Value → Hp → Prop) (i : Nat), Wp 140 16 (ls) (.ref i :: st) (n, sl, C, Z, I, L, R) Q ↔ (C i = 11 ∧ Wp 140 19 (ls) (.ref (R i 2) :: st) (n, sl, C, Z, I, L, R) Q)) ∧
  (∀ (ls : Lo) (st : List Value) (h : Hp) (Q : Option Value → Hp → Prop) (l0 : Option Value) (x : Int32), Wp 140 19 (l0 :: some (.int x) :: ls) (st) h Q ↔ Wp 140 20 (l0 :: some (.int x) :: ls) (.int x :: st) h Q) ∧
  (∀ (ls : Lo) (st : List Value) (n sl : Nat) (C Z : Nat → Nat) (I : Nat → Nat → Int32) (L : Nat → Nat → Int64) (R : Nat → Nat → Nat) (Q : Option Value → Hp → Prop) (i : Nat) (y : Int32), Wp 140 20 (ls) (.int y :: .ref i :: st) (n, sl, C, Z, I, L, R) Q ↔ ((inb y (Z i) = true ∧ C i = 21) ∧ Wp 140 21 (ls) (.int (I i (ix y)) :: st) (n, sl, C, Z, I, L, R) Q)) ∧
  (∀ (ls : Lo) (st : List Value) (h : Hp) (Q : Option Value → Hp → Prop) (x y : Int32), Wp 140 21 (ls) (.int y :: .int x :: st) h Q ↔ Br 140 35 24 ls st h Q (y ≤ x)) ∧
  (∀ (ls : Lo) (st : List Value) (h : Hp) (Q : Option Value → Hp → Prop) (l0 l1 l2 l3 l4 l5 : Option Value) (x : Int32), Wp 140 24 (l0 :: l1 :: l2 :: l3 :: l4 :: l5 :: some (.int x) :: ls) (st) h Q ↔ Wp 140 26 (l0 :: l1 :: l2 :: l3 :: l4 :: l5 :: some (.int x) :: ls) (.int x :: st) h Q) ∧
  (∀ (ls : Lo) (st : List Value) (h : Hp) (Q : Option Value → Hp → Prop) (x : Int32), Wp 140 26 (ls) (.int x :: st) h Q ↔ Br 140 35 29 ls st h Q (x < 0)) ∧
  (∀ (ls : Lo) (st : List Value) (h : Hp) (Q : Option Value → Hp → Prop) (l0 l1 l2 l3 l4 l5 : Option Value) (x : Int32), Wp 140 29 (l0 :: l1 :: l2 :: l3 :: l4 :: l5 :: some (.int x) :: ls) (st) h Q ↔ Wp 140 31 (l0 :: l1 :: l2 :: l3 :: l4 :: l5 :: some (.int x) :: ls) (.int x :: st) h Q) ∧
  (∀ (ls : Lo) (st : List Value) (h : Hp) (Q : Option Value → Hp → Prop), Wp 140 31 (ls) (st) h Q ↔ Wp 140 32 (ls) (.int (1) :: st) h Q) ∧
  (∀ (ls : Lo) (st : List Value) (h : Hp) (Q : Option Value → Hp → Prop) (x y : Int32), Wp 140 32 (ls) (.int y :: .int x :: st) h Q ↔ Br 140 39 35 ls st h Q (x ≤ y)) ∧
  (∀ (ls : Lo) (st : List Value) (h : Hp) (Q : Option Value → Hp → Prop), Wp 140 35 (ls) (st) h Q ↔ Wp 140 38 (ls) (.long (-4611686018427387904) :: st) h Q) ∧
  (∀ (ls : Lo) (h : Hp) (Q : Option Value → Hp → Prop) (a : Int64), Wp 140 38 (ls) ([.long a]) h Q ↔ Q (some (.long a)) h) ∧
  (∀ (ls : Lo) (st : List Value) (h : Hp) (Q : Option Value → Hp → Prop)  (i : Nat), Wp 140 39 (some (.ref i) :: ls) (st) h Q ↔ Wp 140 40 (some (.ref i) :: ls) (.ref i :: st) h Q) ∧
  (∀ (ls : Lo) (st : List Value) (n sl : Nat) (C Z : Nat → Nat) (I : Nat → Nat → Int32) (L : Nat → Nat → Int64) (R : Nat → Nat → Nat) (Q : Option Value → Hp → Prop) (i : Nat), Wp 140 40 (ls) (.ref i :: st) (n, sl, C, Z, I, L, R) Q ↔ (C i = 11 ∧ Wp 140 43 (ls) (.ref (R i 2) :: st) (n, sl, C, Z, I, L, R) Q)) ∧
  (∀ (ls : Lo) (st : List Value) (h : Hp) (Q : Option Value → Hp → Prop) (l0 : Option Value) (x : Int32), Wp 140 43 (l0 :: some (.int x) :: ls) (st) h Q ↔ Wp 140 44 (l0 :: some (.int x) :: ls) (.int x :: st) h Q) ∧
  (∀ (ls : Lo) (st : List Value) (n sl : Nat) (C Z : Nat → Nat) (I : Nat → Nat → Int32) (L : Nat → Nat → Int64) (R : Nat → Nat → Nat) (Q : Option Value → Hp → Prop) (i : Nat) (y : Int32), Wp 140 44 (ls) (.int y :: .ref i :: st) (n, sl, C, Z, I, L, R) Q ↔ ((inb y (Z i) = true ∧ C i = 21) ∧ Wp 140 45 (ls) (.int (I i (ix y)) :: st) (n, sl, C, Z, I, L, R) Q)) ∧
  (∀ (ls : Lo) (st : List Value) (h : Hp) (Q : Option Value → Hp → Prop) (l0 l1 l2 l3 l4 l5 l6 l7 : Option Value) (x : Int32), Wp 140 45 (l0 :: l1 :: l2 :: l3 :: l4 :: l5 :: l6 :: l7 :: ls) (.int x :: st) h Q ↔ Wp 140 47 (l0 :: l1 :: l2 :: l3 :: l4 :: l5 :: clr l6 :: some (.int x) :: ls) (st) h Q) ∧
  (∀ (ls : Lo) (st : List Value) (h : Hp) (Q : Option Value → Hp → Prop), Wp 140 47 (ls) (st) h Q ↔ Wp 140 48 (ls) (.int (0) :: st) h Q) := ⟨by intro ls st h Q i; exact e_aload_n d140_0 rfl,
  by intro ls st h Q l0 x; exact e_iload_n d140_1 rfl,
  by intro ls st n sl C Z I L R Q x0 i hh; exact e_iv (k2 := 103) (c := 11) (as := [.int x0]) d140_2 rfl (by decide) rfl rfl (by decide +kernel) (Nat.le_of_ble_eq_true rfl) rfl hh,
  by intro ls st h Q x; exact e_if d140_5 (by decide) c_eq,
  by intro ls st h Q l0 l1 l2 l3 l4 x; exact e_iload d140_8 rfl,
  by intro ls st h Q x; exact e_if d140_10 (by decide) c_lt,
  by intro ls st h Q l0 l1 l2 l3 l4 x; exact e_iload d140_13 rfl,
  by intro ls st h Q i; exact e_aload_n d140_15 rfl,
  by intro ls st n sl C Z I L R Q i; exact e_get (g := 10) (s := 2) (ty := 2) d140_16 rfl rfl (inG_ne (by decide)),
  by intro ls st h Q l0 x; exact e_iload_n d140_19 rfl,
  by intro ls st n sl C Z I L R Q i y; exact e_iald d140_20,
  by intro ls st h Q x y; exact e_ic d140_21 (by decide) c_ge,
  by intro ls st h Q l0 l1 l2 l3 l4 l5 x; exact e_iload d140_24 rfl,
  by intro ls st h Q x; exact e_if d140_26 (by decide) c_lt,
  by intro ls st h Q l0 l1 l2 l3 l4 l5 x; exact e_iload d140_29 rfl,
  by intro ls st h Q; exact e_iconst d140_31 rfl,
  by intro ls st h Q x y; exact e_ic d140_32 (by decide) c_le,
  by intro ls st h Q; exact e_ldc2 (p := 980) d140_35 rfl,
  by intros; exact e_rL d140_38 rfl,
  by intro ls st h Q i; exact e_aload_n d140_39 rfl,
  by intro ls st n sl C Z I L R Q i; exact e_get (g := 10) (s := 2) (ty := 2) d140_40 rfl rfl (inG_ne (by decide)),
  by intro ls st h Q l0 x; exact e_iload_n d140_43 rfl,
  by intro ls st n sl C Z I L R Q i y; exact e_iald d140_44,
  by intro ls st h Q l0 l1 l2 l3 l4 l5 l6 l7 x; exact e_istore d140_45 rfl,
  by intro ls st h Q; exact e_iconst d140_47 rfl⟩
set_option maxRecDepth 20000 in
theorem S140_1 : (∀ (ls : Lo) (st : List Value) (h : Hp) (Q : Option Value → Hp → Prop) (l0 l1 l2 l3 l4 l5 l6 l7 l8 : Option Value) (x : Int32), Wp 140 48 (l0 :: l1 :: l2 :: l3 :: l4 :: l5 :: l6 :: l7 :: l8 :: ls) (.int x :: st) h Q ↔ Wp 140 50 (l0 :: l1 :: l2 :: l3 :: l4 :: l5 :: l6 :: clr l7 :: some (.int x) :: ls) (st) h Q) ∧
  (∀ (ls : Lo) (st : List Value) (h : Hp) (Q : Option Value → Hp → Prop) (l0 l1 l2 l3 l4 l5 l6 l7 : Option Value) (x : Int32), Wp 140 50 (l0 :: l1 :: l2 :: l3 :: l4 :: l5 :: l6 :: l7 :: some (.int x) :: ls) (st) h Q ↔ Wp 140 52 (l0 :: l1 :: l2 :: l3 :: l4 :: l5 :: l6 :: l7 :: some (.int x) :: ls) (.int x :: st) h Q) ∧
  (∀ (ls : Lo) (st : List Value) (h : Hp) (Q : Option Value → Hp → Prop) (l0 l1 l2 l3 l4 l5 l6 : Option Value) (x : Int32), Wp 140 52 (l0 :: l1 :: l2 :: l3 :: l4 :: l5 :: l6 :: some (.int x) :: ls) (st) h Q ↔ Wp 140 54 (l0 :: l1 :: l2 :: l3 :: l4 :: l5 :: l6 :: some (.int x) :: ls) (.int x :: st) h Q) ∧
  (∀ (ls : Lo) (st : List Value) (h : Hp) (Q : Option Value → Hp → Prop) (x y : Int32), Wp 140 54 (ls) (.int y :: .int x :: st) h Q ↔ Br 140 104 57 ls st h Q (y ≤ x)) ∧
  (∀ (ls : Lo) (st : List Value) (h : Hp) (Q : Option Value → Hp → Prop) (l0 l1 l2 l3 l4 l5 l6 l7 : Option Value) (x : Int32), Wp 140 57 (l0 :: l1 :: l2 :: l3 :: l4 :: l5 :: l6 :: l7 :: some (.int x) :: ls) (st) h Q ↔ Wp 140 59 (l0 :: l1 :: l2 :: l3 :: l4 :: l5 :: l6 :: l7 :: some (.int x) :: ls) (.int x :: st) h Q) ∧
  (∀ (ls : Lo) (st : List Value) (h : Hp) (Q : Option Value → Hp → Prop) (x : Int32), Wp 140 59 (ls) (.int x :: st) h Q ↔ Br 140 66 62 ls st h Q (¬ x = 0)) ∧
  (∀ (ls : Lo) (st : List Value) (h : Hp) (Q : Option Value → Hp → Prop) (l0 l1 : Option Value) (x : Int32), Wp 140 62 (l0 :: l1 :: some (.int x) :: ls) (st) h Q ↔ Wp 140 63 (l0 :: l1 :: some (.int x) :: ls) (.int x :: st) h Q) ∧
  (∀ (ls : Lo) (st : List Value) (h : Hp) (Q : Option Value → Hp → Prop), Wp 140 63 (ls) (st) h Q ↔ Wp 140 78 (ls) (st) h Q) ∧
  (∀ (ls : Lo) (st : List Value) (h : Hp) (Q : Option Value → Hp → Prop) (l0 l1 l2 l3 l4 l5 l6 l7 : Option Value) (x : Int32), Wp 140 66 (l0 :: l1 :: l2 :: l3 :: l4 :: l5 :: l6 :: l7 :: some (.int x) :: ls) (st) h Q ↔ Wp 140 68 (l0 :: l1 :: l2 :: l3 :: l4 :: l5 :: l6 :: l7 :: some (.int x) :: ls) (.int x :: st) h Q) ∧
  (∀ (ls : Lo) (st : List Value) (h : Hp) (Q : Option Value → Hp → Prop), Wp 140 68 (ls) (st) h Q ↔ Wp 140 69 (ls) (.int (1) :: st) h Q) ∧
  (∀ (ls : Lo) (st : List Value) (h : Hp) (Q : Option Value → Hp → Prop) (x y : Int32), Wp 140 69 (ls) (.int y :: .int x :: st) h Q ↔ Br 140 76 72 ls st h Q (¬ x = y)) ∧
  (∀ (ls : Lo) (st : List Value) (h : Hp) (Q : Option Value → Hp → Prop) (l0 l1 l2 : Option Value) (x : Int32), Wp 140 72 (l0 :: l1 :: l2 :: some (.int x) :: ls) (st) h Q ↔ Wp 140 73 (l0 :: l1 :: l2 :: some (.int x) :: ls) (.int x :: st) h Q) ∧
  (∀ (ls : Lo) (st : List Value) (h : Hp) (Q : Option Value → Hp → Prop), Wp 140 73 (ls) (st) h Q ↔ Wp 140 78 (ls) (st) h Q) ∧
  (∀ (ls : Lo) (st : List Value) (h : Hp) (Q : Option Value → Hp → Prop) (l0 l1 l2 l3 : Option Value) (x : Int32), Wp 140 76 (l0 :: l1 :: l2 :: l3 :: some (.int x) :: ls) (st) h Q ↔ Wp 140 78 (l0 :: l1 :: l2 :: l3 :: some (.int x) :: ls) (.int x :: st) h Q) ∧
  (∀ (ls : Lo) (st : List Value) (h : Hp) (Q : Option Value → Hp → Prop) (l0 l1 l2 l3 l4 l5 l6 l7 l8 l9 : Option Value) (x : Int32), Wp 140 78 (l0 :: l1 :: l2 :: l3 :: l4 :: l5 :: l6 :: l7 :: l8 :: l9 :: ls) (.int x :: st) h Q ↔ Wp 140 80 (l0 :: l1 :: l2 :: l3 :: l4 :: l5 :: l6 :: l7 :: clr l8 :: some (.int x) :: ls) (st) h Q) ∧
  (∀ (ls : Lo) (st : List Value) (h : Hp) (Q : Option Value → Hp → Prop) (l0 l1 l2 l3 l4 l5 l6 l7 l8 : Option Value) (x : Int32), Wp 140 80 (l0 :: l1 :: l2 :: l3 :: l4 :: l5 :: l6 :: l7 :: l8 :: some (.int x) :: ls) (st) h Q ↔ Wp 140 82 (l0 :: l1 :: l2 :: l3 :: l4 :: l5 :: l6 :: l7 :: l8 :: some (.int x) :: ls) (.int x :: st) h Q) ∧
  (∀ (ls : Lo) (st : List Value) (h : Hp) (Q : Option Value → Hp → Prop), Wp 140 82 (ls) (st) h Q ↔ Wp 140 84 (ls) (.int (-100) :: st) h Q) ∧
  (∀ (ls : Lo) (st : List Value) (h : Hp) (Q : Option Value → Hp → Prop) (x y : Int32), Wp 140 84 (ls) (.int y :: .int x :: st) h Q ↔ Br 140 94 87 ls st h Q (x < y)) ∧
  (∀ (ls : Lo) (st : List Value) (h : Hp) (Q : Option Value → Hp → Prop) (l0 l1 l2 l3 l4 l5 l6 l7 l8 : Option Value) (x : Int32), Wp 140 87 (l0 :: l1 :: l2 :: l3 :: l4 :: l5 :: l6 :: l7 :: l8 :: some (.int x) :: ls) (st) h Q ↔ Wp 140 89 (l0 :: l1 :: l2 :: l3 :: l4 :: l5 :: l6 :: l7 :: l8 :: some (.int x) :: ls) (.int x :: st) h Q) ∧
  (∀ (ls : Lo) (st : List Value) (h : Hp) (Q : Option Value → Hp → Prop), Wp 140 89 (ls) (st) h Q ↔ Wp 140 91 (ls) (.int (100) :: st) h Q) ∧
  (∀ (ls : Lo) (st : List Value) (h : Hp) (Q : Option Value → Hp → Prop) (x y : Int32), Wp 140 91 (ls) (.int y :: .int x :: st) h Q ↔ Br 140 98 94 ls st h Q (x ≤ y)) ∧
  (∀ (ls : Lo) (st : List Value) (h : Hp) (Q : Option Value → Hp → Prop), Wp 140 94 (ls) (st) h Q ↔ Wp 140 97 (ls) (.long (-4611686018427387904) :: st) h Q) ∧
  (∀ (ls : Lo) (h : Hp) (Q : Option Value → Hp → Prop) (a : Int64), Wp 140 97 (ls) ([.long a]) h Q ↔ Q (some (.long a)) h) ∧
  (∀ (ls : Lo) (st : List Value) (h : Hp) (Q : Option Value → Hp → Prop) (l0 l1 l2 l3 l4 l5 l6 l7 : Option Value) (x : Int32), Wp 140 98 (l0 :: l1 :: l2 :: l3 :: l4 :: l5 :: l6 :: l7 :: some (.int x) :: ls) (st) h Q ↔ Wp 140 101 (l0 :: l1 :: l2 :: l3 :: l4 :: l5 :: l6 :: clr l7 :: some (.int (x + (1))) :: ls) (st) h Q) ∧
  (∀ (ls : Lo) (st : List Value) (h : Hp) (Q : Option Value → Hp → Prop), Wp 140 101 (ls) (st) h Q ↔ Wp 140 50 (ls) (st) h Q) := ⟨by intro ls st h Q l0 l1 l2 l3 l4 l5 l6 l7 l8 x; exact e_istore d140_48 rfl,
  by intro ls st h Q l0 l1 l2 l3 l4 l5 l6 l7 x; exact e_iload d140_50 rfl,
  by intro ls st h Q l0 l1 l2 l3 l4 l5 l6 x; exact e_iload d140_52 rfl,
  by intro ls st h Q x y; exact e_ic d140_54 (by decide) c_ge,
  by intro ls st h Q l0 l1 l2 l3 l4 l5 l6 l7 x; exact e_iload d140_57 rfl,
  by intro ls st h Q x; exact e_if d140_59 (by decide) c_ne,
  by intro ls st h Q l0 l1 x; exact e_iload_n d140_62 rfl,
  by intro ls st h Q; exact e_goto d140_63 (by decide),
  by intro ls st h Q l0 l1 l2 l3 l4 l5 l6 l7 x; exact e_iload d140_66 rfl,
  by intro ls st h Q; exact e_iconst d140_68 rfl,
  by intro ls st h Q x y; exact e_ic d140_69 (by decide) c_ne,
  by intro ls st h Q l0 l1 l2 x; exact e_iload_n d140_72 rfl,
  by intro ls st h Q; exact e_goto d140_73 (by decide),
  by intro ls st h Q l0 l1 l2 l3 x; exact e_iload d140_76 rfl,
  by intro ls st h Q l0 l1 l2 l3 l4 l5 l6 l7 l8 l9 x; exact e_istore d140_78 rfl,
  by intro ls st h Q l0 l1 l2 l3 l4 l5 l6 l7 l8 x; exact e_iload d140_80 rfl,
  by intro ls st h Q; exact e_bipush d140_82 rfl,
  by intro ls st h Q x y; exact e_ic d140_84 (by decide) c_lt,
  by intro ls st h Q l0 l1 l2 l3 l4 l5 l6 l7 l8 x; exact e_iload d140_87 rfl,
  by intro ls st h Q; exact e_bipush d140_89 rfl,
  by intro ls st h Q x y; exact e_ic d140_91 (by decide) c_le,
  by intro ls st h Q; exact e_ldc2 (p := 980) d140_94 rfl,
  by intros; exact e_rL d140_97 rfl,
  by intro ls st h Q l0 l1 l2 l3 l4 l5 l6 l7 x; exact e_iinc d140_98 rfl rfl rfl,
  by intro ls st h Q; exact e_goto d140_101 (by decide)⟩
set_option maxRecDepth 20000 in
theorem S140_2 : (∀ (ls : Lo) (st : List Value) (h : Hp) (Q : Option Value → Hp → Prop)  (i : Nat), Wp 140 104 (some (.ref i) :: ls) (st) h Q ↔ Wp 140 105 (some (.ref i) :: ls) (.ref i :: st) h Q) ∧
  (∀ (ls : Lo) (st : List Value) (h : Hp) (Q : Option Value → Hp → Prop) (l0 : Option Value) (x : Int32), Wp 140 105 (l0 :: some (.int x) :: ls) (st) h Q ↔ Wp 140 106 (l0 :: some (.int x) :: ls) (.int x :: st) h Q) ∧
  (∀ (ls : Lo) (st : List Value) (n sl : Nat) (C Z : Nat → Nat) (I : Nat → Nat → Int32) (L : Nat → Nat → Int64) (R : Nat → Nat → Nat) (Q : Option Value → Hp → Prop) (x0 : Int32) (i : Nat), C i = 11 → (Wp 140 106 (ls) (.int x0 :: .ref i :: st) (n, sl, C, Z, I, L, R) Q ↔ (wsum st ≤ 8 ∧ Call 130 [some (.ref i), some (.int x0)] (n, sl, C, Z, I, L, R) 140 109 ls st Q))) ∧
  (∀ (ls : Lo) (st : List Value) (h : Hp) (Q : Option Value → Hp → Prop) (l0 l1 l2 l3 l4 l5 l6 : Option Value) (x : Int32), Wp 140 109 (l0 :: l1 :: l2 :: l3 :: l4 :: l5 :: l6 :: some (.int x) :: ls) (st) h Q ↔ Wp 140 111 (l0 :: l1 :: l2 :: l3 :: l4 :: l5 :: l6 :: some (.int x) :: ls) (.int x :: st) h Q) ∧
  (∀ (ls : Lo) (st : List Value) (h : Hp) (Q : Option Value → Hp → Prop) (x y : Int32), Wp 140 111 (ls) (.int y :: .int x :: st) h Q ↔ Br 140 118 114 ls st h Q (x = y)) ∧
  (∀ (ls : Lo) (st : List Value) (h : Hp) (Q : Option Value → Hp → Prop), Wp 140 114 (ls) (st) h Q ↔ Wp 140 117 (ls) (.long (-4611686018427387904) :: st) h Q) ∧
  (∀ (ls : Lo) (h : Hp) (Q : Option Value → Hp → Prop) (a : Int64), Wp 140 117 (ls) ([.long a]) h Q ↔ Q (some (.long a)) h) ∧
  (∀ (ls : Lo) (st : List Value) (h : Hp) (Q : Option Value → Hp → Prop)  (i : Nat), Wp 140 118 (some (.ref i) :: ls) (st) h Q ↔ Wp 140 119 (some (.ref i) :: ls) (.ref i :: st) h Q) ∧
  (∀ (ls : Lo) (st : List Value) (h : Hp) (Q : Option Value → Hp → Prop) (l0 : Option Value) (x : Int32), Wp 140 119 (l0 :: some (.int x) :: ls) (st) h Q ↔ Wp 140 120 (l0 :: some (.int x) :: ls) (.int x :: st) h Q) ∧
  (∀ (ls : Lo) (st : List Value) (n sl : Nat) (C Z : Nat → Nat) (I : Nat → Nat → Int32) (L : Nat → Nat → Int64) (R : Nat → Nat → Nat) (Q : Option Value → Hp → Prop) (x0 : Int32) (i : Nat), C i = 11 → (Wp 140 120 (ls) (.int x0 :: .ref i :: st) (n, sl, C, Z, I, L, R) Q ↔ (wsum st ≤ 8 ∧ Call 125 [some (.ref i), some (.int x0), none, none, none, none, none, none, none, none, none, none, none] (n, sl, C, Z, I, L, R) 140 123 ls st Q))) ∧
  (∀ (ls : Lo) (st : List Value) (h : Hp) (Q : Option Value → Hp → Prop), Wp 140 123 (ls) (st) h Q ↔ Wp 140 124 (ls) (.int (0) :: st) h Q) ∧
  (∀ (ls : Lo) (st : List Value) (h : Hp) (Q : Option Value → Hp → Prop) (l0 l1 l2 l3 l4 l5 l6 l7 l8 : Option Value) (x : Int32), Wp 140 124 (l0 :: l1 :: l2 :: l3 :: l4 :: l5 :: l6 :: l7 :: l8 :: ls) (.int x :: st) h Q ↔ Wp 140 126 (l0 :: l1 :: l2 :: l3 :: l4 :: l5 :: l6 :: clr l7 :: some (.int x) :: ls) (st) h Q) ∧
  (∀ (ls : Lo) (st : List Value) (h : Hp) (Q : Option Value → Hp → Prop) (l0 l1 l2 l3 l4 l5 l6 l7 : Option Value) (x : Int32), Wp 140 126 (l0 :: l1 :: l2 :: l3 :: l4 :: l5 :: l6 :: l7 :: some (.int x) :: ls) (st) h Q ↔ Wp 140 128 (l0 :: l1 :: l2 :: l3 :: l4 :: l5 :: l6 :: l7 :: some (.int x) :: ls) (.int x :: st) h Q) ∧
  (∀ (ls : Lo) (st : List Value) (h : Hp) (Q : Option Value → Hp → Prop) (l0 l1 l2 l3 l4 l5 l6 : Option Value) (x : Int32), Wp 140 128 (l0 :: l1 :: l2 :: l3 :: l4 :: l5 :: l6 :: some (.int x) :: ls) (st) h Q ↔ Wp 140 130 (l0 :: l1 :: l2 :: l3 :: l4 :: l5 :: l6 :: some (.int x) :: ls) (.int x :: st) h Q) ∧
  (∀ (ls : Lo) (st : List Value) (h : Hp) (Q : Option Value → Hp → Prop) (x y : Int32), Wp 140 130 (ls) (.int y :: .int x :: st) h Q ↔ Br 140 302 133 ls st h Q (y ≤ x)) ∧
  (∀ (ls : Lo) (st : List Value) (h : Hp) (Q : Option Value → Hp → Prop), Wp 140 133 (ls) (st) h Q ↔ Wp 140 134 (ls) (.int (0) :: st) h Q) ∧
  (∀ (ls : Lo) (st : List Value) (h : Hp) (Q : Option Value → Hp → Prop) (l0 l1 l2 l3 l4 l5 l6 l7 l8 l9 : Option Value) (x : Int32), Wp 140 134 (l0 :: l1 :: l2 :: l3 :: l4 :: l5 :: l6 :: l7 :: l8 :: l9 :: ls) (.int x :: st) h Q ↔ Wp 140 136 (l0 :: l1 :: l2 :: l3 :: l4 :: l5 :: l6 :: l7 :: clr l8 :: some (.int x) :: ls) (st) h Q) ∧
  (∀ (ls : Lo) (st : List Value) (h : Hp) (Q : Option Value → Hp → Prop) (l0 l1 l2 l3 l4 l5 l6 l7 l8 : Option Value) (x : Int32), Wp 140 136 (l0 :: l1 :: l2 :: l3 :: l4 :: l5 :: l6 :: l7 :: l8 :: some (.int x) :: ls) (st) h Q ↔ Wp 140 138 (l0 :: l1 :: l2 :: l3 :: l4 :: l5 :: l6 :: l7 :: l8 :: some (.int x) :: ls) (.int x :: st) h Q) ∧
  (∀ (ls : Lo) (st : List Value) (h : Hp) (Q : Option Value → Hp → Prop) (l0 l1 l2 l3 l4 l5 l6 : Option Value) (x : Int32), Wp 140 138 (l0 :: l1 :: l2 :: l3 :: l4 :: l5 :: l6 :: some (.int x) :: ls) (st) h Q ↔ Wp 140 140 (l0 :: l1 :: l2 :: l3 :: l4 :: l5 :: l6 :: some (.int x) :: ls) (.int x :: st) h Q) ∧
  (∀ (ls : Lo) (st : List Value) (h : Hp) (Q : Option Value → Hp → Prop) (x y : Int32), Wp 140 140 (ls) (.int y :: .int x :: st) h Q ↔ Br 140 162 143 ls st h Q (y ≤ x)) ∧
  (∀ (ls : Lo) (st : List Value) (h : Hp) (Q : Option Value → Hp → Prop)  (i : Nat), Wp 140 143 (some (.ref i) :: ls) (st) h Q ↔ Wp 140 144 (some (.ref i) :: ls) (.ref i :: st) h Q) ∧
  (∀ (ls : Lo) (st : List Value) (n sl : Nat) (C Z : Nat → Nat) (I : Nat → Nat → Int32) (L : Nat → Nat → Int64) (R : Nat → Nat → Nat) (Q : Option Value → Hp → Prop) (i : Nat), Wp 140 144 (ls) (.ref i :: st) (n, sl, C, Z, I, L, R) Q ↔ (C i = 11 ∧ Wp 140 147 (ls) (.ref (R i 24) :: st) (n, sl, C, Z, I, L, R) Q)) ∧
  (∀ (ls : Lo) (st : List Value) (h : Hp) (Q : Option Value → Hp → Prop), Wp 140 147 (ls) (st) h Q ↔ Wp 140 148 (ls) (.int (3) :: st) h Q) ∧
  (∀ (ls : Lo) (st : List Value) (h : Hp) (Q : Option Value → Hp → Prop) (l0 l1 l2 l3 l4 l5 l6 l7 : Option Value) (x : Int32), Wp 140 148 (l0 :: l1 :: l2 :: l3 :: l4 :: l5 :: l6 :: l7 :: some (.int x) :: ls) (st) h Q ↔ Wp 140 150 (l0 :: l1 :: l2 :: l3 :: l4 :: l5 :: l6 :: l7 :: some (.int x) :: ls) (.int x :: st) h Q) ∧
  (∀ (ls : Lo) (st : List Value) (h : Hp) (Q : Option Value → Hp → Prop) (x y : Int32), Wp 140 150 (ls) (.int y :: .int x :: st) h Q ↔ Wp 140 151 (ls) (.int (x * y) :: st) h Q) := ⟨by intro ls st h Q i; exact e_aload_n d140_104 rfl,
  by intro ls st h Q l0 x; exact e_iload_n d140_105 rfl,
  by intro ls st n sl C Z I L R Q x0 i hh; exact e_iv (k2 := 130) (c := 11) (as := [.int x0]) d140_106 rfl (by decide) rfl rfl (by decide +kernel) (Nat.le_of_ble_eq_true rfl) rfl hh,
  by intro ls st h Q l0 l1 l2 l3 l4 l5 l6 x; exact e_iload d140_109 rfl,
  by intro ls st h Q x y; exact e_ic d140_111 (by decide) c_eq,
  by intro ls st h Q; exact e_ldc2 (p := 980) d140_114 rfl,
  by intros; exact e_rL d140_117 rfl,
  by intro ls st h Q i; exact e_aload_n d140_118 rfl,
  by intro ls st h Q l0 x; exact e_iload_n d140_119 rfl,
  by intro ls st n sl C Z I L R Q x0 i hh; exact e_iv (k2 := 125) (c := 11) (as := [.int x0]) d140_120 rfl (by decide) rfl rfl (by decide +kernel) (Nat.le_of_ble_eq_true rfl) rfl hh,
  by intro ls st h Q; exact e_iconst d140_123 rfl,
  by intro ls st h Q l0 l1 l2 l3 l4 l5 l6 l7 l8 x; exact e_istore d140_124 rfl,
  by intro ls st h Q l0 l1 l2 l3 l4 l5 l6 l7 x; exact e_iload d140_126 rfl,
  by intro ls st h Q l0 l1 l2 l3 l4 l5 l6 x; exact e_iload d140_128 rfl,
  by intro ls st h Q x y; exact e_ic d140_130 (by decide) c_ge,
  by intro ls st h Q; exact e_iconst d140_133 rfl,
  by intro ls st h Q l0 l1 l2 l3 l4 l5 l6 l7 l8 l9 x; exact e_istore d140_134 rfl,
  by intro ls st h Q l0 l1 l2 l3 l4 l5 l6 l7 l8 x; exact e_iload d140_136 rfl,
  by intro ls st h Q l0 l1 l2 l3 l4 l5 l6 x; exact e_iload d140_138 rfl,
  by intro ls st h Q x y; exact e_ic d140_140 (by decide) c_ge,
  by intro ls st h Q i; exact e_aload_n d140_143 rfl,
  by intro ls st n sl C Z I L R Q i; exact e_get (g := 10) (s := 24) (ty := 2) d140_144 rfl rfl (inG_ne (by decide)),
  by intro ls st h Q; exact e_iconst d140_147 rfl,
  by intro ls st h Q l0 l1 l2 l3 l4 l5 l6 l7 x; exact e_iload d140_148 rfl,
  by intro ls st h Q x y; exact e_imul d140_150⟩
set_option maxRecDepth 20000 in
theorem S140_3 : (∀ (ls : Lo) (st : List Value) (h : Hp) (Q : Option Value → Hp → Prop) (l0 l1 l2 l3 l4 l5 l6 l7 l8 : Option Value) (x : Int32), Wp 140 151 (l0 :: l1 :: l2 :: l3 :: l4 :: l5 :: l6 :: l7 :: l8 :: some (.int x) :: ls) (st) h Q ↔ Wp 140 153 (l0 :: l1 :: l2 :: l3 :: l4 :: l5 :: l6 :: l7 :: l8 :: some (.int x) :: ls) (.int x :: st) h Q) ∧
  (∀ (ls : Lo) (st : List Value) (h : Hp) (Q : Option Value → Hp → Prop) (x y : Int32), Wp 140 153 (ls) (.int y :: .int x :: st) h Q ↔ Wp 140 154 (ls) (.int (x + y) :: st) h Q) ∧
  (∀ (ls : Lo) (st : List Value) (h : Hp) (Q : Option Value → Hp → Prop), Wp 140 154 (ls) (st) h Q ↔ Wp 140 155 (ls) (.long 0 :: st) h Q) ∧
  (∀ (ls : Lo) (st : List Value) (n sl : Nat) (C Z : Nat → Nat) (I : Nat → Nat → Int32) (L : Nat → Nat → Int64) (R : Nat → Nat → Nat) (Q : Option Value → Hp → Prop) (i : Nat) (y : Int32) (a : Int64), Wp 140 155 (ls) (.long a :: .int y :: .ref i :: st) (n, sl, C, Z, I, L, R) Q ↔ ((inb y (Z i) = true ∧ C i = 22) ∧ Wp 140 156 (ls) (st) (n, sl, C, Z, I, u2 L i (ix y) a, R) Q)) ∧
  (∀ (ls : Lo) (st : List Value) (h : Hp) (Q : Option Value → Hp → Prop) (l0 l1 l2 l3 l4 l5 l6 l7 l8 : Option Value) (x : Int32), Wp 140 156 (l0 :: l1 :: l2 :: l3 :: l4 :: l5 :: l6 :: l7 :: l8 :: some (.int x) :: ls) (st) h Q ↔ Wp 140 159 (l0 :: l1 :: l2 :: l3 :: l4 :: l5 :: l6 :: l7 :: clr l8 :: some (.int (x + (1))) :: ls) (st) h Q) ∧
  (∀ (ls : Lo) (st : List Value) (h : Hp) (Q : Option Value → Hp → Prop), Wp 140 159 (ls) (st) h Q ↔ Wp 140 136 (ls) (st) h Q) ∧
  (∀ (ls : Lo) (st : List Value) (h : Hp) (Q : Option Value → Hp → Prop) (l0 l1 l2 l3 l4 l5 l6 l7 : Option Value) (x : Int32), Wp 140 162 (l0 :: l1 :: l2 :: l3 :: l4 :: l5 :: l6 :: l7 :: some (.int x) :: ls) (st) h Q ↔ Wp 140 164 (l0 :: l1 :: l2 :: l3 :: l4 :: l5 :: l6 :: l7 :: some (.int x) :: ls) (.int x :: st) h Q) ∧
  (∀ (ls : Lo) (st : List Value) (h : Hp) (Q : Option Value → Hp → Prop), Wp 140 164 (ls) (st) h Q ↔ Wp 140 165 (ls) (.int (1) :: st) h Q) ∧
  (∀ (ls : Lo) (st : List Value) (h : Hp) (Q : Option Value → Hp → Prop) (x y : Int32), Wp 140 165 (ls) (.int y :: .int x :: st) h Q ↔ Wp 140 166 (ls) (.int (x + y) :: st) h Q) ∧
  (∀ (ls : Lo) (st : List Value) (h : Hp) (Q : Option Value → Hp → Prop) (l0 l1 l2 l3 l4 l5 l6 l7 l8 l9 : Option Value) (x : Int32), Wp 140 166 (l0 :: l1 :: l2 :: l3 :: l4 :: l5 :: l6 :: l7 :: l8 :: l9 :: ls) (.int x :: st) h Q ↔ Wp 140 168 (l0 :: l1 :: l2 :: l3 :: l4 :: l5 :: l6 :: l7 :: clr l8 :: some (.int x) :: ls) (st) h Q) ∧
  (∀ (ls : Lo) (st : List Value) (h : Hp) (Q : Option Value → Hp → Prop) (l0 l1 l2 l3 l4 l5 l6 l7 l8 : Option Value) (x : Int32), Wp 140 168 (l0 :: l1 :: l2 :: l3 :: l4 :: l5 :: l6 :: l7 :: l8 :: some (.int x) :: ls) (st) h Q ↔ Wp 140 170 (l0 :: l1 :: l2 :: l3 :: l4 :: l5 :: l6 :: l7 :: l8 :: some (.int x) :: ls) (.int x :: st) h Q) ∧
  (∀ (ls : Lo) (st : List Value) (h : Hp) (Q : Option Value → Hp → Prop) (l0 l1 l2 l3 l4 l5 l6 : Option Value) (x : Int32), Wp 140 170 (l0 :: l1 :: l2 :: l3 :: l4 :: l5 :: l6 :: some (.int x) :: ls) (st) h Q ↔ Wp 140 172 (l0 :: l1 :: l2 :: l3 :: l4 :: l5 :: l6 :: some (.int x) :: ls) (.int x :: st) h Q) ∧
  (∀ (ls : Lo) (st : List Value) (h : Hp) (Q : Option Value → Hp → Prop) (x y : Int32), Wp 140 172 (ls) (.int y :: .int x :: st) h Q ↔ Br 140 296 175 ls st h Q (y < x)) ∧
  (∀ (ls : Lo) (st : List Value) (h : Hp) (Q : Option Value → Hp → Prop), Wp 140 175 (ls) (st) h Q ↔ Wp 140 176 (ls) (.int (0) :: st) h Q) ∧
  (∀ (ls : Lo) (st : List Value) (h : Hp) (Q : Option Value → Hp → Prop) (l0 l1 l2 l3 l4 l5 l6 l7 l8 l9 l10 : Option Value) (x : Int32), Wp 140 176 (l0 :: l1 :: l2 :: l3 :: l4 :: l5 :: l6 :: l7 :: l8 :: l9 :: l10 :: ls) (.int x :: st) h Q ↔ Wp 140 178 (l0 :: l1 :: l2 :: l3 :: l4 :: l5 :: l6 :: l7 :: l8 :: clr l9 :: some (.int x) :: ls) (st) h Q) ∧
  (∀ (ls : Lo) (st : List Value) (h : Hp) (Q : Option Value → Hp → Prop) (l0 l1 l2 l3 l4 l5 l6 l7 l8 l9 : Option Value) (x : Int32), Wp 140 178 (l0 :: l1 :: l2 :: l3 :: l4 :: l5 :: l6 :: l7 :: l8 :: l9 :: some (.int x) :: ls) (st) h Q ↔ Wp 140 180 (l0 :: l1 :: l2 :: l3 :: l4 :: l5 :: l6 :: l7 :: l8 :: l9 :: some (.int x) :: ls) (.int x :: st) h Q) ∧
  (∀ (ls : Lo) (st : List Value) (h : Hp) (Q : Option Value → Hp → Prop) (l0 l1 l2 l3 l4 l5 l6 : Option Value) (x : Int32), Wp 140 180 (l0 :: l1 :: l2 :: l3 :: l4 :: l5 :: l6 :: some (.int x) :: ls) (st) h Q ↔ Wp 140 182 (l0 :: l1 :: l2 :: l3 :: l4 :: l5 :: l6 :: some (.int x) :: ls) (.int x :: st) h Q) ∧
  (∀ (ls : Lo) (st : List Value) (h : Hp) (Q : Option Value → Hp → Prop) (x y : Int32), Wp 140 182 (ls) (.int y :: .int x :: st) h Q ↔ Br 140 210 185 ls st h Q (y ≤ x)) ∧
  (∀ (ls : Lo) (st : List Value) (h : Hp) (Q : Option Value → Hp → Prop)  (i : Nat), Wp 140 185 (some (.ref i) :: ls) (st) h Q ↔ Wp 140 186 (some (.ref i) :: ls) (.ref i :: st) h Q) ∧
  (∀ (ls : Lo) (st : List Value) (n sl : Nat) (C Z : Nat → Nat) (I : Nat → Nat → Int32) (L : Nat → Nat → Int64) (R : Nat → Nat → Nat) (Q : Option Value → Hp → Prop) (i : Nat), Wp 140 186 (ls) (.ref i :: st) (n, sl, C, Z, I, L, R) Q ↔ (C i = 11 ∧ Wp 140 189 (ls) (.ref (R i 26) :: st) (n, sl, C, Z, I, L, R) Q)) ∧
  (∀ (ls : Lo) (st : List Value) (h : Hp) (Q : Option Value → Hp → Prop) (l0 l1 l2 l3 l4 l5 l6 l7 l8 l9 : Option Value) (x : Int32), Wp 140 189 (l0 :: l1 :: l2 :: l3 :: l4 :: l5 :: l6 :: l7 :: l8 :: l9 :: some (.int x) :: ls) (st) h Q ↔ Wp 140 191 (l0 :: l1 :: l2 :: l3 :: l4 :: l5 :: l6 :: l7 :: l8 :: l9 :: some (.int x) :: ls) (.int x :: st) h Q) ∧
  (∀ (ls : Lo) (st : List Value) (h : Hp) (Q : Option Value → Hp → Prop)  (i : Nat), Wp 140 191 (some (.ref i) :: ls) (st) h Q ↔ Wp 140 192 (some (.ref i) :: ls) (.ref i :: st) h Q) ∧
  (∀ (ls : Lo) (st : List Value) (n sl : Nat) (C Z : Nat → Nat) (I : Nat → Nat → Int32) (L : Nat → Nat → Int64) (R : Nat → Nat → Nat) (Q : Option Value → Hp → Prop) (i : Nat), Wp 140 192 (ls) (.ref i :: st) (n, sl, C, Z, I, L, R) Q ↔ (C i = 11 ∧ Wp 140 195 (ls) (.ref (R i 6) :: st) (n, sl, C, Z, I, L, R) Q)) ∧
  (∀ (ls : Lo) (st : List Value) (h : Hp) (Q : Option Value → Hp → Prop), Wp 140 195 (ls) (st) h Q ↔ Wp 140 196 (ls) (.int (3) :: st) h Q) ∧
  (∀ (ls : Lo) (st : List Value) (h : Hp) (Q : Option Value → Hp → Prop) (l0 : Option Value) (x : Int32), Wp 140 196 (l0 :: some (.int x) :: ls) (st) h Q ↔ Wp 140 197 (l0 :: some (.int x) :: ls) (.int x :: st) h Q) := ⟨by intro ls st h Q l0 l1 l2 l3 l4 l5 l6 l7 l8 x; exact e_iload d140_151 rfl,
  by intro ls st h Q x y; exact e_iadd d140_153,
  by intro ls st h Q; exact e_lconst d140_154 rfl,
  by intro ls st n sl C Z I L R Q i y a; exact e_last d140_155,
  by intro ls st h Q l0 l1 l2 l3 l4 l5 l6 l7 l8 x; exact e_iinc d140_156 rfl rfl rfl,
  by intro ls st h Q; exact e_goto d140_159 (by decide),
  by intro ls st h Q l0 l1 l2 l3 l4 l5 l6 l7 x; exact e_iload d140_162 rfl,
  by intro ls st h Q; exact e_iconst d140_164 rfl,
  by intro ls st h Q x y; exact e_iadd d140_165,
  by intro ls st h Q l0 l1 l2 l3 l4 l5 l6 l7 l8 l9 x; exact e_istore d140_166 rfl,
  by intro ls st h Q l0 l1 l2 l3 l4 l5 l6 l7 l8 x; exact e_iload d140_168 rfl,
  by intro ls st h Q l0 l1 l2 l3 l4 l5 l6 x; exact e_iload d140_170 rfl,
  by intro ls st h Q x y; exact e_ic d140_172 (by decide) c_gt,
  by intro ls st h Q; exact e_iconst d140_175 rfl,
  by intro ls st h Q l0 l1 l2 l3 l4 l5 l6 l7 l8 l9 l10 x; exact e_istore d140_176 rfl,
  by intro ls st h Q l0 l1 l2 l3 l4 l5 l6 l7 l8 l9 x; exact e_iload d140_178 rfl,
  by intro ls st h Q l0 l1 l2 l3 l4 l5 l6 x; exact e_iload d140_180 rfl,
  by intro ls st h Q x y; exact e_ic d140_182 (by decide) c_ge,
  by intro ls st h Q i; exact e_aload_n d140_185 rfl,
  by intro ls st n sl C Z I L R Q i; exact e_get (g := 10) (s := 26) (ty := 2) d140_186 rfl rfl (inG_ne (by decide)),
  by intro ls st h Q l0 l1 l2 l3 l4 l5 l6 l7 l8 l9 x; exact e_iload d140_189 rfl,
  by intro ls st h Q i; exact e_aload_n d140_191 rfl,
  by intro ls st n sl C Z I L R Q i; exact e_get (g := 10) (s := 6) (ty := 2) d140_192 rfl rfl (inG_ne (by decide)),
  by intro ls st h Q; exact e_iconst d140_195 rfl,
  by intro ls st h Q l0 x; exact e_iload_n d140_196 rfl⟩
set_option maxRecDepth 20000 in
theorem S140_4 : (∀ (ls : Lo) (st : List Value) (h : Hp) (Q : Option Value → Hp → Prop) (x y : Int32), Wp 140 197 (ls) (.int y :: .int x :: st) h Q ↔ Wp 140 198 (ls) (.int (x * y) :: st) h Q) ∧
  (∀ (ls : Lo) (st : List Value) (h : Hp) (Q : Option Value → Hp → Prop) (l0 l1 l2 l3 l4 l5 l6 l7 l8 l9 : Option Value) (x : Int32), Wp 140 198 (l0 :: l1 :: l2 :: l3 :: l4 :: l5 :: l6 :: l7 :: l8 :: l9 :: some (.int x) :: ls) (st) h Q ↔ Wp 140 200 (l0 :: l1 :: l2 :: l3 :: l4 :: l5 :: l6 :: l7 :: l8 :: l9 :: some (.int x) :: ls) (.int x :: st) h Q) ∧
  (∀ (ls : Lo) (st : List Value) (h : Hp) (Q : Option Value → Hp → Prop) (x y : Int32), Wp 140 200 (ls) (.int y :: .int x :: st) h Q ↔ Wp 140 201 (ls) (.int (x + y) :: st) h Q) ∧
  (∀ (ls : Lo) (st : List Value) (n sl : Nat) (C Z : Nat → Nat) (I : Nat → Nat → Int32) (L : Nat → Nat → Int64) (R : Nat → Nat → Nat) (Q : Option Value → Hp → Prop) (i : Nat) (y : Int32), Wp 140 201 (ls) (.int y :: .ref i :: st) (n, sl, C, Z, I, L, R) Q ↔ ((inb y (Z i) = true ∧ C i = 21) ∧ Wp 140 202 (ls) (.int (I i (ix y)) :: st) (n, sl, C, Z, I, L, R) Q)) ∧
  (∀ (ls : Lo) (st : List Value) (h : Hp) (Q : Option Value → Hp → Prop) (x : Int32), Wp 140 202 (ls) (.int x :: st) h Q ↔ Wp 140 203 (ls) (.long x.toInt64 :: st) h Q) ∧
  (∀ (ls : Lo) (st : List Value) (n sl : Nat) (C Z : Nat → Nat) (I : Nat → Nat → Int32) (L : Nat → Nat → Int64) (R : Nat → Nat → Nat) (Q : Option Value → Hp → Prop) (i : Nat) (y : Int32) (a : Int64), Wp 140 203 (ls) (.long a :: .int y :: .ref i :: st) (n, sl, C, Z, I, L, R) Q ↔ ((inb y (Z i) = true ∧ C i = 22) ∧ Wp 140 204 (ls) (st) (n, sl, C, Z, I, u2 L i (ix y) a, R) Q)) ∧
  (∀ (ls : Lo) (st : List Value) (h : Hp) (Q : Option Value → Hp → Prop) (l0 l1 l2 l3 l4 l5 l6 l7 l8 l9 : Option Value) (x : Int32), Wp 140 204 (l0 :: l1 :: l2 :: l3 :: l4 :: l5 :: l6 :: l7 :: l8 :: l9 :: some (.int x) :: ls) (st) h Q ↔ Wp 140 207 (l0 :: l1 :: l2 :: l3 :: l4 :: l5 :: l6 :: l7 :: l8 :: clr l9 :: some (.int (x + (1))) :: ls) (st) h Q) ∧
  (∀ (ls : Lo) (st : List Value) (h : Hp) (Q : Option Value → Hp → Prop), Wp 140 207 (ls) (st) h Q ↔ Wp 140 178 (ls) (st) h Q) ∧
  (∀ (ls : Lo) (st : List Value) (h : Hp) (Q : Option Value → Hp → Prop), Wp 140 210 (ls) (st) h Q ↔ Wp 140 211 (ls) (.int (0) :: st) h Q) ∧
  (∀ (ls : Lo) (st : List Value) (h : Hp) (Q : Option Value → Hp → Prop) (l0 l1 l2 l3 l4 l5 l6 l7 l8 l9 l10 : Option Value) (x : Int32), Wp 140 211 (l0 :: l1 :: l2 :: l3 :: l4 :: l5 :: l6 :: l7 :: l8 :: l9 :: l10 :: ls) (.int x :: st) h Q ↔ Wp 140 213 (l0 :: l1 :: l2 :: l3 :: l4 :: l5 :: l6 :: l7 :: l8 :: clr l9 :: some (.int x) :: ls) (st) h Q) ∧
  (∀ (ls : Lo) (st : List Value) (h : Hp) (Q : Option Value → Hp → Prop) (l0 l1 l2 l3 l4 l5 l6 l7 l8 l9 : Option Value) (x : Int32), Wp 140 213 (l0 :: l1 :: l2 :: l3 :: l4 :: l5 :: l6 :: l7 :: l8 :: l9 :: some (.int x) :: ls) (st) h Q ↔ Wp 140 215 (l0 :: l1 :: l2 :: l3 :: l4 :: l5 :: l6 :: l7 :: l8 :: l9 :: some (.int x) :: ls) (.int x :: st) h Q) ∧
  (∀ (ls : Lo) (st : List Value) (h : Hp) (Q : Option Value → Hp → Prop) (l0 l1 l2 l3 l4 l5 l6 l7 l8 : Option Value) (x : Int32), Wp 140 215 (l0 :: l1 :: l2 :: l3 :: l4 :: l5 :: l6 :: l7 :: l8 :: some (.int x) :: ls) (st) h Q ↔ Wp 140 217 (l0 :: l1 :: l2 :: l3 :: l4 :: l5 :: l6 :: l7 :: l8 :: some (.int x) :: ls) (.int x :: st) h Q) ∧
  (∀ (ls : Lo) (st : List Value) (h : Hp) (Q : Option Value → Hp → Prop) (l0 l1 l2 l3 l4 l5 l6 l7 : Option Value) (x : Int32), Wp 140 217 (l0 :: l1 :: l2 :: l3 :: l4 :: l5 :: l6 :: l7 :: some (.int x) :: ls) (st) h Q ↔ Wp 140 219 (l0 :: l1 :: l2 :: l3 :: l4 :: l5 :: l6 :: l7 :: some (.int x) :: ls) (.int x :: st) h Q) ∧
  (∀ (ls : Lo) (st : List Value) (h : Hp) (Q : Option Value → Hp → Prop) (x y : Int32), Wp 140 219 (ls) (.int y :: .int x :: st) h Q ↔ Wp 140 220 (ls) (.int (x - y) :: st) h Q) ∧
  (∀ (ls : Lo) (st : List Value) (h : Hp) (Q : Option Value → Hp → Prop), Wp 140 220 (ls) (st) h Q ↔ Wp 140 221 (ls) (.int (1) :: st) h Q) ∧
  (∀ (ls : Lo) (st : List Value) (h : Hp) (Q : Option Value → Hp → Prop) (x y : Int32), Wp 140 221 (ls) (.int y :: .int x :: st) h Q ↔ Wp 140 222 (ls) (.int (x - y) :: st) h Q) ∧
  (∀ (ls : Lo) (st : List Value) (h : Hp) (Q : Option Value → Hp → Prop) (x y : Int32), Wp 140 222 (ls) (.int y :: .int x :: st) h Q ↔ Br 140 236 225 ls st h Q (y ≤ x)) ∧
  (∀ (ls : Lo) (st : List Value) (h : Hp) (Q : Option Value → Hp → Prop)  (i : Nat), Wp 140 225 (some (.ref i) :: ls) (st) h Q ↔ Wp 140 226 (some (.ref i) :: ls) (.ref i :: st) h Q) ∧
  (∀ (ls : Lo) (st : List Value) (h : Hp) (Q : Option Value → Hp → Prop) (l0 : Option Value) (x : Int32), Wp 140 226 (l0 :: some (.int x) :: ls) (st) h Q ↔ Wp 140 227 (l0 :: some (.int x) :: ls) (.int x :: st) h Q) ∧
  (∀ (ls : Lo) (st : List Value) (n sl : Nat) (C Z : Nat → Nat) (I : Nat → Nat → Int32) (L : Nat → Nat → Int64) (R : Nat → Nat → Nat) (Q : Option Value → Hp → Prop) (x0 : Int32) (i : Nat), C i = 11 → (Wp 140 227 (ls) (.int x0 :: .ref i :: st) (n, sl, C, Z, I, L, R) Q ↔ (wsum st ≤ 8 ∧ Call 123 [some (.ref i), some (.int x0), none, none] (n, sl, C, Z, I, L, R) 140 230 ls st Q))) ∧
  (∀ (ls : Lo) (st : List Value) (h : Hp) (Q : Option Value → Hp → Prop) (l0 l1 l2 l3 l4 l5 l6 l7 l8 l9 : Option Value) (x : Int32), Wp 140 230 (l0 :: l1 :: l2 :: l3 :: l4 :: l5 :: l6 :: l7 :: l8 :: l9 :: some (.int x) :: ls) (st) h Q ↔ Wp 140 233 (l0 :: l1 :: l2 :: l3 :: l4 :: l5 :: l6 :: l7 :: l8 :: clr l9 :: some (.int (x + (1))) :: ls) (st) h Q) ∧
  (∀ (ls : Lo) (st : List Value) (h : Hp) (Q : Option Value → Hp → Prop), Wp 140 233 (ls) (st) h Q ↔ Wp 140 213 (ls) (st) h Q) ∧
  (∀ (ls : Lo) (st : List Value) (h : Hp) (Q : Option Value → Hp → Prop), Wp 140 236 (ls) (st) h Q ↔ Wp 140 237 (ls) (.int (0) :: st) h Q) ∧
  (∀ (ls : Lo) (st : List Value) (h : Hp) (Q : Option Value → Hp → Prop) (l0 l1 l2 l3 l4 l5 l6 l7 l8 l9 l10 : Option Value) (x : Int32), Wp 140 237 (l0 :: l1 :: l2 :: l3 :: l4 :: l5 :: l6 :: l7 :: l8 :: l9 :: l10 :: ls) (.int x :: st) h Q ↔ Wp 140 239 (l0 :: l1 :: l2 :: l3 :: l4 :: l5 :: l6 :: l7 :: l8 :: clr l9 :: some (.int x) :: ls) (st) h Q) ∧
  (∀ (ls : Lo) (st : List Value) (h : Hp) (Q : Option Value → Hp → Prop) (l0 l1 l2 l3 l4 l5 l6 l7 l8 l9 : Option Value) (x : Int32), Wp 140 239 (l0 :: l1 :: l2 :: l3 :: l4 :: l5 :: l6 :: l7 :: l8 :: l9 :: some (.int x) :: ls) (st) h Q ↔ Wp 140 241 (l0 :: l1 :: l2 :: l3 :: l4 :: l5 :: l6 :: l7 :: l8 :: l9 :: some (.int x) :: ls) (.int x :: st) h Q) := ⟨by intro ls st h Q x y; exact e_imul d140_197,
  by intro ls st h Q l0 l1 l2 l3 l4 l5 l6 l7 l8 l9 x; exact e_iload d140_198 rfl,
  by intro ls st h Q x y; exact e_iadd d140_200,
  by intro ls st n sl C Z I L R Q i y; exact e_iald d140_201,
  by intro ls st h Q x; exact e_i2l d140_202,
  by intro ls st n sl C Z I L R Q i y a; exact e_last d140_203,
  by intro ls st h Q l0 l1 l2 l3 l4 l5 l6 l7 l8 l9 x; exact e_iinc d140_204 rfl rfl rfl,
  by intro ls st h Q; exact e_goto d140_207 (by decide),
  by intro ls st h Q; exact e_iconst d140_210 rfl,
  by intro ls st h Q l0 l1 l2 l3 l4 l5 l6 l7 l8 l9 l10 x; exact e_istore d140_211 rfl,
  by intro ls st h Q l0 l1 l2 l3 l4 l5 l6 l7 l8 l9 x; exact e_iload d140_213 rfl,
  by intro ls st h Q l0 l1 l2 l3 l4 l5 l6 l7 l8 x; exact e_iload d140_215 rfl,
  by intro ls st h Q l0 l1 l2 l3 l4 l5 l6 l7 x; exact e_iload d140_217 rfl,
  by intro ls st h Q x y; exact e_isub d140_219,
  by intro ls st h Q; exact e_iconst d140_220 rfl,
  by intro ls st h Q x y; exact e_isub d140_221,
  by intro ls st h Q x y; exact e_ic d140_222 (by decide) c_ge,
  by intro ls st h Q i; exact e_aload_n d140_225 rfl,
  by intro ls st h Q l0 x; exact e_iload_n d140_226 rfl,
  by intro ls st n sl C Z I L R Q x0 i hh; exact e_iv (k2 := 123) (c := 11) (as := [.int x0]) d140_227 rfl (by decide) rfl rfl (by decide +kernel) (Nat.le_of_ble_eq_true rfl) rfl hh,
  by intro ls st h Q l0 l1 l2 l3 l4 l5 l6 l7 l8 l9 x; exact e_iinc d140_230 rfl rfl rfl,
  by intro ls st h Q; exact e_goto d140_233 (by decide),
  by intro ls st h Q; exact e_iconst d140_236 rfl,
  by intro ls st h Q l0 l1 l2 l3 l4 l5 l6 l7 l8 l9 l10 x; exact e_istore d140_237 rfl,
  by intro ls st h Q l0 l1 l2 l3 l4 l5 l6 l7 l8 l9 x; exact e_iload d140_239 rfl⟩
set_option maxRecDepth 20000 in
theorem S140_5 : (∀ (ls : Lo) (st : List Value) (h : Hp) (Q : Option Value → Hp → Prop) (l0 l1 l2 l3 l4 l5 l6 : Option Value) (x : Int32), Wp 140 241 (l0 :: l1 :: l2 :: l3 :: l4 :: l5 :: l6 :: some (.int x) :: ls) (st) h Q ↔ Wp 140 243 (l0 :: l1 :: l2 :: l3 :: l4 :: l5 :: l6 :: some (.int x) :: ls) (.int x :: st) h Q) ∧
  (∀ (ls : Lo) (st : List Value) (h : Hp) (Q : Option Value → Hp → Prop) (x y : Int32), Wp 140 243 (ls) (.int y :: .int x :: st) h Q ↔ Br 140 290 246 ls st h Q (y ≤ x)) ∧
  (∀ (ls : Lo) (st : List Value) (h : Hp) (Q : Option Value → Hp → Prop)  (i : Nat), Wp 140 246 (some (.ref i) :: ls) (st) h Q ↔ Wp 140 247 (some (.ref i) :: ls) (.ref i :: st) h Q) ∧
  (∀ (ls : Lo) (st : List Value) (n sl : Nat) (C Z : Nat → Nat) (I : Nat → Nat → Int32) (L : Nat → Nat → Int64) (R : Nat → Nat → Nat) (Q : Option Value → Hp → Prop) (i : Nat), Wp 140 247 (ls) (.ref i :: st) (n, sl, C, Z, I, L, R) Q ↔ (C i = 11 ∧ Wp 140 250 (ls) (.ref (R i 24) :: st) (n, sl, C, Z, I, L, R) Q)) ∧
  (∀ (ls : Lo) (st : List Value) (h : Hp) (Q : Option Value → Hp → Prop), Wp 140 250 (ls) (st) h Q ↔ Wp 140 251 (ls) (.int (3) :: st) h Q) ∧
  (∀ (ls : Lo) (st : List Value) (h : Hp) (Q : Option Value → Hp → Prop) (l0 l1 l2 l3 l4 l5 l6 l7 : Option Value) (x : Int32), Wp 140 251 (l0 :: l1 :: l2 :: l3 :: l4 :: l5 :: l6 :: l7 :: some (.int x) :: ls) (st) h Q ↔ Wp 140 253 (l0 :: l1 :: l2 :: l3 :: l4 :: l5 :: l6 :: l7 :: some (.int x) :: ls) (.int x :: st) h Q) ∧
  (∀ (ls : Lo) (st : List Value) (h : Hp) (Q : Option Value → Hp → Prop) (x y : Int32), Wp 140 253 (ls) (.int y :: .int x :: st) h Q ↔ Wp 140 254 (ls) (.int (x * y) :: st) h Q) ∧
  (∀ (ls : Lo) (st : List Value) (h : Hp) (Q : Option Value → Hp → Prop) (l0 l1 l2 l3 l4 l5 l6 l7 l8 l9 : Option Value) (x : Int32), Wp 140 254 (l0 :: l1 :: l2 :: l3 :: l4 :: l5 :: l6 :: l7 :: l8 :: l9 :: some (.int x) :: ls) (st) h Q ↔ Wp 140 256 (l0 :: l1 :: l2 :: l3 :: l4 :: l5 :: l6 :: l7 :: l8 :: l9 :: some (.int x) :: ls) (.int x :: st) h Q) ∧
  (∀ (ls : Lo) (st : List Value) (h : Hp) (Q : Option Value → Hp → Prop) (x y : Int32), Wp 140 256 (ls) (.int y :: .int x :: st) h Q ↔ Wp 140 257 (ls) (.int (x + y) :: st) h Q) ∧
  (∀ (ls : Lo) (st : List Value) (h : Hp) (Q : Option Value → Hp → Prop) (x : Int32) (i : Nat), Wp 140 257 (ls) (.int x :: .ref i :: st) h Q ↔ Wp 140 258 (ls) (.int x :: .ref i :: .int x :: .ref i :: st) h Q) ∧
  (∀ (ls : Lo) (st : List Value) (h : Hp) (Q : Option Value → Hp → Prop) (a : Int64), Wp 140 257 (ls) (.long a :: st) h Q ↔ Wp 140 258 (ls) (.long a :: .long a :: st) h Q) ∧
  (∀ (ls : Lo) (st : List Value) (n sl : Nat) (C Z : Nat → Nat) (I : Nat → Nat → Int32) (L : Nat → Nat → Int64) (R : Nat → Nat → Nat) (Q : Option Value → Hp → Prop) (i : Nat) (y : Int32), Wp 140 258 (ls) (.int y :: .ref i :: st) (n, sl, C, Z, I, L, R) Q ↔ ((inb y (Z i) = true ∧ C i = 22) ∧ Wp 140 259 (ls) (.long (L i (ix y)) :: st) (n, sl, C, Z, I, L, R) Q)) ∧
  (∀ (ls : Lo) (st : List Value) (h : Hp) (Q : Option Value → Hp → Prop)  (i : Nat), Wp 140 259 (some (.ref i) :: ls) (st) h Q ↔ Wp 140 260 (some (.ref i) :: ls) (.ref i :: st) h Q) ∧
  (∀ (ls : Lo) (st : List Value) (n sl : Nat) (C Z : Nat → Nat) (I : Nat → Nat → Int32) (L : Nat → Nat → Int64) (R : Nat → Nat → Nat) (Q : Option Value → Hp → Prop) (i : Nat), Wp 140 260 (ls) (.ref i :: st) (n, sl, C, Z, I, L, R) Q ↔ (C i = 11 ∧ Wp 140 263 (ls) (.ref (R i 21) :: st) (n, sl, C, Z, I, L, R) Q)) ∧
  (∀ (ls : Lo) (st : List Value) (h : Hp) (Q : Option Value → Hp → Prop) (l0 l1 l2 l3 l4 l5 l6 l7 l8 : Option Value) (x : Int32), Wp 140 263 (l0 :: l1 :: l2 :: l3 :: l4 :: l5 :: l6 :: l7 :: l8 :: some (.int x) :: ls) (st) h Q ↔ Wp 140 265 (l0 :: l1 :: l2 :: l3 :: l4 :: l5 :: l6 :: l7 :: l8 :: some (.int x) :: ls) (.int x :: st) h Q) ∧
  (∀ (ls : Lo) (st : List Value) (n sl : Nat) (C Z : Nat → Nat) (I : Nat → Nat → Int32) (L : Nat → Nat → Int64) (R : Nat → Nat → Nat) (Q : Option Value → Hp → Prop) (i : Nat) (y : Int32), Wp 140 265 (ls) (.int y :: .ref i :: st) (n, sl, C, Z, I, L, R) Q ↔ ((inb y (Z i) = true ∧ C i = 22) ∧ Wp 140 266 (ls) (.long (L i (ix y)) :: st) (n, sl, C, Z, I, L, R) Q)) ∧
  (∀ (ls : Lo) (st : List Value) (h : Hp) (Q : Option Value → Hp → Prop)  (i : Nat), Wp 140 266 (some (.ref i) :: ls) (st) h Q ↔ Wp 140 267 (some (.ref i) :: ls) (.ref i :: st) h Q) ∧
  (∀ (ls : Lo) (st : List Value) (n sl : Nat) (C Z : Nat → Nat) (I : Nat → Nat → Int32) (L : Nat → Nat → Int64) (R : Nat → Nat → Nat) (Q : Option Value → Hp → Prop) (i : Nat), Wp 140 267 (ls) (.ref i :: st) (n, sl, C, Z, I, L, R) Q ↔ (C i = 11 ∧ Wp 140 270 (ls) (.ref (R i 3) :: st) (n, sl, C, Z, I, L, R) Q)) ∧
  (∀ (ls : Lo) (st : List Value) (h : Hp) (Q : Option Value → Hp → Prop) (l0 : Option Value) (x : Int32), Wp 140 270 (l0 :: some (.int x) :: ls) (st) h Q ↔ Wp 140 271 (l0 :: some (.int x) :: ls) (.int x :: st) h Q) ∧
  (∀ (ls : Lo) (st : List Value) (n sl : Nat) (C Z : Nat → Nat) (I : Nat → Nat → Int32) (L : Nat → Nat → Int64) (R : Nat → Nat → Nat) (Q : Option Value → Hp → Prop) (i : Nat) (y : Int32), Wp 140 271 (ls) (.int y :: .ref i :: st) (n, sl, C, Z, I, L, R) Q ↔ ((inb y (Z i) = true ∧ C i = 21) ∧ Wp 140 272 (ls) (.int (I i (ix y)) :: st) (n, sl, C, Z, I, L, R) Q)) ∧
  (∀ (ls : Lo) (st : List Value) (h : Hp) (Q : Option Value → Hp → Prop) (x : Int32), Wp 140 272 (ls) (.int x :: st) h Q ↔ Wp 140 273 (ls) (.long x.toInt64 :: st) h Q) ∧
  (∀ (ls : Lo) (st : List Value) (h : Hp) (Q : Option Value → Hp → Prop) (a b : Int64), Wp 140 273 (ls) (.long b :: .long a :: st) h Q ↔ Wp 140 274 (ls) (.long (a * b) :: st) h Q) ∧
  (∀ (ls : Lo) (st : List Value) (h : Hp) (Q : Option Value → Hp → Prop)  (i : Nat), Wp 140 274 (some (.ref i) :: ls) (st) h Q ↔ Wp 140 275 (some (.ref i) :: ls) (.ref i :: st) h Q) ∧
  (∀ (ls : Lo) (st : List Value) (n sl : Nat) (C Z : Nat → Nat) (I : Nat → Nat → Int32) (L : Nat → Nat → Int64) (R : Nat → Nat → Nat) (Q : Option Value → Hp → Prop) (i : Nat), Wp 140 275 (ls) (.ref i :: st) (n, sl, C, Z, I, L, R) Q ↔ (C i = 11 ∧ Wp 140 278 (ls) (.ref (R i 26) :: st) (n, sl, C, Z, I, L, R) Q)) ∧
  (∀ (ls : Lo) (st : List Value) (h : Hp) (Q : Option Value → Hp → Prop) (l0 l1 l2 l3 l4 l5 l6 l7 l8 l9 : Option Value) (x : Int32), Wp 140 278 (l0 :: l1 :: l2 :: l3 :: l4 :: l5 :: l6 :: l7 :: l8 :: l9 :: some (.int x) :: ls) (st) h Q ↔ Wp 140 280 (l0 :: l1 :: l2 :: l3 :: l4 :: l5 :: l6 :: l7 :: l8 :: l9 :: some (.int x) :: ls) (.int x :: st) h Q) := ⟨by intro ls st h Q l0 l1 l2 l3 l4 l5 l6 x; exact e_iload d140_241 rfl,
  by intro ls st h Q x y; exact e_ic d140_243 (by decide) c_ge,
  by intro ls st h Q i; exact e_aload_n d140_246 rfl,
  by intro ls st n sl C Z I L R Q i; exact e_get (g := 10) (s := 24) (ty := 2) d140_247 rfl rfl (inG_ne (by decide)),
  by intro ls st h Q; exact e_iconst d140_250 rfl,
  by intro ls st h Q l0 l1 l2 l3 l4 l5 l6 l7 x; exact e_iload d140_251 rfl,
  by intro ls st h Q x y; exact e_imul d140_253,
  by intro ls st h Q l0 l1 l2 l3 l4 l5 l6 l7 l8 l9 x; exact e_iload d140_254 rfl,
  by intro ls st h Q x y; exact e_iadd d140_256,
  by intro ls st h Q x i; exact e_dup2R d140_257,
  by intro ls st h Q a; exact e_dup2L d140_257,
  by intro ls st n sl C Z I L R Q i y; exact e_lald d140_258,
  by intro ls st h Q i; exact e_aload_n d140_259 rfl,
  by intro ls st n sl C Z I L R Q i; exact e_get (g := 10) (s := 21) (ty := 2) d140_260 rfl rfl (inG_ne (by decide)),
  by intro ls st h Q l0 l1 l2 l3 l4 l5 l6 l7 l8 x; exact e_iload d140_263 rfl,
  by intro ls st n sl C Z I L R Q i y; exact e_lald d140_265,
  by intro ls st h Q i; exact e_aload_n d140_266 rfl,
  by intro ls st n sl C Z I L R Q i; exact e_get (g := 10) (s := 3) (ty := 2) d140_267 rfl rfl (inG_ne (by decide)),
  by intro ls st h Q l0 x; exact e_iload_n d140_270 rfl,
  by intro ls st n sl C Z I L R Q i y; exact e_iald d140_271,
  by intro ls st h Q x; exact e_i2l d140_272,
  by intro ls st h Q a b; exact e_lmul d140_273,
  by intro ls st h Q i; exact e_aload_n d140_274 rfl,
  by intro ls st n sl C Z I L R Q i; exact e_get (g := 10) (s := 26) (ty := 2) d140_275 rfl rfl (inG_ne (by decide)),
  by intro ls st h Q l0 l1 l2 l3 l4 l5 l6 l7 l8 l9 x; exact e_iload d140_278 rfl⟩
set_option maxRecDepth 20000 in
theorem S140_6 : (∀ (ls : Lo) (st : List Value) (n sl : Nat) (C Z : Nat → Nat) (I : Nat → Nat → Int32) (L : Nat → Nat → Int64) (R : Nat → Nat → Nat) (Q : Option Value → Hp → Prop) (i : Nat) (y : Int32), Wp 140 280 (ls) (.int y :: .ref i :: st) (n, sl, C, Z, I, L, R) Q ↔ ((inb y (Z i) = true ∧ C i = 22) ∧ Wp 140 281 (ls) (.long (L i (ix y)) :: st) (n, sl, C, Z, I, L, R) Q)) ∧
  (∀ (ls : Lo) (st : List Value) (h : Hp) (Q : Option Value → Hp → Prop) (a b : Int64), Wp 140 281 (ls) (.long b :: .long a :: st) h Q ↔ Wp 140 282 (ls) (.long (a * b) :: st) h Q) ∧
  (∀ (ls : Lo) (st : List Value) (h : Hp) (Q : Option Value → Hp → Prop) (a b : Int64), Wp 140 282 (ls) (.long b :: .long a :: st) h Q ↔ Wp 140 283 (ls) (.long (a + b) :: st) h Q) ∧
  (∀ (ls : Lo) (st : List Value) (n sl : Nat) (C Z : Nat → Nat) (I : Nat → Nat → Int32) (L : Nat → Nat → Int64) (R : Nat → Nat → Nat) (Q : Option Value → Hp → Prop) (i : Nat) (y : Int32) (a : Int64), Wp 140 283 (ls) (.long a :: .int y :: .ref i :: st) (n, sl, C, Z, I, L, R) Q ↔ ((inb y (Z i) = true ∧ C i = 22) ∧ Wp 140 284 (ls) (st) (n, sl, C, Z, I, u2 L i (ix y) a, R) Q)) ∧
  (∀ (ls : Lo) (st : List Value) (h : Hp) (Q : Option Value → Hp → Prop) (l0 l1 l2 l3 l4 l5 l6 l7 l8 l9 : Option Value) (x : Int32), Wp 140 284 (l0 :: l1 :: l2 :: l3 :: l4 :: l5 :: l6 :: l7 :: l8 :: l9 :: some (.int x) :: ls) (st) h Q ↔ Wp 140 287 (l0 :: l1 :: l2 :: l3 :: l4 :: l5 :: l6 :: l7 :: l8 :: clr l9 :: some (.int (x + (1))) :: ls) (st) h Q) ∧
  (∀ (ls : Lo) (st : List Value) (h : Hp) (Q : Option Value → Hp → Prop), Wp 140 287 (ls) (st) h Q ↔ Wp 140 239 (ls) (st) h Q) ∧
  (∀ (ls : Lo) (st : List Value) (h : Hp) (Q : Option Value → Hp → Prop) (l0 l1 l2 l3 l4 l5 l6 l7 l8 : Option Value) (x : Int32), Wp 140 290 (l0 :: l1 :: l2 :: l3 :: l4 :: l5 :: l6 :: l7 :: l8 :: some (.int x) :: ls) (st) h Q ↔ Wp 140 293 (l0 :: l1 :: l2 :: l3 :: l4 :: l5 :: l6 :: l7 :: clr l8 :: some (.int (x + (1))) :: ls) (st) h Q) ∧
  (∀ (ls : Lo) (st : List Value) (h : Hp) (Q : Option Value → Hp → Prop), Wp 140 293 (ls) (st) h Q ↔ Wp 140 168 (ls) (st) h Q) ∧
  (∀ (ls : Lo) (st : List Value) (h : Hp) (Q : Option Value → Hp → Prop) (l0 l1 l2 l3 l4 l5 l6 l7 : Option Value) (x : Int32), Wp 140 296 (l0 :: l1 :: l2 :: l3 :: l4 :: l5 :: l6 :: l7 :: some (.int x) :: ls) (st) h Q ↔ Wp 140 299 (l0 :: l1 :: l2 :: l3 :: l4 :: l5 :: l6 :: clr l7 :: some (.int (x + (1))) :: ls) (st) h Q) ∧
  (∀ (ls : Lo) (st : List Value) (h : Hp) (Q : Option Value → Hp → Prop), Wp 140 299 (ls) (st) h Q ↔ Wp 140 126 (ls) (st) h Q) ∧
  (∀ (ls : Lo) (st : List Value) (h : Hp) (Q : Option Value → Hp → Prop), Wp 140 302 (ls) (st) h Q ↔ Wp 140 303 (ls) (.int (0) :: st) h Q) ∧
  (∀ (ls : Lo) (st : List Value) (h : Hp) (Q : Option Value → Hp → Prop) (l0 l1 l2 l3 l4 l5 l6 l7 l8 : Option Value) (x : Int32), Wp 140 303 (l0 :: l1 :: l2 :: l3 :: l4 :: l5 :: l6 :: l7 :: l8 :: ls) (.int x :: st) h Q ↔ Wp 140 305 (l0 :: l1 :: l2 :: l3 :: l4 :: l5 :: l6 :: clr l7 :: some (.int x) :: ls) (st) h Q) ∧
  (∀ (ls : Lo) (st : List Value) (h : Hp) (Q : Option Value → Hp → Prop) (l0 l1 l2 l3 l4 l5 l6 l7 : Option Value) (x : Int32), Wp 140 305 (l0 :: l1 :: l2 :: l3 :: l4 :: l5 :: l6 :: l7 :: some (.int x) :: ls) (st) h Q ↔ Wp 140 307 (l0 :: l1 :: l2 :: l3 :: l4 :: l5 :: l6 :: l7 :: some (.int x) :: ls) (.int x :: st) h Q) ∧
  (∀ (ls : Lo) (st : List Value) (h : Hp) (Q : Option Value → Hp → Prop) (l0 l1 l2 l3 l4 l5 l6 : Option Value) (x : Int32), Wp 140 307 (l0 :: l1 :: l2 :: l3 :: l4 :: l5 :: l6 :: some (.int x) :: ls) (st) h Q ↔ Wp 140 309 (l0 :: l1 :: l2 :: l3 :: l4 :: l5 :: l6 :: some (.int x) :: ls) (.int x :: st) h Q) ∧
  (∀ (ls : Lo) (st : List Value) (h : Hp) (Q : Option Value → Hp → Prop) (x y : Int32), Wp 140 309 (ls) (.int y :: .int x :: st) h Q ↔ Br 140 355 312 ls st h Q (y ≤ x)) ∧
  (∀ (ls : Lo) (st : List Value) (h : Hp) (Q : Option Value → Hp → Prop)  (i : Nat), Wp 140 312 (some (.ref i) :: ls) (st) h Q ↔ Wp 140 313 (some (.ref i) :: ls) (.ref i :: st) h Q) ∧
  (∀ (ls : Lo) (st : List Value) (n sl : Nat) (C Z : Nat → Nat) (I : Nat → Nat → Int32) (L : Nat → Nat → Int64) (R : Nat → Nat → Nat) (Q : Option Value → Hp → Prop) (i : Nat), Wp 140 313 (ls) (.ref i :: st) (n, sl, C, Z, I, L, R) Q ↔ (C i = 11 ∧ Wp 140 316 (ls) (.ref (R i 26) :: st) (n, sl, C, Z, I, L, R) Q)) ∧
  (∀ (ls : Lo) (st : List Value) (h : Hp) (Q : Option Value → Hp → Prop) (l0 l1 l2 l3 l4 l5 l6 l7 : Option Value) (x : Int32), Wp 140 316 (l0 :: l1 :: l2 :: l3 :: l4 :: l5 :: l6 :: l7 :: some (.int x) :: ls) (st) h Q ↔ Wp 140 318 (l0 :: l1 :: l2 :: l3 :: l4 :: l5 :: l6 :: l7 :: some (.int x) :: ls) (.int x :: st) h Q) ∧
  (∀ (ls : Lo) (st : List Value) (h : Hp) (Q : Option Value → Hp → Prop) (l0 l1 l2 l3 l4 l5 l6 l7 : Option Value) (x : Int32), Wp 140 318 (l0 :: l1 :: l2 :: l3 :: l4 :: l5 :: l6 :: l7 :: some (.int x) :: ls) (st) h Q ↔ Wp 140 320 (l0 :: l1 :: l2 :: l3 :: l4 :: l5 :: l6 :: l7 :: some (.int x) :: ls) (.int x :: st) h Q) ∧
  (∀ (ls : Lo) (st : List Value) (h : Hp) (Q : Option Value → Hp → Prop) (x : Int32), Wp 140 320 (ls) (.int x :: st) h Q ↔ Br 140 327 323 ls st h Q (¬ x = 0)) ∧
  (∀ (ls : Lo) (st : List Value) (h : Hp) (Q : Option Value → Hp → Prop) (l0 l1 : Option Value) (x : Int32), Wp 140 323 (l0 :: l1 :: some (.int x) :: ls) (st) h Q ↔ Wp 140 324 (l0 :: l1 :: some (.int x) :: ls) (.int x :: st) h Q) ∧
  (∀ (ls : Lo) (st : List Value) (h : Hp) (Q : Option Value → Hp → Prop), Wp 140 324 (ls) (st) h Q ↔ Wp 140 339 (ls) (st) h Q) ∧
  (∀ (ls : Lo) (st : List Value) (h : Hp) (Q : Option Value → Hp → Prop) (l0 l1 l2 l3 l4 l5 l6 l7 : Option Value) (x : Int32), Wp 140 327 (l0 :: l1 :: l2 :: l3 :: l4 :: l5 :: l6 :: l7 :: some (.int x) :: ls) (st) h Q ↔ Wp 140 329 (l0 :: l1 :: l2 :: l3 :: l4 :: l5 :: l6 :: l7 :: some (.int x) :: ls) (.int x :: st) h Q) ∧
  (∀ (ls : Lo) (st : List Value) (h : Hp) (Q : Option Value → Hp → Prop), Wp 140 329 (ls) (st) h Q ↔ Wp 140 330 (ls) (.int (1) :: st) h Q) ∧
  (∀ (ls : Lo) (st : List Value) (h : Hp) (Q : Option Value → Hp → Prop) (x y : Int32), Wp 140 330 (ls) (.int y :: .int x :: st) h Q ↔ Br 140 337 333 ls st h Q (¬ x = y)) := ⟨by intro ls st n sl C Z I L R Q i y; exact e_lald d140_280,
  by intro ls st h Q a b; exact e_lmul d140_281,
  by intro ls st h Q a b; exact e_ladd d140_282,
  by intro ls st n sl C Z I L R Q i y a; exact e_last d140_283,
  by intro ls st h Q l0 l1 l2 l3 l4 l5 l6 l7 l8 l9 x; exact e_iinc d140_284 rfl rfl rfl,
  by intro ls st h Q; exact e_goto d140_287 (by decide),
  by intro ls st h Q l0 l1 l2 l3 l4 l5 l6 l7 l8 x; exact e_iinc d140_290 rfl rfl rfl,
  by intro ls st h Q; exact e_goto d140_293 (by decide),
  by intro ls st h Q l0 l1 l2 l3 l4 l5 l6 l7 x; exact e_iinc d140_296 rfl rfl rfl,
  by intro ls st h Q; exact e_goto d140_299 (by decide),
  by intro ls st h Q; exact e_iconst d140_302 rfl,
  by intro ls st h Q l0 l1 l2 l3 l4 l5 l6 l7 l8 x; exact e_istore d140_303 rfl,
  by intro ls st h Q l0 l1 l2 l3 l4 l5 l6 l7 x; exact e_iload d140_305 rfl,
  by intro ls st h Q l0 l1 l2 l3 l4 l5 l6 x; exact e_iload d140_307 rfl,
  by intro ls st h Q x y; exact e_ic d140_309 (by decide) c_ge,
  by intro ls st h Q i; exact e_aload_n d140_312 rfl,
  by intro ls st n sl C Z I L R Q i; exact e_get (g := 10) (s := 26) (ty := 2) d140_313 rfl rfl (inG_ne (by decide)),
  by intro ls st h Q l0 l1 l2 l3 l4 l5 l6 l7 x; exact e_iload d140_316 rfl,
  by intro ls st h Q l0 l1 l2 l3 l4 l5 l6 l7 x; exact e_iload d140_318 rfl,
  by intro ls st h Q x; exact e_if d140_320 (by decide) c_ne,
  by intro ls st h Q l0 l1 x; exact e_iload_n d140_323 rfl,
  by intro ls st h Q; exact e_goto d140_324 (by decide),
  by intro ls st h Q l0 l1 l2 l3 l4 l5 l6 l7 x; exact e_iload d140_327 rfl,
  by intro ls st h Q; exact e_iconst d140_329 rfl,
  by intro ls st h Q x y; exact e_ic d140_330 (by decide) c_ne⟩
set_option maxRecDepth 20000 in
theorem S140_7 : (∀ (ls : Lo) (st : List Value) (h : Hp) (Q : Option Value → Hp → Prop) (l0 l1 l2 : Option Value) (x : Int32), Wp 140 333 (l0 :: l1 :: l2 :: some (.int x) :: ls) (st) h Q ↔ Wp 140 334 (l0 :: l1 :: l2 :: some (.int x) :: ls) (.int x :: st) h Q) ∧
  (∀ (ls : Lo) (st : List Value) (h : Hp) (Q : Option Value → Hp → Prop), Wp 140 334 (ls) (st) h Q ↔ Wp 140 339 (ls) (st) h Q) ∧
  (∀ (ls : Lo) (st : List Value) (h : Hp) (Q : Option Value → Hp → Prop) (l0 l1 l2 l3 : Option Value) (x : Int32), Wp 140 337 (l0 :: l1 :: l2 :: l3 :: some (.int x) :: ls) (st) h Q ↔ Wp 140 339 (l0 :: l1 :: l2 :: l3 :: some (.int x) :: ls) (.int x :: st) h Q) ∧
  (∀ (ls : Lo) (st : List Value) (h : Hp) (Q : Option Value → Hp → Prop) (x : Int32), Wp 140 339 (ls) (.int x :: st) h Q ↔ Wp 140 340 (ls) (.long x.toInt64 :: st) h Q) ∧
  (∀ (ls : Lo) (st : List Value) (h : Hp) (Q : Option Value → Hp → Prop)  (i : Nat), Wp 140 340 (some (.ref i) :: ls) (st) h Q ↔ Wp 140 341 (some (.ref i) :: ls) (.ref i :: st) h Q) ∧
  (∀ (ls : Lo) (st : List Value) (n sl : Nat) (C Z : Nat → Nat) (I : Nat → Nat → Int32) (L : Nat → Nat → Int64) (R : Nat → Nat → Nat) (Q : Option Value → Hp → Prop) (i : Nat), Wp 140 341 (ls) (.ref i :: st) (n, sl, C, Z, I, L, R) Q ↔ (C i = 11 ∧ Wp 140 344 (ls) (.ref (R i 21) :: st) (n, sl, C, Z, I, L, R) Q)) ∧
  (∀ (ls : Lo) (st : List Value) (h : Hp) (Q : Option Value → Hp → Prop) (l0 l1 l2 l3 l4 l5 l6 l7 : Option Value) (x : Int32), Wp 140 344 (l0 :: l1 :: l2 :: l3 :: l4 :: l5 :: l6 :: l7 :: some (.int x) :: ls) (st) h Q ↔ Wp 140 346 (l0 :: l1 :: l2 :: l3 :: l4 :: l5 :: l6 :: l7 :: some (.int x) :: ls) (.int x :: st) h Q) ∧
  (∀ (ls : Lo) (st : List Value) (n sl : Nat) (C Z : Nat → Nat) (I : Nat → Nat → Int32) (L : Nat → Nat → Int64) (R : Nat → Nat → Nat) (Q : Option Value → Hp → Prop) (i : Nat) (y : Int32), Wp 140 346 (ls) (.int y :: .ref i :: st) (n, sl, C, Z, I, L, R) Q ↔ ((inb y (Z i) = true ∧ C i = 22) ∧ Wp 140 347 (ls) (.long (L i (ix y)) :: st) (n, sl, C, Z, I, L, R) Q)) ∧
  (∀ (ls : Lo) (st : List Value) (h : Hp) (Q : Option Value → Hp → Prop) (a b : Int64), Wp 140 347 (ls) (.long b :: .long a :: st) h Q ↔ Wp 140 348 (ls) (.long (a - b) :: st) h Q) ∧
  (∀ (ls : Lo) (st : List Value) (n sl : Nat) (C Z : Nat → Nat) (I : Nat → Nat → Int32) (L : Nat → Nat → Int64) (R : Nat → Nat → Nat) (Q : Option Value → Hp → Prop) (i : Nat) (y : Int32) (a : Int64), Wp 140 348 (ls) (.long a :: .int y :: .ref i :: st) (n, sl, C, Z, I, L, R) Q ↔ ((inb y (Z i) = true ∧ C i = 22) ∧ Wp 140 349 (ls) (st) (n, sl, C, Z, I, u2 L i (ix y) a, R) Q)) ∧
  (∀ (ls : Lo) (st : List Value) (h : Hp) (Q : Option Value → Hp → Prop) (l0 l1 l2 l3 l4 l5 l6 l7 : Option Value) (x : Int32), Wp 140 349 (l0 :: l1 :: l2 :: l3 :: l4 :: l5 :: l6 :: l7 :: some (.int x) :: ls) (st) h Q ↔ Wp 140 352 (l0 :: l1 :: l2 :: l3 :: l4 :: l5 :: l6 :: clr l7 :: some (.int (x + (1))) :: ls) (st) h Q) ∧
  (∀ (ls : Lo) (st : List Value) (h : Hp) (Q : Option Value → Hp → Prop), Wp 140 352 (ls) (st) h Q ↔ Wp 140 305 (ls) (st) h Q) ∧
  (∀ (ls : Lo) (st : List Value) (h : Hp) (Q : Option Value → Hp → Prop)  (i : Nat), Wp 140 355 (some (.ref i) :: ls) (st) h Q ↔ Wp 140 356 (some (.ref i) :: ls) (.ref i :: st) h Q) ∧
  (∀ (ls : Lo) (st : List Value) (h : Hp) (Q : Option Value → Hp → Prop)  (i : Nat), Wp 140 356 (some (.ref i) :: ls) (st) h Q ↔ Wp 140 357 (some (.ref i) :: ls) (.ref i :: st) h Q) ∧
  (∀ (ls : Lo) (st : List Value) (h : Hp) (Q : Option Value → Hp → Prop) (l0 l1 l2 l3 l4 l5 l6 : Option Value) (x : Int32), Wp 140 357 (l0 :: l1 :: l2 :: l3 :: l4 :: l5 :: l6 :: some (.int x) :: ls) (st) h Q ↔ Wp 140 359 (l0 :: l1 :: l2 :: l3 :: l4 :: l5 :: l6 :: some (.int x) :: ls) (.int x :: st) h Q) ∧
  (∀ (ls : Lo) (st : List Value) (h : Hp) (Q : Option Value → Hp → Prop) (l0 l1 l2 l3 l4 : Option Value) (x : Int32), Wp 140 359 (l0 :: l1 :: l2 :: l3 :: l4 :: some (.int x) :: ls) (st) h Q ↔ Wp 140 361 (l0 :: l1 :: l2 :: l3 :: l4 :: some (.int x) :: ls) (.int x :: st) h Q) ∧
  (∀ (ls : Lo) (st : List Value) (n sl : Nat) (C Z : Nat → Nat) (I : Nat → Nat → Int32) (L : Nat → Nat → Int64) (R : Nat → Nat → Nat) (Q : Option Value → Hp → Prop) (x0 : Int32) (x1 : Int32) (i : Nat), C i = 11 → (Wp 140 361 (ls) (.int x1 :: .int x0 :: .ref i :: st) (n, sl, C, Z, I, L, R) Q ↔ (wsum st ≤ 8 ∧ Call 139 [some (.ref i), some (.int x0), some (.int x1), none, none] (n, sl, C, Z, I, L, R) 140 364 ls st Q))) ∧
  (∀ (ls : Lo) (st : List Value) (h : Hp) (Q : Option Value → Hp → Prop)  (i : Nat), Wp 140 364 (some (.ref i) :: ls) (st) h Q ↔ Wp 140 365 (some (.ref i) :: ls) (.ref i :: st) h Q) ∧
  (∀ (ls : Lo) (st : List Value) (h : Hp) (Q : Option Value → Hp → Prop) (l0 l1 l2 l3 l4 l5 l6 : Option Value) (x : Int32), Wp 140 365 (l0 :: l1 :: l2 :: l3 :: l4 :: l5 :: l6 :: some (.int x) :: ls) (st) h Q ↔ Wp 140 367 (l0 :: l1 :: l2 :: l3 :: l4 :: l5 :: l6 :: some (.int x) :: ls) (.int x :: st) h Q) ∧
  (∀ (ls : Lo) (st : List Value) (h : Hp) (Q : Option Value → Hp → Prop), Wp 140 367 (ls) (st) h Q ↔ Wp 140 368 (ls) (.int (-1) :: st) h Q) ∧
  (∀ (ls : Lo) (st : List Value) (n sl : Nat) (C Z : Nat → Nat) (I : Nat → Nat → Int32) (L : Nat → Nat → Int64) (R : Nat → Nat → Nat) (Q : Option Value → Hp → Prop) (x0 : Int32) (x1 : Int32) (i : Nat), C i = 11 → (Wp 140 368 (ls) (.int x1 :: .int x0 :: .ref i :: st) (n, sl, C, Z, I, L, R) Q ↔ (wsum st ≤ 8 ∧ Call 139 [some (.ref i), some (.int x0), some (.int x1), none, none] (n, sl, C, Z, I, L, R) 140 371 ls st Q))) ∧
  (∀ (ls : Lo) (st : List Value) (n sl : Nat) (C Z : Nat → Nat) (I : Nat → Nat → Int32) (L : Nat → Nat → Int64) (R : Nat → Nat → Nat) (Q : Option Value → Hp → Prop) (x0 : Int64) (x1 : Int64) (i : Nat), C i = 11 → (Wp 140 371 (ls) (.long x1 :: .long x0 :: .ref i :: st) (n, sl, C, Z, I, L, R) Q ↔ (wsum st ≤ 8 ∧ Call 106 [some (.ref i), some (.long x0), none, some (.long x1), none, none, none] (n, sl, C, Z, I, L, R) 140 374 ls st Q))) ∧
  (∀ (ls : Lo) (st : List Value) (h : Hp) (Q : Option Value → Hp → Prop)  (i : Nat), Wp 140 374 (some (.ref i) :: ls) (st) h Q ↔ Wp 140 375 (some (.ref i) :: ls) (.ref i :: st) h Q) ∧
  (∀ (ls : Lo) (st : List Value) (h : Hp) (Q : Option Value → Hp → Prop) (l0 l1 l2 l3 l4 l5 : Option Value) (x : Int32), Wp 140 375 (l0 :: l1 :: l2 :: l3 :: l4 :: l5 :: some (.int x) :: ls) (st) h Q ↔ Wp 140 377 (l0 :: l1 :: l2 :: l3 :: l4 :: l5 :: some (.int x) :: ls) (.int x :: st) h Q) ∧
  (∀ (ls : Lo) (st : List Value) (n sl : Nat) (C Z : Nat → Nat) (I : Nat → Nat → Int32) (L : Nat → Nat → Int64) (R : Nat → Nat → Nat) (Q : Option Value → Hp → Prop) (x0 : Int32) (i : Nat), C i = 11 → (Wp 140 377 (ls) (.int x0 :: .ref i :: st) (n, sl, C, Z, I, L, R) Q ↔ (wsum st ≤ 8 ∧ Call 107 [some (.ref i), some (.int x0)] (n, sl, C, Z, I, L, R) 140 380 ls st Q))) := ⟨by intro ls st h Q l0 l1 l2 x; exact e_iload_n d140_333 rfl,
  by intro ls st h Q; exact e_goto d140_334 (by decide),
  by intro ls st h Q l0 l1 l2 l3 x; exact e_iload d140_337 rfl,
  by intro ls st h Q x; exact e_i2l d140_339,
  by intro ls st h Q i; exact e_aload_n d140_340 rfl,
  by intro ls st n sl C Z I L R Q i; exact e_get (g := 10) (s := 21) (ty := 2) d140_341 rfl rfl (inG_ne (by decide)),
  by intro ls st h Q l0 l1 l2 l3 l4 l5 l6 l7 x; exact e_iload d140_344 rfl,
  by intro ls st n sl C Z I L R Q i y; exact e_lald d140_346,
  by intro ls st h Q a b; exact e_lsub d140_347,
  by intro ls st n sl C Z I L R Q i y a; exact e_last d140_348,
  by intro ls st h Q l0 l1 l2 l3 l4 l5 l6 l7 x; exact e_iinc d140_349 rfl rfl rfl,
  by intro ls st h Q; exact e_goto d140_352 (by decide),
  by intro ls st h Q i; exact e_aload_n d140_355 rfl,
  by intro ls st h Q i; exact e_aload_n d140_356 rfl,
  by intro ls st h Q l0 l1 l2 l3 l4 l5 l6 x; exact e_iload d140_357 rfl,
  by intro ls st h Q l0 l1 l2 l3 l4 x; exact e_iload d140_359 rfl,
  by intro ls st n sl C Z I L R Q x0 x1 i hh; exact e_iv (k2 := 139) (c := 11) (as := [.int x0, .int x1]) d140_361 rfl (by decide) rfl rfl (by decide +kernel) (Nat.le_of_ble_eq_true rfl) rfl hh,
  by intro ls st h Q i; exact e_aload_n d140_364 rfl,
  by intro ls st h Q l0 l1 l2 l3 l4 l5 l6 x; exact e_iload d140_365 rfl,
  by intro ls st h Q; exact e_iconst d140_367 rfl,
  by intro ls st n sl C Z I L R Q x0 x1 i hh; exact e_iv (k2 := 139) (c := 11) (as := [.int x0, .int x1]) d140_368 rfl (by decide) rfl rfl (by decide +kernel) (Nat.le_of_ble_eq_true rfl) rfl hh,
  by intro ls st n sl C Z I L R Q x0 x1 i hh; exact e_iv (k2 := 106) (c := 11) (as := [.long x0, .long x1]) d140_371 rfl (by decide) rfl rfl (by decide +kernel) (Nat.le_of_ble_eq_true rfl) rfl hh,
  by intro ls st h Q i; exact e_aload_n d140_374 rfl,
  by intro ls st h Q l0 l1 l2 l3 l4 l5 x; exact e_iload d140_375 rfl,
  by intro ls st n sl C Z I L R Q x0 i hh; exact e_iv (k2 := 107) (c := 11) (as := [.int x0]) d140_377 rfl (by decide) rfl rfl (by decide +kernel) (Nat.le_of_ble_eq_true rfl) rfl hh⟩
theorem S140_8 : ∀ (ls : Lo) (h : Hp) (Q : Option Value → Hp → Prop) (a : Int64), Wp 140 380 (ls) ([.long a]) h Q ↔ Q (some (.long a)) h := by intros; exact e_rL d140_380 rfl
theorem d141_0 : decode (byt 141) 0 = .ok (.aload_n 0, 1) := by decide +kernel
theorem d141_1 : decode (byt 141) 1 = .ok (.iload_n 1, 1) := by decide +kernel
theorem d141_2 : decode (byt 141) 2 = .ok (.invokevirtual 105, 3) := by decide +kernel
theorem d141_5 : decode (byt 141) 5 = .ok (.ifCond .eq 13, 3) := by decide +kernel
theorem d141_8 : decode (byt 141) 8 = .ok (.aload_n 0, 1) := by decide +kernel
theorem d141_9 : decode (byt 141) 9 = .ok (.getfield 7, 3) := by decide +kernel
theorem d141_12 : decode (byt 141) 12 = .ok (.iload_n 1, 1) := by decide +kernel
theorem d141_13 : decode (byt 141) 13 = .ok (.iaload, 1) := by decide +kernel
theorem d141_14 : decode (byt 141) 14 = .ok (.iconst 1, 1) := by decide +kernel
theorem d141_15 : decode (byt 141) 15 = .ok (.if_icmp .ne 6, 3) := by decide +kernel
theorem d141_18 : decode (byt 141) 18 = .ok (.bipush (-2), 2) := by decide +kernel
theorem d141_20 : decode (byt 141) 20 = .ok (.ireturn, 1) := by decide +kernel
theorem d141_21 : decode (byt 141) 21 = .ok (.aload_n 0, 1) := by decide +kernel
theorem d141_22 : decode (byt 141) 22 = .ok (.getfield 13, 3) := by decide +kernel
theorem d141_25 : decode (byt 141) 25 = .ok (.iload_n 1, 1) := by decide +kernel
theorem d141_26 : decode (byt 141) 26 = .ok (.iaload, 1) := by decide +kernel
theorem d141_27 : decode (byt 141) 27 = .ok (.istore 5, 2) := by decide +kernel
theorem d141_29 : decode (byt 141) 29 = .ok (.iconst 0, 1) := by decide +kernel
theorem d141_30 : decode (byt 141) 30 = .ok (.istore 6, 2) := by decide +kernel
theorem d141_32 : decode (byt 141) 32 = .ok (.iload 6, 2) := by decide +kernel
theorem d141_34 : decode (byt 141) 34 = .ok (.iload 5, 2) := by decide +kernel
theorem d141_36 : decode (byt 141) 36 = .ok (.if_icmp .ge 49, 3) := by decide +kernel
theorem d141_39 : decode (byt 141) 39 = .ok (.iload 6, 2) := by decide +kernel
theorem d141_41 : decode (byt 141) 41 = .ok (.ifCond .ne 7, 3) := by decide +kernel
theorem d141_44 : decode (byt 141) 44 = .ok (.iload_n 2, 1) := by decide +kernel
theorem d141_45 : decode (byt 141) 45 = .ok (.goto 15, 3) := by decide +kernel
theorem d141_48 : decode (byt 141) 48 = .ok (.iload 6, 2) := by decide +kernel
theorem d141_50 : decode (byt 141) 50 = .ok (.iconst 1, 1) := by decide +kernel
theorem d141_51 : decode (byt 141) 51 = .ok (.if_icmp .ne 7, 3) := by decide +kernel
theorem d141_54 : decode (byt 141) 54 = .ok (.iload_n 3, 1) := by decide +kernel
theorem d141_55 : decode (byt 141) 55 = .ok (.goto 5, 3) := by decide +kernel
theorem d141_58 : decode (byt 141) 58 = .ok (.iload 4, 2) := by decide +kernel
theorem d141_60 : decode (byt 141) 60 = .ok (.istore 7, 2) := by decide +kernel
theorem d141_62 : decode (byt 141) 62 = .ok (.iload 7, 2) := by decide +kernel
theorem d141_64 : decode (byt 141) 64 = .ok (.bipush (-9), 2) := by decide +kernel
theorem d141_66 : decode (byt 141) 66 = .ok (.if_icmp .lt 10, 3) := by decide +kernel
theorem d141_69 : decode (byt 141) 69 = .ok (.iload 7, 2) := by decide +kernel
theorem d141_71 : decode (byt 141) 71 = .ok (.bipush 9, 2) := by decide +kernel
theorem d141_73 : decode (byt 141) 73 = .ok (.if_icmp .le 6, 3) := by decide +kernel
theorem d141_76 : decode (byt 141) 76 = .ok (.bipush (-2), 2) := by decide +kernel
theorem d141_78 : decode (byt 141) 78 = .ok (.ireturn, 1) := by decide +kernel
theorem d141_79 : decode (byt 141) 79 = .ok (.iinc 6 1, 3) := by decide +kernel
theorem d141_82 : decode (byt 141) 82 = .ok (.goto (-50), 3) := by decide +kernel
theorem d141_85 : decode (byt 141) 85 = .ok (.iconst 0, 1) := by decide +kernel
theorem d141_86 : decode (byt 141) 86 = .ok (.istore 6, 2) := by decide +kernel
theorem d141_88 : decode (byt 141) 88 = .ok (.iload 6, 2) := by decide +kernel
theorem d141_90 : decode (byt 141) 90 = .ok (.iload 5, 2) := by decide +kernel
theorem d141_92 : decode (byt 141) 92 = .ok (.if_icmp .gt 138, 3) := by decide +kernel
theorem d141_95 : decode (byt 141) 95 = .ok (.aload_n 0, 1) := by decide +kernel
theorem d141_96 : decode (byt 141) 96 = .ok (.iload_n 1, 1) := by decide +kernel
theorem d141_97 : decode (byt 141) 97 = .ok (.iload 6, 2) := by decide +kernel
theorem d141_99 : decode (byt 141) 99 = .ok (.invokevirtual 142, 3) := by decide +kernel
theorem d141_102 : decode (byt 141) 102 = .ok (.aload_n 0, 1) := by decide +kernel
theorem d141_103 : decode (byt 141) 103 = .ok (.iload 6, 2) := by decide +kernel
theorem d141_105 : decode (byt 141) 105 = .ok (.invokevirtual 146, 3) := by decide +kernel
theorem d141_108 : decode (byt 141) 108 = .ok (.istore 7, 2) := by decide +kernel
theorem d141_110 : decode (byt 141) 110 = .ok (.aload_n 0, 1) := by decide +kernel
theorem d141_111 : decode (byt 141) 111 = .ok (.iload_n 1, 1) := by decide +kernel
theorem d141_112 : decode (byt 141) 112 = .ok (.iload 6, 2) := by decide +kernel
theorem d141_114 : decode (byt 141) 114 = .ok (.invokevirtual 142, 3) := by decide +kernel
theorem d141_117 : decode (byt 141) 117 = .ok (.aload_n 0, 1) := by decide +kernel
theorem d141_118 : decode (byt 141) 118 = .ok (.getfield 77, 3) := by decide +kernel
theorem d141_121 : decode (byt 141) 121 = .ok (.iconst 0, 1) := by decide +kernel
theorem d141_122 : decode (byt 141) 122 = .ok (.iload_n 2, 1) := by decide +kernel
theorem d141_123 : decode (byt 141) 123 = .ok (.i2l, 1) := by decide +kernel
theorem d141_124 : decode (byt 141) 124 = .ok (.lastore, 1) := by decide +kernel
theorem d141_125 : decode (byt 141) 125 = .ok (.aload_n 0, 1) := by decide +kernel
theorem d141_126 : decode (byt 141) 126 = .ok (.getfield 77, 3) := by decide +kernel
theorem d141_129 : decode (byt 141) 129 = .ok (.iconst 1, 1) := by decide +kernel
theorem d141_130 : decode (byt 141) 130 = .ok (.iload_n 3, 1) := by decide +kernel
theorem d141_131 : decode (byt 141) 131 = .ok (.i2l, 1) := by decide +kernel
theorem d141_132 : decode (byt 141) 132 = .ok (.lastore, 1) := by decide +kernel
theorem d141_133 : decode (byt 141) 133 = .ok (.aload_n 0, 1) := by decide +kernel
theorem d141_134 : decode (byt 141) 134 = .ok (.getfield 77, 3) := by decide +kernel
theorem d141_137 : decode (byt 141) 137 = .ok (.iconst 2, 1) := by decide +kernel
theorem d141_138 : decode (byt 141) 138 = .ok (.iload 4, 2) := by decide +kernel
theorem d141_140 : decode (byt 141) 140 = .ok (.i2l, 1) := by decide +kernel
theorem d141_141 : decode (byt 141) 141 = .ok (.lastore, 1) := by decide +kernel
theorem d141_142 : decode (byt 141) 142 = .ok (.iconst 0, 1) := by decide +kernel
theorem d141_143 : decode (byt 141) 143 = .ok (.istore 8, 2) := by decide +kernel
theorem d141_145 : decode (byt 141) 145 = .ok (.iload 8, 2) := by decide +kernel
theorem d141_147 : decode (byt 141) 147 = .ok (.iload 6, 2) := by decide +kernel
theorem d141_149 : decode (byt 141) 149 = .ok (.if_icmp .ge 14, 3) := by decide +kernel
theorem d141_152 : decode (byt 141) 152 = .ok (.aload_n 0, 1) := by decide +kernel
theorem d141_153 : decode (byt 141) 153 = .ok (.iload_n 1, 1) := by decide +kernel
theorem d141_154 : decode (byt 141) 154 = .ok (.invokevirtual 128, 3) := by decide +kernel
theorem d141_157 : decode (byt 141) 157 = .ok (.iinc 8 1, 3) := by decide +kernel
theorem d141_160 : decode (byt 141) 160 = .ok (.goto (-15), 3) := by decide +kernel
theorem d141_163 : decode (byt 141) 163 = .ok (.iconst 0, 1) := by decide +kernel
theorem d141_164 : decode (byt 141) 164 = .ok (.istore 8, 2) := by decide +kernel
theorem d141_166 : decode (byt 141) 166 = .ok (.iload 8, 2) := by decide +kernel
theorem d141_168 : decode (byt 141) 168 = .ok (.iconst 3, 1) := by decide +kernel
theorem d141_169 : decode (byt 141) 169 = .ok (.if_icmp .ge 39, 3) := by decide +kernel
theorem d141_172 : decode (byt 141) 172 = .ok (.aload_n 0, 1) := by decide +kernel
theorem d141_173 : decode (byt 141) 173 = .ok (.getfield 71, 3) := by decide +kernel
theorem d141_176 : decode (byt 141) 176 = .ok (.iconst 3, 1) := by decide +kernel
theorem d141_177 : decode (byt 141) 177 = .ok (.iload 6, 2) := by decide +kernel
theorem d141_179 : decode (byt 141) 179 = .ok (.imul, 1) := by decide +kernel
theorem d141_180 : decode (byt 141) 180 = .ok (.iload 8, 2) := by decide +kernel
theorem d141_182 : decode (byt 141) 182 = .ok (.iadd, 1) := by decide +kernel
theorem d141_183 : decode (byt 141) 183 = .ok (.iload 8, 2) := by decide +kernel
theorem d141_185 : decode (byt 141) 185 = .ok (.iload 5, 2) := by decide +kernel
theorem d141_187 : decode (byt 141) 187 = .ok (.if_icmp .ge 13, 3) := by decide +kernel
theorem d141_190 : decode (byt 141) 190 = .ok (.aload_n 0, 1) := by decide +kernel
theorem d141_191 : decode (byt 141) 191 = .ok (.getfield 77, 3) := by decide +kernel
theorem d141_194 : decode (byt 141) 194 = .ok (.iload 8, 2) := by decide +kernel
theorem d141_196 : decode (byt 141) 196 = .ok (.laload, 1) := by decide +kernel
theorem d141_197 : decode (byt 141) 197 = .ok (.goto 4, 3) := by decide +kernel
theorem d141_200 : decode (byt 141) 200 = .ok (.lconst 0, 1) := by decide +kernel
theorem d141_201 : decode (byt 141) 201 = .ok (.lastore, 1) := by decide +kernel
theorem d141_202 : decode (byt 141) 202 = .ok (.iinc 8 1, 3) := by decide +kernel
theorem d141_205 : decode (byt 141) 205 = .ok (.goto (-39), 3) := by decide +kernel
theorem d141_208 : decode (byt 141) 208 = .ok (.aload_n 0, 1) := by decide +kernel
theorem d141_209 : decode (byt 141) 209 = .ok (.iload 6, 2) := by decide +kernel
theorem d141_211 : decode (byt 141) 211 = .ok (.iconst 1, 1) := by decide +kernel
theorem d141_212 : decode (byt 141) 212 = .ok (.iadd, 1) := by decide +kernel
theorem d141_213 : decode (byt 141) 213 = .ok (.invokevirtual 146, 3) := by decide +kernel
theorem d141_216 : decode (byt 141) 216 = .ok (.iload 7, 2) := by decide +kernel
theorem d141_218 : decode (byt 141) 218 = .ok (.if_icmp .ne 6, 3) := by decide +kernel
theorem d141_221 : decode (byt 141) 221 = .ok (.iload 6, 2) := by decide +kernel
theorem d141_223 : decode (byt 141) 223 = .ok (.ireturn, 1) := by decide +kernel
theorem d141_224 : decode (byt 141) 224 = .ok (.iinc 6 1, 3) := by decide +kernel
theorem d141_227 : decode (byt 141) 227 = .ok (.goto (-139), 3) := by decide +kernel
theorem d141_230 : decode (byt 141) 230 = .ok (.iconst (-1), 1) := by decide +kernel
theorem d141_231 : decode (byt 141) 231 = .ok (.ireturn, 1) := by decide +kernel
set_option maxRecDepth 20000 in
theorem S141_0 : (∀ (ls : Lo) (st : List Value) (h : Hp) (Q : Option Value → Hp → Prop)  (i : Nat), Wp 141 0 (some (.ref i) :: ls) (st) h Q ↔ Wp 141 1 (some (.ref i) :: ls) (.ref i :: st) h Q) ∧
  (∀ (ls : Lo) (st : List Value) (h : Hp) (Q : Option Value → Hp → Prop) (l0 : Option Value) (x : Int32), Wp 141 1 (l0 :: some (.int x) :: ls) (st) h Q ↔ Wp 141 2 (l0 :: some (.int x) :: ls) (.int x :: st) h Q) ∧
  (∀ (ls : Lo) (st : List Value) (n sl : Nat) (C Z : Nat → Nat) (I : Nat → Nat → Int32) (L : Nat → Nat → Int64) (R : Nat → Nat → Nat) (Q : Option Value → Hp → Prop) (x0 : Int32) (i : Nat), C i = 11 → (Wp 141 2 (ls) (.int x0 :: .ref i :: st) (n, sl, C, Z, I, L, R) Q ↔ (wsum st ≤ 8 ∧ Call 103 [some (.ref i), some (.int x0)] (n, sl, C, Z, I, L, R) 141 5 ls st Q))) ∧
  (∀ (ls : Lo) (st : List Value) (h : Hp) (Q : Option Value → Hp → Prop) (x : Int32), Wp 141 5 (ls) (.int x :: st) h Q ↔ Br 141 18 8 ls st h Q (x = 0)) ∧
  (∀ (ls : Lo) (st : List Value) (h : Hp) (Q : Option Value → Hp → Prop)  (i : Nat), Wp 141 8 (some (.ref i) :: ls) (st) h Q ↔ Wp 141 9 (some (.ref i) :: ls) (.ref i :: st) h Q) ∧
  (∀ (ls : Lo) (st : List Value) (n sl : Nat) (C Z : Nat → Nat) (I : Nat → Nat → Int32) (L : Nat → Nat → Int64) (R : Nat → Nat → Nat) (Q : Option Value → Hp → Prop) (i : Nat), Wp 141 9 (ls) (.ref i :: st) (n, sl, C, Z, I, L, R) Q ↔ (C i = 11 ∧ Wp 141 12 (ls) (.ref (R i 1) :: st) (n, sl, C, Z, I, L, R) Q)) ∧
  (∀ (ls : Lo) (st : List Value) (h : Hp) (Q : Option Value → Hp → Prop) (l0 : Option Value) (x : Int32), Wp 141 12 (l0 :: some (.int x) :: ls) (st) h Q ↔ Wp 141 13 (l0 :: some (.int x) :: ls) (.int x :: st) h Q) ∧
  (∀ (ls : Lo) (st : List Value) (n sl : Nat) (C Z : Nat → Nat) (I : Nat → Nat → Int32) (L : Nat → Nat → Int64) (R : Nat → Nat → Nat) (Q : Option Value → Hp → Prop) (i : Nat) (y : Int32), Wp 141 13 (ls) (.int y :: .ref i :: st) (n, sl, C, Z, I, L, R) Q ↔ ((inb y (Z i) = true ∧ C i = 21) ∧ Wp 141 14 (ls) (.int (I i (ix y)) :: st) (n, sl, C, Z, I, L, R) Q)) ∧
  (∀ (ls : Lo) (st : List Value) (h : Hp) (Q : Option Value → Hp → Prop), Wp 141 14 (ls) (st) h Q ↔ Wp 141 15 (ls) (.int (1) :: st) h Q) ∧
  (∀ (ls : Lo) (st : List Value) (h : Hp) (Q : Option Value → Hp → Prop) (x y : Int32), Wp 141 15 (ls) (.int y :: .int x :: st) h Q ↔ Br 141 21 18 ls st h Q (¬ x = y)) ∧
  (∀ (ls : Lo) (st : List Value) (h : Hp) (Q : Option Value → Hp → Prop), Wp 141 18 (ls) (st) h Q ↔ Wp 141 20 (ls) (.int (-2) :: st) h Q) ∧
  (∀ (ls : Lo) (h : Hp) (Q : Option Value → Hp → Prop) (x : Int32), Wp 141 20 (ls) ([.int x]) h Q ↔ Q (some (.int x)) h) ∧
  (∀ (ls : Lo) (st : List Value) (h : Hp) (Q : Option Value → Hp → Prop)  (i : Nat), Wp 141 21 (some (.ref i) :: ls) (st) h Q ↔ Wp 141 22 (some (.ref i) :: ls) (.ref i :: st) h Q) ∧
  (∀ (ls : Lo) (st : List Value) (n sl : Nat) (C Z : Nat → Nat) (I : Nat → Nat → Int32) (L : Nat → Nat → Int64) (R : Nat → Nat → Nat) (Q : Option Value → Hp → Prop) (i : Nat), Wp 141 22 (ls) (.ref i :: st) (n, sl, C, Z, I, L, R) Q ↔ (C i = 11 ∧ Wp 141 25 (ls) (.ref (R i 2) :: st) (n, sl, C, Z, I, L, R) Q)) ∧
  (∀ (ls : Lo) (st : List Value) (h : Hp) (Q : Option Value → Hp → Prop) (l0 : Option Value) (x : Int32), Wp 141 25 (l0 :: some (.int x) :: ls) (st) h Q ↔ Wp 141 26 (l0 :: some (.int x) :: ls) (.int x :: st) h Q) ∧
  (∀ (ls : Lo) (st : List Value) (n sl : Nat) (C Z : Nat → Nat) (I : Nat → Nat → Int32) (L : Nat → Nat → Int64) (R : Nat → Nat → Nat) (Q : Option Value → Hp → Prop) (i : Nat) (y : Int32), Wp 141 26 (ls) (.int y :: .ref i :: st) (n, sl, C, Z, I, L, R) Q ↔ ((inb y (Z i) = true ∧ C i = 21) ∧ Wp 141 27 (ls) (.int (I i (ix y)) :: st) (n, sl, C, Z, I, L, R) Q)) ∧
  (∀ (ls : Lo) (st : List Value) (h : Hp) (Q : Option Value → Hp → Prop) (l0 l1 l2 l3 l4 l5 : Option Value) (x : Int32), Wp 141 27 (l0 :: l1 :: l2 :: l3 :: l4 :: l5 :: ls) (.int x :: st) h Q ↔ Wp 141 29 (l0 :: l1 :: l2 :: l3 :: clr l4 :: some (.int x) :: ls) (st) h Q) ∧
  (∀ (ls : Lo) (st : List Value) (h : Hp) (Q : Option Value → Hp → Prop), Wp 141 29 (ls) (st) h Q ↔ Wp 141 30 (ls) (.int (0) :: st) h Q) ∧
  (∀ (ls : Lo) (st : List Value) (h : Hp) (Q : Option Value → Hp → Prop) (l0 l1 l2 l3 l4 l5 l6 : Option Value) (x : Int32), Wp 141 30 (l0 :: l1 :: l2 :: l3 :: l4 :: l5 :: l6 :: ls) (.int x :: st) h Q ↔ Wp 141 32 (l0 :: l1 :: l2 :: l3 :: l4 :: clr l5 :: some (.int x) :: ls) (st) h Q) ∧
  (∀ (ls : Lo) (st : List Value) (h : Hp) (Q : Option Value → Hp → Prop) (l0 l1 l2 l3 l4 l5 : Option Value) (x : Int32), Wp 141 32 (l0 :: l1 :: l2 :: l3 :: l4 :: l5 :: some (.int x) :: ls) (st) h Q ↔ Wp 141 34 (l0 :: l1 :: l2 :: l3 :: l4 :: l5 :: some (.int x) :: ls) (.int x :: st) h Q) ∧
  (∀ (ls : Lo) (st : List Value) (h : Hp) (Q : Option Value → Hp → Prop) (l0 l1 l2 l3 l4 : Option Value) (x : Int32), Wp 141 34 (l0 :: l1 :: l2 :: l3 :: l4 :: some (.int x) :: ls) (st) h Q ↔ Wp 141 36 (l0 :: l1 :: l2 :: l3 :: l4 :: some (.int x) :: ls) (.int x :: st) h Q) ∧
  (∀ (ls : Lo) (st : List Value) (h : Hp) (Q : Option Value → Hp → Prop) (x y : Int32), Wp 141 36 (ls) (.int y :: .int x :: st) h Q ↔ Br 141 85 39 ls st h Q (y ≤ x)) ∧
  (∀ (ls : Lo) (st : List Value) (h : Hp) (Q : Option Value → Hp → Prop) (l0 l1 l2 l3 l4 l5 : Option Value) (x : Int32), Wp 141 39 (l0 :: l1 :: l2 :: l3 :: l4 :: l5 :: some (.int x) :: ls) (st) h Q ↔ Wp 141 41 (l0 :: l1 :: l2 :: l3 :: l4 :: l5 :: some (.int x) :: ls) (.int x :: st) h Q) ∧
  (∀ (ls : Lo) (st : List Value) (h : Hp) (Q : Option Value → Hp → Prop) (x : Int32), Wp 141 41 (ls) (.int x :: st) h Q ↔ Br 141 48 44 ls st h Q (¬ x = 0)) ∧
  (∀ (ls : Lo) (st : List Value) (h : Hp) (Q : Option Value → Hp → Prop) (l0 l1 : Option Value) (x : Int32), Wp 141 44 (l0 :: l1 :: some (.int x) :: ls) (st) h Q ↔ Wp 141 45 (l0 :: l1 :: some (.int x) :: ls) (.int x :: st) h Q) := ⟨by intro ls st h Q i; exact e_aload_n d141_0 rfl,
  by intro ls st h Q l0 x; exact e_iload_n d141_1 rfl,
  by intro ls st n sl C Z I L R Q x0 i hh; exact e_iv (k2 := 103) (c := 11) (as := [.int x0]) d141_2 rfl (by decide) rfl rfl (by decide +kernel) (Nat.le_of_ble_eq_true rfl) rfl hh,
  by intro ls st h Q x; exact e_if d141_5 (by decide) c_eq,
  by intro ls st h Q i; exact e_aload_n d141_8 rfl,
  by intro ls st n sl C Z I L R Q i; exact e_get (g := 10) (s := 1) (ty := 2) d141_9 rfl rfl (inG_ne (by decide)),
  by intro ls st h Q l0 x; exact e_iload_n d141_12 rfl,
  by intro ls st n sl C Z I L R Q i y; exact e_iald d141_13,
  by intro ls st h Q; exact e_iconst d141_14 rfl,
  by intro ls st h Q x y; exact e_ic d141_15 (by decide) c_ne,
  by intro ls st h Q; exact e_bipush d141_18 rfl,
  by intros; exact e_rI (p := True) d141_20 rfl,
  by intro ls st h Q i; exact e_aload_n d141_21 rfl,
  by intro ls st n sl C Z I L R Q i; exact e_get (g := 10) (s := 2) (ty := 2) d141_22 rfl rfl (inG_ne (by decide)),
  by intro ls st h Q l0 x; exact e_iload_n d141_25 rfl,
  by intro ls st n sl C Z I L R Q i y; exact e_iald d141_26,
  by intro ls st h Q l0 l1 l2 l3 l4 l5 x; exact e_istore d141_27 rfl,
  by intro ls st h Q; exact e_iconst d141_29 rfl,
  by intro ls st h Q l0 l1 l2 l3 l4 l5 l6 x; exact e_istore d141_30 rfl,
  by intro ls st h Q l0 l1 l2 l3 l4 l5 x; exact e_iload d141_32 rfl,
  by intro ls st h Q l0 l1 l2 l3 l4 x; exact e_iload d141_34 rfl,
  by intro ls st h Q x y; exact e_ic d141_36 (by decide) c_ge,
  by intro ls st h Q l0 l1 l2 l3 l4 l5 x; exact e_iload d141_39 rfl,
  by intro ls st h Q x; exact e_if d141_41 (by decide) c_ne,
  by intro ls st h Q l0 l1 x; exact e_iload_n d141_44 rfl⟩
set_option maxRecDepth 20000 in
theorem S141_1 : (∀ (ls : Lo) (st : List Value) (h : Hp) (Q : Option Value → Hp → Prop), Wp 141 45 (ls) (st) h Q ↔ Wp 141 60 (ls) (st) h Q) ∧
  (∀ (ls : Lo) (st : List Value) (h : Hp) (Q : Option Value → Hp → Prop) (l0 l1 l2 l3 l4 l5 : Option Value) (x : Int32), Wp 141 48 (l0 :: l1 :: l2 :: l3 :: l4 :: l5 :: some (.int x) :: ls) (st) h Q ↔ Wp 141 50 (l0 :: l1 :: l2 :: l3 :: l4 :: l5 :: some (.int x) :: ls) (.int x :: st) h Q) ∧
  (∀ (ls : Lo) (st : List Value) (h : Hp) (Q : Option Value → Hp → Prop), Wp 141 50 (ls) (st) h Q ↔ Wp 141 51 (ls) (.int (1) :: st) h Q) ∧
  (∀ (ls : Lo) (st : List Value) (h : Hp) (Q : Option Value → Hp → Prop) (x y : Int32), Wp 141 51 (ls) (.int y :: .int x :: st) h Q ↔ Br 141 58 54 ls st h Q (¬ x = y)) ∧
  (∀ (ls : Lo) (st : List Value) (h : Hp) (Q : Option Value → Hp → Prop) (l0 l1 l2 : Option Value) (x : Int32), Wp 141 54 (l0 :: l1 :: l2 :: some (.int x) :: ls) (st) h Q ↔ Wp 141 55 (l0 :: l1 :: l2 :: some (.int x) :: ls) (.int x :: st) h Q) ∧
  (∀ (ls : Lo) (st : List Value) (h : Hp) (Q : Option Value → Hp → Prop), Wp 141 55 (ls) (st) h Q ↔ Wp 141 60 (ls) (st) h Q) ∧
  (∀ (ls : Lo) (st : List Value) (h : Hp) (Q : Option Value → Hp → Prop) (l0 l1 l2 l3 : Option Value) (x : Int32), Wp 141 58 (l0 :: l1 :: l2 :: l3 :: some (.int x) :: ls) (st) h Q ↔ Wp 141 60 (l0 :: l1 :: l2 :: l3 :: some (.int x) :: ls) (.int x :: st) h Q) ∧
  (∀ (ls : Lo) (st : List Value) (h : Hp) (Q : Option Value → Hp → Prop) (l0 l1 l2 l3 l4 l5 l6 l7 : Option Value) (x : Int32), Wp 141 60 (l0 :: l1 :: l2 :: l3 :: l4 :: l5 :: l6 :: l7 :: ls) (.int x :: st) h Q ↔ Wp 141 62 (l0 :: l1 :: l2 :: l3 :: l4 :: l5 :: clr l6 :: some (.int x) :: ls) (st) h Q) ∧
  (∀ (ls : Lo) (st : List Value) (h : Hp) (Q : Option Value → Hp → Prop) (l0 l1 l2 l3 l4 l5 l6 : Option Value) (x : Int32), Wp 141 62 (l0 :: l1 :: l2 :: l3 :: l4 :: l5 :: l6 :: some (.int x) :: ls) (st) h Q ↔ Wp 141 64 (l0 :: l1 :: l2 :: l3 :: l4 :: l5 :: l6 :: some (.int x) :: ls) (.int x :: st) h Q) ∧
  (∀ (ls : Lo) (st : List Value) (h : Hp) (Q : Option Value → Hp → Prop), Wp 141 64 (ls) (st) h Q ↔ Wp 141 66 (ls) (.int (-9) :: st) h Q) ∧
  (∀ (ls : Lo) (st : List Value) (h : Hp) (Q : Option Value → Hp → Prop) (x y : Int32), Wp 141 66 (ls) (.int y :: .int x :: st) h Q ↔ Br 141 76 69 ls st h Q (x < y)) ∧
  (∀ (ls : Lo) (st : List Value) (h : Hp) (Q : Option Value → Hp → Prop) (l0 l1 l2 l3 l4 l5 l6 : Option Value) (x : Int32), Wp 141 69 (l0 :: l1 :: l2 :: l3 :: l4 :: l5 :: l6 :: some (.int x) :: ls) (st) h Q ↔ Wp 141 71 (l0 :: l1 :: l2 :: l3 :: l4 :: l5 :: l6 :: some (.int x) :: ls) (.int x :: st) h Q) ∧
  (∀ (ls : Lo) (st : List Value) (h : Hp) (Q : Option Value → Hp → Prop), Wp 141 71 (ls) (st) h Q ↔ Wp 141 73 (ls) (.int (9) :: st) h Q) ∧
  (∀ (ls : Lo) (st : List Value) (h : Hp) (Q : Option Value → Hp → Prop) (x y : Int32), Wp 141 73 (ls) (.int y :: .int x :: st) h Q ↔ Br 141 79 76 ls st h Q (x ≤ y)) ∧
  (∀ (ls : Lo) (st : List Value) (h : Hp) (Q : Option Value → Hp → Prop), Wp 141 76 (ls) (st) h Q ↔ Wp 141 78 (ls) (.int (-2) :: st) h Q) ∧
  (∀ (ls : Lo) (h : Hp) (Q : Option Value → Hp → Prop) (x : Int32), Wp 141 78 (ls) ([.int x]) h Q ↔ Q (some (.int x)) h) ∧
  (∀ (ls : Lo) (st : List Value) (h : Hp) (Q : Option Value → Hp → Prop) (l0 l1 l2 l3 l4 l5 : Option Value) (x : Int32), Wp 141 79 (l0 :: l1 :: l2 :: l3 :: l4 :: l5 :: some (.int x) :: ls) (st) h Q ↔ Wp 141 82 (l0 :: l1 :: l2 :: l3 :: l4 :: clr l5 :: some (.int (x + (1))) :: ls) (st) h Q) ∧
  (∀ (ls : Lo) (st : List Value) (h : Hp) (Q : Option Value → Hp → Prop), Wp 141 82 (ls) (st) h Q ↔ Wp 141 32 (ls) (st) h Q) ∧
  (∀ (ls : Lo) (st : List Value) (h : Hp) (Q : Option Value → Hp → Prop), Wp 141 85 (ls) (st) h Q ↔ Wp 141 86 (ls) (.int (0) :: st) h Q) ∧
  (∀ (ls : Lo) (st : List Value) (h : Hp) (Q : Option Value → Hp → Prop) (l0 l1 l2 l3 l4 l5 l6 : Option Value) (x : Int32), Wp 141 86 (l0 :: l1 :: l2 :: l3 :: l4 :: l5 :: l6 :: ls) (.int x :: st) h Q ↔ Wp 141 88 (l0 :: l1 :: l2 :: l3 :: l4 :: clr l5 :: some (.int x) :: ls) (st) h Q) ∧
  (∀ (ls : Lo) (st : List Value) (h : Hp) (Q : Option Value → Hp → Prop) (l0 l1 l2 l3 l4 l5 : Option Value) (x : Int32), Wp 141 88 (l0 :: l1 :: l2 :: l3 :: l4 :: l5 :: some (.int x) :: ls) (st) h Q ↔ Wp 141 90 (l0 :: l1 :: l2 :: l3 :: l4 :: l5 :: some (.int x) :: ls) (.int x :: st) h Q) ∧
  (∀ (ls : Lo) (st : List Value) (h : Hp) (Q : Option Value → Hp → Prop) (l0 l1 l2 l3 l4 : Option Value) (x : Int32), Wp 141 90 (l0 :: l1 :: l2 :: l3 :: l4 :: some (.int x) :: ls) (st) h Q ↔ Wp 141 92 (l0 :: l1 :: l2 :: l3 :: l4 :: some (.int x) :: ls) (.int x :: st) h Q) ∧
  (∀ (ls : Lo) (st : List Value) (h : Hp) (Q : Option Value → Hp → Prop) (x y : Int32), Wp 141 92 (ls) (.int y :: .int x :: st) h Q ↔ Br 141 230 95 ls st h Q (y < x)) ∧
  (∀ (ls : Lo) (st : List Value) (h : Hp) (Q : Option Value → Hp → Prop)  (i : Nat), Wp 141 95 (some (.ref i) :: ls) (st) h Q ↔ Wp 141 96 (some (.ref i) :: ls) (.ref i :: st) h Q) ∧
  (∀ (ls : Lo) (st : List Value) (h : Hp) (Q : Option Value → Hp → Prop) (l0 : Option Value) (x : Int32), Wp 141 96 (l0 :: some (.int x) :: ls) (st) h Q ↔ Wp 141 97 (l0 :: some (.int x) :: ls) (.int x :: st) h Q) := ⟨by intro ls st h Q; exact e_goto d141_45 (by decide),
  by intro ls st h Q l0 l1 l2 l3 l4 l5 x; exact e_iload d141_48 rfl,
  by intro ls st h Q; exact e_iconst d141_50 rfl,
  by intro ls st h Q x y; exact e_ic d141_51 (by decide) c_ne,
  by intro ls st h Q l0 l1 l2 x; exact e_iload_n d141_54 rfl,
  by intro ls st h Q; exact e_goto d141_55 (by decide),
  by intro ls st h Q l0 l1 l2 l3 x; exact e_iload d141_58 rfl,
  by intro ls st h Q l0 l1 l2 l3 l4 l5 l6 l7 x; exact e_istore d141_60 rfl,
  by intro ls st h Q l0 l1 l2 l3 l4 l5 l6 x; exact e_iload d141_62 rfl,
  by intro ls st h Q; exact e_bipush d141_64 rfl,
  by intro ls st h Q x y; exact e_ic d141_66 (by decide) c_lt,
  by intro ls st h Q l0 l1 l2 l3 l4 l5 l6 x; exact e_iload d141_69 rfl,
  by intro ls st h Q; exact e_bipush d141_71 rfl,
  by intro ls st h Q x y; exact e_ic d141_73 (by decide) c_le,
  by intro ls st h Q; exact e_bipush d141_76 rfl,
  by intros; exact e_rI (p := True) d141_78 rfl,
  by intro ls st h Q l0 l1 l2 l3 l4 l5 x; exact e_iinc d141_79 rfl rfl rfl,
  by intro ls st h Q; exact e_goto d141_82 (by decide),
  by intro ls st h Q; exact e_iconst d141_85 rfl,
  by intro ls st h Q l0 l1 l2 l3 l4 l5 l6 x; exact e_istore d141_86 rfl,
  by intro ls st h Q l0 l1 l2 l3 l4 l5 x; exact e_iload d141_88 rfl,
  by intro ls st h Q l0 l1 l2 l3 l4 x; exact e_iload d141_90 rfl,
  by intro ls st h Q x y; exact e_ic d141_92 (by decide) c_gt,
  by intro ls st h Q i; exact e_aload_n d141_95 rfl,
  by intro ls st h Q l0 x; exact e_iload_n d141_96 rfl⟩
set_option maxRecDepth 20000 in
theorem S141_2 : (∀ (ls : Lo) (st : List Value) (h : Hp) (Q : Option Value → Hp → Prop) (l0 l1 l2 l3 l4 l5 : Option Value) (x : Int32), Wp 141 97 (l0 :: l1 :: l2 :: l3 :: l4 :: l5 :: some (.int x) :: ls) (st) h Q ↔ Wp 141 99 (l0 :: l1 :: l2 :: l3 :: l4 :: l5 :: some (.int x) :: ls) (.int x :: st) h Q) ∧
  (∀ (ls : Lo) (st : List Value) (n sl : Nat) (C Z : Nat → Nat) (I : Nat → Nat → Int32) (L : Nat → Nat → Int64) (R : Nat → Nat → Nat) (Q : Option Value → Hp → Prop) (x0 : Int32) (x1 : Int32) (i : Nat), C i = 11 → (Wp 141 99 (ls) (.int x1 :: .int x0 :: .ref i :: st) (n, sl, C, Z, I, L, R) Q ↔ (wsum st ≤ 8 ∧ Call 129 [some (.ref i), some (.int x0), some (.int x1), none, none] (n, sl, C, Z, I, L, R) 141 102 ls st Q))) ∧
  (∀ (ls : Lo) (st : List Value) (h : Hp) (Q : Option Value → Hp → Prop)  (i : Nat), Wp 141 102 (some (.ref i) :: ls) (st) h Q ↔ Wp 141 103 (some (.ref i) :: ls) (.ref i :: st) h Q) ∧
  (∀ (ls : Lo) (st : List Value) (h : Hp) (Q : Option Value → Hp → Prop) (l0 l1 l2 l3 l4 l5 : Option Value) (x : Int32), Wp 141 103 (l0 :: l1 :: l2 :: l3 :: l4 :: l5 :: some (.int x) :: ls) (st) h Q ↔ Wp 141 105 (l0 :: l1 :: l2 :: l3 :: l4 :: l5 :: some (.int x) :: ls) (.int x :: st) h Q) ∧
  (∀ (ls : Lo) (st : List Value) (n sl : Nat) (C Z : Nat → Nat) (I : Nat → Nat → Int32) (L : Nat → Nat → Int64) (R : Nat → Nat → Nat) (Q : Option Value → Hp → Prop) (x0 : Int32) (i : Nat), C i = 11 → (Wp 141 105 (ls) (.int x0 :: .ref i :: st) (n, sl, C, Z, I, L, R) Q ↔ (wsum st ≤ 8 ∧ Call 128 [some (.ref i), some (.int x0), none, none, none, none, none, none, none, none, none] (n, sl, C, Z, I, L, R) 141 108 ls st Q))) ∧
  (∀ (ls : Lo) (st : List Value) (h : Hp) (Q : Option Value → Hp → Prop) (l0 l1 l2 l3 l4 l5 l6 l7 : Option Value) (x : Int32), Wp 141 108 (l0 :: l1 :: l2 :: l3 :: l4 :: l5 :: l6 :: l7 :: ls) (.int x :: st) h Q ↔ Wp 141 110 (l0 :: l1 :: l2 :: l3 :: l4 :: l5 :: clr l6 :: some (.int x) :: ls) (st) h Q) ∧
  (∀ (ls : Lo) (st : List Value) (h : Hp) (Q : Option Value → Hp → Prop)  (i : Nat), Wp 141 110 (some (.ref i) :: ls) (st) h Q ↔ Wp 141 111 (some (.ref i) :: ls) (.ref i :: st) h Q) ∧
  (∀ (ls : Lo) (st : List Value) (h : Hp) (Q : Option Value → Hp → Prop) (l0 : Option Value) (x : Int32), Wp 141 111 (l0 :: some (.int x) :: ls) (st) h Q ↔ Wp 141 112 (l0 :: some (.int x) :: ls) (.int x :: st) h Q) ∧
  (∀ (ls : Lo) (st : List Value) (h : Hp) (Q : Option Value → Hp → Prop) (l0 l1 l2 l3 l4 l5 : Option Value) (x : Int32), Wp 141 112 (l0 :: l1 :: l2 :: l3 :: l4 :: l5 :: some (.int x) :: ls) (st) h Q ↔ Wp 141 114 (l0 :: l1 :: l2 :: l3 :: l4 :: l5 :: some (.int x) :: ls) (.int x :: st) h Q) ∧
  (∀ (ls : Lo) (st : List Value) (n sl : Nat) (C Z : Nat → Nat) (I : Nat → Nat → Int32) (L : Nat → Nat → Int64) (R : Nat → Nat → Nat) (Q : Option Value → Hp → Prop) (x0 : Int32) (x1 : Int32) (i : Nat), C i = 11 → (Wp 141 114 (ls) (.int x1 :: .int x0 :: .ref i :: st) (n, sl, C, Z, I, L, R) Q ↔ (wsum st ≤ 8 ∧ Call 129 [some (.ref i), some (.int x0), some (.int x1), none, none] (n, sl, C, Z, I, L, R) 141 117 ls st Q))) ∧
  (∀ (ls : Lo) (st : List Value) (h : Hp) (Q : Option Value → Hp → Prop)  (i : Nat), Wp 141 117 (some (.ref i) :: ls) (st) h Q ↔ Wp 141 118 (some (.ref i) :: ls) (.ref i :: st) h Q) ∧
  (∀ (ls : Lo) (st : List Value) (n sl : Nat) (C Z : Nat → Nat) (I : Nat → Nat → Int32) (L : Nat → Nat → Int64) (R : Nat → Nat → Nat) (Q : Option Value → Hp → Prop) (i : Nat), Wp 141 118 (ls) (.ref i :: st) (n, sl, C, Z, I, L, R) Q ↔ (C i = 11 ∧ Wp 141 121 (ls) (.ref (R i 26) :: st) (n, sl, C, Z, I, L, R) Q)) ∧
  (∀ (ls : Lo) (st : List Value) (h : Hp) (Q : Option Value → Hp → Prop), Wp 141 121 (ls) (st) h Q ↔ Wp 141 122 (ls) (.int (0) :: st) h Q) ∧
  (∀ (ls : Lo) (st : List Value) (h : Hp) (Q : Option Value → Hp → Prop) (l0 l1 : Option Value) (x : Int32), Wp 141 122 (l0 :: l1 :: some (.int x) :: ls) (st) h Q ↔ Wp 141 123 (l0 :: l1 :: some (.int x) :: ls) (.int x :: st) h Q) ∧
  (∀ (ls : Lo) (st : List Value) (h : Hp) (Q : Option Value → Hp → Prop) (x : Int32), Wp 141 123 (ls) (.int x :: st) h Q ↔ Wp 141 124 (ls) (.long x.toInt64 :: st) h Q) ∧
  (∀ (ls : Lo) (st : List Value) (n sl : Nat) (C Z : Nat → Nat) (I : Nat → Nat → Int32) (L : Nat → Nat → Int64) (R : Nat → Nat → Nat) (Q : Option Value → Hp → Prop) (i : Nat) (y : Int32) (a : Int64), Wp 141 124 (ls) (.long a :: .int y :: .ref i :: st) (n, sl, C, Z, I, L, R) Q ↔ ((inb y (Z i) = true ∧ C i = 22) ∧ Wp 141 125 (ls) (st) (n, sl, C, Z, I, u2 L i (ix y) a, R) Q)) ∧
  (∀ (ls : Lo) (st : List Value) (h : Hp) (Q : Option Value → Hp → Prop)  (i : Nat), Wp 141 125 (some (.ref i) :: ls) (st) h Q ↔ Wp 141 126 (some (.ref i) :: ls) (.ref i :: st) h Q) ∧
  (∀ (ls : Lo) (st : List Value) (n sl : Nat) (C Z : Nat → Nat) (I : Nat → Nat → Int32) (L : Nat → Nat → Int64) (R : Nat → Nat → Nat) (Q : Option Value → Hp → Prop) (i : Nat), Wp 141 126 (ls) (.ref i :: st) (n, sl, C, Z, I, L, R) Q ↔ (C i = 11 ∧ Wp 141 129 (ls) (.ref (R i 26) :: st) (n, sl, C, Z, I, L, R) Q)) ∧
  (∀ (ls : Lo) (st : List Value) (h : Hp) (Q : Option Value → Hp → Prop), Wp 141 129 (ls) (st) h Q ↔ Wp 141 130 (ls) (.int (1) :: st) h Q) ∧
  (∀ (ls : Lo) (st : List Value) (h : Hp) (Q : Option Value → Hp → Prop) (l0 l1 l2 : Option Value) (x : Int32), Wp 141 130 (l0 :: l1 :: l2 :: some (.int x) :: ls) (st) h Q ↔ Wp 141 131 (l0 :: l1 :: l2 :: some (.int x) :: ls) (.int x :: st) h Q) ∧
  (∀ (ls : Lo) (st : List Value) (h : Hp) (Q : Option Value → Hp → Prop) (x : Int32), Wp 141 131 (ls) (.int x :: st) h Q ↔ Wp 141 132 (ls) (.long x.toInt64 :: st) h Q) ∧
  (∀ (ls : Lo) (st : List Value) (n sl : Nat) (C Z : Nat → Nat) (I : Nat → Nat → Int32) (L : Nat → Nat → Int64) (R : Nat → Nat → Nat) (Q : Option Value → Hp → Prop) (i : Nat) (y : Int32) (a : Int64), Wp 141 132 (ls) (.long a :: .int y :: .ref i :: st) (n, sl, C, Z, I, L, R) Q ↔ ((inb y (Z i) = true ∧ C i = 22) ∧ Wp 141 133 (ls) (st) (n, sl, C, Z, I, u2 L i (ix y) a, R) Q)) ∧
  (∀ (ls : Lo) (st : List Value) (h : Hp) (Q : Option Value → Hp → Prop)  (i : Nat), Wp 141 133 (some (.ref i) :: ls) (st) h Q ↔ Wp 141 134 (some (.ref i) :: ls) (.ref i :: st) h Q) ∧
  (∀ (ls : Lo) (st : List Value) (n sl : Nat) (C Z : Nat → Nat) (I : Nat → Nat → Int32) (L : Nat → Nat → Int64) (R : Nat → Nat → Nat) (Q : Option Value → Hp → Prop) (i : Nat), Wp 141 134 (ls) (.ref i :: st) (n, sl, C, Z, I, L, R) Q ↔ (C i = 11 ∧ Wp 141 137 (ls) (.ref (R i 26) :: st) (n, sl, C, Z, I, L, R) Q)) ∧
  (∀ (ls : Lo) (st : List Value) (h : Hp) (Q : Option Value → Hp → Prop), Wp 141 137 (ls) (st) h Q ↔ Wp 141 138 (ls) (.int (2) :: st) h Q) := ⟨by intro ls st h Q l0 l1 l2 l3 l4 l5 x; exact e_iload d141_97 rfl,
  by intro ls st n sl C Z I L R Q x0 x1 i hh; exact e_iv (k2 := 129) (c := 11) (as := [.int x0, .int x1]) d141_99 rfl (by decide) rfl rfl (by decide +kernel) (Nat.le_of_ble_eq_true rfl) rfl hh,
  by intro ls st h Q i; exact e_aload_n d141_102 rfl,
  by intro ls st h Q l0 l1 l2 l3 l4 l5 x; exact e_iload d141_103 rfl,
  by intro ls st n sl C Z I L R Q x0 i hh; exact e_iv (k2 := 128) (c := 11) (as := [.int x0]) d141_105 rfl (by decide) rfl rfl (by decide +kernel) (Nat.le_of_ble_eq_true rfl) rfl hh,
  by intro ls st h Q l0 l1 l2 l3 l4 l5 l6 l7 x; exact e_istore d141_108 rfl,
  by intro ls st h Q i; exact e_aload_n d141_110 rfl,
  by intro ls st h Q l0 x; exact e_iload_n d141_111 rfl,
  by intro ls st h Q l0 l1 l2 l3 l4 l5 x; exact e_iload d141_112 rfl,
  by intro ls st n sl C Z I L R Q x0 x1 i hh; exact e_iv (k2 := 129) (c := 11) (as := [.int x0, .int x1]) d141_114 rfl (by decide) rfl rfl (by decide +kernel) (Nat.le_of_ble_eq_true rfl) rfl hh,
  by intro ls st h Q i; exact e_aload_n d141_117 rfl,
  by intro ls st n sl C Z I L R Q i; exact e_get (g := 10) (s := 26) (ty := 2) d141_118 rfl rfl (inG_ne (by decide)),
  by intro ls st h Q; exact e_iconst d141_121 rfl,
  by intro ls st h Q l0 l1 x; exact e_iload_n d141_122 rfl,
  by intro ls st h Q x; exact e_i2l d141_123,
  by intro ls st n sl C Z I L R Q i y a; exact e_last d141_124,
  by intro ls st h Q i; exact e_aload_n d141_125 rfl,
  by intro ls st n sl C Z I L R Q i; exact e_get (g := 10) (s := 26) (ty := 2) d141_126 rfl rfl (inG_ne (by decide)),
  by intro ls st h Q; exact e_iconst d141_129 rfl,
  by intro ls st h Q l0 l1 l2 x; exact e_iload_n d141_130 rfl,
  by intro ls st h Q x; exact e_i2l d141_131,
  by intro ls st n sl C Z I L R Q i y a; exact e_last d141_132,
  by intro ls st h Q i; exact e_aload_n d141_133 rfl,
  by intro ls st n sl C Z I L R Q i; exact e_get (g := 10) (s := 26) (ty := 2) d141_134 rfl rfl (inG_ne (by decide)),
  by intro ls st h Q; exact e_iconst d141_137 rfl⟩
set_option maxRecDepth 20000 in
theorem S141_3 : (∀ (ls : Lo) (st : List Value) (h : Hp) (Q : Option Value → Hp → Prop) (l0 l1 l2 l3 : Option Value) (x : Int32), Wp 141 138 (l0 :: l1 :: l2 :: l3 :: some (.int x) :: ls) (st) h Q ↔ Wp 141 140 (l0 :: l1 :: l2 :: l3 :: some (.int x) :: ls) (.int x :: st) h Q) ∧
  (∀ (ls : Lo) (st : List Value) (h : Hp) (Q : Option Value → Hp → Prop) (x : Int32), Wp 141 140 (ls) (.int x :: st) h Q ↔ Wp 141 141 (ls) (.long x.toInt64 :: st) h Q) ∧
  (∀ (ls : Lo) (st : List Value) (n sl : Nat) (C Z : Nat → Nat) (I : Nat → Nat → Int32) (L : Nat → Nat → Int64) (R : Nat → Nat → Nat) (Q : Option Value → Hp → Prop) (i : Nat) (y : Int32) (a : Int64), Wp 141 141 (ls) (.long a :: .int y :: .ref i :: st) (n, sl, C, Z, I, L, R) Q ↔ ((inb y (Z i) = true ∧ C i = 22) ∧ Wp 141 142 (ls) (st) (n, sl, C, Z, I, u2 L i (ix y) a, R) Q)) ∧
  (∀ (ls : Lo) (st : List Value) (h : Hp) (Q : Option Value → Hp → Prop), Wp 141 142 (ls) (st) h Q ↔ Wp 141 143 (ls) (.int (0) :: st) h Q) ∧
  (∀ (ls : Lo) (st : List Value) (h : Hp) (Q : Option Value → Hp → Prop) (l0 l1 l2 l3 l4 l5 l6 l7 l8 : Option Value) (x : Int32), Wp 141 143 (l0 :: l1 :: l2 :: l3 :: l4 :: l5 :: l6 :: l7 :: l8 :: ls) (.int x :: st) h Q ↔ Wp 141 145 (l0 :: l1 :: l2 :: l3 :: l4 :: l5 :: l6 :: clr l7 :: some (.int x) :: ls) (st) h Q) ∧
  (∀ (ls : Lo) (st : List Value) (h : Hp) (Q : Option Value → Hp → Prop) (l0 l1 l2 l3 l4 l5 l6 l7 : Option Value) (x : Int32), Wp 141 145 (l0 :: l1 :: l2 :: l3 :: l4 :: l5 :: l6 :: l7 :: some (.int x) :: ls) (st) h Q ↔ Wp 141 147 (l0 :: l1 :: l2 :: l3 :: l4 :: l5 :: l6 :: l7 :: some (.int x) :: ls) (.int x :: st) h Q) ∧
  (∀ (ls : Lo) (st : List Value) (h : Hp) (Q : Option Value → Hp → Prop) (l0 l1 l2 l3 l4 l5 : Option Value) (x : Int32), Wp 141 147 (l0 :: l1 :: l2 :: l3 :: l4 :: l5 :: some (.int x) :: ls) (st) h Q ↔ Wp 141 149 (l0 :: l1 :: l2 :: l3 :: l4 :: l5 :: some (.int x) :: ls) (.int x :: st) h Q) ∧
  (∀ (ls : Lo) (st : List Value) (h : Hp) (Q : Option Value → Hp → Prop) (x y : Int32), Wp 141 149 (ls) (.int y :: .int x :: st) h Q ↔ Br 141 163 152 ls st h Q (y ≤ x)) ∧
  (∀ (ls : Lo) (st : List Value) (h : Hp) (Q : Option Value → Hp → Prop)  (i : Nat), Wp 141 152 (some (.ref i) :: ls) (st) h Q ↔ Wp 141 153 (some (.ref i) :: ls) (.ref i :: st) h Q) ∧
  (∀ (ls : Lo) (st : List Value) (h : Hp) (Q : Option Value → Hp → Prop) (l0 : Option Value) (x : Int32), Wp 141 153 (l0 :: some (.int x) :: ls) (st) h Q ↔ Wp 141 154 (l0 :: some (.int x) :: ls) (.int x :: st) h Q) ∧
  (∀ (ls : Lo) (st : List Value) (n sl : Nat) (C Z : Nat → Nat) (I : Nat → Nat → Int32) (L : Nat → Nat → Int64) (R : Nat → Nat → Nat) (Q : Option Value → Hp → Prop) (x0 : Int32) (i : Nat), C i = 11 → (Wp 141 154 (ls) (.int x0 :: .ref i :: st) (n, sl, C, Z, I, L, R) Q ↔ (wsum st ≤ 8 ∧ Call 123 [some (.ref i), some (.int x0), none, none] (n, sl, C, Z, I, L, R) 141 157 ls st Q))) ∧
  (∀ (ls : Lo) (st : List Value) (h : Hp) (Q : Option Value → Hp → Prop) (l0 l1 l2 l3 l4 l5 l6 l7 : Option Value) (x : Int32), Wp 141 157 (l0 :: l1 :: l2 :: l3 :: l4 :: l5 :: l6 :: l7 :: some (.int x) :: ls) (st) h Q ↔ Wp 141 160 (l0 :: l1 :: l2 :: l3 :: l4 :: l5 :: l6 :: clr l7 :: some (.int (x + (1))) :: ls) (st) h Q) ∧
  (∀ (ls : Lo) (st : List Value) (h : Hp) (Q : Option Value → Hp → Prop), Wp 141 160 (ls) (st) h Q ↔ Wp 141 145 (ls) (st) h Q) ∧
  (∀ (ls : Lo) (st : List Value) (h : Hp) (Q : Option Value → Hp → Prop), Wp 141 163 (ls) (st) h Q ↔ Wp 141 164 (ls) (.int (0) :: st) h Q) ∧
  (∀ (ls : Lo) (st : List Value) (h : Hp) (Q : Option Value → Hp → Prop) (l0 l1 l2 l3 l4 l5 l6 l7 l8 : Option Value) (x : Int32), Wp 141 164 (l0 :: l1 :: l2 :: l3 :: l4 :: l5 :: l6 :: l7 :: l8 :: ls) (.int x :: st) h Q ↔ Wp 141 166 (l0 :: l1 :: l2 :: l3 :: l4 :: l5 :: l6 :: clr l7 :: some (.int x) :: ls) (st) h Q) ∧
  (∀ (ls : Lo) (st : List Value) (h : Hp) (Q : Option Value → Hp → Prop) (l0 l1 l2 l3 l4 l5 l6 l7 : Option Value) (x : Int32), Wp 141 166 (l0 :: l1 :: l2 :: l3 :: l4 :: l5 :: l6 :: l7 :: some (.int x) :: ls) (st) h Q ↔ Wp 141 168 (l0 :: l1 :: l2 :: l3 :: l4 :: l5 :: l6 :: l7 :: some (.int x) :: ls) (.int x :: st) h Q) ∧
  (∀ (ls : Lo) (st : List Value) (h : Hp) (Q : Option Value → Hp → Prop), Wp 141 168 (ls) (st) h Q ↔ Wp 141 169 (ls) (.int (3) :: st) h Q) ∧
  (∀ (ls : Lo) (st : List Value) (h : Hp) (Q : Option Value → Hp → Prop) (x y : Int32), Wp 141 169 (ls) (.int y :: .int x :: st) h Q ↔ Br 141 208 172 ls st h Q (y ≤ x)) ∧
  (∀ (ls : Lo) (st : List Value) (h : Hp) (Q : Option Value → Hp → Prop)  (i : Nat), Wp 141 172 (some (.ref i) :: ls) (st) h Q ↔ Wp 141 173 (some (.ref i) :: ls) (.ref i :: st) h Q) ∧
  (∀ (ls : Lo) (st : List Value) (n sl : Nat) (C Z : Nat → Nat) (I : Nat → Nat → Int32) (L : Nat → Nat → Int64) (R : Nat → Nat → Nat) (Q : Option Value → Hp → Prop) (i : Nat), Wp 141 173 (ls) (.ref i :: st) (n, sl, C, Z, I, L, R) Q ↔ (C i = 11 ∧ Wp 141 176 (ls) (.ref (R i 24) :: st) (n, sl, C, Z, I, L, R) Q)) ∧
  (∀ (ls : Lo) (st : List Value) (h : Hp) (Q : Option Value → Hp → Prop), Wp 141 176 (ls) (st) h Q ↔ Wp 141 177 (ls) (.int (3) :: st) h Q) ∧
  (∀ (ls : Lo) (st : List Value) (h : Hp) (Q : Option Value → Hp → Prop) (l0 l1 l2 l3 l4 l5 : Option Value) (x : Int32), Wp 141 177 (l0 :: l1 :: l2 :: l3 :: l4 :: l5 :: some (.int x) :: ls) (st) h Q ↔ Wp 141 179 (l0 :: l1 :: l2 :: l3 :: l4 :: l5 :: some (.int x) :: ls) (.int x :: st) h Q) ∧
  (∀ (ls : Lo) (st : List Value) (h : Hp) (Q : Option Value → Hp → Prop) (x y : Int32), Wp 141 179 (ls) (.int y :: .int x :: st) h Q ↔ Wp 141 180 (ls) (.int (x * y) :: st) h Q) ∧
  (∀ (ls : Lo) (st : List Value) (h : Hp) (Q : Option Value → Hp → Prop) (l0 l1 l2 l3 l4 l5 l6 l7 : Option Value) (x : Int32), Wp 141 180 (l0 :: l1 :: l2 :: l3 :: l4 :: l5 :: l6 :: l7 :: some (.int x) :: ls) (st) h Q ↔ Wp 141 182 (l0 :: l1 :: l2 :: l3 :: l4 :: l5 :: l6 :: l7 :: some (.int x) :: ls) (.int x :: st) h Q) ∧
  (∀ (ls : Lo) (st : List Value) (h : Hp) (Q : Option Value → Hp → Prop) (x y : Int32), Wp 141 182 (ls) (.int y :: .int x :: st) h Q ↔ Wp 141 183 (ls) (.int (x + y) :: st) h Q) := ⟨by intro ls st h Q l0 l1 l2 l3 x; exact e_iload d141_138 rfl,
  by intro ls st h Q x; exact e_i2l d141_140,
  by intro ls st n sl C Z I L R Q i y a; exact e_last d141_141,
  by intro ls st h Q; exact e_iconst d141_142 rfl,
  by intro ls st h Q l0 l1 l2 l3 l4 l5 l6 l7 l8 x; exact e_istore d141_143 rfl,
  by intro ls st h Q l0 l1 l2 l3 l4 l5 l6 l7 x; exact e_iload d141_145 rfl,
  by intro ls st h Q l0 l1 l2 l3 l4 l5 x; exact e_iload d141_147 rfl,
  by intro ls st h Q x y; exact e_ic d141_149 (by decide) c_ge,
  by intro ls st h Q i; exact e_aload_n d141_152 rfl,
  by intro ls st h Q l0 x; exact e_iload_n d141_153 rfl,
  by intro ls st n sl C Z I L R Q x0 i hh; exact e_iv (k2 := 123) (c := 11) (as := [.int x0]) d141_154 rfl (by decide) rfl rfl (by decide +kernel) (Nat.le_of_ble_eq_true rfl) rfl hh,
  by intro ls st h Q l0 l1 l2 l3 l4 l5 l6 l7 x; exact e_iinc d141_157 rfl rfl rfl,
  by intro ls st h Q; exact e_goto d141_160 (by decide),
  by intro ls st h Q; exact e_iconst d141_163 rfl,
  by intro ls st h Q l0 l1 l2 l3 l4 l5 l6 l7 l8 x; exact e_istore d141_164 rfl,
  by intro ls st h Q l0 l1 l2 l3 l4 l5 l6 l7 x; exact e_iload d141_166 rfl,
  by intro ls st h Q; exact e_iconst d141_168 rfl,
  by intro ls st h Q x y; exact e_ic d141_169 (by decide) c_ge,
  by intro ls st h Q i; exact e_aload_n d141_172 rfl,
  by intro ls st n sl C Z I L R Q i; exact e_get (g := 10) (s := 24) (ty := 2) d141_173 rfl rfl (inG_ne (by decide)),
  by intro ls st h Q; exact e_iconst d141_176 rfl,
  by intro ls st h Q l0 l1 l2 l3 l4 l5 x; exact e_iload d141_177 rfl,
  by intro ls st h Q x y; exact e_imul d141_179,
  by intro ls st h Q l0 l1 l2 l3 l4 l5 l6 l7 x; exact e_iload d141_180 rfl,
  by intro ls st h Q x y; exact e_iadd d141_182⟩
set_option maxRecDepth 20000 in
theorem S141_4 : (∀ (ls : Lo) (st : List Value) (h : Hp) (Q : Option Value → Hp → Prop) (l0 l1 l2 l3 l4 l5 l6 l7 : Option Value) (x : Int32), Wp 141 183 (l0 :: l1 :: l2 :: l3 :: l4 :: l5 :: l6 :: l7 :: some (.int x) :: ls) (st) h Q ↔ Wp 141 185 (l0 :: l1 :: l2 :: l3 :: l4 :: l5 :: l6 :: l7 :: some (.int x) :: ls) (.int x :: st) h Q) ∧
  (∀ (ls : Lo) (st : List Value) (h : Hp) (Q : Option Value → Hp → Prop) (l0 l1 l2 l3 l4 : Option Value) (x : Int32), Wp 141 185 (l0 :: l1 :: l2 :: l3 :: l4 :: some (.int x) :: ls) (st) h Q ↔ Wp 141 187 (l0 :: l1 :: l2 :: l3 :: l4 :: some (.int x) :: ls) (.int x :: st) h Q) ∧
  (∀ (ls : Lo) (st : List Value) (h : Hp) (Q : Option Value → Hp → Prop) (x y : Int32), Wp 141 187 (ls) (.int y :: .int x :: st) h Q ↔ Br 141 200 190 ls st h Q (y ≤ x)) ∧
  (∀ (ls : Lo) (st : List Value) (h : Hp) (Q : Option Value → Hp → Prop)  (i : Nat), Wp 141 190 (some (.ref i) :: ls) (st) h Q ↔ Wp 141 191 (some (.ref i) :: ls) (.ref i :: st) h Q) ∧
  (∀ (ls : Lo) (st : List Value) (n sl : Nat) (C Z : Nat → Nat) (I : Nat → Nat → Int32) (L : Nat → Nat → Int64) (R : Nat → Nat → Nat) (Q : Option Value → Hp → Prop) (i : Nat), Wp 141 191 (ls) (.ref i :: st) (n, sl, C, Z, I, L, R) Q ↔ (C i = 11 ∧ Wp 141 194 (ls) (.ref (R i 26) :: st) (n, sl, C, Z, I, L, R) Q)) ∧
  (∀ (ls : Lo) (st : List Value) (h : Hp) (Q : Option Value → Hp → Prop) (l0 l1 l2 l3 l4 l5 l6 l7 : Option Value) (x : Int32), Wp 141 194 (l0 :: l1 :: l2 :: l3 :: l4 :: l5 :: l6 :: l7 :: some (.int x) :: ls) (st) h Q ↔ Wp 141 196 (l0 :: l1 :: l2 :: l3 :: l4 :: l5 :: l6 :: l7 :: some (.int x) :: ls) (.int x :: st) h Q) ∧
  (∀ (ls : Lo) (st : List Value) (n sl : Nat) (C Z : Nat → Nat) (I : Nat → Nat → Int32) (L : Nat → Nat → Int64) (R : Nat → Nat → Nat) (Q : Option Value → Hp → Prop) (i : Nat) (y : Int32), Wp 141 196 (ls) (.int y :: .ref i :: st) (n, sl, C, Z, I, L, R) Q ↔ ((inb y (Z i) = true ∧ C i = 22) ∧ Wp 141 197 (ls) (.long (L i (ix y)) :: st) (n, sl, C, Z, I, L, R) Q)) ∧
  (∀ (ls : Lo) (st : List Value) (h : Hp) (Q : Option Value → Hp → Prop), Wp 141 197 (ls) (st) h Q ↔ Wp 141 201 (ls) (st) h Q) ∧
  (∀ (ls : Lo) (st : List Value) (h : Hp) (Q : Option Value → Hp → Prop), Wp 141 200 (ls) (st) h Q ↔ Wp 141 201 (ls) (.long 0 :: st) h Q) ∧
  (∀ (ls : Lo) (st : List Value) (n sl : Nat) (C Z : Nat → Nat) (I : Nat → Nat → Int32) (L : Nat → Nat → Int64) (R : Nat → Nat → Nat) (Q : Option Value → Hp → Prop) (i : Nat) (y : Int32) (a : Int64), Wp 141 201 (ls) (.long a :: .int y :: .ref i :: st) (n, sl, C, Z, I, L, R) Q ↔ ((inb y (Z i) = true ∧ C i = 22) ∧ Wp 141 202 (ls) (st) (n, sl, C, Z, I, u2 L i (ix y) a, R) Q)) ∧
  (∀ (ls : Lo) (st : List Value) (h : Hp) (Q : Option Value → Hp → Prop) (l0 l1 l2 l3 l4 l5 l6 l7 : Option Value) (x : Int32), Wp 141 202 (l0 :: l1 :: l2 :: l3 :: l4 :: l5 :: l6 :: l7 :: some (.int x) :: ls) (st) h Q ↔ Wp 141 205 (l0 :: l1 :: l2 :: l3 :: l4 :: l5 :: l6 :: clr l7 :: some (.int (x + (1))) :: ls) (st) h Q) ∧
  (∀ (ls : Lo) (st : List Value) (h : Hp) (Q : Option Value → Hp → Prop), Wp 141 205 (ls) (st) h Q ↔ Wp 141 166 (ls) (st) h Q) ∧
  (∀ (ls : Lo) (st : List Value) (h : Hp) (Q : Option Value → Hp → Prop)  (i : Nat), Wp 141 208 (some (.ref i) :: ls) (st) h Q ↔ Wp 141 209 (some (.ref i) :: ls) (.ref i :: st) h Q) ∧
  (∀ (ls : Lo) (st : List Value) (h : Hp) (Q : Option Value → Hp → Prop) (l0 l1 l2 l3 l4 l5 : Option Value) (x : Int32), Wp 141 209 (l0 :: l1 :: l2 :: l3 :: l4 :: l5 :: some (.int x) :: ls) (st) h Q ↔ Wp 141 211 (l0 :: l1 :: l2 :: l3 :: l4 :: l5 :: some (.int x) :: ls) (.int x :: st) h Q) ∧
  (∀ (ls : Lo) (st : List Value) (h : Hp) (Q : Option Value → Hp → Prop), Wp 141 211 (ls) (st) h Q ↔ Wp 141 212 (ls) (.int (1) :: st) h Q) ∧
  (∀ (ls : Lo) (st : List Value) (h : Hp) (Q : Option Value → Hp → Prop) (x y : Int32), Wp 141 212 (ls) (.int y :: .int x :: st) h Q ↔ Wp 141 213 (ls) (.int (x + y) :: st) h Q) ∧
  (∀ (ls : Lo) (st : List Value) (n sl : Nat) (C Z : Nat → Nat) (I : Nat → Nat → Int32) (L : Nat → Nat → Int64) (R : Nat → Nat → Nat) (Q : Option Value → Hp → Prop) (x0 : Int32) (i : Nat), C i = 11 → (Wp 141 213 (ls) (.int x0 :: .ref i :: st) (n, sl, C, Z, I, L, R) Q ↔ (wsum st ≤ 8 ∧ Call 128 [some (.ref i), some (.int x0), none, none, none, none, none, none, none, none, none] (n, sl, C, Z, I, L, R) 141 216 ls st Q))) ∧
  (∀ (ls : Lo) (st : List Value) (h : Hp) (Q : Option Value → Hp → Prop) (l0 l1 l2 l3 l4 l5 l6 : Option Value) (x : Int32), Wp 141 216 (l0 :: l1 :: l2 :: l3 :: l4 :: l5 :: l6 :: some (.int x) :: ls) (st) h Q ↔ Wp 141 218 (l0 :: l1 :: l2 :: l3 :: l4 :: l5 :: l6 :: some (.int x) :: ls) (.int x :: st) h Q) ∧
  (∀ (ls : Lo) (st : List Value) (h : Hp) (Q : Option Value → Hp → Prop) (x y : Int32), Wp 141 218 (ls) (.int y :: .int x :: st) h Q ↔ Br 141 224 221 ls st h Q (¬ x = y)) ∧
  (∀ (ls : Lo) (st : List Value) (h : Hp) (Q : Option Value → Hp → Prop) (l0 l1 l2 l3 l4 l5 : Option Value) (x : Int32), Wp 141 221 (l0 :: l1 :: l2 :: l3 :: l4 :: l5 :: some (.int x) :: ls) (st) h Q ↔ Wp 141 223 (l0 :: l1 :: l2 :: l3 :: l4 :: l5 :: some (.int x) :: ls) (.int x :: st) h Q) ∧
  (∀ (ls : Lo) (h : Hp) (Q : Option Value → Hp → Prop) (x : Int32), Wp 141 223 (ls) ([.int x]) h Q ↔ Q (some (.int x)) h) ∧
  (∀ (ls : Lo) (st : List Value) (h : Hp) (Q : Option Value → Hp → Prop) (l0 l1 l2 l3 l4 l5 : Option Value) (x : Int32), Wp 141 224 (l0 :: l1 :: l2 :: l3 :: l4 :: l5 :: some (.int x) :: ls) (st) h Q ↔ Wp 141 227 (l0 :: l1 :: l2 :: l3 :: l4 :: clr l5 :: some (.int (x + (1))) :: ls) (st) h Q) ∧
  (∀ (ls : Lo) (st : List Value) (h : Hp) (Q : Option Value → Hp → Prop), Wp 141 227 (ls) (st) h Q ↔ Wp 141 88 (ls) (st) h Q) ∧
  (∀ (ls : Lo) (st : List Value) (h : Hp) (Q : Option Value → Hp → Prop), Wp 141 230 (ls) (st) h Q ↔ Wp 141 231 (ls) (.int (-1) :: st) h Q) ∧
  (∀ (ls : Lo) (h : Hp) (Q : Option Value → Hp → Prop) (x : Int32), Wp 141 231 (ls) ([.int x]) h Q ↔ Q (some (.int x)) h) := ⟨by intro ls st h Q l0 l1 l2 l3 l4 l5 l6 l7 x; exact e_iload d141_183 rfl,
  by intro ls st h Q l0 l1 l2 l3 l4 x; exact e_iload d141_185 rfl,
  by intro ls st h Q x y; exact e_ic d141_187 (by decide) c_ge,
  by intro ls st h Q i; exact e_aload_n d141_190 rfl,
  by intro ls st n sl C Z I L R Q i; exact e_get (g := 10) (s := 26) (ty := 2) d141_191 rfl rfl (inG_ne (by decide)),
  by intro ls st h Q l0 l1 l2 l3 l4 l5 l6 l7 x; exact e_iload d141_194 rfl,
  by intro ls st n sl C Z I L R Q i y; exact e_lald d141_196,
  by intro ls st h Q; exact e_goto d141_197 (by decide),
  by intro ls st h Q; exact e_lconst d141_200 rfl,
  by intro ls st n sl C Z I L R Q i y a; exact e_last d141_201,
  by intro ls st h Q l0 l1 l2 l3 l4 l5 l6 l7 x; exact e_iinc d141_202 rfl rfl rfl,
  by intro ls st h Q; exact e_goto d141_205 (by decide),
  by intro ls st h Q i; exact e_aload_n d141_208 rfl,
  by intro ls st h Q l0 l1 l2 l3 l4 l5 x; exact e_iload d141_209 rfl,
  by intro ls st h Q; exact e_iconst d141_211 rfl,
  by intro ls st h Q x y; exact e_iadd d141_212,
  by intro ls st n sl C Z I L R Q x0 i hh; exact e_iv (k2 := 128) (c := 11) (as := [.int x0]) d141_213 rfl (by decide) rfl rfl (by decide +kernel) (Nat.le_of_ble_eq_true rfl) rfl hh,
  by intro ls st h Q l0 l1 l2 l3 l4 l5 l6 x; exact e_iload d141_216 rfl,
  by intro ls st h Q x y; exact e_ic d141_218 (by decide) c_ne,
  by intro ls st h Q l0 l1 l2 l3 l4 l5 x; exact e_iload d141_221 rfl,
  by intros; exact e_rI (p := True) d141_223 rfl,
  by intro ls st h Q l0 l1 l2 l3 l4 l5 x; exact e_iinc d141_224 rfl rfl rfl,
  by intro ls st h Q; exact e_goto d141_227 (by decide),
  by intro ls st h Q; exact e_iconst d141_230 rfl,
  by intros; exact e_rI (p := True) d141_231 rfl⟩
theorem d142_0 : decode (byt 142) 0 = .ok (.aload_n 0, 1) := by decide +kernel
theorem d142_1 : decode (byt 142) 1 = .ok (.getfield 13, 3) := by decide +kernel
theorem d142_4 : decode (byt 142) 4 = .ok (.iload_n 1, 1) := by decide +kernel
theorem d142_5 : decode (byt 142) 5 = .ok (.iaload, 1) := by decide +kernel
theorem d142_6 : decode (byt 142) 6 = .ok (.istore_n 2, 1) := by decide +kernel
theorem d142_7 : decode (byt 142) 7 = .ok (.aload_n 0, 1) := by decide +kernel
theorem d142_8 : decode (byt 142) 8 = .ok (.getfield 16, 3) := by decide +kernel
theorem d142_11 : decode (byt 142) 11 = .ok (.iload_n 1, 1) := by decide +kernel
theorem d142_12 : decode (byt 142) 12 = .ok (.iaload, 1) := by decide +kernel
theorem d142_13 : decode (byt 142) 13 = .ok (.i2l, 1) := by decide +kernel
theorem d142_14 : decode (byt 142) 14 = .ok (.lstore_n 3, 1) := by decide +kernel
theorem d142_15 : decode (byt 142) 15 = .ok (.iload_n 2, 1) := by decide +kernel
theorem d142_16 : decode (byt 142) 16 = .ok (.iconst 2, 1) := by decide +kernel
theorem d142_17 : decode (byt 142) 17 = .ok (.if_icmp .le 5, 3) := by decide +kernel
theorem d142_20 : decode (byt 142) 20 = .ok (.iconst (-1), 1) := by decide +kernel
theorem d142_21 : decode (byt 142) 21 = .ok (.ireturn, 1) := by decide +kernel
theorem d142_22 : decode (byt 142) 22 = .ok (.iload_n 2, 1) := by decide +kernel
theorem d142_23 : decode (byt 142) 23 = .ok (.iconst 1, 1) := by decide +kernel
theorem d142_24 : decode (byt 142) 24 = .ok (.if_icmp .ne 74, 3) := by decide +kernel
theorem d142_27 : decode (byt 142) 27 = .ok (.aload_n 0, 1) := by decide +kernel
theorem d142_28 : decode (byt 142) 28 = .ok (.iload_n 1, 1) := by decide +kernel
theorem d142_29 : decode (byt 142) 29 = .ok (.iconst 0, 1) := by decide +kernel
theorem d142_30 : decode (byt 142) 30 = .ok (.iconst 0, 1) := by decide +kernel
theorem d142_31 : decode (byt 142) 31 = .ok (.invokevirtual 102, 3) := by decide +kernel
theorem d142_34 : decode (byt 142) 34 = .ok (.i2l, 1) := by decide +kernel
theorem d142_35 : decode (byt 142) 35 = .ok (.lstore 5, 2) := by decide +kernel
theorem d142_37 : decode (byt 142) 37 = .ok (.aload_n 0, 1) := by decide +kernel
theorem d142_38 : decode (byt 142) 38 = .ok (.getfield 71, 3) := by decide +kernel
theorem d142_41 : decode (byt 142) 41 = .ok (.iconst 0, 1) := by decide +kernel
theorem d142_42 : decode (byt 142) 42 = .ok (.aload_n 0, 1) := by decide +kernel
theorem d142_43 : decode (byt 142) 43 = .ok (.getfield 7, 3) := by decide +kernel
theorem d142_46 : decode (byt 142) 46 = .ok (.iload_n 1, 1) := by decide +kernel
theorem d142_47 : decode (byt 142) 47 = .ok (.iaload, 1) := by decide +kernel
theorem d142_48 : decode (byt 142) 48 = .ok (.iconst 1, 1) := by decide +kernel
theorem d142_49 : decode (byt 142) 49 = .ok (.if_icmp .ne 12, 3) := by decide +kernel
theorem d142_52 : decode (byt 142) 52 = .ok (.ldc2_w 188, 3) := by decide +kernel
theorem d142_55 : decode (byt 142) 55 = .ok (.lload 5, 2) := by decide +kernel
theorem d142_57 : decode (byt 142) 57 = .ok (.lmul, 1) := by decide +kernel
theorem d142_58 : decode (byt 142) 58 = .ok (.goto 12, 3) := by decide +kernel
theorem d142_61 : decode (byt 142) 61 = .ok (.lload 5, 2) := by decide +kernel
theorem d142_63 : decode (byt 142) 63 = .ok (.lload 5, 2) := by decide +kernel
theorem d142_65 : decode (byt 142) 65 = .ok (.lmul, 1) := by decide +kernel
theorem d142_66 : decode (byt 142) 66 = .ok (.lload_n 3, 1) := by decide +kernel
theorem d142_67 : decode (byt 142) 67 = .ok (.lload_n 3, 1) := by decide +kernel
theorem d142_68 : decode (byt 142) 68 = .ok (.lmul, 1) := by decide +kernel
theorem d142_69 : decode (byt 142) 69 = .ok (.lsub, 1) := by decide +kernel
theorem d142_70 : decode (byt 142) 70 = .ok (.lastore, 1) := by decide +kernel
theorem d142_71 : decode (byt 142) 71 = .ok (.aload_n 0, 1) := by decide +kernel
theorem d142_72 : decode (byt 142) 72 = .ok (.getfield 77, 3) := by decide +kernel
theorem d142_75 : decode (byt 142) 75 = .ok (.iconst 0, 1) := by decide +kernel
theorem d142_76 : decode (byt 142) 76 = .ok (.aload_n 0, 1) := by decide +kernel
theorem d142_77 : decode (byt 142) 77 = .ok (.getfield 7, 3) := by decide +kernel
theorem d142_80 : decode (byt 142) 80 = .ok (.iload_n 1, 1) := by decide +kernel
theorem d142_81 : decode (byt 142) 81 = .ok (.iaload, 1) := by decide +kernel
theorem d142_82 : decode (byt 142) 82 = .ok (.iconst 1, 1) := by decide +kernel
theorem d142_83 : decode (byt 142) 83 = .ok (.if_icmp .ne 8, 3) := by decide +kernel
theorem d142_86 : decode (byt 142) 86 = .ok (.lload_n 3, 1) := by decide +kernel
theorem d142_87 : decode (byt 142) 87 = .ok (.lneg, 1) := by decide +kernel
theorem d142_88 : decode (byt 142) 88 = .ok (.goto 7, 3) := by decide +kernel
theorem d142_91 : decode (byt 142) 91 = .ok (.lload_n 3, 1) := by decide +kernel
theorem d142_92 : decode (byt 142) 92 = .ok (.lneg, 1) := by decide +kernel
theorem d142_93 : decode (byt 142) 93 = .ok (.lload_n 3, 1) := by decide +kernel
theorem d142_94 : decode (byt 142) 94 = .ok (.lmul, 1) := by decide +kernel
theorem d142_95 : decode (byt 142) 95 = .ok (.lastore, 1) := by decide +kernel
theorem d142_96 : decode (byt 142) 96 = .ok (.iconst 1, 1) := by decide +kernel
theorem d142_97 : decode (byt 142) 97 = .ok (.ireturn, 1) := by decide +kernel
theorem d142_98 : decode (byt 142) 98 = .ok (.iload_n 2, 1) := by decide +kernel
theorem d142_99 : decode (byt 142) 99 = .ok (.ifCond .ne 5, 3) := by decide +kernel
theorem d142_102 : decode (byt 142) 102 = .ok (.iconst 0, 1) := by decide +kernel
theorem d142_103 : decode (byt 142) 103 = .ok (.ireturn, 1) := by decide +kernel
theorem d142_104 : decode (byt 142) 104 = .ok (.iconst 0, 1) := by decide +kernel
theorem d142_105 : decode (byt 142) 105 = .ok (.istore 5, 2) := by decide +kernel
theorem d142_107 : decode (byt 142) 107 = .ok (.iload 5, 2) := by decide +kernel
theorem d142_109 : decode (byt 142) 109 = .ok (.iconst 3, 1) := by decide +kernel
theorem d142_110 : decode (byt 142) 110 = .ok (.if_icmp .ge 309, 3) := by decide +kernel
theorem d142_113 : decode (byt 142) 113 = .ok (.iload 5, 2) := by decide +kernel
theorem d142_115 : decode (byt 142) 115 = .ok (.iconst 2, 1) := by decide +kernel
theorem d142_116 : decode (byt 142) 116 = .ok (.if_icmp .ne 7, 3) := by decide +kernel
theorem d142_119 : decode (byt 142) 119 = .ok (.iconst 1, 1) := by decide +kernel
theorem d142_120 : decode (byt 142) 120 = .ok (.goto 4, 3) := by decide +kernel
theorem d142_123 : decode (byt 142) 123 = .ok (.iconst 0, 1) := by decide +kernel
theorem d142_124 : decode (byt 142) 124 = .ok (.istore 6, 2) := by decide +kernel
theorem d142_126 : decode (byt 142) 126 = .ok (.iload 5, 2) := by decide +kernel
theorem d142_128 : decode (byt 142) 128 = .ok (.ifCond .ne 7, 3) := by decide +kernel
theorem d142_131 : decode (byt 142) 131 = .ok (.iconst 0, 1) := by decide +kernel
theorem d142_132 : decode (byt 142) 132 = .ok (.goto 4, 3) := by decide +kernel
theorem d142_135 : decode (byt 142) 135 = .ok (.iconst 1, 1) := by decide +kernel
theorem d142_136 : decode (byt 142) 136 = .ok (.istore 7, 2) := by decide +kernel
theorem d142_138 : decode (byt 142) 138 = .ok (.aload_n 0, 1) := by decide +kernel
theorem d142_139 : decode (byt 142) 139 = .ok (.iload_n 1, 1) := by decide +kernel
theorem d142_140 : decode (byt 142) 140 = .ok (.iconst 0, 1) := by decide +kernel
theorem d142_141 : decode (byt 142) 141 = .ok (.iload 6, 2) := by decide +kernel
theorem d142_143 : decode (byt 142) 143 = .ok (.invokevirtual 102, 3) := by decide +kernel
theorem d142_146 : decode (byt 142) 146 = .ok (.i2l, 1) := by decide +kernel
theorem d142_147 : decode (byt 142) 147 = .ok (.lstore 8, 2) := by decide +kernel
theorem d142_149 : decode (byt 142) 149 = .ok (.aload_n 0, 1) := by decide +kernel
theorem d142_150 : decode (byt 142) 150 = .ok (.iload_n 1, 1) := by decide +kernel
theorem d142_151 : decode (byt 142) 151 = .ok (.iconst 1, 1) := by decide +kernel
theorem d142_152 : decode (byt 142) 152 = .ok (.iload 6, 2) := by decide +kernel
theorem d142_154 : decode (byt 142) 154 = .ok (.invokevirtual 102, 3) := by decide +kernel
theorem d142_157 : decode (byt 142) 157 = .ok (.i2l, 1) := by decide +kernel
theorem d142_158 : decode (byt 142) 158 = .ok (.lstore 10, 2) := by decide +kernel
theorem d142_160 : decode (byt 142) 160 = .ok (.aload_n 0, 1) := by decide +kernel
theorem d142_161 : decode (byt 142) 161 = .ok (.iload_n 1, 1) := by decide +kernel
theorem d142_162 : decode (byt 142) 162 = .ok (.iconst 0, 1) := by decide +kernel
theorem d142_163 : decode (byt 142) 163 = .ok (.iload 7, 2) := by decide +kernel
theorem d142_165 : decode (byt 142) 165 = .ok (.invokevirtual 102, 3) := by decide +kernel
theorem d142_168 : decode (byt 142) 168 = .ok (.i2l, 1) := by decide +kernel
theorem d142_169 : decode (byt 142) 169 = .ok (.lstore 12, 2) := by decide +kernel
theorem d142_171 : decode (byt 142) 171 = .ok (.aload_n 0, 1) := by decide +kernel
theorem d142_172 : decode (byt 142) 172 = .ok (.iload_n 1, 1) := by decide +kernel
theorem d142_173 : decode (byt 142) 173 = .ok (.iconst 1, 1) := by decide +kernel
theorem d142_174 : decode (byt 142) 174 = .ok (.iload 7, 2) := by decide +kernel
theorem d142_176 : decode (byt 142) 176 = .ok (.invokevirtual 102, 3) := by decide +kernel
theorem d142_179 : decode (byt 142) 179 = .ok (.i2l, 1) := by decide +kernel
theorem d142_180 : decode (byt 142) 180 = .ok (.lstore 14, 2) := by decide +kernel
theorem d142_182 : decode (byt 142) 182 = .ok (.aload_n 0, 1) := by decide +kernel
theorem d142_183 : decode (byt 142) 183 = .ok (.getfield 7, 3) := by decide +kernel
theorem d142_186 : decode (byt 142) 186 = .ok (.iload_n 1, 1) := by decide +kernel
theorem d142_187 : decode (byt 142) 187 = .ok (.iaload, 1) := by decide +kernel
theorem d142_188 : decode (byt 142) 188 = .ok (.iconst 1, 1) := by decide +kernel
theorem d142_189 : decode (byt 142) 189 = .ok (.if_icmp .eq 98, 3) := by decide +kernel
theorem d142_192 : decode (byt 142) 192 = .ok (.aload_n 0, 1) := by decide +kernel
theorem d142_193 : decode (byt 142) 193 = .ok (.getfield 71, 3) := by decide +kernel
theorem d142_196 : decode (byt 142) 196 = .ok (.iconst 3, 1) := by decide +kernel
theorem d142_197 : decode (byt 142) 197 = .ok (.iload 5, 2) := by decide +kernel
theorem d142_199 : decode (byt 142) 199 = .ok (.imul, 1) := by decide +kernel
theorem d142_200 : decode (byt 142) 200 = .ok (.lload 8, 2) := by decide +kernel
theorem d142_202 : decode (byt 142) 202 = .ok (.lload 12, 2) := by decide +kernel
theorem d142_204 : decode (byt 142) 204 = .ok (.lmul, 1) := by decide +kernel
theorem d142_205 : decode (byt 142) 205 = .ok (.lastore, 1) := by decide +kernel
theorem d142_206 : decode (byt 142) 206 = .ok (.aload_n 0, 1) := by decide +kernel
theorem d142_207 : decode (byt 142) 207 = .ok (.getfield 71, 3) := by decide +kernel
theorem d142_210 : decode (byt 142) 210 = .ok (.iconst 3, 1) := by decide +kernel
theorem d142_211 : decode (byt 142) 211 = .ok (.iload 5, 2) := by decide +kernel
theorem d142_213 : decode (byt 142) 213 = .ok (.imul, 1) := by decide +kernel
theorem d142_214 : decode (byt 142) 214 = .ok (.iconst 1, 1) := by decide +kernel
theorem d142_215 : decode (byt 142) 215 = .ok (.iadd, 1) := by decide +kernel
theorem d142_216 : decode (byt 142) 216 = .ok (.lload 8, 2) := by decide +kernel
theorem d142_218 : decode (byt 142) 218 = .ok (.lload 14, 2) := by decide +kernel
theorem d142_220 : decode (byt 142) 220 = .ok (.lmul, 1) := by decide +kernel
theorem d142_221 : decode (byt 142) 221 = .ok (.lload 10, 2) := by decide +kernel
theorem d142_223 : decode (byt 142) 223 = .ok (.lload 12, 2) := by decide +kernel
theorem d142_225 : decode (byt 142) 225 = .ok (.lmul, 1) := by decide +kernel
theorem d142_226 : decode (byt 142) 226 = .ok (.ladd, 1) := by decide +kernel
theorem d142_227 : decode (byt 142) 227 = .ok (.lastore, 1) := by decide +kernel
theorem d142_228 : decode (byt 142) 228 = .ok (.aload_n 0, 1) := by decide +kernel
theorem d142_229 : decode (byt 142) 229 = .ok (.getfield 71, 3) := by decide +kernel
theorem d142_232 : decode (byt 142) 232 = .ok (.iconst 3, 1) := by decide +kernel
theorem d142_233 : decode (byt 142) 233 = .ok (.iload 5, 2) := by decide +kernel
theorem d142_235 : decode (byt 142) 235 = .ok (.imul, 1) := by decide +kernel
theorem d142_236 : decode (byt 142) 236 = .ok (.iconst 2, 1) := by decide +kernel
theorem d142_237 : decode (byt 142) 237 = .ok (.iadd, 1) := by decide +kernel
theorem d142_238 : decode (byt 142) 238 = .ok (.lload 10, 2) := by decide +kernel
theorem d142_240 : decode (byt 142) 240 = .ok (.lload 14, 2) := by decide +kernel
theorem d142_242 : decode (byt 142) 242 = .ok (.lmul, 1) := by decide +kernel
theorem d142_243 : decode (byt 142) 243 = .ok (.lastore, 1) := by decide +kernel
theorem d142_244 : decode (byt 142) 244 = .ok (.aload_n 0, 1) := by decide +kernel
theorem d142_245 : decode (byt 142) 245 = .ok (.getfield 71, 3) := by decide +kernel
theorem d142_248 : decode (byt 142) 248 = .ok (.iconst 3, 1) := by decide +kernel
theorem d142_249 : decode (byt 142) 249 = .ok (.iload 5, 2) := by decide +kernel
theorem d142_251 : decode (byt 142) 251 = .ok (.imul, 1) := by decide +kernel
theorem d142_252 : decode (byt 142) 252 = .ok (.iload 5, 2) := by decide +kernel
theorem d142_254 : decode (byt 142) 254 = .ok (.iadd, 1) := by decide +kernel
theorem d142_255 : decode (byt 142) 255 = .ok (.dup2, 1) := by decide +kernel
theorem d142_256 : decode (byt 142) 256 = .ok (.laload, 1) := by decide +kernel
theorem d142_257 : decode (byt 142) 257 = .ok (.lload_n 3, 1) := by decide +kernel
theorem d142_258 : decode (byt 142) 258 = .ok (.lload_n 3, 1) := by decide +kernel
theorem d142_259 : decode (byt 142) 259 = .ok (.lmul, 1) := by decide +kernel
theorem d142_260 : decode (byt 142) 260 = .ok (.lsub, 1) := by decide +kernel
theorem d142_261 : decode (byt 142) 261 = .ok (.lastore, 1) := by decide +kernel
theorem d142_262 : decode (byt 142) 262 = .ok (.aload_n 0, 1) := by decide +kernel
theorem d142_263 : decode (byt 142) 263 = .ok (.getfield 77, 3) := by decide +kernel
theorem d142_266 : decode (byt 142) 266 = .ok (.iload 5, 2) := by decide +kernel
theorem d142_268 : decode (byt 142) 268 = .ok (.iload 6, 2) := by decide +kernel
theorem d142_270 : decode (byt 142) 270 = .ok (.iload 7, 2) := by decide +kernel
theorem d142_272 : decode (byt 142) 272 = .ok (.if_icmp .ne 10, 3) := by decide +kernel
theorem d142_275 : decode (byt 142) 275 = .ok (.lload_n 3, 1) := by decide +kernel
theorem d142_276 : decode (byt 142) 276 = .ok (.lneg, 1) := by decide +kernel
theorem d142_277 : decode (byt 142) 277 = .ok (.lload_n 3, 1) := by decide +kernel
theorem d142_278 : decode (byt 142) 278 = .ok (.lmul, 1) := by decide +kernel
theorem d142_279 : decode (byt 142) 279 = .ok (.goto 4, 3) := by decide +kernel
theorem d142_282 : decode (byt 142) 282 = .ok (.lconst 0, 1) := by decide +kernel
theorem d142_283 : decode (byt 142) 283 = .ok (.lastore, 1) := by decide +kernel
theorem d142_284 : decode (byt 142) 284 = .ok (.goto 129, 3) := by decide +kernel
theorem d142_287 : decode (byt 142) 287 = .ok (.aload_n 0, 1) := by decide +kernel
theorem d142_288 : decode (byt 142) 288 = .ok (.getfield 71, 3) := by decide +kernel
theorem d142_291 : decode (byt 142) 291 = .ok (.iconst 3, 1) := by decide +kernel
theorem d142_292 : decode (byt 142) 292 = .ok (.iload 5, 2) := by decide +kernel
theorem d142_294 : decode (byt 142) 294 = .ok (.imul, 1) := by decide +kernel
theorem d142_295 : decode (byt 142) 295 = .ok (.iload 7, 2) := by decide +kernel
theorem d142_297 : decode (byt 142) 297 = .ok (.ifCond .ne 8, 3) := by decide +kernel
theorem d142_300 : decode (byt 142) 300 = .ok (.lload 8, 2) := by decide +kernel
theorem d142_302 : decode (byt 142) 302 = .ok (.goto 4, 3) := by decide +kernel
theorem d142_305 : decode (byt 142) 305 = .ok (.lconst 0, 1) := by decide +kernel
theorem d142_306 : decode (byt 142) 306 = .ok (.iload 6, 2) := by decide +kernel
theorem d142_308 : decode (byt 142) 308 = .ok (.ifCond .ne 8, 3) := by decide +kernel
theorem d142_311 : decode (byt 142) 311 = .ok (.lload 12, 2) := by decide +kernel
theorem d142_313 : decode (byt 142) 313 = .ok (.goto 4, 3) := by decide +kernel
theorem d142_316 : decode (byt 142) 316 = .ok (.lconst 0, 1) := by decide +kernel
theorem d142_317 : decode (byt 142) 317 = .ok (.ladd, 1) := by decide +kernel
theorem d142_318 : decode (byt 142) 318 = .ok (.lastore, 1) := by decide +kernel
theorem d142_319 : decode (byt 142) 319 = .ok (.aload_n 0, 1) := by decide +kernel
theorem d142_320 : decode (byt 142) 320 = .ok (.getfield 71, 3) := by decide +kernel
theorem d142_323 : decode (byt 142) 323 = .ok (.iconst 3, 1) := by decide +kernel
theorem d142_324 : decode (byt 142) 324 = .ok (.iload 5, 2) := by decide +kernel
theorem d142_326 : decode (byt 142) 326 = .ok (.imul, 1) := by decide +kernel
theorem d142_327 : decode (byt 142) 327 = .ok (.iconst 1, 1) := by decide +kernel
theorem d142_328 : decode (byt 142) 328 = .ok (.iadd, 1) := by decide +kernel
theorem d142_329 : decode (byt 142) 329 = .ok (.iload 7, 2) := by decide +kernel
theorem d142_331 : decode (byt 142) 331 = .ok (.iconst 1, 1) := by decide +kernel
theorem d142_332 : decode (byt 142) 332 = .ok (.if_icmp .ne 8, 3) := by decide +kernel
theorem d142_335 : decode (byt 142) 335 = .ok (.lload 8, 2) := by decide +kernel
theorem d142_337 : decode (byt 142) 337 = .ok (.goto 5, 3) := by decide +kernel
theorem d142_340 : decode (byt 142) 340 = .ok (.lload 10, 2) := by decide +kernel
theorem d142_342 : decode (byt 142) 342 = .ok (.iload 6, 2) := by decide +kernel
theorem d142_344 : decode (byt 142) 344 = .ok (.iconst 1, 1) := by decide +kernel
theorem d142_345 : decode (byt 142) 345 = .ok (.if_icmp .ne 8, 3) := by decide +kernel
theorem d142_348 : decode (byt 142) 348 = .ok (.lload 12, 2) := by decide +kernel
theorem d142_350 : decode (byt 142) 350 = .ok (.goto 5, 3) := by decide +kernel
theorem d142_353 : decode (byt 142) 353 = .ok (.lload 14, 2) := by decide +kernel
theorem d142_355 : decode (byt 142) 355 = .ok (.ladd, 1) := by decide +kernel
theorem d142_356 : decode (byt 142) 356 = .ok (.lastore, 1) := by decide +kernel
theorem d142_357 : decode (byt 142) 357 = .ok (.aload_n 0, 1) := by decide +kernel
theorem d142_358 : decode (byt 142) 358 = .ok (.getfield 71, 3) := by decide +kernel
theorem d142_361 : decode (byt 142) 361 = .ok (.iconst 3, 1) := by decide +kernel
theorem d142_362 : decode (byt 142) 362 = .ok (.iload 5, 2) := by decide +kernel
theorem d142_364 : decode (byt 142) 364 = .ok (.imul, 1) := by decide +kernel
theorem d142_365 : decode (byt 142) 365 = .ok (.iconst 2, 1) := by decide +kernel
theorem d142_366 : decode (byt 142) 366 = .ok (.iadd, 1) := by decide +kernel
theorem d142_367 : decode (byt 142) 367 = .ok (.iload 7, 2) := by decide +kernel
theorem d142_369 : decode (byt 142) 369 = .ok (.iconst 1, 1) := by decide +kernel
theorem d142_370 : decode (byt 142) 370 = .ok (.if_icmp .ne 8, 3) := by decide +kernel
theorem d142_373 : decode (byt 142) 373 = .ok (.lload 10, 2) := by decide +kernel
theorem d142_375 : decode (byt 142) 375 = .ok (.goto 4, 3) := by decide +kernel
theorem d142_378 : decode (byt 142) 378 = .ok (.lconst 0, 1) := by decide +kernel
theorem d142_379 : decode (byt 142) 379 = .ok (.iload 6, 2) := by decide +kernel
theorem d142_381 : decode (byt 142) 381 = .ok (.iconst 1, 1) := by decide +kernel
theorem d142_382 : decode (byt 142) 382 = .ok (.if_icmp .ne 8, 3) := by decide +kernel
theorem d142_385 : decode (byt 142) 385 = .ok (.lload 14, 2) := by decide +kernel
theorem d142_387 : decode (byt 142) 387 = .ok (.goto 4, 3) := by decide +kernel
theorem d142_390 : decode (byt 142) 390 = .ok (.lconst 0, 1) := by decide +kernel
theorem d142_391 : decode (byt 142) 391 = .ok (.ladd, 1) := by decide +kernel
theorem d142_392 : decode (byt 142) 392 = .ok (.lastore, 1) := by decide +kernel
theorem d142_393 : decode (byt 142) 393 = .ok (.aload_n 0, 1) := by decide +kernel
theorem d142_394 : decode (byt 142) 394 = .ok (.getfield 77, 3) := by decide +kernel
theorem d142_397 : decode (byt 142) 397 = .ok (.iload 5, 2) := by decide +kernel
theorem d142_399 : decode (byt 142) 399 = .ok (.iload 6, 2) := by decide +kernel
theorem d142_401 : decode (byt 142) 401 = .ok (.iload 7, 2) := by decide +kernel
theorem d142_403 : decode (byt 142) 403 = .ok (.if_icmp .ne 8, 3) := by decide +kernel
theorem d142_406 : decode (byt 142) 406 = .ok (.lload_n 3, 1) := by decide +kernel
theorem d142_407 : decode (byt 142) 407 = .ok (.lneg, 1) := by decide +kernel
theorem d142_408 : decode (byt 142) 408 = .ok (.goto 4, 3) := by decide +kernel
theorem d142_411 : decode (byt 142) 411 = .ok (.lconst 0, 1) := by decide +kernel
theorem d142_412 : decode (byt 142) 412 = .ok (.lastore, 1) := by decide +kernel
theorem d142_413 : decode (byt 142) 413 = .ok (.iinc 5 1, 3) := by decide +kernel
theorem d142_416 : decode (byt 142) 416 = .ok (.goto (-309), 3) := by decide +kernel
theorem d142_419 : decode (byt 142) 419 = .ok (.iconst 3, 1) := by decide +kernel
theorem d142_420 : decode (byt 142) 420 = .ok (.ireturn, 1) := by decide +kernel
set_option maxRecDepth 20000 in
theorem S142_0 : (∀ (ls : Lo) (st : List Value) (h : Hp) (Q : Option Value → Hp → Prop)  (i : Nat), Wp 142 0 (some (.ref i) :: ls) (st) h Q ↔ Wp 142 1 (some (.ref i) :: ls) (.ref i :: st) h Q) ∧
  (∀ (ls : Lo) (st : List Value) (n sl : Nat) (C Z : Nat → Nat) (I : Nat → Nat → Int32) (L : Nat → Nat → Int64) (R : Nat → Nat → Nat) (Q : Option Value → Hp → Prop) (i : Nat), Wp 142 1 (ls) (.ref i :: st) (n, sl, C, Z, I, L, R) Q ↔ (C i = 11 ∧ Wp 142 4 (ls) (.ref (R i 2) :: st) (n, sl, C, Z, I, L, R) Q)) ∧
  (∀ (ls : Lo) (st : List Value) (h : Hp) (Q : Option Value → Hp → Prop) (l0 : Option Value) (x : Int32), Wp 142 4 (l0 :: some (.int x) :: ls) (st) h Q ↔ Wp 142 5 (l0 :: some (.int x) :: ls) (.int x :: st) h Q) ∧
  (∀ (ls : Lo) (st : List Value) (n sl : Nat) (C Z : Nat → Nat) (I : Nat → Nat → Int32) (L : Nat → Nat → Int64) (R : Nat → Nat → Nat) (Q : Option Value → Hp → Prop) (i : Nat) (y : Int32), Wp 142 5 (ls) (.int y :: .ref i :: st) (n, sl, C, Z, I, L, R) Q ↔ ((inb y (Z i) = true ∧ C i = 21) ∧ Wp 142 6 (ls) (.int (I i (ix y)) :: st) (n, sl, C, Z, I, L, R) Q)) ∧
  (∀ (ls : Lo) (st : List Value) (h : Hp) (Q : Option Value → Hp → Prop) (l0 l1 l2 : Option Value) (x : Int32), Wp 142 6 (l0 :: l1 :: l2 :: ls) (.int x :: st) h Q ↔ Wp 142 7 (l0 :: clr l1 :: some (.int x) :: ls) (st) h Q) ∧
  (∀ (ls : Lo) (st : List Value) (h : Hp) (Q : Option Value → Hp → Prop)  (i : Nat), Wp 142 7 (some (.ref i) :: ls) (st) h Q ↔ Wp 142 8 (some (.ref i) :: ls) (.ref i :: st) h Q) ∧
  (∀ (ls : Lo) (st : List Value) (n sl : Nat) (C Z : Nat → Nat) (I : Nat → Nat → Int32) (L : Nat → Nat → Int64) (R : Nat → Nat → Nat) (Q : Option Value → Hp → Prop) (i : Nat), Wp 142 8 (ls) (.ref i :: st) (n, sl, C, Z, I, L, R) Q ↔ (C i = 11 ∧ Wp 142 11 (ls) (.ref (R i 3) :: st) (n, sl, C, Z, I, L, R) Q)) ∧
  (∀ (ls : Lo) (st : List Value) (h : Hp) (Q : Option Value → Hp → Prop) (l0 : Option Value) (x : Int32), Wp 142 11 (l0 :: some (.int x) :: ls) (st) h Q ↔ Wp 142 12 (l0 :: some (.int x) :: ls) (.int x :: st) h Q) ∧
  (∀ (ls : Lo) (st : List Value) (n sl : Nat) (C Z : Nat → Nat) (I : Nat → Nat → Int32) (L : Nat → Nat → Int64) (R : Nat → Nat → Nat) (Q : Option Value → Hp → Prop) (i : Nat) (y : Int32), Wp 142 12 (ls) (.int y :: .ref i :: st) (n, sl, C, Z, I, L, R) Q ↔ ((inb y (Z i) = true ∧ C i = 21) ∧ Wp 142 13 (ls) (.int (I i (ix y)) :: st) (n, sl, C, Z, I, L, R) Q)) ∧
  (∀ (ls : Lo) (st : List Value) (h : Hp) (Q : Option Value → Hp → Prop) (x : Int32), Wp 142 13 (ls) (.int x :: st) h Q ↔ Wp 142 14 (ls) (.long x.toInt64 :: st) h Q) ∧
  (∀ (ls : Lo) (st : List Value) (h : Hp) (Q : Option Value → Hp → Prop) (l0 l1 l2 l3 l4 : Option Value) (a : Int64), Wp 142 14 (l0 :: l1 :: l2 :: l3 :: l4 :: ls) (.long a :: st) h Q ↔ Wp 142 15 (l0 :: l1 :: clr l2 :: some (.long a) :: none :: ls) (st) h Q) ∧
  (∀ (ls : Lo) (st : List Value) (h : Hp) (Q : Option Value → Hp → Prop) (l0 l1 : Option Value) (x : Int32), Wp 142 15 (l0 :: l1 :: some (.int x) :: ls) (st) h Q ↔ Wp 142 16 (l0 :: l1 :: some (.int x) :: ls) (.int x :: st) h Q) ∧
  (∀ (ls : Lo) (st : List Value) (h : Hp) (Q : Option Value → Hp → Prop), Wp 142 16 (ls) (st) h Q ↔ Wp 142 17 (ls) (.int (2) :: st) h Q) ∧
  (∀ (ls : Lo) (st : List Value) (h : Hp) (Q : Option Value → Hp → Prop) (x y : Int32), Wp 142 17 (ls) (.int y :: .int x :: st) h Q ↔ Br 142 22 20 ls st h Q (x ≤ y)) ∧
  (∀ (ls : Lo) (st : List Value) (h : Hp) (Q : Option Value → Hp → Prop), Wp 142 20 (ls) (st) h Q ↔ Wp 142 21 (ls) (.int (-1) :: st) h Q) ∧
  (∀ (ls : Lo) (h : Hp) (Q : Option Value → Hp → Prop) (x : Int32), Wp 142 21 (ls) ([.int x]) h Q ↔ Q (some (.int x)) h) ∧
  (∀ (ls : Lo) (st : List Value) (h : Hp) (Q : Option Value → Hp → Prop) (l0 l1 : Option Value) (x : Int32), Wp 142 22 (l0 :: l1 :: some (.int x) :: ls) (st) h Q ↔ Wp 142 23 (l0 :: l1 :: some (.int x) :: ls) (.int x :: st) h Q) ∧
  (∀ (ls : Lo) (st : List Value) (h : Hp) (Q : Option Value → Hp → Prop), Wp 142 23 (ls) (st) h Q ↔ Wp 142 24 (ls) (.int (1) :: st) h Q) ∧
  (∀ (ls : Lo) (st : List Value) (h : Hp) (Q : Option Value → Hp → Prop) (x y : Int32), Wp 142 24 (ls) (.int y :: .int x :: st) h Q ↔ Br 142 98 27 ls st h Q (¬ x = y)) ∧
  (∀ (ls : Lo) (st : List Value) (h : Hp) (Q : Option Value → Hp → Prop)  (i : Nat), Wp 142 27 (some (.ref i) :: ls) (st) h Q ↔ Wp 142 28 (some (.ref i) :: ls) (.ref i :: st) h Q) ∧
  (∀ (ls : Lo) (st : List Value) (h : Hp) (Q : Option Value → Hp → Prop) (l0 : Option Value) (x : Int32), Wp 142 28 (l0 :: some (.int x) :: ls) (st) h Q ↔ Wp 142 29 (l0 :: some (.int x) :: ls) (.int x :: st) h Q) ∧
  (∀ (ls : Lo) (st : List Value) (h : Hp) (Q : Option Value → Hp → Prop), Wp 142 29 (ls) (st) h Q ↔ Wp 142 30 (ls) (.int (0) :: st) h Q) ∧
  (∀ (ls : Lo) (st : List Value) (h : Hp) (Q : Option Value → Hp → Prop), Wp 142 30 (ls) (st) h Q ↔ Wp 142 31 (ls) (.int (0) :: st) h Q) ∧
  (∀ (ls : Lo) (st : List Value) (n sl : Nat) (C Z : Nat → Nat) (I : Nat → Nat → Int32) (L : Nat → Nat → Int64) (R : Nat → Nat → Nat) (Q : Option Value → Hp → Prop) (x0 : Int32) (x1 : Int32) (x2 : Int32) (i : Nat), C i = 11 → (Wp 142 31 (ls) (.int x2 :: .int x1 :: .int x0 :: .ref i :: st) (n, sl, C, Z, I, L, R) Q ↔ (wsum st ≤ 8 ∧ Call 104 [some (.ref i), some (.int x0), some (.int x1), some (.int x2)] (n, sl, C, Z, I, L, R) 142 34 ls st Q))) ∧
  (∀ (ls : Lo) (st : List Value) (h : Hp) (Q : Option Value → Hp → Prop) (x : Int32), Wp 142 34 (ls) (.int x :: st) h Q ↔ Wp 142 35 (ls) (.long x.toInt64 :: st) h Q) := ⟨by intro ls st h Q i; exact e_aload_n d142_0 rfl,
  by intro ls st n sl C Z I L R Q i; exact e_get (g := 10) (s := 2) (ty := 2) d142_1 rfl rfl (inG_ne (by decide)),
  by intro ls st h Q l0 x; exact e_iload_n d142_4 rfl,
  by intro ls st n sl C Z I L R Q i y; exact e_iald d142_5,
  by intro ls st h Q l0 l1 l2 x; exact e_istore_n d142_6 rfl,
  by intro ls st h Q i; exact e_aload_n d142_7 rfl,
  by intro ls st n sl C Z I L R Q i; exact e_get (g := 10) (s := 3) (ty := 2) d142_8 rfl rfl (inG_ne (by decide)),
  by intro ls st h Q l0 x; exact e_iload_n d142_11 rfl,
  by intro ls st n sl C Z I L R Q i y; exact e_iald d142_12,
  by intro ls st h Q x; exact e_i2l d142_13,
  by intro ls st h Q l0 l1 l2 l3 l4 a; exact e_lstore_n d142_14 rfl,
  by intro ls st h Q l0 l1 x; exact e_iload_n d142_15 rfl,
  by intro ls st h Q; exact e_iconst d142_16 rfl,
  by intro ls st h Q x y; exact e_ic d142_17 (by decide) c_le,
  by intro ls st h Q; exact e_iconst d142_20 rfl,
  by intros; exact e_rI (p := True) d142_21 rfl,
  by intro ls st h Q l0 l1 x; exact e_iload_n d142_22 rfl,
  by intro ls st h Q; exact e_iconst d142_23 rfl,
  by intro ls st h Q x y; exact e_ic d142_24 (by decide) c_ne,
  by intro ls st h Q i; exact e_aload_n d142_27 rfl,
  by intro ls st h Q l0 x; exact e_iload_n d142_28 rfl,
  by intro ls st h Q; exact e_iconst d142_29 rfl,
  by intro ls st h Q; exact e_iconst d142_30 rfl,
  by intro ls st n sl C Z I L R Q x0 x1 x2 i hh; exact e_iv (k2 := 104) (c := 11) (as := [.int x0, .int x1, .int x2]) d142_31 rfl (by decide) rfl rfl (by decide +kernel) (Nat.le_of_ble_eq_true rfl) rfl hh,
  by intro ls st h Q x; exact e_i2l d142_34⟩
set_option maxRecDepth 20000 in
theorem S142_1 : (∀ (ls : Lo) (st : List Value) (h : Hp) (Q : Option Value → Hp → Prop) (l0 l1 l2 l3 l4 l5 l6 : Option Value) (a : Int64), Wp 142 35 (l0 :: l1 :: l2 :: l3 :: l4 :: l5 :: l6 :: ls) (.long a :: st) h Q ↔ Wp 142 37 (l0 :: l1 :: l2 :: l3 :: clr l4 :: some (.long a) :: none :: ls) (st) h Q) ∧
  (∀ (ls : Lo) (st : List Value) (h : Hp) (Q : Option Value → Hp → Prop)  (i : Nat), Wp 142 37 (some (.ref i) :: ls) (st) h Q ↔ Wp 142 38 (some (.ref i) :: ls) (.ref i :: st) h Q) ∧
  (∀ (ls : Lo) (st : List Value) (n sl : Nat) (C Z : Nat → Nat) (I : Nat → Nat → Int32) (L : Nat → Nat → Int64) (R : Nat → Nat → Nat) (Q : Option Value → Hp → Prop) (i : Nat), Wp 142 38 (ls) (.ref i :: st) (n, sl, C, Z, I, L, R) Q ↔ (C i = 11 ∧ Wp 142 41 (ls) (.ref (R i 24) :: st) (n, sl, C, Z, I, L, R) Q)) ∧
  (∀ (ls : Lo) (st : List Value) (h : Hp) (Q : Option Value → Hp → Prop), Wp 142 41 (ls) (st) h Q ↔ Wp 142 42 (ls) (.int (0) :: st) h Q) ∧
  (∀ (ls : Lo) (st : List Value) (h : Hp) (Q : Option Value → Hp → Prop)  (i : Nat), Wp 142 42 (some (.ref i) :: ls) (st) h Q ↔ Wp 142 43 (some (.ref i) :: ls) (.ref i :: st) h Q) ∧
  (∀ (ls : Lo) (st : List Value) (n sl : Nat) (C Z : Nat → Nat) (I : Nat → Nat → Int32) (L : Nat → Nat → Int64) (R : Nat → Nat → Nat) (Q : Option Value → Hp → Prop) (i : Nat), Wp 142 43 (ls) (.ref i :: st) (n, sl, C, Z, I, L, R) Q ↔ (C i = 11 ∧ Wp 142 46 (ls) (.ref (R i 1) :: st) (n, sl, C, Z, I, L, R) Q)) ∧
  (∀ (ls : Lo) (st : List Value) (h : Hp) (Q : Option Value → Hp → Prop) (l0 : Option Value) (x : Int32), Wp 142 46 (l0 :: some (.int x) :: ls) (st) h Q ↔ Wp 142 47 (l0 :: some (.int x) :: ls) (.int x :: st) h Q) ∧
  (∀ (ls : Lo) (st : List Value) (n sl : Nat) (C Z : Nat → Nat) (I : Nat → Nat → Int32) (L : Nat → Nat → Int64) (R : Nat → Nat → Nat) (Q : Option Value → Hp → Prop) (i : Nat) (y : Int32), Wp 142 47 (ls) (.int y :: .ref i :: st) (n, sl, C, Z, I, L, R) Q ↔ ((inb y (Z i) = true ∧ C i = 21) ∧ Wp 142 48 (ls) (.int (I i (ix y)) :: st) (n, sl, C, Z, I, L, R) Q)) ∧
  (∀ (ls : Lo) (st : List Value) (h : Hp) (Q : Option Value → Hp → Prop), Wp 142 48 (ls) (st) h Q ↔ Wp 142 49 (ls) (.int (1) :: st) h Q) ∧
  (∀ (ls : Lo) (st : List Value) (h : Hp) (Q : Option Value → Hp → Prop) (x y : Int32), Wp 142 49 (ls) (.int y :: .int x :: st) h Q ↔ Br 142 61 52 ls st h Q (¬ x = y)) ∧
  (∀ (ls : Lo) (st : List Value) (h : Hp) (Q : Option Value → Hp → Prop), Wp 142 52 (ls) (st) h Q ↔ Wp 142 55 (ls) (.long (2) :: st) h Q) ∧
  (∀ (ls : Lo) (st : List Value) (h : Hp) (Q : Option Value → Hp → Prop) (l0 l1 l2 l3 l4 : Option Value) (a : Int64), Wp 142 55 (l0 :: l1 :: l2 :: l3 :: l4 :: some (.long a) :: ls) (st) h Q ↔ Wp 142 57 (l0 :: l1 :: l2 :: l3 :: l4 :: some (.long a) :: ls) (.long a :: st) h Q) ∧
  (∀ (ls : Lo) (st : List Value) (h : Hp) (Q : Option Value → Hp → Prop) (a b : Int64), Wp 142 57 (ls) (.long b :: .long a :: st) h Q ↔ Wp 142 58 (ls) (.long (a * b) :: st) h Q) ∧
  (∀ (ls : Lo) (st : List Value) (h : Hp) (Q : Option Value → Hp → Prop), Wp 142 58 (ls) (st) h Q ↔ Wp 142 70 (ls) (st) h Q) ∧
  (∀ (ls : Lo) (st : List Value) (h : Hp) (Q : Option Value → Hp → Prop) (l0 l1 l2 l3 l4 : Option Value) (a : Int64), Wp 142 61 (l0 :: l1 :: l2 :: l3 :: l4 :: some (.long a) :: ls) (st) h Q ↔ Wp 142 63 (l0 :: l1 :: l2 :: l3 :: l4 :: some (.long a) :: ls) (.long a :: st) h Q) ∧
  (∀ (ls : Lo) (st : List Value) (h : Hp) (Q : Option Value → Hp → Prop) (l0 l1 l2 l3 l4 : Option Value) (a : Int64), Wp 142 63 (l0 :: l1 :: l2 :: l3 :: l4 :: some (.long a) :: ls) (st) h Q ↔ Wp 142 65 (l0 :: l1 :: l2 :: l3 :: l4 :: some (.long a) :: ls) (.long a :: st) h Q) ∧
  (∀ (ls : Lo) (st : List Value) (h : Hp) (Q : Option Value → Hp → Prop) (a b : Int64), Wp 142 65 (ls) (.long b :: .long a :: st) h Q ↔ Wp 142 66 (ls) (.long (a * b) :: st) h Q) ∧
  (∀ (ls : Lo) (st : List Value) (h : Hp) (Q : Option Value → Hp → Prop) (l0 l1 l2 : Option Value) (a : Int64), Wp 142 66 (l0 :: l1 :: l2 :: some (.long a) :: ls) (st) h Q ↔ Wp 142 67 (l0 :: l1 :: l2 :: some (.long a) :: ls) (.long a :: st) h Q) ∧
  (∀ (ls : Lo) (st : List Value) (h : Hp) (Q : Option Value → Hp → Prop) (l0 l1 l2 : Option Value) (a : Int64), Wp 142 67 (l0 :: l1 :: l2 :: some (.long a) :: ls) (st) h Q ↔ Wp 142 68 (l0 :: l1 :: l2 :: some (.long a) :: ls) (.long a :: st) h Q) ∧
  (∀ (ls : Lo) (st : List Value) (h : Hp) (Q : Option Value → Hp → Prop) (a b : Int64), Wp 142 68 (ls) (.long b :: .long a :: st) h Q ↔ Wp 142 69 (ls) (.long (a * b) :: st) h Q) ∧
  (∀ (ls : Lo) (st : List Value) (h : Hp) (Q : Option Value → Hp → Prop) (a b : Int64), Wp 142 69 (ls) (.long b :: .long a :: st) h Q ↔ Wp 142 70 (ls) (.long (a - b) :: st) h Q) ∧
  (∀ (ls : Lo) (st : List Value) (n sl : Nat) (C Z : Nat → Nat) (I : Nat → Nat → Int32) (L : Nat → Nat → Int64) (R : Nat → Nat → Nat) (Q : Option Value → Hp → Prop) (i : Nat) (y : Int32) (a : Int64), Wp 142 70 (ls) (.long a :: .int y :: .ref i :: st) (n, sl, C, Z, I, L, R) Q ↔ ((inb y (Z i) = true ∧ C i = 22) ∧ Wp 142 71 (ls) (st) (n, sl, C, Z, I, u2 L i (ix y) a, R) Q)) ∧
  (∀ (ls : Lo) (st : List Value) (h : Hp) (Q : Option Value → Hp → Prop)  (i : Nat), Wp 142 71 (some (.ref i) :: ls) (st) h Q ↔ Wp 142 72 (some (.ref i) :: ls) (.ref i :: st) h Q) ∧
  (∀ (ls : Lo) (st : List Value) (n sl : Nat) (C Z : Nat → Nat) (I : Nat → Nat → Int32) (L : Nat → Nat → Int64) (R : Nat → Nat → Nat) (Q : Option Value → Hp → Prop) (i : Nat), Wp 142 72 (ls) (.ref i :: st) (n, sl, C, Z, I, L, R) Q ↔ (C i = 11 ∧ Wp 142 75 (ls) (.ref (R i 26) :: st) (n, sl, C, Z, I, L, R) Q)) ∧
  (∀ (ls : Lo) (st : List Value) (h : Hp) (Q : Option Value → Hp → Prop), Wp 142 75 (ls) (st) h Q ↔ Wp 142 76 (ls) (.int (0) :: st) h Q) := ⟨by intro ls st h Q l0 l1 l2 l3 l4 l5 l6 a; exact e_lstore d142_35 rfl,
  by intro ls st h Q i; exact e_aload_n d142_37 rfl,
  by intro ls st n sl C Z I L R Q i; exact e_get (g := 10) (s := 24) (ty := 2) d142_38 rfl rfl (inG_ne (by decide)),
  by intro ls st h Q; exact e_iconst d142_41 rfl,
  by intro ls st h Q i; exact e_aload_n d142_42 rfl,
  by intro ls st n sl C Z I L R Q i; exact e_get (g := 10) (s := 1) (ty := 2) d142_43 rfl rfl (inG_ne (by decide)),
  by intro ls st h Q l0 x; exact e_iload_n d142_46 rfl,
  by intro ls st n sl C Z I L R Q i y; exact e_iald d142_47,
  by intro ls st h Q; exact e_iconst d142_48 rfl,
  by intro ls st h Q x y; exact e_ic d142_49 (by decide) c_ne,
  by intro ls st h Q; exact e_ldc2 (p := 971) d142_52 rfl,
  by intro ls st h Q l0 l1 l2 l3 l4 a; exact e_lload d142_55 rfl,
  by intro ls st h Q a b; exact e_lmul d142_57,
  by intro ls st h Q; exact e_goto d142_58 (by decide),
  by intro ls st h Q l0 l1 l2 l3 l4 a; exact e_lload d142_61 rfl,
  by intro ls st h Q l0 l1 l2 l3 l4 a; exact e_lload d142_63 rfl,
  by intro ls st h Q a b; exact e_lmul d142_65,
  by intro ls st h Q l0 l1 l2 a; exact e_lload_n d142_66 rfl,
  by intro ls st h Q l0 l1 l2 a; exact e_lload_n d142_67 rfl,
  by intro ls st h Q a b; exact e_lmul d142_68,
  by intro ls st h Q a b; exact e_lsub d142_69,
  by intro ls st n sl C Z I L R Q i y a; exact e_last d142_70,
  by intro ls st h Q i; exact e_aload_n d142_71 rfl,
  by intro ls st n sl C Z I L R Q i; exact e_get (g := 10) (s := 26) (ty := 2) d142_72 rfl rfl (inG_ne (by decide)),
  by intro ls st h Q; exact e_iconst d142_75 rfl⟩
set_option maxRecDepth 20000 in
theorem S142_2 : (∀ (ls : Lo) (st : List Value) (h : Hp) (Q : Option Value → Hp → Prop)  (i : Nat), Wp 142 76 (some (.ref i) :: ls) (st) h Q ↔ Wp 142 77 (some (.ref i) :: ls) (.ref i :: st) h Q) ∧
  (∀ (ls : Lo) (st : List Value) (n sl : Nat) (C Z : Nat → Nat) (I : Nat → Nat → Int32) (L : Nat → Nat → Int64) (R : Nat → Nat → Nat) (Q : Option Value → Hp → Prop) (i : Nat), Wp 142 77 (ls) (.ref i :: st) (n, sl, C, Z, I, L, R) Q ↔ (C i = 11 ∧ Wp 142 80 (ls) (.ref (R i 1) :: st) (n, sl, C, Z, I, L, R) Q)) ∧
  (∀ (ls : Lo) (st : List Value) (h : Hp) (Q : Option Value → Hp → Prop) (l0 : Option Value) (x : Int32), Wp 142 80 (l0 :: some (.int x) :: ls) (st) h Q ↔ Wp 142 81 (l0 :: some (.int x) :: ls) (.int x :: st) h Q) ∧
  (∀ (ls : Lo) (st : List Value) (n sl : Nat) (C Z : Nat → Nat) (I : Nat → Nat → Int32) (L : Nat → Nat → Int64) (R : Nat → Nat → Nat) (Q : Option Value → Hp → Prop) (i : Nat) (y : Int32), Wp 142 81 (ls) (.int y :: .ref i :: st) (n, sl, C, Z, I, L, R) Q ↔ ((inb y (Z i) = true ∧ C i = 21) ∧ Wp 142 82 (ls) (.int (I i (ix y)) :: st) (n, sl, C, Z, I, L, R) Q)) ∧
  (∀ (ls : Lo) (st : List Value) (h : Hp) (Q : Option Value → Hp → Prop), Wp 142 82 (ls) (st) h Q ↔ Wp 142 83 (ls) (.int (1) :: st) h Q) ∧
  (∀ (ls : Lo) (st : List Value) (h : Hp) (Q : Option Value → Hp → Prop) (x y : Int32), Wp 142 83 (ls) (.int y :: .int x :: st) h Q ↔ Br 142 91 86 ls st h Q (¬ x = y)) ∧
  (∀ (ls : Lo) (st : List Value) (h : Hp) (Q : Option Value → Hp → Prop) (l0 l1 l2 : Option Value) (a : Int64), Wp 142 86 (l0 :: l1 :: l2 :: some (.long a) :: ls) (st) h Q ↔ Wp 142 87 (l0 :: l1 :: l2 :: some (.long a) :: ls) (.long a :: st) h Q) ∧
  (∀ (ls : Lo) (st : List Value) (h : Hp) (Q : Option Value → Hp → Prop) (a : Int64), Wp 142 87 (ls) (.long a :: st) h Q ↔ Wp 142 88 (ls) (.long (-a) :: st) h Q) ∧
  (∀ (ls : Lo) (st : List Value) (h : Hp) (Q : Option Value → Hp → Prop), Wp 142 88 (ls) (st) h Q ↔ Wp 142 95 (ls) (st) h Q) ∧
  (∀ (ls : Lo) (st : List Value) (h : Hp) (Q : Option Value → Hp → Prop) (l0 l1 l2 : Option Value) (a : Int64), Wp 142 91 (l0 :: l1 :: l2 :: some (.long a) :: ls) (st) h Q ↔ Wp 142 92 (l0 :: l1 :: l2 :: some (.long a) :: ls) (.long a :: st) h Q) ∧
  (∀ (ls : Lo) (st : List Value) (h : Hp) (Q : Option Value → Hp → Prop) (a : Int64), Wp 142 92 (ls) (.long a :: st) h Q ↔ Wp 142 93 (ls) (.long (-a) :: st) h Q) ∧
  (∀ (ls : Lo) (st : List Value) (h : Hp) (Q : Option Value → Hp → Prop) (l0 l1 l2 : Option Value) (a : Int64), Wp 142 93 (l0 :: l1 :: l2 :: some (.long a) :: ls) (st) h Q ↔ Wp 142 94 (l0 :: l1 :: l2 :: some (.long a) :: ls) (.long a :: st) h Q) ∧
  (∀ (ls : Lo) (st : List Value) (h : Hp) (Q : Option Value → Hp → Prop) (a b : Int64), Wp 142 94 (ls) (.long b :: .long a :: st) h Q ↔ Wp 142 95 (ls) (.long (a * b) :: st) h Q) ∧
  (∀ (ls : Lo) (st : List Value) (n sl : Nat) (C Z : Nat → Nat) (I : Nat → Nat → Int32) (L : Nat → Nat → Int64) (R : Nat → Nat → Nat) (Q : Option Value → Hp → Prop) (i : Nat) (y : Int32) (a : Int64), Wp 142 95 (ls) (.long a :: .int y :: .ref i :: st) (n, sl, C, Z, I, L, R) Q ↔ ((inb y (Z i) = true ∧ C i = 22) ∧ Wp 142 96 (ls) (st) (n, sl, C, Z, I, u2 L i (ix y) a, R) Q)) ∧
  (∀ (ls : Lo) (st : List Value) (h : Hp) (Q : Option Value → Hp → Prop), Wp 142 96 (ls) (st) h Q ↔ Wp 142 97 (ls) (.int (1) :: st) h Q) ∧
  (∀ (ls : Lo) (h : Hp) (Q : Option Value → Hp → Prop) (x : Int32), Wp 142 97 (ls) ([.int x]) h Q ↔ Q (some (.int x)) h) ∧
  (∀ (ls : Lo) (st : List Value) (h : Hp) (Q : Option Value → Hp → Prop) (l0 l1 : Option Value) (x : Int32), Wp 142 98 (l0 :: l1 :: some (.int x) :: ls) (st) h Q ↔ Wp 142 99 (l0 :: l1 :: some (.int x) :: ls) (.int x :: st) h Q) ∧
  (∀ (ls : Lo) (st : List Value) (h : Hp) (Q : Option Value → Hp → Prop) (x : Int32), Wp 142 99 (ls) (.int x :: st) h Q ↔ Br 142 104 102 ls st h Q (¬ x = 0)) ∧
  (∀ (ls : Lo) (st : List Value) (h : Hp) (Q : Option Value → Hp → Prop), Wp 142 102 (ls) (st) h Q ↔ Wp 142 103 (ls) (.int (0) :: st) h Q) ∧
  (∀ (ls : Lo) (h : Hp) (Q : Option Value → Hp → Prop) (x : Int32), Wp 142 103 (ls) ([.int x]) h Q ↔ Q (some (.int x)) h) ∧
  (∀ (ls : Lo) (st : List Value) (h : Hp) (Q : Option Value → Hp → Prop), Wp 142 104 (ls) (st) h Q ↔ Wp 142 105 (ls) (.int (0) :: st) h Q) ∧
  (∀ (ls : Lo) (st : List Value) (h : Hp) (Q : Option Value → Hp → Prop) (l0 l1 l2 l3 l4 l5 : Option Value) (x : Int32), Wp 142 105 (l0 :: l1 :: l2 :: l3 :: l4 :: l5 :: ls) (.int x :: st) h Q ↔ Wp 142 107 (l0 :: l1 :: l2 :: l3 :: clr l4 :: some (.int x) :: ls) (st) h Q) ∧
  (∀ (ls : Lo) (st : List Value) (h : Hp) (Q : Option Value → Hp → Prop) (l0 l1 l2 l3 l4 : Option Value) (x : Int32), Wp 142 107 (l0 :: l1 :: l2 :: l3 :: l4 :: some (.int x) :: ls) (st) h Q ↔ Wp 142 109 (l0 :: l1 :: l2 :: l3 :: l4 :: some (.int x) :: ls) (.int x :: st) h Q) ∧
  (∀ (ls : Lo) (st : List Value) (h : Hp) (Q : Option Value → Hp → Prop), Wp 142 109 (ls) (st) h Q ↔ Wp 142 110 (ls) (.int (3) :: st) h Q) ∧
  (∀ (ls : Lo) (st : List Value) (h : Hp) (Q : Option Value → Hp → Prop) (x y : Int32), Wp 142 110 (ls) (.int y :: .int x :: st) h Q ↔ Br 142 419 113 ls st h Q (y ≤ x)) := ⟨by intro ls st h Q i; exact e_aload_n d142_76 rfl,
  by intro ls st n sl C Z I L R Q i; exact e_get (g := 10) (s := 1) (ty := 2) d142_77 rfl rfl (inG_ne (by decide)),
  by intro ls st h Q l0 x; exact e_iload_n d142_80 rfl,
  by intro ls st n sl C Z I L R Q i y; exact e_iald d142_81,
  by intro ls st h Q; exact e_iconst d142_82 rfl,
  by intro ls st h Q x y; exact e_ic d142_83 (by decide) c_ne,
  by intro ls st h Q l0 l1 l2 a; exact e_lload_n d142_86 rfl,
  by intro ls st h Q a; exact e_lneg d142_87,
  by intro ls st h Q; exact e_goto d142_88 (by decide),
  by intro ls st h Q l0 l1 l2 a; exact e_lload_n d142_91 rfl,
  by intro ls st h Q a; exact e_lneg d142_92,
  by intro ls st h Q l0 l1 l2 a; exact e_lload_n d142_93 rfl,
  by intro ls st h Q a b; exact e_lmul d142_94,
  by intro ls st n sl C Z I L R Q i y a; exact e_last d142_95,
  by intro ls st h Q; exact e_iconst d142_96 rfl,
  by intros; exact e_rI (p := True) d142_97 rfl,
  by intro ls st h Q l0 l1 x; exact e_iload_n d142_98 rfl,
  by intro ls st h Q x; exact e_if d142_99 (by decide) c_ne,
  by intro ls st h Q; exact e_iconst d142_102 rfl,
  by intros; exact e_rI (p := True) d142_103 rfl,
  by intro ls st h Q; exact e_iconst d142_104 rfl,
  by intro ls st h Q l0 l1 l2 l3 l4 l5 x; exact e_istore d142_105 rfl,
  by intro ls st h Q l0 l1 l2 l3 l4 x; exact e_iload d142_107 rfl,
  by intro ls st h Q; exact e_iconst d142_109 rfl,
  by intro ls st h Q x y; exact e_ic d142_110 (by decide) c_ge⟩
set_option maxRecDepth 20000 in
theorem S142_3 : (∀ (ls : Lo) (st : List Value) (h : Hp) (Q : Option Value → Hp → Prop) (l0 l1 l2 l3 l4 : Option Value) (x : Int32), Wp 142 113 (l0 :: l1 :: l2 :: l3 :: l4 :: some (.int x) :: ls) (st) h Q ↔ Wp 142 115 (l0 :: l1 :: l2 :: l3 :: l4 :: some (.int x) :: ls) (.int x :: st) h Q) ∧
  (∀ (ls : Lo) (st : List Value) (h : Hp) (Q : Option Value → Hp → Prop), Wp 142 115 (ls) (st) h Q ↔ Wp 142 116 (ls) (.int (2) :: st) h Q) ∧
  (∀ (ls : Lo) (st : List Value) (h : Hp) (Q : Option Value → Hp → Prop) (x y : Int32), Wp 142 116 (ls) (.int y :: .int x :: st) h Q ↔ Br 142 123 119 ls st h Q (¬ x = y)) ∧
  (∀ (ls : Lo) (st : List Value) (h : Hp) (Q : Option Value → Hp → Prop), Wp 142 119 (ls) (st) h Q ↔ Wp 142 120 (ls) (.int (1) :: st) h Q) ∧
  (∀ (ls : Lo) (st : List Value) (h : Hp) (Q : Option Value → Hp → Prop), Wp 142 120 (ls) (st) h Q ↔ Wp 142 124 (ls) (st) h Q) ∧
  (∀ (ls : Lo) (st : List Value) (h : Hp) (Q : Option Value → Hp → Prop), Wp 142 123 (ls) (st) h Q ↔ Wp 142 124 (ls) (.int (0) :: st) h Q) ∧
  (∀ (ls : Lo) (st : List Value) (h : Hp) (Q : Option Value → Hp → Prop) (l0 l1 l2 l3 l4 l5 l6 : Option Value) (x : Int32), Wp 142 124 (l0 :: l1 :: l2 :: l3 :: l4 :: l5 :: l6 :: ls) (.int x :: st) h Q ↔ Wp 142 126 (l0 :: l1 :: l2 :: l3 :: l4 :: clr l5 :: some (.int x) :: ls) (st) h Q) ∧
  (∀ (ls : Lo) (st : List Value) (h : Hp) (Q : Option Value → Hp → Prop) (l0 l1 l2 l3 l4 : Option Value) (x : Int32), Wp 142 126 (l0 :: l1 :: l2 :: l3 :: l4 :: some (.int x) :: ls) (st) h Q ↔ Wp 142 128 (l0 :: l1 :: l2 :: l3 :: l4 :: some (.int x) :: ls) (.int x :: st) h Q) ∧
  (∀ (ls : Lo) (st : List Value) (h : Hp) (Q : Option Value → Hp → Prop) (x : Int32), Wp 142 128 (ls) (.int x :: st) h Q ↔ Br 142 135 131 ls st h Q (¬ x = 0)) ∧
  (∀ (ls : Lo) (st : List Value) (h : Hp) (Q : Option Value → Hp → Prop), Wp 142 131 (ls) (st) h Q ↔ Wp 142 132 (ls) (.int (0) :: st) h Q) ∧
  (∀ (ls : Lo) (st : List Value) (h : Hp) (Q : Option Value → Hp → Prop), Wp 142 132 (ls) (st) h Q ↔ Wp 142 136 (ls) (st) h Q) ∧
  (∀ (ls : Lo) (st : List Value) (h : Hp) (Q : Option Value → Hp → Prop), Wp 142 135 (ls) (st) h Q ↔ Wp 142 136 (ls) (.int (1) :: st) h Q) ∧
  (∀ (ls : Lo) (st : List Value) (h : Hp) (Q : Option Value → Hp → Prop) (l0 l1 l2 l3 l4 l5 l6 l7 : Option Value) (x : Int32), Wp 142 136 (l0 :: l1 :: l2 :: l3 :: l4 :: l5 :: l6 :: l7 :: ls) (.int x :: st) h Q ↔ Wp 142 138 (l0 :: l1 :: l2 :: l3 :: l4 :: l5 :: clr l6 :: some (.int x) :: ls) (st) h Q) ∧
  (∀ (ls : Lo) (st : List Value) (h : Hp) (Q : Option Value → Hp → Prop)  (i : Nat), Wp 142 138 (some (.ref i) :: ls) (st) h Q ↔ Wp 142 139 (some (.ref i) :: ls) (.ref i :: st) h Q) ∧
  (∀ (ls : Lo) (st : List Value) (h : Hp) (Q : Option Value → Hp → Prop) (l0 : Option Value) (x : Int32), Wp 142 139 (l0 :: some (.int x) :: ls) (st) h Q ↔ Wp 142 140 (l0 :: some (.int x) :: ls) (.int x :: st) h Q) ∧
  (∀ (ls : Lo) (st : List Value) (h : Hp) (Q : Option Value → Hp → Prop), Wp 142 140 (ls) (st) h Q ↔ Wp 142 141 (ls) (.int (0) :: st) h Q) ∧
  (∀ (ls : Lo) (st : List Value) (h : Hp) (Q : Option Value → Hp → Prop) (l0 l1 l2 l3 l4 l5 : Option Value) (x : Int32), Wp 142 141 (l0 :: l1 :: l2 :: l3 :: l4 :: l5 :: some (.int x) :: ls) (st) h Q ↔ Wp 142 143 (l0 :: l1 :: l2 :: l3 :: l4 :: l5 :: some (.int x) :: ls) (.int x :: st) h Q) ∧
  (∀ (ls : Lo) (st : List Value) (n sl : Nat) (C Z : Nat → Nat) (I : Nat → Nat → Int32) (L : Nat → Nat → Int64) (R : Nat → Nat → Nat) (Q : Option Value → Hp → Prop) (x0 : Int32) (x1 : Int32) (x2 : Int32) (i : Nat), C i = 11 → (Wp 142 143 (ls) (.int x2 :: .int x1 :: .int x0 :: .ref i :: st) (n, sl, C, Z, I, L, R) Q ↔ (wsum st ≤ 8 ∧ Call 104 [some (.ref i), some (.int x0), some (.int x1), some (.int x2)] (n, sl, C, Z, I, L, R) 142 146 ls st Q))) ∧
  (∀ (ls : Lo) (st : List Value) (h : Hp) (Q : Option Value → Hp → Prop) (x : Int32), Wp 142 146 (ls) (.int x :: st) h Q ↔ Wp 142 147 (ls) (.long x.toInt64 :: st) h Q) ∧
  (∀ (ls : Lo) (st : List Value) (h : Hp) (Q : Option Value → Hp → Prop) (l0 l1 l2 l3 l4 l5 l6 l7 l8 l9 : Option Value) (a : Int64), Wp 142 147 (l0 :: l1 :: l2 :: l3 :: l4 :: l5 :: l6 :: l7 :: l8 :: l9 :: ls) (.long a :: st) h Q ↔ Wp 142 149 (l0 :: l1 :: l2 :: l3 :: l4 :: l5 :: l6 :: clr l7 :: some (.long a) :: none :: ls) (st) h Q) ∧
  (∀ (ls : Lo) (st : List Value) (h : Hp) (Q : Option Value → Hp → Prop)  (i : Nat), Wp 142 149 (some (.ref i) :: ls) (st) h Q ↔ Wp 142 150 (some (.ref i) :: ls) (.ref i :: st) h Q) ∧
  (∀ (ls : Lo) (st : List Value) (h : Hp) (Q : Option Value → Hp → Prop) (l0 : Option Value) (x : Int32), Wp 142 150 (l0 :: some (.int x) :: ls) (st) h Q ↔ Wp 142 151 (l0 :: some (.int x) :: ls) (.int x :: st) h Q) ∧
  (∀ (ls : Lo) (st : List Value) (h : Hp) (Q : Option Value → Hp → Prop), Wp 142 151 (ls) (st) h Q ↔ Wp 142 152 (ls) (.int (1) :: st) h Q) ∧
  (∀ (ls : Lo) (st : List Value) (h : Hp) (Q : Option Value → Hp → Prop) (l0 l1 l2 l3 l4 l5 : Option Value) (x : Int32), Wp 142 152 (l0 :: l1 :: l2 :: l3 :: l4 :: l5 :: some (.int x) :: ls) (st) h Q ↔ Wp 142 154 (l0 :: l1 :: l2 :: l3 :: l4 :: l5 :: some (.int x) :: ls) (.int x :: st) h Q) ∧
  (∀ (ls : Lo) (st : List Value) (n sl : Nat) (C Z : Nat → Nat) (I : Nat → Nat → Int32) (L : Nat → Nat → Int64) (R : Nat → Nat → Nat) (Q : Option Value → Hp → Prop) (x0 : Int32) (x1 : Int32) (x2 : Int32) (i : Nat), C i = 11 → (Wp 142 154 (ls) (.int x2 :: .int x1 :: .int x0 :: .ref i :: st) (n, sl, C, Z, I, L, R) Q ↔ (wsum st ≤ 8 ∧ Call 104 [some (.ref i), some (.int x0), some (.int x1), some (.int x2)] (n, sl, C, Z, I, L, R) 142 157 ls st Q))) := ⟨by intro ls st h Q l0 l1 l2 l3 l4 x; exact e_iload d142_113 rfl,
  by intro ls st h Q; exact e_iconst d142_115 rfl,
  by intro ls st h Q x y; exact e_ic d142_116 (by decide) c_ne,
  by intro ls st h Q; exact e_iconst d142_119 rfl,
  by intro ls st h Q; exact e_goto d142_120 (by decide),
  by intro ls st h Q; exact e_iconst d142_123 rfl,
  by intro ls st h Q l0 l1 l2 l3 l4 l5 l6 x; exact e_istore d142_124 rfl,
  by intro ls st h Q l0 l1 l2 l3 l4 x; exact e_iload d142_126 rfl,
  by intro ls st h Q x; exact e_if d142_128 (by decide) c_ne,
  by intro ls st h Q; exact e_iconst d142_131 rfl,
  by intro ls st h Q; exact e_goto d142_132 (by decide),
  by intro ls st h Q; exact e_iconst d142_135 rfl,
  by intro ls st h Q l0 l1 l2 l3 l4 l5 l6 l7 x; exact e_istore d142_136 rfl,
  by intro ls st h Q i; exact e_aload_n d142_138 rfl,
  by intro ls st h Q l0 x; exact e_iload_n d142_139 rfl,
  by intro ls st h Q; exact e_iconst d142_140 rfl,
  by intro ls st h Q l0 l1 l2 l3 l4 l5 x; exact e_iload d142_141 rfl,
  by intro ls st n sl C Z I L R Q x0 x1 x2 i hh; exact e_iv (k2 := 104) (c := 11) (as := [.int x0, .int x1, .int x2]) d142_143 rfl (by decide) rfl rfl (by decide +kernel) (Nat.le_of_ble_eq_true rfl) rfl hh,
  by intro ls st h Q x; exact e_i2l d142_146,
  by intro ls st h Q l0 l1 l2 l3 l4 l5 l6 l7 l8 l9 a; exact e_lstore d142_147 rfl,
  by intro ls st h Q i; exact e_aload_n d142_149 rfl,
  by intro ls st h Q l0 x; exact e_iload_n d142_150 rfl,
  by intro ls st h Q; exact e_iconst d142_151 rfl,
  by intro ls st h Q l0 l1 l2 l3 l4 l5 x; exact e_iload d142_152 rfl,
  by intro ls st n sl C Z I L R Q x0 x1 x2 i hh; exact e_iv (k2 := 104) (c := 11) (as := [.int x0, .int x1, .int x2]) d142_154 rfl (by decide) rfl rfl (by decide +kernel) (Nat.le_of_ble_eq_true rfl) rfl hh⟩
set_option maxRecDepth 20000 in
theorem S142_4 : (∀ (ls : Lo) (st : List Value) (h : Hp) (Q : Option Value → Hp → Prop) (x : Int32), Wp 142 157 (ls) (.int x :: st) h Q ↔ Wp 142 158 (ls) (.long x.toInt64 :: st) h Q) ∧
  (∀ (ls : Lo) (st : List Value) (h : Hp) (Q : Option Value → Hp → Prop) (l0 l1 l2 l3 l4 l5 l6 l7 l8 l9 l10 l11 : Option Value) (a : Int64), Wp 142 158 (l0 :: l1 :: l2 :: l3 :: l4 :: l5 :: l6 :: l7 :: l8 :: l9 :: l10 :: l11 :: ls) (.long a :: st) h Q ↔ Wp 142 160 (l0 :: l1 :: l2 :: l3 :: l4 :: l5 :: l6 :: l7 :: l8 :: clr l9 :: some (.long a) :: none :: ls) (st) h Q) ∧
  (∀ (ls : Lo) (st : List Value) (h : Hp) (Q : Option Value → Hp → Prop)  (i : Nat), Wp 142 160 (some (.ref i) :: ls) (st) h Q ↔ Wp 142 161 (some (.ref i) :: ls) (.ref i :: st) h Q) ∧
  (∀ (ls : Lo) (st : List Value) (h : Hp) (Q : Option Value → Hp → Prop) (l0 : Option Value) (x : Int32), Wp 142 161 (l0 :: some (.int x) :: ls) (st) h Q ↔ Wp 142 162 (l0 :: some (.int x) :: ls) (.int x :: st) h Q) ∧
  (∀ (ls : Lo) (st : List Value) (h : Hp) (Q : Option Value → Hp → Prop), Wp 142 162 (ls) (st) h Q ↔ Wp 142 163 (ls) (.int (0) :: st) h Q) ∧
  (∀ (ls : Lo) (st : List Value) (h : Hp) (Q : Option Value → Hp → Prop) (l0 l1 l2 l3 l4 l5 l6 : Option Value) (x : Int32), Wp 142 163 (l0 :: l1 :: l2 :: l3 :: l4 :: l5 :: l6 :: some (.int x) :: ls) (st) h Q ↔ Wp 142 165 (l0 :: l1 :: l2 :: l3 :: l4 :: l5 :: l6 :: some (.int x) :: ls) (.int x :: st) h Q) ∧
  (∀ (ls : Lo) (st : List Value) (n sl : Nat) (C Z : Nat → Nat) (I : Nat → Nat → Int32) (L : Nat → Nat → Int64) (R : Nat → Nat → Nat) (Q : Option Value → Hp → Prop) (x0 : Int32) (x1 : Int32) (x2 : Int32) (i : Nat), C i = 11 → (Wp 142 165 (ls) (.int x2 :: .int x1 :: .int x0 :: .ref i :: st) (n, sl, C, Z, I, L, R) Q ↔ (wsum st ≤ 8 ∧ Call 104 [some (.ref i), some (.int x0), some (.int x1), some (.int x2)] (n, sl, C, Z, I, L, R) 142 168 ls st Q))) ∧
  (∀ (ls : Lo) (st : List Value) (h : Hp) (Q : Option Value → Hp → Prop) (x : Int32), Wp 142 168 (ls) (.int x :: st) h Q ↔ Wp 142 169 (ls) (.long x.toInt64 :: st) h Q) ∧
  (∀ (ls : Lo) (st : List Value) (h : Hp) (Q : Option Value → Hp → Prop) (l0 l1 l2 l3 l4 l5 l6 l7 l8 l9 l10 l11 l12 l13 : Option Value) (a : Int64), Wp 142 169 (l0 :: l1 :: l2 :: l3 :: l4 :: l5 :: l6 :: l7 :: l8 :: l9 :: l10 :: l11 :: l12 :: l13 :: ls) (.long a :: st) h Q ↔ Wp 142 171 (l0 :: l1 :: l2 :: l3 :: l4 :: l5 :: l6 :: l7 :: l8 :: l9 :: l10 :: clr l11 :: some (.long a) :: none :: ls) (st) h Q) ∧
  (∀ (ls : Lo) (st : List Value) (h : Hp) (Q : Option Value → Hp → Prop)  (i : Nat), Wp 142 171 (some (.ref i) :: ls) (st) h Q ↔ Wp 142 172 (some (.ref i) :: ls) (.ref i :: st) h Q) ∧
  (∀ (ls : Lo) (st : List Value) (h : Hp) (Q : Option Value → Hp → Prop) (l0 : Option Value) (x : Int32), Wp 142 172 (l0 :: some (.int x) :: ls) (st) h Q ↔ Wp 142 173 (l0 :: some (.int x) :: ls) (.int x :: st) h Q) ∧
  (∀ (ls : Lo) (st : List Value) (h : Hp) (Q : Option Value → Hp → Prop), Wp 142 173 (ls) (st) h Q ↔ Wp 142 174 (ls) (.int (1) :: st) h Q) ∧
  (∀ (ls : Lo) (st : List Value) (h : Hp) (Q : Option Value → Hp → Prop) (l0 l1 l2 l3 l4 l5 l6 : Option Value) (x : Int32), Wp 142 174 (l0 :: l1 :: l2 :: l3 :: l4 :: l5 :: l6 :: some (.int x) :: ls) (st) h Q ↔ Wp 142 176 (l0 :: l1 :: l2 :: l3 :: l4 :: l5 :: l6 :: some (.int x) :: ls) (.int x :: st) h Q) ∧
  (∀ (ls : Lo) (st : List Value) (n sl : Nat) (C Z : Nat → Nat) (I : Nat → Nat → Int32) (L : Nat → Nat → Int64) (R : Nat → Nat → Nat) (Q : Option Value → Hp → Prop) (x0 : Int32) (x1 : Int32) (x2 : Int32) (i : Nat), C i = 11 → (Wp 142 176 (ls) (.int x2 :: .int x1 :: .int x0 :: .ref i :: st) (n, sl, C, Z, I, L, R) Q ↔ (wsum st ≤ 8 ∧ Call 104 [some (.ref i), some (.int x0), some (.int x1), some (.int x2)] (n, sl, C, Z, I, L, R) 142 179 ls st Q))) ∧
  (∀ (ls : Lo) (st : List Value) (h : Hp) (Q : Option Value → Hp → Prop) (x : Int32), Wp 142 179 (ls) (.int x :: st) h Q ↔ Wp 142 180 (ls) (.long x.toInt64 :: st) h Q) ∧
  (∀ (ls : Lo) (st : List Value) (h : Hp) (Q : Option Value → Hp → Prop) (l0 l1 l2 l3 l4 l5 l6 l7 l8 l9 l10 l11 l12 l13 l14 l15 : Option Value) (a : Int64), Wp 142 180 (l0 :: l1 :: l2 :: l3 :: l4 :: l5 :: l6 :: l7 :: l8 :: l9 :: l10 :: l11 :: l12 :: l13 :: l14 :: l15 :: ls) (.long a :: st) h Q ↔ Wp 142 182 (l0 :: l1 :: l2 :: l3 :: l4 :: l5 :: l6 :: l7 :: l8 :: l9 :: l10 :: l11 :: l12 :: clr l13 :: some (.long a) :: none :: ls) (st) h Q) ∧
  (∀ (ls : Lo) (st : List Value) (h : Hp) (Q : Option Value → Hp → Prop)  (i : Nat), Wp 142 182 (some (.ref i) :: ls) (st) h Q ↔ Wp 142 183 (some (.ref i) :: ls) (.ref i :: st) h Q) ∧
  (∀ (ls : Lo) (st : List Value) (n sl : Nat) (C Z : Nat → Nat) (I : Nat → Nat → Int32) (L : Nat → Nat → Int64) (R : Nat → Nat → Nat) (Q : Option Value → Hp → Prop) (i : Nat), Wp 142 183 (ls) (.ref i :: st) (n, sl, C, Z, I, L, R) Q ↔ (C i = 11 ∧ Wp 142 186 (ls) (.ref (R i 1) :: st) (n, sl, C, Z, I, L, R) Q)) ∧
  (∀ (ls : Lo) (st : List Value) (h : Hp) (Q : Option Value → Hp → Prop) (l0 : Option Value) (x : Int32), Wp 142 186 (l0 :: some (.int x) :: ls) (st) h Q ↔ Wp 142 187 (l0 :: some (.int x) :: ls) (.int x :: st) h Q) ∧
  (∀ (ls : Lo) (st : List Value) (n sl : Nat) (C Z : Nat → Nat) (I : Nat → Nat → Int32) (L : Nat → Nat → Int64) (R : Nat → Nat → Nat) (Q : Option Value → Hp → Prop) (i : Nat) (y : Int32), Wp 142 187 (ls) (.int y :: .ref i :: st) (n, sl, C, Z, I, L, R) Q ↔ ((inb y (Z i) = true ∧ C i = 21) ∧ Wp 142 188 (ls) (.int (I i (ix y)) :: st) (n, sl, C, Z, I, L, R) Q)) ∧
  (∀ (ls : Lo) (st : List Value) (h : Hp) (Q : Option Value → Hp → Prop), Wp 142 188 (ls) (st) h Q ↔ Wp 142 189 (ls) (.int (1) :: st) h Q) ∧
  (∀ (ls : Lo) (st : List Value) (h : Hp) (Q : Option Value → Hp → Prop) (x y : Int32), Wp 142 189 (ls) (.int y :: .int x :: st) h Q ↔ Br 142 287 192 ls st h Q (x = y)) ∧
  (∀ (ls : Lo) (st : List Value) (h : Hp) (Q : Option Value → Hp → Prop)  (i : Nat), Wp 142 192 (some (.ref i) :: ls) (st) h Q ↔ Wp 142 193 (some (.ref i) :: ls) (.ref i :: st) h Q) ∧
  (∀ (ls : Lo) (st : List Value) (n sl : Nat) (C Z : Nat → Nat) (I : Nat → Nat → Int32) (L : Nat → Nat → Int64) (R : Nat → Nat → Nat) (Q : Option Value → Hp → Prop) (i : Nat), Wp 142 193 (ls) (.ref i :: st) (n, sl, C, Z, I, L, R) Q ↔ (C i = 11 ∧ Wp 142 196 (ls) (.ref (R i 24) :: st) (n, sl, C, Z, I, L, R) Q)) ∧
  (∀ (ls : Lo) (st : List Value) (h : Hp) (Q : Option Value → Hp → Prop), Wp 142 196 (ls) (st) h Q ↔ Wp 142 197 (ls) (.int (3) :: st) h Q) := ⟨by intro ls st h Q x; exact e_i2l d142_157,
  by intro ls st h Q l0 l1 l2 l3 l4 l5 l6 l7 l8 l9 l10 l11 a; exact e_lstore d142_158 rfl,
  by intro ls st h Q i; exact e_aload_n d142_160 rfl,
  by intro ls st h Q l0 x; exact e_iload_n d142_161 rfl,
  by intro ls st h Q; exact e_iconst d142_162 rfl,
  by intro ls st h Q l0 l1 l2 l3 l4 l5 l6 x; exact e_iload d142_163 rfl,
  by intro ls st n sl C Z I L R Q x0 x1 x2 i hh; exact e_iv (k2 := 104) (c := 11) (as := [.int x0, .int x1, .int x2]) d142_165 rfl (by decide) rfl rfl (by decide +kernel) (Nat.le_of_ble_eq_true rfl) rfl hh,
  by intro ls st h Q x; exact e_i2l d142_168,
  by intro ls st h Q l0 l1 l2 l3 l4 l5 l6 l7 l8 l9 l10 l11 l12 l13 a; exact e_lstore d142_169 rfl,
  by intro ls st h Q i; exact e_aload_n d142_171 rfl,
  by intro ls st h Q l0 x; exact e_iload_n d142_172 rfl,
  by intro ls st h Q; exact e_iconst d142_173 rfl,
  by intro ls st h Q l0 l1 l2 l3 l4 l5 l6 x; exact e_iload d142_174 rfl,
  by intro ls st n sl C Z I L R Q x0 x1 x2 i hh; exact e_iv (k2 := 104) (c := 11) (as := [.int x0, .int x1, .int x2]) d142_176 rfl (by decide) rfl rfl (by decide +kernel) (Nat.le_of_ble_eq_true rfl) rfl hh,
  by intro ls st h Q x; exact e_i2l d142_179,
  by intro ls st h Q l0 l1 l2 l3 l4 l5 l6 l7 l8 l9 l10 l11 l12 l13 l14 l15 a; exact e_lstore d142_180 rfl,
  by intro ls st h Q i; exact e_aload_n d142_182 rfl,
  by intro ls st n sl C Z I L R Q i; exact e_get (g := 10) (s := 1) (ty := 2) d142_183 rfl rfl (inG_ne (by decide)),
  by intro ls st h Q l0 x; exact e_iload_n d142_186 rfl,
  by intro ls st n sl C Z I L R Q i y; exact e_iald d142_187,
  by intro ls st h Q; exact e_iconst d142_188 rfl,
  by intro ls st h Q x y; exact e_ic d142_189 (by decide) c_eq,
  by intro ls st h Q i; exact e_aload_n d142_192 rfl,
  by intro ls st n sl C Z I L R Q i; exact e_get (g := 10) (s := 24) (ty := 2) d142_193 rfl rfl (inG_ne (by decide)),
  by intro ls st h Q; exact e_iconst d142_196 rfl⟩
set_option maxRecDepth 20000 in
theorem S142_5 : (∀ (ls : Lo) (st : List Value) (h : Hp) (Q : Option Value → Hp → Prop) (l0 l1 l2 l3 l4 : Option Value) (x : Int32), Wp 142 197 (l0 :: l1 :: l2 :: l3 :: l4 :: some (.int x) :: ls) (st) h Q ↔ Wp 142 199 (l0 :: l1 :: l2 :: l3 :: l4 :: some (.int x) :: ls) (.int x :: st) h Q) ∧
  (∀ (ls : Lo) (st : List Value) (h : Hp) (Q : Option Value → Hp → Prop) (x y : Int32), Wp 142 199 (ls) (.int y :: .int x :: st) h Q ↔ Wp 142 200 (ls) (.int (x * y) :: st) h Q) ∧
  (∀ (ls : Lo) (st : List Value) (h : Hp) (Q : Option Value → Hp → Prop) (l0 l1 l2 l3 l4 l5 l6 l7 : Option Value) (a : Int64), Wp 142 200 (l0 :: l1 :: l2 :: l3 :: l4 :: l5 :: l6 :: l7 :: some (.long a) :: ls) (st) h Q ↔ Wp 142 202 (l0 :: l1 :: l2 :: l3 :: l4 :: l5 :: l6 :: l7 :: some (.long a) :: ls) (.long a :: st) h Q) ∧
  (∀ (ls : Lo) (st : List Value) (h : Hp) (Q : Option Value → Hp → Prop) (l0 l1 l2 l3 l4 l5 l6 l7 l8 l9 l10 l11 : Option Value) (a : Int64), Wp 142 202 (l0 :: l1 :: l2 :: l3 :: l4 :: l5 :: l6 :: l7 :: l8 :: l9 :: l10 :: l11 :: some (.long a) :: ls) (st) h Q ↔ Wp 142 204 (l0 :: l1 :: l2 :: l3 :: l4 :: l5 :: l6 :: l7 :: l8 :: l9 :: l10 :: l11 :: some (.long a) :: ls) (.long a :: st) h Q) ∧
  (∀ (ls : Lo) (st : List Value) (h : Hp) (Q : Option Value → Hp → Prop) (a b : Int64), Wp 142 204 (ls) (.long b :: .long a :: st) h Q ↔ Wp 142 205 (ls) (.long (a * b) :: st) h Q) ∧
  (∀ (ls : Lo) (st : List Value) (n sl : Nat) (C Z : Nat → Nat) (I : Nat → Nat → Int32) (L : Nat → Nat → Int64) (R : Nat → Nat → Nat) (Q : Option Value → Hp → Prop) (i : Nat) (y : Int32) (a : Int64), Wp 142 205 (ls) (.long a :: .int y :: .ref i :: st) (n, sl, C, Z, I, L, R) Q ↔ ((inb y (Z i) = true ∧ C i = 22) ∧ Wp 142 206 (ls) (st) (n, sl, C, Z, I, u2 L i (ix y) a, R) Q)) ∧
  (∀ (ls : Lo) (st : List Value) (h : Hp) (Q : Option Value → Hp → Prop)  (i : Nat), Wp 142 206 (some (.ref i) :: ls) (st) h Q ↔ Wp 142 207 (some (.ref i) :: ls) (.ref i :: st) h Q) ∧
  (∀ (ls : Lo) (st : List Value) (n sl : Nat) (C Z : Nat → Nat) (I : Nat → Nat → Int32) (L : Nat → Nat → Int64) (R : Nat → Nat → Nat) (Q : Option Value → Hp → Prop) (i : Nat), Wp 142 207 (ls) (.ref i :: st) (n, sl, C, Z, I, L, R) Q ↔ (C i = 11 ∧ Wp 142 210 (ls) (.ref (R i 24) :: st) (n, sl, C, Z, I, L, R) Q)) ∧
  (∀ (ls : Lo) (st : List Value) (h : Hp) (Q : Option Value → Hp → Prop), Wp 142 210 (ls) (st) h Q ↔ Wp 142 211 (ls) (.int (3) :: st) h Q) ∧
  (∀ (ls : Lo) (st : List Value) (h : Hp) (Q : Option Value → Hp → Prop) (l0 l1 l2 l3 l4 : Option Value) (x : Int32), Wp 142 211 (l0 :: l1 :: l2 :: l3 :: l4 :: some (.int x) :: ls) (st) h Q ↔ Wp 142 213 (l0 :: l1 :: l2 :: l3 :: l4 :: some (.int x) :: ls) (.int x :: st) h Q) ∧
  (∀ (ls : Lo) (st : List Value) (h : Hp) (Q : Option Value → Hp → Prop) (x y : Int32), Wp 142 213 (ls) (.int y :: .int x :: st) h Q ↔ Wp 142 214 (ls) (.int (x * y) :: st) h Q) ∧
  (∀ (ls : Lo) (st : List Value) (h : Hp) (Q : Option Value → Hp → Prop), Wp 142 214 (ls) (st) h Q ↔ Wp 142 215 (ls) (.int (1) :: st) h Q) ∧
  (∀ (ls : Lo) (st : List Value) (h : Hp) (Q : Option Value → Hp → Prop) (x y : Int32), Wp 142 215 (ls) (.int y :: .int x :: st) h Q ↔ Wp 142 216 (ls) (.int (x + y) :: st) h Q) ∧
  (∀ (ls : Lo) (st : List Value) (h : Hp) (Q : Option Value → Hp → Prop) (l0 l1 l2 l3 l4 l5 l6 l7 : Option Value) (a : Int64), Wp 142 216 (l0 :: l1 :: l2 :: l3 :: l4 :: l5 :: l6 :: l7 :: some (.long a) :: ls) (st) h Q ↔ Wp 142 218 (l0 :: l1 :: l2 :: l3 :: l4 :: l5 :: l6 :: l7 :: some (.long a) :: ls) (.long a :: st) h Q) ∧
  (∀ (ls : Lo) (st : List Value) (h : Hp) (Q : Option Value → Hp → Prop) (l0 l1 l2 l3 l4 l5 l6 l7 l8 l9 l10 l11 l12 l13 : Option Value) (a : Int64), Wp 142 218 (l0 :: l1 :: l2 :: l3 :: l4 :: l5 :: l6 :: l7 :: l8 :: l9 :: l10 :: l11 :: l12 :: l13 :: some (.long a) :: ls) (st) h Q ↔ Wp 142 220 (l0 :: l1 :: l2 :: l3 :: l4 :: l5 :: l6 :: l7 :: l8 :: l9 :: l10 :: l11 :: l12 :: l13 :: some (.long a) :: ls) (.long a :: st) h Q) ∧
  (∀ (ls : Lo) (st : List Value) (h : Hp) (Q : Option Value → Hp → Prop) (a b : Int64), Wp 142 220 (ls) (.long b :: .long a :: st) h Q ↔ Wp 142 221 (ls) (.long (a * b) :: st) h Q) ∧
  (∀ (ls : Lo) (st : List Value) (h : Hp) (Q : Option Value → Hp → Prop) (l0 l1 l2 l3 l4 l5 l6 l7 l8 l9 : Option Value) (a : Int64), Wp 142 221 (l0 :: l1 :: l2 :: l3 :: l4 :: l5 :: l6 :: l7 :: l8 :: l9 :: some (.long a) :: ls) (st) h Q ↔ Wp 142 223 (l0 :: l1 :: l2 :: l3 :: l4 :: l5 :: l6 :: l7 :: l8 :: l9 :: some (.long a) :: ls) (.long a :: st) h Q) ∧
  (∀ (ls : Lo) (st : List Value) (h : Hp) (Q : Option Value → Hp → Prop) (l0 l1 l2 l3 l4 l5 l6 l7 l8 l9 l10 l11 : Option Value) (a : Int64), Wp 142 223 (l0 :: l1 :: l2 :: l3 :: l4 :: l5 :: l6 :: l7 :: l8 :: l9 :: l10 :: l11 :: some (.long a) :: ls) (st) h Q ↔ Wp 142 225 (l0 :: l1 :: l2 :: l3 :: l4 :: l5 :: l6 :: l7 :: l8 :: l9 :: l10 :: l11 :: some (.long a) :: ls) (.long a :: st) h Q) ∧
  (∀ (ls : Lo) (st : List Value) (h : Hp) (Q : Option Value → Hp → Prop) (a b : Int64), Wp 142 225 (ls) (.long b :: .long a :: st) h Q ↔ Wp 142 226 (ls) (.long (a * b) :: st) h Q) ∧
  (∀ (ls : Lo) (st : List Value) (h : Hp) (Q : Option Value → Hp → Prop) (a b : Int64), Wp 142 226 (ls) (.long b :: .long a :: st) h Q ↔ Wp 142 227 (ls) (.long (a + b) :: st) h Q) ∧
  (∀ (ls : Lo) (st : List Value) (n sl : Nat) (C Z : Nat → Nat) (I : Nat → Nat → Int32) (L : Nat → Nat → Int64) (R : Nat → Nat → Nat) (Q : Option Value → Hp → Prop) (i : Nat) (y : Int32) (a : Int64), Wp 142 227 (ls) (.long a :: .int y :: .ref i :: st) (n, sl, C, Z, I, L, R) Q ↔ ((inb y (Z i) = true ∧ C i = 22) ∧ Wp 142 228 (ls) (st) (n, sl, C, Z, I, u2 L i (ix y) a, R) Q)) ∧
  (∀ (ls : Lo) (st : List Value) (h : Hp) (Q : Option Value → Hp → Prop)  (i : Nat), Wp 142 228 (some (.ref i) :: ls) (st) h Q ↔ Wp 142 229 (some (.ref i) :: ls) (.ref i :: st) h Q) ∧
  (∀ (ls : Lo) (st : List Value) (n sl : Nat) (C Z : Nat → Nat) (I : Nat → Nat → Int32) (L : Nat → Nat → Int64) (R : Nat → Nat → Nat) (Q : Option Value → Hp → Prop) (i : Nat), Wp 142 229 (ls) (.ref i :: st) (n, sl, C, Z, I, L, R) Q ↔ (C i = 11 ∧ Wp 142 232 (ls) (.ref (R i 24) :: st) (n, sl, C, Z, I, L, R) Q)) ∧
  (∀ (ls : Lo) (st : List Value) (h : Hp) (Q : Option Value → Hp → Prop), Wp 142 232 (ls) (st) h Q ↔ Wp 142 233 (ls) (.int (3) :: st) h Q) ∧
  (∀ (ls : Lo) (st : List Value) (h : Hp) (Q : Option Value → Hp → Prop) (l0 l1 l2 l3 l4 : Option Value) (x : Int32), Wp 142 233 (l0 :: l1 :: l2 :: l3 :: l4 :: some (.int x) :: ls) (st) h Q ↔ Wp 142 235 (l0 :: l1 :: l2 :: l3 :: l4 :: some (.int x) :: ls) (.int x :: st) h Q) := ⟨by intro ls st h Q l0 l1 l2 l3 l4 x; exact e_iload d142_197 rfl,
  by intro ls st h Q x y; exact e_imul d142_199,
  by intro ls st h Q l0 l1 l2 l3 l4 l5 l6 l7 a; exact e_lload d142_200 rfl,
  by intro ls st h Q l0 l1 l2 l3 l4 l5 l6 l7 l8 l9 l10 l11 a; exact e_lload d142_202 rfl,
  by intro ls st h Q a b; exact e_lmul d142_204,
  by intro ls st n sl C Z I L R Q i y a; exact e_last d142_205,
  by intro ls st h Q i; exact e_aload_n d142_206 rfl,
  by intro ls st n sl C Z I L R Q i; exact e_get (g := 10) (s := 24) (ty := 2) d142_207 rfl rfl (inG_ne (by decide)),
  by intro ls st h Q; exact e_iconst d142_210 rfl,
  by intro ls st h Q l0 l1 l2 l3 l4 x; exact e_iload d142_211 rfl,
  by intro ls st h Q x y; exact e_imul d142_213,
  by intro ls st h Q; exact e_iconst d142_214 rfl,
  by intro ls st h Q x y; exact e_iadd d142_215,
  by intro ls st h Q l0 l1 l2 l3 l4 l5 l6 l7 a; exact e_lload d142_216 rfl,
  by intro ls st h Q l0 l1 l2 l3 l4 l5 l6 l7 l8 l9 l10 l11 l12 l13 a; exact e_lload d142_218 rfl,
  by intro ls st h Q a b; exact e_lmul d142_220,
  by intro ls st h Q l0 l1 l2 l3 l4 l5 l6 l7 l8 l9 a; exact e_lload d142_221 rfl,
  by intro ls st h Q l0 l1 l2 l3 l4 l5 l6 l7 l8 l9 l10 l11 a; exact e_lload d142_223 rfl,
  by intro ls st h Q a b; exact e_lmul d142_225,
  by intro ls st h Q a b; exact e_ladd d142_226,
  by intro ls st n sl C Z I L R Q i y a; exact e_last d142_227,
  by intro ls st h Q i; exact e_aload_n d142_228 rfl,
  by intro ls st n sl C Z I L R Q i; exact e_get (g := 10) (s := 24) (ty := 2) d142_229 rfl rfl (inG_ne (by decide)),
  by intro ls st h Q; exact e_iconst d142_232 rfl,
  by intro ls st h Q l0 l1 l2 l3 l4 x; exact e_iload d142_233 rfl⟩
set_option maxRecDepth 20000 in
theorem S142_6 : (∀ (ls : Lo) (st : List Value) (h : Hp) (Q : Option Value → Hp → Prop) (x y : Int32), Wp 142 235 (ls) (.int y :: .int x :: st) h Q ↔ Wp 142 236 (ls) (.int (x * y) :: st) h Q) ∧
  (∀ (ls : Lo) (st : List Value) (h : Hp) (Q : Option Value → Hp → Prop), Wp 142 236 (ls) (st) h Q ↔ Wp 142 237 (ls) (.int (2) :: st) h Q) ∧
  (∀ (ls : Lo) (st : List Value) (h : Hp) (Q : Option Value → Hp → Prop) (x y : Int32), Wp 142 237 (ls) (.int y :: .int x :: st) h Q ↔ Wp 142 238 (ls) (.int (x + y) :: st) h Q) ∧
  (∀ (ls : Lo) (st : List Value) (h : Hp) (Q : Option Value → Hp → Prop) (l0 l1 l2 l3 l4 l5 l6 l7 l8 l9 : Option Value) (a : Int64), Wp 142 238 (l0 :: l1 :: l2 :: l3 :: l4 :: l5 :: l6 :: l7 :: l8 :: l9 :: some (.long a) :: ls) (st) h Q ↔ Wp 142 240 (l0 :: l1 :: l2 :: l3 :: l4 :: l5 :: l6 :: l7 :: l8 :: l9 :: some (.long a) :: ls) (.long a :: st) h Q) ∧
  (∀ (ls : Lo) (st : List Value) (h : Hp) (Q : Option Value → Hp → Prop) (l0 l1 l2 l3 l4 l5 l6 l7 l8 l9 l10 l11 l12 l13 : Option Value) (a : Int64), Wp 142 240 (l0 :: l1 :: l2 :: l3 :: l4 :: l5 :: l6 :: l7 :: l8 :: l9 :: l10 :: l11 :: l12 :: l13 :: some (.long a) :: ls) (st) h Q ↔ Wp 142 242 (l0 :: l1 :: l2 :: l3 :: l4 :: l5 :: l6 :: l7 :: l8 :: l9 :: l10 :: l11 :: l12 :: l13 :: some (.long a) :: ls) (.long a :: st) h Q) ∧
  (∀ (ls : Lo) (st : List Value) (h : Hp) (Q : Option Value → Hp → Prop) (a b : Int64), Wp 142 242 (ls) (.long b :: .long a :: st) h Q ↔ Wp 142 243 (ls) (.long (a * b) :: st) h Q) ∧
  (∀ (ls : Lo) (st : List Value) (n sl : Nat) (C Z : Nat → Nat) (I : Nat → Nat → Int32) (L : Nat → Nat → Int64) (R : Nat → Nat → Nat) (Q : Option Value → Hp → Prop) (i : Nat) (y : Int32) (a : Int64), Wp 142 243 (ls) (.long a :: .int y :: .ref i :: st) (n, sl, C, Z, I, L, R) Q ↔ ((inb y (Z i) = true ∧ C i = 22) ∧ Wp 142 244 (ls) (st) (n, sl, C, Z, I, u2 L i (ix y) a, R) Q)) ∧
  (∀ (ls : Lo) (st : List Value) (h : Hp) (Q : Option Value → Hp → Prop)  (i : Nat), Wp 142 244 (some (.ref i) :: ls) (st) h Q ↔ Wp 142 245 (some (.ref i) :: ls) (.ref i :: st) h Q) ∧
  (∀ (ls : Lo) (st : List Value) (n sl : Nat) (C Z : Nat → Nat) (I : Nat → Nat → Int32) (L : Nat → Nat → Int64) (R : Nat → Nat → Nat) (Q : Option Value → Hp → Prop) (i : Nat), Wp 142 245 (ls) (.ref i :: st) (n, sl, C, Z, I, L, R) Q ↔ (C i = 11 ∧ Wp 142 248 (ls) (.ref (R i 24) :: st) (n, sl, C, Z, I, L, R) Q)) ∧
  (∀ (ls : Lo) (st : List Value) (h : Hp) (Q : Option Value → Hp → Prop), Wp 142 248 (ls) (st) h Q ↔ Wp 142 249 (ls) (.int (3) :: st) h Q) ∧
  (∀ (ls : Lo) (st : List Value) (h : Hp) (Q : Option Value → Hp → Prop) (l0 l1 l2 l3 l4 : Option Value) (x : Int32), Wp 142 249 (l0 :: l1 :: l2 :: l3 :: l4 :: some (.int x) :: ls) (st) h Q ↔ Wp 142 251 (l0 :: l1 :: l2 :: l3 :: l4 :: some (.int x) :: ls) (.int x :: st) h Q) ∧
  (∀ (ls : Lo) (st : List Value) (h : Hp) (Q : Option Value → Hp → Prop) (x y : Int32), Wp 142 251 (ls) (.int y :: .int x :: st) h Q ↔ Wp 142 252 (ls) (.int (x * y) :: st) h Q) ∧
  (∀ (ls : Lo) (st : List Value) (h : Hp) (Q : Option Value → Hp → Prop) (l0 l1 l2 l3 l4 : Option Value) (x : Int32), Wp 142 252 (l0 :: l1 :: l2 :: l3 :: l4 :: some (.int x) :: ls) (st) h Q ↔ Wp 142 254 (l0 :: l1 :: l2 :: l3 :: l4 :: some (.int x) :: ls) (.int x :: st) h Q) ∧
  (∀ (ls : Lo) (st : List Value) (h : Hp) (Q : Option Value → Hp → Prop) (x y : Int32), Wp 142 254 (ls) (.int y :: .int x :: st) h Q ↔ Wp 142 255 (ls) (.int (x + y) :: st) h Q) ∧
  (∀ (ls : Lo) (st : List Value) (h : Hp) (Q : Option Value → Hp → Prop) (x : Int32) (i : Nat), Wp 142 255 (ls) (.int x :: .ref i :: st) h Q ↔ Wp 142 256 (ls) (.int x :: .ref i :: .int x :: .ref i :: st) h Q) ∧
  (∀ (ls : Lo) (st : List Value) (h : Hp) (Q : Option Value → Hp → Prop) (a : Int64), Wp 142 255 (ls) (.long a :: st) h Q ↔ Wp 142 256 (ls) (.long a :: .long a :: st) h Q) ∧
  (∀ (ls : Lo) (st : List Value) (n sl : Nat) (C Z : Nat → Nat) (I : Nat → Nat → Int32) (L : Nat → Nat → Int64) (R : Nat → Nat → Nat) (Q : Option Value → Hp → Prop) (i : Nat) (y : Int32), Wp 142 256 (ls) (.int y :: .ref i :: st) (n, sl, C, Z, I, L, R) Q ↔ ((inb y (Z i) = true ∧ C i = 22) ∧ Wp 142 257 (ls) (.long (L i (ix y)) :: st) (n, sl, C, Z, I, L, R) Q)) ∧
  (∀ (ls : Lo) (st : List Value) (h : Hp) (Q : Option Value → Hp → Prop) (l0 l1 l2 : Option Value) (a : Int64), Wp 142 257 (l0 :: l1 :: l2 :: some (.long a) :: ls) (st) h Q ↔ Wp 142 258 (l0 :: l1 :: l2 :: some (.long a) :: ls) (.long a :: st) h Q) ∧
  (∀ (ls : Lo) (st : List Value) (h : Hp) (Q : Option Value → Hp → Prop) (l0 l1 l2 : Option Value) (a : Int64), Wp 142 258 (l0 :: l1 :: l2 :: some (.long a) :: ls) (st) h Q ↔ Wp 142 259 (l0 :: l1 :: l2 :: some (.long a) :: ls) (.long a :: st) h Q) ∧
  (∀ (ls : Lo) (st : List Value) (h : Hp) (Q : Option Value → Hp → Prop) (a b : Int64), Wp 142 259 (ls) (.long b :: .long a :: st) h Q ↔ Wp 142 260 (ls) (.long (a * b) :: st) h Q) ∧
  (∀ (ls : Lo) (st : List Value) (h : Hp) (Q : Option Value → Hp → Prop) (a b : Int64), Wp 142 260 (ls) (.long b :: .long a :: st) h Q ↔ Wp 142 261 (ls) (.long (a - b) :: st) h Q) ∧
  (∀ (ls : Lo) (st : List Value) (n sl : Nat) (C Z : Nat → Nat) (I : Nat → Nat → Int32) (L : Nat → Nat → Int64) (R : Nat → Nat → Nat) (Q : Option Value → Hp → Prop) (i : Nat) (y : Int32) (a : Int64), Wp 142 261 (ls) (.long a :: .int y :: .ref i :: st) (n, sl, C, Z, I, L, R) Q ↔ ((inb y (Z i) = true ∧ C i = 22) ∧ Wp 142 262 (ls) (st) (n, sl, C, Z, I, u2 L i (ix y) a, R) Q)) ∧
  (∀ (ls : Lo) (st : List Value) (h : Hp) (Q : Option Value → Hp → Prop)  (i : Nat), Wp 142 262 (some (.ref i) :: ls) (st) h Q ↔ Wp 142 263 (some (.ref i) :: ls) (.ref i :: st) h Q) ∧
  (∀ (ls : Lo) (st : List Value) (n sl : Nat) (C Z : Nat → Nat) (I : Nat → Nat → Int32) (L : Nat → Nat → Int64) (R : Nat → Nat → Nat) (Q : Option Value → Hp → Prop) (i : Nat), Wp 142 263 (ls) (.ref i :: st) (n, sl, C, Z, I, L, R) Q ↔ (C i = 11 ∧ Wp 142 266 (ls) (.ref (R i 26) :: st) (n, sl, C, Z, I, L, R) Q)) ∧
  (∀ (ls : Lo) (st : List Value) (h : Hp) (Q : Option Value → Hp → Prop) (l0 l1 l2 l3 l4 : Option Value) (x : Int32), Wp 142 266 (l0 :: l1 :: l2 :: l3 :: l4 :: some (.int x) :: ls) (st) h Q ↔ Wp 142 268 (l0 :: l1 :: l2 :: l3 :: l4 :: some (.int x) :: ls) (.int x :: st) h Q) := ⟨by intro ls st h Q x y; exact e_imul d142_235,
  by intro ls st h Q; exact e_iconst d142_236 rfl,
  by intro ls st h Q x y; exact e_iadd d142_237,
  by intro ls st h Q l0 l1 l2 l3 l4 l5 l6 l7 l8 l9 a; exact e_lload d142_238 rfl,
  by intro ls st h Q l0 l1 l2 l3 l4 l5 l6 l7 l8 l9 l10 l11 l12 l13 a; exact e_lload d142_240 rfl,
  by intro ls st h Q a b; exact e_lmul d142_242,
  by intro ls st n sl C Z I L R Q i y a; exact e_last d142_243,
  by intro ls st h Q i; exact e_aload_n d142_244 rfl,
  by intro ls st n sl C Z I L R Q i; exact e_get (g := 10) (s := 24) (ty := 2) d142_245 rfl rfl (inG_ne (by decide)),
  by intro ls st h Q; exact e_iconst d142_248 rfl,
  by intro ls st h Q l0 l1 l2 l3 l4 x; exact e_iload d142_249 rfl,
  by intro ls st h Q x y; exact e_imul d142_251,
  by intro ls st h Q l0 l1 l2 l3 l4 x; exact e_iload d142_252 rfl,
  by intro ls st h Q x y; exact e_iadd d142_254,
  by intro ls st h Q x i; exact e_dup2R d142_255,
  by intro ls st h Q a; exact e_dup2L d142_255,
  by intro ls st n sl C Z I L R Q i y; exact e_lald d142_256,
  by intro ls st h Q l0 l1 l2 a; exact e_lload_n d142_257 rfl,
  by intro ls st h Q l0 l1 l2 a; exact e_lload_n d142_258 rfl,
  by intro ls st h Q a b; exact e_lmul d142_259,
  by intro ls st h Q a b; exact e_lsub d142_260,
  by intro ls st n sl C Z I L R Q i y a; exact e_last d142_261,
  by intro ls st h Q i; exact e_aload_n d142_262 rfl,
  by intro ls st n sl C Z I L R Q i; exact e_get (g := 10) (s := 26) (ty := 2) d142_263 rfl rfl (inG_ne (by decide)),
  by intro ls st h Q l0 l1 l2 l3 l4 x; exact e_iload d142_266 rfl⟩
set_option maxRecDepth 20000 in
theorem S142_7 : (∀ (ls : Lo) (st : List Value) (h : Hp) (Q : Option Value → Hp → Prop) (l0 l1 l2 l3 l4 l5 : Option Value) (x : Int32), Wp 142 268 (l0 :: l1 :: l2 :: l3 :: l4 :: l5 :: some (.int x) :: ls) (st) h Q ↔ Wp 142 270 (l0 :: l1 :: l2 :: l3 :: l4 :: l5 :: some (.int x) :: ls) (.int x :: st) h Q) ∧
  (∀ (ls : Lo) (st : List Value) (h : Hp) (Q : Option Value → Hp → Prop) (l0 l1 l2 l3 l4 l5 l6 : Option Value) (x : Int32), Wp 142 270 (l0 :: l1 :: l2 :: l3 :: l4 :: l5 :: l6 :: some (.int x) :: ls) (st) h Q ↔ Wp 142 272 (l0 :: l1 :: l2 :: l3 :: l4 :: l5 :: l6 :: some (.int x) :: ls) (.int x :: st) h Q) ∧
  (∀ (ls : Lo) (st : List Value) (h : Hp) (Q : Option Value → Hp → Prop) (x y : Int32), Wp 142 272 (ls) (.int y :: .int x :: st) h Q ↔ Br 142 282 275 ls st h Q (¬ x = y)) ∧
  (∀ (ls : Lo) (st : List Value) (h : Hp) (Q : Option Value → Hp → Prop) (l0 l1 l2 : Option Value) (a : Int64), Wp 142 275 (l0 :: l1 :: l2 :: some (.long a) :: ls) (st) h Q ↔ Wp 142 276 (l0 :: l1 :: l2 :: some (.long a) :: ls) (.long a :: st) h Q) ∧
  (∀ (ls : Lo) (st : List Value) (h : Hp) (Q : Option Value → Hp → Prop) (a : Int64), Wp 142 276 (ls) (.long a :: st) h Q ↔ Wp 142 277 (ls) (.long (-a) :: st) h Q) ∧
  (∀ (ls : Lo) (st : List Value) (h : Hp) (Q : Option Value → Hp → Prop) (l0 l1 l2 : Option Value) (a : Int64), Wp 142 277 (l0 :: l1 :: l2 :: some (.long a) :: ls) (st) h Q ↔ Wp 142 278 (l0 :: l1 :: l2 :: some (.long a) :: ls) (.long a :: st) h Q) ∧
  (∀ (ls : Lo) (st : List Value) (h : Hp) (Q : Option Value → Hp → Prop) (a b : Int64), Wp 142 278 (ls) (.long b :: .long a :: st) h Q ↔ Wp 142 279 (ls) (.long (a * b) :: st) h Q) ∧
  (∀ (ls : Lo) (st : List Value) (h : Hp) (Q : Option Value → Hp → Prop), Wp 142 279 (ls) (st) h Q ↔ Wp 142 283 (ls) (st) h Q) ∧
  (∀ (ls : Lo) (st : List Value) (h : Hp) (Q : Option Value → Hp → Prop), Wp 142 282 (ls) (st) h Q ↔ Wp 142 283 (ls) (.long 0 :: st) h Q) ∧
  (∀ (ls : Lo) (st : List Value) (n sl : Nat) (C Z : Nat → Nat) (I : Nat → Nat → Int32) (L : Nat → Nat → Int64) (R : Nat → Nat → Nat) (Q : Option Value → Hp → Prop) (i : Nat) (y : Int32) (a : Int64), Wp 142 283 (ls) (.long a :: .int y :: .ref i :: st) (n, sl, C, Z, I, L, R) Q ↔ ((inb y (Z i) = true ∧ C i = 22) ∧ Wp 142 284 (ls) (st) (n, sl, C, Z, I, u2 L i (ix y) a, R) Q)) ∧
  (∀ (ls : Lo) (st : List Value) (h : Hp) (Q : Option Value → Hp → Prop), Wp 142 284 (ls) (st) h Q ↔ Wp 142 413 (ls) (st) h Q) ∧
  (∀ (ls : Lo) (st : List Value) (h : Hp) (Q : Option Value → Hp → Prop)  (i : Nat), Wp 142 287 (some (.ref i) :: ls) (st) h Q ↔ Wp 142 288 (some (.ref i) :: ls) (.ref i :: st) h Q) ∧
  (∀ (ls : Lo) (st : List Value) (n sl : Nat) (C Z : Nat → Nat) (I : Nat → Nat → Int32) (L : Nat → Nat → Int64) (R : Nat → Nat → Nat) (Q : Option Value → Hp → Prop) (i : Nat), Wp 142 288 (ls) (.ref i :: st) (n, sl, C, Z, I, L, R) Q ↔ (C i = 11 ∧ Wp 142 291 (ls) (.ref (R i 24) :: st) (n, sl, C, Z, I, L, R) Q)) ∧
  (∀ (ls : Lo) (st : List Value) (h : Hp) (Q : Option Value → Hp → Prop), Wp 142 291 (ls) (st) h Q ↔ Wp 142 292 (ls) (.int (3) :: st) h Q) ∧
  (∀ (ls : Lo) (st : List Value) (h : Hp) (Q : Option Value → Hp → Prop) (l0 l1 l2 l3 l4 : Option Value) (x : Int32), Wp 142 292 (l0 :: l1 :: l2 :: l3 :: l4 :: some (.int x) :: ls) (st) h Q ↔ Wp 142 294 (l0 :: l1 :: l2 :: l3 :: l4 :: some (.int x) :: ls) (.int x :: st) h Q) ∧
  (∀ (ls : Lo) (st : List Value) (h : Hp) (Q : Option Value → Hp → Prop) (x y : Int32), Wp 142 294 (ls) (.int y :: .int x :: st) h Q ↔ Wp 142 295 (ls) (.int (x * y) :: st) h Q) ∧
  (∀ (ls : Lo) (st : List Value) (h : Hp) (Q : Option Value → Hp → Prop) (l0 l1 l2 l3 l4 l5 l6 : Option Value) (x : Int32), Wp 142 295 (l0 :: l1 :: l2 :: l3 :: l4 :: l5 :: l6 :: some (.int x) :: ls) (st) h Q ↔ Wp 142 297 (l0 :: l1 :: l2 :: l3 :: l4 :: l5 :: l6 :: some (.int x) :: ls) (.int x :: st) h Q) ∧
  (∀ (ls : Lo) (st : List Value) (h : Hp) (Q : Option Value → Hp → Prop) (x : Int32), Wp 142 297 (ls) (.int x :: st) h Q ↔ Br 142 305 300 ls st h Q (¬ x = 0)) ∧
  (∀ (ls : Lo) (st : List Value) (h : Hp) (Q : Option Value → Hp → Prop) (l0 l1 l2 l3 l4 l5 l6 l7 : Option Value) (a : Int64), Wp 142 300 (l0 :: l1 :: l2 :: l3 :: l4 :: l5 :: l6 :: l7 :: some (.long a) :: ls) (st) h Q ↔ Wp 142 302 (l0 :: l1 :: l2 :: l3 :: l4 :: l5 :: l6 :: l7 :: some (.long a) :: ls) (.long a :: st) h Q) ∧
  (∀ (ls : Lo) (st : List Value) (h : Hp) (Q : Option Value → Hp → Prop), Wp 142 302 (ls) (st) h Q ↔ Wp 142 306 (ls) (st) h Q) ∧
  (∀ (ls : Lo) (st : List Value) (h : Hp) (Q : Option Value → Hp → Prop), Wp 142 305 (ls) (st) h Q ↔ Wp 142 306 (ls) (.long 0 :: st) h Q) ∧
  (∀ (ls : Lo) (st : List Value) (h : Hp) (Q : Option Value → Hp → Prop) (l0 l1 l2 l3 l4 l5 : Option Value) (x : Int32), Wp 142 306 (l0 :: l1 :: l2 :: l3 :: l4 :: l5 :: some (.int x) :: ls) (st) h Q ↔ Wp 142 308 (l0 :: l1 :: l2 :: l3 :: l4 :: l5 :: some (.int x) :: ls) (.int x :: st) h Q) ∧
  (∀ (ls : Lo) (st : List Value) (h : Hp) (Q : Option Value → Hp → Prop) (x : Int32), Wp 142 308 (ls) (.int x :: st) h Q ↔ Br 142 316 311 ls st h Q (¬ x = 0)) ∧
  (∀ (ls : Lo) (st : List Value) (h : Hp) (Q : Option Value → Hp → Prop) (l0 l1 l2 l3 l4 l5 l6 l7 l8 l9 l10 l11 : Option Value) (a : Int64), Wp 142 311 (l0 :: l1 :: l2 :: l3 :: l4 :: l5 :: l6 :: l7 :: l8 :: l9 :: l10 :: l11 :: some (.long a) :: ls) (st) h Q ↔ Wp 142 313 (l0 :: l1 :: l2 :: l3 :: l4 :: l5 :: l6 :: l7 :: l8 :: l9 :: l10 :: l11 :: some (.long a) :: ls) (.long a :: st) h Q) ∧
  (∀ (ls : Lo) (st : List Value) (h : Hp) (Q : Option Value → Hp → Prop), Wp 142 313 (ls) (st) h Q ↔ Wp 142 317 (ls) (st) h Q) := ⟨by intro ls st h Q l0 l1 l2 l3 l4 l5 x; exact e_iload d142_268 rfl,
  by intro ls st h Q l0 l1 l2 l3 l4 l5 l6 x; exact e_iload d142_270 rfl,
  by intro ls st h Q x y; exact e_ic d142_272 (by decide) c_ne,
  by intro ls st h Q l0 l1 l2 a; exact e_lload_n d142_275 rfl,
  by intro ls st h Q a; exact e_lneg d142_276,
  by intro ls st h Q l0 l1 l2 a; exact e_lload_n d142_277 rfl,
  by intro ls st h Q a b; exact e_lmul d142_278,
  by intro ls st h Q; exact e_goto d142_279 (by decide),
  by intro ls st h Q; exact e_lconst d142_282 rfl,
  by intro ls st n sl C Z I L R Q i y a; exact e_last d142_283,
  by intro ls st h Q; exact e_goto d142_284 (by decide),
  by intro ls st h Q i; exact e_aload_n d142_287 rfl,
  by intro ls st n sl C Z I L R Q i; exact e_get (g := 10) (s := 24) (ty := 2) d142_288 rfl rfl (inG_ne (by decide)),
  by intro ls st h Q; exact e_iconst d142_291 rfl,
  by intro ls st h Q l0 l1 l2 l3 l4 x; exact e_iload d142_292 rfl,
  by intro ls st h Q x y; exact e_imul d142_294,
  by intro ls st h Q l0 l1 l2 l3 l4 l5 l6 x; exact e_iload d142_295 rfl,
  by intro ls st h Q x; exact e_if d142_297 (by decide) c_ne,
  by intro ls st h Q l0 l1 l2 l3 l4 l5 l6 l7 a; exact e_lload d142_300 rfl,
  by intro ls st h Q; exact e_goto d142_302 (by decide),
  by intro ls st h Q; exact e_lconst d142_305 rfl,
  by intro ls st h Q l0 l1 l2 l3 l4 l5 x; exact e_iload d142_306 rfl,
  by intro ls st h Q x; exact e_if d142_308 (by decide) c_ne,
  by intro ls st h Q l0 l1 l2 l3 l4 l5 l6 l7 l8 l9 l10 l11 a; exact e_lload d142_311 rfl,
  by intro ls st h Q; exact e_goto d142_313 (by decide)⟩
set_option maxRecDepth 20000 in
theorem S142_8 : (∀ (ls : Lo) (st : List Value) (h : Hp) (Q : Option Value → Hp → Prop), Wp 142 316 (ls) (st) h Q ↔ Wp 142 317 (ls) (.long 0 :: st) h Q) ∧
  (∀ (ls : Lo) (st : List Value) (h : Hp) (Q : Option Value → Hp → Prop) (a b : Int64), Wp 142 317 (ls) (.long b :: .long a :: st) h Q ↔ Wp 142 318 (ls) (.long (a + b) :: st) h Q) ∧
  (∀ (ls : Lo) (st : List Value) (n sl : Nat) (C Z : Nat → Nat) (I : Nat → Nat → Int32) (L : Nat → Nat → Int64) (R : Nat → Nat → Nat) (Q : Option Value → Hp → Prop) (i : Nat) (y : Int32) (a : Int64), Wp 142 318 (ls) (.long a :: .int y :: .ref i :: st) (n, sl, C, Z, I, L, R) Q ↔ ((inb y (Z i) = true ∧ C i = 22) ∧ Wp 142 319 (ls) (st) (n, sl, C, Z, I, u2 L i (ix y) a, R) Q)) ∧
  (∀ (ls : Lo) (st : List Value) (h : Hp) (Q : Option Value → Hp → Prop)  (i : Nat), Wp 142 319 (some (.ref i) :: ls) (st) h Q ↔ Wp 142 320 (some (.ref i) :: ls) (.ref i :: st) h Q) ∧
  (∀ (ls : Lo) (st : List Value) (n sl : Nat) (C Z : Nat → Nat) (I : Nat → Nat → Int32) (L : Nat → Nat → Int64) (R : Nat → Nat → Nat) (Q : Option Value → Hp → Prop) (i : Nat), Wp 142 320 (ls) (.ref i :: st) (n, sl, C, Z, I, L, R) Q ↔ (C i = 11 ∧ Wp 142 323 (ls) (.ref (R i 24) :: st) (n, sl, C, Z, I, L, R) Q)) ∧
  (∀ (ls : Lo) (st : List Value) (h : Hp) (Q : Option Value → Hp → Prop), Wp 142 323 (ls) (st) h Q ↔ Wp 142 324 (ls) (.int (3) :: st) h Q) ∧
  (∀ (ls : Lo) (st : List Value) (h : Hp) (Q : Option Value → Hp → Prop) (l0 l1 l2 l3 l4 : Option Value) (x : Int32), Wp 142 324 (l0 :: l1 :: l2 :: l3 :: l4 :: some (.int x) :: ls) (st) h Q ↔ Wp 142 326 (l0 :: l1 :: l2 :: l3 :: l4 :: some (.int x) :: ls) (.int x :: st) h Q) ∧
  (∀ (ls : Lo) (st : List Value) (h : Hp) (Q : Option Value → Hp → Prop) (x y : Int32), Wp 142 326 (ls) (.int y :: .int x :: st) h Q ↔ Wp 142 327 (ls) (.int (x * y) :: st) h Q) ∧
  (∀ (ls : Lo) (st : List Value) (h : Hp) (Q : Option Value → Hp → Prop), Wp 142 327 (ls) (st) h Q ↔ Wp 142 328 (ls) (.int (1) :: st) h Q) ∧
  (∀ (ls : Lo) (st : List Value) (h : Hp) (Q : Option Value → Hp → Prop) (x y : Int32), Wp 142 328 (ls) (.int y :: .int x :: st) h Q ↔ Wp 142 329 (ls) (.int (x + y) :: st) h Q) ∧
  (∀ (ls : Lo) (st : List Value) (h : Hp) (Q : Option Value → Hp → Prop) (l0 l1 l2 l3 l4 l5 l6 : Option Value) (x : Int32), Wp 142 329 (l0 :: l1 :: l2 :: l3 :: l4 :: l5 :: l6 :: some (.int x) :: ls) (st) h Q ↔ Wp 142 331 (l0 :: l1 :: l2 :: l3 :: l4 :: l5 :: l6 :: some (.int x) :: ls) (.int x :: st) h Q) ∧
  (∀ (ls : Lo) (st : List Value) (h : Hp) (Q : Option Value → Hp → Prop), Wp 142 331 (ls) (st) h Q ↔ Wp 142 332 (ls) (.int (1) :: st) h Q) ∧
  (∀ (ls : Lo) (st : List Value) (h : Hp) (Q : Option Value → Hp → Prop) (x y : Int32), Wp 142 332 (ls) (.int y :: .int x :: st) h Q ↔ Br 142 340 335 ls st h Q (¬ x = y)) ∧
  (∀ (ls : Lo) (st : List Value) (h : Hp) (Q : Option Value → Hp → Prop) (l0 l1 l2 l3 l4 l5 l6 l7 : Option Value) (a : Int64), Wp 142 335 (l0 :: l1 :: l2 :: l3 :: l4 :: l5 :: l6 :: l7 :: some (.long a) :: ls) (st) h Q ↔ Wp 142 337 (l0 :: l1 :: l2 :: l3 :: l4 :: l5 :: l6 :: l7 :: some (.long a) :: ls) (.long a :: st) h Q) ∧
  (∀ (ls : Lo) (st : List Value) (h : Hp) (Q : Option Value → Hp → Prop), Wp 142 337 (ls) (st) h Q ↔ Wp 142 342 (ls) (st) h Q) ∧
  (∀ (ls : Lo) (st : List Value) (h : Hp) (Q : Option Value → Hp → Prop) (l0 l1 l2 l3 l4 l5 l6 l7 l8 l9 : Option Value) (a : Int64), Wp 142 340 (l0 :: l1 :: l2 :: l3 :: l4 :: l5 :: l6 :: l7 :: l8 :: l9 :: some (.long a) :: ls) (st) h Q ↔ Wp 142 342 (l0 :: l1 :: l2 :: l3 :: l4 :: l5 :: l6 :: l7 :: l8 :: l9 :: some (.long a) :: ls) (.long a :: st) h Q) ∧
  (∀ (ls : Lo) (st : List Value) (h : Hp) (Q : Option Value → Hp → Prop) (l0 l1 l2 l3 l4 l5 : Option Value) (x : Int32), Wp 142 342 (l0 :: l1 :: l2 :: l3 :: l4 :: l5 :: some (.int x) :: ls) (st) h Q ↔ Wp 142 344 (l0 :: l1 :: l2 :: l3 :: l4 :: l5 :: some (.int x) :: ls) (.int x :: st) h Q) ∧
  (∀ (ls : Lo) (st : List Value) (h : Hp) (Q : Option Value → Hp → Prop), Wp 142 344 (ls) (st) h Q ↔ Wp 142 345 (ls) (.int (1) :: st) h Q) ∧
  (∀ (ls : Lo) (st : List Value) (h : Hp) (Q : Option Value → Hp → Prop) (x y : Int32), Wp 142 345 (ls) (.int y :: .int x :: st) h Q ↔ Br 142 353 348 ls st h Q (¬ x = y)) ∧
  (∀ (ls : Lo) (st : List Value) (h : Hp) (Q : Option Value → Hp → Prop) (l0 l1 l2 l3 l4 l5 l6 l7 l8 l9 l10 l11 : Option Value) (a : Int64), Wp 142 348 (l0 :: l1 :: l2 :: l3 :: l4 :: l5 :: l6 :: l7 :: l8 :: l9 :: l10 :: l11 :: some (.long a) :: ls) (st) h Q ↔ Wp 142 350 (l0 :: l1 :: l2 :: l3 :: l4 :: l5 :: l6 :: l7 :: l8 :: l9 :: l10 :: l11 :: some (.long a) :: ls) (.long a :: st) h Q) ∧
  (∀ (ls : Lo) (st : List Value) (h : Hp) (Q : Option Value → Hp → Prop), Wp 142 350 (ls) (st) h Q ↔ Wp 142 355 (ls) (st) h Q) ∧
  (∀ (ls : Lo) (st : List Value) (h : Hp) (Q : Option Value → Hp → Prop) (l0 l1 l2 l3 l4 l5 l6 l7 l8 l9 l10 l11 l12 l13 : Option Value) (a : Int64), Wp 142 353 (l0 :: l1 :: l2 :: l3 :: l4 :: l5 :: l6 :: l7 :: l8 :: l9 :: l10 :: l11 :: l12 :: l13 :: some (.long a) :: ls) (st) h Q ↔ Wp 142 355 (l0 :: l1 :: l2 :: l3 :: l4 :: l5 :: l6 :: l7 :: l8 :: l9 :: l10 :: l11 :: l12 :: l13 :: some (.long a) :: ls) (.long a :: st) h Q) ∧
  (∀ (ls : Lo) (st : List Value) (h : Hp) (Q : Option Value → Hp → Prop) (a b : Int64), Wp 142 355 (ls) (.long b :: .long a :: st) h Q ↔ Wp 142 356 (ls) (.long (a + b) :: st) h Q) ∧
  (∀ (ls : Lo) (st : List Value) (n sl : Nat) (C Z : Nat → Nat) (I : Nat → Nat → Int32) (L : Nat → Nat → Int64) (R : Nat → Nat → Nat) (Q : Option Value → Hp → Prop) (i : Nat) (y : Int32) (a : Int64), Wp 142 356 (ls) (.long a :: .int y :: .ref i :: st) (n, sl, C, Z, I, L, R) Q ↔ ((inb y (Z i) = true ∧ C i = 22) ∧ Wp 142 357 (ls) (st) (n, sl, C, Z, I, u2 L i (ix y) a, R) Q)) ∧
  (∀ (ls : Lo) (st : List Value) (h : Hp) (Q : Option Value → Hp → Prop)  (i : Nat), Wp 142 357 (some (.ref i) :: ls) (st) h Q ↔ Wp 142 358 (some (.ref i) :: ls) (.ref i :: st) h Q) := ⟨by intro ls st h Q; exact e_lconst d142_316 rfl,
  by intro ls st h Q a b; exact e_ladd d142_317,
  by intro ls st n sl C Z I L R Q i y a; exact e_last d142_318,
  by intro ls st h Q i; exact e_aload_n d142_319 rfl,
  by intro ls st n sl C Z I L R Q i; exact e_get (g := 10) (s := 24) (ty := 2) d142_320 rfl rfl (inG_ne (by decide)),
  by intro ls st h Q; exact e_iconst d142_323 rfl,
  by intro ls st h Q l0 l1 l2 l3 l4 x; exact e_iload d142_324 rfl,
  by intro ls st h Q x y; exact e_imul d142_326,
  by intro ls st h Q; exact e_iconst d142_327 rfl,
  by intro ls st h Q x y; exact e_iadd d142_328,
  by intro ls st h Q l0 l1 l2 l3 l4 l5 l6 x; exact e_iload d142_329 rfl,
  by intro ls st h Q; exact e_iconst d142_331 rfl,
  by intro ls st h Q x y; exact e_ic d142_332 (by decide) c_ne,
  by intro ls st h Q l0 l1 l2 l3 l4 l5 l6 l7 a; exact e_lload d142_335 rfl,
  by intro ls st h Q; exact e_goto d142_337 (by decide),
  by intro ls st h Q l0 l1 l2 l3 l4 l5 l6 l7 l8 l9 a; exact e_lload d142_340 rfl,
  by intro ls st h Q l0 l1 l2 l3 l4 l5 x; exact e_iload d142_342 rfl,
  by intro ls st h Q; exact e_iconst d142_344 rfl,
  by intro ls st h Q x y; exact e_ic d142_345 (by decide) c_ne,
  by intro ls st h Q l0 l1 l2 l3 l4 l5 l6 l7 l8 l9 l10 l11 a; exact e_lload d142_348 rfl,
  by intro ls st h Q; exact e_goto d142_350 (by decide),
  by intro ls st h Q l0 l1 l2 l3 l4 l5 l6 l7 l8 l9 l10 l11 l12 l13 a; exact e_lload d142_353 rfl,
  by intro ls st h Q a b; exact e_ladd d142_355,
  by intro ls st n sl C Z I L R Q i y a; exact e_last d142_356,
  by intro ls st h Q i; exact e_aload_n d142_357 rfl⟩
set_option maxRecDepth 20000 in
theorem S142_9 : (∀ (ls : Lo) (st : List Value) (n sl : Nat) (C Z : Nat → Nat) (I : Nat → Nat → Int32) (L : Nat → Nat → Int64) (R : Nat → Nat → Nat) (Q : Option Value → Hp → Prop) (i : Nat), Wp 142 358 (ls) (.ref i :: st) (n, sl, C, Z, I, L, R) Q ↔ (C i = 11 ∧ Wp 142 361 (ls) (.ref (R i 24) :: st) (n, sl, C, Z, I, L, R) Q)) ∧
  (∀ (ls : Lo) (st : List Value) (h : Hp) (Q : Option Value → Hp → Prop), Wp 142 361 (ls) (st) h Q ↔ Wp 142 362 (ls) (.int (3) :: st) h Q) ∧
  (∀ (ls : Lo) (st : List Value) (h : Hp) (Q : Option Value → Hp → Prop) (l0 l1 l2 l3 l4 : Option Value) (x : Int32), Wp 142 362 (l0 :: l1 :: l2 :: l3 :: l4 :: some (.int x) :: ls) (st) h Q ↔ Wp 142 364 (l0 :: l1 :: l2 :: l3 :: l4 :: some (.int x) :: ls) (.int x :: st) h Q) ∧
  (∀ (ls : Lo) (st : List Value) (h : Hp) (Q : Option Value → Hp → Prop) (x y : Int32), Wp 142 364 (ls) (.int y :: .int x :: st) h Q ↔ Wp 142 365 (ls) (.int (x * y) :: st) h Q) ∧
  (∀ (ls : Lo) (st : List Value) (h : Hp) (Q : Option Value → Hp → Prop), Wp 142 365 (ls) (st) h Q ↔ Wp 142 366 (ls) (.int (2) :: st) h Q) ∧
  (∀ (ls : Lo) (st : List Value) (h : Hp) (Q : Option Value → Hp → Prop) (x y : Int32), Wp 142 366 (ls) (.int y :: .int x :: st) h Q ↔ Wp 142 367 (ls) (.int (x + y) :: st) h Q) ∧
  (∀ (ls : Lo) (st : List Value) (h : Hp) (Q : Option Value → Hp → Prop) (l0 l1 l2 l3 l4 l5 l6 : Option Value) (x : Int32), Wp 142 367 (l0 :: l1 :: l2 :: l3 :: l4 :: l5 :: l6 :: some (.int x) :: ls) (st) h Q ↔ Wp 142 369 (l0 :: l1 :: l2 :: l3 :: l4 :: l5 :: l6 :: some (.int x) :: ls) (.int x :: st) h Q) ∧
  (∀ (ls : Lo) (st : List Value) (h : Hp) (Q : Option Value → Hp → Prop), Wp 142 369 (ls) (st) h Q ↔ Wp 142 370 (ls) (.int (1) :: st) h Q) ∧
  (∀ (ls : Lo) (st : List Value) (h : Hp) (Q : Option Value → Hp → Prop) (x y : Int32), Wp 142 370 (ls) (.int y :: .int x :: st) h Q ↔ Br 142 378 373 ls st h Q (¬ x = y)) ∧
  (∀ (ls : Lo) (st : List Value) (h : Hp) (Q : Option Value → Hp → Prop) (l0 l1 l2 l3 l4 l5 l6 l7 l8 l9 : Option Value) (a : Int64), Wp 142 373 (l0 :: l1 :: l2 :: l3 :: l4 :: l5 :: l6 :: l7 :: l8 :: l9 :: some (.long a) :: ls) (st) h Q ↔ Wp 142 375 (l0 :: l1 :: l2 :: l3 :: l4 :: l5 :: l6 :: l7 :: l8 :: l9 :: some (.long a) :: ls) (.long a :: st) h Q) ∧
  (∀ (ls : Lo) (st : List Value) (h : Hp) (Q : Option Value → Hp → Prop), Wp 142 375 (ls) (st) h Q ↔ Wp 142 379 (ls) (st) h Q) ∧
  (∀ (ls : Lo) (st : List Value) (h : Hp) (Q : Option Value → Hp → Prop), Wp 142 378 (ls) (st) h Q ↔ Wp 142 379 (ls) (.long 0 :: st) h Q) ∧
  (∀ (ls : Lo) (st : List Value) (h : Hp) (Q : Option Value → Hp → Prop) (l0 l1 l2 l3 l4 l5 : Option Value) (x : Int32), Wp 142 379 (l0 :: l1 :: l2 :: l3 :: l4 :: l5 :: some (.int x) :: ls) (st) h Q ↔ Wp 142 381 (l0 :: l1 :: l2 :: l3 :: l4 :: l5 :: some (.int x) :: ls) (.int x :: st) h Q) ∧
  (∀ (ls : Lo) (st : List Value) (h : Hp) (Q : Option Value → Hp → Prop), Wp 142 381 (ls) (st) h Q ↔ Wp 142 382 (ls) (.int (1) :: st) h Q) ∧
  (∀ (ls : Lo) (st : List Value) (h : Hp) (Q : Option Value → Hp → Prop) (x y : Int32), Wp 142 382 (ls) (.int y :: .int x :: st) h Q ↔ Br 142 390 385 ls st h Q (¬ x = y)) ∧
  (∀ (ls : Lo) (st : List Value) (h : Hp) (Q : Option Value → Hp → Prop) (l0 l1 l2 l3 l4 l5 l6 l7 l8 l9 l10 l11 l12 l13 : Option Value) (a : Int64), Wp 142 385 (l0 :: l1 :: l2 :: l3 :: l4 :: l5 :: l6 :: l7 :: l8 :: l9 :: l10 :: l11 :: l12 :: l13 :: some (.long a) :: ls) (st) h Q ↔ Wp 142 387 (l0 :: l1 :: l2 :: l3 :: l4 :: l5 :: l6 :: l7 :: l8 :: l9 :: l10 :: l11 :: l12 :: l13 :: some (.long a) :: ls) (.long a :: st) h Q) ∧
  (∀ (ls : Lo) (st : List Value) (h : Hp) (Q : Option Value → Hp → Prop), Wp 142 387 (ls) (st) h Q ↔ Wp 142 391 (ls) (st) h Q) ∧
  (∀ (ls : Lo) (st : List Value) (h : Hp) (Q : Option Value → Hp → Prop), Wp 142 390 (ls) (st) h Q ↔ Wp 142 391 (ls) (.long 0 :: st) h Q) ∧
  (∀ (ls : Lo) (st : List Value) (h : Hp) (Q : Option Value → Hp → Prop) (a b : Int64), Wp 142 391 (ls) (.long b :: .long a :: st) h Q ↔ Wp 142 392 (ls) (.long (a + b) :: st) h Q) ∧
  (∀ (ls : Lo) (st : List Value) (n sl : Nat) (C Z : Nat → Nat) (I : Nat → Nat → Int32) (L : Nat → Nat → Int64) (R : Nat → Nat → Nat) (Q : Option Value → Hp → Prop) (i : Nat) (y : Int32) (a : Int64), Wp 142 392 (ls) (.long a :: .int y :: .ref i :: st) (n, sl, C, Z, I, L, R) Q ↔ ((inb y (Z i) = true ∧ C i = 22) ∧ Wp 142 393 (ls) (st) (n, sl, C, Z, I, u2 L i (ix y) a, R) Q)) ∧
  (∀ (ls : Lo) (st : List Value) (h : Hp) (Q : Option Value → Hp → Prop)  (i : Nat), Wp 142 393 (some (.ref i) :: ls) (st) h Q ↔ Wp 142 394 (some (.ref i) :: ls) (.ref i :: st) h Q) ∧
  (∀ (ls : Lo) (st : List Value) (n sl : Nat) (C Z : Nat → Nat) (I : Nat → Nat → Int32) (L : Nat → Nat → Int64) (R : Nat → Nat → Nat) (Q : Option Value → Hp → Prop) (i : Nat), Wp 142 394 (ls) (.ref i :: st) (n, sl, C, Z, I, L, R) Q ↔ (C i = 11 ∧ Wp 142 397 (ls) (.ref (R i 26) :: st) (n, sl, C, Z, I, L, R) Q)) ∧
  (∀ (ls : Lo) (st : List Value) (h : Hp) (Q : Option Value → Hp → Prop) (l0 l1 l2 l3 l4 : Option Value) (x : Int32), Wp 142 397 (l0 :: l1 :: l2 :: l3 :: l4 :: some (.int x) :: ls) (st) h Q ↔ Wp 142 399 (l0 :: l1 :: l2 :: l3 :: l4 :: some (.int x) :: ls) (.int x :: st) h Q) ∧
  (∀ (ls : Lo) (st : List Value) (h : Hp) (Q : Option Value → Hp → Prop) (l0 l1 l2 l3 l4 l5 : Option Value) (x : Int32), Wp 142 399 (l0 :: l1 :: l2 :: l3 :: l4 :: l5 :: some (.int x) :: ls) (st) h Q ↔ Wp 142 401 (l0 :: l1 :: l2 :: l3 :: l4 :: l5 :: some (.int x) :: ls) (.int x :: st) h Q) ∧
  (∀ (ls : Lo) (st : List Value) (h : Hp) (Q : Option Value → Hp → Prop) (l0 l1 l2 l3 l4 l5 l6 : Option Value) (x : Int32), Wp 142 401 (l0 :: l1 :: l2 :: l3 :: l4 :: l5 :: l6 :: some (.int x) :: ls) (st) h Q ↔ Wp 142 403 (l0 :: l1 :: l2 :: l3 :: l4 :: l5 :: l6 :: some (.int x) :: ls) (.int x :: st) h Q) := ⟨by intro ls st n sl C Z I L R Q i; exact e_get (g := 10) (s := 24) (ty := 2) d142_358 rfl rfl (inG_ne (by decide)),
  by intro ls st h Q; exact e_iconst d142_361 rfl,
  by intro ls st h Q l0 l1 l2 l3 l4 x; exact e_iload d142_362 rfl,
  by intro ls st h Q x y; exact e_imul d142_364,
  by intro ls st h Q; exact e_iconst d142_365 rfl,
  by intro ls st h Q x y; exact e_iadd d142_366,
  by intro ls st h Q l0 l1 l2 l3 l4 l5 l6 x; exact e_iload d142_367 rfl,
  by intro ls st h Q; exact e_iconst d142_369 rfl,
  by intro ls st h Q x y; exact e_ic d142_370 (by decide) c_ne,
  by intro ls st h Q l0 l1 l2 l3 l4 l5 l6 l7 l8 l9 a; exact e_lload d142_373 rfl,
  by intro ls st h Q; exact e_goto d142_375 (by decide),
  by intro ls st h Q; exact e_lconst d142_378 rfl,
  by intro ls st h Q l0 l1 l2 l3 l4 l5 x; exact e_iload d142_379 rfl,
  by intro ls st h Q; exact e_iconst d142_381 rfl,
  by intro ls st h Q x y; exact e_ic d142_382 (by decide) c_ne,
  by intro ls st h Q l0 l1 l2 l3 l4 l5 l6 l7 l8 l9 l10 l11 l12 l13 a; exact e_lload d142_385 rfl,
  by intro ls st h Q; exact e_goto d142_387 (by decide),
  by intro ls st h Q; exact e_lconst d142_390 rfl,
  by intro ls st h Q a b; exact e_ladd d142_391,
  by intro ls st n sl C Z I L R Q i y a; exact e_last d142_392,
  by intro ls st h Q i; exact e_aload_n d142_393 rfl,
  by intro ls st n sl C Z I L R Q i; exact e_get (g := 10) (s := 26) (ty := 2) d142_394 rfl rfl (inG_ne (by decide)),
  by intro ls st h Q l0 l1 l2 l3 l4 x; exact e_iload d142_397 rfl,
  by intro ls st h Q l0 l1 l2 l3 l4 l5 x; exact e_iload d142_399 rfl,
  by intro ls st h Q l0 l1 l2 l3 l4 l5 l6 x; exact e_iload d142_401 rfl⟩
set_option maxRecDepth 20000 in
theorem S142_10 : (∀ (ls : Lo) (st : List Value) (h : Hp) (Q : Option Value → Hp → Prop) (x y : Int32), Wp 142 403 (ls) (.int y :: .int x :: st) h Q ↔ Br 142 411 406 ls st h Q (¬ x = y)) ∧
  (∀ (ls : Lo) (st : List Value) (h : Hp) (Q : Option Value → Hp → Prop) (l0 l1 l2 : Option Value) (a : Int64), Wp 142 406 (l0 :: l1 :: l2 :: some (.long a) :: ls) (st) h Q ↔ Wp 142 407 (l0 :: l1 :: l2 :: some (.long a) :: ls) (.long a :: st) h Q) ∧
  (∀ (ls : Lo) (st : List Value) (h : Hp) (Q : Option Value → Hp → Prop) (a : Int64), Wp 142 407 (ls) (.long a :: st) h Q ↔ Wp 142 408 (ls) (.long (-a) :: st) h Q) ∧
  (∀ (ls : Lo) (st : List Value) (h : Hp) (Q : Option Value → Hp → Prop), Wp 142 408 (ls) (st) h Q ↔ Wp 142 412 (ls) (st) h Q) ∧
  (∀ (ls : Lo) (st : List Value) (h : Hp) (Q : Option Value → Hp → Prop), Wp 142 411 (ls) (st) h Q ↔ Wp 142 412 (ls) (.long 0 :: st) h Q) ∧
  (∀ (ls : Lo) (st : List Value) (n sl : Nat) (C Z : Nat → Nat) (I : Nat → Nat → Int32) (L : Nat → Nat → Int64) (R : Nat → Nat → Nat) (Q : Option Value → Hp → Prop) (i : Nat) (y : Int32) (a : Int64), Wp 142 412 (ls) (.long a :: .int y :: .ref i :: st) (n, sl, C, Z, I, L, R) Q ↔ ((inb y (Z i) = true ∧ C i = 22) ∧ Wp 142 413 (ls) (st) (n, sl, C, Z, I, u2 L i (ix y) a, R) Q)) ∧
  (∀ (ls : Lo) (st : List Value) (h : Hp) (Q : Option Value → Hp → Prop) (l0 l1 l2 l3 l4 : Option Value) (x : Int32), Wp 142 413 (l0 :: l1 :: l2 :: l3 :: l4 :: some (.int x) :: ls) (st) h Q ↔ Wp 142 416 (l0 :: l1 :: l2 :: l3 :: clr l4 :: some (.int (x + (1))) :: ls) (st) h Q) ∧
  (∀ (ls : Lo) (st : List Value) (h : Hp) (Q : Option Value → Hp → Prop), Wp 142 416 (ls) (st) h Q ↔ Wp 142 107 (ls) (st) h Q) ∧
  (∀ (ls : Lo) (st : List Value) (h : Hp) (Q : Option Value → Hp → Prop), Wp 142 419 (ls) (st) h Q ↔ Wp 142 420 (ls) (.int (3) :: st) h Q) ∧
  (∀ (ls : Lo) (h : Hp) (Q : Option Value → Hp → Prop) (x : Int32), Wp 142 420 (ls) ([.int x]) h Q ↔ Q (some (.int x)) h) := ⟨by intro ls st h Q x y; exact e_ic d142_403 (by decide) c_ne,
  by intro ls st h Q l0 l1 l2 a; exact e_lload_n d142_406 rfl,
  by intro ls st h Q a; exact e_lneg d142_407,
  by intro ls st h Q; exact e_goto d142_408 (by decide),
  by intro ls st h Q; exact e_lconst d142_411 rfl,
  by intro ls st n sl C Z I L R Q i y a; exact e_last d142_412,
  by intro ls st h Q l0 l1 l2 l3 l4 x; exact e_iinc d142_413 rfl rfl rfl,
  by intro ls st h Q; exact e_goto d142_416 (by decide),
  by intro ls st h Q; exact e_iconst d142_419 rfl,
  by intros; exact e_rI (p := True) d142_420 rfl⟩
theorem d143_0 : decode (byt 143) 0 = .ok (.aload_n 0, 1) := by decide +kernel
theorem d143_1 : decode (byt 143) 1 = .ok (.iload_n 1, 1) := by decide +kernel
theorem d143_2 : decode (byt 143) 2 = .ok (.invokevirtual 190, 3) := by decide +kernel
theorem d143_5 : decode (byt 143) 5 = .ok (.istore_n 2, 1) := by decide +kernel
theorem d143_6 : decode (byt 143) 6 = .ok (.iload_n 2, 1) := by decide +kernel
theorem d143_7 : decode (byt 143) 7 = .ok (.ifCond .eq 18, 3) := by decide +kernel
theorem d143_10 : decode (byt 143) 10 = .ok (.iload_n 2, 1) := by decide +kernel
theorem d143_11 : decode (byt 143) 11 = .ok (.ifCond .le 18, 3) := by decide +kernel
theorem d143_14 : decode (byt 143) 14 = .ok (.aload_n 0, 1) := by decide +kernel
theorem d143_15 : decode (byt 143) 15 = .ok (.iload_n 2, 1) := by decide +kernel
theorem d143_16 : decode (byt 143) 16 = .ok (.iconst (-1), 1) := by decide +kernel
theorem d143_17 : decode (byt 143) 17 = .ok (.invokevirtual 185, 3) := by decide +kernel
theorem d143_20 : decode (byt 143) 20 = .ok (.lconst 0, 1) := by decide +kernel
theorem d143_21 : decode (byt 143) 21 = .ok (.lcmp, 1) := by decide +kernel
theorem d143_22 : decode (byt 143) 22 = .ok (.ifCond .eq 7, 3) := by decide +kernel
theorem d143_25 : decode (byt 143) 25 = .ok (.iconst 1, 1) := by decide +kernel
theorem d143_26 : decode (byt 143) 26 = .ok (.goto 4, 3) := by decide +kernel
theorem d143_29 : decode (byt 143) 29 = .ok (.iconst 0, 1) := by decide +kernel
theorem d143_30 : decode (byt 143) 30 = .ok (.ireturn, 1) := by decide +kernel
set_option maxRecDepth 20000 in
theorem S143_0 : (∀ (ls : Lo) (st : List Value) (h : Hp) (Q : Option Value → Hp → Prop)  (i : Nat), Wp 143 0 (some (.ref i) :: ls) (st) h Q ↔ Wp 143 1 (some (.ref i) :: ls) (.ref i :: st) h Q) ∧
  (∀ (ls : Lo) (st : List Value) (h : Hp) (Q : Option Value → Hp → Prop) (l0 : Option Value) (x : Int32), Wp 143 1 (l0 :: some (.int x) :: ls) (st) h Q ↔ Wp 143 2 (l0 :: some (.int x) :: ls) (.int x :: st) h Q) ∧
  (∀ (ls : Lo) (st : List Value) (n sl : Nat) (C Z : Nat → Nat) (I : Nat → Nat → Int32) (L : Nat → Nat → Int64) (R : Nat → Nat → Nat) (Q : Option Value → Hp → Prop) (x0 : Int32) (i : Nat), C i = 11 → (Wp 143 2 (ls) (.int x0 :: .ref i :: st) (n, sl, C, Z, I, L, R) Q ↔ (wsum st ≤ 8 ∧ Call 142 [some (.ref i), some (.int x0), none, none, none, none, none, none, none, none, none, none, none, none, none, none] (n, sl, C, Z, I, L, R) 143 5 ls st Q))) ∧
  (∀ (ls : Lo) (st : List Value) (h : Hp) (Q : Option Value → Hp → Prop) (l0 l1 l2 : Option Value) (x : Int32), Wp 143 5 (l0 :: l1 :: l2 :: ls) (.int x :: st) h Q ↔ Wp 143 6 (l0 :: clr l1 :: some (.int x) :: ls) (st) h Q) ∧
  (∀ (ls : Lo) (st : List Value) (h : Hp) (Q : Option Value → Hp → Prop) (l0 l1 : Option Value) (x : Int32), Wp 143 6 (l0 :: l1 :: some (.int x) :: ls) (st) h Q ↔ Wp 143 7 (l0 :: l1 :: some (.int x) :: ls) (.int x :: st) h Q) ∧
  (∀ (ls : Lo) (st : List Value) (h : Hp) (Q : Option Value → Hp → Prop) (x : Int32), Wp 143 7 (ls) (.int x :: st) h Q ↔ Br 143 25 10 ls st h Q (x = 0)) ∧
  (∀ (ls : Lo) (st : List Value) (h : Hp) (Q : Option Value → Hp → Prop) (l0 l1 : Option Value) (x : Int32), Wp 143 10 (l0 :: l1 :: some (.int x) :: ls) (st) h Q ↔ Wp 143 11 (l0 :: l1 :: some (.int x) :: ls) (.int x :: st) h Q) ∧
  (∀ (ls : Lo) (st : List Value) (h : Hp) (Q : Option Value → Hp → Prop) (x : Int32), Wp 143 11 (ls) (.int x :: st) h Q ↔ Br 143 29 14 ls st h Q (x ≤ 0)) ∧
  (∀ (ls : Lo) (st : List Value) (h : Hp) (Q : Option Value → Hp → Prop)  (i : Nat), Wp 143 14 (some (.ref i) :: ls) (st) h Q ↔ Wp 143 15 (some (.ref i) :: ls) (.ref i :: st) h Q) ∧
  (∀ (ls : Lo) (st : List Value) (h : Hp) (Q : Option Value → Hp → Prop) (l0 l1 : Option Value) (x : Int32), Wp 143 15 (l0 :: l1 :: some (.int x) :: ls) (st) h Q ↔ Wp 143 16 (l0 :: l1 :: some (.int x) :: ls) (.int x :: st) h Q) ∧
  (∀ (ls : Lo) (st : List Value) (h : Hp) (Q : Option Value → Hp → Prop), Wp 143 16 (ls) (st) h Q ↔ Wp 143 17 (ls) (.int (-1) :: st) h Q) ∧
  (∀ (ls : Lo) (st : List Value) (n sl : Nat) (C Z : Nat → Nat) (I : Nat → Nat → Int32) (L : Nat → Nat → Int64) (R : Nat → Nat → Nat) (Q : Option Value → Hp → Prop) (x0 : Int32) (x1 : Int32) (i : Nat), C i = 11 → (Wp 143 17 (ls) (.int x1 :: .int x0 :: .ref i :: st) (n, sl, C, Z, I, L, R) Q ↔ (wsum st ≤ 8 ∧ Call 139 [some (.ref i), some (.int x0), some (.int x1), none, none] (n, sl, C, Z, I, L, R) 143 20 ls st Q))) ∧
  (∀ (ls : Lo) (st : List Value) (h : Hp) (Q : Option Value → Hp → Prop), Wp 143 20 (ls) (st) h Q ↔ Wp 143 21 (ls) (.long 0 :: st) h Q) ∧
  (∀ (ls : Lo) (st : List Value) (h : Hp) (Q : Option Value → Hp → Prop) (a b : Int64), Wp 143 21 (ls) (.long b :: .long a :: st) h Q ↔ Wp 143 22 (ls) (.int (lg_cmp a b) :: st) h Q) ∧
  (∀ (ls : Lo) (st : List Value) (h : Hp) (Q : Option Value → Hp → Prop) (x : Int32), Wp 143 22 (ls) (.int x :: st) h Q ↔ Br 143 29 25 ls st h Q (x = 0)) ∧
  (∀ (ls : Lo) (st : List Value) (h : Hp) (Q : Option Value → Hp → Prop), Wp 143 25 (ls) (st) h Q ↔ Wp 143 26 (ls) (.int (1) :: st) h Q) ∧
  (∀ (ls : Lo) (st : List Value) (h : Hp) (Q : Option Value → Hp → Prop), Wp 143 26 (ls) (st) h Q ↔ Wp 143 30 (ls) (st) h Q) ∧
  (∀ (ls : Lo) (st : List Value) (h : Hp) (Q : Option Value → Hp → Prop), Wp 143 29 (ls) (st) h Q ↔ Wp 143 30 (ls) (.int (0) :: st) h Q) ∧
  (∀ (ls : Lo) (h : Hp) (Q : Option Value → Hp → Prop) (x : Int32), Wp 143 30 (ls) ([.int x]) h Q ↔ ((x = 0 ∨ x = 1) ∧ Q (some (.int x)) h)) := ⟨by intro ls st h Q i; exact e_aload_n d143_0 rfl,
  by intro ls st h Q l0 x; exact e_iload_n d143_1 rfl,
  by intro ls st n sl C Z I L R Q x0 i hh; exact e_iv (k2 := 142) (c := 11) (as := [.int x0]) d143_2 rfl (by decide) rfl rfl (by decide +kernel) (Nat.le_of_ble_eq_true rfl) rfl hh,
  by intro ls st h Q l0 l1 l2 x; exact e_istore_n d143_5 rfl,
  by intro ls st h Q l0 l1 x; exact e_iload_n d143_6 rfl,
  by intro ls st h Q x; exact e_if d143_7 (by decide) c_eq,
  by intro ls st h Q l0 l1 x; exact e_iload_n d143_10 rfl,
  by intro ls st h Q x; exact e_if d143_11 (by decide) c_le,
  by intro ls st h Q i; exact e_aload_n d143_14 rfl,
  by intro ls st h Q l0 l1 x; exact e_iload_n d143_15 rfl,
  by intro ls st h Q; exact e_iconst d143_16 rfl,
  by intro ls st n sl C Z I L R Q x0 x1 i hh; exact e_iv (k2 := 139) (c := 11) (as := [.int x0, .int x1]) d143_17 rfl (by decide) rfl rfl (by decide +kernel) (Nat.le_of_ble_eq_true rfl) rfl hh,
  by intro ls st h Q; exact e_lconst d143_20 rfl,
  by intro ls st h Q a b; exact e_lcmp d143_21,
  by intro ls st h Q x; exact e_if d143_22 (by decide) c_eq,
  by intro ls st h Q; exact e_iconst d143_25 rfl,
  by intro ls st h Q; exact e_goto d143_26 (by decide),
  by intro ls st h Q; exact e_iconst d143_29 rfl,
  by intros; exact e_rZ d143_30 rfl⟩
theorem d144_0 : decode (byt 144) 0 = .ok (.aload_n 0, 1) := by decide +kernel
theorem d144_1 : decode (byt 144) 1 = .ok (.iload_n 1, 1) := by decide +kernel
theorem d144_2 : decode (byt 144) 2 = .ok (.invokevirtual 105, 3) := by decide +kernel
theorem d144_5 : decode (byt 144) 5 = .ok (.ifCond .eq 50, 3) := by decide +kernel
theorem d144_8 : decode (byt 144) 8 = .ok (.iload_n 2, 1) := by decide +kernel
theorem d144_9 : decode (byt 144) 9 = .ok (.ifCond .lt 46, 3) := by decide +kernel
theorem d144_12 : decode (byt 144) 12 = .ok (.iload_n 2, 1) := by decide +kernel
theorem d144_13 : decode (byt 144) 13 = .ok (.aload_n 0, 1) := by decide +kernel
theorem d144_14 : decode (byt 144) 14 = .ok (.getfield 13, 3) := by decide +kernel
theorem d144_17 : decode (byt 144) 17 = .ok (.iload_n 1, 1) := by decide +kernel
theorem d144_18 : decode (byt 144) 18 = .ok (.iaload, 1) := by decide +kernel
theorem d144_19 : decode (byt 144) 19 = .ok (.if_icmp .ge 36, 3) := by decide +kernel
theorem d144_22 : decode (byt 144) 22 = .ok (.iload_n 3, 1) := by decide +kernel
theorem d144_23 : decode (byt 144) 23 = .ok (.ifCond .lt 32, 3) := by decide +kernel
theorem d144_26 : decode (byt 144) 26 = .ok (.iload_n 3, 1) := by decide +kernel
theorem d144_27 : decode (byt 144) 27 = .ok (.aload_n 0, 1) := by decide +kernel
theorem d144_28 : decode (byt 144) 28 = .ok (.getfield 13, 3) := by decide +kernel
theorem d144_31 : decode (byt 144) 31 = .ok (.iload_n 1, 1) := by decide +kernel
theorem d144_32 : decode (byt 144) 32 = .ok (.iaload, 1) := by decide +kernel
theorem d144_33 : decode (byt 144) 33 = .ok (.if_icmp .ge 22, 3) := by decide +kernel
theorem d144_36 : decode (byt 144) 36 = .ok (.iload 4, 2) := by decide +kernel
theorem d144_38 : decode (byt 144) 38 = .ok (.ifCond .lt 17, 3) := by decide +kernel
theorem d144_41 : decode (byt 144) 41 = .ok (.iload 4, 2) := by decide +kernel
theorem d144_43 : decode (byt 144) 43 = .ok (.iconst 1, 1) := by decide +kernel
theorem d144_44 : decode (byt 144) 44 = .ok (.if_icmp .gt 11, 3) := by decide +kernel
theorem d144_47 : decode (byt 144) 47 = .ok (.aload_n 0, 1) := by decide +kernel
theorem d144_48 : decode (byt 144) 48 = .ok (.iload_n 1, 1) := by decide +kernel
theorem d144_49 : decode (byt 144) 49 = .ok (.invokevirtual 166, 3) := by decide +kernel
theorem d144_52 : decode (byt 144) 52 = .ok (.ifCond .ne 7, 3) := by decide +kernel
theorem d144_55 : decode (byt 144) 55 = .ok (.ldc2_w 169, 3) := by decide +kernel
theorem d144_58 : decode (byt 144) 58 = .ok (.lreturn, 1) := by decide +kernel
theorem d144_59 : decode (byt 144) 59 = .ok (.aload_n 0, 1) := by decide +kernel
theorem d144_60 : decode (byt 144) 60 = .ok (.aload_n 0, 1) := by decide +kernel
theorem d144_61 : decode (byt 144) 61 = .ok (.aload_n 0, 1) := by decide +kernel
theorem d144_62 : decode (byt 144) 62 = .ok (.getfield 13, 3) := by decide +kernel
theorem d144_65 : decode (byt 144) 65 = .ok (.iload_n 1, 1) := by decide +kernel
theorem d144_66 : decode (byt 144) 66 = .ok (.iaload, 1) := by decide +kernel
theorem d144_67 : decode (byt 144) 67 = .ok (.iconst 1, 1) := by decide +kernel
theorem d144_68 : decode (byt 144) 68 = .ok (.if_icmp .ne 7, 3) := by decide +kernel
theorem d144_71 : decode (byt 144) 71 = .ok (.iconst 1, 1) := by decide +kernel
theorem d144_72 : decode (byt 144) 72 = .ok (.goto 4, 3) := by decide +kernel
theorem d144_75 : decode (byt 144) 75 = .ok (.iconst 3, 1) := by decide +kernel
theorem d144_76 : decode (byt 144) 76 = .ok (.iload_n 2, 1) := by decide +kernel
theorem d144_77 : decode (byt 144) 77 = .ok (.iload_n 3, 1) := by decide +kernel
theorem d144_78 : decode (byt 144) 78 = .ok (.iadd, 1) := by decide +kernel
theorem d144_79 : decode (byt 144) 79 = .ok (.invokevirtual 185, 3) := by decide +kernel
theorem d144_82 : decode (byt 144) 82 = .ok (.aload_n 0, 1) := by decide +kernel
theorem d144_83 : decode (byt 144) 83 = .ok (.aload_n 0, 1) := by decide +kernel
theorem d144_84 : decode (byt 144) 84 = .ok (.getfield 13, 3) := by decide +kernel
theorem d144_87 : decode (byt 144) 87 = .ok (.iload_n 1, 1) := by decide +kernel
theorem d144_88 : decode (byt 144) 88 = .ok (.iaload, 1) := by decide +kernel
theorem d144_89 : decode (byt 144) 89 = .ok (.iconst 1, 1) := by decide +kernel
theorem d144_90 : decode (byt 144) 90 = .ok (.if_icmp .ne 7, 3) := by decide +kernel
theorem d144_93 : decode (byt 144) 93 = .ok (.iconst 1, 1) := by decide +kernel
theorem d144_94 : decode (byt 144) 94 = .ok (.goto 4, 3) := by decide +kernel
theorem d144_97 : decode (byt 144) 97 = .ok (.iconst 3, 1) := by decide +kernel
theorem d144_98 : decode (byt 144) 98 = .ok (.iconst (-1), 1) := by decide +kernel
theorem d144_99 : decode (byt 144) 99 = .ok (.invokevirtual 185, 3) := by decide +kernel
theorem d144_102 : decode (byt 144) 102 = .ok (.invokevirtual 171, 3) := by decide +kernel
theorem d144_105 : decode (byt 144) 105 = .ok (.aload_n 0, 1) := by decide +kernel
theorem d144_106 : decode (byt 144) 106 = .ok (.iload 4, 2) := by decide +kernel
theorem d144_108 : decode (byt 144) 108 = .ok (.invokevirtual 179, 3) := by decide +kernel
theorem d144_111 : decode (byt 144) 111 = .ok (.lreturn, 1) := by decide +kernel
set_option maxRecDepth 20000 in
theorem S144_0 : (∀ (ls : Lo) (st : List Value) (h : Hp) (Q : Option Value → Hp → Prop)  (i : Nat), Wp 144 0 (some (.ref i) :: ls) (st) h Q ↔ Wp 144 1 (some (.ref i) :: ls) (.ref i :: st) h Q) ∧
  (∀ (ls : Lo) (st : List Value) (h : Hp) (Q : Option Value → Hp → Prop) (l0 : Option Value) (x : Int32), Wp 144 1 (l0 :: some (.int x) :: ls) (st) h Q ↔ Wp 144 2 (l0 :: some (.int x) :: ls) (.int x :: st) h Q) ∧
  (∀ (ls : Lo) (st : List Value) (n sl : Nat) (C Z : Nat → Nat) (I : Nat → Nat → Int32) (L : Nat → Nat → Int64) (R : Nat → Nat → Nat) (Q : Option Value → Hp → Prop) (x0 : Int32) (i : Nat), C i = 11 → (Wp 144 2 (ls) (.int x0 :: .ref i :: st) (n, sl, C, Z, I, L, R) Q ↔ (wsum st ≤ 8 ∧ Call 103 [some (.ref i), some (.int x0)] (n, sl, C, Z, I, L, R) 144 5 ls st Q))) ∧
  (∀ (ls : Lo) (st : List Value) (h : Hp) (Q : Option Value → Hp → Prop) (x : Int32), Wp 144 5 (ls) (.int x :: st) h Q ↔ Br 144 55 8 ls st h Q (x = 0)) ∧
  (∀ (ls : Lo) (st : List Value) (h : Hp) (Q : Option Value → Hp → Prop) (l0 l1 : Option Value) (x : Int32), Wp 144 8 (l0 :: l1 :: some (.int x) :: ls) (st) h Q ↔ Wp 144 9 (l0 :: l1 :: some (.int x) :: ls) (.int x :: st) h Q) ∧
  (∀ (ls : Lo) (st : List Value) (h : Hp) (Q : Option Value → Hp → Prop) (x : Int32), Wp 144 9 (ls) (.int x :: st) h Q ↔ Br 144 55 12 ls st h Q (x < 0)) ∧
  (∀ (ls : Lo) (st : List Value) (h : Hp) (Q : Option Value → Hp → Prop) (l0 l1 : Option Value) (x : Int32), Wp 144 12 (l0 :: l1 :: some (.int x) :: ls) (st) h Q ↔ Wp 144 13 (l0 :: l1 :: some (.int x) :: ls) (.int x :: st) h Q) ∧
  (∀ (ls : Lo) (st : List Value) (h : Hp) (Q : Option Value → Hp → Prop)  (i : Nat), Wp 144 13 (some (.ref i) :: ls) (st) h Q ↔ Wp 144 14 (some (.ref i) :: ls) (.ref i :: st) h Q) ∧
  (∀ (ls : Lo) (st : List Value) (n sl : Nat) (C Z : Nat → Nat) (I : Nat → Nat → Int32) (L : Nat → Nat → Int64) (R : Nat → Nat → Nat) (Q : Option Value → Hp → Prop) (i : Nat), Wp 144 14 (ls) (.ref i :: st) (n, sl, C, Z, I, L, R) Q ↔ (C i = 11 ∧ Wp 144 17 (ls) (.ref (R i 2) :: st) (n, sl, C, Z, I, L, R) Q)) ∧
  (∀ (ls : Lo) (st : List Value) (h : Hp) (Q : Option Value → Hp → Prop) (l0 : Option Value) (x : Int32), Wp 144 17 (l0 :: some (.int x) :: ls) (st) h Q ↔ Wp 144 18 (l0 :: some (.int x) :: ls) (.int x :: st) h Q) ∧
  (∀ (ls : Lo) (st : List Value) (n sl : Nat) (C Z : Nat → Nat) (I : Nat → Nat → Int32) (L : Nat → Nat → Int64) (R : Nat → Nat → Nat) (Q : Option Value → Hp → Prop) (i : Nat) (y : Int32), Wp 144 18 (ls) (.int y :: .ref i :: st) (n, sl, C, Z, I, L, R) Q ↔ ((inb y (Z i) = true ∧ C i = 21) ∧ Wp 144 19 (ls) (.int (I i (ix y)) :: st) (n, sl, C, Z, I, L, R) Q)) ∧
  (∀ (ls : Lo) (st : List Value) (h : Hp) (Q : Option Value → Hp → Prop) (x y : Int32), Wp 144 19 (ls) (.int y :: .int x :: st) h Q ↔ Br 144 55 22 ls st h Q (y ≤ x)) ∧
  (∀ (ls : Lo) (st : List Value) (h : Hp) (Q : Option Value → Hp → Prop) (l0 l1 l2 : Option Value) (x : Int32), Wp 144 22 (l0 :: l1 :: l2 :: some (.int x) :: ls) (st) h Q ↔ Wp 144 23 (l0 :: l1 :: l2 :: some (.int x) :: ls) (.int x :: st) h Q) ∧
  (∀ (ls : Lo) (st : List Value) (h : Hp) (Q : Option Value → Hp → Prop) (x : Int32), Wp 144 23 (ls) (.int x :: st) h Q ↔ Br 144 55 26 ls st h Q (x < 0)) ∧
  (∀ (ls : Lo) (st : List Value) (h : Hp) (Q : Option Value → Hp → Prop) (l0 l1 l2 : Option Value) (x : Int32), Wp 144 26 (l0 :: l1 :: l2 :: some (.int x) :: ls) (st) h Q ↔ Wp 144 27 (l0 :: l1 :: l2 :: some (.int x) :: ls) (.int x :: st) h Q) ∧
  (∀ (ls : Lo) (st : List Value) (h : Hp) (Q : Option Value → Hp → Prop)  (i : Nat), Wp 144 27 (some (.ref i) :: ls) (st) h Q ↔ Wp 144 28 (some (.ref i) :: ls) (.ref i :: st) h Q) ∧
  (∀ (ls : Lo) (st : List Value) (n sl : Nat) (C Z : Nat → Nat) (I : Nat → Nat → Int32) (L : Nat → Nat → Int64) (R : Nat → Nat → Nat) (Q : Option Value → Hp → Prop) (i : Nat), Wp 144 28 (ls) (.ref i :: st) (n, sl, C, Z, I, L, R) Q ↔ (C i = 11 ∧ Wp 144 31 (ls) (.ref (R i 2) :: st) (n, sl, C, Z, I, L, R) Q)) ∧
  (∀ (ls : Lo) (st : List Value) (h : Hp) (Q : Option Value → Hp → Prop) (l0 : Option Value) (x : Int32), Wp 144 31 (l0 :: some (.int x) :: ls) (st) h Q ↔ Wp 144 32 (l0 :: some (.int x) :: ls) (.int x :: st) h Q) ∧
  (∀ (ls : Lo) (st : List Value) (n sl : Nat) (C Z : Nat → Nat) (I : Nat → Nat → Int32) (L : Nat → Nat → Int64) (R : Nat → Nat → Nat) (Q : Option Value → Hp → Prop) (i : Nat) (y : Int32), Wp 144 32 (ls) (.int y :: .ref i :: st) (n, sl, C, Z, I, L, R) Q ↔ ((inb y (Z i) = true ∧ C i = 21) ∧ Wp 144 33 (ls) (.int (I i (ix y)) :: st) (n, sl, C, Z, I, L, R) Q)) ∧
  (∀ (ls : Lo) (st : List Value) (h : Hp) (Q : Option Value → Hp → Prop) (x y : Int32), Wp 144 33 (ls) (.int y :: .int x :: st) h Q ↔ Br 144 55 36 ls st h Q (y ≤ x)) ∧
  (∀ (ls : Lo) (st : List Value) (h : Hp) (Q : Option Value → Hp → Prop) (l0 l1 l2 l3 : Option Value) (x : Int32), Wp 144 36 (l0 :: l1 :: l2 :: l3 :: some (.int x) :: ls) (st) h Q ↔ Wp 144 38 (l0 :: l1 :: l2 :: l3 :: some (.int x) :: ls) (.int x :: st) h Q) ∧
  (∀ (ls : Lo) (st : List Value) (h : Hp) (Q : Option Value → Hp → Prop) (x : Int32), Wp 144 38 (ls) (.int x :: st) h Q ↔ Br 144 55 41 ls st h Q (x < 0)) ∧
  (∀ (ls : Lo) (st : List Value) (h : Hp) (Q : Option Value → Hp → Prop) (l0 l1 l2 l3 : Option Value) (x : Int32), Wp 144 41 (l0 :: l1 :: l2 :: l3 :: some (.int x) :: ls) (st) h Q ↔ Wp 144 43 (l0 :: l1 :: l2 :: l3 :: some (.int x) :: ls) (.int x :: st) h Q) ∧
  (∀ (ls : Lo) (st : List Value) (h : Hp) (Q : Option Value → Hp → Prop), Wp 144 43 (ls) (st) h Q ↔ Wp 144 44 (ls) (.int (1) :: st) h Q) ∧
  (∀ (ls : Lo) (st : List Value) (h : Hp) (Q : Option Value → Hp → Prop) (x y : Int32), Wp 144 44 (ls) (.int y :: .int x :: st) h Q ↔ Br 144 55 47 ls st h Q (y < x)) := ⟨by intro ls st h Q i; exact e_aload_n d144_0 rfl,
  by intro ls st h Q l0 x; exact e_iload_n d144_1 rfl,
  by intro ls st n sl C Z I L R Q x0 i hh; exact e_iv (k2 := 103) (c := 11) (as := [.int x0]) d144_2 rfl (by decide) rfl rfl (by decide +kernel) (Nat.le_of_ble_eq_true rfl) rfl hh,
  by intro ls st h Q x; exact e_if d144_5 (by decide) c_eq,
  by intro ls st h Q l0 l1 x; exact e_iload_n d144_8 rfl,
  by intro ls st h Q x; exact e_if d144_9 (by decide) c_lt,
  by intro ls st h Q l0 l1 x; exact e_iload_n d144_12 rfl,
  by intro ls st h Q i; exact e_aload_n d144_13 rfl,
  by intro ls st n sl C Z I L R Q i; exact e_get (g := 10) (s := 2) (ty := 2) d144_14 rfl rfl (inG_ne (by decide)),
  by intro ls st h Q l0 x; exact e_iload_n d144_17 rfl,
  by intro ls st n sl C Z I L R Q i y; exact e_iald d144_18,
  by intro ls st h Q x y; exact e_ic d144_19 (by decide) c_ge,
  by intro ls st h Q l0 l1 l2 x; exact e_iload_n d144_22 rfl,
  by intro ls st h Q x; exact e_if d144_23 (by decide) c_lt,
  by intro ls st h Q l0 l1 l2 x; exact e_iload_n d144_26 rfl,
  by intro ls st h Q i; exact e_aload_n d144_27 rfl,
  by intro ls st n sl C Z I L R Q i; exact e_get (g := 10) (s := 2) (ty := 2) d144_28 rfl rfl (inG_ne (by decide)),
  by intro ls st h Q l0 x; exact e_iload_n d144_31 rfl,
  by intro ls st n sl C Z I L R Q i y; exact e_iald d144_32,
  by intro ls st h Q x y; exact e_ic d144_33 (by decide) c_ge,
  by intro ls st h Q l0 l1 l2 l3 x; exact e_iload d144_36 rfl,
  by intro ls st h Q x; exact e_if d144_38 (by decide) c_lt,
  by intro ls st h Q l0 l1 l2 l3 x; exact e_iload d144_41 rfl,
  by intro ls st h Q; exact e_iconst d144_43 rfl,
  by intro ls st h Q x y; exact e_ic d144_44 (by decide) c_gt⟩
set_option maxRecDepth 20000 in
theorem S144_1 : (∀ (ls : Lo) (st : List Value) (h : Hp) (Q : Option Value → Hp → Prop)  (i : Nat), Wp 144 47 (some (.ref i) :: ls) (st) h Q ↔ Wp 144 48 (some (.ref i) :: ls) (.ref i :: st) h Q) ∧
  (∀ (ls : Lo) (st : List Value) (h : Hp) (Q : Option Value → Hp → Prop) (l0 : Option Value) (x : Int32), Wp 144 48 (l0 :: some (.int x) :: ls) (st) h Q ↔ Wp 144 49 (l0 :: some (.int x) :: ls) (.int x :: st) h Q) ∧
  (∀ (ls : Lo) (st : List Value) (n sl : Nat) (C Z : Nat → Nat) (I : Nat → Nat → Int32) (L : Nat → Nat → Int64) (R : Nat → Nat → Nat) (Q : Option Value → Hp → Prop) (x0 : Int32) (i : Nat), C i = 11 → (Wp 144 49 (ls) (.int x0 :: .ref i :: st) (n, sl, C, Z, I, L, R) Q ↔ (wsum st ≤ 8 ∧ Call 143 [some (.ref i), some (.int x0), none] (n, sl, C, Z, I, L, R) 144 52 ls st Q))) ∧
  (∀ (ls : Lo) (st : List Value) (h : Hp) (Q : Option Value → Hp → Prop) (x : Int32), Wp 144 52 (ls) (.int x :: st) h Q ↔ Br 144 59 55 ls st h Q (¬ x = 0)) ∧
  (∀ (ls : Lo) (st : List Value) (h : Hp) (Q : Option Value → Hp → Prop), Wp 144 55 (ls) (st) h Q ↔ Wp 144 58 (ls) (.long (-4611686018427387904) :: st) h Q) ∧
  (∀ (ls : Lo) (h : Hp) (Q : Option Value → Hp → Prop) (a : Int64), Wp 144 58 (ls) ([.long a]) h Q ↔ Q (some (.long a)) h) ∧
  (∀ (ls : Lo) (st : List Value) (h : Hp) (Q : Option Value → Hp → Prop)  (i : Nat), Wp 144 59 (some (.ref i) :: ls) (st) h Q ↔ Wp 144 60 (some (.ref i) :: ls) (.ref i :: st) h Q) ∧
  (∀ (ls : Lo) (st : List Value) (h : Hp) (Q : Option Value → Hp → Prop)  (i : Nat), Wp 144 60 (some (.ref i) :: ls) (st) h Q ↔ Wp 144 61 (some (.ref i) :: ls) (.ref i :: st) h Q) ∧
  (∀ (ls : Lo) (st : List Value) (h : Hp) (Q : Option Value → Hp → Prop)  (i : Nat), Wp 144 61 (some (.ref i) :: ls) (st) h Q ↔ Wp 144 62 (some (.ref i) :: ls) (.ref i :: st) h Q) ∧
  (∀ (ls : Lo) (st : List Value) (n sl : Nat) (C Z : Nat → Nat) (I : Nat → Nat → Int32) (L : Nat → Nat → Int64) (R : Nat → Nat → Nat) (Q : Option Value → Hp → Prop) (i : Nat), Wp 144 62 (ls) (.ref i :: st) (n, sl, C, Z, I, L, R) Q ↔ (C i = 11 ∧ Wp 144 65 (ls) (.ref (R i 2) :: st) (n, sl, C, Z, I, L, R) Q)) ∧
  (∀ (ls : Lo) (st : List Value) (h : Hp) (Q : Option Value → Hp → Prop) (l0 : Option Value) (x : Int32), Wp 144 65 (l0 :: some (.int x) :: ls) (st) h Q ↔ Wp 144 66 (l0 :: some (.int x) :: ls) (.int x :: st) h Q) ∧
  (∀ (ls : Lo) (st : List Value) (n sl : Nat) (C Z : Nat → Nat) (I : Nat → Nat → Int32) (L : Nat → Nat → Int64) (R : Nat → Nat → Nat) (Q : Option Value → Hp → Prop) (i : Nat) (y : Int32), Wp 144 66 (ls) (.int y :: .ref i :: st) (n, sl, C, Z, I, L, R) Q ↔ ((inb y (Z i) = true ∧ C i = 21) ∧ Wp 144 67 (ls) (.int (I i (ix y)) :: st) (n, sl, C, Z, I, L, R) Q)) ∧
  (∀ (ls : Lo) (st : List Value) (h : Hp) (Q : Option Value → Hp → Prop), Wp 144 67 (ls) (st) h Q ↔ Wp 144 68 (ls) (.int (1) :: st) h Q) ∧
  (∀ (ls : Lo) (st : List Value) (h : Hp) (Q : Option Value → Hp → Prop) (x y : Int32), Wp 144 68 (ls) (.int y :: .int x :: st) h Q ↔ Br 144 75 71 ls st h Q (¬ x = y)) ∧
  (∀ (ls : Lo) (st : List Value) (h : Hp) (Q : Option Value → Hp → Prop), Wp 144 71 (ls) (st) h Q ↔ Wp 144 72 (ls) (.int (1) :: st) h Q) ∧
  (∀ (ls : Lo) (st : List Value) (h : Hp) (Q : Option Value → Hp → Prop), Wp 144 72 (ls) (st) h Q ↔ Wp 144 76 (ls) (st) h Q) ∧
  (∀ (ls : Lo) (st : List Value) (h : Hp) (Q : Option Value → Hp → Prop), Wp 144 75 (ls) (st) h Q ↔ Wp 144 76 (ls) (.int (3) :: st) h Q) ∧
  (∀ (ls : Lo) (st : List Value) (h : Hp) (Q : Option Value → Hp → Prop) (l0 l1 : Option Value) (x : Int32), Wp 144 76 (l0 :: l1 :: some (.int x) :: ls) (st) h Q ↔ Wp 144 77 (l0 :: l1 :: some (.int x) :: ls) (.int x :: st) h Q) ∧
  (∀ (ls : Lo) (st : List Value) (h : Hp) (Q : Option Value → Hp → Prop) (l0 l1 l2 : Option Value) (x : Int32), Wp 144 77 (l0 :: l1 :: l2 :: some (.int x) :: ls) (st) h Q ↔ Wp 144 78 (l0 :: l1 :: l2 :: some (.int x) :: ls) (.int x :: st) h Q) ∧
  (∀ (ls : Lo) (st : List Value) (h : Hp) (Q : Option Value → Hp → Prop) (x y : Int32), Wp 144 78 (ls) (.int y :: .int x :: st) h Q ↔ Wp 144 79 (ls) (.int (x + y) :: st) h Q) ∧
  (∀ (ls : Lo) (st : List Value) (n sl : Nat) (C Z : Nat → Nat) (I : Nat → Nat → Int32) (L : Nat → Nat → Int64) (R : Nat → Nat → Nat) (Q : Option Value → Hp → Prop) (x0 : Int32) (x1 : Int32) (i : Nat), C i = 11 → (Wp 144 79 (ls) (.int x1 :: .int x0 :: .ref i :: st) (n, sl, C, Z, I, L, R) Q ↔ (wsum st ≤ 8 ∧ Call 139 [some (.ref i), some (.int x0), some (.int x1), none, none] (n, sl, C, Z, I, L, R) 144 82 ls st Q))) ∧
  (∀ (ls : Lo) (st : List Value) (h : Hp) (Q : Option Value → Hp → Prop)  (i : Nat), Wp 144 82 (some (.ref i) :: ls) (st) h Q ↔ Wp 144 83 (some (.ref i) :: ls) (.ref i :: st) h Q) ∧
  (∀ (ls : Lo) (st : List Value) (h : Hp) (Q : Option Value → Hp → Prop)  (i : Nat), Wp 144 83 (some (.ref i) :: ls) (st) h Q ↔ Wp 144 84 (some (.ref i) :: ls) (.ref i :: st) h Q) ∧
  (∀ (ls : Lo) (st : List Value) (n sl : Nat) (C Z : Nat → Nat) (I : Nat → Nat → Int32) (L : Nat → Nat → Int64) (R : Nat → Nat → Nat) (Q : Option Value → Hp → Prop) (i : Nat), Wp 144 84 (ls) (.ref i :: st) (n, sl, C, Z, I, L, R) Q ↔ (C i = 11 ∧ Wp 144 87 (ls) (.ref (R i 2) :: st) (n, sl, C, Z, I, L, R) Q)) ∧
  (∀ (ls : Lo) (st : List Value) (h : Hp) (Q : Option Value → Hp → Prop) (l0 : Option Value) (x : Int32), Wp 144 87 (l0 :: some (.int x) :: ls) (st) h Q ↔ Wp 144 88 (l0 :: some (.int x) :: ls) (.int x :: st) h Q) := ⟨by intro ls st h Q i; exact e_aload_n d144_47 rfl,
  by intro ls st h Q l0 x; exact e_iload_n d144_48 rfl,
  by intro ls st n sl C Z I L R Q x0 i hh; exact e_iv (k2 := 143) (c := 11) (as := [.int x0]) d144_49 rfl (by decide) rfl rfl (by decide +kernel) (Nat.le_of_ble_eq_true rfl) rfl hh,
  by intro ls st h Q x; exact e_if d144_52 (by decide) c_ne,
  by intro ls st h Q; exact e_ldc2 (p := 980) d144_55 rfl,
  by intros; exact e_rL d144_58 rfl,
  by intro ls st h Q i; exact e_aload_n d144_59 rfl,
  by intro ls st h Q i; exact e_aload_n d144_60 rfl,
  by intro ls st h Q i; exact e_aload_n d144_61 rfl,
  by intro ls st n sl C Z I L R Q i; exact e_get (g := 10) (s := 2) (ty := 2) d144_62 rfl rfl (inG_ne (by decide)),
  by intro ls st h Q l0 x; exact e_iload_n d144_65 rfl,
  by intro ls st n sl C Z I L R Q i y; exact e_iald d144_66,
  by intro ls st h Q; exact e_iconst d144_67 rfl,
  by intro ls st h Q x y; exact e_ic d144_68 (by decide) c_ne,
  by intro ls st h Q; exact e_iconst d144_71 rfl,
  by intro ls st h Q; exact e_goto d144_72 (by decide),
  by intro ls st h Q; exact e_iconst d144_75 rfl,
  by intro ls st h Q l0 l1 x; exact e_iload_n d144_76 rfl,
  by intro ls st h Q l0 l1 l2 x; exact e_iload_n d144_77 rfl,
  by intro ls st h Q x y; exact e_iadd d144_78,
  by intro ls st n sl C Z I L R Q x0 x1 i hh; exact e_iv (k2 := 139) (c := 11) (as := [.int x0, .int x1]) d144_79 rfl (by decide) rfl rfl (by decide +kernel) (Nat.le_of_ble_eq_true rfl) rfl hh,
  by intro ls st h Q i; exact e_aload_n d144_82 rfl,
  by intro ls st h Q i; exact e_aload_n d144_83 rfl,
  by intro ls st n sl C Z I L R Q i; exact e_get (g := 10) (s := 2) (ty := 2) d144_84 rfl rfl (inG_ne (by decide)),
  by intro ls st h Q l0 x; exact e_iload_n d144_87 rfl⟩
set_option maxRecDepth 20000 in
theorem S144_2 : (∀ (ls : Lo) (st : List Value) (n sl : Nat) (C Z : Nat → Nat) (I : Nat → Nat → Int32) (L : Nat → Nat → Int64) (R : Nat → Nat → Nat) (Q : Option Value → Hp → Prop) (i : Nat) (y : Int32), Wp 144 88 (ls) (.int y :: .ref i :: st) (n, sl, C, Z, I, L, R) Q ↔ ((inb y (Z i) = true ∧ C i = 21) ∧ Wp 144 89 (ls) (.int (I i (ix y)) :: st) (n, sl, C, Z, I, L, R) Q)) ∧
  (∀ (ls : Lo) (st : List Value) (h : Hp) (Q : Option Value → Hp → Prop), Wp 144 89 (ls) (st) h Q ↔ Wp 144 90 (ls) (.int (1) :: st) h Q) ∧
  (∀ (ls : Lo) (st : List Value) (h : Hp) (Q : Option Value → Hp → Prop) (x y : Int32), Wp 144 90 (ls) (.int y :: .int x :: st) h Q ↔ Br 144 97 93 ls st h Q (¬ x = y)) ∧
  (∀ (ls : Lo) (st : List Value) (h : Hp) (Q : Option Value → Hp → Prop), Wp 144 93 (ls) (st) h Q ↔ Wp 144 94 (ls) (.int (1) :: st) h Q) ∧
  (∀ (ls : Lo) (st : List Value) (h : Hp) (Q : Option Value → Hp → Prop), Wp 144 94 (ls) (st) h Q ↔ Wp 144 98 (ls) (st) h Q) ∧
  (∀ (ls : Lo) (st : List Value) (h : Hp) (Q : Option Value → Hp → Prop), Wp 144 97 (ls) (st) h Q ↔ Wp 144 98 (ls) (.int (3) :: st) h Q) ∧
  (∀ (ls : Lo) (st : List Value) (h : Hp) (Q : Option Value → Hp → Prop), Wp 144 98 (ls) (st) h Q ↔ Wp 144 99 (ls) (.int (-1) :: st) h Q) ∧
  (∀ (ls : Lo) (st : List Value) (n sl : Nat) (C Z : Nat → Nat) (I : Nat → Nat → Int32) (L : Nat → Nat → Int64) (R : Nat → Nat → Nat) (Q : Option Value → Hp → Prop) (x0 : Int32) (x1 : Int32) (i : Nat), C i = 11 → (Wp 144 99 (ls) (.int x1 :: .int x0 :: .ref i :: st) (n, sl, C, Z, I, L, R) Q ↔ (wsum st ≤ 8 ∧ Call 139 [some (.ref i), some (.int x0), some (.int x1), none, none] (n, sl, C, Z, I, L, R) 144 102 ls st Q))) ∧
  (∀ (ls : Lo) (st : List Value) (n sl : Nat) (C Z : Nat → Nat) (I : Nat → Nat → Int32) (L : Nat → Nat → Int64) (R : Nat → Nat → Nat) (Q : Option Value → Hp → Prop) (x0 : Int64) (x1 : Int64) (i : Nat), C i = 11 → (Wp 144 102 (ls) (.long x1 :: .long x0 :: .ref i :: st) (n, sl, C, Z, I, L, R) Q ↔ (wsum st ≤ 8 ∧ Call 106 [some (.ref i), some (.long x0), none, some (.long x1), none, none, none] (n, sl, C, Z, I, L, R) 144 105 ls st Q))) ∧
  (∀ (ls : Lo) (st : List Value) (h : Hp) (Q : Option Value → Hp → Prop)  (i : Nat), Wp 144 105 (some (.ref i) :: ls) (st) h Q ↔ Wp 144 106 (some (.ref i) :: ls) (.ref i :: st) h Q) ∧
  (∀ (ls : Lo) (st : List Value) (h : Hp) (Q : Option Value → Hp → Prop) (l0 l1 l2 l3 : Option Value) (x : Int32), Wp 144 106 (l0 :: l1 :: l2 :: l3 :: some (.int x) :: ls) (st) h Q ↔ Wp 144 108 (l0 :: l1 :: l2 :: l3 :: some (.int x) :: ls) (.int x :: st) h Q) ∧
  (∀ (ls : Lo) (st : List Value) (n sl : Nat) (C Z : Nat → Nat) (I : Nat → Nat → Int32) (L : Nat → Nat → Int64) (R : Nat → Nat → Nat) (Q : Option Value → Hp → Prop) (x0 : Int32) (i : Nat), C i = 11 → (Wp 144 108 (ls) (.int x0 :: .ref i :: st) (n, sl, C, Z, I, L, R) Q ↔ (wsum st ≤ 8 ∧ Call 107 [some (.ref i), some (.int x0)] (n, sl, C, Z, I, L, R) 144 111 ls st Q))) ∧
  (∀ (ls : Lo) (h : Hp) (Q : Option Value → Hp → Prop) (a : Int64), Wp 144 111 (ls) ([.long a]) h Q ↔ Q (some (.long a)) h) := ⟨by intro ls st n sl C Z I L R Q i y; exact e_iald d144_88,
  by intro ls st h Q; exact e_iconst d144_89 rfl,
  by intro ls st h Q x y; exact e_ic d144_90 (by decide) c_ne,
  by intro ls st h Q; exact e_iconst d144_93 rfl,
  by intro ls st h Q; exact e_goto d144_94 (by decide),
  by intro ls st h Q; exact e_iconst d144_97 rfl,
  by intro ls st h Q; exact e_iconst d144_98 rfl,
  by intro ls st n sl C Z I L R Q x0 x1 i hh; exact e_iv (k2 := 139) (c := 11) (as := [.int x0, .int x1]) d144_99 rfl (by decide) rfl rfl (by decide +kernel) (Nat.le_of_ble_eq_true rfl) rfl hh,
  by intro ls st n sl C Z I L R Q x0 x1 i hh; exact e_iv (k2 := 106) (c := 11) (as := [.long x0, .long x1]) d144_102 rfl (by decide) rfl rfl (by decide +kernel) (Nat.le_of_ble_eq_true rfl) rfl hh,
  by intro ls st h Q i; exact e_aload_n d144_105 rfl,
  by intro ls st h Q l0 l1 l2 l3 x; exact e_iload d144_106 rfl,
  by intro ls st n sl C Z I L R Q x0 i hh; exact e_iv (k2 := 107) (c := 11) (as := [.int x0]) d144_108 rfl (by decide) rfl rfl (by decide +kernel) (Nat.le_of_ble_eq_true rfl) rfl hh,
  by intros; exact e_rL d144_111 rfl⟩
