/-- the law makes an object -/
theorem lw_new {D : va_G} {dA : Nat → ClassId} {p : Program} {l : Launch} {e : Env} {s : State} {m : MethodId} {below : List Frame} {meth : Method} {c : Code} {b L : Nat} {xs : Nat → Int32} (C0 : lw_At p s m meth c b L xs) (hst : Stt D dA s) {z pc cq : Nat} (hd : decode code pc = .ok (.new z, 3)) (hlk : Cond.classLink R_law z (clN cq) ∈ TB) (hcq : cq < 11) {h : Hp} {H : Heap} {locs : List Loc} {lsC : Array Slot} {st : List Value} {Q : State → Prop} (hH : HR D dA s.heap.size h H) (hS : va_S (fun q => s.heap.size ≤ q) s.heap H locs) (hrm : h.1 + 1 ≤ 702281 ∧ h.2.1 + nfs cq ≤ 6995406)
    (kk : ∀ H1 : Heap, HR D dA s.heap.size (nwO h cq) H1 → va_S (fun q => s.heap.size ≤ q) s.heap H1 locs → W p l e room_1 s m #[Value.ref b] below meth c H1 locs (h.1 + 1) (h.2.1 + nfs cq) Q (F0 m (pc + 3) lsC (.ref (s.heap.size + h.1) :: st))) : W p l e room_1 s m #[Value.ref b] below meth c H locs h.1 h.2.1 Q (F0 m pc lsC st) := by
  obtain ⟨hx, hb, hrt, hml, hown, hts0, -, -, -, -⟩ := C0
  have hts : ∀ w ∈ TB, w.before #[Value.ref b] s = true := fun w hw => hts0 w (TB_in hw)
  obtain ⟨r, hr⟩ : ∃ r, vwCl[cq]? = some r := ⟨_, List.getElem?_eq_getElem (by simpa [vwCl] using hcq)⟩
  have hcn : clN cq = r.1 := by simp [clN, hr, show cq ≠ 23 by omega]
  have hnf : nfs cq = r.2.2 := by simp [nfs, hr]
  obtain ⟨hin, hty, hnm, hinst, hini⟩ := clp cq r hr
  have hKn := hst.1.1 cq r hr
  rw [hcn] at hlk
  rw [hnf] at hrm kk
  refine W.newcK hx hb hown (hts _ hlk) (hts _ hinst) (hts _ hini) rfl hd hrm.1 hrm.2 hKn.2.1 hH.1 fun H1 kC hkC e1 z1 o1 => ?_
  refine kk H1 ?_ ⟨Nat.le_trans hS.1 (by rw [z1, hH.1]; omega), fun x h1 h2 => (o1 x (by rw [← hH.1]; exact Nat.lt_of_lt_of_le h1 hS.1)).trans (hS.2.1 x h1 h2), hS.2.2⟩
  refine hH.grow (m := 1) (by rw [z1, hH.1]) (fun q hq => o1 q (by rw [← hH.1]; exact hq)) rfl (fun j hj => va_up_no _ _ (by omega)) (fun j hj => rfl) (fun j hj => va_up_no _ _ (by omega)) (fun j hj => va_up_no _ _ (by omega)) (fun j hj => va_up_no _ _ (by omega)) (fun j hj => ?_)
  have : j = 0 := by omega
  subst this
  refine ⟨fun c2 r2 h5 h6 => ?_, fun h5 => ?_, fun h5 => ?_, fun t ht h5 => ?_⟩
  · replace h5 : va_up h.2.2.1 (h.1 + 1) (cq + 1) (h.1 + 1) = c2 + 1 := h5
    rw [va_up_at] at h5
    have : c2 = cq := by omega
    subst this
    cases hr.symm.trans h6
    refine (u_born _ hts hin hKn hkC e1 hty).to (fun k1 hk1 => ?_)
    have hne := tyc_ok c2 r hr k1 hk1
    simp only [fva, nwO, Nat.add_zero, va_up_at]
    unfold tyc at hne ⊢
    cases ht : tyF.getD c2 (fun _ => .int) k1 <;> simp [ht, tcode] at hne <;> simp [tcode, defaultValue, cv, cvr]
  · replace h5 : va_up h.2.2.1 (h.1 + 1) (cq + 1) (h.1 + 1) = 21 := h5
    rw [va_up_at] at h5
    omega
  · replace h5 : va_up h.2.2.1 (h.1 + 1) (cq + 1) (h.1 + 1) = 22 := h5
    rw [va_up_at] at h5
    omega
  · replace h5 : va_up h.2.2.1 (h.1 + 1) (cq + 1) (h.1 + 1) = 23 + t := h5
    rw [va_up_at] at h5
    omega
/-- a constructor, called by the law -/
theorem lw_callI {D : va_G} {dA : Nat → ClassId} {base : Nat} {p : Program} {l : Launch} {e : Env} {s : State} {m : MethodId} {below : List Frame} {meth : Method} {c : Code} {b L : Nat} {xs : Nat → Int32} (C0 : lw_At p s m meth c b L xs) (hst : Stt D dA s) {k2 z pc : Nat} (hk2 : k2 < 168) (hd : decode code pc = .ok (.invokespecial z, 3))
    (hwd : Cond.methodLink R_law z (mNm k2) ∈ TB ∧ Cond.instanceMethod (mNm k2) ∈ TB) (hn : npr (mNm k2).desc = some 0) (hnm : (mNm k2).name = "<init>") (hret : mRt k2 = none) (hfr : mFr k2 + 1 ≤ 11 ∧ 8 + (mxl k2 + 11) + mLo k2 ≤ 406) {j : Nat} {h h1 : Hp} (hla : (lay [.ref (j + 1)]).length ≤ mxl k2) (hv : VK l k2 0 (pad (mxl k2) (lay [.ref (j + 1)])) [] h none h1) {rest : List Value} (hw : wsum rest ≤ 8) (hrm : h1.1 ≤ 702281 ∧ h1.2.1 ≤ 6995406)
    {H : Heap} {locs : List Loc} {lsC : Array Slot} {Q : State → Prop} (hH : HR D dA base h H) (hS : va_S (fun q => base ≤ q) s.heap H locs) (hsz : lsC.size = 4)
    (kk : ∀ (H1 : Heap) (locs1 : List Loc), HR D dA base h1 H1 → va_S (fun q => base ≤ q) s.heap H1 locs1 → W p l e room_1 s m #[Value.ref b] below meth c H1 locs1 h1.1 h1.2.1 Q (F0 m (pc + 3) lsC (rest.map (cv base)))) : W p l e room_1 s m #[Value.ref b] below meth c H locs h.1 h.2.1 Q (F0 m pc lsC (.ref (base + j) :: rest.map (cv base))) := by
  obtain ⟨hx, hb, hrt, hml, hown, hts0, -, -, -, -⟩ := C0
  have hts : ∀ w ∈ TB, w.before #[Value.ref b] s = true := fun w hw => hts0 w (TB_in hw)
  obtain ⟨m1, m2, m3, m4, m5, m6⟩ := mP_of hk2
  obtain ⟨⟨v1, v2⟩, -⟩ := id hv
  have hM := met_of hk2 hla hv D dA base
  have fix : CallFix p m c code 4 s #[Value.ref b] TB R_law := ⟨hx, hb, hml, hown, hts⟩
  have cb : CallB room_1 s #[Value.ref b] R_law z (mNm k2) (byt k2) (mxl k2) (mRt k2) (wsK k2) { frames := mFr k2, cells := h1.1 - h.1, slots := h1.2.1 - h.2.1, locals := mLo k2 } (h1.1 - h.1) (h1.2.1 - h.2.1) 0 := ⟨rfl, rfl, hfr.1, hfr.2, pay_in hts (good_ws hk2), List.mem_cons_self, hts _ m1, hts _ m3, ⟨m5, m6⟩, npr_len hn, hts _ hwd.1⟩
  rw [hret] at cb
  have pv : PreS s H (PcK D dA base [.ref (j + 1)] h) [.ref (base + j)] := ⟨PcK.blind, fun U hU hW => ⟨rfl, by rw [hU]; exact hH, hst.warm hW⟩⟩
  have rn := va_runI (l := l) (e := e) (below := below) (meth := meth) (locs := locs) (cells := h.1) (slots := h.2.1) (As := []) (b := base + j) (rest := rest.map (cv base)) (g := F0 m pc lsC (.ref (base + j) :: rest.map (cv base))) fix hM ⟨cb, hnm, hts _ hwd.2⟩ pv rfl rfl hsz rfl (hW_of hw) hd ⟨by show h.1 + (h1.1 - h.1) ≤ 702281; omega, by show h.2.1 + (h1.2.1 - h.2.1) ≤ 6995406; omega⟩
  refine W_call rn hS fun H1 locs1 hH1 hS1 => ?_
  have w := kk H1 locs1 hH1 hS1
  rw [show h.1 + (h1.1 - h.1) = h1.1 by omega, show h.2.1 + (h1.2.1 - h.2.1) = h1.2.1 by omega]
  exact w
def hE0 : Hp := (0, 0, fun _ => 0, fun _ => 0, fun _ _ => 0, fun _ _ => 0, fun _ _ => 0)
theorem HR_E0 {D : va_G} {dA : Nat → ClassId} {H : Heap} : HR D dA H.size hE0 H := ⟨rfl, rfl, fun i h => absurd rfl h, fun i => ⟨(fun c r h => by cases h), (fun h => by cases h), (fun h => by cases h), (fun t _ h => by have : (0 : Nat) = 23 + t := h; omega)⟩⟩
theorem Inv_start {sl : Nat} {C Z : Nat → Nat} {I : Nat → Nat → Int32} {L : Nat → Nat → Int64} {R : Nat → Nat → Nat} (hlay : Lay C Z R) (i1 : I 1 1 = 0 ∧ I 1 4 = 0 ∧ I 5 1 = 0) (i74 : I 74 0 = 0 ∧ I 74 13 = 0 ∧ I 74 20 = 0) (r7 : ∀ s, R 7 s = 0) (s87 : ∀ s, s < 4 → I 87 s = -1) : Inv (98, sl, C, Z, I, L, R) := by
  refine ⟨0, 0, 0, by omega, Nat.le_refl _, hlay, ⟨by rw [nI_0]; exact i1.1, by rw [nI_0]; exact i74.1⟩, fun j hj => absurd hj (by omega), fun s hs => Or.inl ⟨r7 s, s87 s hs⟩, ⟨fun i j hi => absurd hi (by omega), fun s j _ hj => absurd hj (by omega), fun s t _ _ _ h => absurd (r7 s) h⟩, ⟨by omega, by rw [nI_0]; exact i1.2.1, by rw [nI_0]; exact i74.2.1, fun i hi => absurd hi (by omega)⟩, by omega, by rw [nI_0]; exact i1.2.2, by rw [nI_0]; exact i74.2.2, fun i hi => absurd hi (by omega)⟩
set_option maxRecDepth 100000 in
set_option maxHeartbeats 4000000 in
/-- from the entry, for every script of at most 3584 ints, the law comes to its end with true -/
theorem whole_start {p : Program} {e : Env} {s : State} {m : MethodId} {below : List Frame} {meth : Method} {c : Code} (l : Launch) {b L : Nat} {xs : Nat → Int32} (hL : L ≤ 3584) (C0 : lw_At p s m meth c b L xs) : W p l e room_1 s m #[Value.ref b] below meth c s.heap [] 0 0 (lw_Z below #[Value.ref b] s) (entryFrame m ([Value.ref b] : List Value).toArray 4) := by
  obtain ⟨hx, hb, hrt, hml, hown, hts0, hX, hbl, hlk, hgv⟩ := id C0
  obtain ⟨D, dA, hst⟩ := stt_start hts0 hgv
  have hS : va_S (fun q : Nat => s.heap.size ≤ q) s.heap s.heap [] := va_S.rf
  have hl := lv_entry ([.ref b]) (n := 4) (Nat.le_of_ble_eq_true rfl)
  rw [lg_entry_eq]
  generalize (lg_sl ([.ref b]) ++ List.replicate (4 - (lg_sl ([.ref b])).length) Slot.unset).toArray = ls at hl ⊢
  have hl : lv_has ls 4 [(0, .ref b)] := hl
  obtain ⟨f1, r1, h1, e1, rfl, n1, sl1, ⟨lB, lK, lO, lE⟩, c0, c73, ia, ib, ic, r7, r2⟩ := c_benchInit
  have v1 := run_snd l _ _ _ _ _ _ _ _ e1
  obtain ⟨n1', s1', C1, Z1, I1, L1, R1⟩ := h1
  dsimp only at n1 sl1 lB lK lO lE c0 c73 ia ib ic r7 r2
  subst n1
  obtain ⟨f2, r2', h2, e2, rfl, n2, sl2, lM, s87, i74, kp⟩ := c_modelInit (sl := s1') (C := C1) (Z := Z1) (I := I1) (L := L1) (R := R1)
  have v2 := run_snd l _ _ _ _ _ _ _ _ e2
  obtain ⟨n2', s2', C2, Z2, I2, L2, R2⟩ := h2
  dsimp only at n2 sl2 lM s87 i74 kp
  subst n2
  have hI : Inv (98, s2', C2, Z2, I2, L2, R2) := by
    have kC : ∀ i, i ≤ 73 → C2 i = C1 i := fun i hi => (kp i hi).1
    have kZ : ∀ i, i ≤ 73 → Z2 i = Z1 i := fun i hi => (kp i hi).2.1
    have kI : ∀ i, i ≤ 73 → I2 i = I1 i := fun i hi => (kp i hi).2.2.1
    have kR : ∀ i, i ≤ 73 → R2 i = R1 i := fun i hi => (kp i hi).2.2.2.2
    refine Inv_start ⟨?_, ?_, ?_, ?_, lM⟩ ⟨by rw [kI 1 (by omega)]; exact ia, by rw [kI 1 (by omega)]; exact ib, by rw [kI 5 (by omega)]; exact ic⟩ i74 (fun s => by rw [kR 7 (by omega)]; exact r7 s) s87
    · unfold LayB at *
      simp [kC, kZ, kR, lB]
    · unfold LayK at *
      simp [kC, kZ, kR, lK]
    · unfold LayO at *
      simp [kC, kZ, kR, lO]
    · unfold LayE at *
      simp [kC, kZ, kR, lE]
  have nf9 : nfs 9 = 11 := by decide +kernel
  have nf10 : nfs 10 = 30 := by decide +kernel
  have e00 : nwO hE0 9 = h00 := by unfold nwO hE0 h00; rw [nf9]
  refine lw_new (h := hE0) (cq := 9) C0 hst dl_0 (isT_TB (i := 68) (by decide +kernel)) (by omega) HR_E0 hS ⟨by show 0 + 1 ≤ 702281; omega, by rw [nf9]; show 0 + 11 ≤ 6995406; omega⟩ (fun H1 hH1 hS1 => ?_)
  rw [e00] at hH1
  refine lv_dup hx hb dl_3 rfl ?_
  rw [nf9]
  refine lw_callI (base := s.heap.size) (h := h00) (j := 0) (rest := [.ref 1]) (k2 := 58) C0 hst (by decide) dl_4 ⟨isT_TB (i := 70) (by decide +kernel), isT_TB (i := 71) (by decide +kernel)⟩ (by decide +kernel) (by decide +kernel) (by decide +kernel) (by decide +kernel) (by decide +kernel) v1 (by decide) ⟨by show 73 ≤ 702281; omega, by show s1' ≤ 6995406; omega⟩ hH1 hS1 hl.1 (fun H2 locs2 hH2 hS2 => ?_)
  refine lv_astore_n (lv' := [(1, .ref (s.heap.size + 0)), (0, .ref b)]) hx hb dl_7 rfl hl (by decide) rfl (fun ls hl => ?_)
  refine lw_new (h := (73, s1', C1, Z1, I1, L1, R1)) (cq := 10) C0 hst dl_8 (isT_TB (i := 751) (by decide +kernel)) (by omega) hH2 hS2 ⟨by show 73 + 1 ≤ 702281; omega, by rw [nf10]; show s1' + 30 ≤ 6995406; omega⟩ (fun H3 hH3 hS3 => ?_)
  refine lv_dup hx hb dl_11 rfl ?_
  refine lw_callI (base := s.heap.size) (h := nwO (73, s1', C1, Z1, I1, L1, R1) 10) (j := 73) (rest := [.ref 74]) (k2 := 102) C0 hst (by decide) dl_12 ⟨isT_TB (i := 753) (by decide +kernel), isT_TB (i := 754) (by decide +kernel)⟩ (by decide +kernel) (by decide +kernel) (by decide +kernel) (by decide +kernel) (by decide +kernel) v2 (by decide) ⟨by show 98 ≤ 702281; omega, by show s2' ≤ 6995406; omega⟩ hH3 hS3 hl.1 (fun H4 locs4 hH4 hS4 => ?_)
  refine lv_astore_n (lv' := [(2, .ref (s.heap.size + 73)), (1, .ref (s.heap.size + 0)), (0, .ref b)]) hx hb dl_15 rfl hl (by decide) rfl (fun ls hl => ?_)
  refine lv_iconst (v := nI (7 * 0)) hx hb dl_16 (by decide +kernel) ?_
  refine lv_istore_n (lv' := lawL s.heap.size b 0) hx hb dl_17 rfl hl (by decide) rfl (fun ls hl => ?_)
  exact law_loop C0 hst hL 513 0 (98, s2', C2, Z2, I2, L2, R2) H4 locs4 ls (by omega) (by omega) hH4 hI (by show 98 ≤ 98 + 5 * 0; omega) (by show s2' ≤ 2000 + 42 * 0; omega) hS4 hl
