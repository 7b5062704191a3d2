section GO6
variable {k pc len : Nat} {ls : Lo} {st : List Value} {h : Hp} {pc' : Nat} {ls' : Lo} {st' : List Value} {h' : Hp}
theorem outer_arr (c : ClassId) (N h0 : Nat) : ∀ i : Nat, Jvm.Free.Multi.outerC c N h0 i = arrV c N (fun j => if j < i then .ref (h0 + 1 + j) else .null)
  | 0 => by
    show ({ cls := c, slots := Array.replicate N .null, vm := .none } : Cell) = _
    rw [arrV_new]
    refine congrArg (arrV c N) (funext fun j => ?_)
    simp
  | i + 1 => by
    show (Jvm.Free.Multi.outerC c N h0 i).setSlot i (.ref (h0 + 1 + i)) = _
    rw [outer_arr c N h0 i, arrV_store]
    refine congrArg (arrV c N) (funext fun j => ?_)
    by_cases e : j = i
    · subst e
      simp [updV]
    · by_cases h : j < i
      · simp [updV, e, h, Nat.lt_succ_of_lt h]
      · simp [updV, e, h, show ¬ j < i + 1 by omega]
theorem g_mna {z d : Nat} (hd : decode (byt k) pc = .ok (.multianewarray z d, len)) (hs : exec k pc ls st h len (.multianewarray z d) = some (.inl (pc', ls', st', h'))) : GS k pc ls st h pc' ls' st' h' := by
  obtain rfl := (o1_inv hs).1
  replace hs := (o1_inv hs).2
  split at hs
  case isFalse => cases hs
  case isTrue hd2 =>
    subst hd2
    unfold x_mna at hs
    split at hs
    case h_2 => cases hs
    case h_1 y x r =>
      split at hs
      case h_2 => cases hs
      case h_1 cq pq hl =>
        have hlk := ctb_at hl
        split at hs
        case isFalse => cases hs
        case isTrue hx =>
          obtain ⟨rfl, hx0, hxn, hy0, hyn⟩ := hx
          obtain ⟨rfl, rfl, rfl, rfl⟩ := go_inv hs
          have hb2 : ix x * ix y ≤ 1000 * 1000 := Nat.mul_le_mul hxn hyn
          refine GS_n (m := 1 + ix x) (q := ix x + ix x * ix y) (by show h.1 + 1 + ix x = _; omega) (by show h.2.1 + ix x + ix x * ix y = _; omega) (fun j hj => ?_) (fun j hj => ?_) (fun j hj => rfl) (fun j hj => ?_) (fun j hj => ?_) fun D dA base p l e R s mm args below meth c Q cells slots X H locs lsC hH hc hsl kk => ?_
          · show (if j = h.1 + 1 then 23 else if h.1 + 1 < j ∧ j ≤ h.1 + 1 + ix x then 22 else h.2.2.1 j) = _
            rw [if_neg (by omega), if_neg (by omega)]
          · show (if j = h.1 + 1 then ix x else if h.1 + 1 < j ∧ j ≤ h.1 + 1 + ix x then ix y else h.2.2.2.1 j) = _
            rw [if_neg (by omega), if_neg (by omega)]
          · show (if h.1 + 1 < j ∧ j ≤ h.1 + 1 + ix x then (fun _ => 0) else h.2.2.2.2.2.1 j) = _
            rw [if_neg (by omega)]
          · show (if j = h.1 + 1 then (fun i => if i < ix x then h.1 + 2 + i else 0) else h.2.2.2.2.2.2 j) = _
            rw [if_neg (by omega)]
          · obtain ⟨hx, hb, -, -, hown, hts, -, -, hst, -⟩ := X
            intro T hT Xs
            obtain ⟨vm₁, cA, comp, -, fA, fC, -, -, X', step⟩ := Xs.multianewarray2F (ty := .long) hx hown (hts _ hlk) (show (Cond.arrayOver (.array .long)).before args s = true from hst.2.2.2.2.2.1) (hts _ (TB_at 101 (w := .arrayClass .long) (by decide +kernel) rfl)) (g := F0 mm pc lsC (.int y :: .int x :: r.map (cv base))) rfl (by rw [hb]; exact hd) rfl hx0 hy0 (by show ix x * 4 ≤ _; omega) (by show ix y * 8 ≤ _; omega) (by show ix y ≤ _; omega) rfl rfl hc hsl
            have ec : comp = dA 1 := Option.some.inj (fC.symm.trans (tys_at hst 1 rfl).2)
            have eA : cA = dA 2 := Option.some.inj (fA.symm.trans (tys_at hst 2 rfl).2)
            subst ec
            subst eA
            generalize hF : Jvm.Free.Multi.fill (T.setVm vm₁) (dA 2) (dA 1) x.toNatClampNeg y.toNatClampNeg (defaultValue .long) x.toNatClampNeg = F at X' step
            have hTh : (T.setVm vm₁).heap = H := hT
            obtain ⟨f1, f2, -, -⟩ := Jvm.Free.Multi.fill_facts (T.setVm vm₁) (dA 2) (dA 1) x.toNatClampNeg y.toNatClampNeg (defaultValue .long) x.toNatClampNeg
            rw [hF, hTh] at f1 f2
            have hold : ∀ q : Nat, q < H.size → F.heap[q]? = H[q]? := fun q hq => by
              have := Jvm.Free.Multi.fill_old (T.setVm vm₁) (dA 2) (dA 1) x.toNatClampNeg y.toNatClampNeg (defaultValue .long) (a := q) (by rw [hTh]; exact hq) x.toNatClampNeg
              rw [hF, hTh] at this
              exact this
            have hrow : ∀ j : Nat, j < ix x → F.heap[H.size + 1 + j]? = some (arrV (dA 1) (ix y) (fun _ => .long 0)) := fun j hj => by
              have := Jvm.Free.Multi.fill_inner (T.setVm vm₁) (dA 2) (dA 1) x.toNatClampNeg y.toNatClampNeg (defaultValue .long) x.toNatClampNeg j hj
              rw [hF, hTh] at this
              rw [this]
              exact congrArg some (arrV_new _ _ _)
            rw [outer_arr] at f2
            have hsz := hH.1
            have hok : ∀ j, j < 1 + ix x → cellOK D dA base (nwG h (ix x) (ix y)) (h.1 + j) F.heap := by
              intro j hj
              by_cases hj0 : j = 0
              · subst hj0
                have eC : (nwG h (ix x) (ix y)).2.2.1 (h.1 + 0 + 1) = 23 := by show (if h.1 + 1 = h.1 + 1 then 23 else _) = 23; rw [if_pos rfl]
                refine ⟨fun c2 r2 h5 h6 => ?_, fun h5 => ?_, fun h5 => ?_, fun t ht h5 => ?_⟩
                · rw [eC] at h5
                  have := vwCl_lt h6
                  omega
                · rw [eC] at h5
                  omega
                · rw [eC] at h5
                  omega
                · rw [eC] at h5
                  have : t = 0 := by omega
                  subst this
                  show F.heap[base + h.1]? = some (arrV (dA 2) (if h.1 + 1 = h.1 + 1 then ix x else _) (fun q => cvr base ((if h.1 + 1 = h.1 + 1 then (fun i => if i < ix x then h.1 + 2 + i else 0) else h.2.2.2.2.2.2 (h.1 + 1)) q)))
                  rw [if_pos rfl, if_pos rfl, ← hsz, f2]
                  refine congrArg (fun z => some (arrV (dA 2) (ix x) z)) (funext fun q => ?_)
                  show (if q < ix x then Value.ref (H.size + 1 + q) else .null) = _
                  by_cases hq : q < ix x
                  · rw [if_pos hq, if_pos hq, show h.1 + 2 + q = (h.1 + 1 + q) + 1 by omega, hsz]
                    exact congrArg Value.ref (show base + h.1 + 1 + q = base + (h.1 + 1 + q) by omega)
                  · rw [if_neg hq, if_neg hq]
                    rfl
              · have eC : (nwG h (ix x) (ix y)).2.2.1 (h.1 + j + 1) = 22 := by
                  show (if h.1 + j + 1 = h.1 + 1 then 23 else if h.1 + 1 < h.1 + j + 1 ∧ h.1 + j + 1 ≤ h.1 + 1 + ix x then 22 else _) = 22
                  rw [if_neg (by omega), if_pos (by omega)]
                refine ⟨fun c2 r2 h5 h6 => ?_, fun h5 => ?_, fun h5 => ?_, fun t ht h5 => ?_⟩
                · rw [eC] at h5
                  have := vwCl_lt h6
                  omega
                · rw [eC] at h5
                  omega
                · show F.heap[base + (h.1 + j)]? = some (arrV (dA 1) (if h.1 + j + 1 = h.1 + 1 then ix x else if h.1 + 1 < h.1 + j + 1 ∧ h.1 + j + 1 ≤ h.1 + 1 + ix x then ix y else _) (fun q => .long ((if h.1 + 1 < h.1 + j + 1 ∧ h.1 + j + 1 ≤ h.1 + 1 + ix x then (fun _ => 0) else h.2.2.2.2.2.1 (h.1 + j + 1)) q)))
                  rw [if_neg (by omega), if_pos (by omega), if_pos (by omega), show base + (h.1 + j) = H.size + 1 + (j - 1) by omega, hrow (j - 1) (by omega)]
                · rw [eC] at h5
                  omega
            obtain ⟨t, a1, b1⟩ := kk F.heap hok (by rw [f1]; show H.size + 1 + ix x = _; omega) hold F rfl (by rw [show cells + (1 + ix x) = cells + 1 + x.toNatClampNeg by show _ = cells + 1 + ix x; omega, show slots + (ix x + ix x * ix y) = slots + x.toNatClampNeg + x.toNatClampNeg * y.toNatClampNeg by show _ = slots + ix x + ix x * ix y; omega]; exact X')
            refine ⟨t, step t ?_, b1⟩
            have e : T.heap.size = base + h.1 := by rw [hT, hsz]
            rw [e]
            exact a1
theorem g_io {z : Nat} (hd : decode (byt k) pc = .ok (.instanceof z, len)) (hs : exec k pc ls st h len (.instanceof z) = some (.inl (pc', ls', st', h'))) : GS k pc ls st h pc' ls' st' h' := by
  obtain rfl := (o1_inv hs).1
  replace hs := (o1_inv hs).2
  unfold x_io at hs
  split at hs
  case h_2 => cases hs
  case h_1 i r =>
    split at hs
    case h_2 => cases hs
    case h_1 cq pq hl =>
      have hlk := ctb_at hl
      split at hs
      case isFalse => cases hs
      case isTrue hx =>
        obtain ⟨hg, hcq⟩ := hx
        obtain ⟨rfl, rfl, rfl, rfl⟩ := go_inv hs
        refine GS_h fun D dA base p l e R s m args below meth c Q cells slots X H locs lsC hH hL _ _ kk => ?_
        obtain ⟨hx, hb, -, -, hown, hts, -, -, hst, -⟩ := X
        have hg2 := hg
        simp only [inG, if_true, Bool.or_eq_true, beq_iff_eq] at hg
        obtain ⟨j, rfl⟩ := hH.pos (i := i) (by omega)
        have rc : ∀ (cc : Nat) (r2 : vw_C), h'.2.2.1 (j + 1) = cc + 1 → vwCl[cc]? = some r2 → ∃ cell : Cell, H[base + j]? = some cell ∧ cell.vm.isStatics = false ∧ s.vm.findClass r2.1 = some cell.cls := fun cc r2 e1 e2 => by
          obtain ⟨cell, g1, g2, g3, -⟩ := (hH.2.2.2 j).1 cc r2 e1 e2
          exact ⟨cell, g1, by rw [g3]; rfl, by rw [g2]; exact (hst.1.1 cc r2 e2).2.1⟩
        have yes : ∀ C : String, va_Nw (.castable C (clN cq)) s → (∃ cell : Cell, H[base + j]? = some cell ∧ cell.vm.isStatics = false ∧ s.vm.findClass C = some cell.cls) → isa (h'.2.2.1 (j + 1)) cq = true → W p l e R s m args below meth c H locs cells slots Q (F0 m pc lsC ((Value.ref (j + 1) :: r).map (cv base))) := fun C q1 q2 q3 => by
          rw [if_pos q3] at kk
          exact va_instY hx hb hown (hts _ hlk) q1 q2 hd kk
        have no : ∀ C : String, va_Nc C (clN cq) s → (∃ cell : Cell, H[base + j]? = some cell ∧ cell.vm.isStatics = false ∧ s.vm.findClass C = some cell.cls) → ¬ isa (h'.2.2.1 (j + 1)) cq = true → W p l e R s m args below meth c H locs cells slots Q (F0 m pc lsC ((Value.ref (j + 1) :: r).map (cv base))) := fun C q1 q2 q3 => by
          rw [if_neg q3] at kk
          exact va_instNo hx hb hown (hts _ hlk) q1 q2 hd kk
        have slf : ∀ r2 : vw_C, h'.2.2.1 (j + 1) = cq + 1 → vwCl[cq]? = some r2 → clN cq = r2.1 → W p l e R s m args below meth c H locs cells slots Q (F0 m pc lsC ((Value.ref (j + 1) :: r).map (cv base))) := fun r2 e1 e2 e3 => by
          rw [if_pos (by simp [isa, e1])] at kk
          have hca := (hst.1.1 cq r2 e2).2
          rw [e3] at hlk
          obtain ⟨cell, g1, g2, g3, -⟩ := (hH.2.2.2 j).1 cq r2 e1 e2
          exact va_instS hx hb hown (hts _ hlk) hca ⟨cell, g1, by rw [g3]; rfl, by rw [g2]; exact hca.1⟩ hd kk
        have nc := hst.2.2.2.2.2.2
        have cs := hst.2.2.1
        rcases hcq with rfl | rfl | rfl
        · rcases hg with ((e1 | e1) | e1) | e1
          · exact no _ (nc ("SteerBench$Steps", "SteerBench$Flow") (List.mem_of_getElem? (i := 2) rfl)) (rc 7 _ e1 rfl) (by rw [e1]; decide)
          · exact slf _ e1 rfl rfl
          · exact no _ (nc ("SteerBench$Loop", "SteerBench$Flow") (List.mem_of_getElem? (i := 3) rfl)) (rc 4 _ e1 rfl) (by rw [e1]; decide)
          · exact no _ (nc ("SteerBench$Part", "SteerBench$Flow") (List.mem_of_getElem? (i := 4) rfl)) (rc 5 _ e1 rfl) (by rw [e1]; decide)
        · rcases hg with ((e1 | e1) | e1) | e1
          · exact no _ (nc ("SteerBench$Steps", "SteerBench$Loop") (List.mem_of_getElem? (i := 0) rfl)) (rc 7 _ e1 rfl) (by rw [e1]; decide)
          · exact no _ (nc ("SteerBench$Flow", "SteerBench$Loop") (List.mem_of_getElem? (i := 1) rfl)) (rc 1 _ e1 rfl) (by rw [e1]; decide)
          · exact slf _ e1 rfl rfl
          · exact yes _ (cs ("SteerBench$Part", "SteerBench$Loop") (List.mem_of_getElem? (i := 0) rfl)) (rc 5 _ e1 rfl) (by rw [e1]; decide)
        · rcases hg with ((e1 | e1) | e1) | e1
          · exact no _ (nc ("SteerBench$Steps", "SteerBench$Part") (List.mem_of_getElem? (i := 5) rfl)) (rc 7 _ e1 rfl) (by rw [e1]; decide)
          · exact no _ (nc ("SteerBench$Flow", "SteerBench$Part") (List.mem_of_getElem? (i := 6) rfl)) (rc 1 _ e1 rfl) (by rw [e1]; decide)
          · exact no _ (nc ("SteerBench$Loop", "SteerBench$Part") (List.mem_of_getElem? (i := 7) rfl)) (rc 4 _ e1 rfl) (by rw [e1]; decide)
          · exact slf _ e1 rfl rfl
end GO6
section GO7
variable {k pc len : Nat} {ls : Lo} {st : List Value} {h : Hp} {pc' : Nat} {ls' : Lo} {st' : List Value} {h' : Hp}
theorem vt_at {o z : Nat} {q : Nat × Nat × MethodName × String × List (Nat × Nat × List Nat) × List Nat} (hl : look (vtb o) z = some q) : vOk o (z, q) = true := List.all_eq_true.mp (vtb_ok o) _ (look_mem hl)
theorem rmL_at {k n : Nat} (h : rmL k n = true) : 1 ≤ mFr k ∧ n ≤ mLo k := by
  simpa [rmL] using h
theorem cat_map (base : Nat) (st : List Value) : ((st.map (cv base)).map fun v => v.category).sum = wsum st := by
  unfold wsum
  rw [List.map_map]
  congr 1
  exact List.map_congr_left (fun v _ => cat_cv base v)
theorem g_cpy {z na : Nat} {x : MethodName} {s0 : String} {al : List (Nat × Nat × List Nat)} {wd : List Nat} {v y sp : Int32} {b a : Nat} {r : List Value} (hd : decode (byt k) pc = .ok (.invokestatic z, 3)) (hl : look (vtb (mOw k)) z = some (6, na, x, s0, al, wd)) (hr : rmL k 48 = true) (hw : wsum r ≤ 8) (hCa : h.2.2.1 a = 22) (hCb : h.2.2.1 b = 22) (h1 : ¬ sp < 0) (h2 : ¬ y < 0) (h3 : ¬ v < 0) (h4 : ix sp + ix v ≤ h.2.2.2.1 a) (h5 : ix y + ix v ≤ h.2.2.2.1 b) : GS k pc ls (.int v :: .int y :: .ref b :: .int sp :: .ref a :: r) h (pc + 3) ls r (cpyL h a b (ix sp) (ix y) (ix v)) := by
  refine ⟨⟨Nat.le_refl _, Nat.le_refl _, rfl⟩, fun D dA base n0 sl0 p l e R s m args below meth c Q X hc hs hV hn hsl hll H locs lsC hH hS hL => ?_⟩
  have hok : (isT (wd.getD 0 0) (.methodLink (ow (mOw k)) z arraycopyName) && isT (wd.getD 1 0) (.native arraycopyName) && isT (wd.getD 2 0) (.static arraycopyName) && isT (wd.getD 3 0) (.initialized "java/lang/System")) = true := vt_at hl
  simp only [Bool.and_eq_true] at hok
  obtain ⟨⟨⟨w1, w2⟩, w3⟩, w4⟩ := hok
  obtain ⟨hx, hb, -, hml, hown, hts, -, -, hst, -, hfr, hlo⟩ := X
  obtain ⟨ra, rfl⟩ := hH.pos (i := a) (by omega)
  obtain ⟨rb, rfl⟩ := hH.pos (i := b) (by omega)
  have hca := (hH.2.2.2 ra).2.2.1 hCa
  have hcb := (hH.2.2.2 rb).2.2.1 hCb
  have nn : ∀ z : Int32, ¬ z < 0 → z.toInt = (z.toNatClampNeg : Int) := by
    intro z hz
    have hz0 : (0 : Int) ≤ z.toInt := by
      have := Int32.not_lt.mp hz
      simpa using Int32.le_iff_toInt_le.mp this
    show z.toInt = ((z.toInt.toNat : Nat) : Int)
    omega
  obtain ⟨hr1, hr2⟩ := rmL_at hr
  intro T hT Xs
  obtain ⟨-, k0, hk0, cm0, hkk0⟩ := (tys_at hst 1 rfl).1 (h.2.2.2.1 (ra + 1)) (fun j => .long (h.2.2.2.2.2.1 (ra + 1) j))
  obtain ⟨-, k1, hk1, cm1, hkk1⟩ := (tys_at hst 1 rfl).1 (h.2.2.2.1 (rb + 1)) (fun j => .long (h.2.2.2.2.2.1 (rb + 1) j))
  obtain ⟨vm', X', step⟩ := Xs.arraycopy (cs := arrV (dA 1) (h.2.2.2.1 (ra + 1)) (fun j => .long (h.2.2.2.2.2.1 (ra + 1) j))) (cd := arrV (dA 1) (h.2.2.2.1 (rb + 1)) (fun j => .long (h.2.2.2.2.2.1 (rb + 1) j))) hx hown (hts _ (isT_TB w1)) (hts _ (isT_TB w2)) (hts _ (isT_TB w3)) (hts _ (isT_TB w4)) (src := base + ra) (dst := base + rb) (srcPos := sp) (destPos := y) (n := v) (by rw [hT]; exact hca) (by rw [hT]; exact hcb)
    (fun _ h => by cases h) (fun _ h => by cases h) (fun h => by cases h) (fun h => by cases h) hk0 hk1 hkk0 hkk1 (by simp [refKind]) h1 h2 h3
    (by rw [nn sp h1, nn v h3, arrV_size]; show ¬ ((ix sp : Int) + (ix v : Int) > _); omega)
    (by rw [nn y h2, nn v h3, arrV_size]; show ¬ ((ix y : Int) + (ix v : Int) > _); omega)
    (fun vm₁ _ i hi => by
      have hi' : i < ix v := hi
      have e : (arrV (dA 1) (h.2.2.2.1 (ra + 1)) (fun j => .long (h.2.2.2.2.2.1 (ra + 1) j))).slots.getD (sp.toNatClampNeg + i) .null = .long (h.2.2.2.2.2.1 (ra + 1) (ix sp + i)) := by
        have e2 := arrV_read (dA 1) (fun j => Value.long (h.2.2.2.2.2.1 (ra + 1) j)) (show ix sp + i < h.2.2.2.1 (ra + 1) by omega)
        rw [Array.getD_eq_getD_getElem?]
        show ((arrV (dA 1) (h.2.2.2.1 (ra + 1)) (fun j => Value.long (h.2.2.2.2.2.1 (ra + 1) j))).slots[ix sp + i]?).getD _ = _
        rw [e2]
        rfl
      refine ⟨?_, ?_⟩
      · rw [e]
        rfl
      · rw [e]
        exact trivial)
    (g := F0 m pc lsC (.int v :: .int y :: .ref (base + rb) :: .int sp :: .ref (base + ra) :: r.map (cv base))) rfl (by rw [hml]; exact hL.1) (rest := r.map (cv base)) rfl (by rw [hb]; exact hd) (by omega) (by rw [cat_map]; show 2 * 0 + wsum r + (7 + 11) ≤ _; omega)
  have e1 : copied (arrV (dA 1) (h.2.2.2.1 (ra + 1)) (fun j => .long (h.2.2.2.2.2.1 (ra + 1) j))) (arrV (dA 1) (h.2.2.2.1 (rb + 1)) (fun j => .long (h.2.2.2.2.2.1 (rb + 1) j))) sp y v = arrV (dA 1) (h.2.2.2.1 (rb + 1)) (fun j => .long (va_cpy (h.2.2.2.2.2.1 (ra + 1)) (h.2.2.2.2.2.1 (rb + 1)) (ix sp) (ix y) (ix v) j)) := va_copied (fun z => .long z) _ _ _ _ h4
  rw [e1] at X' step
  have hlt : base + rb < H.size := (Array.getElem?_eq_some_iff.mp hcb).1
  have oq : ∀ q : Nat, q ≠ base + rb → (H.setIfInBounds (base + rb) (arrV (dA 1) (h.2.2.2.1 (rb + 1)) (fun j => .long (va_cpy (h.2.2.2.2.2.1 (ra + 1)) (h.2.2.2.2.2.1 (rb + 1)) (ix sp) (ix y) (ix v) j))))[q]? = H[q]? := fun q hq => by simp [Array.getElem?_setIfInBounds, Ne.symm hq]
  have ok : cellOK D dA base (cpyL h (ra + 1) (rb + 1) (ix sp) (ix y) (ix v)) rb (H.setIfInBounds (base + rb) (arrV (dA 1) (h.2.2.2.1 (rb + 1)) (fun j => .long (va_cpy (h.2.2.2.2.2.1 (ra + 1)) (h.2.2.2.2.2.1 (rb + 1)) (ix sp) (ix y) (ix v) j)))) := by
    refine ⟨fun c2 r2 h5 h6 => ?_, fun h5 => ?_, fun _ => ?_, fun t ht h5 => ?_⟩
    · replace h5 : h.2.2.1 (rb + 1) = c2 + 1 := h5
      have := vwCl_lt h6
      omega
    · replace h5 : h.2.2.1 (rb + 1) = 21 := h5
      omega
    · show (H.setIfInBounds (base + rb) _)[base + rb]? = some (arrV (dA 1) (h.2.2.2.1 (rb + 1)) (fun j => .long (va_up h.2.2.2.2.2.1 (rb + 1) (va_cpy (h.2.2.2.2.2.1 (ra + 1)) (h.2.2.2.2.2.1 (rb + 1)) (ix sp) (ix y) (ix v)) (rb + 1) j)))
      rw [va_up_at]
      simp [Array.getElem?_setIfInBounds, hlt]
    · replace h5 : h.2.2.1 (rb + 1) = 23 + t := h5
      omega
  have hH' := hH.set (h' := cpyL h (ra + 1) (rb + 1) (ix sp) (ix y) (ix v)) (i := rb) (by simp) oq rfl rfl rfl (fun _ _ => rfl) (fun j hj => va_up_no _ _ hj) (fun _ _ => rfl) ok
  obtain ⟨t, a1, b1⟩ := hV hn hsl hll _ _ lsC hH' ⟨by simp; exact hS.1, fun q g1 g2 => by
      rw [oq q (fun e => g2 (by rw [e]; exact Nat.le_add_right _ _))]
      exact hS.2.1 q g1 g2, fun q hq => by
      rcases List.mem_append.mp hq with h | h
      · exact hS.2.2 q h
      · obtain ⟨z, -, hz⟩ := List.mem_map.mp h
        rw [← hz]
        exact Nat.le_add_right _ _⟩ hL _ (by rw [← hT]; rfl) X'
  exact ⟨t, step t a1, b1⟩
theorem g_is {z : Nat} (hd : decode (byt k) pc = .ok (.invokestatic z, len)) (hs : exec k pc ls st h len (.invokestatic z) = some (.inl (pc', ls', st', h'))) : GS k pc ls st h pc' ls' st' h' := by
  obtain rfl := (o1_inv hs).1
  replace hs := (o1_inv hs).2
  unfold x_is at hs
  split at hs
  case h_2 => cases hs
  case h_1 kd na x s0 al wd hl =>
    split at hs
    · split at hs
      · split at hs
        · unfold callA at hs
          split at hs <;> cases hs
        · cases hs
      · cases hs
    · split at hs
      · rename_i hkd
        subst hkd
        split at hs
        · split at hs
          · rename_i hh
            obtain ⟨q1, q2, q3, q4, q5, q6, q7, q8, q9⟩ := hh
            obtain ⟨rfl, rfl, rfl, rfl⟩ := go_inv hs
            exact g_cpy hd hl q1 q2 q3 q4 q5 q6 q7 q8 q9
          · cases hs
        · cases hs
      · split at hs
        · rename_i hkd
          subst hkd
          split at hs
          · split at hs
            · rename_i hh
              obtain ⟨rfl, rfl, rfl, rfl⟩ := go_inv hs
              have hok : (isT (wd.getD 0 0) (.methodLink (ow (mOw k)) z Lib.Math.max.name) && isT (wd.getD 1 0) (.static Lib.Math.max.name) && isT (wd.getD 2 0) (.initialized "java/lang/Math") && isT (wd.getD 3 0) (.code Lib.Math.max.name Lib.Math.max.code 2 (some .int))) = true := vt_at hl
              simp only [Bool.and_eq_true] at hok
              obtain ⟨⟨⟨w1, w2⟩, w3⟩, w4⟩ := hok
              obtain ⟨hr1, hr2⟩ := rmL_at hh.1
              refine GS_h fun D dA base p l e R s m args below meth c Q cells slots X H locs lsC hH hL hc hsl kk => ?_
              obtain ⟨hx, hb, -, hml, hown, hts, -, -, hst, -, hfr, hlo⟩ := X
              exact va_mmax hx hb (hml.trans hL.1.symm) hown (hts _ (isT_TB w1)) (hts _ (isT_TB w2)) (hts _ (isT_TB w3)) (hts _ (isT_TB w4)) (by omega) (by rw [cat_map]; omega) hc hsl hd kk
            · cases hs
          · cases hs
        · split at hs
          · rename_i hkd
            subst hkd
            split at hs
            · split at hs
              · rename_i hh
                obtain ⟨rfl, rfl, rfl, rfl⟩ := go_inv hs
                have hok : (isT (wd.getD 0 0) (.methodLink (ow (mOw k)) z Lib.Math.min.name) && isT (wd.getD 1 0) (.static Lib.Math.min.name) && isT (wd.getD 2 0) (.initialized "java/lang/Math") && isT (wd.getD 3 0) (.code Lib.Math.min.name Lib.Math.min.code 2 (some .int))) = true := vt_at hl
                simp only [Bool.and_eq_true] at hok
                obtain ⟨⟨⟨w1, w2⟩, w3⟩, w4⟩ := hok
                obtain ⟨hr1, hr2⟩ := rmL_at hh.1
                refine GS_h fun D dA base p l e R s m args below meth c Q cells slots X H locs lsC hH hL hc hsl kk => ?_
                obtain ⟨hx, hb, -, hml, hown, hts, -, -, hst, -, hfr, hlo⟩ := X
                exact va_mmin hx hb (hml.trans hL.1.symm) hown (hts _ (isT_TB w1)) (hts _ (isT_TB w2)) (hts _ (isT_TB w3)) (hts _ (isT_TB w4)) (by omega) (by rw [cat_map]; omega) hc hsl hd kk
              · cases hs
            · cases hs
          · split at hs
            · rename_i hkd
              subst hkd
              split at hs
              · split at hs
                · rename_i hh
                  obtain ⟨rfl, rfl, rfl, rfl⟩ := go_inv hs
                  have hok : (isT (wd.getD 0 0) (.methodLink (ow (mOw k)) z Lib.MathLoose.abs_long.x) && isT (wd.getD 1 0) (.static Lib.MathLoose.abs_long.x) && isT (wd.getD 2 0) (.initialized "java/lang/Math") && isT (wd.getD 3 0) (.code Lib.MathLoose.abs_long.x Lib.MathLoose.abs_long.code 2 (some .long))) = true := vt_at hl
                  simp only [Bool.and_eq_true] at hok
                  obtain ⟨⟨⟨w1, w2⟩, w3⟩, w4⟩ := hok
                  obtain ⟨hr1, hr2⟩ := rmL_at hh.1
                  refine GS_h fun D dA base p l e R s m args below meth c Q cells slots X H locs lsC hH hL hc hsl kk => ?_
                  obtain ⟨hx, hb, -, hml, hown, hts, -, -, hst, -, hfr, hlo⟩ := X
                  exact va_mabs_long hx hb (hml.trans hL.1.symm) hown (hts _ (isT_TB w1)) (hts _ (isT_TB w2)) (hts _ (isT_TB w3)) (hts _ (isT_TB w4)) (by omega) (by rw [cat_map]; omega) hc hsl hd kk
                · cases hs
              · cases hs
            · cases hs
theorem g_ip {z : Nat} (hd : decode (byt k) pc = .ok (.invokespecial z, len)) (hs : exec k pc ls st h len (.invokespecial z) = some (.inl (pc', ls', st', h'))) : GS k pc ls st h pc' ls' st' h' := by
  obtain rfl := (o1_inv hs).1
  replace hs := (o1_inv hs).2
  unfold x_ip at hs
  split at hs
  case h_2 => cases hs
  case h_1 kd na x s0 al wd hl =>
    split at hs
    case isFalse => cases hs
    case isTrue hlen =>
      split at hs
      case h_2 => cases hs
      case h_1 i r hst0 =>
        split at hs
        · rename_i hkd
          subst hkd
          split at hs
          · rename_i hh
            obtain ⟨rfl, rfl, rfl, rfl⟩ := go_inv hs
            have hok : (isT (wd.getD 0 0) (.methodLink (ow (mOw k)) z Lib.objectInit) && isT (wd.getD 1 0) (.instanceMethod Lib.objectInit) && isT (wd.getD 2 0) (.code Lib.objectInit ⟨#[0xb1]⟩ 1 none) && decide (na = 0)) = true := vt_at hl
            simp only [Bool.and_eq_true, decide_eq_true_eq] at hok
            obtain ⟨⟨⟨w1, w2⟩, w3⟩, w4⟩ := hok
            subst w4
            have hst1 : st = .ref i :: st' := by simpa using hst0
            subst hst1
            obtain ⟨hr1, hr2⟩ := rmL_at hh.1
            cases i with
            | zero => exact absurd rfl hh.2.2
            | succ j =>
              refine GS_h fun D dA base p l e R s m args below meth c Q cells slots X H locs lsC hH hL hc hsl kk => ?_
              obtain ⟨hx, hb, -, hml, hown, hts, -, -, hst, -, hfr, hlo⟩ := X
              exact W.objInit hx hb hown (hts _ (isT_TB w1)) (hts _ (isT_TB w2)) (hts _ (isT_TB w3)) rfl (hL.1.trans hml.symm) rfl hd (by omega) (by rw [cat_map]; show 2 * 0 + wsum st' + 12 ≤ _; omega) kk
          · cases hs
        · split at hs
          · split at hs
            · unfold callA at hs
              split at hs <;> cases hs
            · cases hs
          · split at hs
            · split at hs
              · unfold callA at hs
                split at hs <;> cases hs
              · cases hs
            · cases hs
theorem g_iv {z : Nat} (hs : exec k pc ls st h len (.invokevirtual z) = some (.inl (pc', ls', st', h'))) : GS k pc ls st h pc' ls' st' h' := by
  replace hs := (o1_inv hs).2
  unfold x_iv at hs
  split at hs
  · split at hs
    · split at hs
      · split at hs
        · unfold callA at hs
          split at hs <;> cases hs
        · cases hs
      · cases hs
    · cases hs
  · cases hs
theorem x_ret_no {ty : Nat} (hs : x_ret k st ty = some (.inl (pc', ls', st', h'))) : False := by
  unfold x_ret at hs
  split at hs <;> first | (cases hs; done) | (split at hs <;> cases hs)
end GO7
