/-! new cells; instanceof; Object.<init>, arraycopy, Math -/
theorem va_up_at {α : Type} (f : Nat → α) (i : Nat) (v : α) : va_up f i v i = v := by simp [va_up]
theorem va_up_no {α : Type} (f : Nat → α) {i j : Nat} (v : α) (h : j ≠ i) : va_up f i v j = f j := by simp [va_up, h]
theorem tyc_ok : ∀ (c : Nat) (r : vw_C), vwCl[c]? = some r → ∀ k, k < r.2.2 → tyc c k ≠ 9
  | 0, _, h => by cases h; decide +kernel
  | 1, _, h => by cases h; decide +kernel
  | 2, _, h => by cases h; decide +kernel
  | 3, _, h => by cases h; decide +kernel
  | 4, _, h => by cases h; decide +kernel
  | 5, _, h => by cases h; decide +kernel
  | 6, _, h => by cases h; decide +kernel
  | 7, _, h => by cases h; decide +kernel
  | 8, _, h => by cases h; decide +kernel
  | 9, _, h => by cases h; decide +kernel
  | 10, _, h => by cases h; decide +kernel
  | _ + 11, _, h => by simp [vwCl] at h
section GO5
variable {k pc len : Nat} {ls : Lo} {st : List Value} {h : Hp} {pc' : Nat} {ls' : Lo} {st' : List Value} {h' : Hp}
/-- m new cells with q slots -/
theorem GS_n {st0 : List Value} {m q : Nat} (e1 : h'.1 = h.1 + m) (e2 : h'.2.1 = h.2.1 + q) (eC : ∀ j, j ≤ h.1 ∨ h.1 + m < j → h'.2.2.1 j = h.2.2.1 j) (eZ : ∀ j, j ≤ h.1 → h'.2.2.2.1 j = h.2.2.2.1 j) (eI : ∀ j, j ≤ h.1 → h'.2.2.2.2.1 j = h.2.2.2.2.1 j) (eL : ∀ j, j ≤ h.1 → h'.2.2.2.2.2.1 j = h.2.2.2.2.2.1 j) (eR : ∀ j, j ≤ h.1 → h'.2.2.2.2.2.2 j = h.2.2.2.2.2.2 j)
    (row : ∀ (D : va_G) (dA : Nat → ClassId) (base : Nat) (p : Program) (l : Launch) (e : Env) (R : Room) (s : State) (mm : MethodId) (args : Array Value) (below : List Frame) (meth : Method) (c : Code) (Q : State → Prop) (cells slots : Nat), Cx D dA base k p R s mm args meth c → ∀ (H : Heap) (locs : List Loc) (lsC : Array Slot), HR D dA base h H → cells + m ≤ R.cells → slots + q ≤ R.slots →
      (∀ H' : Heap, (∀ j, j < m → cellOK D dA base h' (h.1 + j) H') → H'.size = H.size + m → (∀ x, x < H.size → H'[x]? = H[x]?) → W p l e R s mm args below meth c H' locs (cells + m) (slots + q) Q (F0 mm pc' lsC (st'.map (cv base)))) → W p l e R s mm args below meth c H locs cells slots Q (F0 mm pc lsC (st0.map (cv base)))) : GS k pc ls st0 h pc' ls st' h' := by
  refine ⟨⟨by rw [e1]; omega, by rw [e2]; omega, rfl⟩, fun D dA base n0 sl0 p l e R s mm args below meth c Q X hc hs hV hn hsl hll H locs lsC hH hS hL => ?_⟩
  refine row D dA base p l e R s mm args below meth c Q _ _ X H locs lsC hH (by rw [e1] at hc; omega) (by rw [e2] at hs; omega) fun H' ok z oq => ?_
  have := hV (by rw [e1]; omega) (by rw [e2]; omega) hll H' locs lsC (hH.grow z oq e1 eC eZ eI eL eR ok) ⟨by have := hS.1; omega, fun x h1 h2 => (oq x (Nat.lt_of_lt_of_le h1 hS.1)).trans (hS.2.1 x h1 h2), hS.2.2⟩ hL
  rw [e1, e2] at this
  rwa [show h.1 + m - n0 = h.1 - n0 + m by omega, show h.2.1 + q - sl0 = h.2.1 - sl0 + q by omega] at this
theorem newa_snd {x : Int32} {r : List Value} {c0 : Nat} (h0 : ¬ x < 0) (hn : ix x ≤ 1000) (hc0 : c0 = 21 ∨ c0 = 22 ∨ c0 = 24 ∨ c0 = 25)
    (row : ∀ (D : va_G) (dA : Nat → ClassId) (base : Nat) (p : Program) (l : Launch) (e : Env) (R : Room) (s : State) (mm : MethodId) (args : Array Value) (below : List Frame) (meth : Method) (c : Code) (Q : State → Prop) (cells slots : Nat), Cx D dA base k p R s mm args meth c → ∀ (H : Heap) (locs : List Loc) (lsC : Array Slot), H.size = base + h.1 → cells + 1 ≤ R.cells → slots + ix x ≤ R.slots →
      (∀ H' : Heap, H'[base + h.1]? = some (arrV (dA (c0 - 21)) (ix x) (fun _ => if c0 = 21 then .int 0 else if c0 = 22 then .long 0 else .null)) → H'.size = H.size + 1 → (∀ x, x < H.size → H'[x]? = H[x]?) → W p l e R s mm args below meth c H' locs (cells + 1) (slots + ix x) Q (F0 mm pc' lsC (.ref (base + h.1) :: r.map (cv base)))) → W p l e R s mm args below meth c H locs cells slots Q (F0 mm pc lsC (.int x :: r.map (cv base)))) : GS k pc ls (.int x :: r) h pc' ls (.ref (h.1 + 1) :: r) (nwA h c0 (ix x)) := by
  refine GS_n (m := 1) (q := ix x) rfl rfl (fun j hj => va_up_no _ _ (by omega)) (fun j hj => va_up_no _ _ (by omega)) (fun j hj => va_up_no _ _ (by omega)) (fun j hj => va_up_no _ _ (by omega)) (fun j hj => va_up_no _ _ (by omega)) fun D dA base p l e R s mm args below meth c Q cells slots X H locs lsC hH hc hsl kk => ?_
  refine row D dA base p l e R s mm args below meth c Q cells slots X H locs lsC hH.1 hc hsl fun H' e1 z oq => kk H' (fun j hj => ?_) z oq
  have : j = 0 := by omega
  subst this
  refine ⟨fun c2 r2 h5 h6 => ?_, fun h5 => ?_, fun h5 => ?_, fun t ht h5 => ?_⟩
  · replace h5 : va_up h.2.2.1 (h.1 + 1) c0 (h.1 + 1) = c2 + 1 := h5
    rw [va_up_at] at h5
    have := vwCl_lt h6
    omega
  · replace h5 : va_up h.2.2.1 (h.1 + 1) c0 (h.1 + 1) = 21 := h5
    rw [va_up_at] at h5
    subst h5
    show H'[base + h.1]? = some (arrV (dA 0) (va_up h.2.2.2.1 (h.1 + 1) (ix x) (h.1 + 1)) (fun j => .int (va_up h.2.2.2.2.1 (h.1 + 1) (fun _ => 0) (h.1 + 1) j)))
    rw [e1, va_up_at, va_up_at]
    rfl
  · replace h5 : va_up h.2.2.1 (h.1 + 1) c0 (h.1 + 1) = 22 := h5
    rw [va_up_at] at h5
    subst h5
    show H'[base + h.1]? = some (arrV (dA 1) (va_up h.2.2.2.1 (h.1 + 1) (ix x) (h.1 + 1)) (fun j => .long (va_up h.2.2.2.2.2.1 (h.1 + 1) (fun _ => 0) (h.1 + 1) j)))
    rw [e1, va_up_at, va_up_at]
    rfl
  · replace h5 : va_up h.2.2.1 (h.1 + 1) c0 (h.1 + 1) = 23 + t := h5
    rw [va_up_at] at h5
    show H'[base + h.1]? = some (arrV (dA (2 + t)) (va_up h.2.2.2.1 (h.1 + 1) (ix x) (h.1 + 1)) (fun j => cvr base (va_up h.2.2.2.2.2.2 (h.1 + 1) (fun _ => 0) (h.1 + 1) j)))
    rw [e1, va_up_at, va_up_at, if_neg (by omega), if_neg (by omega), show c0 - 21 = 2 + t by omega]
    rfl
theorem newa_inv {pc : Nat} {ls : Lo} {st : List Value} {h : Hp} {c0 pc' : Nat} {ls' : Lo} {st' : List Value} {h' : Hp} (e : x_newa pc ls st h c0 = some (.inl (pc', ls', st', h'))) : ∃ (x : Int32) (r : List Value), st = .int x :: r ∧ ¬ x < 0 ∧ ix x ≤ 1000 ∧ pc' = pc ∧ ls' = ls ∧ st' = .ref (h.1 + 1) :: r ∧ h' = nwA h c0 (ix x) := by
  unfold x_newa at e
  split at e
  · split at e
    · rename_i hx
      obtain ⟨rfl, rfl, rfl, rfl⟩ := go_inv e
      exact ⟨_, _, rfl, hx.1, hx.2, rfl, rfl, rfl, rfl⟩
    · cases e
  · cases e
theorem g_newarray {a : ArrayType} (hd : decode (byt k) pc = .ok (.newarray a, len)) (hs : exec k pc ls st h len (.newarray a) = some (.inl (pc', ls', st', h'))) : GS k pc ls st h pc' ls' st' h' := by
  obtain rfl := (o1_inv hs).1
  replace hs := (o1_inv hs).2
  cases a <;> first | (cases hs; done) | skip
  · obtain ⟨x, r, rfl, h0, hn, rfl, rfl, rfl, rfl⟩ := newa_inv hs
    refine newa_snd h0 hn (by omega) fun D dA base p l e R s mm args below meth c Q cells slots X H locs lsC hz hc hsl kk => ?_
    obtain ⟨hx, hb, -, -, hown, hts, -, -, hst, -⟩ := X
    refine va_newaK (atype := .int) (N := ix x) hx hb (hts _ (TB_at 102 (w := .arrayClass .int) (by decide +kernel) rfl)) rfl hd rfl h0 rfl (by show ix x * 4 ≤ _; omega) hc hsl hz fun H' cA e1 e2 e3 e4 e5 => ?_
    have : cA = dA 0 := Option.some.inj (e5.symm.trans (tys_at hst 0 rfl).2)
    subst this
    exact kk H' e1 (by rw [e2, hz]) (fun q hq => e3 q (by rw [← hz]; exact hq))
  · obtain ⟨x, r, rfl, h0, hn, rfl, rfl, rfl, rfl⟩ := newa_inv hs
    refine newa_snd h0 hn (by omega) fun D dA base p l e R s mm args below meth c Q cells slots X H locs lsC hz hc hsl kk => ?_
    obtain ⟨hx, hb, -, -, hown, hts, -, -, hst, -⟩ := X
    refine va_newaK (atype := .long) (N := ix x) hx hb (hts _ (TB_at 101 (w := .arrayClass .long) (by decide +kernel) rfl)) rfl hd rfl h0 rfl (by show ix x * 8 ≤ _; omega) hc hsl hz fun H' cA e1 e2 e3 e4 e5 => ?_
    have : cA = dA 1 := Option.some.inj (e5.symm.trans (tys_at hst 1 rfl).2)
    subst this
    exact kk H' e1 (by rw [e2, hz]) (fun q hq => e3 q (by rw [← hz]; exact hq))
theorem g_anewarray {z : Nat} (hd : decode (byt k) pc = .ok (.anewarray z, len)) (hs : exec k pc ls st h len (.anewarray z) = some (.inl (pc', ls', st', h'))) : GS k pc ls st h pc' ls' st' h' := by
  obtain rfl := (o1_inv hs).1
  replace hs := (o1_inv hs).2
  unfold x_anew at hs
  split at hs
  case h_2 => cases hs
  case h_1 cq pq hl =>
    have hlk := ctb_at hl
    split at hs
    · rename_i hcq
      subst hcq
      obtain ⟨x, r, rfl, h0, hn, rfl, rfl, rfl, rfl⟩ := newa_inv hs
      refine newa_snd h0 hn (by omega) fun D dA base p l e R s mm args below meth c Q cells slots X H locs lsC hz hc hsl kk => ?_
      obtain ⟨hx, hb, -, -, hown, hts, -, -, hst, -⟩ := X
      refine W.anew (C := "SteerBench$Steps") hx hb hown (hts _ hlk) (va_AO.use hst.2.2.2.1) rfl hd rfl h0 (by show ix x * 4 ≤ _; omega) hc hsl fun cA kA comp f1 f2 f3 f4 => ?_
      have : cA = dA 3 := by
        obtain ⟨_, _, _, _, _, q⟩ := (tys_at hst 3 rfl).2
        exact Option.some.inj (f1.symm.trans q)
      subst this
      have := kk (H.push ({ cls := dA 3, slots := Array.replicate x.toNatClampNeg .null, vm := .none } : Cell)) (by rw [← hz, Array.getElem?_push_size, arrV_new]; rfl) (by rw [Array.size_push]) (fun q hq => by rw [Array.getElem?_push, if_neg (Nat.ne_of_lt hq)])
      rw [← hz] at this
      exact this
    · split at hs
      case isFalse => cases hs
      case isTrue hcq =>
        subst hcq
        obtain ⟨x, r, rfl, h0, hn, rfl, rfl, rfl, rfl⟩ := newa_inv hs
        refine newa_snd h0 hn (by omega) fun D dA base p l e R s mm args below meth c Q cells slots X H locs lsC hz hc hsl kk => ?_
        obtain ⟨hx, hb, -, -, hown, hts, -, -, hst, -⟩ := X
        refine W.anew (C := "SteerBench$Sheet") hx hb hown (hts _ hlk) (va_AO.use hst.2.2.2.2.1) rfl hd rfl h0 (by show ix x * 4 ≤ _; omega) hc hsl fun cA kA comp f1 f2 f3 f4 => ?_
        have : cA = dA 4 := by
          obtain ⟨_, _, _, _, _, q⟩ := (tys_at hst 4 rfl).2
          exact Option.some.inj (f1.symm.trans q)
        subst this
        have := kk (H.push ({ cls := dA 4, slots := Array.replicate x.toNatClampNeg .null, vm := .none } : Cell)) (by rw [← hz, Array.getElem?_push_size, arrV_new]; rfl) (by rw [Array.size_push]) (fun q hq => by rw [Array.getElem?_push, if_neg (Nat.ne_of_lt hq)])
        rw [← hz] at this
        exact this
theorem g_new {z : Nat} (hd : decode (byt k) pc = .ok (.new z, len)) (hs : exec k pc ls st h len (.new z) = some (.inl (pc', ls', st', h'))) : GS k pc ls st h pc' ls' st' h' := by
  obtain rfl := (o1_inv hs).1
  replace hs := (o1_inv hs).2
  unfold x_new at hs
  split at hs
  case h_2 => cases hs
  case h_1 cq pq hl =>
    have hlk := ctb_at hl
    split at hs
    case isFalse => cases hs
    case isTrue hcq =>
      obtain ⟨rfl, rfl, rfl, rfl⟩ := go_inv hs
      obtain ⟨r, hr⟩ : ∃ r, vwCl[cq]? = some r := ⟨_, List.getElem?_eq_getElem (by simpa [vwCl] using hcq)⟩
      have hcn : clN cq = r.1 := by simp [clN, hr, show cq ≠ 23 by omega]
      have hnf : nfs cq = r.2.2 := by simp [nfs, hr]
      refine GS_n (m := 1) (q := nfs cq) rfl rfl (fun j hj => va_up_no _ _ (by omega)) (fun j hj => rfl) (fun j hj => va_up_no _ _ (by omega)) (fun j hj => va_up_no _ _ (by omega)) (fun j hj => va_up_no _ _ (by omega)) fun D dA base p l e R s mm args below meth c Q cells slots X H locs lsC hH hc hsl kk => ?_
      obtain ⟨hx, hb, -, -, hown, hts, -, -, hst, -⟩ := X
      obtain ⟨hin, hty, hnm, hinst, hini⟩ := clp cq r hr
      have hKn := hst.1.1 cq r hr
      rw [hcn] at hlk
      rw [hnf] at hsl kk
      refine W.newcK hx hb hown (hts _ hlk) (hts _ hinst) (hts _ hini) rfl hd hc hsl hKn.2.1 hH.1 fun H1 kC hkC e1 z1 o1 => ?_
      refine kk H1 (fun j hj => ?_) (by rw [z1, hH.1]) (fun q hq => o1 q (by rw [← hH.1]; exact hq))
      have : j = 0 := by omega
      subst this
      refine ⟨fun c2 r2 h5 h6 => ?_, fun h5 => ?_, fun h5 => ?_, fun t ht h5 => ?_⟩
      · replace h5 : va_up h.2.2.1 (h.1 + 1) (cq + 1) (h.1 + 1) = c2 + 1 := h5
        rw [va_up_at] at h5
        have : c2 = cq := by omega
        subst this
        cases hr.symm.trans h6
        refine (u_born _ hts hin hKn hkC e1 hty).to (fun k1 hk1 => ?_)
        have hne := tyc_ok c2 r hr k1 hk1
        simp only [fva, nwO, Nat.add_zero, va_up_at]
        unfold tyc at hne ⊢
        cases ht : tyF.getD c2 (fun _ => .int) k1 <;> simp [ht, tcode] at hne <;> simp [tcode, defaultValue, cv, cvr]
      · replace h5 : va_up h.2.2.1 (h.1 + 1) (cq + 1) (h.1 + 1) = 21 := h5
        rw [va_up_at] at h5
        omega
      · replace h5 : va_up h.2.2.1 (h.1 + 1) (cq + 1) (h.1 + 1) = 22 := h5
        rw [va_up_at] at h5
        omega
      · replace h5 : va_up h.2.2.1 (h.1 + 1) (cq + 1) (h.1 + 1) = 23 + t := h5
        rw [va_up_at] at h5
        omega
end GO5
