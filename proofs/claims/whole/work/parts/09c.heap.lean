/-! steps that read or write cells -/
theorem u2_at {α : Type} (f : Nat → Nat → α) (i k : Nat) (v : α) (k' : Nat) : u2 f i k v i k' = if k' = k then v else f i k' := by simp [u2, va_up]
theorem u2_ne {α : Type} (f : Nat → Nat → α) {i j : Nat} (k : Nat) (v : α) (h : j ≠ i) : u2 f i k v j = f j := by simp [u2, va_up, h]
theorem inG_fam {g c : Nat} (h : inG g c = true) : ∃ d, d ∈ fam g ∧ c = d + 1 := by
  unfold inG at h
  split at h
  · rename_i e
    subst e
    simp only [Bool.or_eq_true, beq_iff_eq] at h
    rcases h with ((h | h) | h) | h
    · exact ⟨7, by decide, by omega⟩
    · exact ⟨1, by decide, by omega⟩
    · exact ⟨4, by decide, by omega⟩
    · exact ⟨5, by decide, by omega⟩
  · rename_i e
    simp only [beq_iff_eq] at h
    exact ⟨g, by simp [fam, e], h⟩
theorem vwCl_lt {c : Nat} {r : vw_C} (h : vwCl[c]? = some r) : c < 11 := by
  have := (List.getElem?_eq_some_iff.mp h).1
  simpa [vwCl] using this
theorem fld {o z g s ty : Nat} {fin : Bool} {ref : String} {wd sf c : Nat} (hl : look (ftb o) z = some (g, s, ty, fin, ref, wd, sf)) (hc : c ∈ fam g) :
    ∃ r : vw_C, vwCl[c]? = some r ∧ s < r.2.2 ∧ Cond.fieldLink (ow o) z ref (r.2.1 s).2.1 (r.2.1 s).2.2.1 ∈ TB ∧ (ref = (r.2.1 s).1 ∨ Cond.sameField ref (r.2.1 s).1 (r.2.1 s).2.1 (r.2.1 s).2.2.1 ∈ TB) ∧ tyc c s = ty ∧ (r.2.1 s).2.2.2 = fin ∧ (fin = true → sf = 0 → ref = (r.2.1 s).1) := by
  have h1 := List.all_eq_true.mp (List.all_eq_true.mp (ftb_ok o) _ (look_mem hl)) c hc
  simp only [fOk1] at h1
  cases hr : vwCl[c]? with
  | none => rw [hr] at h1; cases h1
  | some r =>
    rw [hr] at h1
    simp only [Bool.and_eq_true, Bool.or_eq_true, decide_eq_true_eq, beq_iff_eq, Bool.not_eq_true', bne_iff_ne, ne_eq] at h1
    obtain ⟨⟨⟨⟨⟨a, b⟩, d⟩, e⟩, f⟩, g⟩ := h1
    refine ⟨r, rfl, a, isT_TB b, d.imp id isT_TB, e, f, fun q1 q2 => ?_⟩
    rcases g with (g | g) | g
    · rw [q1] at g; cases g
    · exact g
    · exact absurd q2 g
theorem HR.pos {D : va_G} {dA : Nat → ClassId} {base : Nat} {h : Hp} {H : Heap} {i : Nat} (o : HR D dA base h H) (hi : h.2.2.1 i ≠ 0) : ∃ j, i = j + 1 := by
  cases i with
  | zero => exact absurd o.2.1 hi
  | succ j => exact ⟨j, rfl⟩
theorem hsame_of {args : Array Value} {s : State} {ref o n d : String} (hts : ∀ w ∈ TB, w.before args s = true) (h : ref = o ∨ Cond.sameField ref o n d ∈ TB) : ∀ x, s.fieldFound? o n d = some x → s.fieldFound? ref n d = some x := by
  intro x hx
  rcases h with h | h
  · rw [h]; exact hx
  · exact u_same (hts _ h) x hx
theorem getD_map {N : Nat} (V : Nat → Value) {k : Nat} (hk : k < N) : vp_V ((List.range N).map V) k = V k := by
  simp [vp_V, List.getD_eq_getElem?_getD, hk]
section GO3
variable {k pc len : Nat} {ls : Lo} {st : List Value} {h : Hp} {pc' : Nat} {ls' : Lo} {st' : List Value} {h' : Hp}
theorem g_getfield {z : Nat} (hd : decode (byt k) pc = .ok (.getfield z, len)) (hs : exec k pc ls st h len (.getfield z) = some (.inl (pc', ls', st', h'))) : GS k pc ls st h pc' ls' st' h' := by
  obtain rfl := (o1_inv hs).1
  replace hs := (o1_inv hs).2
  unfold x_get at hs
  split at hs
  case h_2 => cases hs
  case h_1 i r =>
    split at hs
    case h_2 => cases hs
    case h_1 g s ty q hl =>
      split at hs
      case isFalse => cases hs
      case isTrue hg =>
        obtain ⟨rfl, rfl, rfl, rfl⟩ := go_inv hs
        obtain ⟨fin, ref, wd, sf⟩ := q
        refine GS_h fun D dA base p l e R s0 m args below meth c Q cells slots X H locs lsC hH hL _ _ kk => ?_
        obtain ⟨hx, hb, -, -, hown, hts, -, -, hst, -⟩ := X
        obtain ⟨cc, hcc, hC⟩ := inG_fam hg
        obtain ⟨⟨C, T, N⟩, hr, hlt, hlink, hsm, hty, -, -⟩ := fld hl hcc
        replace hlt : s < N := hlt
        obtain ⟨j, rfl⟩ := hH.pos (i := i) (by omega)
        have ob := (hH.2.2.2 j).1 cc _ hC hr
        have hP : va_P D vwCl [(base + j, .inr (cc, (List.range N).map (fun k => cv base (fva (tyc cc k) h' (j + 1) k))))] H := fun k0 q0 h0 => by
          have hk0 : k0 < 1 := (List.getElem?_eq_some_iff.mp h0).1
          rw [show k0 = 0 by omega] at h0
          cases h0
          exact ⟨_, hr, ob.to (fun k1 hk1 => (getD_map (N := N) (fun k => cv base (fva (tyc cc k) h' (j + 1) k)) hk1).symm)⟩
        refine va_get hx hb hts (clp cc _ hr).1 hown hst.1 hP 0 rfl hr s hlt (hts _ hlink) (hsame_of hts hsm) (v := cv base (fva ty h' (j + 1) s)) ?_ hd kk
        rw [← hty, List.getElem?_map, List.getElem?_range hlt]
        rfl
/-- a field is written -/
theorem W_put {D : va_G} {dA : Nat → ClassId} {base : Nat} {p : Program} {l : Launch} {e : Env} {R : Room} {s : State} {m : MethodId} {args : Array Value} {below : List Frame} {meth : Method} {c : Code} {Q : State → Prop} {cells slots : Nat} (X : Cx D dA base k p R s m args meth c) {H : Heap} {locs : List Loc} {lsC : Array Slot} {cc a f : Nat} {r : vw_C} {V0 : Nat → Value} {ref : String} {z : Nat} {v : Value} {rest : List Value}
    (hr : vwCl[cc]? = some r) (ob : t_OB a (D.1 cc) r.2.2 (D.2 cc) H V0) (hf : f < r.2.2) (hlink : Cond.fieldLink (ow (mOw k)) z ref (r.2.1 f).2.1 (r.2.1 f).2.2.1 ∈ TB) (hsm : ref = (r.2.1 f).1 ∨ Cond.sameField ref (r.2.1 f).1 (r.2.1 f).2.1 (r.2.1 f).2.2.1 ∈ TB)
    (hfin : (r.2.1 f).2.2.2 = false ∨ ((r.2.1 f).2.2.2 = true ∧ (mNm k).name = "<init>" ∧ (r.2.1 f).1 = ow (mOw k))) (hn : narrow (tyF.getD cc (fun _ => .int) f) v = v) (hfit : fits (tyF.getD cc (fun _ => .int) f) v = true) (hd : decode (byt k) pc = .ok (.putfield z, 3))
    (kk : ∀ H' : Heap, t_OB a (D.1 cc) r.2.2 (D.2 cc) H' (updV V0 f v) → H'.size = H.size → (∀ q, q ≠ a → H'[q]? = H[q]?) → W p l e R s m args below meth c H' (locs ++ [⟨a, D.2 cc f⟩]) cells slots Q (F0 m (pc + 3) lsC rest)) : W p l e R s m args below meth c H locs cells slots Q (F0 m pc lsC (v :: .ref a :: rest)) := by
  obtain ⟨hx, hb, -, -, hown, hts, -, hmn, hst, -⟩ := X
  obtain ⟨hin, hty, hnm, -, -⟩ := clp cc r hr
  obtain ⟨C, T, N⟩ := r
  have hap := va_apart (own := ow (mOw k)) hts hin _ hty hnm hst.1 hr
  obtain ⟨cell, q1, q2, q3, q4⟩ := ob
  obtain ⟨hS, hfc, kC, hkC, hkind⟩ := hst.1.1 cc _ hr
  obtain ⟨cf, kf, fi, fd, hi, hsl⟩ := hS f hf
  have hlay := hts _ (hin _ (u_in_lay hf))
  have hstt := (u_facts hfc hkC (u_lays hts hin hf) hi).1
  have hsame := hsame_of hts hsm
  unfold u_lay at hlay
  rcases hfin with hfin | ⟨hfin, hini, hdecl⟩
  · rw [if_neg (by rw [hfin]; decide)] at hlay
    have h6 := u_store hfc hkC hkind hlay hi (hty f hf) hn hfit
    refine W.putK hx hb (f := fd) ⟨hown, hts _ hlink, ⟨_, _, _, hsame _ hi⟩, hstt⟩ (by rw [q2]; exact h6) q1 q3 (by rw [hsl]; exact k2_hasslot (q4 f hf)) rfl rfl hd fun H' e1 e2 e3 => ?_
    rw [hsl] at e1 ⊢
    exact kk H' ⟨_, e1, q2, q3, t_set q4 hap hf v⟩ e2 e3
  · rw [if_pos hfin] at hlay
    have hcf : m.cls = cf := by
      obtain ⟨_, _, c', _, _, _, -, -, hf', -, -, -, hown2, -⟩ := Cond.laysFinal_spec hlay
      have e1 : c' = cf := by have := hi.symm.trans hf'; simp at this; exact this.1.symm
      rw [hdecl] at hown2
      rw [← e1]; exact Option.some.inj (hown.symm.trans hown2)
    have h6 := u_fits hfc hkC hkind (Or.inr hlay) hi (hty f hf) hn hfit
    refine W.putFinK hx hb hown (hts _ hlink) (hsame _ hi) hstt hcf (hmn.trans hini) (by rw [q2]; exact h6) q1 q3 (by rw [hsl]; exact k2_hasslot (q4 f hf)) rfl rfl hd fun H' e1 e2 e3 => ?_
    rw [hsl] at e1 ⊢
    exact kk H' ⟨_, e1, q2, q3, t_set q4 hap hf v⟩ e2 e3
/-- one cell's contents change -/
theorem GS_w {st0 : List Value} {i : Nat} (e1 : h'.1 = h.1) (e2 : h'.2.1 = h.2.1) (eC : h'.2.2.1 = h.2.2.1) (eZ : h'.2.2.2.1 = h.2.2.2.1) (eI : ∀ j, j ≠ i + 1 → h'.2.2.2.2.1 j = h.2.2.2.2.1 j) (eL : ∀ j, j ≠ i + 1 → h'.2.2.2.2.2.1 j = h.2.2.2.2.2.1 j) (eR : ∀ j, j ≠ i + 1 → h'.2.2.2.2.2.2 j = h.2.2.2.2.2.2 j)
    (row : ∀ (D : va_G) (dA : Nat → ClassId) (base : Nat) (p : Program) (l : Launch) (e : Env) (R : Room) (s : State) (m : MethodId) (args : Array Value) (below : List Frame) (meth : Method) (c : Code) (Q : State → Prop) (cells slots : Nat), Cx D dA base k p R s m args meth c → ∀ (H : Heap) (locs : List Loc) (lsC : Array Slot), HR D dA base h H →
      (∀ (H' : Heap) (o : Nat), cellOK D dA base h' i H' → H'.size = H.size → (∀ q, q ≠ base + i → H'[q]? = H[q]?) → W p l e R s m args below meth c H' (locs ++ [⟨base + i, o⟩]) cells slots Q (F0 m pc' lsC (st'.map (cv base)))) → W p l e R s m args below meth c H locs cells slots Q (F0 m pc lsC (st0.map (cv base)))) : GS k pc ls st0 h pc' ls st' h' := by
  refine ⟨⟨by rw [e1]; exact Nat.le_refl _, by rw [e2]; exact Nat.le_refl _, rfl⟩, fun D dA base n0 sl0 p l e R s m args below meth c Q X hc hs hV hn hsl hll H locs lsC hH hS hL => ?_⟩
  refine row D dA base p l e R s m args below meth c Q _ _ X H locs lsC hH fun H' o ok z oq => ?_
  have := hV (by rw [e1]; exact hn) (by rw [e2]; exact hsl) hll H' _ lsC (hH.set z oq e1 eC eZ eI eL eR ok) (hS.put (k := o) z oq (Nat.le_add_right _ _)) hL
  rw [e1, e2] at this
  exact this
theorem tcode_ty {t : FieldType} {n : Nat} (h : tcode t = n) : (n = 0 → t = .int) ∧ (n = 1 → t = .long) ∧ (n = 3 → t = .boolean) ∧ (n = 2 → (∃ c, t = .object c) ∨ ∃ c, t = .array c) := by
  cases t <;> simp [tcode] at h <;> subst h <;> simp
theorem g_putfield {z : Nat} (hd : decode (byt k) pc = .ok (.putfield z, len)) (hs : exec k pc ls st h len (.putfield z) = some (.inl (pc', ls', st', h'))) : GS k pc ls st h pc' ls' st' h' := by
  obtain rfl := (o1_inv hs).1
  replace hs := (o1_inv hs).2
  unfold x_put at hs
  split at hs
  case h_2 => cases hs
  case h_1 v i r =>
    split at hs
    case h_2 => cases hs
    case h_1 g f ty fin ref q hl =>
      split at hs
      case isFalse => cases hs
      case isTrue hg =>
        obtain ⟨hg, hfin⟩ := hg
        obtain ⟨wd, sf⟩ := q
        obtain ⟨cc, hcc, hC⟩ := inG_fam hg
        obtain ⟨rr, hr, hf, hlink, hsm, hty, hfe, hfd⟩ := fld hl hcc
        have hc11 := vwCl_lt hr
        have hfin' : (rr.2.1 f).2.2.2 = false ∨ ((rr.2.1 f).2.2.2 = true ∧ (mNm k).name = "<init>" ∧ (rr.2.1 f).1 = ow (mOw k)) := by
          rcases hfin with q | ⟨q1, q2, q3⟩
          · exact Or.inl (hfe.trans q)
          · cases hb : fin with
            | false => exact Or.inl (hfe.trans hb)
            | true => exact Or.inr ⟨hfe.trans hb, by simpa [isIni] using q1, (hfd hb q3).symm.trans q2⟩
        have htc := tcode_ty hty
        have fin3 : ∀ (D : va_G) (dA : Nat → ClassId) (base j : Nat) (h2 : Hp) (H' : Heap) (V0 : Nat → Value) (v : Value), i = j + 1 → h2.2.2.1 = h.2.2.1 → t_OB (base + j) (D.1 cc) rr.2.2 (D.2 cc) H' (updV V0 f v) → (∀ k, k < rr.2.2 → cv base (fva (tyc cc k) h2 (j + 1) k) = updV V0 f v k) → cellOK D dA base h2 j H' := by
          intro D dA base j h2 H' V0 v e eC ob ev
          subst e
          refine ⟨fun c2 r2 h3 h4 => ?_, fun h3 => ?_, fun h3 => ?_, fun t ht h3 => ?_⟩
          · rw [eC, hC] at h3
            have : c2 = cc := by omega
            subst this
            cases hr.symm.trans h4
            exact ob.to (fun k hk => (ev k hk).symm)
          · rw [eC, hC] at h3; omega
          · rw [eC, hC] at h3; omega
          · rw [eC, hC] at h3; omega
        have hi : ∀ (D : va_G) (dA : Nat → ClassId) (base : Nat) (H : Heap), HR D dA base h H → ∃ j, i = j + 1 := fun D dA base H hH => hH.pos (by omega)
        cases i with
        | zero =>
          have nope : ∀ (D : va_G) (dA : Nat → ClassId) (base : Nat) (H : Heap), ¬ HR D dA base h H := fun D dA base H hH => by have e0 : h.2.2.1 0 = cc + 1 := hC; have := hH.2.1; omega
          have key : ∀ (h2 : Hp), h2.1 = h.1 → h2.2.1 = h.2.1 → GS k pc ls (v :: .ref 0 :: r) h (pc + 3) ls r h2 := fun h2 e1 e2 => ⟨⟨by rw [e1]; exact Nat.le_refl _, by rw [e2]; exact Nat.le_refl _, rfl⟩, fun D dA base n0 sl0 p l e R s m args below meth c Q X hc hs hV hn hsl hll H locs lsC hH hS hL => absurd hH (nope D dA base H)⟩
          split at hs
          all_goals first | (cases hs; done) | (split at hs; all_goals first | (cases hs; done) | (obtain ⟨rfl, rfl, rfl, rfl⟩ := go_inv hs; exact key _ rfl rfl))
        | succ j =>
          split at hs
          · split at hs
            case isFalse => cases hs
            case isTrue ht =>
              rename_i x
              obtain ⟨rfl, rfl, rfl, rfl⟩ := go_inv hs
              refine GS_w (i := j) rfl rfl rfl rfl (fun j' hj => u2_ne _ _ _ hj) (fun _ _ => rfl) (fun _ _ => rfl) fun D dA base p l e R s m args below meth c Q cells slots X H locs lsC hH kk => ?_
              refine W_put (v := .int x) X hr ((hH.2.2.2 j).1 cc _ hC hr) hf hlink hsm hfin' ?_ ?_ hd fun H' ob z oq => kk H' _ (fin3 D dA base j _ H' _ _ rfl rfl ob fun k1 hk1 => ?_) z oq
              · rcases ht with ht | ⟨ht, hx⟩
                · rw [htc.1 ht]; rfl
                · rw [htc.2.2.1 ht]
                  rcases hx with rfl | rfl <;> rfl
              · rcases ht with ht | ⟨ht, hx⟩
                · rw [htc.1 ht]; rfl
                · rw [htc.2.2.1 ht]
                  rcases hx with rfl | rfl <;> rfl
              · by_cases hk : k1 = f
                · subst hk
                  have h1 : ¬ tyc cc k1 = 1 := by rw [hty]; omega
                  have h2 : ¬ tyc cc k1 = 2 := by rw [hty]; omega
                  simp [fva, updV, h1, h2, cv, u2_at]
                · simp only [fva, updV, hk, if_false, u2_at]
          · split at hs
            case isFalse => cases hs
            case isTrue ht =>
              rename_i x
              obtain ⟨rfl, rfl, rfl, rfl⟩ := go_inv hs
              refine GS_w (i := j) rfl rfl rfl rfl (fun _ _ => rfl) (fun j' hj => u2_ne _ _ _ hj) (fun _ _ => rfl) fun D dA base p l e R s m args below meth c Q cells slots X H locs lsC hH kk => ?_
              refine W_put (v := .long x) X hr ((hH.2.2.2 j).1 cc _ hC hr) hf hlink hsm hfin' ?_ ?_ hd fun H' ob z oq => kk H' _ (fin3 D dA base j _ H' _ _ rfl rfl ob fun k1 hk1 => ?_) z oq
              · rw [htc.2.1 ht]; rfl
              · rw [htc.2.1 ht]; rfl
              · by_cases hk : k1 = f
                · subst hk
                  have h1 : tyc cc k1 = 1 := by rw [hty]; exact ht
                  simp [fva, updV, h1, cv, u2_at]
                · simp only [fva, updV, hk, if_false, u2_at]
          · split at hs
            case isFalse => cases hs
            case isTrue ht =>
              rename_i x
              obtain ⟨rfl, rfl, rfl, rfl⟩ := go_inv hs
              refine GS_w (i := j) rfl rfl rfl rfl (fun _ _ => rfl) (fun _ _ => rfl) (fun j' hj => u2_ne _ _ _ hj) fun D dA base p l e R s m args below meth c Q cells slots X H locs lsC hH kk => ?_
              refine W_put (v := cvr base x) X hr ((hH.2.2.2 j).1 cc _ hC hr) hf hlink hsm hfin' ?_ ?_ hd fun H' ob z oq => kk H' _ (fin3 D dA base j _ H' _ _ rfl rfl ob fun k1 hk1 => ?_) z oq
              · rcases htc.2.2.2 ht with ⟨c2, e2⟩ | ⟨c2, e2⟩ <;> rw [e2] <;> cases x <;> rfl
              · rcases htc.2.2.2 ht with ⟨c2, e2⟩ | ⟨c2, e2⟩ <;> rw [e2] <;> cases x <;> rfl
              · by_cases hk : k1 = f
                · subst hk
                  have h1 : ¬ tyc cc k1 = 1 := by rw [hty]; omega
                  have h2 : tyc cc k1 = 2 := by rw [hty]; exact ht
                  simp [fva, updV, h2, cv, u2_at]
                · simp only [fva, updV, hk, if_false, u2_at]
          · cases hs
end GO3
