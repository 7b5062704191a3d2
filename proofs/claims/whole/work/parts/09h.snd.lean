/-! calls -/
theorem lay_args (base : Nat) : ∀ (as : List Value) (m : Nat), lp base m (lay as) = lv_args m (as.map (cv base))
  | [], _ => rfl
  | v :: t, m => by
    unfold lay
    by_cases hc : v.category = 2
    · rw [if_pos hc]
      show (m, cv base v) :: lp base (m + 1 + 1) (lay t) = (m, cv base v) :: lv_args (if (cv base v).category = 2 then m + 2 else m + 1) (t.map (cv base))
      rw [cat_cv, if_pos hc, lay_args base t (m + 1 + 1)]
    · rw [if_neg hc]
      show (m, cv base v) :: lp base (m + 1) (lay t) = (m, cv base v) :: lv_args (if (cv base v).category = 2 then m + 2 else m + 1) (t.map (cv base))
      rw [cat_cv, if_neg hc, lay_args base t (m + 1)]
theorem lp_app (base : Nat) : ∀ (l : Lo) (m n : Nat), lp base m (l ++ List.replicate n none) = lp base m l
  | [], m, 0 => rfl
  | [], m, n + 1 => by
    show lp base (m + 1) (List.replicate n none) = []
    have := lp_app base [] (m + 1) n
    rw [List.nil_append] at this
    exact this
  | none :: t, m, n => lp_app base t (m + 1) n
  | some v :: t, m, n => by
    show (m, cv base v) :: lp base (m + 1) (t ++ _) = (m, cv base v) :: lp base (m + 1) t
    rw [lp_app base t (m + 1) n]
theorem lay_len (base : Nat) : ∀ as : List Value, (lg_sl (as.map (cv base))).length = (lay as).length
  | [] => rfl
  | v :: t => by
    have ih := lay_len base t
    unfold lay
    by_cases hc : v.category = 2
    · simp [lg_sl, cat_cv, hc, ← ih]
    · simp [lg_sl, cat_cv, hc, ← ih]
theorem pad_len {n : Nat} {l : Lo} (h : l.length ≤ n) : (pad n l).length = n := by
  simp [pad]
  omega
/-- what a run of a method gives: its contract -/
def VK (l : Launch) (k pc : Nat) (ls : Lo) (st : List Value) (h : Hp) (r : Option Value) (h' : Hp) : Prop := (h.1 ≤ h'.1 ∧ h.2.1 ≤ h'.2.1) ∧ ∀ (D : va_G) (dA : Nat → ClassId) (base n0 sl0 : Nat) (p : Program) (e : Env) (R : Room) (s : State) (m : MethodId) (args : Array Value) (below : List Frame) (meth : Method) (c : Code), Cx D dA base k p R s m args meth c → h'.1 - n0 ≤ R.cells → h'.2.1 - sl0 ≤ R.slots → V D dA base k n0 sl0 p l e R s m args below meth c (MQ below (QcK D dA base r h') args s (h'.1 - n0) (h'.2.1 - sl0) (fun q => base ≤ q)) pc ls st h
theorem met_of {l : Launch} {k : Nat} (hk : k < 168) {as : List Value} {h h' : Hp} {r : Option Value} (hla : (lay as).length ≤ mxl k) (hv : VK l k 0 (pad (mxl k) (lay as)) [] h r h') (D : va_G) (dA : Nat → ClassId) (base : Nat) :
    Met l (mNm k) (wsK k) { frames := mFr k, cells := h'.1 - h.1, slots := h'.2.1 - h.2.1, locals := mLo k } (PcK D dA base as h) (QcK D dA base r h') (h'.1 - h.1) (h'.2.1 - h.2.1) (fun q => base ≤ q) := by
  obtain ⟨m1, m2, m3, m4, m5, m6⟩ := mP_of hk
  refine Met.ofW (cc := byt k) (maxL := mxl k) (ret := mRt k) m4 rfl ?_
  intro p e s m args below meth c s₁ B hml hpre
  obtain ⟨rfl, hH, hst⟩ := hpre
  have hts := atoms_spec (ws := wsK k) B.pre
  have hown : s.vm.findClass (mNm k).cls = some m.cls := findClass_of_methodNamed B.named
  have X : Cx D dA base k p (headSpec (wsK k) { frames := mFr k, cells := h'.1 - h.1, slots := h'.2.1 - h.2.1, locals := mLo k }).room s m (as.map (cv base)).toArray meth c := ⟨B.exec, B.bytes, B.returns, hml, by rw [← show (mNm k).cls = ow (mOw k) from m2]; exact hown, fun w hw => hts w (List.mem_cons_of_mem _ hw), B.notSynchronized, (name_of_methodNamed B.named B.method).1, hst, by rw [hH.1]; omega, Nat.le_refl _, Nat.le_refl _⟩
  have hll : (lg_sl (as.map (cv base))).length ≤ mxl k := by rw [lay_len]; exact hla
  have hl := lv_entry (as.map (cv base)) hll
  rw [lg_entry_eq]
  generalize (lg_sl (as.map (cv base)) ++ List.replicate (mxl k - (lg_sl (as.map (cv base))).length) Slot.unset).toArray = lsC at hl ⊢
  have hL : lv_has lsC (mxl k) (lp base 0 (pad (mxl k) (lay as))) := by
    unfold pad
    rw [lp_app, lay_args]
    exact hl
  have w := hv.2 D dA base h.1 h.2.1 p e _ s m _ below meth c X (Nat.le_refl _) (Nat.le_refl _) (Nat.le_refl _) (Nat.le_refl _) (Nat.le_of_eq (pad_len hla)) s.heap [] lsC hH va_S.rf hL
  rw [Nat.sub_self, Nat.sub_self] at w
  exact w
theorem W_call {D : va_G} {dA : Nat → ClassId} {base : Nat} {p : Program} {l : Launch} {e : Env} {R : Room} {s : State} {m : MethodId} {args : Array Value} {below : List Frame} {meth : Method} {c : Code} {Q : State → Prop} {cells slots mc ms pc : Nat} {H : Heap} {locs : List Loc} {lsC : Array Slot} {st0 rest : List Value} {r : Option Value} {h1 : Hp} {a : Array Value}
    (hr : va_Run p l e R s m args below meth c H locs cells slots mc ms (F0 m pc lsC st0) rest (QcK D dA base r h1 a) (fun q => base ≤ q)) (hS : va_S (fun q => base ≤ q) s.heap H locs)
    (kk : ∀ (H1 : Heap) (locs1 : List Loc), HR D dA base h1 H1 → va_S (fun q => base ≤ q) s.heap H1 locs1 → W p l e R s m args below meth c H1 locs1 (cells + mc) (slots + ms) Q (F0 m (pc + 3) lsC ((r.map (cv base)).toList ++ rest))) : W p l e R s m args below meth c H locs cells slots Q (F0 m pc lsC st0) := by
  intro T hT X
  obtain ⟨v, st₀, t, T', L, h0, X', hL, e1, e2, ⟨hv, hH, -, hz, hk⟩, st⟩ := hr T hT X
  cases hv
  rw [h0] at hz hk
  obtain ⟨t2, a1, b1⟩ := kk T'.heap (locs ++ L) (by rw [e1]; exact hH) ⟨Nat.le_trans hS.1 (by rw [e1]; exact hz), fun q g1 g2 => by
      have hq : q < base := by
        rcases Nat.lt_or_ge q base with z | z
        · exact z
        · exact absurd z g2
      rw [e1, hk q hq]
      exact hS.2.1 q g1 g2, fun q hq => by
      rcases List.mem_append.mp hq with g | g
      · exact hS.2.2 q g
      · exact hL q g⟩ T' rfl X'
  exact ⟨t2, st t2 a1, b1⟩
theorem alt_mem {al : List (Nat × Nat × List Nat)} {c k2 : Nat} (h : alt al c = some k2) : ∃ w, (c, k2, w) ∈ al := by
  unfold alt at h
  cases hl : look al c with
  | none => rw [hl] at h; cases h
  | some q =>
    rw [hl] at h
    cases h
    exact ⟨q.2, look_mem hl⟩
theorem call_inv {k pc' : Nat} {k2 : Nat} {as rest : List Value} {a : Ac} (h : callA k pc' k2 as rest = some a) : wsum rest ≤ 8 ∧ mFr k2 + 1 ≤ mFr k ∧ 8 + (mxl k2 + 11) + mLo k2 ≤ mLo k ∧ (lay as).length ≤ mxl k2 ∧ a = .inr (.inr (k2, pad (mxl k2) (lay as), pc', rest)) := by
  unfold callA at h
  split at h
  · rename_i hh
    cases h
    have := hh.2.1
    simp only [rmOk, Bool.and_eq_true, decide_eq_true_eq] at this
    exact ⟨hh.1, this.1, this.2, hh.2.2, rfl⟩
  · cases h
theorem take_drop_rev (na : Nat) (st : List Value) : ((st.take na).reverse).reverse ++ st.drop na = st := by rw [List.reverse_reverse, List.take_append_drop]
/-- all that a call asks of the words, but for its own -/
theorem good_ws {k : Nat} (hk : k < 168) : GoodIn TB (wsK k) := fun w hw => by
  rcases List.mem_cons.mp hw with rfl | hw
  · exact ⟨(mP_of hk).1, TB_good (mP_of hk).1⟩
  · exact ⟨hw, TB_good hw⟩
theorem npr_len {d : String} {n : Nat} (h : npr d = some n) : ∀ sig, parseMethodDescriptor d = some sig → n = sig.parameters.length := fun sig hs => by
  unfold npr at h
  rw [hs] at h
  exact (Option.some.inj h).symm
