/-! what the abstract machine does, the real one does: steps within a method -/
def tysL (dA : Nat → ClassId) : List (ClassId × FieldType) := [(dA 0, .int), (dA 1, .long), (dA 2, .array .long), (dA 3, .object "SteerBench$Steps"), (dA 4, .object "SteerBench$Sheet")]
def Stt (D : va_G) (dA : Nat → ClassId) (U : State) : Prop := va_K D vwCl (tysL dA) U ∧ (∀ w ∈ nwN, va_Nw w U) ∧ (∀ q ∈ nwC, va_Nw (.castable q.1 q.2) U) ∧ va_AO "SteerBench$Steps" U ∧ va_AO "SteerBench$Sheet" U ∧ (Cond.arrayOver (.array .long)).before #[] U = true ∧ ∀ q ∈ ncL, va_Nc q.1 q.2 U
theorem Stt.warm {D : va_G} {dA : Nat → ClassId} {s U : State} (hW : s.WarmedH U.vm) (h : Stt D dA s) : Stt D dA U := by
  obtain ⟨h1, h2, h3, h4, h5, h6, h7⟩ := h
  refine ⟨va_K.moved hW.alike h1, fun w hw => ?_, fun q hq => va_Nw.warmC hW (h3 q hq), va_AO.moved hW.alike h4, va_AO.moved hW.alike h5, ?_, fun q hq => (h7 q hq).moved hW.alike⟩
  · have := h2 w hw
    simp only [nwN, List.mem_cons, List.not_mem_nil, or_false] at hw
    rcases hw with rfl | rfl | rfl | rfl | rfl <;> exact va_Nw.warmM hW this
  · have e := Cond.arrayOver_setVmC (args := #[]) hW.alike (.array .long)
    exact e.trans h6
theorem Stt.same {D : va_G} {dA : Nat → ClassId} {s U : State} (hv : s.vm = U.vm) (h : Stt D dA s) : Stt D dA U := by
  obtain ⟨h1, h2, h3, h4, h5, h6, h7⟩ := h
  have ha : s.vm.Alike U.vm := by rw [hv]; exact Vm.Alike.refl _
  refine ⟨va_K.moved ha h1, fun w hw => ?_, fun q hq => va_Nw.same rfl hv (h3 q hq), va_AO.moved ha h4, va_AO.moved ha h5, ?_, fun q hq => (h7 q hq).moved ha⟩
  · have := h2 w hw
    simp only [nwN, List.mem_cons, List.not_mem_nil, or_false] at hw
    rcases hw with rfl | rfl | rfl | rfl | rfl <;> exact va_Nw.same rfl hv this
  · have e := Cond.arrayOver_setVmC (args := #[]) ha (.array .long)
    exact e.trans h6
def Cx (D : va_G) (dA : Nat → ClassId) (base k : Nat) (p : Program) (R : Room) (s : State) (m : MethodId) (args : Array Value) (meth : Method) (c : Code) : Prop :=
  p.tables.exec = Jvm.exec ∧ c.code = byt k ∧ meth.sig.returnType = mRt k ∧ c.maxLocals = mxl k ∧ s.vm.findClass (ow (mOw k)) = some m.cls ∧ (∀ w ∈ TB, w.before args s = true) ∧ meth.locks = false ∧ meth.name = (mNm k).name ∧ Stt D dA s ∧ base ≤ s.heap.size ∧ mFr k ≤ R.frames ∧ mLo k ≤ R.locals
def V (D : va_G) (dA : Nat → ClassId) (base k n0 sl0 : Nat) (p : Program) (l : Launch) (e : Env) (R : Room) (s : State) (m : MethodId) (args : Array Value) (below : List Frame) (meth : Method) (c : Code) (Q : State → Prop) (pc : Nat) (ls : Lo) (st : List Value) (h : Hp) : Prop :=
  n0 ≤ h.1 → sl0 ≤ h.2.1 → ls.length ≤ mxl k → ∀ (H : Heap) (locs : List Loc) (lsC : Array Slot), HR D dA base h H → va_S (fun q => base ≤ q) s.heap H locs → lv_has lsC (mxl k) (lp base 0 ls) → W p l e R s m args below meth c H locs (h.1 - n0) (h.2.1 - sl0) Q (F0 m pc lsC (st.map (cv base)))
def GS (k pc : Nat) (ls : Lo) (st : List Value) (h : Hp) (pc' : Nat) (ls' : Lo) (st' : List Value) (h' : Hp) : Prop :=
  (h.1 ≤ h'.1 ∧ h.2.1 ≤ h'.2.1 ∧ ls'.length = ls.length) ∧ ∀ (D : va_G) (dA : Nat → ClassId) (base n0 sl0 : Nat) (p : Program) (l : Launch) (e : Env) (R : Room) (s : State) (m : MethodId) (args : Array Value) (below : List Frame) (meth : Method) (c : Code) (Q : State → Prop), Cx D dA base k p R s m args meth c → h'.1 - n0 ≤ R.cells → h'.2.1 - sl0 ≤ R.slots → V D dA base k n0 sl0 p l e R s m args below meth c Q pc' ls' st' h' → V D dA base k n0 sl0 p l e R s m args below meth c Q pc ls st h
theorem GS_h {k pc : Nat} {ls : Lo} {st : List Value} {h : Hp} {pc' : Nat} {st' : List Value}
    (row : ∀ (D : va_G) (dA : Nat → ClassId) (base : Nat) (p : Program) (l : Launch) (e : Env) (R : Room) (s : State) (m : MethodId) (args : Array Value) (below : List Frame) (meth : Method) (c : Code) (Q : State → Prop) (cells slots : Nat), Cx D dA base k p R s m args meth c → ∀ (H : Heap) (locs : List Loc) (lsC : Array Slot), HR D dA base h H → lv_has lsC (mxl k) (lp base 0 ls) → cells ≤ R.cells → slots ≤ R.slots → W p l e R s m args below meth c H locs cells slots Q (F0 m pc' lsC (st'.map (cv base))) → W p l e R s m args below meth c H locs cells slots Q (F0 m pc lsC (st.map (cv base)))) : GS k pc ls st h pc' ls st' h :=
  ⟨⟨Nat.le_refl _, Nat.le_refl _, rfl⟩, fun D dA base n0 sl0 p l e R s m args below meth c Q X hc hs hV hn hsl hll H locs lsC hH hS hL => row D dA base p l e R s m args below meth c Q _ _ X H locs lsC hH hL hc hs (hV hn hsl hll H locs lsC hH hS hL)⟩
theorem o1_inv {len e : Nat} {x : Option Ac} {a : Ac} (h : o1 len e x = some a) : len = e ∧ x = some a := by
  unfold o1 at h
  split at h
  · exact ⟨‹_›, h⟩
  · cases h
theorem go_inv {pc : Nat} {ls : Lo} {st : List Value} {h : Hp} {pc' : Nat} {ls' : Lo} {st' : List Value} {h' : Hp} (e : go pc ls st h = some (.inl (pc', ls', st', h'))) : pc' = pc ∧ ls' = ls ∧ st' = st ∧ h' = h := by
  unfold go at e
  cases e
  exact ⟨rfl, rfl, rfl, rfl⟩
theorem ii_inv {f : Int32 → Int32 → Int32} {z : Bool} {pc : Nat} {ls : Lo} {st : List Value} {h : Hp} {pc' : Nat} {ls' : Lo} {st' : List Value} {h' : Hp} (e : x_ii f z pc ls st h = some (.inl (pc', ls', st', h'))) : ∃ (x y : Int32) (r : List Value), st = .int y :: .int x :: r ∧ (z = true → ¬ y = 0) ∧ pc' = pc ∧ ls' = ls ∧ st' = .int (f x y) :: r ∧ h' = h := by
  unfold x_ii at e
  split at e
  · split at e
    · cases e
    · rename_i hz
      obtain ⟨rfl, rfl, rfl, rfl⟩ := go_inv e
      exact ⟨_, _, _, rfl, fun q y => hz ⟨q, y⟩, rfl, rfl, rfl, rfl⟩
  · cases e
theorem ll_inv {f : Int64 → Int64 → Int64} {z : Bool} {pc : Nat} {ls : Lo} {st : List Value} {h : Hp} {pc' : Nat} {ls' : Lo} {st' : List Value} {h' : Hp} (e : x_ll f z pc ls st h = some (.inl (pc', ls', st', h'))) : ∃ (x y : Int64) (r : List Value), st = .long y :: .long x :: r ∧ (z = true → ¬ y = 0) ∧ pc' = pc ∧ ls' = ls ∧ st' = .long (f x y) :: r ∧ h' = h := by
  unfold x_ll at e
  split at e
  · split at e
    · cases e
    · rename_i hz
      obtain ⟨rfl, rfl, rfl, rfl⟩ := go_inv e
      exact ⟨_, _, _, rfl, fun q y => hz ⟨q, y⟩, rfl, rfl, rfl, rfl⟩
  · cases e
theorem lo_inv {pc : Nat} {ls : Lo} {st : List Value} {h : Hp} {i ty : Nat} {pc' : Nat} {ls' : Lo} {st' : List Value} {h' : Hp} (e : x_lo pc ls st h i ty = some (.inl (pc', ls', st', h'))) : ∃ v : Value, ldl ls i = some v ∧ ((∃ x, v = .int x ∧ ty = 0) ∨ (∃ x, v = .long x ∧ ty = 1) ∨ ∃ x, v = .ref x ∧ ty = 2) ∧ pc' = pc ∧ ls' = ls ∧ st' = v :: st ∧ h' = h := by
  unfold x_lo at e
  split at e
  · split at e
    · obtain ⟨rfl, rfl, rfl, rfl⟩ := go_inv e
      exact ⟨_, ‹_›, Or.inl ⟨_, rfl, ‹_›⟩, rfl, rfl, rfl, rfl⟩
    · cases e
  · split at e
    · obtain ⟨rfl, rfl, rfl, rfl⟩ := go_inv e
      exact ⟨_, ‹_›, Or.inr (Or.inl ⟨_, rfl, ‹_›⟩), rfl, rfl, rfl, rfl⟩
    · cases e
  · split at e
    · obtain ⟨rfl, rfl, rfl, rfl⟩ := go_inv e
      exact ⟨_, ‹_›, Or.inr (Or.inr ⟨_, rfl, ‹_›⟩), rfl, rfl, rfl, rfl⟩
    · cases e
  · cases e
theorem bind_go {o : Option Lo} {pc : Nat} {r : List Value} {h : Hp} {pc' : Nat} {ls' : Lo} {st' : List Value} {h' : Hp} (e : o.bind (fun l => go pc l r h) = some (.inl (pc', ls', st', h'))) : o = some ls' ∧ pc' = pc ∧ st' = r ∧ h' = h := by
  cases o with
  | none => cases e
  | some l =>
    obtain ⟨rfl, rfl, rfl, rfl⟩ := go_inv e
    exact ⟨rfl, rfl, rfl, rfl⟩
theorem st_inv {pc : Nat} {ls : Lo} {st : List Value} {h : Hp} {i ty : Nat} {pc' : Nat} {ls' : Lo} {st' : List Value} {h' : Hp} (e : x_st pc ls st h i ty = some (.inl (pc', ls', st', h'))) : ∃ v : Value, st = v :: st' ∧ ((∃ x, v = .int x ∧ ty = 0 ∧ st1 ls i v = some ls') ∨ (∃ x, v = .long x ∧ ty = 1 ∧ st2 ls i v = some ls') ∨ ∃ x, v = .ref x ∧ ty = 2 ∧ st1 ls i v = some ls') ∧ pc' = pc ∧ h' = h := by
  unfold x_st at e
  split at e
  · split at e
    · obtain ⟨a, rfl, rfl, rfl⟩ := bind_go e
      exact ⟨_, rfl, Or.inl ⟨_, rfl, ‹_›, a⟩, rfl, rfl⟩
    · cases e
  · split at e
    · obtain ⟨a, rfl, rfl, rfl⟩ := bind_go e
      exact ⟨_, rfl, Or.inr (Or.inl ⟨_, rfl, ‹_›, a⟩), rfl, rfl⟩
    · cases e
  · split at e
    · obtain ⟨a, rfl, rfl, rfl⟩ := bind_go e
      exact ⟨_, rfl, Or.inr (Or.inr ⟨_, rfl, ‹_›, a⟩), rfl, rfl⟩
    · cases e
  · cases e
theorem jmp_inv {pc : Nat} {off : Int} {ls : Lo} {st : List Value} {h : Hp} {c : Bool} {nx : Nat} {pc' : Nat} {ls' : Lo} {st' : List Value} {h' : Hp} (e : jmp pc off ls st h c nx = some (.inl (pc', ls', st', h'))) : ∃ t : Nat, (pc : Int) + off = (t : Int) ∧ pc' = (if c = true then t else nx) ∧ ls' = ls ∧ st' = st ∧ h' = h := by
  unfold jmp at e
  split at e
  · rename_i hp
    obtain ⟨rfl, rfl, rfl, rfl⟩ := go_inv e
    exact ⟨((pc : Int) + off).toNat, by omega, rfl, rfl, rfl, rfl⟩
  · cases e
section GO1
variable {k pc len : Nat} {ls : Lo} {st : List Value} {h : Hp} {pc' : Nat} {ls' : Lo} {st' : List Value} {h' : Hp}
theorem g_iconst {z : Int} (hd : decode (byt k) pc = .ok (.iconst z, len)) (hs : exec k pc ls st h len (.iconst z) = some (.inl (pc', ls', st', h'))) : GS k pc ls st h pc' ls' st' h' := by
  obtain rfl := (o1_inv hs).1
  replace hs := (o1_inv hs).2
  obtain ⟨rfl, rfl, rfl, rfl⟩ := go_inv hs
  exact GS_h fun D dA base p l e R s m args below meth c Q cells slots X H locs lsC hH hL _ _ kk => lv_iconst X.1 X.2.1 hd rfl kk
theorem g_bipush {z : Int} (hd : decode (byt k) pc = .ok (.bipush z, len)) (hs : exec k pc ls st h len (.bipush z) = some (.inl (pc', ls', st', h'))) : GS k pc ls st h pc' ls' st' h' := by
  obtain rfl := (o1_inv hs).1
  replace hs := (o1_inv hs).2
  obtain ⟨rfl, rfl, rfl, rfl⟩ := go_inv hs
  exact GS_h fun D dA base p l e R s m args below meth c Q cells slots X H locs lsC hH hL _ _ kk => lv_bipush X.1 X.2.1 hd rfl kk
theorem g_sipush {z : Int} (hd : decode (byt k) pc = .ok (.sipush z, len)) (hs : exec k pc ls st h len (.sipush z) = some (.inl (pc', ls', st', h'))) : GS k pc ls st h pc' ls' st' h' := by
  obtain rfl := (o1_inv hs).1
  replace hs := (o1_inv hs).2
  obtain ⟨rfl, rfl, rfl, rfl⟩ := go_inv hs
  exact GS_h fun D dA base p l e R s m args below meth c Q cells slots X H locs lsC hH hL _ _ kk => lv_sipush X.1 X.2.1 hd rfl kk
theorem g_lconst {z : Fin 2} (hd : decode (byt k) pc = .ok (.lconst z, len)) (hs : exec k pc ls st h len (.lconst z) = some (.inl (pc', ls', st', h'))) : GS k pc ls st h pc' ls' st' h' := by
  obtain rfl := (o1_inv hs).1
  replace hs := (o1_inv hs).2
  obtain ⟨rfl, rfl, rfl, rfl⟩ := go_inv hs
  exact GS_h fun D dA base p l e R s m args below meth c Q cells slots X H locs lsC hH hL _ _ kk => lv_lconst X.1 X.2.1 hd rfl kk
theorem g_null (hd : decode (byt k) pc = .ok (.aconst_null, len)) (hs : exec k pc ls st h len .aconst_null = some (.inl (pc', ls', st', h'))) : GS k pc ls st h pc' ls' st' h' := by
  obtain rfl := (o1_inv hs).1
  replace hs := (o1_inv hs).2
  obtain ⟨rfl, rfl, rfl, rfl⟩ := go_inv hs
  exact GS_h fun D dA base p l e R s m args below meth c Q cells slots X H locs lsC hH hL _ _ kk => lv_null X.1 X.2.1 hd kk
theorem itb_at {o i p : Nat} {v : Int32} (hl : look (itb o) i = some (v, p)) : Cond.constant (ow o) i v ∈ TB := isT_TB (List.all_eq_true.mp (itb_ok o) _ (look_mem hl))
theorem ltb_at {o i p : Nat} {v : Int64} (hl : look (ltb o) i = some (v, p)) : Cond.constantLong (ow o) i v ∈ TB := isT_TB (List.all_eq_true.mp (ltb_ok o) _ (look_mem hl))
theorem ctb_at {o i p c : Nat} (hl : look (ctb o) i = some (c, p)) : Cond.classLink (ow o) i (clN c) ∈ TB := isT_TB (List.all_eq_true.mp (ctb_ok o) _ (look_mem hl))
theorem g_ldc {z : Nat} (hd : decode (byt k) pc = .ok (.ldc z, len)) (hs : exec k pc ls st h len (.ldc z) = some (.inl (pc', ls', st', h'))) : GS k pc ls st h pc' ls' st' h' := by
  obtain rfl := (o1_inv hs).1
  replace hs := (o1_inv hs).2
  split at hs
  case h_2 => cases hs
  case h_1 v q hl =>
    obtain ⟨rfl, rfl, rfl, rfl⟩ := go_inv hs
    exact GS_h fun D dA base p l e R s m args below meth c Q cells slots X H locs lsC hH hL _ _ kk => lv_ldc X.1 X.2.1 X.2.2.2.2.1 (X.2.2.2.2.2.1 _ (itb_at hl)) hd kk
theorem g_ldc_w {z : Nat} (hd : decode (byt k) pc = .ok (.ldc_w z, len)) (hs : exec k pc ls st h len (.ldc_w z) = some (.inl (pc', ls', st', h'))) : GS k pc ls st h pc' ls' st' h' := by
  obtain rfl := (o1_inv hs).1
  replace hs := (o1_inv hs).2
  split at hs
  case h_2 => cases hs
  case h_1 v q hl =>
    obtain ⟨rfl, rfl, rfl, rfl⟩ := go_inv hs
    exact GS_h fun D dA base p l e R s m args below meth c Q cells slots X H locs lsC hH hL _ _ kk => lv_ldcw X.1 X.2.1 X.2.2.2.2.1 (X.2.2.2.2.2.1 _ (itb_at hl)) hd kk
theorem g_ldc2 {z : Nat} (hd : decode (byt k) pc = .ok (.ldc2_w z, len)) (hs : exec k pc ls st h len (.ldc2_w z) = some (.inl (pc', ls', st', h'))) : GS k pc ls st h pc' ls' st' h' := by
  obtain rfl := (o1_inv hs).1
  replace hs := (o1_inv hs).2
  split at hs
  case h_2 => cases hs
  case h_1 v q hl =>
    obtain ⟨rfl, rfl, rfl, rfl⟩ := go_inv hs
    exact GS_h fun D dA base p l e R s m args below meth c Q cells slots X H locs lsC hH hL _ _ kk => lv_ldc2 X.1 X.2.1 X.2.2.2.2.1 (X.2.2.2.2.2.1 _ (ltb_at hl)) hd kk
theorem g_iload {z : Nat} (hd : decode (byt k) pc = .ok (.iload z, len)) (hs : exec k pc ls st h len (.iload z) = some (.inl (pc', ls', st', h'))) : GS k pc ls st h pc' ls' st' h' := by
  obtain rfl := (o1_inv hs).1
  replace hs := (o1_inv hs).2
  obtain ⟨v, hl, ⟨x, rfl, q⟩ | ⟨x, rfl, q⟩ | ⟨x, rfl, q⟩, rfl, rfl, rfl, rfl⟩ := lo_inv hs <;> first | (cases q; done) | exact GS_h fun D dA base p l e R s m args below meth c Q cells slots X H locs lsC hH hL _ _ kk => lv_iload X.1 X.2.1 hd (loc_at hL hl) kk
theorem g_iload_n {z : Fin 4} (hd : decode (byt k) pc = .ok (.iload_n z, len)) (hs : exec k pc ls st h len (.iload_n z) = some (.inl (pc', ls', st', h'))) : GS k pc ls st h pc' ls' st' h' := by
  obtain rfl := (o1_inv hs).1
  replace hs := (o1_inv hs).2
  obtain ⟨v, hl, ⟨x, rfl, q⟩ | ⟨x, rfl, q⟩ | ⟨x, rfl, q⟩, rfl, rfl, rfl, rfl⟩ := lo_inv hs <;> first | (cases q; done) | exact GS_h fun D dA base p l e R s m args below meth c Q cells slots X H locs lsC hH hL _ _ kk => lv_iload_n X.1 X.2.1 hd rfl (loc_at hL hl) kk
theorem g_lload {z : Nat} (hd : decode (byt k) pc = .ok (.lload z, len)) (hs : exec k pc ls st h len (.lload z) = some (.inl (pc', ls', st', h'))) : GS k pc ls st h pc' ls' st' h' := by
  obtain rfl := (o1_inv hs).1
  replace hs := (o1_inv hs).2
  obtain ⟨v, hl, ⟨x, rfl, q⟩ | ⟨x, rfl, q⟩ | ⟨x, rfl, q⟩, rfl, rfl, rfl, rfl⟩ := lo_inv hs <;> first | (cases q; done) | exact GS_h fun D dA base p l e R s m args below meth c Q cells slots X H locs lsC hH hL _ _ kk => lv_lload X.1 X.2.1 hd (loc_at hL hl) kk
theorem g_lload_n {z : Fin 4} (hd : decode (byt k) pc = .ok (.lload_n z, len)) (hs : exec k pc ls st h len (.lload_n z) = some (.inl (pc', ls', st', h'))) : GS k pc ls st h pc' ls' st' h' := by
  obtain rfl := (o1_inv hs).1
  replace hs := (o1_inv hs).2
  obtain ⟨v, hl, ⟨x, rfl, q⟩ | ⟨x, rfl, q⟩ | ⟨x, rfl, q⟩, rfl, rfl, rfl, rfl⟩ := lo_inv hs <;> first | (cases q; done) | exact GS_h fun D dA base p l e R s m args below meth c Q cells slots X H locs lsC hH hL _ _ kk => lv_lload_n X.1 X.2.1 hd rfl (loc_at hL hl) kk
theorem g_aload {z : Nat} (hd : decode (byt k) pc = .ok (.aload z, len)) (hs : exec k pc ls st h len (.aload z) = some (.inl (pc', ls', st', h'))) : GS k pc ls st h pc' ls' st' h' := by
  obtain rfl := (o1_inv hs).1
  replace hs := (o1_inv hs).2
  obtain ⟨v, hl, ⟨x, rfl, q⟩ | ⟨x, rfl, q⟩ | ⟨x, rfl, q⟩, rfl, rfl, rfl, rfl⟩ := lo_inv hs <;> first | (cases q; done) | (cases x with
    | zero => exact GS_h fun D dA base p l e R s m args below meth c Q cells slots X H locs lsC hH hL _ _ kk => lv_aloadN X.1 X.2.1 hd (loc_at hL hl) kk
    | succ x => exact GS_h fun D dA base p l e R s m args below meth c Q cells slots X H locs lsC hH hL _ _ kk => lv_aload X.1 X.2.1 hd (loc_at hL hl) kk)
theorem g_aload_n {z : Fin 4} (hd : decode (byt k) pc = .ok (.aload_n z, len)) (hs : exec k pc ls st h len (.aload_n z) = some (.inl (pc', ls', st', h'))) : GS k pc ls st h pc' ls' st' h' := by
  obtain rfl := (o1_inv hs).1
  replace hs := (o1_inv hs).2
  obtain ⟨v, hl, ⟨x, rfl, q⟩ | ⟨x, rfl, q⟩ | ⟨x, rfl, q⟩, rfl, rfl, rfl, rfl⟩ := lo_inv hs <;> first | (cases q; done) | (cases x with
    | zero => exact GS_h fun D dA base p l e R s m args below meth c Q cells slots X H locs lsC hH hL _ _ kk => lv_aload_nN X.1 X.2.1 hd rfl (loc_at hL hl) kk
    | succ x => exact GS_h fun D dA base p l e R s m args below meth c Q cells slots X H locs lsC hH hL _ _ kk => lv_aload_n X.1 X.2.1 hd rfl (loc_at hL hl) kk)
/-- a store into a local -/
theorem GS_s {st0 : List Value} (hn : ls'.length = ls.length)
    (row : ∀ (D : va_G) (dA : Nat → ClassId) (base : Nat) (p : Program) (l : Launch) (e : Env) (R : Room) (s : State) (m : MethodId) (args : Array Value) (below : List Frame) (meth : Method) (c : Code) (Q : State → Prop) (cells slots : Nat), Cx D dA base k p R s m args meth c → ls.length ≤ mxl k → ∀ (H : Heap) (locs : List Loc) (lsC : Array Slot), lv_has lsC (mxl k) (lp base 0 ls) → (∀ lsC' : Array Slot, lv_has lsC' (mxl k) (lp base 0 ls') → W p l e R s m args below meth c H locs cells slots Q (F0 m pc' lsC' (st'.map (cv base)))) → W p l e R s m args below meth c H locs cells slots Q (F0 m pc lsC (st0.map (cv base)))) : GS k pc ls st0 h pc' ls' st' h :=
  ⟨⟨Nat.le_refl _, Nat.le_refl _, hn⟩, fun D dA base n0 sl0 p l e R s m args below meth c Q X hc hs hV hn0 hsl hll H locs lsC hH hS hL => row D dA base p l e R s m args below meth c Q _ _ X hll H locs lsC hL (fun lsC' hL' => hV hn0 hsl (by rw [hn]; exact hll) H locs lsC' hH hS hL')⟩
theorem g_istore {z : Nat} (hd : decode (byt k) pc = .ok (.istore z, len)) (hs : exec k pc ls st h len (.istore z) = some (.inl (pc', ls', st', h'))) : GS k pc ls st h pc' ls' st' h' := by
  obtain rfl := (o1_inv hs).1
  replace hs := (o1_inv hs).2
  obtain ⟨v, rfl, ⟨x, rfl, q, hl⟩ | ⟨x, rfl, q, hl⟩ | ⟨x, rfl, q, hl⟩, rfl, rfl⟩ := st_inv hs <;> first | (cases q; done) | exact GS_s (st1_spec hl).2.1 fun D dA base p l e R s m args below meth c Q cells slots X hll H locs lsC hL kk => lv_istore X.1 X.2.1 hd hL (Nat.lt_of_lt_of_le (st1_spec hl).1 hll) rfl (fun lsC' h' => kk lsC' (lv_st1 hl h'))
theorem g_istore_n {z : Fin 4} (hd : decode (byt k) pc = .ok (.istore_n z, len)) (hs : exec k pc ls st h len (.istore_n z) = some (.inl (pc', ls', st', h'))) : GS k pc ls st h pc' ls' st' h' := by
  obtain rfl := (o1_inv hs).1
  replace hs := (o1_inv hs).2
  obtain ⟨v, rfl, ⟨x, rfl, q, hl⟩ | ⟨x, rfl, q, hl⟩ | ⟨x, rfl, q, hl⟩, rfl, rfl⟩ := st_inv hs <;> first | (cases q; done) | exact GS_s (st1_spec hl).2.1 fun D dA base p l e R s m args below meth c Q cells slots X hll H locs lsC hL kk => lv_istore_n X.1 X.2.1 hd rfl hL (Nat.lt_of_lt_of_le (st1_spec hl).1 hll) rfl (fun lsC' h' => kk lsC' (lv_st1 hl h'))
theorem g_lstore {z : Nat} (hd : decode (byt k) pc = .ok (.lstore z, len)) (hs : exec k pc ls st h len (.lstore z) = some (.inl (pc', ls', st', h'))) : GS k pc ls st h pc' ls' st' h' := by
  obtain rfl := (o1_inv hs).1
  replace hs := (o1_inv hs).2
  obtain ⟨v, rfl, ⟨x, rfl, q, hl⟩ | ⟨x, rfl, q, hl⟩ | ⟨x, rfl, q, hl⟩, rfl, rfl⟩ := st_inv hs <;> first | (cases q; done) | exact GS_s (st2_spec hl).2.1 fun D dA base p l e R s m args below meth c Q cells slots X hll H locs lsC hL kk => lv_lstore X.1 X.2.1 hd hL (Nat.lt_of_lt_of_le (st2_spec hl).1 hll) rfl (fun lsC' h' => kk lsC' (lv_st2 hl h'))
theorem g_lstore_n {z : Fin 4} (hd : decode (byt k) pc = .ok (.lstore_n z, len)) (hs : exec k pc ls st h len (.lstore_n z) = some (.inl (pc', ls', st', h'))) : GS k pc ls st h pc' ls' st' h' := by
  obtain rfl := (o1_inv hs).1
  replace hs := (o1_inv hs).2
  obtain ⟨v, rfl, ⟨x, rfl, q, hl⟩ | ⟨x, rfl, q, hl⟩ | ⟨x, rfl, q, hl⟩, rfl, rfl⟩ := st_inv hs <;> first | (cases q; done) | exact GS_s (st2_spec hl).2.1 fun D dA base p l e R s m args below meth c Q cells slots X hll H locs lsC hL kk => lv_lstore_n X.1 X.2.1 hd rfl hL (Nat.lt_of_lt_of_le (st2_spec hl).1 hll) rfl (fun lsC' h' => kk lsC' (lv_st2 hl h'))
theorem g_astore {z : Nat} (hd : decode (byt k) pc = .ok (.astore z, len)) (hs : exec k pc ls st h len (.astore z) = some (.inl (pc', ls', st', h'))) : GS k pc ls st h pc' ls' st' h' := by
  obtain rfl := (o1_inv hs).1
  replace hs := (o1_inv hs).2
  obtain ⟨v, rfl, ⟨x, rfl, q, hl⟩ | ⟨x, rfl, q, hl⟩ | ⟨x, rfl, q, hl⟩, rfl, rfl⟩ := st_inv hs <;> first | (cases q; done) | (cases x with
    | zero => exact GS_s (st1_spec hl).2.1 fun D dA base p l e R s m args below meth c Q cells slots X hll H locs lsC hL kk => lv_astoreN X.1 X.2.1 hd hL (Nat.lt_of_lt_of_le (st1_spec hl).1 hll) rfl (fun lsC' h' => kk lsC' (lv_st1 hl h'))
    | succ x => exact GS_s (st1_spec hl).2.1 fun D dA base p l e R s m args below meth c Q cells slots X hll H locs lsC hL kk => lv_astore X.1 X.2.1 hd hL (Nat.lt_of_lt_of_le (st1_spec hl).1 hll) rfl (fun lsC' h' => kk lsC' (lv_st1 hl h')))
theorem g_astore_n {z : Fin 4} (hd : decode (byt k) pc = .ok (.astore_n z, len)) (hs : exec k pc ls st h len (.astore_n z) = some (.inl (pc', ls', st', h'))) : GS k pc ls st h pc' ls' st' h' := by
  obtain rfl := (o1_inv hs).1
  replace hs := (o1_inv hs).2
  obtain ⟨v, rfl, ⟨x, rfl, q, hl⟩ | ⟨x, rfl, q, hl⟩ | ⟨x, rfl, q, hl⟩, rfl, rfl⟩ := st_inv hs <;> first | (cases q; done) | (cases x with
    | zero => exact GS_s (st1_spec hl).2.1 fun D dA base p l e R s m args below meth c Q cells slots X hll H locs lsC hL kk => lv_astore_nN X.1 X.2.1 hd rfl hL (Nat.lt_of_lt_of_le (st1_spec hl).1 hll) rfl (fun lsC' h' => kk lsC' (lv_st1 hl h'))
    | succ x => exact GS_s (st1_spec hl).2.1 fun D dA base p l e R s m args below meth c Q cells slots X hll H locs lsC hL kk => lv_astore_n X.1 X.2.1 hd rfl hL (Nat.lt_of_lt_of_le (st1_spec hl).1 hll) rfl (fun lsC' h' => kk lsC' (lv_st1 hl h')))
theorem g_iinc {z : Nat} {q : Int} (hd : decode (byt k) pc = .ok (.iinc z q, len)) (hs : exec k pc ls st h len (.iinc z q) = some (.inl (pc', ls', st', h'))) : GS k pc ls st h pc' ls' st' h' := by
  obtain rfl := (o1_inv hs).1
  replace hs := (o1_inv hs).2
  unfold x_inc at hs
  split at hs
  · rename_i x hl
    obtain ⟨hs1, rfl, rfl, rfl⟩ := bind_go hs
    refine GS_s (st1_spec hs1).2.1 fun D dA base p l e R s m args below meth c Q cells slots X hll H locs lsC hL kk => ?_
    obtain ⟨kx, hkx⟩ := List.getElem?_of_mem (lp_mem (base := base) (m := 0) (ldl_at hl))
    exact lv_iinc X.1 X.2.1 hd hL (by rw [hkx]; simp [cv]) rfl (Nat.lt_of_lt_of_le (st1_spec hs1).1 hll) rfl (fun lsC' h' => kk lsC' (lv_st1 hs1 h'))
  · cases hs
end GO1
