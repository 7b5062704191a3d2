/-! the steps together; returns; calls; the abstract machine's runs are the real one's -/
theorem go_snd {k pc : Nat} {ls : Lo} {st : List Value} {h : Hp} {pc' : Nat} {ls' : Lo} {st' : List Value} {h' : Hp} (hs : stp k pc ls st h = some (.inl (pc', ls', st', h'))) : GS k pc ls st h pc' ls' st' h' := by
  unfold stp at hs
  split at hs
  case h_2 => cases hs
  case h_1 ins len hd =>
    cases ins with
    | iconst z => exact g_iconst hd hs
    | bipush z => exact g_bipush hd hs
    | sipush z => exact g_sipush hd hs
    | lconst z => exact g_lconst hd hs
    | aconst_null => exact g_null hd hs
    | ldc z => exact g_ldc hd hs
    | ldc_w z => exact g_ldc_w hd hs
    | ldc2_w z => exact g_ldc2 hd hs
    | iload z => exact g_iload hd hs
    | iload_n z => exact g_iload_n hd hs
    | lload z => exact g_lload hd hs
    | lload_n z => exact g_lload_n hd hs
    | aload z => exact g_aload hd hs
    | aload_n z => exact g_aload_n hd hs
    | istore z => exact g_istore hd hs
    | istore_n z => exact g_istore_n hd hs
    | lstore z => exact g_lstore hd hs
    | lstore_n z => exact g_lstore_n hd hs
    | astore z => exact g_astore hd hs
    | astore_n z => exact g_astore_n hd hs
    | iinc z q => exact g_iinc hd hs
    | iadd => exact g_iadd hd hs
    | isub => exact g_isub hd hs
    | imul => exact g_imul hd hs
    | iand => exact g_iand hd hs
    | ixor => exact g_ixor hd hs
    | idiv => exact g_idiv hd hs
    | irem => exact g_irem hd hs
    | ishl => exact g_ishl hd hs
    | ishr => exact g_ishr hd hs
    | iushr => exact g_iushr hd hs
    | ladd => exact g_ladd hd hs
    | lsub => exact g_lsub hd hs
    | lmul => exact g_lmul hd hs
    | ldiv => exact g_ldiv hd hs
    | lrem => exact g_lrem hd hs
    | lshl => exact g_lshl hd hs
    | ineg => exact g_ineg hd hs
    | lneg => exact g_lneg hd hs
    | i2l => exact g_i2l hd hs
    | i2b => exact g_i2b hd hs
    | l2i => exact g_l2i hd hs
    | lcmp => exact g_lcmp hd hs
    | dup => exact g_dup hd hs
    | dup_x1 => exact g_dup_x1 hd hs
    | dup2 => exact g_dup2 hd hs
    | pop => exact g_pop hd hs
    | goto off => exact g_goto hd hs
    | ifCond c off => exact g_ifCond hd hs
    | if_icmp c off => exact g_if_icmp hd hs
    | ifnull off => exact g_ifnull hd hs
    | ifnonnull off => exact g_ifnonnull hd hs
    | tableswitch d lo hi offs => exact g_ts hd hs
    | getfield z => exact g_getfield hd hs
    | putfield z => exact g_putfield hd hs
    | iaload => exact g_iaload hd hs
    | laload => exact g_laload hd hs
    | aaload => exact g_aaload hd hs
    | iastore => exact g_iastore hd hs
    | lastore => exact g_lastore hd hs
    | aastore => exact g_aastore hd hs
    | arraylength => exact g_alen hd hs
    | newarray a => exact g_newarray hd hs
    | anewarray z => exact g_anewarray hd hs
    | multianewarray z d => exact g_mna hd hs
    | new z => exact g_new hd hs
    | instanceof z => exact g_io hd hs
    | invokestatic z => exact g_is hd hs
    | invokevirtual z => exact g_iv hs
    | invokespecial z => exact g_ip hd hs
    | ireturn => exact (x_ret_no (o1_inv hs).2).elim
    | lreturn => exact (x_ret_no (o1_inv hs).2).elim
    | areturn => exact (x_ret_no (o1_inv hs).2).elim
    | return_ => exact (x_ret_no (o1_inv hs).2).elim
    | _ => cases hs
def PcK (D : va_G) (dA : Nat → ClassId) (base : Nat) (as : List Value) (h : Hp) : Array Value → State → Prop := fun v U => v = (as.map (cv base)).toArray ∧ HR D dA base h U.heap ∧ Stt D dA U
def QcK (D : va_G) (dA : Nat → ClassId) (base : Nat) (r : Option Value) (h' : Hp) : Array Value → State → Outcome → State → Prop := fun _ st oc t => oc = .returned (r.map (cv base)) ∧ HR D dA base h' t.heap ∧ Stt D dA t ∧ st.heap.size ≤ t.heap.size ∧ ∀ q, q < base → t.heap[q]? = st.heap[q]?
def wsK (k : Nat) : List Cond := .code (mNm k) (byt k) (mxl k) (mRt k) :: TB
theorem PcK.blind {D : va_G} {dA : Nat → ClassId} {base : Nat} {as : List Value} {h : Hp} : FrameBlind (PcK D dA base as h) := fun a U g mk q => ⟨q.1, q.2.1, Stt.same (s := U) (U := U.calling g mk a) (show U.vm = (U.calling g mk a).vm from rfl) q.2.2⟩
theorem mP_of {k : Nat} (hk : k < 168) : mP (mtab.getD k mdf) := by
  have hl : k < mtab.length := Nat.lt_of_lt_of_le hk (by decide +kernel)
  have e : mtab.getD k mdf = mtab[k] := by simp [List.getD_eq_getElem?_getD, hl]
  rw [e]
  exact mpa _ (List.getElem_mem hl)
theorem cvr_or (base v : Nat) : cvr base v = .null ∨ ∃ a, cvr base v = .ref a := by
  cases v with
  | zero => exact Or.inl rfl
  | succ v => exact Or.inr ⟨_, rfl⟩
theorem ret_snd {k pc : Nat} {ls : Lo} {st : List Value} {h : Hp} {r : Option Value} (hs : stp k pc ls st h = some (.inr (.inl r))) (D : va_G) (dA : Nat → ClassId) (base n0 sl0 : Nat) (p : Program) (l : Launch) (e : Env) (R : Room) (s : State) (m : MethodId) (args : Array Value) (below : List Frame) (meth : Method) (c : Code) (X : Cx D dA base k p R s m args meth c) : V D dA base k n0 sl0 p l e R s m args below meth c (MQ below (QcK D dA base r h) args s (h.1 - n0) (h.2.1 - sl0) (fun q => base ≤ q)) pc ls st h := by
  intro hn hsl hll H locs lsC hH hS hL
  obtain ⟨hx, hb, hr, hml, hown, hts, hlocks, -, hst, hbase, -, -⟩ := X
  have post : ∀ (v : Option Value), v = r.map (cv base) → ∀ t : State, t.heap = H → s.WarmedH t.vm → QcK D dA base r h args s (.returned v) t := fun v hv t ht hW => ⟨by rw [hv], by rw [ht]; exact hH, hst.warm hW, by rw [ht]; exact hS.1, fun q hq => by rw [ht]; exact hS.2.1 q (by omega) (by omega)⟩
  unfold stp at hs
  split at hs
  case h_2 => cases hs
  case h_1 ins len hd =>
    have no : ∀ {x : Option Ac}, x = some (.inr (.inl r)) → (∀ a, x = some a → ∃ q, a = Sum.inl q) → False := fun h1 h2 => by
      obtain ⟨q, hq⟩ := h2 _ h1
      cases hq
    have key : ∀ ty : Nat, x_ret k st ty = some (.inr (.inl r)) → (ty = 0 → decode (byt k) pc = .ok (.ireturn, 1)) → (ty = 1 → decode (byt k) pc = .ok (.lreturn, 1)) → (ty = 2 → decode (byt k) pc = .ok (.areturn, 1)) → (ty = 9 → decode (byt k) pc = .ok (.return_, 1)) → W p l e R s m args below meth c H locs (h.1 - n0) (h.2.1 - sl0) (MQ below (QcK D dA base r h) args s (h.1 - n0) (h.2.1 - sl0) (fun q => base ≤ q)) (F0 m pc lsC (st.map (cv base))) := by
      intro ty hs d0 d1 d2 d9
      unfold x_ret at hs
      split at hs
      · split at hs
        · rename_i hh
          cases hs
          exact W.vret hx hb (hr.trans hh.2) (post _ rfl) hS.2.2 (d9 hh.1) hlocks
        · cases hs
      · split at hs
        · rename_i hh
          cases hs
          rcases hh.2 with q | ⟨q, q2⟩
          · exact W.iret hx hb (hr.trans q) (post _ rfl) hS.2.2 (d0 hh.1) hlocks
          · exact W.zret hx hb (hr.trans q) (by rcases q2 with rfl | rfl <;> rfl) (post _ rfl) hS.2.2 (d0 hh.1) hlocks
        · cases hs
      · split at hs
        · rename_i hh
          cases hs
          exact W.lret hx hb (hr.trans hh.2) (post _ rfl) hS.2.2 (d1 hh.1) hlocks
        · cases hs
      · split at hs
        · rename_i hh
          cases hs
          rcases hh.2 with q | q
          · exact W.aret hx hb (hr.trans q) (Or.inl ⟨_, rfl⟩) (cvr_or _ _) (post _ rfl) hS.2.2 (d2 hh.1) hlocks
          · exact W.aret hx hb (hr.trans q) (Or.inr ⟨_, rfl⟩) (cvr_or _ _) (post _ rfl) hS.2.2 (d2 hh.1) hlocks
        · cases hs
      · cases hs
    have go1 : ∀ {a b : Nat} {x y : Lo} {s1 s2 : List Value} {h1 : Hp}, go a x s1 h1 = some (.inr (.inl r)) → False := fun q => by unfold go at q; cases q
    cases ins with
    | ireturn =>
      obtain rfl := (o1_inv hs).1
      exact key 0 (o1_inv hs).2 (fun _ => hd) (fun q => by cases q) (fun q => by cases q) (fun q => by cases q)
    | lreturn =>
      obtain rfl := (o1_inv hs).1
      exact key 1 (o1_inv hs).2 (fun q => by cases q) (fun _ => hd) (fun q => by cases q) (fun q => by cases q)
    | areturn =>
      obtain rfl := (o1_inv hs).1
      exact key 2 (o1_inv hs).2 (fun q => by cases q) (fun q => by cases q) (fun _ => hd) (fun q => by cases q)
    | return_ =>
      obtain rfl := (o1_inv hs).1
      exact key 9 (o1_inv hs).2 (fun q => by cases q) (fun q => by cases q) (fun q => by cases q) (fun _ => hd)
    | _ =>
      exfalso
      simp only [exec, o1, go, x_lo, x_st, x_ii, x_ll, x_u, x_inc, x_lsh, x_cmp, x_dup, x_dx1, x_dup2, x_pop, jmp, x_if, x_ic, x_nu, x_ts, x_get, x_put, x_ald, x_ast, x_len, x_newa, x_anew, x_mna, x_new, x_io, x_is, x_iv, x_ip, callA] at hs
      repeat' (first | (cases hs; done) | split at hs | (simp only [Option.bind_eq_some_iff] at hs; obtain ⟨_, _, hs⟩ := hs))
