theorem alt_lt_1 : ∀ o : Nat, o < 13 → ((vtb o).all (fun q => q.2.2.2.2.2.1.all (fun a => decide (a.2.1 < 168)))) = true := by decide +kernel
theorem alt_lt {o z kd na : Nat} {x : MethodName} {ow0 : String} {al : List (Nat × Nat × List Nat)} {wd : List Nat} (hl : look (vtb o) z = some (kd, na, x, ow0, al, wd)) {c k2 : Nat} {w : List Nat} (h : (c, k2, w) ∈ al) : k2 < 168 := by
  have ho : ((vtb o).all (fun q => q.2.2.2.2.2.1.all (fun a => decide (a.2.1 < 168)))) = true := by
    by_cases h13 : o < 13
    · exact alt_lt_1 o h13
    · have e : vtb o = [] := by
        match o, h13 with
        | n + 13, _ => rfl
      rw [e]
      rfl
  have := List.all_eq_true.mp (List.all_eq_true.mp ho _ (look_mem hl)) _ h
  simpa using this
section RUN9
variable {p : Program} {l : Launch} {e : Env} {R : Room} {s : State} {m : MethodId} {args : Array Value} {below : List Frame} {meth : Method} {c : Code} {H : Heap} {locs : List Loc} {cells slots : Nat}
/-- super.m(..), where the superclass has m from its own superclass -/
theorem va_run9 {x y : MethodName} {bytes cc : ByteArray} {maxL nL mc ms n index : Nat} {ret : Option FieldType} {ws : List Cond} {rm : Room} {Pc : Array Value → State → Prop} {Qc : Array Value → State → Outcome → State → Prop} {free : Addr → Prop} {Ts : List Cond} {own C : String} {cC : ClassId} {b : Addr} {As rest : List Value} {g : JFrame}
    (hat : ClassAt s C cC) (S : CallFix p m c cc nL s args Ts own) (hM : Met l y ws rm Pc Qc mc ms free) (hrc : rm.cells = mc) (hrs : rm.slots = ms) (hfr : rm.frames + 1 ≤ R.frames) (hlo : 8 + (maxL + 11) + rm.locals ≤ R.locals) (hws : ∀ w ∈ ws, ∀ (a' : Array Value) (U : State), s.WarmedH U.vm → w.before a' U = true) (hcw : Cond.code y bytes maxL ret ∈ ws) (hcode : (Cond.code y bytes maxL ret).before args s = true) (hini : (Cond.initialized y.cls).before args s = true)
    (hl1 : (Cond.methodLink own index x).before args s = true) (hl2 : (Cond.sameMethod x.cls y.cls x.name x.desc).before args s = true) (hl3 : (Cond.superclass own x.cls).before args s = true) (hl5 : (Cond.superclass x.cls y.cls).before args s = true) (hl4 : (Cond.instanceMethod y).before args s = true) (hno : x.name ≠ "<init>") (hy : y = ⟨y.cls, x.name, x.desc⟩) (hlen : ∀ sig, parseMethodDescriptor x.desc = some sig → n = sig.parameters.length) (hp : PreV s H C b Pc As)
    (hg : g.method = m) (hn : As.length = n) (hsize : g.locals.size = nL) (hstack : g.stack = As.reverse ++ .ref b :: rest) (hW : 2 * g.monitorRoom + (rest.map fun v => v.category).sum ≤ 8) (hdg : decode cc g.pc = .ok (.invokespecial index, 3)) (hf : cells + mc ≤ R.cells ∧ slots + ms ≤ R.slots) :
    va_Run p l e R s m args below meth c H locs cells slots mc ms g rest (Qc (Value.ref b :: As).toArray) (free) := by
  have hK : Back l R p e below s args y 3 8 (PreOf R mc ms Pc) (PostOf Qc mc ms free) := back_of (bytes := bytes) (maxL := maxL) (ret := ret) hM hp.1 hrc hrs hfr hlo hws hcw (fun a' U hW => word_at hW (Or.inl (by first | rfl | simp [Cond.onTables, Cond.keeps, Cond.steady])) hini)
  obtain ⟨hx, hb, hml, hown, -⟩ := S
  obtain ⟨-, ⟨cellB, hcB, hoB, hclB⟩, hPc⟩ := hp
  obtain ⟨hfc, kB, hkB, -⟩ := hat
  cases hfc.symm.trans hclB
  intro T hT X
  obtain ⟨mk, methM, hnamed, hmethM, hstM, habM⟩ := Cond.instanceMethod_spec hl4
  obtain ⟨methM', cM, hmethM', -, -, -, -, -, -, hsigM⟩ := Cond.code_spec hnamed hcode
  cases hmethM.symm.trans hmethM'
  obtain ⟨ps, dk, kp, hps, hdk, hkp, hsuper, -, -, hnid⟩ := Cond.superclass_spec hown hl3
  obtain ⟨pq, dq, kq, hpq, hdq, hkq, hsq, -, -, -⟩ := Cond.superclass_spec hps hl5
  have hn2 : s.methodNamed? ⟨y.cls, x.name, x.desc⟩ = some mk := by rw [← hy]; exact hnamed
  have hpm : pq = mk.cls := Option.some.inj (hpq.symm.trans (findClass_of_methodNamed hnamed))
  have hsub : s.vm.isSubclass ps mk.cls = true := by
    rw [← hpm]
    have hz : 0 < s.vm.classes.size := Nat.lt_of_le_of_lt (Nat.zero_le _) (Array.getElem?_eq_some_iff.mp hkq).1
    obtain ⟨n9, hn9⟩ := Nat.exists_eq_succ_of_ne_zero (by omega : s.vm.classes.size ≠ 0)
    simp [Vm.isSubclass, Vm.isSubclassAux, hdq, hsq]
    right
    rw [hn9]
    simp [Vm.isSubclassAux]
  have hlen2 : As.length = methM.sig.parameters.length := hn.trans (hlen _ (by rw [show x.desc = y.desc by rw [hy]]; exact hsigM))
  obtain ⟨vm₁, X₁, hstep₁⟩ := X.invokespecialUp hx hown hl1 hl2 hn2 hmethM hstM habM hno hdk hnid hps hsuper hsub (a := b) (cell := cellB) (by rw [hT]; exact hcB)
    (fun z h => by rw [h] at hoB; cases hoB) hkB (g := g) hg (argsL := As) (rest := rest) hlen2 hstack (by rw [hb]; exact hdg)
  obtain ⟨v, B, X', hpost, hsteps⟩ := hK m meth c ⟨T.setVm vm₁, locs, cells, slots⟩ { g with stack := rest } (.invokespecial index) mk (Value.ref b :: As).toArray X₁ hg (hsize.trans hml.symm) (by rw [hb]; exact hdg) hW (X₁.named hnamed) ⟨hf.1, hf.2, hPc (T.setVm vm₁) hT X₁.warmed⟩
  obtain ⟨U', l2, c2, s2⟩ := B
  obtain ⟨g', mk', t, L, e1, e2, hq, h1, hL, h2, h3⟩ := hpost
  dsimp only [Pt.U, Pt.locs, Pt.cells, Pt.slots] at X' e1 e2 h1 h2 h3 hsteps
  subst h1; subst h2; subst h3
  exact ⟨v, (T.setVm vm₁).calling g' mk' (Value.ref b :: As).toArray, t, U', L, hT, X', hL, e1, e2, hq, fun target h => hstep₁ _ (by rw [doInvoke_state]; exact hsteps.trans h)⟩
end RUN9
/-- from a call's run to the caller's -/
theorem call_gen {l : Launch} {k pc : Nat} {ls : Lo} {st : List Value} {h : Hp} {k2 : Nat} {as rest : List Value} {r1 : Option Value} {h1 : Hp} {r : Option Value} {h' : Hp} (hk2 : k2 < 168) (hla : (lay as).length ≤ mxl k2)
    (hv : VK l k2 0 (pad (mxl k2) (lay as)) [] h r1 h1) (hn : VK l k (pc + 3) ls (r1.toList ++ rest) h1 r h')
    (run : ∀ (D : va_G) (dA : Nat → ClassId) (base : Nat) (p : Program) (e : Env) (R : Room) (s : State) (m : MethodId) (args : Array Value) (below : List Frame) (meth : Method) (c : Code) (cells slots : Nat), Cx D dA base k p R s m args meth c → ∀ (H : Heap) (locs : List Loc) (lsC : Array Slot), HR D dA base h H → lsC.size = mxl k → cells + (h1.1 - h.1) ≤ R.cells → slots + (h1.2.1 - h.2.1) ≤ R.slots → Met l (mNm k2) (wsK k2) { frames := mFr k2, cells := h1.1 - h.1, slots := h1.2.1 - h.2.1, locals := mLo k2 } (PcK D dA base as h) (QcK D dA base r1 h1) (h1.1 - h.1) (h1.2.1 - h.2.1) (fun q => base ≤ q) → ∃ a, va_Run p l e R s m args below meth c H locs cells slots (h1.1 - h.1) (h1.2.1 - h.2.1) (F0 m pc lsC (st.map (cv base))) (rest.map (cv base)) (QcK D dA base r1 h1 a) (fun q => base ≤ q)) : VK l k pc ls st h r h' := by
  obtain ⟨⟨v1, v2⟩, -⟩ := id hv
  obtain ⟨⟨n1, n2⟩, nn⟩ := hn
  refine ⟨⟨by omega, by omega⟩, fun D dA base n0 sl0 p e R s m args below meth c X hc hs hn0 hsl hll H locs lsC hH hS hL => ?_⟩
  obtain ⟨a, hr⟩ := run D dA base p e R s m args below meth c (h.1 - n0) (h.2.1 - sl0) X H locs lsC hH hL.1 (by omega) (by omega) (met_of hk2 hla hv D dA base)
  refine W_call hr hS fun H1 locs1 hH1 hS1 => ?_
  have w := nn D dA base n0 sl0 p e R s m args below meth c X hc hs (by omega) (by omega) hll H1 locs1 lsC hH1 hS1 hL
  rw [show h1.1 - n0 = h.1 - n0 + (h1.1 - h.1) by omega, show h1.2.1 - sl0 = h.2.1 - sl0 + (h1.2.1 - h.2.1) by omega, show (r1.toList ++ rest).map (cv base) = (r1.map (cv base)).toList ++ rest.map (cv base) by cases r1 <;> simp] at w
  exact w
section CALLS
variable {l : Launch} {k pc len : Nat} {ls : Lo} {st : List Value} {h : Hp} {k2 : Nat} {as' : Lo} {pc' : Nat} {st' : List Value} {r1 : Option Value} {h1 : Hp} {r : Option Value} {h' : Hp}
theorem room_ok {D : va_G} {dA : Nat → ClassId} {base : Nat} {p : Program} {R : Room} {s : State} {m : MethodId} {args : Array Value} {meth : Method} {c : Code} (X : Cx D dA base k p R s m args meth c) {hf : mFr k2 + 1 ≤ mFr k} {hl : 8 + (mxl k2 + 11) + mLo k2 ≤ mLo k} : mFr k2 + 1 ≤ R.frames ∧ 8 + (mxl k2 + 11) + mLo k2 ≤ R.locals := by
  obtain ⟨-, -, -, -, -, -, -, -, -, -, a, b⟩ := X
  omega
theorem cb_of {D : va_G} {dA : Nat → ClassId} {base : Nat} {p : Program} {R : Room} {s : State} {m : MethodId} {args : Array Value} {meth : Method} {c : Code} (X : Cx D dA base k p R s m args meth c) (hk2 : k2 < 168) (hf : mFr k2 + 1 ≤ mFr k) (hl : 8 + (mxl k2 + 11) + mLo k2 ≤ mLo k) {z mc ms n : Nat} (hlink : Cond.methodLink (ow (mOw k)) z (mNm k2) ∈ TB) (hn : npr (mNm k2).desc = some n) : CallB R s args (ow (mOw k)) z (mNm k2) (byt k2) (mxl k2) (mRt k2) (wsK k2) { frames := mFr k2, cells := mc, slots := ms, locals := mLo k2 } mc ms n := by
  obtain ⟨m1, m2, m3, m4, m5, m6⟩ := mP_of hk2
  obtain ⟨q1, q2⟩ := room_ok (k2 := k2) X (hf := hf) (hl := hl)
  have hts := X.2.2.2.2.2.1
  exact ⟨rfl, rfl, q1, q2, pay_in hts (good_ws hk2), List.mem_cons_self, hts _ m1, hts _ m3, ⟨m5, m6⟩, npr_len hn, hts _ hlink⟩
theorem cn_of {D : va_G} {dA : Nat → ClassId} {base : Nat} {p : Program} {R : Room} {s : State} {m : MethodId} {args : Array Value} {meth : Method} {c : Code} (X : Cx D dA base k p R s m args meth c) (hk2 : k2 < 168) (hf : mFr k2 + 1 ≤ mFr k) (hl : 8 + (mxl k2 + 11) + mLo k2 ≤ mLo k) {z mc ms n : Nat} {host : String} (hlink : Cond.methodLinkNest (ow (mOw k)) z (mNm k2) host ∈ nwN) (hn : npr (mNm k2).desc = some n) : va_CN R s args (ow (mOw k)) z (mNm k2) host (byt k2) (mxl k2) (mRt k2) (wsK k2) { frames := mFr k2, cells := mc, slots := ms, locals := mLo k2 } mc ms n := by
  obtain ⟨m1, m2, m3, m4, m5, m6⟩ := mP_of hk2
  obtain ⟨q1, q2⟩ := room_ok (k2 := k2) X (hf := hf) (hl := hl)
  have hts := X.2.2.2.2.2.1
  exact ⟨⟨rfl, rfl, q1, q2, pay_in hts (good_ws hk2), List.mem_cons_self⟩, hts _ m1, hts _ m3, ⟨m5, m6⟩, npr_len hn, va_Nw.use rfl (X.2.2.2.2.2.2.2.2.1.2.1 _ hlink)⟩
theorem fix_of {D : va_G} {dA : Nat → ClassId} {base : Nat} {p : Program} {R : Room} {s : State} {m : MethodId} {args : Array Value} {meth : Method} {c : Code} (X : Cx D dA base k p R s m args meth c) : CallFix p m c (byt k) (mxl k) s args TB (ow (mOw k)) := ⟨X.1, X.2.1, X.2.2.2.1, X.2.2.2.2.1, X.2.2.2.2.2.1⟩
theorem preS_of {D : va_G} {dA : Nat → ClassId} {base : Nat} {p : Program} {R : Room} {s : State} {m : MethodId} {args : Array Value} {meth : Method} {c : Code} (X : Cx D dA base k p R s m args meth c) {H : Heap} (hH : HR D dA base h H) {as : List Value} : PreS s H (PcK D dA base as h) (as.map (cv base)) := ⟨PcK.blind, fun U hU hW => ⟨rfl, by rw [hU]; exact hH, X.2.2.2.2.2.2.2.2.1.warm hW⟩⟩
theorem preV_of {D : va_G} {dA : Nat → ClassId} {base : Nat} {p : Program} {R : Room} {s : State} {m : MethodId} {args : Array Value} {meth : Method} {c : Code} (X : Cx D dA base k p R s m args meth c) {H : Heap} (hH : HR D dA base h H) {as : List Value} {j cc : Nat} {rr : vw_C} (hC : h.2.2.1 (j + 1) = cc + 1) (hr : vwCl[cc]? = some rr) : PreV s H rr.1 (base + j) (PcK D dA base (.ref (j + 1) :: as) h) (as.map (cv base)) := by
  obtain ⟨cell, g1, g2, g3, -⟩ := (hH.2.2.2 j).1 cc rr hC hr
  exact ⟨PcK.blind, ⟨cell, g1, by rw [g3]; rfl, by rw [g2]; exact (X.2.2.2.2.2.2.2.2.1.1.1 cc rr hr).2.1⟩, fun U hU hW => ⟨rfl, by rw [hU]; exact hH, X.2.2.2.2.2.2.2.2.1.warm hW⟩⟩
theorem hW_of {base : Nat} {rest : List Value} {m : MethodId} {lsC : Array Slot} {st0 : List Value} (hw : wsum rest ≤ 8) : 2 * (F0 m pc lsC st0).monitorRoom + ((rest.map (cv base)).map fun v => v.category).sum ≤ 8 := by
  rw [cat_map]
  show 2 * 0 + wsum rest ≤ 8
  omega
theorem c_is {z : Nat} (hd : decode (byt k) pc = .ok (.invokestatic z, len)) (hs : exec k pc ls st h len (.invokestatic z) = some (.inr (.inr (k2, as', pc', st')))) : k2 < 168 ∧ ∀ (r1 : Option Value) (h1 : Hp) (r : Option Value) (h' : Hp), VK l k2 0 as' [] h r1 h1 → VK l k pc' ls (r1.toList ++ st') h1 r h' → VK l k pc ls st h r h' := by
  obtain rfl := (o1_inv hs).1
  replace hs := (o1_inv hs).2
  unfold x_is at hs
  split at hs
  case h_2 => cases hs
  case h_1 kd na x s0 al wd hl =>
    split at hs
    · rename_i hkd
      split at hs
      · rename_i hlen
        split at hs
        · rename_i k3 ha
          obtain ⟨w1, w2, w3, w4, e⟩ := call_inv hs
          cases e
          obtain ⟨wq, hm⟩ := alt_mem ha
          have hk2 := alt_lt hl hm
          refine ⟨hk2, fun r1 h1 r h' hv hn => call_gen hk2 w4 hv hn fun D dA base p e R s m args below meth c cells slots X H locs lsC hH hsz hc hsl hM => ⟨((st.take na).reverse.map (cv base)).toArray, ?_⟩⟩
          have hst : st.map (cv base) = ((st.take na).reverse.map (cv base)).reverse ++ (st.drop na).map (cv base) := by
            rw [← List.map_reverse, ← List.map_append, take_drop_rev]
          rcases hkd with rfl | rfl
          · have hok : (isT (wd.getD 0 0) (.methodLink (ow (mOw k)) z x) && isT (wd.getD 1 0) (.static x) && al.all (fun a => decide (mNm a.2.1 = x)) && decide (npr x.desc = some na)) = true := vt_at hl
            simp only [Bool.and_eq_true, decide_eq_true_eq] at hok
            obtain ⟨⟨⟨q1, q2⟩, q3⟩, q4⟩ := hok
            have hx : mNm k2 = x := by simpa using List.all_eq_true.mp q3 _ hm
            rw [← hx] at q1 q2 q4
            exact va_runS (fix_of X) hM ⟨cb_of X hk2 w2 w3 (isT_TB q1) q4, X.2.2.2.2.2.1 _ (isT_TB q2)⟩ (preS_of X hH) rfl (by simp at hlen ⊢; omega) hsz hst (hW_of w1) hd ⟨hc, hsl⟩
          · have hok : (decide (Cond.methodLinkNest (ow (mOw k)) z x "SteerBench" ∈ nwN) && isT (wd.getD 1 0) (.static x) && al.all (fun a => decide (mNm a.2.1 = x)) && decide (npr x.desc = some na)) = true := vt_at hl
            simp only [Bool.and_eq_true, decide_eq_true_eq] at hok
            obtain ⟨⟨⟨q1, q2⟩, q3⟩, q4⟩ := hok
            have hx : mNm k2 = x := by simpa using List.all_eq_true.mp q3 _ hm
            rw [← hx] at q1 q2 q4
            exact va_runSN (fix_of X) hM ⟨cn_of X hk2 w2 w3 q1 q4, X.2.2.2.2.2.1 _ (isT_TB q2), trivial⟩ (preS_of X hH) rfl (by simp at hlen ⊢; omega) hsz hst (hW_of w1) hd ⟨hc, hsl⟩
        · cases hs
      · cases hs
    · exfalso
      simp only [go] at hs
      repeat' (first | (cases hs; done) | split at hs)
theorem cl_of {c : Nat} (h0 : 0 < c) (h1 : c < 12) : ∃ (cc : Nat) (rr : vw_C), c = cc + 1 ∧ vwCl[cc]? = some rr ∧ clN (c - 1) = rr.1 := by
  obtain ⟨rr, hr⟩ : ∃ r, vwCl[c - 1]? = some r := ⟨_, List.getElem?_eq_getElem (by simp [vwCl]; omega)⟩
  exact ⟨c - 1, rr, by omega, hr, by simp [clN, hr, show c - 1 ≠ 23 by omega]⟩
theorem c_iv {z : Nat} (hd : decode (byt k) pc = .ok (.invokevirtual z, len)) (hs : exec k pc ls st h len (.invokevirtual z) = some (.inr (.inr (k2, as', pc', st')))) : k2 < 168 ∧ ∀ (r1 : Option Value) (h1 : Hp) (r : Option Value) (h' : Hp), VK l k2 0 as' [] h r1 h1 → VK l k pc' ls (r1.toList ++ st') h1 r h' → VK l k pc ls st h r h' := by
  obtain rfl := (o1_inv hs).1
  replace hs := (o1_inv hs).2
  unfold x_iv at hs
  split at hs
  case h_2 => cases hs
  case h_1 kd na x s0 al wd hl =>
    split at hs
    case isFalse => cases hs
    case isTrue hh =>
      obtain ⟨hkd, hlen⟩ := hh
      split at hs
      case h_2 => cases hs
      case h_1 i rr hdr =>
        split at hs
        case h_2 => cases hs
        case h_1 k3 ha =>
          obtain ⟨w1, w2, w3, w4, e⟩ := call_inv hs
          cases e
          obtain ⟨wq, hm⟩ := alt_mem ha
          have hk2 := alt_lt hl hm
          refine ⟨hk2, fun r1 h1 r h' hv hn => call_gen hk2 w4 hv hn fun D dA base p e R s m args below meth c cells slots X H locs lsC hH hsz hc hsl hM => ?_⟩
          have hst : st = ((st.take na).reverse).reverse ++ .ref i :: st' := by rw [← hdr, take_drop_rev]
          rcases hkd with rfl | rfl
          · have hok : (isT (wd.getD 0 0) (.methodLink (ow (mOw k)) z x) && isT (wd.getD 1 0) (.instanceMethod x) && isT (wd.getD 2 0) (.selects x.cls x x) && al.all (fun a => decide (mNm a.2.1 = x) && (clN (a.1 - 1) == x.cls) && decide (0 < a.1) && decide (a.1 < 12)) && decide (npr x.desc = some na)) = true := vt_at hl
            simp only [Bool.and_eq_true, decide_eq_true_eq] at hok
            obtain ⟨⟨⟨⟨q1, q2⟩, q3⟩, q5⟩, q4⟩ := hok
            have q6 := List.all_eq_true.mp q5 _ hm
            simp only [Bool.and_eq_true, decide_eq_true_eq, beq_iff_eq] at q6
            obtain ⟨⟨⟨hx, hcl⟩, hc0⟩, hc1⟩ := q6
            obtain ⟨cc, rv, e1, hr, e2⟩ := cl_of hc0 hc1
            rw [← hx] at q1 q2 q3 q4
            have e3 : rv.1 = (mNm k2).cls := by rw [hx, ← hcl, e2]
            obtain ⟨j, rfl⟩ := hH.pos (i := i) (by omega)
            refine ⟨((Value.ref (base + j)) :: (st.take na).reverse.map (cv base)).toArray, ?_⟩
            have hst2 : st.map (cv base) = ((st.take na).reverse.map (cv base)).reverse ++ .ref (base + j) :: st'.map (cv base) := by
              conv => lhs; rw [hst]
              rw [List.map_append, List.map_reverse]
              rfl
            exact va_runV (C := rv.1) (fix_of X) hM ⟨cb_of X hk2 w2 w3 (isT_TB q1) q4, X.2.2.2.2.2.1 _ (isT_TB q2), by rw [e3]; exact X.2.2.2.2.2.1 _ (isT_TB q3)⟩ (preV_of X hH e1 hr) rfl (by simp at hlen ⊢; omega) hsz hst2 (hW_of w1) hd ⟨hc, hsl⟩
          · have hok : (isT (wd.getD 0 0) (.methodLink (ow (mOw k)) z x) && isT (wd.getD 1 0) (.sameMethod x.cls s0 x.name x.desc) && isT (wd.getD 2 0) (.instanceMethod ⟨s0, x.name, x.desc⟩) && decide (mNm (wd.getD 3 0) = ⟨s0, x.name, x.desc⟩) && decide (wd.getD 3 0 < 168) && al.all (fun a => isT (a.2.2.getD 0 0) (.selects (clN (a.1 - 1)) x (mNm a.2.1)) && isT (a.2.2.getD 1 0) (.instanceMethod (mNm a.2.1)) && decide (0 < a.1) && decide (a.1 < 12)) && decide (npr x.desc = some na) && (s0 != "java/lang/invoke/MethodHandle") && (s0 != "java/lang/invoke/VarHandle")) = true := vt_at hl
            simp only [Bool.and_eq_true, decide_eq_true_eq, bne_iff_ne, ne_eq] at hok
            obtain ⟨⟨⟨⟨⟨⟨⟨⟨q1, q2⟩, q3⟩, q7⟩, q8⟩, q5⟩, q4⟩, q9⟩, q10⟩ := hok
            have q6 := List.all_eq_true.mp q5 _ hm
            simp only [Bool.and_eq_true, decide_eq_true_eq] at q6
            obtain ⟨⟨⟨hsel, hinst⟩, hc0⟩, hc1⟩ := q6
            obtain ⟨cc, rv, e1, hr, e2⟩ := cl_of hc0 hc1
            rw [e2] at hsel
            obtain ⟨m1, m2, m3, m4, m5, m6⟩ := mP_of hk2
            obtain ⟨o1, -⟩ := mP_of q8
            replace o1 : Cond.code (mNm (wd.getD 3 0)) (byt (wd.getD 3 0)) (mxl (wd.getD 3 0)) (mRt (wd.getD 3 0)) ∈ TB := o1
            rw [q7] at o1
            have hts := X.2.2.2.2.2.1
            obtain ⟨p1, p2⟩ := room_ok (k2 := k2) X (hf := w2) (hl := w3)
            obtain ⟨j, rfl⟩ := hH.pos (i := i) (by omega)
            refine ⟨((Value.ref (base + j)) :: (st.take na).reverse.map (cv base)).toArray, ?_⟩
            have hst2 : st.map (cv base) = ((st.take na).reverse.map (cv base)).reverse ++ .ref (base + j) :: st'.map (cv base) := by
              conv => lhs; rw [hst]
              rw [List.map_append, List.map_reverse]
              rfl
            exact va_runU (C := rv.1) (fix_of X) hM ⟨⟨rfl, rfl, p1, p2, pay_in hts (good_ws hk2), List.mem_cons_self⟩, hts _ m1, hts _ m3, ⟨q9, q10⟩, npr_len q4, hts _ (isT_TB q1), hts _ (isT_TB q2), va_Decl.of (hts _ (isT_TB q3)) (hts _ o1), hts _ (isT_TB hsel), hts _ (isT_TB hinst)⟩ (preV_of X hH e1 hr) rfl (by simp at hlen ⊢; omega) hsz hst2 (hW_of w1) hd ⟨hc, hsl⟩
theorem c_ip {z : Nat} (hd : decode (byt k) pc = .ok (.invokespecial z, len)) (hs : exec k pc ls st h len (.invokespecial z) = some (.inr (.inr (k2, as', pc', st')))) : k2 < 168 ∧ ∀ (r1 : Option Value) (h1 : Hp) (r : Option Value) (h' : Hp), VK l k2 0 as' [] h r1 h1 → VK l k pc' ls (r1.toList ++ st') h1 r h' → VK l k pc ls st h r h' := by
  obtain rfl := (o1_inv hs).1
  replace hs := (o1_inv hs).2
  unfold x_ip at hs
  split at hs
  case h_2 => cases hs
  case h_1 kd na x s0 al wd hl =>
    split at hs
    case isFalse => cases hs
    case isTrue hlen =>
      split at hs
      case h_2 => cases hs
      case h_1 i rr hdr =>
        split at hs
        · split at hs
          · unfold go at hs
            cases hs
          · cases hs
        · split at hs
          · rename_i hh
            obtain ⟨hkd, hi0⟩ := hh
            split at hs
            case h_2 => cases hs
            case h_1 k3 ha =>
              obtain ⟨w1, w2, w3, w4, e⟩ := call_inv hs
              cases e
              obtain ⟨wq, hm⟩ := alt_mem ha
              have hk2 := alt_lt hl hm
              refine ⟨hk2, fun r1 h1 r h' hv hn => call_gen hk2 w4 hv hn fun D dA base p e R s m args below meth c cells slots X H locs lsC hH hsz hc hsl hM => ?_⟩
              have hst : st = ((st.take na).reverse).reverse ++ .ref i :: st' := by rw [← hdr, take_drop_rev]
              obtain ⟨j, rfl⟩ := Nat.exists_eq_succ_of_ne_zero hi0
              refine ⟨((Value.ref (base + j)) :: (st.take na).reverse.map (cv base)).toArray, ?_⟩
              have hst2 : st.map (cv base) = ((st.take na).reverse.map (cv base)).reverse ++ .ref (base + j) :: st'.map (cv base) := by
                conv => lhs; rw [hst]
                rw [List.map_append, List.map_reverse]
                rfl
              have hp : PreS s H (PcK D dA base (.ref (j + 1) :: (st.take na).reverse) h) (.ref (base + j) :: (st.take na).reverse.map (cv base)) := preS_of X hH
              rcases hkd with rfl | rfl
              · have hok : (isT (wd.getD 0 0) (.methodLink (ow (mOw k)) z x) && isT (wd.getD 1 0) (.instanceMethod x) && al.all (fun a => decide (mNm a.2.1 = x) && decide (mRt a.2.1 = none)) && decide (npr x.desc = some na) && (x.name == "<init>")) = true := vt_at hl
                simp only [Bool.and_eq_true, decide_eq_true_eq, beq_iff_eq] at hok
                obtain ⟨⟨⟨⟨q1, q2⟩, q3⟩, q4⟩, q5⟩ := hok
                have q6 := List.all_eq_true.mp q3 _ hm
                simp only [Bool.and_eq_true, decide_eq_true_eq] at q6
                obtain ⟨hx, hrt⟩ := q6
                rw [← hx] at q1 q2 q4 q5
                have cb := cb_of (mc := h1.1 - h.1) (ms := h1.2.1 - h.2.1) X hk2 w2 w3 (isT_TB q1) q4
                rw [hrt] at cb
                exact va_runI (fix_of X) hM ⟨cb, q5, X.2.2.2.2.2.1 _ (isT_TB q2)⟩ hp rfl (by simp at hlen ⊢; omega) hsz hst2 (hW_of w1) hd ⟨hc, hsl⟩
              · have hok : (decide (Cond.methodLinkNest (ow (mOw k)) z x "SteerBench" ∈ nwN) && isT (wd.getD 1 0) (.instanceMethod x) && al.all (fun a => decide (mNm a.2.1 = x) && decide (mRt a.2.1 = none)) && decide (npr x.desc = some na) && (x.name == "<init>")) = true := vt_at hl
                simp only [Bool.and_eq_true, decide_eq_true_eq, beq_iff_eq] at hok
                obtain ⟨⟨⟨⟨q1, q2⟩, q3⟩, q4⟩, q5⟩ := hok
                have q6 := List.all_eq_true.mp q3 _ hm
                simp only [Bool.and_eq_true, decide_eq_true_eq] at q6
                obtain ⟨hx, hrt⟩ := q6
                rw [← hx] at q1 q2 q4 q5
                have cb := cn_of (mc := h1.1 - h.1) (ms := h1.2.1 - h.2.1) X hk2 w2 w3 q1 q4
                rw [hrt] at cb
                exact va_runIN (fix_of X) hM ⟨cb, q5, X.2.2.2.2.2.1 _ (isT_TB q2)⟩ hp rfl (by simp at hlen ⊢; omega) hsz hst2 (hW_of w1) hd ⟨hc, hsl⟩
          · split at hs
            case isFalse => cases hs
            case isTrue hh =>
              obtain ⟨hkd, hg⟩ := hh
              split at hs
              case h_2 => cases hs
              case h_1 k3 ha =>
                obtain ⟨w1, w2, w3, w4, e⟩ := call_inv hs
                cases e
                obtain ⟨wq, hm⟩ := alt_mem ha
                have hk2 := alt_lt hl hm
                refine ⟨hk2, fun r1 h1 r h' hv hn => call_gen hk2 w4 hv hn fun D dA base p e R s m args below meth c cells slots X H locs lsC hH hsz hc hsl hM => ?_⟩
                have hst : st = ((st.take na).reverse).reverse ++ .ref i :: st' := by rw [← hdr, take_drop_rev]
                obtain ⟨cc, hcf, hC⟩ := inG_fam hg
                obtain ⟨rv, hr⟩ : ∃ r, vwCl[cc]? = some r := by
                  simp only [fam, if_true, List.mem_cons, List.not_mem_nil, or_false] at hcf
                  rcases hcf with rfl | rfl | rfl | rfl <;> exact ⟨_, rfl⟩
                obtain ⟨j, rfl⟩ := hH.pos (i := i) (by omega)
                refine ⟨((Value.ref (base + j)) :: (st.take na).reverse.map (cv base)).toArray, ?_⟩
                have hst2 : st.map (cv base) = ((st.take na).reverse.map (cv base)).reverse ++ .ref (base + j) :: st'.map (cv base) := by
                  conv => lhs; rw [hst]
                  rw [List.map_append, List.map_reverse]
                  rfl
                have hcat := (X.2.2.2.2.2.2.2.2.1.1.1 cc rv hr).2
                have hts := X.2.2.2.2.2.1
                obtain ⟨m1, m2, m3, m4, m5, m6⟩ := mP_of hk2
                obtain ⟨p1, p2⟩ := room_ok (k2 := k2) X (hf := w2) (hl := w3)
                rcases hkd with rfl | rfl
                · have hok : (isT (wd.getD 0 0) (.methodLink (ow (mOw k)) z x) && isT (wd.getD 1 0) (.sameMethod x.cls x.cls x.name x.desc) && isT (wd.getD 2 0) (.superclass (ow (mOw k)) x.cls) && isT (wd.getD 3 0) (.instanceMethod x) && al.all (fun a => decide (mNm a.2.1 = x)) && decide (npr x.desc = some na) && (x.name != "<init>")) = true := vt_at hl
                  simp only [Bool.and_eq_true, decide_eq_true_eq, bne_iff_ne, ne_eq] at hok
                  obtain ⟨⟨⟨⟨⟨⟨q1, q2⟩, q3⟩, q4⟩, q5⟩, q6⟩, q7⟩ := hok
                  have hx : mNm k2 = x := by simpa using List.all_eq_true.mp q5 _ hm
                  rw [← hx] at q1 q2 q3 q4 q6 q7
                  exact va_runSU (C := rv.1) hcat (fix_of X) hM ⟨⟨rfl, rfl, p1, p2, pay_in hts (good_ws hk2), List.mem_cons_self⟩, hts _ (isT_TB q1), hts _ (isT_TB q2), hts _ (isT_TB q3), hts _ (isT_TB q4), hts _ m3, hts _ m1, q7, npr_len q6⟩ (preV_of X hH hC hr) rfl (by simp at hlen ⊢; omega) hsz hst2 (hW_of w1) hd ⟨hc, hsl⟩
                · have hok : (isT (wd.getD 0 0) (.methodLink (ow (mOw k)) z x) && isT (wd.getD 1 0) (.sameMethod x.cls s0 x.name x.desc) && isT (wd.getD 2 0) (.superclass (ow (mOw k)) x.cls) && isT (wd.getD 3 0) (.superclass x.cls s0) && isT (wd.getD 4 0) (.instanceMethod ⟨s0, x.name, x.desc⟩) && al.all (fun a => decide (mNm a.2.1 = ⟨s0, x.name, x.desc⟩)) && decide (npr x.desc = some na) && (x.name != "<init>")) = true := vt_at hl
                  simp only [Bool.and_eq_true, decide_eq_true_eq, bne_iff_ne, ne_eq] at hok
                  obtain ⟨⟨⟨⟨⟨⟨⟨q1, q2⟩, q3⟩, q4⟩, q5⟩, q6⟩, q7⟩, q8⟩ := hok
                  have hx : mNm k2 = ⟨s0, x.name, x.desc⟩ := by simpa using List.all_eq_true.mp q6 _ hm
                  have hc1 : s0 = (mNm k2).cls := by rw [hx]
                  rw [← hx] at q5
                  rw [hc1] at q2 q4
                  exact va_run9 (C := rv.1) (x := x) hcat (fix_of X) hM rfl rfl p1 p2 (pay_in hts (good_ws hk2)) List.mem_cons_self (hts _ m1) (hts _ m3) (hts _ (isT_TB q1)) (hts _ (isT_TB q2)) (hts _ (isT_TB q3)) (hts _ (isT_TB q4)) (hts _ (isT_TB q5)) q8 (by rw [← hc1]; exact hx) (npr_len q7) (preV_of X hH hC hr) rfl (by simp at hlen ⊢; omega) hsz hst2 (hW_of w1) hd ⟨hc, hsl⟩
theorem call_snd (hs : stp k pc ls st h = some (.inr (.inr (k2, as', pc', st')))) : k2 < 168 ∧ ∀ (r1 : Option Value) (h1 : Hp) (r : Option Value) (h' : Hp), VK l k2 0 as' [] h r1 h1 → VK l k pc' ls (r1.toList ++ st') h1 r h' → VK l k pc ls st h r h' := by
  unfold stp at hs
  split at hs
  case h_2 => cases hs
  case h_1 ins len hd =>
    cases ins with
    | invokestatic z => exact c_is hd hs
    | invokevirtual z => exact c_iv hd hs
    | invokespecial z => exact c_ip hd hs
    | _ =>
      exfalso
      simp only [exec, o1, go, x_lo, x_st, x_ii, x_ll, x_u, x_inc, x_lsh, x_cmp, x_dup, x_dx1, x_dup2, x_pop, jmp, x_if, x_ic, x_nu, x_ts, x_get, x_put, x_ald, x_ast, x_len, x_newa, x_anew, x_mna, x_new, x_io, x_ret] at hs
      repeat' (first | (cases hs; done) | split at hs | (simp only [Option.bind_eq_some_iff] at hs; obtain ⟨_, _, hs⟩ := hs))
/-- SOUNDNESS: what the abstract machine's run gives, the real one's gives -/
theorem run_snd (l : Launch) : ∀ (f k pc : Nat) (ls : Lo) (st : List Value) (h : Hp) (r : Option Value) (h' : Hp), arun f k pc ls st h = some (r, h') → VK l k pc ls st h r h'
  | 0, _, _, _, _, _, _, _, e => by cases e
  | f + 1, k, pc, ls, st, h, r, h', e => by
    unfold arun at e
    cases hs : stp k pc ls st h with
    | none => rw [hs] at e; cases e
    | some a =>
      rw [hs] at e
      match a, hs, e with
      | .inl (pc', ls', st', h1), hs, e =>
        obtain ⟨⟨g1, g2, g3⟩, g4⟩ := go_snd hs
        obtain ⟨⟨i1, i2⟩, i3⟩ := run_snd l f k pc' ls' st' h1 r h' e
        exact ⟨⟨Nat.le_trans g1 i1, Nat.le_trans g2 i2⟩, fun D dA base n0 sl0 p ev R s m args below meth c X hc hsl => g4 D dA base n0 sl0 p l ev R s m args below meth c _ X (by omega) (by omega) (i3 D dA base n0 sl0 p ev R s m args below meth c X hc hsl)⟩
      | .inr (.inl r0), hs, e =>
        cases e
        exact ⟨⟨Nat.le_refl _, Nat.le_refl _⟩, fun D dA base n0 sl0 p ev R s m args below meth c X _ _ => ret_snd hs D dA base n0 sl0 p l ev R s m args below meth c X⟩
      | .inr (.inr (k2, as', pc', st')), hs, e =>
        dsimp only at e
        cases hc : arun f k2 0 as' [] h with
        | none => rw [hc] at e; cases e
        | some w =>
          rw [hc] at e
          obtain ⟨r1, h1⟩ := w
          exact (call_snd hs).2 r1 h1 r h' (run_snd l f k2 0 as' [] h r1 h1 hc) (run_snd l f k pc' ls (r1.toList ++ st') h1 r h' e)
end CALLS
