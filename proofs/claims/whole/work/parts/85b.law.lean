/-! what a method answers is of its kind -/
def rOK (k : Nat) (r : Option Value) : Prop := (mRt k = some .int → ∃ x, r = some (.int x)) ∧ (mRt k = some .long → ∃ x, r = some (.long x)) ∧ (mRt k = none → r = none)
theorem ret_form {k pc : Nat} {ls : Lo} {st : List Value} {h : Hp} {r : Option Value} (hs : stp k pc ls st h = some (.inr (.inl r))) : rOK k r := by
  unfold stp at hs
  split at hs
  case h_2 => cases hs
  case h_1 ins len hd =>
    have key : ∀ ty : Nat, x_ret k st ty = some (.inr (.inl r)) → rOK k r := by
      intro ty hs
      unfold x_ret at hs
      unfold rOK
      split at hs
      · split at hs
        · rename_i hh
          cases hs
          exact ⟨(fun q => by rw [hh.2] at q; cases q), (fun q => by rw [hh.2] at q; cases q), fun _ => rfl⟩
        · cases hs
      · split at hs
        · rename_i hh
          cases hs
          refine ⟨fun _ => ⟨_, rfl⟩, fun q => ?_, fun q => ?_⟩
          · rcases hh.2 with w | ⟨w, -⟩ <;> rw [w] at q <;> cases q
          · rcases hh.2 with w | ⟨w, -⟩ <;> rw [w] at q <;> cases q
        · cases hs
      · split at hs
        · rename_i hh
          cases hs
          exact ⟨(fun q => by rw [hh.2] at q; cases q), fun _ => ⟨_, rfl⟩, (fun q => by rw [hh.2] at q; cases q)⟩
        · cases hs
      · split at hs
        · rename_i hh
          cases hs
          refine ⟨fun q => ?_, fun q => ?_, fun q => ?_⟩
          · rcases hh.2 with w | w <;> rw [w] at q <;> cases q
          · rcases hh.2 with w | w <;> rw [w] at q <;> cases q
          · rcases hh.2 with w | w <;> rw [w] at q <;> cases q
        · cases hs
      · cases hs
    cases ins with
    | ireturn => exact key 0 (o1_inv hs).2
    | lreturn => exact key 1 (o1_inv hs).2
    | areturn => exact key 2 (o1_inv hs).2
    | return_ => exact key 9 (o1_inv hs).2
    | _ =>
      exfalso
      simp only [exec, o1, go, x_lo, x_st, x_ii, x_ll, x_u, x_inc, x_lsh, x_cmp, x_dup, x_dx1, x_dup2, x_pop, jmp, x_if, x_ic, x_nu, x_ts, x_get, x_put, x_ald, x_ast, x_len, x_newa, x_anew, x_mna, x_new, x_io, x_is, x_iv, x_ip, callA] at hs
      repeat' (first | (cases hs; done) | split at hs | (simp only [Option.bind_eq_some_iff] at hs; obtain ⟨_, _, hs⟩ := hs))
theorem arun_form : ∀ {f k pc : Nat} {ls : Lo} {st : List Value} {h : Hp} {r : Option Value} {h' : Hp}, arun f k pc ls st h = some (r, h') → rOK k r
  | 0, _, _, _, _, _, _, _, e => by cases e
  | f + 1, k, pc, ls, st, h, r, h', e => by
    unfold arun at e
    cases hs : stp k pc ls st h with
    | none => rw [hs] at e; cases e
    | some a =>
      rw [hs] at e
      match a, e, hs with
      | .inl (pc', ls', st', h'), e, hs => exact arun_form e
      | .inr (.inl r), e, hs =>
        cases e
        exact ret_form hs
      | .inr (.inr (k2, as, pc', st')), e, hs =>
        dsimp only at e
        cases hc : arun f k2 0 as [] h with
        | none => rw [hc] at e; cases e
        | some q =>
          rw [hc] at e
          obtain ⟨r1, h1⟩ := q
          exact arun_form e
/-- a method of the bench or of the reference, called by the law -/
theorem lw_callV {D : va_G} {dA : Nat → ClassId} {base : Nat} {p : Program} {l : Launch} {e : Env} {s : State} {m : MethodId} {below : List Frame} {meth : Method} {c : Code} {b L : Nat} {xs : Nat → Int32} (C0 : lw_At p s m meth c b L xs) (hst : Stt D dA s) {k2 z pc : Nat} (hk2 : k2 < 168) (hd : decode code pc = .ok (.invokevirtual z, 3)) {as : List Value}
    (hwd : Cond.methodLink R_law z (mNm k2) ∈ TB ∧ Cond.instanceMethod (mNm k2) ∈ TB ∧ Cond.selects (mNm k2).cls (mNm k2) (mNm k2) ∈ TB) (hn : npr (mNm k2).desc = some as.length) (hfr : mFr k2 + 1 ≤ 11 ∧ 8 + (mxl k2 + 11) + mLo k2 ≤ 406) {j cc : Nat} {rr : vw_C} {h h1 : Hp} {r : Option Value} (hC : h.2.2.1 (j + 1) = cc + 1) (hr : vwCl[cc]? = some rr) (hcls : rr.1 = (mNm k2).cls) (hla : (lay (.ref (j + 1) :: as)).length ≤ mxl k2) (hv : VK l k2 0 (pad (mxl k2) (lay (.ref (j + 1) :: as))) [] h r h1) {rest : List Value} (hw : wsum rest ≤ 8) (hrm : h1.1 ≤ 702281 ∧ h1.2.1 ≤ 6995406)
    {H : Heap} {locs : List Loc} {lsC : Array Slot} {Q : State → Prop} (hH : HR D dA base h H) (hS : va_S (fun q => base ≤ q) s.heap H locs) (hsz : lsC.size = 4)
    (kk : ∀ (H1 : Heap) (locs1 : List Loc), HR D dA base h1 H1 → va_S (fun q => base ≤ q) s.heap H1 locs1 → W p l e room_1 s m #[Value.ref b] below meth c H1 locs1 h1.1 h1.2.1 Q (F0 m (pc + 3) lsC ((r.map (cv base)).toList ++ rest.map (cv base)))) : W p l e room_1 s m #[Value.ref b] below meth c H locs h.1 h.2.1 Q (F0 m pc lsC ((as.map (cv base)).reverse ++ .ref (base + j) :: rest.map (cv base))) := by
  obtain ⟨hx, hb, hrt, hml, hown, hts0, -, -, -, -⟩ := C0
  have hts : ∀ w ∈ TB, w.before #[Value.ref b] s = true := fun w hw => hts0 w (TB_in hw)
  obtain ⟨m1, m2, m3, m4, m5, m6⟩ := mP_of hk2
  obtain ⟨⟨v1, v2⟩, -⟩ := id hv
  have hM := met_of hk2 hla hv D dA base
  have fix : CallFix p m c code 4 s #[Value.ref b] TB R_law := ⟨hx, hb, hml, hown, hts⟩
  have cb : CallB room_1 s #[Value.ref b] R_law z (mNm k2) (byt k2) (mxl k2) (mRt k2) (wsK k2) { frames := mFr k2, cells := h1.1 - h.1, slots := h1.2.1 - h.2.1, locals := mLo k2 } (h1.1 - h.1) (h1.2.1 - h.2.1) as.length := ⟨rfl, rfl, hfr.1, hfr.2, pay_in hts (good_ws hk2), List.mem_cons_self, hts _ m1, hts _ m3, ⟨m5, m6⟩, npr_len hn, hts _ hwd.1⟩
  obtain ⟨cell, g1, g2, g3, -⟩ := (hH.2.2.2 j).1 cc rr hC hr
  have pv : PreV s H rr.1 (base + j) (PcK D dA base (.ref (j + 1) :: as) h) (as.map (cv base)) := ⟨PcK.blind, ⟨cell, g1, by rw [g3]; rfl, by rw [g2]; exact (hst.1.1 cc rr hr).2.1⟩, fun U hU hW => ⟨rfl, by rw [hU]; exact hH, hst.warm hW⟩⟩
  have rn := va_runV (C := rr.1) (l := l) (e := e) (below := below) (meth := meth) (locs := locs) (cells := h.1) (slots := h.2.1) (rest := rest.map (cv base)) (g := F0 m pc lsC ((as.map (cv base)).reverse ++ .ref (base + j) :: rest.map (cv base))) fix hM ⟨cb, hts _ hwd.2.1, by rw [hcls]; exact hts _ hwd.2.2⟩ pv rfl (by simp) hsz rfl (hW_of hw) hd ⟨by show h.1 + (h1.1 - h.1) ≤ 702281; omega, by show h.2.1 + (h1.2.1 - h.2.1) ≤ 6995406; omega⟩
  refine W_call rn hS fun H1 locs1 hH1 hS1 => ?_
  have w := kk H1 locs1 hH1 hS1
  rw [show h.1 + (h1.1 - h.1) = h1.1 by omega, show h.2.1 + (h1.2.1 - h.2.1) = h1.2.1 by omega]
  exact w
