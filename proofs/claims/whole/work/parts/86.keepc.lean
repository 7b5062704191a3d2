/-! a cell keeps its kind -/
theorem stp_C {k pc : Nat} {ls : Lo} {st : List Value} {h : Hp} {pc' : Nat} {ls' : Lo} {st' : List Value} {h' : Hp} (hs : stp k pc ls st h = some (.inl (pc', ls', st', h'))) : ∀ i, i ≤ h.1 → h'.2.2.1 i = h.2.2.1 i := by
  intro i hi
  unfold stp at hs
  split at hs
  case h_2 => cases hs
  case h_1 ins len hd =>
    have hne : ¬ i = h.1 + 1 := by omega
    cases ins
    all_goals
      simp only [exec, o1, go, x_lo, x_st, x_ii, x_ll, x_u, x_inc, x_lsh, x_cmp, x_dup, x_dx1, x_dup2, x_pop, jmp, x_if, x_ic, x_nu, x_ts, x_get, x_put, x_ald, x_ast, x_len, x_newa, x_anew, x_mna, x_new, x_io, x_is, x_iv, x_ip, x_ret, callA] at hs
      repeat' (first | (cases hs; done) | split at hs | (simp only [Option.bind_eq_some_iff] at hs; obtain ⟨_, _, hs⟩ := hs))
      all_goals (cases hs)
      all_goals first
        | rfl
        | (simp only [nwA, nwO, va_up, if_neg hne]; done)
        | (simp only [nwG]; rw [if_neg hne, if_neg (by omega)]; done)
        | skip
theorem arun_C : ∀ {f k pc : Nat} {ls : Lo} {st : List Value} {h : Hp} {r : Option Value} {h' : Hp}, arun f k pc ls st h = some (r, h') → h.1 ≤ h'.1 ∧ ∀ i, i ≤ h.1 → h'.2.2.1 i = h.2.2.1 i
  | 0, _, _, _, _, _, _, _, e => by cases e
  | f + 1, k, pc, ls, st, h, r, h', e => by
    unfold arun at e
    cases hs : stp k pc ls st h with
    | none => rw [hs] at e; cases e
    | some a =>
      rw [hs] at e
      match a, e, hs with
      | .inl (pc', ls', st', h2), e, hs =>
        have g := (go_snd hs).1.1
        have c := stp_C hs
        obtain ⟨i1, i2⟩ := arun_C e
        exact ⟨Nat.le_trans g i1, fun i hi => (i2 i (Nat.le_trans hi g)).trans (c i hi)⟩
      | .inr (.inl r), e, hs =>
        cases e
        exact ⟨Nat.le_refl _, fun _ _ => rfl⟩
      | .inr (.inr (k2, as, pc', st')), e, hs =>
        dsimp only at e
        cases hc : arun f k2 0 as [] h with
        | none => rw [hc] at e; cases e
        | some q =>
          rw [hc] at e
          obtain ⟨r1, h1⟩ := q
          obtain ⟨g, c⟩ := arun_C hc
          obtain ⟨i1, i2⟩ := arun_C e
          exact ⟨Nat.le_trans g i1, fun i hi => (i2 i (Nat.le_trans hi g)).trans (c i hi)⟩
/-- two runs out of a step alike -/
theorem two_split {l : Launch} {kC kM : Nat} {lc lm : Lo} {h : Hp} (hI : Inv h) (t : Two kC kM lc lm h) : ∃ (r : Option Value) (h1 h2 : Hp), VK l kC 0 lc [] h r h1 ∧ VK l kM 0 lm [] h1 r h2 ∧ rOK kC r ∧ h1.2.2.1 74 = 11 ∧ Inv h2 ∧ h2.1 ≤ h.1 + 5 ∧ h2.2.1 ≤ h.2.1 + 42 := by
  obtain ⟨f, r, h1, e1, f2, r2, h2, e2, rfl, hI2, b1, b2⟩ := t
  refine ⟨r2, h1, h2, run_snd l _ _ _ _ _ _ _ _ e1, run_snd l _ _ _ _ _ _ _ _ e2, arun_form e1, ?_, hI2, b1, b2⟩
  obtain ⟨M, rn, t, h7⟩ := hI
  rw [(arun_C e1).2 74 (by have := h7.2.1; omega)]
  have := h7.2.2.1.2.2.2.2
  unfold LayM at this
  exact this.1
theorem Inv.c1 {h : Hp} (hI : Inv h) : h.2.2.1 1 = 10 := by
  obtain ⟨M, rn, t, h7⟩ := hI
  have := h7.2.2.1.1
  unfold LayB at this
  exact this.1
