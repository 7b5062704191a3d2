/-! the start of the law: classes, words -/
theorem arrL_spec {A : Array Value} {s : State} (h : (Cond.arrayOver (.array .long)).before A s = true) : ∃ c, ArrOfT s c (.array .long) ∧ va_RA s c (.array .long) := by
  replace h : (Cond.arrayOver (.array .long)).holds A s none s [] = true := h
  simp only [Cond.holds, Cond.value, beq_iff_eq] at h
  cases hc : s.vm.findClass (FieldType.array .long).toString with
  | none => simp [hc] at h
  | some comp =>
    simp only [hc, Option.bind_some, Option.bind_eq_some_iff, Option.map_eq_some_iff] at h
    obtain ⟨c, hi, k, hk, hb⟩ := h
    cases hkind : k.kind with
    | array component ty =>
      rw [hkind] at hb
      simp at hb
      refine ⟨c, fun n z => ⟨fun q h => (by cases h), k, hk, component, by rw [hkind, hb.1]⟩, hb.2⟩
    | _ => rw [hkind] at hb; simp at hb
theorem arrP_spec {A : Array Value} {s : State} {ty : FieldType} (hn : ∀ C, ty ≠ .object C) (h : (Cond.arrayClass ty).before A s = true) : ∃ c, ArrOfT s c ty ∧ va_RA s c ty := by
  obtain ⟨cA, kA, comp, h1, h2, h3⟩ := Cond.arrayClass_spec h
  refine ⟨cA, fun n z => ⟨fun q h => (by cases h), kA, h2, comp, h3⟩, ?_⟩
  cases ty with
  | object C => exact absurd rfl (hn C)
  | _ => exact h1
theorem arrO_spec {A : Array Value} {s : State} {C : String} (h : (Cond.arrayOver (.object C)).before A s = true) : ∃ c, ArrOfT s c (.object C) ∧ va_RA s c (.object C) := by
  obtain ⟨comp, c, k, h1, h2, h3, h4, h5⟩ := Cond.arrayOver_spec h
  exact ⟨c, fun n z => ⟨fun q h => (by cases h), k, h3, comp, h4⟩, k, comp, h3, h4, h1, h5⟩
theorem stt_start {s : State} {b : Addr} (hts : ∀ w ∈ lw_tbl, w.before #[Value.ref b] s = true) (hgv : (Jvm.Cond.and given_1 narrow_1).before #[Value.ref b] s = true) : ∃ (D : va_G) (dA : Nat → ClassId), Stt D dA s := by
  have K1 : ∀ (c : Nat) (r : vw_C), vwCl[c]? = some r → ∃ (cC : ClassId) (iS : Nat → Nat), u_Kn s r.1 r.2.1 r.2.2 cC iS := fun c r hr => u_known (ws := TB) (fun w hw => hts w (TB_in hw)) (clp c r hr).1 (hts _ (TB_in (clp c r hr).2.2.2.1))
  have K2 : ∀ c : Nat, ∃ q : ClassId × (Nat → Nat), ∀ r, vwCl[c]? = some r → u_Kn s r.1 r.2.1 r.2.2 q.1 q.2 := fun c => by
    cases hc : vwCl[c]? with
    | none => exact ⟨(0, fun _ => 0), fun r h => by cases h⟩
    | some r =>
      obtain ⟨cC, iS, h⟩ := K1 c r hc
      exact ⟨(cC, iS), fun r' h' => by cases h'; exact h⟩
  obtain ⟨f, hf⟩ := Classical.axiomOfChoice K2
  obtain ⟨a0, h0⟩ := arrP_spec (ty := .int) (fun C h => by cases h) (hts (.arrayClass .int) (by decide +kernel))
  obtain ⟨a1, h1⟩ := arrP_spec (ty := .long) (fun C h => by cases h) (hts (.arrayClass .long) (by decide +kernel))
  obtain ⟨a2, h2⟩ := arrL_spec (hts (.arrayOver (.array .long)) (by decide +kernel))
  obtain ⟨a3, h3⟩ := arrO_spec (hts (.arrayOver (.object "SteerBench$Steps")) (by decide +kernel))
  obtain ⟨a4, h4⟩ := arrO_spec (hts (.arrayOver (.object "SteerBench$Sheet")) (by decide +kernel))
  have hN : ∀ w ∈ nwN, w ∈ lw_tbl := by decide +kernel
  have hC : ∀ q ∈ nwC, Cond.castable q.1 q.2 ∈ lw_tbl := by decide +kernel
  have hn : ∀ q ∈ ncL, Cond.not (Cond.castable q.1 q.2) ∈ flatC (Jvm.Cond.and given_1 narrow_1) := by decide +kernel
  have fl := flat_of_before _ hgv
  refine ⟨(fun c => (f c).1, fun c => (f c).2), fun k => if k = 0 then a0 else if k = 1 then a1 else if k = 2 then a2 else if k = 3 then a3 else a4, ⟨fun c r hr => hf c r hr, fun k q hq => ?_⟩, fun w hw => ?_, fun q hq => ?_, va_AO.of (hts (.arrayOver (.object "SteerBench$Steps")) (by decide +kernel)), va_AO.of (hts (.arrayOver (.object "SteerBench$Sheet")) (by decide +kernel)), ?_, fun q hq => va_Nc.of (fl _ (hn q hq))⟩
  · unfold tysL at hq
    match k, hq with
    | 0, hq => cases hq; exact h0
    | 1, hq => cases hq; exact h1
    | 2, hq => cases hq; exact h2
    | 3, hq => cases hq; exact h3
    | 4, hq => cases hq; exact h4
    | k + 5, hq => simp at hq
  · have := hts w (hN w hw)
    simp only [nwN, List.mem_cons, List.not_mem_nil, or_false] at hw
    rcases hw with rfl | rfl | rfl | rfl | rfl <;> exact va_Nw.of rfl this
  · exact va_Nw.of rfl (hts _ (hC q hq))
  · exact hts (.arrayOver (.array .long)) (by decide +kernel)
