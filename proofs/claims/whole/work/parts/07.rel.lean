/-! the abstract machine's state beside the real one's -/
def cvr (base : Nat) : Nat → Value
  | 0 => .null
  | i + 1 => .ref (base + i)
def cv (base : Nat) (v : Value) : Value := match v with
  | .ref i => cvr base i
  | v => v
def lp (base : Nat) : Nat → Lo → List (Nat × Value)
  | _, [] => []
  | m, none :: t => lp base (m + 1) t
  | m, some v :: t => (m, cv base v) :: lp base (m + 1) t
def cellOK (D : va_G) (dA : Nat → ClassId) (base : Nat) (h : Hp) (i : Nat) (H : Heap) : Prop :=
  (∀ (c : Nat) (r : vw_C), h.2.2.1 (i + 1) = c + 1 → vwCl[c]? = some r → t_OB (base + i) (D.1 c) r.2.2 (D.2 c) H (fun k => cv base (fva (tyc c k) h (i + 1) k))) ∧
  (h.2.2.1 (i + 1) = 21 → H[base + i]? = some (arrV (dA 0) (h.2.2.2.1 (i + 1)) (fun j => .int (h.2.2.2.2.1 (i + 1) j)))) ∧
  (h.2.2.1 (i + 1) = 22 → H[base + i]? = some (arrV (dA 1) (h.2.2.2.1 (i + 1)) (fun j => .long (h.2.2.2.2.2.1 (i + 1) j)))) ∧
  (∀ t : Nat, t < 3 → h.2.2.1 (i + 1) = 23 + t → H[base + i]? = some (arrV (dA (2 + t)) (h.2.2.2.1 (i + 1)) (fun j => cvr base (h.2.2.2.2.2.2 (i + 1) j))))
def HR (D : va_G) (dA : Nat → ClassId) (base : Nat) (h : Hp) (H : Heap) : Prop := H.size = base + h.1 ∧ h.2.2.1 0 = 0 ∧ (∀ i : Nat, h.2.2.1 i ≠ 0 → i ≤ h.1) ∧ ∀ i : Nat, cellOK D dA base h i H
theorem t_OB.same {o : Nat} {cC : ClassId} {N : Nat} {iS : Nat → Nat} {H H1 : Heap} {V V' : Nat → Value} (h : t_OB o cC N iS H V) (h1 : H1[o]? = H[o]?) (hv : ∀ k, k < N → V' k = V k) : t_OB o cC N iS H1 V' := by
  obtain ⟨cell, a, b, c, d⟩ := h
  exact ⟨cell, h1.trans a, b, c, fun k hk => (d k hk).trans (by rw [hv k hk])⟩
theorem cellOK.same {D : va_G} {dA : Nat → ClassId} {base : Nat} {h h' : Hp} {i : Nat} {H H' : Heap} (o : cellOK D dA base h i H) (hq : H'[base + i]? = H[base + i]?)
    (eC : h'.2.2.1 (i + 1) = h.2.2.1 (i + 1)) (eZ : h'.2.2.2.1 (i + 1) = h.2.2.2.1 (i + 1)) (eI : h'.2.2.2.2.1 (i + 1) = h.2.2.2.2.1 (i + 1)) (eL : h'.2.2.2.2.2.1 (i + 1) = h.2.2.2.2.2.1 (i + 1)) (eR : h'.2.2.2.2.2.2 (i + 1) = h.2.2.2.2.2.2 (i + 1)) : cellOK D dA base h' i H' := by
  obtain ⟨o1, o2, o3, o4⟩ := o
  refine ⟨fun c r hc hr => ?_, fun hc => ?_, fun hc => ?_, fun t ht hc => ?_⟩
  · rw [eC] at hc
    exact (o1 c r hc hr).same hq (fun k _ => by simp only [fva, eI, eL, eR])
  · rw [eC] at hc
    rw [hq, o2 hc, eZ, eI]
  · rw [eC] at hc
    rw [hq, o3 hc, eZ, eL]
  · rw [eC] at hc
    rw [hq, o4 t ht hc, eZ, eR]
/-- a cell's contents change, its kind and length stay -/
theorem HR.set {D : va_G} {dA : Nat → ClassId} {base : Nat} {h h' : Hp} {i : Nat} {H H' : Heap} (o : HR D dA base h H) (hz : H'.size = H.size) (hq : ∀ q : Nat, q ≠ base + i → H'[q]? = H[q]?)
    (e1 : h'.1 = h.1) (eC : h'.2.2.1 = h.2.2.1) (eZ : h'.2.2.2.1 = h.2.2.2.1) (eI : ∀ j, j ≠ i + 1 → h'.2.2.2.2.1 j = h.2.2.2.2.1 j) (eL : ∀ j, j ≠ i + 1 → h'.2.2.2.2.2.1 j = h.2.2.2.2.2.1 j) (eR : ∀ j, j ≠ i + 1 → h'.2.2.2.2.2.2 j = h.2.2.2.2.2.2 j) (hi : cellOK D dA base h' i H') : HR D dA base h' H' := by
  obtain ⟨o1, o2, o3, o4⟩ := o
  refine ⟨by rw [hz, o1, e1], by rw [eC]; exact o2, fun j hj => by rw [eC] at hj; rw [e1]; exact o3 j hj, fun j => ?_⟩
  by_cases hj : j = i
  · subst hj
    exact hi
  · exact (o4 j).same (hq _ (by omega)) (by rw [eC]) (by rw [eZ]) (eI _ (by omega)) (eL _ (by omega)) (eR _ (by omega))
/-- new cells, m of them -/
theorem HR.grow {D : va_G} {dA : Nat → ClassId} {base m : Nat} {h h' : Hp} {H H' : Heap} (o : HR D dA base h H) (hz : H'.size = H.size + m) (hq : ∀ q : Nat, q < H.size → H'[q]? = H[q]?)
    (e1 : h'.1 = h.1 + m) (eC : ∀ j, j ≤ h.1 ∨ h.1 + m < j → h'.2.2.1 j = h.2.2.1 j) (eZ : ∀ j, j ≤ h.1 → h'.2.2.2.1 j = h.2.2.2.1 j) (eI : ∀ j, j ≤ h.1 → h'.2.2.2.2.1 j = h.2.2.2.2.1 j) (eL : ∀ j, j ≤ h.1 → h'.2.2.2.2.2.1 j = h.2.2.2.2.2.1 j) (eR : ∀ j, j ≤ h.1 → h'.2.2.2.2.2.2 j = h.2.2.2.2.2.2 j) (hi : ∀ j, j < m → cellOK D dA base h' (h.1 + j) H') : HR D dA base h' H' := by
  obtain ⟨o1, o2, o3, o4⟩ := o
  refine ⟨by rw [hz, o1, e1]; omega, by rw [eC 0 (by omega)]; exact o2, fun j hj => ?_, fun j => ?_⟩
  · rw [e1]
    by_cases hb : j ≤ h.1 ∨ h.1 + m < j
    · rw [eC j hb] at hj
      have := o3 j hj
      omega
    · omega
  · by_cases h1 : j + 1 ≤ h.1
    · exact (o4 j).same (hq _ (by rw [o1]; omega)) (eC _ (Or.inl h1)) (eZ _ h1) (eI _ h1) (eL _ h1) (eR _ h1)
    · by_cases h2 : j < h.1 + m
      · have := hi (j - h.1) (by omega)
        rwa [show h.1 + (j - h.1) = j by omega] at this
      · have e0 : h'.2.2.1 (j + 1) = 0 := by
          rw [eC _ (Or.inr (by omega))]
          by_cases e : h.2.2.1 (j + 1) = 0
          · exact e
          · have := o3 _ e
            omega
        exact ⟨fun c r hc => by omega, fun hc => by omega, fun hc => by omega, fun t _ hc => by omega⟩
theorem lp_mem {base : Nat} : ∀ {ls : Lo} {m i : Nat} {v : Value}, ls[i]? = some (some v) → (m + i, cv base v) ∈ lp base m ls
  | [], _, _, _, h => by simp at h
  | none :: t, m, 0, v, h => by simp at h
  | none :: t, m, i + 1, v, h => by
    have := lp_mem (base := base) (m := m + 1) (i := i) (ls := t) (v := v) (by simpa using h)
    rw [show m + (i + 1) = m + 1 + i by omega]
    exact this
  | some w :: t, m, 0, v, h => by
    simp at h
    subst h
    exact List.mem_cons_self
  | some w :: t, m, i + 1, v, h => by
    have := lp_mem (base := base) (m := m + 1) (i := i) (ls := t) (v := v) (by simpa using h)
    rw [show m + (i + 1) = m + 1 + i by omega]
    exact List.mem_cons_of_mem _ this
theorem lp_of {base : Nat} : ∀ {ls : Lo} {m : Nat} {q : Nat × Value}, q ∈ lp base m ls → ∃ (i : Nat) (v : Value), ls[i]? = some (some v) ∧ q = (m + i, cv base v)
  | [], _, _, h => by cases h
  | none :: t, m, q, h => by
    obtain ⟨i, v, a, b⟩ := lp_of (ls := t) (m := m + 1) h
    exact ⟨i + 1, v, by simpa using a, by rw [b, show m + 1 + i = m + (i + 1) by omega]⟩
  | some w :: t, m, q, h => by
    rcases List.mem_cons.mp h with h | h
    · exact ⟨0, w, rfl, h⟩
    · obtain ⟨i, v, a, b⟩ := lp_of (ls := t) (m := m + 1) h
      exact ⟨i + 1, v, by simpa using a, by rw [b, show m + 1 + i = m + (i + 1) by omega]⟩
theorem ldl_at {ls : Lo} {i : Nat} {v : Value} (h : ldl ls i = some v) : ls[i]? = some (some v) := by
  unfold ldl at h
  split at h
  · cases h
    assumption
  · cases h
theorem loc_at {base nL i : Nat} {ls : Lo} {lsC : Array Slot} {v : Value} (hl : lv_has lsC nL (lp base 0 ls)) (h : ldl ls i = some v) : lsC[i]? = some (.val (cv base v)) := by
  have := hl.2.2 _ (lp_mem (m := 0) (ldl_at h))
  simpa using this
theorem cat_cv (base : Nat) (v : Value) : (cv base v).category = v.category := by
  cases v with
  | ref i => cases i <;> rfl
  | _ => rfl
theorem st1_spec : ∀ {ls : Lo} {i : Nat} {v : Value} {ls' : Lo}, st1 ls i v = some ls' → i < ls.length ∧ ls'.length = ls.length ∧ ∀ (j : Nat) (w : Value), ls'[j]? = some (some w) → (j = i ∧ w = v) ∨ (j ≠ i ∧ ls[j]? = some (some w) ∧ (j + 1 = i → w.category ≠ 2))
  | [], 0, _, _, h => by cases h
  | [], 1, _, _, h => by cases h
  | [], i + 2, _, _, h => by cases h
  | a :: t, 0, v, ls', h => by
    cases h
    refine ⟨by simp, by simp, fun j w hw => ?_⟩
    cases j with
    | zero => simp at hw; exact Or.inl ⟨rfl, hw.symm⟩
    | succ j => exact Or.inr ⟨by omega, by simpa using hw, by omega⟩
  | [a], 1, v, ls', h => by cases h
  | a :: b :: t, 1, v, ls', h => by
    cases h
    refine ⟨by simp, by simp, fun j w hw => ?_⟩
    cases j with
    | zero =>
      simp at hw
      refine Or.inr ⟨by omega, ?_, fun _ => ?_⟩
      · cases a with
        | none => cases hw
        | some u => cases u <;> simp [clr] at hw <;> simp [hw]
      · cases a with
        | none => cases hw
        | some u => cases u <;> simp [clr] at hw <;> subst hw <;> simp [Value.category]
    | succ j =>
      cases j with
      | zero => simp at hw; exact Or.inl ⟨rfl, hw.symm⟩
      | succ j => exact Or.inr ⟨by omega, by simpa using hw, by omega⟩
  | a :: t, i + 2, v, ls', h => by
    unfold st1 at h
    cases hq : st1 t (i + 1) v with
    | none => rw [hq] at h; cases h
    | some l2 =>
      rw [hq] at h
      cases h
      obtain ⟨h1, h2, h3⟩ := st1_spec hq
      refine ⟨by simp; omega, by simp [h2], fun j w hw => ?_⟩
      cases j with
      | zero => exact Or.inr ⟨by omega, by simpa using hw, by omega⟩
      | succ j =>
        rcases h3 j w (by simpa using hw) with ⟨q1, q2⟩ | ⟨q1, q2, q3⟩
        · exact Or.inl ⟨by omega, q2⟩
        · exact Or.inr ⟨by omega, by simpa using q2, fun e => q3 (by omega)⟩
theorem st2_spec : ∀ {ls : Lo} {i : Nat} {v : Value} {ls' : Lo}, st2 ls i v = some ls' → i + 1 < ls.length ∧ ls'.length = ls.length ∧ ∀ (j : Nat) (w : Value), ls'[j]? = some (some w) → (j = i ∧ w = v) ∨ (j ≠ i ∧ j ≠ i + 1 ∧ ls[j]? = some (some w) ∧ (j + 1 = i → w.category ≠ 2))
  | [], 0, _, _, h => by cases h
  | [], 1, _, _, h => by cases h
  | [], i + 2, _, _, h => by cases h
  | [a], 0, _, _, h => by cases h
  | a :: b :: t, 0, v, ls', h => by
    cases h
    refine ⟨by simp, by simp, fun j w hw => ?_⟩
    cases j with
    | zero => simp at hw; exact Or.inl ⟨rfl, hw.symm⟩
    | succ j =>
      cases j with
      | zero => simp at hw
      | succ j => exact Or.inr ⟨by omega, by omega, by simpa using hw, by omega⟩
  | [a], 1, v, ls', h => by cases h
  | [a, b], 1, v, ls', h => by cases h
  | a :: b :: c :: t, 1, v, ls', h => by
    cases h
    refine ⟨by simp, by simp, fun j w hw => ?_⟩
    cases j with
    | zero =>
      simp at hw
      refine Or.inr ⟨by omega, by omega, ?_, fun _ => ?_⟩
      · cases a with
        | none => cases hw
        | some u => cases u <;> simp [clr] at hw <;> simp [hw]
      · cases a with
        | none => cases hw
        | some u => cases u <;> simp [clr] at hw <;> subst hw <;> simp [Value.category]
    | succ j =>
      cases j with
      | zero => simp at hw; exact Or.inl ⟨rfl, hw.symm⟩
      | succ j =>
        cases j with
        | zero => simp at hw
        | succ j => exact Or.inr ⟨by omega, by omega, by simpa using hw, by omega⟩
  | a :: t, i + 2, v, ls', h => by
    have h2 : st2 (a :: t) (i + 2) v = (st2 t (i + 1) v).map (a :: ·) := by
      cases t with
      | nil => rfl
      | cons b t => cases t <;> rfl
    rw [h2] at h
    cases hq : st2 t (i + 1) v with
    | none => rw [hq] at h; cases h
    | some l2 =>
      rw [hq] at h
      cases h
      obtain ⟨h1, h2, h3⟩ := st2_spec hq
      refine ⟨by simp; omega, by simp [h2], fun j w hw => ?_⟩
      cases j with
      | zero => exact Or.inr ⟨by omega, by omega, by simpa using hw, by omega⟩
      | succ j =>
        rcases h3 j w (by simpa using hw) with ⟨q1, q2⟩ | ⟨q1, q2, q3, q4⟩
        · exact Or.inl ⟨by omega, q2⟩
        · exact Or.inr ⟨by omega, by omega, by simpa using q3, fun e => q4 (by omega)⟩
theorem lv_st1 {base nL i : Nat} {ls ls' : Lo} {lsC : Array Slot} {v : Value} (hs : st1 ls i v = some ls') (h : lv_has lsC nL ((i, cv base v) :: (lp base 0 ls).filter (fun q => !(q.1 == i) && !(q.1 + 1 == i && q.2.category == 2)))) : lv_has lsC nL (lp base 0 ls') := by
  refine ⟨h.1, h.2.1, fun q hq => ?_⟩
  obtain ⟨j, w, h1, rfl⟩ := lp_of hq
  rcases (st1_spec hs).2.2 j w h1 with ⟨rfl, rfl⟩ | ⟨a, b, c⟩
  · have := h.2.2 _ List.mem_cons_self
    simpa using this
  · refine h.2.2 _ (List.mem_cons_of_mem _ (List.mem_filter.mpr ⟨lp_mem b, ?_⟩))
    simp only [Nat.zero_add, Bool.and_eq_true, Bool.not_eq_true', beq_eq_false_iff_ne, Bool.and_eq_false_iff, ne_eq, cat_cv]
    refine ⟨a, ?_⟩
    by_cases e : j + 1 = i
    · exact Or.inr (c e)
    · exact Or.inl e
theorem lv_st2 {base nL i : Nat} {ls ls' : Lo} {lsC : Array Slot} {v : Value} (hs : st2 ls i v = some ls') (h : lv_has lsC nL ((i, cv base v) :: (lp base 0 ls).filter (fun q => !(q.1 == i) && (!(q.1 == i + 1) && !(q.1 + 1 == i && q.2.category == 2))))) : lv_has lsC nL (lp base 0 ls') := by
  refine ⟨h.1, h.2.1, fun q hq => ?_⟩
  obtain ⟨j, w, h1, rfl⟩ := lp_of hq
  rcases (st2_spec hs).2.2 j w h1 with ⟨rfl, rfl⟩ | ⟨a, a2, b, c⟩
  · have := h.2.2 _ List.mem_cons_self
    simpa using this
  · refine h.2.2 _ (List.mem_cons_of_mem _ (List.mem_filter.mpr ⟨lp_mem b, ?_⟩))
    simp only [Nat.zero_add, Bool.and_eq_true, Bool.not_eq_true', beq_eq_false_iff_ne, Bool.and_eq_false_iff, ne_eq, cat_cv]
    refine ⟨a, a2, ?_⟩
    by_cases e : j + 1 = i
    · exact Or.inr (c e)
    · exact Or.inl e
