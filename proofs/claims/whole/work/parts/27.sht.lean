/-! loops; sheets -/
theorem i9 {i : Nat} (h : i < 9) : i = 0 ∨ i = 1 ∨ i = 2 ∨ i = 3 ∨ i = 4 ∨ i = 5 ∨ i = 6 ∨ i = 7 ∨ i = 8 := by omega
theorem i3 {i : Nat} (h : i < 3) : i = 0 ∨ i = 1 ∨ i = 2 := by omega
theorem nIk : (∀ a : Nat, nI a + 1 = nI (a + 1)) ∧ (∀ a : Nat, nI a + 2 = nI (a + 2)) ∧ (∀ a : Nat, nI a + 3 = nI (a + 3)) ∧ (∀ a : Nat, nI a + 4 = nI (a + 4)) ∧ (∀ a : Nat, nI a + 5 = nI (a + 5)) ∧ (∀ a : Nat, nI a + 6 = nI (a + 6)) ∧ (∀ a : Nat, nI a + 7 = nI (a + 7)) ∧ (∀ a : Nat, nI a + 8 = nI (a + 8)) ∧ (∀ a : Nat, nI a + 9 = nI (a + 9)) := ⟨fun a => nI_add a 1, fun a => nI_add a 2, fun a => nI_add a 3, fun a => nI_add a 4, fun a => nI_add a 5, fun a => nI_add a 6, fun a => nI_add a 7, fun a => nI_add a 8, fun a => nI_add a 9⟩
theorem u2_rd {α : Type} (f : Nat → Nat → α) (i k : Nat) (v : α) (j l : Nat) : u2 f i k v j l = if j = i ∧ l = k then v else f j l := by
  unfold u2 va_up
  by_cases h : j = i
  · subst h
    by_cases h2 : l = k
    · simp [h2]
    · simp [h2]
  · simp [h]
theorem va_up_rd {α : Type} (f : Nat → α) (i : Nat) (v : α) (j : Nat) : va_up f i v j = if j = i then v else f j := rfl
/-- a loop whose heaps are known -/
theorem loopBr {k t f : Nat} {st : List Value} {Q : Option Value → Hp → Prop} (P : Nat → Lo) (H : Nat → Hp) (c : Nat → Prop) (m : Nat) (hit : ∀ i, i < m → (Wp k f (P i) st (H i) Q ↔ Br k t f (P (i + 1)) st (H (i + 1)) Q (c (i + 1)))) (hlt : ∀ i, i < m → ¬ c i) (hm : c m) : ∀ i, i ≤ m → (Br k t f (P i) st (H i) Q (c i) ↔ Wp k t (P m) st (H m) Q) := by
  have key : ∀ d i, i + d = m → (Br k t f (P i) st (H i) Q (c i) ↔ Wp k t (P m) st (H m) Q) := by
    intro d
    induction d with
    | zero =>
      intro i hi
      have : i = m := by omega
      subst this
      rw [show c i = True from eq_true hm]
      exact Br_t
    | succ d ih =>
      intro i hi
      rw [show c i = False from eq_false (hlt i (by omega))]
      exact Br_f.trans ((hit i (by omega)).trans (ih (i + 1) (by omega)))
  exact fun i hi => key (m - i) i (by omega)
theorem mul40 (a : Nat) : (40 : Int32) * nI a = nI (40 * a) := pk_mul 40 a
theorem lt40 {i : Nat} (h : i < 40) : nI i < 40 := nI_lt (b := 40) h (by omega)
theorem nlt40 : ¬ nI 40 < 40 := by decide
theorem i4 {i : Nat} (h : i < 4) : i = 0 ∨ i = 1 ∨ i = 2 ∨ i = 3 := by omega
/-- sheets change -/
theorem Inv7.sht {n n' : Nat} {C C' Z Z' : Nat → Nat} {I I' : Nat → Nat → Int32} {L L' : Nat → Nat → Int64} {R R' : Nat → Nat → Nat} {M rn t s0 : Nat} (h : Inv7 n C Z I L R M rn t) (hn : n ≤ n') (hs0 : s0 < 4)
    (hC : ∀ i, i ≤ n → C' i = C i) (hZ : ∀ i, i ≤ n → Z' i = Z i)
    (hL : ∀ i, (99 ≤ i ∧ i ≤ n ∧ (R 7 s0 = 0 ∨ i ≠ R 7 s0 + 1)) ∨ i = 3 ∨ i = 85 → L' i = L i) (h89 : ∀ s i, s ≠ s0 → s < 4 → i < 40 → L' 89 (40 * s + i) = L 89 (40 * s + i))
    (hI : ∀ i, i ≤ n → i ≠ 87 → i ≠ 88 → I' i = I i) (h87 : ∀ s, s ≠ s0 → I' 87 s = I 87 s ∧ I' 88 s = I 88 s)
    (hR : ∀ i, i ≤ n → i ≠ 7 → R' i = R i) (hR7 : ∀ s, s ≠ s0 → R' 7 s = R 7 s) (hR7n : R' 7 s0 = R 7 s0 ∨ R' 7 s0 = 0 ∨ R' 7 s0 = n + 1)
    (hnew : SOK n' C' Z' I' L' R' s0) : Inv7 n' C' Z' I' L' R' M rn t := by
  obtain ⟨a1, a2, a3, a4, a5, a6, a7, a8⟩ := h
  have lay1 : Lay C' Z' R' := by
    have hc : ∀ i, i ≤ 98 → C' i = C i := fun i hi => hC i (by omega)
    have hz : ∀ i, i ≤ 98 → Z' i = Z i := fun i hi => hZ i (by omega)
    have l0 : Lay C' Z' R := by
      unfold Lay LayB LayK LayO LayE LayM at *
      simp [a3, hc, hz]
    exact l0.keep (fun i k h1 _ h3 _ _ => by rw [hR i (by omega) h3])
  have r2 : R' 2 = R 2 := hR 2 (by omega) (by omega)
  have lt : ∀ j, j < M → R 2 j + 4 ≤ n := fun j hj => by
    obtain ⟨q, s1, hm⟩ := a5 j hj
    have := hm.1
    have := hm.2.2.1
    omega
  have ls : ∀ s', s' < 4 → R 7 s' + 1 ≤ n ∧ (R 7 s' = 0 ∨ 99 ≤ R 7 s') := fun s' hs' => by
    rcases a6 s' hs' with ⟨b, -⟩ | ⟨q2, z, b1, b2, b3, -⟩
    · omega
    · omega
  refine ⟨a1, by omega, lay1, ?_, fun j hj => ?_, fun s' hs' => ?_, ?_, ?_⟩
  · rw [hI 1 (by omega) (by omega) (by omega), hI 74 (by omega) (by omega) (by omega)]
    exact a4
  · obtain ⟨q, s1, hm⟩ := a5 j hj
    exact ⟨q, s1, hm.keep hn (fun i _ h2 => hC i h2) (fun i _ h2 => hZ i h2) (fun i h1 h2 => hI i h2 (by omega) (by omega)) ⟨⟨by rw [hI 75 (by omega) (by omega) (by omega)], by rw [hI 76 (by omega) (by omega) (by omega)], by rw [hI 77 (by omega) (by omega) (by omega)], by rw [hI 78 (by omega) (by omega) (by omega)]⟩, fun i _ => by rw [hI 79 (by omega) (by omega) (by omega)], fun i _ => ⟨by rw [hI 80 (by omega) (by omega) (by omega)], by rw [hI 81 (by omega) (by omega) (by omega)]⟩⟩ (by rw [r2]) (fun i h1 h2 => hR i h2 (by omega))⟩
  · by_cases e : s' = s0
    · subst e
      exact hnew
    · have l1 := ls s' hs'
      have l2 := ls s0 hs0
      have hd := a7.2.2 s' s0 hs' hs0 e
      refine (a6 s' hs').keep2 hn (fun i h1 h2 _ => hC i (by omega)) (fun i h1 h2 _ => hZ i (by omega)) (fun i h1 h2 h3 => hI i (by omega) (by omega) (by omega)) (fun i h1 h2 h3 => hL i ?_) ⟨(h87 s' e).1, (h87 s' e).2, fun i hi => h89 s' i e hs' hi⟩ (hR7 s' e) (fun i h1 h2 h3 => hR i (by omega) (by omega))
      by_cases z0 : R 7 s0 = 0
      · exact Or.inl ⟨by omega, by omega, Or.inl z0⟩
      · have := hd h3 z0
        exact Or.inl ⟨by omega, by omega, Or.inr (by omega)⟩
  · obtain ⟨g1, g2, g3⟩ := a7
    refine ⟨fun i j hi hj hne => by rw [r2]; exact g1 i j hi hj hne, fun s' j hs' hj hz => ?_, fun s1 s2 h1 h2 hne hz1 hz2 => ?_⟩
    · rw [r2]
      have l3 := lt j hj
      by_cases e : s' = s0
      · subst e
        rcases hR7n with e | e | e
        · rw [e] at hz ⊢
          exact g2 s' j hs' hj hz
        · exact absurd e hz
        · rw [e]
          omega
      · rw [hR7 s' e] at hz ⊢
        exact g2 s' j hs' hj hz
    · have l1 := ls s1 h1
      have l2 := ls s2 h2
      by_cases e : s1 = s0
      · subst e
        rw [hR7 s2 (Ne.symm hne)] at hz2 ⊢
        rcases hR7n with e | e | e
        · rw [e] at hz1 ⊢
          exact g3 s1 s2 h1 h2 hne hz1 hz2
        · exact absurd e hz1
        · rw [e]
          omega
      · rw [hR7 s1 e] at hz1 ⊢
        by_cases e2 : s2 = s0
        · subst e2
          rcases hR7n with e | e | e
          · rw [e] at hz2 ⊢
            exact g3 s1 s2 h1 h2 hne hz1 hz2
          · exact absurd e hz2
          · rw [e]
            omega
        · rw [hR7 s2 e2] at hz2 ⊢
          exact g3 s1 s2 h1 h2 hne hz1 hz2
  · unfold TOK at *
    rw [hI 1 (by omega) (by omega) (by omega), hI 5 (by omega) (by omega) (by omega), hI 6 (by omega) (by omega) (by omega), hI 74 (by omega) (by omega) (by omega), hI 91 (by omega) (by omega) (by omega), hL 3 (by omega), hL 85 (by omega)]
    exact a8
