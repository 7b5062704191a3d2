/-! a machine joined: the class's new cells, the reference's new numbers -/
theorem MOK.FBm {n : Nat} {C Z : Nat → Nat} {I : Nat → Nat → Int32} {R : Nat → Nat → Nat} {j q s : Nat} (h : MOK n C Z I R j q s) : FB s (I (q + 1)) (I (q + 2)) (I (q + 3)) := by
  obtain ⟨a1, a2, a3, a4, a5, a6, a7, a8, a9, a10, a11, a12, a13, a14⟩ := h
  have small : (I 75 j = 0 ∨ I 75 j = 1) → FB s (I (q + 1)) (I (q + 2)) (I (q + 3)) := fun hk _ => by
    have m3 : mb (I 75 j) = 3 := mb01 hk
    refine Or.inr (Or.inr ⟨1, 1, fun i => (I (q + 2) i).toInt, fun i => (I (q + 3) i).toInt, fun i hi => ⟨(Int.one_mul _).symm, (Int.one_mul _).symm, fun i' hi' => ?_⟩⟩)
    show -24 ≤ (I (q + 2) i).toInt * (I (q + 3) i').toInt ∧ (I (q + 2) i).toInt * (I (q + 3) i').toInt ≤ 24
    have b1 := (a10 i hi).2
    have b2 := (a11 i' hi').2
    rw [m3] at b1 b2
    unfold bnd at b1 b2
    have h1 : (I (q + 2) i).toInt = -3 ∨ (I (q + 2) i).toInt = -2 ∨ (I (q + 2) i).toInt = -1 ∨ (I (q + 2) i).toInt = 0 ∨ (I (q + 2) i).toInt = 1 ∨ (I (q + 2) i).toInt = 2 ∨ (I (q + 2) i).toInt = 3 := by omega
    rcases h1 with e | e | e | e | e | e | e <;> rw [e] <;> omega
  rcases a4 with ⟨-, b⟩ | ⟨-, b⟩ | ⟨-, -, b⟩ | ⟨-, -, b⟩
  · exact small (Or.inl b)
  · exact small (Or.inr b)
  · exact b
  · exact b
theorem FB.scale {s : Nat} {A B K A' B' K' : Nat → Int32} {d e : Int} (h : FB s A B K) (hA : ∀ i, i < 9 → A' i = A i) (hB : ∀ i, i < 3 → (B' i).toInt = (B i).toInt * d) (hK : ∀ i, i < 3 → (K' i).toInt = e * (K i).toInt) : FB s A' B' K' := by
  intro hs
  rcases h hs with ⟨h1, h2⟩ | ⟨h1, h2⟩ | ⟨f, g, b, k, h1⟩
  · exact Or.inl ⟨(hA 2 (by omega)).trans h1, (hA 5 (by omega)).trans h2⟩
  · exact Or.inr (Or.inl ⟨(hA 1 (by omega)).trans h1, (hA 2 (by omega)).trans h2⟩)
  · refine Or.inr (Or.inr ⟨f * d, e * g, b, k, fun i hi => ⟨?_, ?_, (h1 i hi).2.2⟩⟩)
    · rw [hB i hi, (h1 i hi).1, Int.mul_assoc, Int.mul_assoc, Int.mul_comm d]
    · rw [hK i hi, (h1 i hi).2.1, Int.mul_assoc]
/-- more cells, scratch -/
theorem Inv7.more {n n' : Nat} {C C' Z Z' : Nat → Nat} {I I' : Nat → Nat → Int32} {L L' : Nat → Nat → Int64} {R R' : Nat → Nat → Nat} {M rn t : Nat} (h : Inv7 n C Z I L R M rn t) (hn : n ≤ n') (kC : ∀ i, i ≤ n → C' i = C i) (kZ : ∀ i, i ≤ n → Z' i = Z i) (kI : ∀ i, i ≤ n ∧ (i < 82 ∨ 84 < i) ∧ i ≠ 74 → I' i = I i) (k74 : I' 74 = I 74) (kL : ∀ i, i ≤ n → L' i = L i) (kR : ∀ i, i ≤ n → R' i = R i) : Inv7 n' C' Z' I' L' R' M rn t := by
  obtain ⟨a1, a2, a3, a4, a5, a6, a7, a8⟩ := h
  have lay1 : Lay C' Z' R := by
    unfold Lay LayB LayK LayO LayE LayM at *
    have hc : ∀ i, i ≤ 98 → C' i = C i := fun i hi => kC i (by omega)
    have hz : ∀ i, i ≤ 98 → Z' i = Z i := fun i hi => kZ i (by omega)
    simp [a3, hc, hz]
  refine ⟨a1, by omega, lay1.keep (fun i k h1 _ _ _ _ => by rw [kR i (by omega)]), ?_, fun j hj => ?_, fun s hs => ?_, ?_, ?_⟩
  · rw [kI 1 (by omega), k74]; exact a4
  · obtain ⟨q, s, hm⟩ := a5 j hj
    exact ⟨q, s, hm.keep hn (fun i _ h2 => kC i h2) (fun i _ h2 => kZ i h2) (fun i h1 h2 => kI i (by omega)) ⟨⟨by rw [kI 75 (by omega)], by rw [kI 76 (by omega)], by rw [kI 77 (by omega)], by rw [kI 78 (by omega)]⟩, fun i _ => by rw [kI 79 (by omega)], fun i _ => ⟨by rw [kI 80 (by omega)], by rw [kI 81 (by omega)]⟩⟩ (by rw [kR 2 (by omega)]) (fun i h1 h2 => kR i h2)⟩
  · exact (a6 s hs).keep hn (fun i _ h2 => kC i h2) (fun i _ h2 => kZ i h2) (fun i h1 h2 => kI i (by omega)) (fun i h1 h2 => kL i h2) ⟨by rw [kI 87 (by omega)], by rw [kI 88 (by omega)], fun i _ => by rw [kL 89 (by omega)]⟩ (by rw [kR 7 (by omega)]) (fun i h1 h2 => kR i h2)
  · unfold AOK at *
    rw [kR 2 (by omega), kR 7 (by omega)]
    exact a7
  · unfold TOK at *
    rw [kI 1 (by omega), kI 5 (by omega), kI 6 (by omega), k74, kI 91 (by omega), kL 3 (by omega), kL 85 (by omega)]
    exact a8
/-- behind new numbers at the cells n + 1 .. n + 5 (a LOOP): both keep it, or both refuse it -/
theorem join_fin {n sl sl' : Nat} {C C' Z Z' : Nat → Nat} {I I' : Nat → Nat → Int32} {L L' : Nat → Nat → Int64} {R R' : Nat → Nat → Nat} {M rn t s : Nat} {u : Int32} (h7 : Inv7 n C Z I L R M rn t) (hM : M < 12) (hs : s ≤ 3) (hu : u = 1 ∨ u = 2 ∨ u = 4) (hsl : sl' ≤ sl + 42)
    (kC : ∀ i, i ≤ n → C' i = C i) (kZ : ∀ i, i ≤ n → Z' i = Z i) (kI : ∀ i, i ≤ n → I' i = I i) (kL : ∀ i, i ≤ n → L' i = L i) (kR : ∀ i, i ≤ n → R' i = R i)
    (hq : C' (n + 1) = 5) (hr : R' (n + 1) 3 = n + 2 ∧ R' (n + 1) 4 = n + 3 ∧ R' (n + 1) 5 = n + 4 ∧ R' (n + 1) 6 = n + 5) (hc : C' (n + 2) = 21 ∧ C' (n + 3) = 21 ∧ C' (n + 4) = 21 ∧ C' (n + 5) = 21 ∧ Z' (n + 2) = 9 ∧ Z' (n + 3) = 3 ∧ Z' (n + 4) = 3 ∧ Z' (n + 5) = 1)
    (hi : I' (n + 1) 0 = nI M ∧ I' (n + 1) 1 = nI s ∧ I' (n + 1) 2 = u)
    (hzA : ∀ i k, i < 3 → k < 3 → (s ≤ i ∨ s ≤ k) → I' (n + 2) (3 * i + k) = 0) (hzB : ∀ i, i < 3 → s ≤ i → I' (n + 3) i = 0 ∧ I' (n + 4) i = 0)
    (hfb : (∀ p, p < 9 → fit (I' (n + 2) p)) → (∀ p, p < 3 → fit (I' (n + 3) p)) → (∀ p, p < 3 → fit (I' (n + 4) p)) → FB s (I' (n + 2)) (I' (n + 3)) (I' (n + 4)))
    {kc pcc km : Nat} {lsc lm : Lo} {Qc : Option Value → Hp → Prop} (retC : ∀ (v : Int32) (h : Hp), Wp kc pcc lsc [.int v] h Qc ↔ Wp km 0 lm [] h (fun r2 h2 => r2 = some (.int v) ∧ Inv h2 ∧ h2.1 ≤ n + 5 ∧ h2.2.1 ≤ sl + 42))
    (href2 : ∀ (I3 : Nat → Nat → Int32) (L3 : Nat → Nat → Int64) (R3 : Nat → Nat → Nat) (Q : Option Value → Hp → Prop), LayM C' Z' R3 → (∀ i, 74 ≤ i → i ≤ 98 → I3 i = I i) → (∀ (I4 : Nat → Nat → Int32) (k pc : Nat) (ls : Lo) (Q' : Option Value → Hp → Prop), (∀ (v : Int32) (h : Hp), Wp k pc ls [.int v] h Q' ↔ Q (some (.int v)) h) → (∀ i, i ≠ 82 → i ≠ 83 → i ≠ 84 → I4 i = I3 i) → (∀ i k, i < s → k < s → I4 82 (3 * i + k) = I' (n + 2) (3 * i + k)) → (∀ i, i < s → I4 83 i = I' (n + 3) i ∧ I4 84 i = I' (n + 4) i) → Call 115 [some (.ref 74), some (.int 2), some (.int (nI s)), some (.int u), some (.int (I' (n + 5) 0)), none, none, none, none] (n + 5, sl', C', Z', I4, L3, R3) k pc ls [] Q') → Wp km 0 lm [] (n + 5, sl', C', Z', I3, L3, R3) Q) :
    Call 96 [some (.ref 1), some (.ref (n + 1)), none, none, none, none, none] (n + 5, sl', C', Z', I', L', R') kc pcc lsc [] Qc := by
  obtain ⟨a1, a2, a3, a4, a5, a6, a7, a8⟩ := id h7
  have lay1 : Lay C' Z' R := by
    unfold Lay LayB LayK LayO LayE LayM at *
    have hc : ∀ i, i ≤ 98 → C' i = C i := fun i hi => kC i (by omega)
    have hz : ∀ i, i ≤ 98 → Z' i = Z i := fun i hi => kZ i (by omega)
    simp [a3, hc, hz]
  have lay2 : Lay C' Z' R' := lay1.keep (fun i k h1 _ _ _ _ => by rw [kR i (by omega)])
  have e1 : I' 1 1 = nI M := by rw [kI 1 (by omega)]; exact a4.1
  have i74 : ∀ i, 74 ≤ i → i ≤ 98 → I' i = I i := fun i h1 h2 => kI i (by omega)
  have e2 : ∀ I3 : Nat → Nat → Int32, (∀ i, 74 ≤ i → i ≤ 98 → I3 i = I i) → I3 74 0 = nI M := fun I3 h => by rw [h 74 (by omega) (by omega)]; exact a4.2
  refine c_kis (q := n + 1) (M := M) lay2.1 hq (by omega) hr hc hM e1 (fun g1 g2 g3 g4 => ?_) (fun hb => ?_)
  · rw [retC]
    have layM : LayM C' Z' (u2 R' 2 M (n + 1)) := (lay2.keep (R' := u2 R' 2 M (n + 1)) (fun i k _ h2 _ _ _ => by rw [u2_ne _ _ _ h2])).2.2.2.2
    refine href2 (u2 I' 1 1 (nI (M + 1))) L' (u2 R' 2 M (n + 1)) _ layM (fun i h1 h2 => by rw [u2_ne _ _ _ (by omega)]; exact i74 i h1 h2) (fun I4 k pc ls Q' ret f1 f2 f3 => ?_)
    have fit4' : fit4 s (I4 82) (I4 83) (I4 84) (I' (n + 5) 0) := ⟨fun i hi => ⟨by rw [(f3 i hi).1]; exact g2 i (by omega), by rw [(f3 i hi).2]; exact g3 i (by omega)⟩, fun i k hi hk => by rw [f2 i k hi hk]; exact g1 _ (by omega), g4⟩
    have e4 : I4 74 0 = nI M := by rw [f1 74 (by omega) (by omega) (by omega), u2_ne _ _ _ (by omega)]; exact e2 I' i74
    refine m_keeps layM hs (by omega) e4 2 u (I' (n + 5) 0) (fun _ _ I5 kp => ?_) (fun hn => absurd ⟨hM, fit4'⟩ hn)
    rw [ret]
    obtain ⟨p1, ⟨p2, p3, p4⟩, p5, ⟨p6, p7, p8, p9⟩, p10, p11⟩ := kp
    have o4 : ∀ i, (99 ≤ i ∧ i ≤ n) ∨ i = 5 ∨ i = 6 ∨ i = 87 ∨ i = 88 ∨ i = 91 ∨ (75 ≤ i ∧ i ≤ 81) → I4 i = I i := fun i h => by rw [f1 i (by omega) (by omega) (by omega), u2_ne _ _ _ (by omega), kI i (by omega)]
    have o5 : ∀ i, (99 ≤ i ∧ i ≤ n) ∨ i = 5 ∨ i = 6 ∨ i = 87 ∨ i = 88 ∨ i = 91 → I5 i = I i := fun i h => by rw [p1 i (by omega)]; exact o4 i (by omega)
    have nw : ∀ i, n < i → I5 i = I' i := fun i h => by rw [p1 i (by omega), f1 i (by omega) (by omega) (by omega), u2_ne _ _ _ (by omega)]
    have vA : ∀ i k, i < 3 → k < 3 → I5 79 (9 * M + (3 * i + k)) = I' (n + 2) (3 * i + k) := fun i k hi hk => by
      rw [p10 i k hi hk]
      by_cases c : i < s ∧ k < s
      · rw [if_pos c, f2 i k c.1 c.2]
      · rw [if_neg c, hzA i k hi hk (by omega)]
    have m12 : mb (2 : Int32) = 12 := by decide
    refine ⟨rfl, Inv_mk (h7.add (s := s) hM kC kZ (fun i hi => kL i (by omega)) (fun i hi => o5 i hi) ⟨?_, p2, ?_, ?_, ?_⟩ (fun j hj => ?_) (fun j hj => ?_) (fun i hi => ?_) (fun i k h1 h2 h3 _ _ => ?_) ⟨?_, by omega, by omega, Or.inr (Or.inr (Or.inl ⟨hq, p6, ?_⟩)), ⟨?_, hs, ?_, p7⟩, ⟨?_, ?_⟩, ?_, ?_, fun i hi => ?_, fun i hi => ?_, fun i hi => ?_, ?_, fun i k hi hk hz => ?_, fun i hi hz => ?_⟩), Nat.le_refl _, hsl⟩
    · rw [p1 1 (by omega), f1 1 (by omega) (by omega) (by omega), u2_at, if_pos rfl]
    · rw [p1 1 (by omega), f1 1 (by omega) (by omega) (by omega), u2_at, if_neg (by omega), kI 1 (by omega)]
    · rw [p3, f1 74 (by omega) (by omega) (by omega), u2_ne _ _ _ (by omega), kI 74 (by omega)]
    · rw [p4, f1 74 (by omega) (by omega) (by omega), u2_ne _ _ _ (by omega), kI 74 (by omega)]
    · obtain ⟨⟨b1, b2, b3, b4⟩, b5, b6⟩ := p5 j hj
      exact ⟨⟨by rw [b1, o4 75 (by omega)], by rw [b2, o4 76 (by omega)], by rw [b3, o4 77 (by omega)], by rw [b4, o4 78 (by omega)]⟩, fun i hi => by rw [b5 i hi, o4 79 (by omega)], fun i hi => ⟨by rw [(b6 i hi).1, o4 80 (by omega)], by rw [(b6 i hi).2, o4 81 (by omega)]⟩⟩
    · rw [u2_at, if_neg (by omega), kR 2 (by omega)]
    · rw [u2_ne _ _ _ (by omega), kR i (by omega)]
    · rw [u2_ne _ _ _ h2, kR i (by omega)]
    · rw [u2_at, if_pos rfl]
    · rw [nw (n + 1 + 1) (by omega), nw (n + 1 + 2) (by omega), nw (n + 1 + 3) (by omega)]
      exact hfb g1 g2 g3
    · rw [nw (n + 1) (by omega)]; exact hi.1
    · rw [nw (n + 1) (by omega)]; exact hi.2.1
    · rw [nw (n + 1) (by omega), p8]; exact hi.2.2
    · rw [p8]; exact hu
    · rw [u2_ne _ _ _ (by omega)]; exact hr
    · exact hc
    · rw [p6, m12, nw (n + 1 + 1) (by omega)]
      refine ⟨?_, fit_bnd (g1 i hi)⟩
      rcases i9 hi with rfl | rfl | rfl | rfl | rfl | rfl | rfl | rfl | rfl
      · exact vA 0 0 (by omega) (by omega)
      · exact vA 0 1 (by omega) (by omega)
      · exact vA 0 2 (by omega) (by omega)
      · exact vA 1 0 (by omega) (by omega)
      · exact vA 1 1 (by omega) (by omega)
      · exact vA 1 2 (by omega) (by omega)
      · exact vA 2 0 (by omega) (by omega)
      · exact vA 2 1 (by omega) (by omega)
      · exact vA 2 2 (by omega) (by omega)
    · rw [p6, m12, nw (n + 1 + 2) (by omega)]
      refine ⟨?_, fit_bnd (g2 i hi)⟩
      rw [(p11 i hi).1]
      by_cases c : i < s
      · rw [if_pos c, (f3 i c).1]
      · rw [if_neg c, (hzB i hi (by omega)).1]
    · rw [p6, m12, nw (n + 1 + 3) (by omega)]
      refine ⟨?_, fit_bnd (g3 i hi)⟩
      rw [(p11 i hi).2]
      by_cases c : i < s
      · rw [if_pos c, (f3 i c).2]
      · rw [if_neg c, (hzB i hi (by omega)).2]
    · rw [p6, m12, nw (n + 1 + 4) (by omega), p9]
      exact ⟨rfl, fit_bnd g4⟩
    · rw [nw (n + 1 + 1) (by omega)]
      exact hzA i k hi hk hz
    · rw [nw (n + 1 + 2) (by omega), nw (n + 1 + 3) (by omega)]
      exact hzB i hi hz
  · rw [retC]
    refine href2 I' L' R' _ lay2.2.2.2.2 i74 (fun I4 k pc ls Q' ret f1 f2 f3 => ?_)
    have e4 : I4 74 0 = nI M := by rw [f1 74 (by omega) (by omega) (by omega)]; exact e2 I' i74
    refine m_keeps lay2.2.2.2.2 hs (by omega) e4 2 u (I' (n + 5) 0) (fun _ ft => ?_) (fun _ => ?_)
    · obtain ⟨t1, t2, t3⟩ := ft
      exfalso
      rcases hb with ⟨p, hp, hf⟩ | ⟨p, hp, hf⟩ | ⟨p, hp, hf⟩ | ⟨p, hp, hf⟩
      · refine hf ?_
        have hh : ∀ i k, i < 3 → k < 3 → fit (I' (n + 2) (3 * i + k)) := fun i k hi hk => by
          by_cases c : i < s ∧ k < s
          · rw [← f2 i k c.1 c.2]
            exact t2 i k c.1 c.2
          · rw [hzA i k hi hk (by omega)]
            exact fit_0
        have := hh (p / 3) (p % 3) (by omega) (by omega)
        rwa [show 3 * (p / 3) + p % 3 = p from by omega] at this
      · refine hf ?_
        by_cases c : p < s
        · show fit (I' (n + 3) p)
          rw [← (f3 p c).1]
          exact (t1 p c).1
        · show fit (I' (n + 3) p)
          rw [(hzB p hp (by omega)).1]
          exact fit_0
      · refine hf ?_
        by_cases c : p < s
        · show fit (I' (n + 4) p)
          rw [← (f3 p c).2]
          exact (t1 p c).2
        · show fit (I' (n + 4) p)
          rw [(hzB p hp (by omega)).2]
          exact fit_0
      · refine hf ?_
        have : p = 0 := by omega
        subst this
        exact t3
    · rw [ret]
      refine ⟨rfl, ?_, Nat.le_refl _, hsl⟩
      have := h7.more (n' := n + 5) (I' := I4) (L' := L') (R' := R') (by omega) kC kZ (fun i h => by rw [f1 i (by omega) (by omega) (by omega), kI i (by omega)]) (by rw [f1 74 (by omega) (by omega) (by omega), kI 74 (by omega)]) kL kR
      exact Inv_mk this
