set_option maxRecDepth 100000 in
set_option maxHeartbeats 8000000 in
theorem ck_yes_2t {n sl : Nat} {C Z : Nat → Nat} {I : Nat → Nat → Int32} {L : Nat → Nat → Int64} {R : Nat → Nat → Nat} {M rn t j q : Nat} (h7 : Inv7 n C Z I L R M rn t) (hj : j < M) (hq : MOK n C Z I R j q 2) (kf : isa (C q) 1 = false) (kd : ¬ I 75 j = 1) (d0 : ¬ (eD false 2 (I q 2).toInt (fun i => (I (q + 1) i).toInt)) = 0) : Two 78 149 [some (.ref 1), some (.int (nI j)), none, none, none, none] [some (.ref 74), some (.int (nI j)), none, none, none, none, none, none, none, none] (n, sl, C, Z, I, L, R) := by
  obtain ⟨hrn, e3, e4, hrw⟩ := h7.2.2.2.2.2.2.2.1
  obtain ⟨hM12, hn98, ⟨hB, hK, hO, hE, hM⟩, ⟨e1, e2⟩, -⟩ := id h7
  have hB' := hB
  have hM' := hM
  unfold LayB at hB
  unfold LayM at hM
  have hE' := hE
  unfold LayE at hE'
  unfold Two
  obtain ⟨a1, a2, -⟩ := id hq
  have hq0 : ¬ q = 0 := by omega
  have hc := hq.cm
  have c73 : C 73 = 3 := by simp [hB]
  have kin : inG 7 (C q) = true := hc.1.1
  have a6 : I q 1 = nI 2 := hc.1.2.2.2.2.1
  have hu := hq.un
  have bA := hq.bns.1
  have zA := (hq.rm hM' (by omega)).2.2.2.2.2.2.2.2.2.1
  have n0 : nI 2 = 2 := rfl
  simp [S78_0, S78_1, S78_2, S87_0, at_yesG hB' hM12 hj, Call_in (k2 := 87), BS, ixs, inbs, le_nlt, hB, hE', e1, a1, hq0, kin, a6, n0]
  refine c_eFill_2t hc hE kf hu bA zA (fun L1 I1 fL fI v3 v5 => ?_)
  have iq : I1 q = I q := fI q (by omega)
  have i1 : I1 1 = I 1 := fI 1 (by omega)
  have e2' : I1 74 0 = nI M := by rw [fI 74 (by omega)]; exact e2
  have kd' : ¬ I1 75 j = 1 := by rw [fI 75 (by omega)]; exact kd
  have hr' := (hq.rm hM' (by omega)).keep (R' := R) (I' := I1) hM' (fun i h1 h2 => fI i (by omega))
  have k76 : I1 76 j = nI 2 := hr'.2.2.2.1
  have isy := is_yesG hM' hM12 hj n sl I1
  have j0 : inb (nI j) 12 = true := by rw [inb_nI (by omega)]; simp; omega
  have jx := ix_nI (show j < 2 ^ 31 by omega)
  have tn : I1 66 5 = 1 := by rw [v5.2, if_neg d0]
  have hc1 : CM C Z I1 R q 2 (I q 2) _ _ _ _ := hc.keep (fun i hi => fI i (by omega)) (fun _ _ => rfl)
  simp [S78_0, S78_1, S78_2, BS, ixs, inbs, le_nlt, hB, hE', i1, tn]
  refine c_prf_2t (tt := 4) hc1 hB' hE (by simp [hB]) (by simp [hB]) (Or.inr rfl) v3.1 v3.2 d0 hu bA (fun L2 f2 p2 => ?_)
  have hb : (if nI rn < 11 then nI rn else 11) = nI (min rn 11) := by
    have := nI_ltI (a := rn) (b := 11) (by omega) (by omega)
    rw [show nI 11 = 11 from rfl] at this
    by_cases c : rn < 11
    · rw [if_pos (this.mpr c), Nat.min_eq_left (by omega)]
    · rw [if_neg (fun h => c (this.mp h)), Nat.min_eq_right (by omega)]; rfl
  obtain ⟨f, f_le, f_al, f_at⟩ := first_diff (fun p => L2 3 p = L2 4 p) (min rn 11)
  -- the reference, from any class answer
  have ref : ∀ r : Option Value, ((f < rn ∧ f < 11 ∧ ¬ L2 3 f = L2 4 f → r = some (.int (nI f))) ∧ (f = min rn 11 → ¬ rn = 11 → r = some (.int (nI f))) ∧ (f = rn → rn = 11 → (abv 2 (eN false 2 (I q 2).toInt (fun i => (I (q + 1) i).toInt)) (eD false 2 (I q 2).toInt (fun i => (I (q + 1) i).toInt)) → r = some (.int (-1))) ∧ (¬ abv 2 (eN false 2 (I q 2).toInt (fun i => (I (q + 1) i).toInt)) (eD false 2 (I q 2).toInt (fun i => (I (q + 1) i).toInt)) → r = some (.int (-3))))) → Wp 149 0 [some (.ref 74), some (.int (nI j)), none, none, none, none, none, none, none, none] [] (n, sl, C, Z, I1, L2, R) (fun r2 h2 => r2 = r ∧ Inv h2 ∧ h2.1 ≤ n + 5 ∧ h2.2.1 ≤ sl + 42) := by
    intro r hr3
    obtain ⟨q1, q2, q3⟩ := hr3
    simp [S149_0, S149_1, S149_2, S149_3, S149_4, BS, ixs, inbs, hM, isy, e2']
    refine m_has_2t hr' kd' hu bA (fun L3 f3 _ => ?_)
    rw [if_neg d0]
    simp [S149_0, S149_1, S149_2, S149_3, S149_4, BS, ixs, inbs, hM]
    refine m_wr_2t hr' kd' hM12 hj e2' hu bA d0 (fun L4 I4 f4 g4 p4 q4 v4 => ?_)
    have q4' : I4 74 14 = nI 11 := q4.trans rfl
    have q13 : I4 74 13 = nI rn := by rw [p4 13 (by omega), fI 74 (by omega)]; exact e4
    have l85 : L4 85 = L 85 := by rw [f4 85 (by omega) (by omega) (by omega) (by omega) (by omega), f3 85 (by omega) (by omega) (by omega), f2 85 (by omega) (by omega), fL 85 (by omega)]
    have l3 : L2 3 = L 3 := by rw [f2 3 (by omega) (by omega), fL 3 (by omega)]
    have same : ∀ p, p < rn → p < 11 → (L4 85 p = L4 86 p ↔ L2 3 p = L2 4 p) := fun p h1 h2 => by rw [l85, ← hrw p h1, l3, v4 p h2, p2 p h2]
    have fin : ∀ L5 : Nat → Nat → Int64, (∀ c, c ≠ 74 → c ≠ 95 → c ≠ 96 → c ≠ 97 → L5 c = L4 c) → Inv (n, sl, C, Z, I4, L5, R) := fun L5 f5 => Inv_mk (h7.scr (fun i hi => by rw [f5 i (by omega) (by omega) (by omega) (by omega), f4 i (by omega) (by omega) (by omega) (by omega) (by omega), f3 i (by omega) (by omega) (by omega), f2 i (by omega) (by omega)]; exact fL i (by omega)) (fun i hi => by rw [g4 i (by omega)]; exact fI i (by omega)) ⟨by rw [p4 0 (by omega), fI 74 (by omega)], by rw [p4 13 (by omega), fI 74 (by omega)], by rw [p4 20 (by omega), fI 74 (by omega)]⟩ (fun _ _ _ _ => rfl))
    have fin0 := fin L4 (fun _ _ _ _ _ => rfl)
    have go := ck_m (n := n) (sl := sl) (Q := (fun r2 h2 => r2 = r ∧ Inv h2 ∧ h2.1 ≤ n + 5 ∧ h2.2.1 ≤ sl + 42)) (f := f) (j := j) hM' q13 q4' hrn (by omega) (by omega) (by omega) (fun p hp => (same p (by omega) (by omega)).mpr (f_al p hp)) ?_ f 0 (by omega)
    · rw [nI_0] at go
      have gen : ∀ x0 : Int32, Wp 149 27 [some (.ref 74), some (.int (nI j)), none, none, none, none, none, none, none, none] [.int x0] (n, sl, C, Z, I4, L4, R) (fun r2 h2 => r2 = r ∧ Inv h2 ∧ h2.1 ≤ n + 5 ∧ h2.2.1 ≤ sl + 42) ↔ Br 149 44 36 [some (.ref 74), some (.int (nI j)), some (.int x0), none, none, none, none, none, none, none] [] (n, sl, C, Z, I4, L4, R) (fun r2 h2 => r2 = r ∧ Inv h2 ∧ h2.1 ≤ n + 5 ∧ h2.2.1 ≤ sl + 42) (x0 < nI rn) := fun x0 => by simp [S149_0, S149_1, S149_2, S149_3, S149_4, BS, hM, q13]
      have gg := (gen 0).mpr go
      simp [S149_0, S149_1, S149_2, S149_3, S149_4, BS, ixs, inbs, hM, ↓gg]
    · have h1 : inb (nI f) 12 = true := by rw [inb_nI (by omega)]; simp; omega
      have h2 := ix_nI (show f < 2 ^ 31 by omega)
      by_cases fe : f = min rn 11
      · by_cases c : rn = 11
        · have q5 := q3 (by omega) c
          have c1 : ¬ nI f < nI rn := nI_nlt (by omega) (by omega)
          have c2 : nI 11 ≤ nI f := nI_le (by omega) (by omega)
          have go2 := m_ckt_2t (n := n) (sl := sl) (L := L4) (M := M) (f := f) (hr'.keep (R' := R) (I' := I4) hM' (fun i h1 h2 => g4 i (by omega))) (by rw [g4 75 (by omega)]; exact kd') hM12 hj (by rw [p4 0 (by omega)]; exact e2') hu bA d0 (Q := (fun r2 h2 => r2 = r ∧ Inv h2 ∧ h2.1 ≤ n + 5 ∧ h2.2.1 ≤ sl + 42)) (fun ha L5 f5 => ⟨(q5.1 ha).symm, fin L5 f5, by dsimp only; omega, by dsimp only; omega⟩) (fun ha L5 f5 => ⟨(q5.2 ha).symm, fin L5 f5, by dsimp only; omega, by dsimp only; omega⟩)
          simp [S149_0, S149_1, S149_2, S149_3, S149_4, BS, ixs, inbs, hM, q13, q4', c1, c2, ↓go2]
        · have q5 := q2 fe c
          by_cases c0 : rn < 11
          · have c1 : ¬ nI f < nI rn := nI_nlt (by omega) (by omega)
            have c2 : ¬ nI 11 ≤ nI f := nI_ge (by omega) (by omega)
            have c3 : nI rn ≤ nI f := nI_le (by omega) (by omega)
            simp [S149_0, S149_1, S149_2, S149_3, S149_4, BS, ixs, inbs, hM, q13, q4', c1, c2, c3, fin0, q5]
          · have c1 : nI f < nI rn := nI_lt (by omega) (by omega)
            have c2 : nI 11 ≤ nI f := nI_le (by omega) (by omega)
            have c3 : ¬ nI rn ≤ nI f := nI_ge (by omega) (by omega)
            simp [S149_0, S149_1, S149_2, S149_3, S149_4, BS, ixs, inbs, hM, q13, q4', c1, c2, c3, fin0, q5]
      · have fp := f_at.resolve_left fe
        have fr : f < rn := by omega
        have fc : f < 11 := by omega
        have q5 := q1 ⟨fr, fc, fp⟩
        have c1 : nI f < nI rn := nI_lt (by omega) (by omega)
        have c2 : ¬ nI 11 ≤ nI f := nI_ge (by omega) (by omega)
        have c3 : ¬ nI rn ≤ nI f := nI_ge (by omega) (by omega)
        have c4 : ¬ L4 85 f = L4 86 f := fun h => fp ((same f fr fc).mp h)
        simp [S149_0, S149_1, S149_2, S149_3, S149_4, BS, ixs, inbs, hM, q13, q4', c1, c2, c3, h1, h2, lg_eq, c4, fin0, q5]
  have i14 : I1 1 4 = nI rn := by rw [i1]; exact e3
  have go := ck_c (n := n) (sl := sl) (I := I1) (Q := fun r h1 => Wp 149 0 [some (.ref 74), some (.int (nI j)), none, none, none, none, none, none, none, none] [] h1 (fun r2 h2 => r2 = r ∧ Inv h2 ∧ h2.1 ≤ n + 5 ∧ h2.2.1 ≤ sl + 42)) (f := f) (b := min rn 11) (q := q) (x := nI j) (dc := 11) hB' f_le (by omega) f_al ?_ f 0 (by omega)
  · rw [nI_0] at go
    have gen : ∀ x0 : Int32, Wp 78 54 [some (.ref 1), some (.int (nI j)), some (.ref q), some (.int 11), some (.int (nI (min rn 11))), none] [.int x0] (n, sl, C, Z, I1, L2, R) (fun r h1 => Wp 149 0 [some (.ref 74), some (.int (nI j)), none, none, none, none, none, none, none, none] [] h1 (fun r2 h2 => r2 = r ∧ Inv h2 ∧ h2.1 ≤ n + 5 ∧ h2.2.1 ≤ sl + 42)) ↔ Br 78 90 63 [some (.ref 1), some (.int (nI j)), some (.ref q), some (.int 11), some (.int (nI (min rn 11))), some (.int x0)] [] (n, sl, C, Z, I1, L2, R) (fun r h1 => Wp 149 0 [some (.ref 74), some (.int (nI j)), none, none, none, none, none, none, none, none] [] h1 (fun r2 h2 => r2 = r ∧ Inv h2 ∧ h2.1 ≤ n + 5 ∧ h2.2.1 ≤ sl + 42)) (nI (min rn 11) ≤ x0) := fun x0 => by simp [S78_0, S78_1, S78_2, BS]
    have gg := (gen 0).mpr go
    simp [S78_0, S78_1, S78_2, BS, ixs, inbs, hB, i14, hb, ↓gg]
  · have h1 : inb (nI f) 11 = true ∨ 11 ≤ f := (Nat.lt_or_ge f 11).imp (fun h => by rw [inb_nI (by omega)]; simp; omega) id
    have h2 := ix_nI (show f < 2 ^ 31 by omega)
    by_cases fe : f = min rn 11
    · have c1 : nI (min rn 11) ≤ nI f := nI_le (by omega) (by omega)
      by_cases c : rn = 11
      · have c2 : (11 : Int32) = nI rn := by rw [c]; rfl
        have l72 := fun i (hi : i < 3) => (congrFun (f2 72 (by omega) (by omega)) i).trans (v3.2 i hi)
        have l66 := (congrFun (f2 66 (by omega) (by omega)) 3).trans v3.1
        simp [S78_0, S78_1, S78_2, BS, ixs, inbs, hB, i14, c1, ← c2, hE']
        refine c_abv (s := 2) hE (by omega) v5.1 l72 l66 (fun i => bn_eN hu bA i) (bn_eD hu bA) d0 (fun ha => ?_) (fun ha => ?_)
        · simp [S78_0, S78_1, S78_2, BS, ixs, inbs]
          exact ref _ ⟨fun h => absurd h.1 (by omega), fun _ h => absurd c h, fun _ _ => ⟨fun _ => rfl, fun h => absurd ha h⟩⟩
        · simp [S78_0, S78_1, S78_2, BS, ixs, inbs]
          exact ref _ ⟨fun h => absurd h.1 (by omega), fun _ h => absurd c h, fun _ _ => ⟨fun h => absurd h ha, fun _ => rfl⟩⟩
      · have c2 : ¬ (11 : Int32) = nI rn := fun h => c (((nI_eq (a := 11) (by omega) (by omega)).mp h).symm)
        have rr := ref (some (.int (nI (min rn 11)))) ⟨fun h => by omega, fun h _ => by rw [h], fun _ h => absurd h c⟩
        simp [S78_0, S78_1, S78_2, BS, ixs, inbs, hB, i14, c1, c2]
        exact rr
    · have fp := f_at.resolve_left fe
      have fr : f < rn := by omega
      have fc : f < 11 := by omega
      have c1 : ¬ nI (min rn 11) ≤ nI f := nI_ge (by omega) (by omega)
      have h1' := h1.resolve_right (by omega)
      have rr := ref (some (.int (nI f))) ⟨fun _ => rfl, fun h => absurd h fe, fun h => absurd h (by omega)⟩
      simp [S78_0, S78_1, S78_2, BS, ixs, inbs, hB, i14, c1, h1', h2, lg_eq, fp]
      exact rr
