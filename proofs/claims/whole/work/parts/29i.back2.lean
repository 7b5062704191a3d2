theorem nflow {c : Nat} {k : Int32} {P P2 : Prop} (h : (c = 8 ∧ k = 0) ∨ (c = 2 ∧ k = 1) ∨ (c = 5 ∧ k = 2 ∧ P) ∨ (c = 6 ∧ k = 3 ∧ P2)) : (c = 2 ∧ k = 1) ∨ (inG 7 c = true ∧ isa c 1 = false ∧ ¬ k = 1) := by
  rcases h with ⟨h1, h2⟩ | ⟨h1, h2⟩ | ⟨h1, h2, -⟩ | ⟨h1, h2, -⟩
  · subst h1; subst h2; exact Or.inr (by decide)
  · exact Or.inl ⟨h1, h2⟩
  · subst h1; subst h2; exact Or.inr (by decide)
  · subst h1; subst h2; exact Or.inr (by decide)
/-- a LOOP fed back: its numbers are small -/
theorem FB_back {A B K A' : Nat → Int32} {u sg : Int32} (hu : u = 1 ∨ u = 2 ∨ u = 4) (hg : sg = 1 ∨ sg = -1) (hA : ∀ i, i < 9 → bnd 12 (A i)) (hB : ∀ i, i < 3 → bnd 12 (B i)) (hK : ∀ i, i < 3 → bnd 12 (K i)) (hA' : ∀ i k, i < 3 → k < 3 → A' (3 * i + k) = A (3 * i + k) + sg * u * B i * K k) (hf : ∀ p, p < 9 → fit (A' p)) : FB 3 A' B K := by
  intro _
  refine Or.inr (Or.inr ⟨1, 1, fun i => (B i).toInt, fun i => (K i).toInt, fun i hi => ⟨(Int.one_mul _).symm, (Int.one_mul _).symm, fun k hk => ?_⟩⟩)
  show -24 ≤ (B i).toInt * (K k).toInt ∧ (B i).toInt * (K k).toInt ≤ 24
  have f := fit_bnd (hf (3 * i + k) (by omega))
  have a := hA (3 * i + k) (by omega)
  have b := hB i hi
  have c := hK k hk
  rw [hA' i k hi hk] at f
  unfold bnd at *
  have bc : -144 ≤ (B i).toInt * (K k).toInt ∧ (B i).toInt * (K k).toInt ≤ 144 := by
    have h1 : ((B i).toInt * (K k).toInt).natAbs ≤ 12 * 12 := by
      rw [Int.natAbs_mul]
      exact Nat.mul_le_mul (by omega) (by omega)
    omega
  have key : ∀ w : Int32, (w.toInt = 1 ∨ w.toInt = -1 ∨ w.toInt = 2 ∨ w.toInt = -2 ∨ w.toInt = 4 ∨ w.toInt = -4) → (A (3 * i + k) + w * B i * K k).toInt = (A (3 * i + k)).toInt + w.toInt * ((B i).toInt * (K k).toInt) := by
    intro w hw
    have t1 : (w * B i).toInt = w.toInt * (B i).toInt := by
      rw [Int32.toInt_mul]
      apply Int.bmod_eq_of_le <;> rcases hw with e | e | e | e | e | e <;> rw [e] <;> omega
    have t2 : (w * B i * K k).toInt = w.toInt * ((B i).toInt * (K k).toInt) := by
      rw [Int32.toInt_mul, t1, Int.mul_assoc]
      apply Int.bmod_eq_of_le <;> rcases hw with e | e | e | e | e | e <;> rw [e] <;> omega
    rw [Int32.toInt_add, t2]
    apply Int.bmod_eq_of_le <;> rcases hw with e | e | e | e | e | e <;> rw [e] <;> omega
  have hw : (sg * u).toInt = 1 ∨ (sg * u).toInt = -1 ∨ (sg * u).toInt = 2 ∨ (sg * u).toInt = -2 ∨ (sg * u).toInt = 4 ∨ (sg * u).toInt = -4 := by
    rcases hg with rfl | rfl <;> rcases hu with rfl | rfl | rfl <;> decide
  rw [key _ hw] at f
  rcases hw with e | e | e | e | e | e <;> rw [e] at f <;> omega
set_option maxRecDepth 100000 in
set_option maxHeartbeats 8000000 in
theorem two_back0 {n sl : Nat} {C Z : Nat → Nat} {I : Nat → Nat → Int32} {L : Nat → Nat → Int64} {R : Nat → Nat → Nat} {M rn t j q : Nat} {sg : Int32} (h7 : Inv7 n C Z I L R M rn t) (hMl : M < 12) (hj : j < M) (hq : MOK n C Z I R j q 0) (kf : inG 7 (C q) = true ∧ isa (C q) 1 = false ∧ ¬ I 75 j = 1) (d0 : I (q + 4) 0 = 0) (hg : sg = 1 ∨ sg = -1) : Two 63 119 [some (.ref 1), some (.int (nI j)), some (.int sg), none, none, none, none, none] [some (.ref 74), some (.int (nI j)), some (.int sg), none, none] (n, sl, C, Z, I, L, R) := by
  obtain ⟨hM12, hn98, ⟨hB, hK, hO, hE, hM⟩, ⟨e1, e2⟩, hms, hss, hap, ⟨hrn, e3, e4, hrw⟩, ht, e5, e6, htr⟩ := id h7
  obtain ⟨a1, a2, a3, a4, ⟨a5, hs3, a6, a7⟩, ⟨a8, a9⟩, ⟨r3, r4, r5, r6⟩, ⟨c1, c2, c3, c4, z1, z2, z3, z4⟩, ma, mbb, mcc, ⟨md, mdb⟩, za, zb⟩ := id hq
  obtain ⟨f1, f2, f3⟩ := kf
  have hB' := hB
  unfold LayB at hB
  unfold Two
  have n0 : nI 0 = 0 := rfl
  obtain ⟨m, rfl⟩ : ∃ m, n = m + 98 := ⟨n - 98, by omega⟩
  have hq0 : ¬ q = 0 := by omega
  have p2 : ¬ (12 : Int32) ≤ nI M := nI_ge (b := 12) (by omega) (by omega)
  have p1 : nI M < 12 := nI_lt (b := 12) (by omega) (by omega)
  have qn : ∀ c d, c ≤ 4 → 1 ≤ d → ¬ q + c = m + 98 + d := fun c d h1 h2 => by omega
  have qn' : ∀ d, 1 ≤ d → ¬ q = m + 98 + d := fun d h2 => by omega
  have qn2 : ∀ c, 95 ≤ c → ¬ q = m + c := fun c h => by omega
  have qn1 : ∀ c, c ≤ 4 → ¬ q + c = m + 98 + 1 ∧ ¬ q + c = m + 98 + 1 + 1 ∧ ¬ q + c = m + 98 + 1 + 1 + 1 ∧ ¬ q + c = m + 98 + 1 + 1 + 1 + 1 ∧ ¬ q + c = m + 98 + 1 + 1 + 1 + 1 + 1 := fun c h1 => by omega
  have qn0 : ¬ q = m + 98 + 1 ∧ ¬ q = m + 98 + 1 + 1 ∧ ¬ q = m + 98 + 1 + 1 + 1 ∧ ¬ q = m + 98 + 1 + 1 + 1 + 1 ∧ ¬ q = m + 98 + 1 + 1 + 1 + 1 + 1 := by omega
  have mbl : mb (I 75 j) ≤ 12 := by unfold mb; split <;> omega
  have b12 : ∀ v, bnd (mb (I 75 j)) v → bnd 12 v := fun v hv => by unfold bnd at *; omega
  rcases hg with rfl | rfl
  · simp [S63_0, S63_1, S63_2, S63_3, S63_4, S91_0, S37_0, S51_0, S51_1, Call_in (k2 := 91), Call_in (k2 := 37), Call_in (k2 := 51), BS, ixs, inbs, le_nlt, hB, at_yesG hB' hM12 hj, e1, a1, hq0, f1, f2, d0, r3, r4, r5, r6, c1, c2, c3, c4, z1, z2, z3, z4, a6, n0, p1, p2, va_up_rd, u2_rd, qn1, qn2, qn0, inGs]
    refine join_fin (km := 119) (lm := [some (.ref 74), some (.int (nI j)), some (.int 1), none, none]) (n := m + 98) (sl := sl) (sl' := sl + 7 + 9 + 3 + 3 + 1) (s := 0) (u := I q 2) h7 hMl (by omega) (by rw [a8]; exact a9) (by omega) (fun i hi => ?_) (fun i hi => ?_) (fun i hi => ?_) (fun i hi => ?_) (fun i hi => ?_) ?_ ?_ ?_ ?_ (fun i k hi hk hz => ?_) (fun i hi hz => ?_) (fun y1 y2 y3 => ?_) (fun v h => ?_) (fun I3 L3 R3 Q lm i3' go => ?_)
    · repeat (first | rw [va_up_no _ _ (by omega)] | rw [u2_ne _ _ _ (by omega)])
    · repeat (first | rw [va_up_no _ _ (by omega)] | rw [u2_ne _ _ _ (by omega)])
    · repeat (first | rw [va_up_no _ _ (by omega)] | rw [u2_ne _ _ _ (by omega)])
    · repeat (first | rw [va_up_no _ _ (by omega)] | rw [u2_ne _ _ _ (by omega)])
    · repeat (first | rw [va_up_no _ _ (by omega)] | rw [u2_ne _ _ _ (by omega)])
    · simp [va_up_rd]
    · simp [va_up_rd, u2_rd]
    · simp [va_up_rd]
    · simp [va_up_rd, u2_rd, n0]
    · rcases i3 hi with rfl | rfl | rfl <;> rcases i3 hk with rfl | rfl | rfl <;> first | (exact absurd hz (by omega)) | simp [va_up_rd, u2_rd]
    · rcases i3 hi with rfl | rfl | rfl <;> first | (exact absurd hz (by omega)) | simp [va_up_rd, u2_rd]
    · intro h0; exact absurd h0 (by decide)
    · simp [S63_0, S63_1, S63_2, S63_3, S63_4]
    · have w := fun i h1 h2 => congrFun (i3' i h1 h2)
      refine m_back0 (u := I q 2) lm hM12 hj (by rw [w 74 (by omega) (by omega)]; exact e2) (by first | exact Or.inl rfl | exact Or.inr rfl) (by rw [w 75 (by omega) (by omega)]; exact f3) (by rw [w 76 (by omega) (by omega)]; exact a7) (by rw [w 77 (by omega) (by omega)]; exact a8.symm) (by rw [w 78 (by omega) (by omega), md]; exact d0) (fun I4 ls g1 g2 g3 => ?_)
      have go2 := go I4 119 182 ls Q (fun v h => by simp [S119_0, S119_1, S119_2, S119_3, S119_4]) g1 (fun i k hi hk => ?_) (fun i hi => ?_)
      · simpa [va_up_rd, u2_rd] using go2
      · rw [g2 i k hi hk, w 79 (by omega) (by omega), w 80 (by omega) (by omega), w 81 (by omega) (by omega), (ma (3 * i + k) (by omega)).1, (mbb i (by omega)).1, (mcc k (by omega)).1]
        first | (exact absurd hi (by omega)) | (rcases i3 (show i < 3 by omega) with rfl | rfl | rfl <;> rcases i3 (show k < 3 by omega) with rfl | rfl | rfl <;> first | (exact absurd hi (by omega)) | (exact absurd hk (by omega)) | simp [va_up_rd, u2_rd])
      · rw [(g3 i hi).1, (g3 i hi).2, w 80 (by omega) (by omega), w 81 (by omega) (by omega), (mbb i (by omega)).1, (mcc i (by omega)).1]
        first | (exact absurd hi (by omega)) | (rcases i3 (show i < 3 by omega) with rfl | rfl | rfl <;> first | (exact absurd hi (by omega)) | simp [va_up_rd, u2_rd])
  · simp [S63_0, S63_1, S63_2, S63_3, S63_4, S91_0, S37_0, S51_0, S51_1, Call_in (k2 := 91), Call_in (k2 := 37), Call_in (k2 := 51), BS, ixs, inbs, le_nlt, hB, at_yesG hB' hM12 hj, e1, a1, hq0, f1, f2, d0, r3, r4, r5, r6, c1, c2, c3, c4, z1, z2, z3, z4, a6, n0, p1, p2, va_up_rd, u2_rd, qn1, qn2, qn0, inGs]
    refine join_fin (km := 119) (lm := [some (.ref 74), some (.int (nI j)), some (.int (-1)), none, none]) (n := m + 98) (sl := sl) (sl' := sl + 7 + 9 + 3 + 3 + 1) (s := 0) (u := I q 2) h7 hMl (by omega) (by rw [a8]; exact a9) (by omega) (fun i hi => ?_) (fun i hi => ?_) (fun i hi => ?_) (fun i hi => ?_) (fun i hi => ?_) ?_ ?_ ?_ ?_ (fun i k hi hk hz => ?_) (fun i hi hz => ?_) (fun y1 y2 y3 => ?_) (fun v h => ?_) (fun I3 L3 R3 Q lm i3' go => ?_)
    · repeat (first | rw [va_up_no _ _ (by omega)] | rw [u2_ne _ _ _ (by omega)])
    · repeat (first | rw [va_up_no _ _ (by omega)] | rw [u2_ne _ _ _ (by omega)])
    · repeat (first | rw [va_up_no _ _ (by omega)] | rw [u2_ne _ _ _ (by omega)])
    · repeat (first | rw [va_up_no _ _ (by omega)] | rw [u2_ne _ _ _ (by omega)])
    · repeat (first | rw [va_up_no _ _ (by omega)] | rw [u2_ne _ _ _ (by omega)])
    · simp [va_up_rd]
    · simp [va_up_rd, u2_rd]
    · simp [va_up_rd]
    · simp [va_up_rd, u2_rd, n0]
    · rcases i3 hi with rfl | rfl | rfl <;> rcases i3 hk with rfl | rfl | rfl <;> first | (exact absurd hz (by omega)) | simp [va_up_rd, u2_rd]
    · rcases i3 hi with rfl | rfl | rfl <;> first | (exact absurd hz (by omega)) | simp [va_up_rd, u2_rd]
    · intro h0; exact absurd h0 (by decide)
    · simp [S63_0, S63_1, S63_2, S63_3, S63_4]
    · have w := fun i h1 h2 => congrFun (i3' i h1 h2)
      refine m_back0 (u := I q 2) lm hM12 hj (by rw [w 74 (by omega) (by omega)]; exact e2) (by first | exact Or.inl rfl | exact Or.inr rfl) (by rw [w 75 (by omega) (by omega)]; exact f3) (by rw [w 76 (by omega) (by omega)]; exact a7) (by rw [w 77 (by omega) (by omega)]; exact a8.symm) (by rw [w 78 (by omega) (by omega), md]; exact d0) (fun I4 ls g1 g2 g3 => ?_)
      have go2 := go I4 119 182 ls Q (fun v h => by simp [S119_0, S119_1, S119_2, S119_3, S119_4]) g1 (fun i k hi hk => ?_) (fun i hi => ?_)
      · simpa [va_up_rd, u2_rd] using go2
      · rw [g2 i k hi hk, w 79 (by omega) (by omega), w 80 (by omega) (by omega), w 81 (by omega) (by omega), (ma (3 * i + k) (by omega)).1, (mbb i (by omega)).1, (mcc k (by omega)).1]
        first | (exact absurd hi (by omega)) | (rcases i3 (show i < 3 by omega) with rfl | rfl | rfl <;> rcases i3 (show k < 3 by omega) with rfl | rfl | rfl <;> first | (exact absurd hi (by omega)) | (exact absurd hk (by omega)) | simp [va_up_rd, u2_rd])
      · rw [(g3 i hi).1, (g3 i hi).2, w 80 (by omega) (by omega), w 81 (by omega) (by omega), (mbb i (by omega)).1, (mcc i (by omega)).1]
        first | (exact absurd hi (by omega)) | (rcases i3 (show i < 3 by omega) with rfl | rfl | rfl <;> first | (exact absurd hi (by omega)) | simp [va_up_rd, u2_rd])

set_option maxRecDepth 100000 in
set_option maxHeartbeats 8000000 in
theorem two_back1 {n sl : Nat} {C Z : Nat → Nat} {I : Nat → Nat → Int32} {L : Nat → Nat → Int64} {R : Nat → Nat → Nat} {M rn t j q : Nat} {sg : Int32} (h7 : Inv7 n C Z I L R M rn t) (hMl : M < 12) (hj : j < M) (hq : MOK n C Z I R j q 1) (kf : inG 7 (C q) = true ∧ isa (C q) 1 = false ∧ ¬ I 75 j = 1) (d0 : I (q + 4) 0 = 0) (hg : sg = 1 ∨ sg = -1) : Two 63 119 [some (.ref 1), some (.int (nI j)), some (.int sg), none, none, none, none, none] [some (.ref 74), some (.int (nI j)), some (.int sg), none, none] (n, sl, C, Z, I, L, R) := by
  obtain ⟨hM12, hn98, ⟨hB, hK, hO, hE, hM⟩, ⟨e1, e2⟩, hms, hss, hap, ⟨hrn, e3, e4, hrw⟩, ht, e5, e6, htr⟩ := id h7
  obtain ⟨a1, a2, a3, a4, ⟨a5, hs3, a6, a7⟩, ⟨a8, a9⟩, ⟨r3, r4, r5, r6⟩, ⟨c1, c2, c3, c4, z1, z2, z3, z4⟩, ma, mbb, mcc, ⟨md, mdb⟩, za, zb⟩ := id hq
  obtain ⟨f1, f2, f3⟩ := kf
  have hB' := hB
  unfold LayB at hB
  unfold Two
  have n0 : nI 1 = 1 := rfl
  obtain ⟨m, rfl⟩ : ∃ m, n = m + 98 := ⟨n - 98, by omega⟩
  have hq0 : ¬ q = 0 := by omega
  have p2 : ¬ (12 : Int32) ≤ nI M := nI_ge (b := 12) (by omega) (by omega)
  have p1 : nI M < 12 := nI_lt (b := 12) (by omega) (by omega)
  have qn : ∀ c d, c ≤ 4 → 1 ≤ d → ¬ q + c = m + 98 + d := fun c d h1 h2 => by omega
  have qn' : ∀ d, 1 ≤ d → ¬ q = m + 98 + d := fun d h2 => by omega
  have qn2 : ∀ c, 95 ≤ c → ¬ q = m + c := fun c h => by omega
  have qn1 : ∀ c, c ≤ 4 → ¬ q + c = m + 98 + 1 ∧ ¬ q + c = m + 98 + 1 + 1 ∧ ¬ q + c = m + 98 + 1 + 1 + 1 ∧ ¬ q + c = m + 98 + 1 + 1 + 1 + 1 ∧ ¬ q + c = m + 98 + 1 + 1 + 1 + 1 + 1 := fun c h1 => by omega
  have qn0 : ¬ q = m + 98 + 1 ∧ ¬ q = m + 98 + 1 + 1 ∧ ¬ q = m + 98 + 1 + 1 + 1 ∧ ¬ q = m + 98 + 1 + 1 + 1 + 1 ∧ ¬ q = m + 98 + 1 + 1 + 1 + 1 + 1 := by omega
  have mbl : mb (I 75 j) ≤ 12 := by unfold mb; split <;> omega
  have b12 : ∀ v, bnd (mb (I 75 j)) v → bnd 12 v := fun v hv => by unfold bnd at *; omega
  rcases hg with rfl | rfl
  · simp [S63_0, S63_1, S63_2, S63_3, S63_4, S91_0, S37_0, S51_0, S51_1, Call_in (k2 := 91), Call_in (k2 := 37), Call_in (k2 := 51), BS, ixs, inbs, le_nlt, hB, at_yesG hB' hM12 hj, e1, a1, hq0, f1, f2, d0, r3, r4, r5, r6, c1, c2, c3, c4, z1, z2, z3, z4, a6, n0, p1, p2, va_up_rd, u2_rd, qn1, qn2, qn0, inGs]
    refine join_fin (km := 119) (lm := [some (.ref 74), some (.int (nI j)), some (.int 1), none, none]) (n := m + 98) (sl := sl) (sl' := sl + 7 + 9 + 3 + 3 + 1) (s := 1) (u := I q 2) h7 hMl (by omega) (by rw [a8]; exact a9) (by omega) (fun i hi => ?_) (fun i hi => ?_) (fun i hi => ?_) (fun i hi => ?_) (fun i hi => ?_) ?_ ?_ ?_ ?_ (fun i k hi hk hz => ?_) (fun i hi hz => ?_) (fun y1 y2 y3 => ?_) (fun v h => ?_) (fun I3 L3 R3 Q lm i3' go => ?_)
    · repeat (first | rw [va_up_no _ _ (by omega)] | rw [u2_ne _ _ _ (by omega)])
    · repeat (first | rw [va_up_no _ _ (by omega)] | rw [u2_ne _ _ _ (by omega)])
    · repeat (first | rw [va_up_no _ _ (by omega)] | rw [u2_ne _ _ _ (by omega)])
    · repeat (first | rw [va_up_no _ _ (by omega)] | rw [u2_ne _ _ _ (by omega)])
    · repeat (first | rw [va_up_no _ _ (by omega)] | rw [u2_ne _ _ _ (by omega)])
    · simp [va_up_rd]
    · simp [va_up_rd, u2_rd]
    · simp [va_up_rd]
    · simp [va_up_rd, u2_rd, n0]
    · rcases i3 hi with rfl | rfl | rfl <;> rcases i3 hk with rfl | rfl | rfl <;> first | (exact absurd hz (by omega)) | simp [va_up_rd, u2_rd]
    · rcases i3 hi with rfl | rfl | rfl <;> first | (exact absurd hz (by omega)) | simp [va_up_rd, u2_rd]
    · intro h0; exact absurd h0 (by decide)
    · simp [S63_0, S63_1, S63_2, S63_3, S63_4]
    · have w := fun i h1 h2 => congrFun (i3' i h1 h2)
      refine m_back1 (u := I q 2) lm hM12 hj (by rw [w 74 (by omega) (by omega)]; exact e2) (by first | exact Or.inl rfl | exact Or.inr rfl) (by rw [w 75 (by omega) (by omega)]; exact f3) (by rw [w 76 (by omega) (by omega)]; exact a7) (by rw [w 77 (by omega) (by omega)]; exact a8.symm) (by rw [w 78 (by omega) (by omega), md]; exact d0) (fun I4 ls g1 g2 g3 => ?_)
      have go2 := go I4 119 182 ls Q (fun v h => by simp [S119_0, S119_1, S119_2, S119_3, S119_4]) g1 (fun i k hi hk => ?_) (fun i hi => ?_)
      · simpa [va_up_rd, u2_rd] using go2
      · rw [g2 i k hi hk, w 79 (by omega) (by omega), w 80 (by omega) (by omega), w 81 (by omega) (by omega), (ma (3 * i + k) (by omega)).1, (mbb i (by omega)).1, (mcc k (by omega)).1]
        first | (exact absurd hi (by omega)) | (rcases i3 (show i < 3 by omega) with rfl | rfl | rfl <;> rcases i3 (show k < 3 by omega) with rfl | rfl | rfl <;> first | (exact absurd hi (by omega)) | (exact absurd hk (by omega)) | simp [va_up_rd, u2_rd])
      · rw [(g3 i hi).1, (g3 i hi).2, w 80 (by omega) (by omega), w 81 (by omega) (by omega), (mbb i (by omega)).1, (mcc i (by omega)).1]
        first | (exact absurd hi (by omega)) | (rcases i3 (show i < 3 by omega) with rfl | rfl | rfl <;> first | (exact absurd hi (by omega)) | simp [va_up_rd, u2_rd])
  · simp [S63_0, S63_1, S63_2, S63_3, S63_4, S91_0, S37_0, S51_0, S51_1, Call_in (k2 := 91), Call_in (k2 := 37), Call_in (k2 := 51), BS, ixs, inbs, le_nlt, hB, at_yesG hB' hM12 hj, e1, a1, hq0, f1, f2, d0, r3, r4, r5, r6, c1, c2, c3, c4, z1, z2, z3, z4, a6, n0, p1, p2, va_up_rd, u2_rd, qn1, qn2, qn0, inGs]
    refine join_fin (km := 119) (lm := [some (.ref 74), some (.int (nI j)), some (.int (-1)), none, none]) (n := m + 98) (sl := sl) (sl' := sl + 7 + 9 + 3 + 3 + 1) (s := 1) (u := I q 2) h7 hMl (by omega) (by rw [a8]; exact a9) (by omega) (fun i hi => ?_) (fun i hi => ?_) (fun i hi => ?_) (fun i hi => ?_) (fun i hi => ?_) ?_ ?_ ?_ ?_ (fun i k hi hk hz => ?_) (fun i hi hz => ?_) (fun y1 y2 y3 => ?_) (fun v h => ?_) (fun I3 L3 R3 Q lm i3' go => ?_)
    · repeat (first | rw [va_up_no _ _ (by omega)] | rw [u2_ne _ _ _ (by omega)])
    · repeat (first | rw [va_up_no _ _ (by omega)] | rw [u2_ne _ _ _ (by omega)])
    · repeat (first | rw [va_up_no _ _ (by omega)] | rw [u2_ne _ _ _ (by omega)])
    · repeat (first | rw [va_up_no _ _ (by omega)] | rw [u2_ne _ _ _ (by omega)])
    · repeat (first | rw [va_up_no _ _ (by omega)] | rw [u2_ne _ _ _ (by omega)])
    · simp [va_up_rd]
    · simp [va_up_rd, u2_rd]
    · simp [va_up_rd]
    · simp [va_up_rd, u2_rd, n0]
    · rcases i3 hi with rfl | rfl | rfl <;> rcases i3 hk with rfl | rfl | rfl <;> first | (exact absurd hz (by omega)) | simp [va_up_rd, u2_rd]
    · rcases i3 hi with rfl | rfl | rfl <;> first | (exact absurd hz (by omega)) | simp [va_up_rd, u2_rd]
    · intro h0; exact absurd h0 (by decide)
    · simp [S63_0, S63_1, S63_2, S63_3, S63_4]
    · have w := fun i h1 h2 => congrFun (i3' i h1 h2)
      refine m_back1 (u := I q 2) lm hM12 hj (by rw [w 74 (by omega) (by omega)]; exact e2) (by first | exact Or.inl rfl | exact Or.inr rfl) (by rw [w 75 (by omega) (by omega)]; exact f3) (by rw [w 76 (by omega) (by omega)]; exact a7) (by rw [w 77 (by omega) (by omega)]; exact a8.symm) (by rw [w 78 (by omega) (by omega), md]; exact d0) (fun I4 ls g1 g2 g3 => ?_)
      have go2 := go I4 119 182 ls Q (fun v h => by simp [S119_0, S119_1, S119_2, S119_3, S119_4]) g1 (fun i k hi hk => ?_) (fun i hi => ?_)
      · simpa [va_up_rd, u2_rd] using go2
      · rw [g2 i k hi hk, w 79 (by omega) (by omega), w 80 (by omega) (by omega), w 81 (by omega) (by omega), (ma (3 * i + k) (by omega)).1, (mbb i (by omega)).1, (mcc k (by omega)).1]
        first | (exact absurd hi (by omega)) | (rcases i3 (show i < 3 by omega) with rfl | rfl | rfl <;> rcases i3 (show k < 3 by omega) with rfl | rfl | rfl <;> first | (exact absurd hi (by omega)) | (exact absurd hk (by omega)) | simp [va_up_rd, u2_rd])
      · rw [(g3 i hi).1, (g3 i hi).2, w 80 (by omega) (by omega), w 81 (by omega) (by omega), (mbb i (by omega)).1, (mcc i (by omega)).1]
        first | (exact absurd hi (by omega)) | (rcases i3 (show i < 3 by omega) with rfl | rfl | rfl <;> first | (exact absurd hi (by omega)) | simp [va_up_rd, u2_rd])

set_option maxRecDepth 100000 in
set_option maxHeartbeats 8000000 in
theorem two_back2 {n sl : Nat} {C Z : Nat → Nat} {I : Nat → Nat → Int32} {L : Nat → Nat → Int64} {R : Nat → Nat → Nat} {M rn t j q : Nat} {sg : Int32} (h7 : Inv7 n C Z I L R M rn t) (hMl : M < 12) (hj : j < M) (hq : MOK n C Z I R j q 2) (kf : inG 7 (C q) = true ∧ isa (C q) 1 = false ∧ ¬ I 75 j = 1) (d0 : I (q + 4) 0 = 0) (hg : sg = 1 ∨ sg = -1) : Two 63 119 [some (.ref 1), some (.int (nI j)), some (.int sg), none, none, none, none, none] [some (.ref 74), some (.int (nI j)), some (.int sg), none, none] (n, sl, C, Z, I, L, R) := by
  obtain ⟨hM12, hn98, ⟨hB, hK, hO, hE, hM⟩, ⟨e1, e2⟩, hms, hss, hap, ⟨hrn, e3, e4, hrw⟩, ht, e5, e6, htr⟩ := id h7
  obtain ⟨a1, a2, a3, a4, ⟨a5, hs3, a6, a7⟩, ⟨a8, a9⟩, ⟨r3, r4, r5, r6⟩, ⟨c1, c2, c3, c4, z1, z2, z3, z4⟩, ma, mbb, mcc, ⟨md, mdb⟩, za, zb⟩ := id hq
  obtain ⟨f1, f2, f3⟩ := kf
  have hB' := hB
  unfold LayB at hB
  unfold Two
  have n0 : nI 2 = 2 := rfl
  obtain ⟨m, rfl⟩ : ∃ m, n = m + 98 := ⟨n - 98, by omega⟩
  have hq0 : ¬ q = 0 := by omega
  have p2 : ¬ (12 : Int32) ≤ nI M := nI_ge (b := 12) (by omega) (by omega)
  have p1 : nI M < 12 := nI_lt (b := 12) (by omega) (by omega)
  have qn : ∀ c d, c ≤ 4 → 1 ≤ d → ¬ q + c = m + 98 + d := fun c d h1 h2 => by omega
  have qn' : ∀ d, 1 ≤ d → ¬ q = m + 98 + d := fun d h2 => by omega
  have qn2 : ∀ c, 95 ≤ c → ¬ q = m + c := fun c h => by omega
  have qn1 : ∀ c, c ≤ 4 → ¬ q + c = m + 98 + 1 ∧ ¬ q + c = m + 98 + 1 + 1 ∧ ¬ q + c = m + 98 + 1 + 1 + 1 ∧ ¬ q + c = m + 98 + 1 + 1 + 1 + 1 ∧ ¬ q + c = m + 98 + 1 + 1 + 1 + 1 + 1 := fun c h1 => by omega
  have qn0 : ¬ q = m + 98 + 1 ∧ ¬ q = m + 98 + 1 + 1 ∧ ¬ q = m + 98 + 1 + 1 + 1 ∧ ¬ q = m + 98 + 1 + 1 + 1 + 1 ∧ ¬ q = m + 98 + 1 + 1 + 1 + 1 + 1 := by omega
  have mbl : mb (I 75 j) ≤ 12 := by unfold mb; split <;> omega
  have b12 : ∀ v, bnd (mb (I 75 j)) v → bnd 12 v := fun v hv => by unfold bnd at *; omega
  rcases hg with rfl | rfl
  · simp [S63_0, S63_1, S63_2, S63_3, S63_4, S91_0, S37_0, S51_0, S51_1, Call_in (k2 := 91), Call_in (k2 := 37), Call_in (k2 := 51), BS, ixs, inbs, le_nlt, hB, at_yesG hB' hM12 hj, e1, a1, hq0, f1, f2, d0, r3, r4, r5, r6, c1, c2, c3, c4, z1, z2, z3, z4, a6, n0, p1, p2, va_up_rd, u2_rd, qn1, qn2, qn0, inGs]
    refine join_fin (km := 119) (lm := [some (.ref 74), some (.int (nI j)), some (.int 1), none, none]) (n := m + 98) (sl := sl) (sl' := sl + 7 + 9 + 3 + 3 + 1) (s := 2) (u := I q 2) h7 hMl (by omega) (by rw [a8]; exact a9) (by omega) (fun i hi => ?_) (fun i hi => ?_) (fun i hi => ?_) (fun i hi => ?_) (fun i hi => ?_) ?_ ?_ ?_ ?_ (fun i k hi hk hz => ?_) (fun i hi hz => ?_) (fun y1 y2 y3 => ?_) (fun v h => ?_) (fun I3 L3 R3 Q lm i3' go => ?_)
    · repeat (first | rw [va_up_no _ _ (by omega)] | rw [u2_ne _ _ _ (by omega)])
    · repeat (first | rw [va_up_no _ _ (by omega)] | rw [u2_ne _ _ _ (by omega)])
    · repeat (first | rw [va_up_no _ _ (by omega)] | rw [u2_ne _ _ _ (by omega)])
    · repeat (first | rw [va_up_no _ _ (by omega)] | rw [u2_ne _ _ _ (by omega)])
    · repeat (first | rw [va_up_no _ _ (by omega)] | rw [u2_ne _ _ _ (by omega)])
    · simp [va_up_rd]
    · simp [va_up_rd, u2_rd]
    · simp [va_up_rd]
    · simp [va_up_rd, u2_rd, n0]
    · rcases i3 hi with rfl | rfl | rfl <;> rcases i3 hk with rfl | rfl | rfl <;> first | (exact absurd hz (by omega)) | simp [va_up_rd, u2_rd]
    · rcases i3 hi with rfl | rfl | rfl <;> first | (exact absurd hz (by omega)) | simp [va_up_rd, u2_rd]
    · intro h0; exact absurd h0 (by decide)
    · simp [S63_0, S63_1, S63_2, S63_3, S63_4]
    · have w := fun i h1 h2 => congrFun (i3' i h1 h2)
      refine m_back2 (u := I q 2) lm hM12 hj (by rw [w 74 (by omega) (by omega)]; exact e2) (by first | exact Or.inl rfl | exact Or.inr rfl) (by rw [w 75 (by omega) (by omega)]; exact f3) (by rw [w 76 (by omega) (by omega)]; exact a7) (by rw [w 77 (by omega) (by omega)]; exact a8.symm) (by rw [w 78 (by omega) (by omega), md]; exact d0) (fun I4 ls g1 g2 g3 => ?_)
      have go2 := go I4 119 182 ls Q (fun v h => by simp [S119_0, S119_1, S119_2, S119_3, S119_4]) g1 (fun i k hi hk => ?_) (fun i hi => ?_)
      · simpa [va_up_rd, u2_rd] using go2
      · rw [g2 i k hi hk, w 79 (by omega) (by omega), w 80 (by omega) (by omega), w 81 (by omega) (by omega), (ma (3 * i + k) (by omega)).1, (mbb i (by omega)).1, (mcc k (by omega)).1]
        first | (exact absurd hi (by omega)) | (rcases i3 (show i < 3 by omega) with rfl | rfl | rfl <;> rcases i3 (show k < 3 by omega) with rfl | rfl | rfl <;> first | (exact absurd hi (by omega)) | (exact absurd hk (by omega)) | simp [va_up_rd, u2_rd])
      · rw [(g3 i hi).1, (g3 i hi).2, w 80 (by omega) (by omega), w 81 (by omega) (by omega), (mbb i (by omega)).1, (mcc i (by omega)).1]
        first | (exact absurd hi (by omega)) | (rcases i3 (show i < 3 by omega) with rfl | rfl | rfl <;> first | (exact absurd hi (by omega)) | simp [va_up_rd, u2_rd])
  · simp [S63_0, S63_1, S63_2, S63_3, S63_4, S91_0, S37_0, S51_0, S51_1, Call_in (k2 := 91), Call_in (k2 := 37), Call_in (k2 := 51), BS, ixs, inbs, le_nlt, hB, at_yesG hB' hM12 hj, e1, a1, hq0, f1, f2, d0, r3, r4, r5, r6, c1, c2, c3, c4, z1, z2, z3, z4, a6, n0, p1, p2, va_up_rd, u2_rd, qn1, qn2, qn0, inGs]
    refine join_fin (km := 119) (lm := [some (.ref 74), some (.int (nI j)), some (.int (-1)), none, none]) (n := m + 98) (sl := sl) (sl' := sl + 7 + 9 + 3 + 3 + 1) (s := 2) (u := I q 2) h7 hMl (by omega) (by rw [a8]; exact a9) (by omega) (fun i hi => ?_) (fun i hi => ?_) (fun i hi => ?_) (fun i hi => ?_) (fun i hi => ?_) ?_ ?_ ?_ ?_ (fun i k hi hk hz => ?_) (fun i hi hz => ?_) (fun y1 y2 y3 => ?_) (fun v h => ?_) (fun I3 L3 R3 Q lm i3' go => ?_)
    · repeat (first | rw [va_up_no _ _ (by omega)] | rw [u2_ne _ _ _ (by omega)])
    · repeat (first | rw [va_up_no _ _ (by omega)] | rw [u2_ne _ _ _ (by omega)])
    · repeat (first | rw [va_up_no _ _ (by omega)] | rw [u2_ne _ _ _ (by omega)])
    · repeat (first | rw [va_up_no _ _ (by omega)] | rw [u2_ne _ _ _ (by omega)])
    · repeat (first | rw [va_up_no _ _ (by omega)] | rw [u2_ne _ _ _ (by omega)])
    · simp [va_up_rd]
    · simp [va_up_rd, u2_rd]
    · simp [va_up_rd]
    · simp [va_up_rd, u2_rd, n0]
    · rcases i3 hi with rfl | rfl | rfl <;> rcases i3 hk with rfl | rfl | rfl <;> first | (exact absurd hz (by omega)) | simp [va_up_rd, u2_rd]
    · rcases i3 hi with rfl | rfl | rfl <;> first | (exact absurd hz (by omega)) | simp [va_up_rd, u2_rd]
    · intro h0; exact absurd h0 (by decide)
    · simp [S63_0, S63_1, S63_2, S63_3, S63_4]
    · have w := fun i h1 h2 => congrFun (i3' i h1 h2)
      refine m_back2 (u := I q 2) lm hM12 hj (by rw [w 74 (by omega) (by omega)]; exact e2) (by first | exact Or.inl rfl | exact Or.inr rfl) (by rw [w 75 (by omega) (by omega)]; exact f3) (by rw [w 76 (by omega) (by omega)]; exact a7) (by rw [w 77 (by omega) (by omega)]; exact a8.symm) (by rw [w 78 (by omega) (by omega), md]; exact d0) (fun I4 ls g1 g2 g3 => ?_)
      have go2 := go I4 119 182 ls Q (fun v h => by simp [S119_0, S119_1, S119_2, S119_3, S119_4]) g1 (fun i k hi hk => ?_) (fun i hi => ?_)
      · simpa [va_up_rd, u2_rd] using go2
      · rw [g2 i k hi hk, w 79 (by omega) (by omega), w 80 (by omega) (by omega), w 81 (by omega) (by omega), (ma (3 * i + k) (by omega)).1, (mbb i (by omega)).1, (mcc k (by omega)).1]
        first | (exact absurd hi (by omega)) | (rcases i3 (show i < 3 by omega) with rfl | rfl | rfl <;> rcases i3 (show k < 3 by omega) with rfl | rfl | rfl <;> first | (exact absurd hi (by omega)) | (exact absurd hk (by omega)) | simp [va_up_rd, u2_rd])
      · rw [(g3 i hi).1, (g3 i hi).2, w 80 (by omega) (by omega), w 81 (by omega) (by omega), (mbb i (by omega)).1, (mcc i (by omega)).1]
        first | (exact absurd hi (by omega)) | (rcases i3 (show i < 3 by omega) with rfl | rfl | rfl <;> first | (exact absurd hi (by omega)) | simp [va_up_rd, u2_rd])

set_option maxRecDepth 100000 in
set_option maxHeartbeats 8000000 in
theorem two_back3 {n sl : Nat} {C Z : Nat → Nat} {I : Nat → Nat → Int32} {L : Nat → Nat → Int64} {R : Nat → Nat → Nat} {M rn t j q : Nat} {sg : Int32} (h7 : Inv7 n C Z I L R M rn t) (hMl : M < 12) (hj : j < M) (hq : MOK n C Z I R j q 3) (kf : inG 7 (C q) = true ∧ isa (C q) 1 = false ∧ ¬ I 75 j = 1) (d0 : I (q + 4) 0 = 0) (hg : sg = 1 ∨ sg = -1) : Two 63 119 [some (.ref 1), some (.int (nI j)), some (.int sg), none, none, none, none, none] [some (.ref 74), some (.int (nI j)), some (.int sg), none, none] (n, sl, C, Z, I, L, R) := by
  obtain ⟨hM12, hn98, ⟨hB, hK, hO, hE, hM⟩, ⟨e1, e2⟩, hms, hss, hap, ⟨hrn, e3, e4, hrw⟩, ht, e5, e6, htr⟩ := id h7
  obtain ⟨a1, a2, a3, a4, ⟨a5, hs3, a6, a7⟩, ⟨a8, a9⟩, ⟨r3, r4, r5, r6⟩, ⟨c1, c2, c3, c4, z1, z2, z3, z4⟩, ma, mbb, mcc, ⟨md, mdb⟩, za, zb⟩ := id hq
  obtain ⟨f1, f2, f3⟩ := kf
  have hB' := hB
  unfold LayB at hB
  unfold Two
  have n0 : nI 3 = 3 := rfl
  obtain ⟨m, rfl⟩ : ∃ m, n = m + 98 := ⟨n - 98, by omega⟩
  have hq0 : ¬ q = 0 := by omega
  have p2 : ¬ (12 : Int32) ≤ nI M := nI_ge (b := 12) (by omega) (by omega)
  have p1 : nI M < 12 := nI_lt (b := 12) (by omega) (by omega)
  have qn : ∀ c d, c ≤ 4 → 1 ≤ d → ¬ q + c = m + 98 + d := fun c d h1 h2 => by omega
  have qn' : ∀ d, 1 ≤ d → ¬ q = m + 98 + d := fun d h2 => by omega
  have qn2 : ∀ c, 95 ≤ c → ¬ q = m + c := fun c h => by omega
  have qn1 : ∀ c, c ≤ 4 → ¬ q + c = m + 98 + 1 ∧ ¬ q + c = m + 98 + 1 + 1 ∧ ¬ q + c = m + 98 + 1 + 1 + 1 ∧ ¬ q + c = m + 98 + 1 + 1 + 1 + 1 ∧ ¬ q + c = m + 98 + 1 + 1 + 1 + 1 + 1 := fun c h1 => by omega
  have qn0 : ¬ q = m + 98 + 1 ∧ ¬ q = m + 98 + 1 + 1 ∧ ¬ q = m + 98 + 1 + 1 + 1 ∧ ¬ q = m + 98 + 1 + 1 + 1 + 1 ∧ ¬ q = m + 98 + 1 + 1 + 1 + 1 + 1 := by omega
  have mbl : mb (I 75 j) ≤ 12 := by unfold mb; split <;> omega
  have b12 : ∀ v, bnd (mb (I 75 j)) v → bnd 12 v := fun v hv => by unfold bnd at *; omega
  rcases hg with rfl | rfl
  · simp [S63_0, S63_1, S63_2, S63_3, S63_4, S91_0, S37_0, S51_0, S51_1, Call_in (k2 := 91), Call_in (k2 := 37), Call_in (k2 := 51), BS, ixs, inbs, le_nlt, hB, at_yesG hB' hM12 hj, e1, a1, hq0, f1, f2, d0, r3, r4, r5, r6, c1, c2, c3, c4, z1, z2, z3, z4, a6, n0, p1, p2, va_up_rd, u2_rd, qn1, qn2, qn0, inGs]
    refine join_fin (km := 119) (lm := [some (.ref 74), some (.int (nI j)), some (.int 1), none, none]) (n := m + 98) (sl := sl) (sl' := sl + 7 + 9 + 3 + 3 + 1) (s := 3) (u := I q 2) h7 hMl (by omega) (by rw [a8]; exact a9) (by omega) (fun i hi => ?_) (fun i hi => ?_) (fun i hi => ?_) (fun i hi => ?_) (fun i hi => ?_) ?_ ?_ ?_ ?_ (fun i k hi hk hz => ?_) (fun i hi hz => ?_) (fun y1 y2 y3 => ?_) (fun v h => ?_) (fun I3 L3 R3 Q lm i3' go => ?_)
    · repeat (first | rw [va_up_no _ _ (by omega)] | rw [u2_ne _ _ _ (by omega)])
    · repeat (first | rw [va_up_no _ _ (by omega)] | rw [u2_ne _ _ _ (by omega)])
    · repeat (first | rw [va_up_no _ _ (by omega)] | rw [u2_ne _ _ _ (by omega)])
    · repeat (first | rw [va_up_no _ _ (by omega)] | rw [u2_ne _ _ _ (by omega)])
    · repeat (first | rw [va_up_no _ _ (by omega)] | rw [u2_ne _ _ _ (by omega)])
    · simp [va_up_rd]
    · simp [va_up_rd, u2_rd]
    · simp [va_up_rd]
    · simp [va_up_rd, u2_rd, n0]
    · rcases i3 hi with rfl | rfl | rfl <;> rcases i3 hk with rfl | rfl | rfl <;> first | (exact absurd hz (by omega)) | simp [va_up_rd, u2_rd]
    · rcases i3 hi with rfl | rfl | rfl <;> first | (exact absurd hz (by omega)) | simp [va_up_rd, u2_rd]
    · first | (refine FB_back (A := I (q + 1)) (B := _) (K := _) (u := I q 2) (sg := 1) (by rw [a8]; exact a9) (by decide) (fun i hi => b12 _ (ma i hi).2) (fun i hi => fit_bnd (y2 i hi)) (fun i hi => fit_bnd (y3 i hi)) (fun i k hi hk => ?_) y1; rcases i3 hi with rfl | rfl | rfl <;> rcases i3 hk with rfl | rfl | rfl <;> simp [va_up_rd, u2_rd]; done) | (refine FB_back (A := I (q + 1)) (B := _) (K := _) (u := I q 2) (sg := -1) (by rw [a8]; exact a9) (by decide) (fun i hi => b12 _ (ma i hi).2) (fun i hi => fit_bnd (y2 i hi)) (fun i hi => fit_bnd (y3 i hi)) (fun i k hi hk => ?_) y1; rcases i3 hi with rfl | rfl | rfl <;> rcases i3 hk with rfl | rfl | rfl <;> simp [va_up_rd, u2_rd]; done)
    · simp [S63_0, S63_1, S63_2, S63_3, S63_4]
    · have w := fun i h1 h2 => congrFun (i3' i h1 h2)
      refine m_back3 (u := I q 2) lm hM12 hj (by rw [w 74 (by omega) (by omega)]; exact e2) (by first | exact Or.inl rfl | exact Or.inr rfl) (by rw [w 75 (by omega) (by omega)]; exact f3) (by rw [w 76 (by omega) (by omega)]; exact a7) (by rw [w 77 (by omega) (by omega)]; exact a8.symm) (by rw [w 78 (by omega) (by omega), md]; exact d0) (fun I4 ls g1 g2 g3 => ?_)
      have go2 := go I4 119 182 ls Q (fun v h => by simp [S119_0, S119_1, S119_2, S119_3, S119_4]) g1 (fun i k hi hk => ?_) (fun i hi => ?_)
      · simpa [va_up_rd, u2_rd] using go2
      · rw [g2 i k hi hk, w 79 (by omega) (by omega), w 80 (by omega) (by omega), w 81 (by omega) (by omega), (ma (3 * i + k) (by omega)).1, (mbb i (by omega)).1, (mcc k (by omega)).1]
        first | (exact absurd hi (by omega)) | (rcases i3 (show i < 3 by omega) with rfl | rfl | rfl <;> rcases i3 (show k < 3 by omega) with rfl | rfl | rfl <;> first | (exact absurd hi (by omega)) | (exact absurd hk (by omega)) | simp [va_up_rd, u2_rd])
      · rw [(g3 i hi).1, (g3 i hi).2, w 80 (by omega) (by omega), w 81 (by omega) (by omega), (mbb i (by omega)).1, (mcc i (by omega)).1]
        first | (exact absurd hi (by omega)) | (rcases i3 (show i < 3 by omega) with rfl | rfl | rfl <;> first | (exact absurd hi (by omega)) | simp [va_up_rd, u2_rd])
  · simp [S63_0, S63_1, S63_2, S63_3, S63_4, S91_0, S37_0, S51_0, S51_1, Call_in (k2 := 91), Call_in (k2 := 37), Call_in (k2 := 51), BS, ixs, inbs, le_nlt, hB, at_yesG hB' hM12 hj, e1, a1, hq0, f1, f2, d0, r3, r4, r5, r6, c1, c2, c3, c4, z1, z2, z3, z4, a6, n0, p1, p2, va_up_rd, u2_rd, qn1, qn2, qn0, inGs]
    refine join_fin (km := 119) (lm := [some (.ref 74), some (.int (nI j)), some (.int (-1)), none, none]) (n := m + 98) (sl := sl) (sl' := sl + 7 + 9 + 3 + 3 + 1) (s := 3) (u := I q 2) h7 hMl (by omega) (by rw [a8]; exact a9) (by omega) (fun i hi => ?_) (fun i hi => ?_) (fun i hi => ?_) (fun i hi => ?_) (fun i hi => ?_) ?_ ?_ ?_ ?_ (fun i k hi hk hz => ?_) (fun i hi hz => ?_) (fun y1 y2 y3 => ?_) (fun v h => ?_) (fun I3 L3 R3 Q lm i3' go => ?_)
    · repeat (first | rw [va_up_no _ _ (by omega)] | rw [u2_ne _ _ _ (by omega)])
    · repeat (first | rw [va_up_no _ _ (by omega)] | rw [u2_ne _ _ _ (by omega)])
    · repeat (first | rw [va_up_no _ _ (by omega)] | rw [u2_ne _ _ _ (by omega)])
    · repeat (first | rw [va_up_no _ _ (by omega)] | rw [u2_ne _ _ _ (by omega)])
    · repeat (first | rw [va_up_no _ _ (by omega)] | rw [u2_ne _ _ _ (by omega)])
    · simp [va_up_rd]
    · simp [va_up_rd, u2_rd]
    · simp [va_up_rd]
    · simp [va_up_rd, u2_rd, n0]
    · rcases i3 hi with rfl | rfl | rfl <;> rcases i3 hk with rfl | rfl | rfl <;> first | (exact absurd hz (by omega)) | simp [va_up_rd, u2_rd]
    · rcases i3 hi with rfl | rfl | rfl <;> first | (exact absurd hz (by omega)) | simp [va_up_rd, u2_rd]
    · first | (refine FB_back (A := I (q + 1)) (B := _) (K := _) (u := I q 2) (sg := 1) (by rw [a8]; exact a9) (by decide) (fun i hi => b12 _ (ma i hi).2) (fun i hi => fit_bnd (y2 i hi)) (fun i hi => fit_bnd (y3 i hi)) (fun i k hi hk => ?_) y1; rcases i3 hi with rfl | rfl | rfl <;> rcases i3 hk with rfl | rfl | rfl <;> simp [va_up_rd, u2_rd]; done) | (refine FB_back (A := I (q + 1)) (B := _) (K := _) (u := I q 2) (sg := -1) (by rw [a8]; exact a9) (by decide) (fun i hi => b12 _ (ma i hi).2) (fun i hi => fit_bnd (y2 i hi)) (fun i hi => fit_bnd (y3 i hi)) (fun i k hi hk => ?_) y1; rcases i3 hi with rfl | rfl | rfl <;> rcases i3 hk with rfl | rfl | rfl <;> simp [va_up_rd, u2_rd]; done)
    · simp [S63_0, S63_1, S63_2, S63_3, S63_4]
    · have w := fun i h1 h2 => congrFun (i3' i h1 h2)
      refine m_back3 (u := I q 2) lm hM12 hj (by rw [w 74 (by omega) (by omega)]; exact e2) (by first | exact Or.inl rfl | exact Or.inr rfl) (by rw [w 75 (by omega) (by omega)]; exact f3) (by rw [w 76 (by omega) (by omega)]; exact a7) (by rw [w 77 (by omega) (by omega)]; exact a8.symm) (by rw [w 78 (by omega) (by omega), md]; exact d0) (fun I4 ls g1 g2 g3 => ?_)
      have go2 := go I4 119 182 ls Q (fun v h => by simp [S119_0, S119_1, S119_2, S119_3, S119_4]) g1 (fun i k hi hk => ?_) (fun i hi => ?_)
      · simpa [va_up_rd, u2_rd] using go2
      · rw [g2 i k hi hk, w 79 (by omega) (by omega), w 80 (by omega) (by omega), w 81 (by omega) (by omega), (ma (3 * i + k) (by omega)).1, (mbb i (by omega)).1, (mcc k (by omega)).1]
        first | (exact absurd hi (by omega)) | (rcases i3 (show i < 3 by omega) with rfl | rfl | rfl <;> rcases i3 (show k < 3 by omega) with rfl | rfl | rfl <;> first | (exact absurd hi (by omega)) | (exact absurd hk (by omega)) | simp [va_up_rd, u2_rd])
      · rw [(g3 i hi).1, (g3 i hi).2, w 80 (by omega) (by omega), w 81 (by omega) (by omega), (mbb i (by omega)).1, (mcc i (by omega)).1]
        first | (exact absurd hi (by omega)) | (rcases i3 (show i < 3 by omega) with rfl | rfl | rfl <;> first | (exact absurd hi (by omega)) | simp [va_up_rd, u2_rd])

set_option maxRecDepth 100000 in
set_option maxHeartbeats 2000000 in
/-- back(machine, sign) -/
theorem two_back (h : Hp) (hI : Inv h) (x sg : Int32) : Two 63 119 [some (.ref 1), some (.int x), some (.int sg), none, none, none, none, none] [some (.ref 74), some (.int x), some (.int sg), none, none] h := by
  obtain ⟨n, sl, C, Z, I, L, R⟩ := h
  obtain ⟨M, rn, t, h7⟩ := id hI
  obtain ⟨hM12, hn98, ⟨hB, hK, hO, hE, hM⟩, ⟨e1, e2⟩, hms, hss, hap, ⟨hrn, e3, e4, hrw⟩, ht, e5, e6, htr⟩ := id h7
  dsimp only at hM12 hn98 hB hK hO hE hM e1 e2 hms hss hap hrn e3 e4 hrw ht e5 e6 htr h7
  have hB' := hB
  have hM' := hM
  unfold LayB at hB
  unfold LayM at hM
  unfold Two
  rcases pk_ix x (n := M) (by omega) with hx | hx | ⟨j, hj, rfl⟩
  · have hm : x < 0 ∨ nI M ≤ x := Or.inl hx
    simp [S63_0, S63_1, S63_2, S63_3, S63_4, S91_0, S119_0, S119_1, S119_2, S119_3, S119_4, at_no (n := n) (sl := sl) (L := L) hB' e1 hM12 hm, is_no (n := n) (sl := sl) (L := L) hM' e2 hm, Call_in, BS, ixs, inbs, le_nlt, hB, hM, hI]
  · have hm : x < 0 ∨ nI M ≤ x := Or.inr hx
    simp [S63_0, S63_1, S63_2, S63_3, S63_4, S91_0, S119_0, S119_1, S119_2, S119_3, S119_4, at_no (n := n) (sl := sl) (L := L) hB' e1 hM12 hm, is_no (n := n) (sl := sl) (L := L) hM' e2 hm, Call_in, BS, ixs, inbs, le_nlt, hB, hM, hI]
  · obtain ⟨q, s, hq⟩ := hms j hj
    obtain ⟨a1, a2, a3, a4, ⟨a5, hs3, a6, a7⟩, ⟨a8, a9⟩, ⟨r3, r4, r5, r6⟩, ⟨c1, c2, c3, c4, z1, z2, z3, z4⟩, ma, mbb, mcc, ⟨md, mdb⟩, za, zb⟩ := id hq
    have j0 : inb (nI j) 12 = true := by rw [inb_nI (by omega)]; simp; omega
    have jx := ix_nI (show j < 2 ^ 31 by omega)
    have hq0 : ¬ q = 0 := by omega
    by_cases g1 : ¬ (sg = 1 ∨ sg = -1)
    · have g2 : ¬ sg = 1 := fun e => g1 (Or.inl e)
      have g3 : ¬ sg = -1 := fun e => g1 (Or.inr e)
      simp [S63_0, S63_1, S63_2, S63_3, S63_4, S91_0, S119_0, S119_1, S119_2, S119_3, S119_4, at_yes (n := n) (sl := sl) (L := L) hB' e1 hM12 hj, is_yes (n := n) (sl := sl) (L := L) hM' e2 hM12 hj, Call_in, BS, ixs, inbs, le_nlt, hB, hM, hI, a1, hq0, g2, g3]
    replace g1 := Classical.not_not.mp g1
    rcases nflow a4 with ⟨b1, b2⟩ | ⟨k1, k2, k3⟩
    · rcases g1 with rfl | rfl <;> simp [S63_0, S63_1, S63_2, S63_3, S63_4, S91_0, S119_0, S119_1, S119_2, S119_3, S119_4, at_yes (n := n) (sl := sl) (L := L) hB' e1 hM12 hj, is_yes (n := n) (sl := sl) (L := L) hM' e2 hM12 hj, Call_in, BS, ixs, inbs, le_nlt, hB, hM, hI, a1, b1, b2, a6, a7, j0, jx, hq0, inGs, isas, r3, r4, r5, r6, c1, c2, c3, c4, z1, z2, z3, z4]
    by_cases d0 : ¬ I (q + 4) 0 = 0
    · rcases g1 with rfl | rfl <;> simp [S63_0, S63_1, S63_2, S63_3, S63_4, S91_0, S119_0, S119_1, S119_2, S119_3, S119_4, at_yes (n := n) (sl := sl) (L := L) hB' e1 hM12 hj, is_yes (n := n) (sl := sl) (L := L) hM' e2 hM12 hj, Call_in, BS, ixs, inbs, le_nlt, hB, hM, hI, a1, k1, k2, k3, a6, a7, j0, jx, hq0, r6, c4, z4, d0, md]
    replace d0 := Classical.not_not.mp d0
    by_cases hf : M = 12
    · have e12 : nI 12 = 12 := rfl
      have fin : ∀ I4 ls, (∀ i, i ≠ 82 → i ≠ 83 → i ≠ 84 → I4 i = I i) → Call 115 [some (.ref 74), some (.int 2), some (.int (nI s)), some (.int (I q 2)), some (.int 0), none, none, none, none] (n, sl, C, Z, I4, L, R) 119 182 ls [] (fun r2 h2 => r2 = some (.int (-4)) ∧ Inv h2 ∧ h2.1 ≤ n + 5 ∧ h2.2.1 ≤ sl + 42) := fun I4 ls f1 => by
        refine m_keeps hM' hs3 hM12 (by rw [f1 74 (by omega) (by omega) (by omega)]; exact e2) 2 (I q 2) 0 (fun q1 => absurd q1 (by omega)) (fun _ => ?_)
        have ret : ∀ (v : Int32) (h : Hp) (Q : Option Value → Hp → Prop), Wp 119 182 ls [.int v] h Q ↔ Q (some (.int v)) h := fun v h Q => by simp [S119_0, S119_1, S119_2, S119_3, S119_4]
        rw [ret]
        exact ⟨rfl, Inv_mk (h7.scr (fun _ _ => rfl) (fun i hi => f1 i (by omega) (by omega) (by omega)) (by rw [f1 74 (by omega) (by omega) (by omega)]; exact ⟨rfl, rfl, rfl⟩) (fun _ _ _ _ => rfl)), Nat.le_add_right _ _, Nat.le_add_right _ _⟩
      have run : Wp 119 0 [some (.ref 74), some (.int (nI j)), some (.int sg), none, none] [] (n, sl, C, Z, I, L, R) (fun r2 h2 => r2 = some (.int (-4)) ∧ Inv h2 ∧ h2.1 ≤ n + 5 ∧ h2.2.1 ≤ sl + 42) := by
        rcases (by omega : s = 0 ∨ s = 1 ∨ s = 2 ∨ s = 3) with e | e | e | e <;> subst e
        · exact m_back0 hM' hM12 hj e2 g1 k3 a7 a8.symm (md.trans d0) (fun I4 ls f1 _ _ => fin I4 ls f1)
        · exact m_back1 hM' hM12 hj e2 g1 k3 a7 a8.symm (md.trans d0) (fun I4 ls f1 _ _ => fin I4 ls f1)
        · exact m_back2 hM' hM12 hj e2 g1 k3 a7 a8.symm (md.trans d0) (fun I4 ls f1 _ _ => fin I4 ls f1)
        · exact m_back3 hM' hM12 hj e2 g1 k3 a7 a8.symm (md.trans d0) (fun I4 ls f1 _ _ => fin I4 ls f1)
      subst hf
      rw [e12] at e1
      rcases g1 with rfl | rfl <;> (simp [S63_0, S63_1, S63_2, S63_3, S63_4, S91_0, at_yesG (M := 12) hB' (by omega) hj, Call_in, BS, ixs, inbs, le_nlt, hB, e1, e12, a1, k1, k2, hq0, r6, c4, z4, d0]; exact run)
    rcases (by omega : s = 0 ∨ s = 1 ∨ s = 2 ∨ s = 3) with e | e | e | e <;> subst e
    · exact two_back0 h7 (by omega) hj hq ⟨k1, k2, k3⟩ d0 g1
    · exact two_back1 h7 (by omega) hj hq ⟨k1, k2, k3⟩ d0 g1
    · exact two_back2 h7 (by omega) hj hq ⟨k1, k2, k3⟩ d0 g1
    · exact two_back3 h7 (by omega) hj hq ⟨k1, k2, k3⟩ d0 g1

