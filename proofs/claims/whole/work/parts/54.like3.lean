set_option maxRecDepth 100000 in
set_option maxHeartbeats 8000000 in
theorem like_fin {n sl : Nat} {C Z : Nat → Nat} {I : Nat → Nat → Int32} {L : Nat → Nat → Int64} {R : Nat → Nat → Nat} {M rn t f g qf qg sf sg : Nat} (h7 : Inv7 n C Z I L R M rn t) (hf : f < M) (hg : g < M) (hqf : MOK n C Z I R f qf sf) (hqg : MOK n C Z I R g qg sg) (kff : inG 7 (C qf) = true) (kfg : inG 7 (C qg) = true) (ke : (isa (C qf) 1 = true ∧ isa (C qg) 1 = true ∧ I 75 f = 1 ∧ I 75 g = 1) ∨ (isa (C qf) 1 = false ∧ isa (C qg) 1 = false ∧ ¬ I 75 f = 1 ∧ ¬ I 75 g = 1)) : Two 71 138 [some (.ref 1), some (.int (nI f)), some (.int (nI g)), none, none] [some (.ref 74), some (.int (nI f)), some (.int (nI g)), none] (n, sl, C, Z, I, L, R) := by
  obtain ⟨hM12, hn98, ⟨hB, hK, hO, hE, hM⟩, ⟨e1, e2⟩, -⟩ := id h7
  have hB' := hB
  have hM' := hM
  unfold LayB at hB
  unfold LayM at hM
  unfold Two
  obtain ⟨a1f, a2f, -⟩ := id hqf
  obtain ⟨a1g, a2g, -⟩ := id hqg
  have hqf0 : ¬ qf = 0 := by omega
  have hqg0 : ¬ qg = 0 := by omega
  obtain ⟨R2, hR2⟩ : ∃ R2, R2 = u2 (u2 R 8 0 qf) 37 0 qg := ⟨_, rfl⟩
  have r2n : ∀ i, i ≠ 8 → i ≠ 37 → R2 i = R i := fun i h1 h2 => by rw [hR2, u2_ne _ _ _ h2, u2_ne _ _ _ h1]
  have cf0 := hqf.cm
  have cg0 := hqg.cm
  have cg1 : CM C Z I (u2 R 8 0 qf) qg sg (I qg 2) _ _ _ _ := cg0.keep (fun _ _ => rfl) (fun i hi => u2_ne _ _ _ (by omega))
  have cf2 : CM C Z I R2 qf sf (I qf 2) _ _ _ _ := cf0.keep (fun _ _ => rfl) (fun i hi => r2n i (by omega) (by omega))
  have cg2 : CM C Z I R2 qg sg (I qg 2) _ _ _ _ := cg0.keep (fun _ _ => rfl) (fun i hi => r2n i (by omega) (by omega))
  have hM2 : LayM C Z R2 := by rw [hR2]; exact (hM'.look 8 qf (by omega)).look 37 qg (by omega)
  have rf2 := (hqf.rm hM' (by omega)).keep (R' := R2) (I' := I) hM2 (fun _ _ _ => rfl)
  have rg2 := (hqg.rm hM' (by omega)).keep (R' := R2) (I' := I) hM2 (fun _ _ _ => rfl)
  have hO1 : LayO C Z (u2 R 8 0 qf) := by unfold LayO at *; simp [hO, u2_rd]
  have hK2 : LayK C Z R2 := by rw [hR2]; unfold LayK at *; simp [hK, u2_rd]
  have hO2 : LayO C Z R2 := by rw [hR2]; unfold LayO at *; simp [hO, u2_rd]
  have r8 : R2 8 0 = qf := by rw [hR2]; simp [u2_rd]
  have r37 : R2 37 0 = qg := by rw [hR2]; simp [u2_rd]
  have r1 : ∀ k, R2 1 k = R 1 k := fun k => by rw [r2n 1 (by omega) (by omega)]
  have r1' : ∀ k, u2 R 8 0 qf 1 k = R 1 k := fun k => by rw [u2_ne _ _ _ (by omega)]
  have r74 : ∀ k, R2 74 k = R 74 k := fun k => by rw [r2n 74 (by omega) (by omega)]
  have c8 : C 8 = 4 := by unfold LayK at hK; simp [hK]
  have c37 : C 37 = 4 := by unfold LayO at hO; simp [hO]
  have isf := fun (n sl : Nat) (I' : Nat → Nat → Int32) (L' : Nat → Nat → Int64) => is_yesG hM2 hM12 hf n sl I' L'
  have isg := fun (n sl : Nat) (I' : Nat → Nat → Int32) (L' : Nat → Nat → Int64) => is_yesG hM2 hM12 hg n sl I' L'
  have jf0 : inb (nI f) 12 = true := by rw [inb_nI (by omega)]; simp; omega
  have jfx := ix_nI (show f < 2 ^ 31 by omega)
  have jg0 : inb (nI g) 12 = true := by rw [inb_nI (by omega)]; simp; omega
  have jgx := ix_nI (show g < 2 ^ 31 by omega)
  have mdf : I 78 f = I (qf + 4) 0 := hqf.2.2.2.2.2.2.2.2.2.2.2.1.1
  have mdg : I 78 g = I (qg + 4) 0 := hqg.2.2.2.2.2.2.2.2.2.2.2.1.1
  obtain ⟨bA1, bB1, bK1, -⟩ := hqf.bns
  obtain ⟨bA2, bB2, bK2, -⟩ := hqg.bns
  have six := like_six rf2.2.2.1 rg2.2.2.1 rf2.2.2.2.2.2.2.2.2.2.1 rf2.2.2.2.2.2.2.2.2.2.2 rg2.2.2.2.2.2.2.2.2.2.1 rg2.2.2.2.2.2.2.2.2.2.2 bA1 bB1 bK1 bA2 bB2 bK2 hqf.un hqg.un
  have fin : ∀ L1 L2 L3 : Nat → Nat → Int64, (∀ c, c < 14 ∨ 36 < c → L1 c = L c) → (∀ c, c < 43 ∨ 65 < c → L2 c = L1 c) → (∀ c, c ≠ 97 → c ≠ 98 → L3 c = L2 c) → Inv (n, sl, C, Z, I, L3, R2) := fun L1 L2 L3 f1 f2 f3 => Inv_mk (h7.scr (fun i hi => by rw [f3 i (by omega) (by omega), f2 i (by omega), f1 i (by omega)]) (fun _ _ => rfl) ⟨rfl, rfl, rfl⟩ (fun i k h1 h2 => by rw [hR2, u2_rd, if_neg h2, u2_rd, if_neg h1]))
  have step : Wp 71 39 [some (.ref 1), some (.int (nI f)), some (.int (nI g)), some (.ref qf), some (.ref qg)] [] (n, sl, C, Z, I, L, R) (fun r h1 => Wp 138 0 [some (.ref 74), some (.int (nI f)), some (.int (nI g)), none] [] h1 (fun r2 h2 => r2 = r ∧ Inv h2 ∧ h2.1 ≤ n + 5 ∧ h2.2.1 ≤ sl + 42)) := by
    simp [S71_0, S71_1, BS, ixs, inbs, hB, c8]
    refine c_at8 cf0 hK (fun L1 f1 lk1 => ?_)
    simp [S71_0, S71_1, BS, ixs, inbs, hB, c8, c37, r1']
    refine c_at37 cg1 hO1 (fun L2 f2 lk2 => ?_)
    rw [← hR2]
    have lk1' : LK L2 8 sf _ _ _ := lk1.keep (fun c h1 h2 => f2 c (by omega))
    simp [S71_0, S71_1, BS, ixs, inbs, hB, c8, c37, r1]
    refine c_alike cf2 cg2 hK2 hO2 r8 r37 lk1' lk2 (fun hd hp => ?_) (fun hn => ?_)
    · have hp' := six.mp hp
      have z0 := like_lp (n := n) (sl := sl) rf2 rg2 (Q := fun r2 h2 => r2 = some (.int 1) ∧ Inv h2 ∧ h2.1 ≤ n + 5 ∧ h2.2.1 ≤ sl + 42) (sf + sg) 0 L2 (by omega) (fun L3 f3 _ => ⟨rfl, fin L1 L2 L3 f1 f2 f3, by dsimp only; omega, by dsimp only; omega⟩) (fun L3 f3 hx => by obtain ⟨i, hi, hn⟩ := hx; exact absurd (hp' i hi) hn)
      rw [nI_0] at z0
      have gen : ∀ x0 : Int32, Wp 138 70 [some (.ref 74), some (.int (nI f)), some (.int (nI g)), none] [.int x0] (n, sl, C, Z, I, L2, R2) (fun r2 h2 => r2 = some (.int 1) ∧ Inv h2 ∧ h2.1 ≤ n + 5 ∧ h2.2.1 ≤ sl + 42) ↔ Br 138 136 88 [some (.ref 74), some (.int (nI f)), some (.int (nI g)), some (.int x0)] [] (n, sl, C, Z, I, L2, R2) (fun r2 h2 => r2 = some (.int 1) ∧ Inv h2 ∧ h2.1 ≤ n + 5 ∧ h2.2.1 ≤ sl + 42) (nI (sf + sg) ≤ x0) := fun x0 => by
        simp [S138_0, S138_1, S138_2, S138_3, BS, ixs, inbs, hM, r74, jf0, jfx, jg0, jgx, rf2.2.2.2.1, rg2.2.2.2.1, nI_add]
      have z1 := (gen 0).mpr z0
      rcases ke with ⟨-, -, kf, kg⟩ | ⟨-, -, kf, kg⟩
      all_goals simp [S71_0, S71_1, S138_0, S138_1, S138_2, S138_3, BS, ixs, inbs, hM, r74, isf, isg, e2, jf0, jfx, jg0, jgx, mdf, mdg, hd, kf, kg, ↓z1]
    · by_cases hd : I (qf + 4) 0 = I (qg + 4) 0
      · have hn' : ¬ _ := hn.resolve_left (fun h => h hd)
        rw [six] at hn'
        have z0 := like_lp (n := n) (sl := sl) rf2 rg2 (Q := fun r2 h2 => r2 = some (.int 0) ∧ Inv h2 ∧ h2.1 ≤ n + 5 ∧ h2.2.1 ≤ sl + 42) (sf + sg) 0 L2 (by omega) (fun L3 f3 hx => absurd (fun i hi => hx i (by omega) hi) hn') (fun L3 f3 _ => ⟨rfl, fin L1 L2 L3 f1 f2 f3, by dsimp only; omega, by dsimp only; omega⟩)
        rw [nI_0] at z0
        have gen : ∀ x0 : Int32, Wp 138 70 [some (.ref 74), some (.int (nI f)), some (.int (nI g)), none] [.int x0] (n, sl, C, Z, I, L2, R2) (fun r2 h2 => r2 = some (.int 0) ∧ Inv h2 ∧ h2.1 ≤ n + 5 ∧ h2.2.1 ≤ sl + 42) ↔ Br 138 136 88 [some (.ref 74), some (.int (nI f)), some (.int (nI g)), some (.int x0)] [] (n, sl, C, Z, I, L2, R2) (fun r2 h2 => r2 = some (.int 0) ∧ Inv h2 ∧ h2.1 ≤ n + 5 ∧ h2.2.1 ≤ sl + 42) (nI (sf + sg) ≤ x0) := fun x0 => by
          simp [S138_0, S138_1, S138_2, S138_3, BS, ixs, inbs, hM, r74, jf0, jfx, jg0, jgx, rf2.2.2.2.1, rg2.2.2.2.1, nI_add]
        have z1 := (gen 0).mpr z0
        rcases ke with ⟨-, -, kf, kg⟩ | ⟨-, -, kf, kg⟩
        all_goals simp [S71_0, S71_1, S138_0, S138_1, S138_2, S138_3, BS, ixs, inbs, hM, r74, isf, isg, e2, jf0, jfx, jg0, jgx, mdf, mdg, hd, kf, kg, ↓z1]
      · have fi := fin L1 L2 L2 f1 f2 (fun _ _ _ => rfl)
        simp [S71_0, S71_1, S138_0, S138_1, S138_2, S138_3, BS, ixs, inbs, hM, r74, isf, isg, e2, jf0, jfx, jg0, jgx, mdf, mdg, hd, fi]
  rcases ke with ⟨kf, kg, -⟩ | ⟨kf, kg, -⟩
  all_goals
    simp only [Nat.le_refl]
    simp [S71_0, at_yesG hB' hM12 hf, at_yesG hB' hM12 hg, BS, ixs, inbs, hB, e1, a1f, a1g, hqf0, hqg0, kff, kfg, kf, kg, ↓step]
set_option maxRecDepth 100000 in
set_option maxHeartbeats 8000000 in
/-- like(a, b) -/
theorem two_like (h : Hp) (hI : Inv h) (x y : Int32) : Two 71 138 [some (.ref 1), some (.int x), some (.int y), none, none] [some (.ref 74), some (.int x), some (.int y), none] h := by
  obtain ⟨n, sl, C, Z, I, L, R⟩ := h
  obtain ⟨M, rn, t, h7⟩ := id hI
  obtain ⟨hM12, hn98, ⟨hB, hK, hO, hE, hM⟩, ⟨e1, e2⟩, hms, hss, hap, ⟨hrn, e3, e4, hrw⟩, ht, e5, e6, htr⟩ := id h7
  dsimp only at hM12 hn98 hB hK hO hE hM e1 e2 hms hss hap hrn e3 e4 hrw ht e5 e6 htr h7
  have hB' := hB
  have hM' := hM
  unfold LayB at hB
  unfold LayM at hM
  have no : ∀ x y : Int32, (x < 0 ∨ nI M ≤ x) → Two 71 138 [some (.ref 1), some (.int x), some (.int y), none, none] [some (.ref 74), some (.int x), some (.int y), none] (n, sl, C, Z, I, L, R) := by
    intro x y hm
    unfold Two
    rcases pk_ix y (n := M) (by omega) with hy | hy | ⟨g, hg, rfl⟩
    · simp [S71_0, S71_1, S138_0, at_noG hB' hM12 hm, is_noG hM' hm, at_noG hB' hM12 (Or.inl hy), BS, ixs, inbs, hB, hM, hI, e1, e2]
    · simp [S71_0, S71_1, S138_0, at_noG hB' hM12 hm, is_noG hM' hm, at_noG hB' hM12 (Or.inr hy), BS, ixs, inbs, hB, hM, hI, e1, e2]
    · simp [S71_0, S71_1, S138_0, at_noG hB' hM12 hm, is_noG hM' hm, at_yesG hB' hM12 hg, BS, ixs, inbs, hB, hM, hI, e1, e2]
  rcases pk_ix x (n := M) (by omega) with hx | hx | ⟨f, hf, rfl⟩
  · exact no x y (Or.inl hx)
  · exact no x y (Or.inr hx)
  · obtain ⟨qf, sf, hqf⟩ := hms f hf
    have a1f := hqf.1
    have a2f := hqf.2.1
    have a4f := hqf.2.2.2.1
    have hqf0 : ¬ qf = 0 := by omega
    have jf0 : inb (nI f) 12 = true := by rw [inb_nI (by omega)]; simp; omega
    have jfx := ix_nI (show f < 2 ^ 31 by omega)
    rcases pk_ix y (n := M) (by omega) with hy | hy | ⟨g, hg, rfl⟩
    · unfold Two
      simp [S71_0, S71_1, S138_0, at_yesG hB' hM12 hf, is_yesG hM' hM12 hf, at_noG hB' hM12 (Or.inl hy), is_noG (M := M) hM' (Or.inl hy), BS, ixs, inbs, hB, hM, hI, e1, e2, a1f, hqf0]
    · unfold Two
      simp [S71_0, S71_1, S138_0, at_yesG hB' hM12 hf, is_yesG hM' hM12 hf, at_noG hB' hM12 (Or.inr hy), is_noG hM' (Or.inr hy), BS, ixs, inbs, hB, hM, hI, e1, e2, a1f, hqf0]
    obtain ⟨qg, sg, hqg⟩ := hms g hg
    have a1g := hqg.1
    have a2g := hqg.2.1
    have a4g := hqg.2.2.2.1
    have hqg0 : ¬ qg = 0 := by omega
    have jg0 : inb (nI g) 12 = true := by rw [inb_nI (by omega)]; simp; omega
    have jgx := ix_nI (show g < 2 ^ 31 by omega)
    rcases nflow a4f with ⟨b1, b2⟩ | ⟨kf1, kf2, kf3⟩
    · rcases nflow a4g with ⟨d1, d2⟩ | ⟨kg1, kg2, kg3⟩
      · exact like_fin h7 hf hg hqf hqg (by rw [b1]; decide) (by rw [d1]; decide) (Or.inl ⟨by rw [b1]; decide, by rw [d1]; decide, b2, d2⟩)
      · unfold Two
        by_cases hd : I 78 f = I 78 g
        all_goals simp [S71_0, S71_1, S138_0, S138_1, at_yesG hB' hM12 hf, at_yesG hB' hM12 hg, is_yesG hM' hM12 hf, is_yesG hM' hM12 hg, e1, e2, BS, ixs, inbs, hB, hM, hI, a1f, a1g, hqf0, hqg0, jf0, jg0, jfx, jgx, inGs, isas, b1, b2, kg1, kg2, kg3, hd]
    · rcases nflow a4g with ⟨d1, d2⟩ | ⟨kg1, kg2, kg3⟩
      · unfold Two
        by_cases hd : I 78 f = I 78 g
        all_goals simp [S71_0, S71_1, S138_0, S138_1, at_yesG hB' hM12 hf, at_yesG hB' hM12 hg, is_yesG hM' hM12 hf, is_yesG hM' hM12 hg, e1, e2, BS, ixs, inbs, hB, hM, hI, a1f, a1g, hqf0, hqg0, jf0, jg0, jfx, jgx, inGs, isas, d1, d2, kf1, kf2, kf3, hd]
      · exact like_fin h7 hf hg hqf hqg kf1 kg1 (Or.inr ⟨kf2, kg2, kf3, kg3⟩)
