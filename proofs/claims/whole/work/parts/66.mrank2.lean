/-- what the second step of the elimination works out stays small -/
def G2 (X : Nat → Nat → Int) (m : Nat) : Prop := ∀ p, p < m → ¬ X p 0 = 0 → (∀ p', p' < p → X p' 0 = 0) → ∀ i j, 1 ≤ i → i < m → 1 ≤ j → j < m → bn 18446744073709551615 (el (sw X 0 p) i 2 * el (sw X 0 p) j 1 - el (sw X 0 p) j 2 * el (sw X 0 p) i 1)
theorem sw_0 {X : Nat → Nat → Int} {p c : Nat} : sw X 0 p 0 c = X p c := by unfold sw; rw [if_pos rfl]
theorem bn_sw {X : Nat → Nat → Int} {m r p B : Nat} (hr : r < m) (hp : p < m) (hb : ∀ i c, i < m → c < 3 → bn B (X i c)) : ∀ i c, i < m → c < 3 → bn B (sw X r p i c) := by
  intro i c hi hc
  unfold sw
  split
  · exact hb p c hp hc
  · split
    · exact hb r c hr hc
    · exact hb i c hi hc
theorem bn_el {X : Nat → Nat → Int} {m : Nat} (hm : 1 ≤ m) (hb : ∀ i c, i < m → c < 3 → bn 1073741824 (X i c)) : ∀ i c, i < m → c < 3 → bn 4611686018427387904 (el X i c) := by
  intro i c hi hc
  unfold el
  split
  · exact bn_le (hb 0 c (by omega) hc) (by decide)
  · have bx : bn 4611686018427387904 (x3 X i c) := bn_le (bn_sub (bn_mul (hb i c hi hc) (hb 0 0 (by omega) (by omega))) (bn_mul (hb 0 c (by omega) hc) (hb i 0 hi (by omega)))) (by decide)
    show bn 4611686018427387904 (x3 X i c / g3 X i)
    unfold bn at *
    have := Int.natAbs_ediv_le_natAbs (x3 X i c) (g3 X i)
    omega
set_option maxRecDepth 100000 in
set_option maxHeartbeats 8000000 in
/-- rank -/
theorem m_rank {n sl : Nat} {C Z : Nat → Nat} {I : Nat → Nat → Int32} {L : Nat → Nat → Int64} {R : Nat → Nat → Nat} {m : Nat} {X : Nat → Nat → Int} (hM : LayM C Z R) (hm : m ≤ 4) (hX : ∀ i c, i < m → c < 3 → L 95 (3 * i + c) = wL (X i c)) (hb : ∀ i c, i < m → c < 3 → bn 1073741824 (X i c)) (hG : G2 X m) {k pc : Nat} {ls : Lo} {st : List Value} {Q : Option Value → Hp → Prop} (go : ∀ r, r ≤ 3 → IsRk X m r → ∀ L', (∀ c, c ≠ 95 → L' c = L c) → Wp k pc ls (.int (nI r) :: st) (n, sl, C, Z, I, L', R) Q) : Call 128 [some (.ref 74), some (.int (nI m)), none, none, none, none, none, none, none, none, none] (n, sl, C, Z, I, L, R) k pc ls st Q := by
  have z30 : ∀ i c, i < m → c < 3 → (L 95 (3 * i + c) = 0 ↔ X i c = 0) := fun i c hi hc => by
    have := hb i c hi hc
    unfold bn at this
    rw [hX i c hi hc]
    exact wL_eq0 (by omega) (by omega)
  have main : Br 128 279 9 [some (.ref 74), some (.int (nI m)), some (.int (nI 0)), some (.int (nI 0)), none, none, none, none, none, none, none] [] (n, sl, C, Z, I, L, R) (fun r h1 => Wp k pc ls (r.toList ++ st) h1 Q) ((3 : Int32) ≤ nI 0) := by
    obtain ⟨p, p_le, p_al, p_at⟩ := first_diff (fun p => L 95 (3 * p + 0) = 0) m
    by_cases pm : p = m
    · -- column 0 is 0
      subst pm
      have zc0 : ∀ i, i < p → X i 0 = 0 := fun i hi => (z30 i 0 hi (by omega)).mp (p_al i hi)
      refine ms_none hM hm (by omega) (by omega) (fun x _ hx => p_al x hx) ?_
      obtain ⟨q, q_le, q_al, q_at⟩ := first_diff (fun x => L 95 (3 * x + 1) = 0) p
      by_cases qm : q = p
      · subst qm
        have zc1 : ∀ i, i < q → X i 1 = 0 := fun i hi => (z30 i 1 hi (by omega)).mp (q_al i hi)
        refine ms_none hM hm (by omega) (by omega) (fun x _ hx => q_al x hx) ?_
        obtain ⟨t, t_le, t_al, t_at⟩ := first_diff (fun x => L 95 (3 * x + 2) = 0) q
        have ec := ech_2 (X := X) (m := q) (fun i hi => ⟨zc0 i hi, zc1 i hi⟩)
        by_cases tm : t = q
        · subst tm
          refine ms_none hM hm (by omega) (by omega) (fun x _ hx => t_al x hx) (ms_end ?_)
          exact go 0 (by omega) (ec.2 (fun i hi => (z30 i 2 hi (by omega)).mp (t_al i hi))) L (fun _ _ => rfl)
        · have tn := t_at.resolve_left tm
          refine ms_f0 hM hm (by omega) (by omega) (by omega) (fun x _ hx => t_al x hx) tn (fun L1 l6 f1 f2 f3 => ?_)
          have row : ∀ x c, x < q → c < 2 → L1 95 (3 * x + c) = 0 := fun x c hx hc => by
            have zz : ∀ y, y < q → L 95 (3 * y + c) = 0 := fun y hy => by
              rcases (by omega : c = 0 ∨ c = 1) with rfl | rfl
              · exact p_al y hy
              · exact q_al y hy
            by_cases e1 : x = 0
            · rw [e1, (f2 c (by omega)).1]; exact zz t (by omega)
            · by_cases e2 : x = t
              · rw [e2, (f2 c (by omega)).2]; exact zz 0 (by omega)
              · rw [f3 x c (by omega) (by omega) e1 e2]; exact zz x hx
          refine el2_2_0 hM hm (q - 1) 1 L1 _ _ _ _ _ (by omega) (by omega) (fun x c hx hc => row x c (by omega) hc) (fun L2 g1 _ _ l5 l6 l7 l8 l9 l10 => ms_end ?_)
          exact go 1 (by omega) (ec.1 ⟨t, by omega, fun h => tn ((z30 t 2 (by omega) (by omega)).mpr h)⟩) L2 (fun c h => by rw [g1 c h, f1 c h])
      · have qn := q_at.resolve_left qm
        refine ms_f0 hM hm (by omega) (by omega) (by omega) (fun x _ hx => q_al x hx) qn (fun L1 l6 f1 f2 f3 => ?_)
        have hX1 : ∀ x c, x < p → c < 3 → L1 95 (3 * x + c) = wL (sw X 0 q x c) := fun x c hx hc => by
          unfold sw
          by_cases e1 : x = 0
          · rw [if_pos e1, e1, (f2 c hc).1]; exact hX q c (by omega) hc
          · by_cases e2 : x = q
            · rw [if_neg e1, if_pos e2, e2, (f2 c hc).2]; exact hX 0 c (by omega) hc
            · rw [if_neg e1, if_neg e2, f3 x c (by omega) hc e1 e2]; exact hX x c hx hc
        obtain ⟨Y, hY⟩ : ∃ Y, Y = sw X 0 q := ⟨_, rfl⟩
        rw [← hY] at hX1
        have bY : ∀ i c, i < p → c < 3 → bn 1073741824 (Y i c) := by rw [hY]; exact bn_sw (by omega) (by omega) hb
        have y0 : ∀ i, i < p → Y i 0 = 0 := fun i hi => by
          rw [hY]; unfold sw
          split
          · exact zc0 q (by omega)
          · split
            · exact zc0 0 (by omega)
            · exact zc0 i hi
        have y01 : ¬ Y 0 1 = 0 := by
          rw [hY, sw_0]
          exact fun h => qn ((z30 q 1 (by omega) (by omega)).mpr h)
        have wz : ∀ i c, i < p → c < 3 → (L1 95 (3 * i + c) = 0 ↔ Y i c = 0) := fun i c hi hc => by
          have := bY i c hi hc
          unfold bn at this
          rw [hX1 i c hi hc]
          exact wL_eq0 (by omega) (by omega)
        refine el2_1_0 hM hm (p - 1) 1 L1 _ _ _ _ _ (by omega) (by omega) (fun x c hx hc => by
          rw [show c = 0 by omega]; exact (wz x 0 (by omega) (by omega)).mpr (y0 x (by omega))) (fun L2 g1 g2 g3 l5 l6 l7 l8 l9 l10 => ?_)
        -- the rows below are (0, 0, w)
        have bw : ∀ i, 1 ≤ i → i < p → (L2 95 (3 * i + 2) = 0 ↔ Y i 2 * Y 0 1 - Y 0 2 * Y i 1 = 0) := fun i h1 hi => by
          have b1 := bn_mul (bY i 2 hi (by omega)) (bY 0 1 (by omega) (by omega))
          have b2 := bn_mul (bY 0 2 (by omega) (by omega)) (bY i 1 hi (by omega))
          unfold bn at b1 b2
          rw [(g3 i h1 hi).2.2, hX1 i 2 hi (by omega), show L1 95 1 = wL (Y 0 1) from hX1 0 1 (by omega) (by omega), show L1 95 2 = wL (Y 0 2) from hX1 0 2 (by omega) (by omega), hX1 i 1 hi (by omega), wL_mul, wL_mul, wL_sub]
          exact wL_eq0 (by omega) (by omega)
        obtain ⟨W, hW⟩ : ∃ W : Nat → Nat → Int, W = fun i c => if i = 0 then Y 0 c else if c = 2 then Y i 2 * Y 0 1 - Y 0 2 * Y i 1 else 0 := ⟨_, rfl⟩
        have NW : ∀ v, Nl W p v ↔ Nl X p v := fun v => by
          rw [← Nl_sw (X := X) (r := 0) (p := q) (by omega) (by omega) v, ← hY]
          refine Nl_el (r := 0) (by omega) (fun i hi h0 c hc => ?_) (fun i h0 hi => ⟨1, Y 0 1, Y i 1, by decide, y01, fun c hc => ?_⟩) v
          · rw [hW, show i = 0 by omega]; rfl
          · have e0 := y0 0 (by omega)
            have ei := y0 i hi
            rw [hW]
            simp only [if_neg (show ¬ i = 0 by omega)]
            rcases i3 hc with rfl | rfl | rfl
            · rw [if_neg (by omega), e0, ei]; simp
            · rw [if_neg (by omega)]; grind
            · rw [if_pos rfl]; grind
        have ec := ech_0c2 (X := W) (m := p) (d := 1) (by omega) (by omega) (by rw [hW]; exact y01) (fun i h1 hi => by
          rw [hW]
          simp only [if_neg (show ¬ i = 0 by omega)]
          exact ⟨rfl, rfl⟩)
        have w2 : ∀ i, 1 ≤ i → W i 2 = Y i 2 * Y 0 1 - Y 0 2 * Y i 1 := fun i h1 => by
          rw [hW]
          simp only [if_neg (show ¬ i = 0 by omega)]
          rfl
        obtain ⟨t, t_le, t_al, t_at⟩ := first_diff (fun x => 1 ≤ x → L2 95 (3 * x + 2) = 0) p
        by_cases tm : t = p
        · refine ms_none hM hm (by omega) (by omega) (fun x h1 hx => t_al x (by omega) h1) (ms_end ?_)
          exact go 1 (by omega) ((ec.2 (fun i h1 hi => by rw [w2 i h1]; exact (bw i h1 hi).mp (t_al i (by omega) h1))).congr (fun v => (NW v).symm)) L2 (fun c h => by rw [g1 c h, f1 c h])
        · have tn := t_at.resolve_left tm
          have t1 : 1 ≤ t := Classical.byContradiction (fun h => tn (fun h2 => absurd h2 h))
          have tn2 : ¬ L2 95 (3 * t + 2) = 0 := fun h => tn (fun _ => h)
          refine ms_f1 hM hm (by omega) t1 (by omega) (fun x h1 hx => t_al x hx h1) tn2 (fun L3 l6 f4 f5 f6 => ?_)
          have row : ∀ x c, 1 ≤ x → x < p → c < 2 → L3 95 (3 * x + c) = 0 := fun x c h1 hx hc => by
            have zz : ∀ y, 1 ≤ y → y < p → L2 95 (3 * y + c) = 0 := fun y h1 hy => by
              rcases (by omega : c = 0 ∨ c = 1) with rfl | rfl
              · exact (g3 y h1 hy).1
              · exact (g3 y h1 hy).2.1
            by_cases e1 : x = 1
            · rw [e1, (f5 c (by omega)).1]; exact zz t t1 (by omega)
            · by_cases e2 : x = t
              · rw [e2, (f5 c (by omega)).2]; exact zz 1 (by omega) (by omega)
              · rw [f6 x c (by omega) (by omega) e1 e2]; exact zz x h1 hx
          refine el2_2_1 hM hm (p - 2) 2 L3 _ _ _ _ _ (by omega) (by omega) (fun x c hx hc => row x c (by omega) (by omega) hc) (fun L4 h1 _ _ l5 l6 l7 l8 l9 l10 => ms_end ?_)
          exact go 2 (by omega) ((ec.1 ⟨t, t1, by omega, fun h => tn2 ((bw t t1 (by omega)).mpr (by rw [← w2 t t1]; exact h))⟩).congr (fun v => (NW v).symm)) L4 (fun c h => by rw [h1 c h, f4 c h, g1 c h, f1 c h])
    · -- the first pivot in column 0
      have pn := p_at.resolve_left pm
      have pX : ¬ X p 0 = 0 := fun h => pn ((z30 p 0 (by omega) (by omega)).mpr h)
      have hG' := hG p (by omega) pX (fun p' h => (z30 p' 0 (by omega) (by omega)).mp (p_al p' h))
      refine ms_f0 hM hm (by omega) (by omega) (by omega) (fun x _ hx => p_al x hx) pn (fun L1 l6 f1 f2 f3 => ?_)
      have hX1 : ∀ x c, x < m → c < 3 → L1 95 (3 * x + c) = wL (sw X 0 p x c) := fun x c hx hc => by
        unfold sw
        by_cases e1 : x = 0
        · rw [if_pos e1, e1, (f2 c hc).1]; exact hX p c (by omega) hc
        · by_cases e2 : x = p
          · rw [if_neg e1, if_pos e2, e2, (f2 c hc).2]; exact hX 0 c (by omega) hc
          · rw [if_neg e1, if_neg e2, f3 x c (by omega) hc e1 e2]; exact hX x c hx hc
      obtain ⟨S, hS⟩ : ∃ S, S = sw X 0 p := ⟨_, rfl⟩
      rw [← hS] at hX1 hG'
      have bS : ∀ i c, i < m → c < 3 → bn 1073741824 (S i c) := by rw [hS]; exact bn_sw (by omega) (by omega) hb
      have s00 : ¬ S 0 0 = 0 := by rw [hS, sw_0]; exact pX
      refine el1_lp (X := S) hM hm bS (m - 1) 1 L1 _ _ _ _ _ (by omega) (by omega) (fun x c hx hc => by
        rw [show x = 0 by omega]; exact hX1 0 c (by omega) hc) (fun x c _ hx hc => hX1 x c hx hc) (fun L2 g1 g2 l5 l6 l7 l8 l9 l10 => ?_)
      obtain ⟨Y, hY⟩ : ∃ Y, Y = el S := ⟨_, rfl⟩
      rw [← hY] at g2 hG'
      have bY : ∀ i c, i < m → c < 3 → bn 4611686018427387904 (Y i c) := by rw [hY]; exact bn_el (by omega) bS
      have NY : ∀ v, Nl Y m v ↔ Nl X m v := fun v => by rw [← Nl_sw (X := X) (r := 0) (p := p) (by omega) (by omega) v, ← hS, hY]; exact el_eq (by omega) s00 v
      have y0 : ∀ i, 1 ≤ i → Y i 0 = 0 := fun i h => by rw [hY]; exact el_z h
      have y00 : ¬ Y 0 0 = 0 := by rw [hY]; exact s00
      have wz : ∀ i c, i < m → c < 3 → (L2 95 (3 * i + c) = 0 ↔ Y i c = 0) := fun i c hi hc => by
        have := bY i c hi hc
        unfold bn at this
        rw [g2 i c hi hc]
        exact wL_eq0 (by omega) (by omega)
      obtain ⟨q, q_le, q_al, q_at⟩ := first_diff (fun x => 1 ≤ x → L2 95 (3 * x + 1) = 0) m
      by_cases qm : q = m
      · have zc1 : ∀ i, 1 ≤ i → i < m → Y i 1 = 0 := fun i h1 hi => (wz i 1 hi (by omega)).mp (q_al i (by omega) h1)
        refine ms_none hM hm (by omega) (by omega) (fun x h1 hx => q_al x (by omega) h1) ?_
        have ec := ech_0c2 (X := Y) (m := m) (d := 0) (by omega) (by omega) y00 (fun i h1 hi => ⟨y0 i h1, zc1 i h1 hi⟩)
        obtain ⟨t, t_le, t_al, t_at⟩ := first_diff (fun x => 1 ≤ x → L2 95 (3 * x + 2) = 0) m
        by_cases tm : t = m
        · refine ms_none hM hm (by omega) (by omega) (fun x h1 hx => t_al x (by omega) h1) (ms_end ?_)
          exact go 1 (by omega) ((ec.2 (fun i h1 hi => (wz i 2 hi (by omega)).mp (t_al i (by omega) h1))).congr (fun v => (NY v).symm)) L2 (fun c h => by rw [g1 c h, f1 c h])
        · have tn := t_at.resolve_left tm
          have t1 : 1 ≤ t := Classical.byContradiction (fun h => tn (fun h2 => absurd h2 h))
          have tn2 : ¬ L2 95 (3 * t + 2) = 0 := fun h => tn (fun _ => h)
          refine ms_f1 hM hm (by omega) t1 (by omega) (fun x h1 hx => t_al x hx h1) tn2 (fun L3 l6 f4 f5 f6 => ?_)
          have row : ∀ x c, 1 ≤ x → x < m → c < 2 → L3 95 (3 * x + c) = 0 := fun x c h1 hx hc => by
            have zz : ∀ y, 1 ≤ y → y < m → L2 95 (3 * y + c) = 0 := fun y h1 hy => by
              rcases (by omega : c = 0 ∨ c = 1) with rfl | rfl
              · exact (wz y 0 hy (by omega)).mpr (y0 y h1)
              · exact (wz y 1 hy (by omega)).mpr (zc1 y h1 hy)
            by_cases e1 : x = 1
            · rw [e1, (f5 c (by omega)).1]; exact zz t t1 (by omega)
            · by_cases e2 : x = t
              · rw [e2, (f5 c (by omega)).2]; exact zz 1 (by omega) (by omega)
              · rw [f6 x c (by omega) (by omega) e1 e2]; exact zz x h1 hx
          refine el2_2_1 hM hm (m - 2) 2 L3 _ _ _ _ _ (by omega) (by omega) (fun x c hx hc => row x c (by omega) (by omega) hc) (fun L4 h1 _ _ l5 l6 l7 l8 l9 l10 => ms_end ?_)
          exact go 2 (by omega) ((ec.1 ⟨t, t1, by omega, fun h => tn2 ((wz t 2 (by omega) (by omega)).mpr h)⟩).congr (fun v => (NY v).symm)) L4 (fun c h => by rw [h1 c h, f4 c h, g1 c h, f1 c h])
      · have qn := q_at.resolve_left qm
        have q1 : 1 ≤ q := Classical.byContradiction (fun h => qn (fun h2 => absurd h2 h))
        have qn2 : ¬ L2 95 (3 * q + 1) = 0 := fun h => qn (fun _ => h)
        refine ms_f1 hM hm (by omega) q1 (by omega) (fun x h1 hx => q_al x hx h1) qn2 (fun L3 l6 f4 f5 f6 => ?_)
        have hX3 : ∀ x c, x < m → c < 3 → L3 95 (3 * x + c) = wL (sw Y 1 q x c) := fun x c hx hc => by
          unfold sw
          by_cases e1 : x = 1
          · rw [if_pos e1, e1, (f5 c hc).1]; exact g2 q c (by omega) hc
          · by_cases e2 : x = q
            · rw [if_neg e1, if_pos e2, e2, (f5 c hc).2]; exact g2 1 c (by omega) hc
            · rw [if_neg e1, if_neg e2, f6 x c (by omega) hc e1 e2]; exact g2 x c hx hc
        obtain ⟨V, hV⟩ : ∃ V, V = sw Y 1 q := ⟨_, rfl⟩
        rw [← hV] at hX3
        have pick : ∀ i, 1 ≤ i → i < m → ∃ j, 1 ≤ j ∧ j < m ∧ V i = Y j := fun i h1 hi => by
          rw [hV]; unfold sw
          split
          · exact ⟨q, q1, by omega, rfl⟩
          · split
            · exact ⟨1, by omega, by omega, rfl⟩
            · exact ⟨i, h1, hi, rfl⟩
        have NV : ∀ v, Nl V m v ↔ Nl X m v := fun v => by rw [← NY v, hV]; exact Nl_sw (by omega) (by omega) v
        have v0 : ∀ i, 1 ≤ i → i < m → V i 0 = 0 := fun i h1 hi => by
          obtain ⟨j, hj, -, e⟩ := pick i h1 hi
          rw [e]; exact y0 j hj
        have v00 : ¬ V 0 0 = 0 := by
          rw [hV]; unfold sw
          rw [if_neg (by omega), if_neg (by omega)]; exact y00
        have v11 : ¬ V 1 1 = 0 := by
          rw [hV]; unfold sw
          rw [if_pos rfl]
          exact fun h => qn2 ((wz q 1 (by omega) (by omega)).mpr h)
        have bV : ∀ i c, i < m → c < 3 → bn 4611686018427387904 (V i c) := by rw [hV]; exact bn_sw (by omega) (by omega) bY
        refine el2_1_1 hM hm (m - 2) 2 L3 _ _ _ _ _ (by omega) (by omega) (fun x c hx hc => by
          rw [show c = 0 by omega, hX3 x 0 (by omega) (by omega), v0 x (by omega) (by omega)]; rfl) (fun L4 h1 h2 h3 l5 l6 l7 l8 l9 l10 => ?_)
        have bw : ∀ i, 2 ≤ i → i < m → (L4 95 (3 * i + 2) = 0 ↔ V i 2 * V 1 1 - V 1 2 * V i 1 = 0) := fun i h4 hi => by
          obtain ⟨j, hj1, hj2, ej⟩ := pick i (by omega) hi
          obtain ⟨j', hj1', hj2', ej'⟩ := pick 1 (by omega) (by omega)
          have bb := hG' j j' hj1 hj2 hj1' hj2'
          rw [← ej, ← ej'] at bb
          unfold bn at bb
          rw [(h3 i h4 hi).2.2, hX3 i 2 hi (by omega), show L3 95 4 = wL (V 1 1) from hX3 1 1 (by omega) (by omega), show L3 95 5 = wL (V 1 2) from hX3 1 2 (by omega) (by omega), hX3 i 1 hi (by omega), wL_mul, wL_mul, wL_sub]
          exact wL_eq0 (by omega) (by omega)
        have ec := ech_011 (X := V) (m := m) (by omega) v00 v0 v11
        obtain ⟨t, t_le, t_al, t_at⟩ := first_diff (fun x => 2 ≤ x → L4 95 (3 * x + 2) = 0) m
        by_cases tm : t = m
        · refine ms_none hM hm (by omega) (by omega) (fun x h4 hx => t_al x (by omega) h4) (ms_end ?_)
          exact go 2 (by omega) ((ec.2 (fun i h4 hi => (bw i h4 hi).mp (t_al i (by omega) h4))).congr (fun v => (NV v).symm)) L4 (fun c h => by rw [h1 c h, f4 c h, g1 c h, f1 c h])
        · have tn := t_at.resolve_left tm
          have t2 : 2 ≤ t := Classical.byContradiction (fun h => tn (fun h2 => absurd h2 h))
          have tn2 : ¬ L4 95 (3 * t + 2) = 0 := fun h => tn (fun _ => h)
          refine ms_f2 hM hm (by omega) t2 (by omega) (fun x h4 hx => t_al x hx h4) tn2 (fun L5 l6 f7 f8 f9 => ?_)
          have row : ∀ x c, 2 ≤ x → x < m → c < 2 → L5 95 (3 * x + c) = 0 := fun x c h4 hx hc => by
            have zz : ∀ y, 2 ≤ y → y < m → L4 95 (3 * y + c) = 0 := fun y h4 hy => by
              rcases (by omega : c = 0 ∨ c = 1) with rfl | rfl
              · exact (h3 y h4 hy).1
              · exact (h3 y h4 hy).2.1
            by_cases e1 : x = 2
            · rw [e1, (f8 c (by omega)).1]; exact zz t t2 (by omega)
            · by_cases e2 : x = t
              · rw [e2, (f8 c (by omega)).2]; exact zz 2 (by omega) (by omega)
              · rw [f9 x c (by omega) (by omega) e1 e2]; exact zz x h4 hx
          refine el2_2_2 hM hm (m - 3) 3 L5 _ _ _ _ _ (by omega) (by omega) (fun x c hx hc => row x c (by omega) (by omega) hc) (fun L6 k1 _ _ l5 l6 l7 l8 l9 l10 => ms_end ?_)
          exact go 3 (by omega) ((ec.1 ⟨t, t2, by omega, fun h => tn2 ((bw t t2 (by omega)).mpr h)⟩).congr (fun v => (NV v).symm)) L6 (fun c h => by rw [k1 c h, f7 c h, h1 c h, f4 c h, g1 c h, f1 c h])
  rw [nI_0] at main
  have gen2 : ∀ x0 x1 : Int32, Wp 128 3 [some (.ref 74), some (.int (nI m)), some (.int x0), none, none, none, none, none, none, none, none] [.int x1] (n, sl, C, Z, I, L, R) (fun r h1 => Wp k pc ls (r.toList ++ st) h1 Q) ↔ Br 128 279 9 [some (.ref 74), some (.int (nI m)), some (.int x0), some (.int x1), none, none, none, none, none, none, none] [] (n, sl, C, Z, I, L, R) (fun r h1 => Wp k pc ls (r.toList ++ st) h1 Q) ((3 : Int32) ≤ x1) := fun x0 x1 => by simp [S128_0, BS]
  have s3 := (gen2 0 0).mpr main
  simp [S128_0, Call_in (k2 := 128), BS, ↓s3]
