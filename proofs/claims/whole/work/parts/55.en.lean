/-! the ENERGY of a machine -/
def eC (fl : Bool) (s : Nat) (u : Int) (A : Nat → Int) (j i : Nat) : Int :=
  if s * (s + 1) / 2 ≤ j then (if i = j then 1 else 0)
  else if fl = true then (if j = 0 then (if i = 0 then 2 * A 0 else if i = 1 then A 1 else 0) else if j = 1 then (if i = 0 then 2 * A 3 else if i = 1 then A 0 + A 4 else 2 * A 1) else (if i = 0 then 0 else if i = 1 then A 3 else 2 * A 4))
  else (if j = 0 then (if i = 0 then u * u - A 0 * A 0 else if i = 1 then -(A 0 * A 1) else -(A 1 * A 1)) else if j = 1 then (if i = 0 then -(2 * (A 0 * A 3)) else if i = 1 then u * u - A 0 * A 4 - A 1 * A 3 else -(2 * (A 1 * A 4))) else (if i = 0 then -(A 3 * A 3) else if i = 1 then -(A 3 * A 4) else u * u - A 4 * A 4))
def eS (fl : Bool) (s : Nat) (u : Int) (i : Nat) : Int := if s * (s + 1) / 2 ≤ i then 0 else if i = 1 then 0 else if fl = true then -u else u * u
def eD (fl : Bool) (s : Nat) (u : Int) (A : Nat → Int) : Int := dt3 (eC fl s u A 0) (eC fl s u A 1) (eC fl s u A 2)
def eN (fl : Bool) (s : Nat) (u : Int) (A : Nat → Int) (i : Nat) : Int := if i = 0 then dt3 (eS fl s u) (eC fl s u A 1) (eC fl s u A 2) else if i = 1 then dt3 (eC fl s u A 0) (eS fl s u) (eC fl s u A 2) else dt3 (eC fl s u A 0) (eC fl s u A 1) (eS fl s u)
theorem bn_dt3 {X Y W : Nat} {x y z : Nat → Int} (h1 : ∀ i, i < 3 → bn X (x i)) (h2 : ∀ i, i < 3 → bn Y (y i)) (h3 : ∀ i, i < 3 → bn W (z i)) : bn (6 * (X * (Y * W))) (dt3 x y z) := by
  unfold dt3
  refine bn_le (bn_add (bn_sub (bn_mul (h1 0 (by omega)) (bn_sub (bn_mul (h2 1 (by omega)) (h3 2 (by omega))) (bn_mul (h2 2 (by omega)) (h3 1 (by omega))))) (bn_mul (h1 1 (by omega)) (bn_sub (bn_mul (h2 0 (by omega)) (h3 2 (by omega))) (bn_mul (h2 2 (by omega)) (h3 0 (by omega)))))) (bn_mul (h1 2 (by omega)) (bn_sub (bn_mul (h2 0 (by omega)) (h3 1 (by omega))) (bn_mul (h2 1 (by omega)) (h3 0 (by omega)))))) ?_
  rw [Nat.mul_add]
  omega
theorem bn_eC {fl : Bool} {s : Nat} {u : Int} {A : Nat → Int} (hu : u = 1 ∨ u = 2 ∨ u = 4) (hA : ∀ i, i < 9 → bn 12 (A i)) (j i : Nat) : bn 320 (eC fl s u A j i) := by
  have m := fun (i k : Nat) (hi : i < 9) (hk : k < 9) => bn_mul (hA i hi) (hA k hk)
  have h00 := m 0 0 (by omega) (by omega)
  have h01 := m 0 1 (by omega) (by omega)
  have h11 := m 1 1 (by omega) (by omega)
  have h03 := m 0 3 (by omega) (by omega)
  have h04 := m 0 4 (by omega) (by omega)
  have h13 := m 1 3 (by omega) (by omega)
  have h14 := m 1 4 (by omega) (by omega)
  have h33 := m 3 3 (by omega) (by omega)
  have h34 := m 3 4 (by omega) (by omega)
  have h44 := m 4 4 (by omega) (by omega)
  have a0 := hA 0 (by omega)
  have a1 := hA 1 (by omega)
  have a3 := hA 3 (by omega)
  have a4 := hA 4 (by omega)
  have hu2 : u * u = 1 ∨ u * u = 4 ∨ u * u = 16 := by rcases hu with h | h | h <;> rw [h] <;> simp
  have cv : ∀ {X : Nat} {a : Int}, bn X a → -(X : Int) ≤ a ∧ a ≤ X := fun {X a} h => by unfold bn at h; omega
  replace h00 := cv h00
  replace h01 := cv h01
  replace h11 := cv h11
  replace h03 := cv h03
  replace h04 := cv h04
  replace h13 := cv h13
  replace h14 := cv h14
  replace h33 := cv h33
  replace h34 := cv h34
  replace h44 := cv h44
  replace a0 := cv a0
  replace a1 := cv a1
  replace a3 := cv a3
  replace a4 := cv a4
  clear m hA hu cv
  have tw : ∀ a : Int, -320 ≤ a → a ≤ 320 → bn 320 a := fun a _ _ => by unfold bn; omega
  unfold eC
  repeat' split
  all_goals (apply tw <;> omega)
theorem bn_eS {fl : Bool} {s : Nat} {u : Int} (hu : u = 1 ∨ u = 2 ∨ u = 4) (i : Nat) : bn 16 (eS fl s u i) := by
  have hu2 : u * u = 1 ∨ u * u = 4 ∨ u * u = 16 := by rcases hu with h | h | h <;> rw [h] <;> simp
  unfold bn eS
  repeat' split
  all_goals omega
theorem bn_eD {fl : Bool} {s : Nat} {u : Int} {A : Nat → Int} (hu : u = 1 ∨ u = 2 ∨ u = 4) (hA : ∀ i, i < 9 → bn 12 (A i)) : bn 200000000 (eD fl s u A) := bn_le (bn_dt3 (fun i _ => bn_eC hu hA 0 i) (fun i _ => bn_eC hu hA 1 i) (fun i _ => bn_eC hu hA 2 i)) (by decide)
theorem bn_eN {fl : Bool} {s : Nat} {u : Int} {A : Nat → Int} (hu : u = 1 ∨ u = 2 ∨ u = 4) (hA : ∀ i, i < 9 → bn 12 (A i)) (i : Nat) : bn 200000000 (eN fl s u A i) := by
  have l16 : ∀ i, bn 320 (eS fl s u i) := fun i => bn_le (bn_eS hu i) (by decide)
  unfold eN
  repeat' split
  · exact bn_le (bn_dt3 (fun i _ => l16 i) (fun i _ => bn_eC hu hA 1 i) (fun i _ => bn_eC hu hA 2 i)) (by decide)
  · exact bn_le (bn_dt3 (fun i _ => bn_eC hu hA 0 i) (fun i _ => l16 i) (fun i _ => bn_eC hu hA 2 i)) (by decide)
  · exact bn_le (bn_dt3 (fun i _ => bn_eC hu hA 0 i) (fun i _ => bn_eC hu hA 1 i) (fun i _ => l16 i)) (by decide)
set_option maxRecDepth 100000 in
set_option maxHeartbeats 2000000 in
/-- Minors.whole -/
theorem c_whk (vx vy vz : Nat → Int) (x y z : Nat) : ∀ (n sl : Nat) (C Z : Nat → Nat) (I : Nat → Nat → Int32) (L : Nat → Nat → Int64) (R : Nat → Nat → Nat), (C x = 22 ∧ Z x = 3 ∧ C y = 22 ∧ Z y = 3 ∧ C z = 22 ∧ Z z = 3 ∧ (L x 0 = wL (vx 0) ∧ L x 1 = wL (vx 1) ∧ L x 2 = wL (vx 2)) ∧ (L y 0 = wL (vy 0) ∧ L y 1 = wL (vy 1) ∧ L y 2 = wL (vy 2)) ∧ L z 0 = wL (vz 0) ∧ L z 1 = wL (vz 1) ∧ L z 2 = wL (vz 2)) → ∀ (k pc : Nat) (ls : Lo) (st : List Value) (Q : Option Value → Hp → Prop), Call 41 [some (.ref x), some (.ref y), some (.ref z)] (n, sl, C, Z, I, L, R) k pc ls st Q ↔ Wp k pc ls (.long (wL (dt3 vx vy vz)) :: st) (n, sl, C, Z, I, L, R) Q := by
  intro n sl C Z I L R h k pc ls st Q
  obtain ⟨h1, h2, h3, h4, h5, h6, ⟨x0, x1, x2⟩, ⟨y0, y1, y2⟩, z0, z1, z2⟩ := h
  simp [S41_0, S41_1, S41_2, Call_in (k2 := 41), BS, ixs, inbs, wL_mul, wL_add, wL_sub, h1, h2, h3, h4, h5, h6, x0, x1, x2, y0, y1, y2, z0, z1, z2, dt3]
set_option maxRecDepth 100000 in
set_option maxHeartbeats 8000000 in
theorem c_eFill_0t {n sl : Nat} {C Z : Nat → Nat} {I : Nat → Nat → Int32} {L : Nat → Nat → Int64} {R : Nat → Nat → Nat} {q : Nat} {u : Int32} {A B K : Nat → Int} {d : Int} (hc : CM C Z I R q 0 u A B K d) (hE : LayE C Z R) (kf : isa (C q) 1 = false)
    (hu : u.toInt = 1 ∨ u.toInt = 2 ∨ u.toInt = 4) (hA : ∀ i, i < 9 → bn 12 (A i)) (zA : ∀ i k, i < 3 → k < 3 → (0 ≤ i ∨ 0 ≤ k) → A (3 * i + k) = 0) {k pc : Nat} {ls : Lo} {st : List Value} {Q : Option Value → Hp → Prop} (go : ∀ L' I', (∀ c, c < 66 ∨ 72 < c → L' c = L c) → (∀ c, c ≠ 66 → I' c = I c) → (L' 66 3 = wL (eD false 0 u.toInt A) ∧ ∀ i, i < 3 → L' 72 i = wL (eN false 0 u.toInt A i)) → (I' 66 4 = nI 0 ∧ I' 66 5 = if eD false 0 u.toInt A = 0 then 0 else 1) → Wp k pc ls st (n, sl, C, Z, I', L', R) Q) : Call 1 [some (.ref 66), some (.ref q), none] (n, sl, C, Z, I, L, R) k pc ls st Q := by
  obtain ⟨⟨g0, g1, g2, g3, g4, g5⟩, ⟨r3, r4, r5, r6⟩, ⟨c1, c2, c3, c4, z1, z2, z3, z4⟩, ma, mb1, mc1, md⟩ := id hc
  unfold LayE at hE
  have n0 : nI 0 = 0 := rfl
  have qn : ∀ c, c < 99 → ¬ q = c := fun c h => by omega
  have bD := bn_eD (fl := false) (s := 0) hu hA
  have e0 : wL (eD false 0 u.toInt A) = 0 ↔ eD false 0 u.toInt A = 0 := by unfold bn at bD; exact wL_eq0 (by omega) (by omega)
  obtain ⟨D, hD⟩ : ∃ D, D = eD false 0 u.toInt A := ⟨_, rfl⟩
  have eq0 : dt3 (eC false 0 u.toInt A 0) (eC false 0 u.toInt A 1) (eC false 0 u.toInt A 2) = D := by rw [hD]; rfl
  have m2 : (-2 : Int64) = wL (-2) := rfl
  have p2 : (2 : Int64) = wL 2 := rfl
  have zA0 : A 0 = 0 := zA 0 0 (by omega) (by omega) (by omega)
  have zA1 : A 1 = 0 := zA 0 1 (by omega) (by omega) (by omega)
  have zA3 : A 3 = 0 := zA 1 0 (by omega) (by omega) (by omega)
  have zA4 : A 4 = 0 := zA 1 1 (by omega) (by omega) (by omega)
  simp [S1_0, S1_1, S1_2, S1_3, S1_4, S1_5, S1_6, S2_0, S2_1, S2_2, S3_0, S3_1, S4_0, S5_0, S6_0, Call_in (k2 := 1), Call_in (k2 := 2), Call_in (k2 := 3), Call_in (k2 := 4), Call_in (k2 := 5), Call_in (k2 := 6), BS, ixs, inbs, hE, g0, g1, g4, g5, r3, c1, z1, ma, n0, kf, wL_i2l, wL_mul, wL_add, wL_sub, wL_neg, ← wL_0, ← wL_1, m2, p2, u2_rd, qn, zA0, zA1, zA3, zA4]
  have fin : ∀ L1 I1, (∀ c, c < 66 ∨ 72 < c → L1 c = L c) → (∀ c, c ≠ 66 → I1 c = I c) → ((L1 68 0 = wL (eC false 0 u.toInt A 0 0) ∧ L1 68 1 = wL (eC false 0 u.toInt A 0 1) ∧ L1 68 2 = wL (eC false 0 u.toInt A 0 2)) ∧ (L1 69 0 = wL (eC false 0 u.toInt A 1 0) ∧ L1 69 1 = wL (eC false 0 u.toInt A 1 1) ∧ L1 69 2 = wL (eC false 0 u.toInt A 1 2)) ∧ (L1 70 0 = wL (eC false 0 u.toInt A 2 0) ∧ L1 70 1 = wL (eC false 0 u.toInt A 2 1) ∧ L1 70 2 = wL (eC false 0 u.toInt A 2 2)) ∧ L1 71 0 = wL (eS false 0 u.toInt 0) ∧ L1 71 1 = wL (eS false 0 u.toInt 1) ∧ L1 71 2 = wL (eS false 0 u.toInt 2)) → I1 66 4 = 0 → ∀ l1 l2, Call 41 [some (.ref 68), some (.ref 69), some (.ref 70)] (n, sl, C, Z, I1, L1, R) 1 158 [some (.ref 66), l1, l2] [.ref 66] (fun r h1 => Wp k pc ls (r.toList ++ st) h1 Q) := by
    intro L1 I1 fL fI hv hs l1 l2
    by_cases d0 : D = 0
    · have e1 : wL D = 0 := by rw [d0]; rfl
      simp [S1_0, S1_1, S1_2, S1_3, S1_4, S1_5, S1_6, BS, ixs, inbs, hE, hv, u2_rd, eq0, lg_eq, e1, c_whk (eC false 0 u.toInt A 0) (eC false 0 u.toInt A 1) (eC false 0 u.toInt A 2) 68 69 70, c_whk (eS false 0 u.toInt) (eC false 0 u.toInt A 1) (eC false 0 u.toInt A 2) 71 69 70, c_whk (eC false 0 u.toInt A 0) (eS false 0 u.toInt) (eC false 0 u.toInt A 2) 68 71 70, c_whk (eC false 0 u.toInt A 0) (eC false 0 u.toInt A 1) (eS false 0 u.toInt) 68 69 71]
      refine go _ _ (fun c hc => ?_) (fun c hc => ?_) ⟨?_, fun i hi => ?_⟩ ⟨?_, ?_⟩
      · repeat (first | rw [u2_ne _ _ _ (by omega)])
        exact fL c hc
      · repeat (first | rw [u2_ne _ _ _ (by omega)])
        exact fI c hc
      · simp [u2_rd, ← hD, e1]
      · rcases i3 hi with rfl | rfl | rfl <;> simp [u2_rd, eN]
      · simp [u2_rd, hs, n0]
      · simp [u2_rd, ← hD, d0]
    · have e1 : ¬ wL D = 0 := by rw [hD, e0, ← hD]; exact d0
      simp [S1_0, S1_1, S1_2, S1_3, S1_4, S1_5, S1_6, BS, ixs, inbs, hE, hv, u2_rd, eq0, lg_eq, e1, c_whk (eC false 0 u.toInt A 0) (eC false 0 u.toInt A 1) (eC false 0 u.toInt A 2) 68 69 70, c_whk (eS false 0 u.toInt) (eC false 0 u.toInt A 1) (eC false 0 u.toInt A 2) 71 69 70, c_whk (eC false 0 u.toInt A 0) (eS false 0 u.toInt) (eC false 0 u.toInt A 2) 68 71 70, c_whk (eC false 0 u.toInt A 0) (eC false 0 u.toInt A 1) (eS false 0 u.toInt) 68 69 71]
      refine go _ _ (fun c hc => ?_) (fun c hc => ?_) ⟨?_, fun i hi => ?_⟩ ⟨?_, ?_⟩
      · repeat (first | rw [u2_ne _ _ _ (by omega)])
        exact fL c hc
      · repeat (first | rw [u2_ne _ _ _ (by omega)])
        exact fI c hc
      · simp [u2_rd, ← hD]
      · rcases i3 hi with rfl | rfl | rfl <;> simp [u2_rd, eN]
      · simp [u2_rd, hs, n0]
      · simp [u2_rd, ← hD, d0]
  refine fin _ _ (fun c hc => ?_) (fun c hc => ?_) ?_ ?_ _ _
  · repeat (first | rw [u2_ne _ _ _ (by omega)])
  · repeat (first | rw [u2_ne _ _ _ (by omega)])
  · simp [u2_rd, eC, eS, zA0, zA1, zA3, zA4]
    try grind
  · simp [u2_rd]
set_option maxRecDepth 100000 in
set_option maxHeartbeats 8000000 in
theorem c_eFill_1t {n sl : Nat} {C Z : Nat → Nat} {I : Nat → Nat → Int32} {L : Nat → Nat → Int64} {R : Nat → Nat → Nat} {q : Nat} {u : Int32} {A B K : Nat → Int} {d : Int} (hc : CM C Z I R q 1 u A B K d) (hE : LayE C Z R) (kf : isa (C q) 1 = false)
    (hu : u.toInt = 1 ∨ u.toInt = 2 ∨ u.toInt = 4) (hA : ∀ i, i < 9 → bn 12 (A i)) (zA : ∀ i k, i < 3 → k < 3 → (1 ≤ i ∨ 1 ≤ k) → A (3 * i + k) = 0) {k pc : Nat} {ls : Lo} {st : List Value} {Q : Option Value → Hp → Prop} (go : ∀ L' I', (∀ c, c < 66 ∨ 72 < c → L' c = L c) → (∀ c, c ≠ 66 → I' c = I c) → (L' 66 3 = wL (eD false 1 u.toInt A) ∧ ∀ i, i < 3 → L' 72 i = wL (eN false 1 u.toInt A i)) → (I' 66 4 = nI 1 ∧ I' 66 5 = if eD false 1 u.toInt A = 0 then 0 else 1) → Wp k pc ls st (n, sl, C, Z, I', L', R) Q) : Call 1 [some (.ref 66), some (.ref q), none] (n, sl, C, Z, I, L, R) k pc ls st Q := by
  obtain ⟨⟨g0, g1, g2, g3, g4, g5⟩, ⟨r3, r4, r5, r6⟩, ⟨c1, c2, c3, c4, z1, z2, z3, z4⟩, ma, mb1, mc1, md⟩ := id hc
  unfold LayE at hE
  have n0 : nI 1 = 1 := rfl
  have qn : ∀ c, c < 99 → ¬ q = c := fun c h => by omega
  have bD := bn_eD (fl := false) (s := 1) hu hA
  have e0 : wL (eD false 1 u.toInt A) = 0 ↔ eD false 1 u.toInt A = 0 := by unfold bn at bD; exact wL_eq0 (by omega) (by omega)
  obtain ⟨D, hD⟩ : ∃ D, D = eD false 1 u.toInt A := ⟨_, rfl⟩
  have eq0 : dt3 (eC false 1 u.toInt A 0) (eC false 1 u.toInt A 1) (eC false 1 u.toInt A 2) = D := by rw [hD]; rfl
  have m2 : (-2 : Int64) = wL (-2) := rfl
  have p2 : (2 : Int64) = wL 2 := rfl
  have zA1 : A 1 = 0 := zA 0 1 (by omega) (by omega) (by omega)
  have zA3 : A 3 = 0 := zA 1 0 (by omega) (by omega) (by omega)
  have zA4 : A 4 = 0 := zA 1 1 (by omega) (by omega) (by omega)
  simp [S1_0, S1_1, S1_2, S1_3, S1_4, S1_5, S1_6, S2_0, S2_1, S2_2, S3_0, S3_1, S4_0, S5_0, S6_0, Call_in (k2 := 1), Call_in (k2 := 2), Call_in (k2 := 3), Call_in (k2 := 4), Call_in (k2 := 5), Call_in (k2 := 6), BS, ixs, inbs, hE, g0, g1, g4, g5, r3, c1, z1, ma, n0, kf, wL_i2l, wL_mul, wL_add, wL_sub, wL_neg, ← wL_0, ← wL_1, m2, p2, u2_rd, qn, zA1, zA3, zA4]
  have fin : ∀ L1 I1, (∀ c, c < 66 ∨ 72 < c → L1 c = L c) → (∀ c, c ≠ 66 → I1 c = I c) → ((L1 68 0 = wL (eC false 1 u.toInt A 0 0) ∧ L1 68 1 = wL (eC false 1 u.toInt A 0 1) ∧ L1 68 2 = wL (eC false 1 u.toInt A 0 2)) ∧ (L1 69 0 = wL (eC false 1 u.toInt A 1 0) ∧ L1 69 1 = wL (eC false 1 u.toInt A 1 1) ∧ L1 69 2 = wL (eC false 1 u.toInt A 1 2)) ∧ (L1 70 0 = wL (eC false 1 u.toInt A 2 0) ∧ L1 70 1 = wL (eC false 1 u.toInt A 2 1) ∧ L1 70 2 = wL (eC false 1 u.toInt A 2 2)) ∧ L1 71 0 = wL (eS false 1 u.toInt 0) ∧ L1 71 1 = wL (eS false 1 u.toInt 1) ∧ L1 71 2 = wL (eS false 1 u.toInt 2)) → I1 66 4 = 1 → ∀ l1 l2, Call 41 [some (.ref 68), some (.ref 69), some (.ref 70)] (n, sl, C, Z, I1, L1, R) 1 158 [some (.ref 66), l1, l2] [.ref 66] (fun r h1 => Wp k pc ls (r.toList ++ st) h1 Q) := by
    intro L1 I1 fL fI hv hs l1 l2
    by_cases d0 : D = 0
    · have e1 : wL D = 0 := by rw [d0]; rfl
      simp [S1_0, S1_1, S1_2, S1_3, S1_4, S1_5, S1_6, BS, ixs, inbs, hE, hv, u2_rd, eq0, lg_eq, e1, c_whk (eC false 1 u.toInt A 0) (eC false 1 u.toInt A 1) (eC false 1 u.toInt A 2) 68 69 70, c_whk (eS false 1 u.toInt) (eC false 1 u.toInt A 1) (eC false 1 u.toInt A 2) 71 69 70, c_whk (eC false 1 u.toInt A 0) (eS false 1 u.toInt) (eC false 1 u.toInt A 2) 68 71 70, c_whk (eC false 1 u.toInt A 0) (eC false 1 u.toInt A 1) (eS false 1 u.toInt) 68 69 71]
      refine go _ _ (fun c hc => ?_) (fun c hc => ?_) ⟨?_, fun i hi => ?_⟩ ⟨?_, ?_⟩
      · repeat (first | rw [u2_ne _ _ _ (by omega)])
        exact fL c hc
      · repeat (first | rw [u2_ne _ _ _ (by omega)])
        exact fI c hc
      · simp [u2_rd, ← hD, e1]
      · rcases i3 hi with rfl | rfl | rfl <;> simp [u2_rd, eN]
      · simp [u2_rd, hs, n0]
      · simp [u2_rd, ← hD, d0]
    · have e1 : ¬ wL D = 0 := by rw [hD, e0, ← hD]; exact d0
      simp [S1_0, S1_1, S1_2, S1_3, S1_4, S1_5, S1_6, BS, ixs, inbs, hE, hv, u2_rd, eq0, lg_eq, e1, c_whk (eC false 1 u.toInt A 0) (eC false 1 u.toInt A 1) (eC false 1 u.toInt A 2) 68 69 70, c_whk (eS false 1 u.toInt) (eC false 1 u.toInt A 1) (eC false 1 u.toInt A 2) 71 69 70, c_whk (eC false 1 u.toInt A 0) (eS false 1 u.toInt) (eC false 1 u.toInt A 2) 68 71 70, c_whk (eC false 1 u.toInt A 0) (eC false 1 u.toInt A 1) (eS false 1 u.toInt) 68 69 71]
      refine go _ _ (fun c hc => ?_) (fun c hc => ?_) ⟨?_, fun i hi => ?_⟩ ⟨?_, ?_⟩
      · repeat (first | rw [u2_ne _ _ _ (by omega)])
        exact fL c hc
      · repeat (first | rw [u2_ne _ _ _ (by omega)])
        exact fI c hc
      · simp [u2_rd, ← hD]
      · rcases i3 hi with rfl | rfl | rfl <;> simp [u2_rd, eN]
      · simp [u2_rd, hs, n0]
      · simp [u2_rd, ← hD, d0]
  refine fin _ _ (fun c hc => ?_) (fun c hc => ?_) ?_ ?_ _ _
  · repeat (first | rw [u2_ne _ _ _ (by omega)])
  · repeat (first | rw [u2_ne _ _ _ (by omega)])
  · simp [u2_rd, eC, eS, zA1, zA3, zA4]
    try grind
  · simp [u2_rd]
set_option maxRecDepth 100000 in
set_option maxHeartbeats 8000000 in
theorem c_eFill_2t {n sl : Nat} {C Z : Nat → Nat} {I : Nat → Nat → Int32} {L : Nat → Nat → Int64} {R : Nat → Nat → Nat} {q : Nat} {u : Int32} {A B K : Nat → Int} {d : Int} (hc : CM C Z I R q 2 u A B K d) (hE : LayE C Z R) (kf : isa (C q) 1 = false)
    (hu : u.toInt = 1 ∨ u.toInt = 2 ∨ u.toInt = 4) (hA : ∀ i, i < 9 → bn 12 (A i)) (zA : ∀ i k, i < 3 → k < 3 → (2 ≤ i ∨ 2 ≤ k) → A (3 * i + k) = 0) {k pc : Nat} {ls : Lo} {st : List Value} {Q : Option Value → Hp → Prop} (go : ∀ L' I', (∀ c, c < 66 ∨ 72 < c → L' c = L c) → (∀ c, c ≠ 66 → I' c = I c) → (L' 66 3 = wL (eD false 2 u.toInt A) ∧ ∀ i, i < 3 → L' 72 i = wL (eN false 2 u.toInt A i)) → (I' 66 4 = nI 2 ∧ I' 66 5 = if eD false 2 u.toInt A = 0 then 0 else 1) → Wp k pc ls st (n, sl, C, Z, I', L', R) Q) : Call 1 [some (.ref 66), some (.ref q), none] (n, sl, C, Z, I, L, R) k pc ls st Q := by
  obtain ⟨⟨g0, g1, g2, g3, g4, g5⟩, ⟨r3, r4, r5, r6⟩, ⟨c1, c2, c3, c4, z1, z2, z3, z4⟩, ma, mb1, mc1, md⟩ := id hc
  unfold LayE at hE
  have n0 : nI 2 = 2 := rfl
  have qn : ∀ c, c < 99 → ¬ q = c := fun c h => by omega
  have bD := bn_eD (fl := false) (s := 2) hu hA
  have e0 : wL (eD false 2 u.toInt A) = 0 ↔ eD false 2 u.toInt A = 0 := by unfold bn at bD; exact wL_eq0 (by omega) (by omega)
  obtain ⟨D, hD⟩ : ∃ D, D = eD false 2 u.toInt A := ⟨_, rfl⟩
  have eq0 : dt3 (eC false 2 u.toInt A 0) (eC false 2 u.toInt A 1) (eC false 2 u.toInt A 2) = D := by rw [hD]; rfl
  have m2 : (-2 : Int64) = wL (-2) := rfl
  have p2 : (2 : Int64) = wL 2 := rfl
  simp [S1_0, S1_1, S1_2, S1_3, S1_4, S1_5, S1_6, S2_0, S2_1, S2_2, S3_0, S3_1, S4_0, S5_0, S6_0, Call_in (k2 := 1), Call_in (k2 := 2), Call_in (k2 := 3), Call_in (k2 := 4), Call_in (k2 := 5), Call_in (k2 := 6), BS, ixs, inbs, hE, g0, g1, g4, g5, r3, c1, z1, ma, n0, kf, wL_i2l, wL_mul, wL_add, wL_sub, wL_neg, ← wL_0, ← wL_1, m2, p2, u2_rd, qn]
  have fin : ∀ L1 I1, (∀ c, c < 66 ∨ 72 < c → L1 c = L c) → (∀ c, c ≠ 66 → I1 c = I c) → ((L1 68 0 = wL (eC false 2 u.toInt A 0 0) ∧ L1 68 1 = wL (eC false 2 u.toInt A 0 1) ∧ L1 68 2 = wL (eC false 2 u.toInt A 0 2)) ∧ (L1 69 0 = wL (eC false 2 u.toInt A 1 0) ∧ L1 69 1 = wL (eC false 2 u.toInt A 1 1) ∧ L1 69 2 = wL (eC false 2 u.toInt A 1 2)) ∧ (L1 70 0 = wL (eC false 2 u.toInt A 2 0) ∧ L1 70 1 = wL (eC false 2 u.toInt A 2 1) ∧ L1 70 2 = wL (eC false 2 u.toInt A 2 2)) ∧ L1 71 0 = wL (eS false 2 u.toInt 0) ∧ L1 71 1 = wL (eS false 2 u.toInt 1) ∧ L1 71 2 = wL (eS false 2 u.toInt 2)) → I1 66 4 = 2 → ∀ l1 l2, Call 41 [some (.ref 68), some (.ref 69), some (.ref 70)] (n, sl, C, Z, I1, L1, R) 1 158 [some (.ref 66), l1, l2] [.ref 66] (fun r h1 => Wp k pc ls (r.toList ++ st) h1 Q) := by
    intro L1 I1 fL fI hv hs l1 l2
    by_cases d0 : D = 0
    · have e1 : wL D = 0 := by rw [d0]; rfl
      simp [S1_0, S1_1, S1_2, S1_3, S1_4, S1_5, S1_6, BS, ixs, inbs, hE, hv, u2_rd, eq0, lg_eq, e1, c_whk (eC false 2 u.toInt A 0) (eC false 2 u.toInt A 1) (eC false 2 u.toInt A 2) 68 69 70, c_whk (eS false 2 u.toInt) (eC false 2 u.toInt A 1) (eC false 2 u.toInt A 2) 71 69 70, c_whk (eC false 2 u.toInt A 0) (eS false 2 u.toInt) (eC false 2 u.toInt A 2) 68 71 70, c_whk (eC false 2 u.toInt A 0) (eC false 2 u.toInt A 1) (eS false 2 u.toInt) 68 69 71]
      refine go _ _ (fun c hc => ?_) (fun c hc => ?_) ⟨?_, fun i hi => ?_⟩ ⟨?_, ?_⟩
      · repeat (first | rw [u2_ne _ _ _ (by omega)])
        exact fL c hc
      · repeat (first | rw [u2_ne _ _ _ (by omega)])
        exact fI c hc
      · simp [u2_rd, ← hD, e1]
      · rcases i3 hi with rfl | rfl | rfl <;> simp [u2_rd, eN]
      · simp [u2_rd, hs, n0]
      · simp [u2_rd, ← hD, d0]
    · have e1 : ¬ wL D = 0 := by rw [hD, e0, ← hD]; exact d0
      simp [S1_0, S1_1, S1_2, S1_3, S1_4, S1_5, S1_6, BS, ixs, inbs, hE, hv, u2_rd, eq0, lg_eq, e1, c_whk (eC false 2 u.toInt A 0) (eC false 2 u.toInt A 1) (eC false 2 u.toInt A 2) 68 69 70, c_whk (eS false 2 u.toInt) (eC false 2 u.toInt A 1) (eC false 2 u.toInt A 2) 71 69 70, c_whk (eC false 2 u.toInt A 0) (eS false 2 u.toInt) (eC false 2 u.toInt A 2) 68 71 70, c_whk (eC false 2 u.toInt A 0) (eC false 2 u.toInt A 1) (eS false 2 u.toInt) 68 69 71]
      refine go _ _ (fun c hc => ?_) (fun c hc => ?_) ⟨?_, fun i hi => ?_⟩ ⟨?_, ?_⟩
      · repeat (first | rw [u2_ne _ _ _ (by omega)])
        exact fL c hc
      · repeat (first | rw [u2_ne _ _ _ (by omega)])
        exact fI c hc
      · simp [u2_rd, ← hD]
      · rcases i3 hi with rfl | rfl | rfl <;> simp [u2_rd, eN]
      · simp [u2_rd, hs, n0]
      · simp [u2_rd, ← hD, d0]
  refine fin _ _ (fun c hc => ?_) (fun c hc => ?_) ?_ ?_ _ _
  · repeat (first | rw [u2_ne _ _ _ (by omega)])
  · repeat (first | rw [u2_ne _ _ _ (by omega)])
  · simp [u2_rd, eC, eS]
    try grind
  · simp [u2_rd]
set_option maxRecDepth 100000 in
set_option maxHeartbeats 8000000 in
theorem c_eFill_0f {n sl : Nat} {C Z : Nat → Nat} {I : Nat → Nat → Int32} {L : Nat → Nat → Int64} {R : Nat → Nat → Nat} {q : Nat} {u : Int32} {A B K : Nat → Int} {d : Int} (hc : CM C Z I R q 0 u A B K d) (hE : LayE C Z R) (kf : isa (C q) 1 = true)
    (hu : u.toInt = 1 ∨ u.toInt = 2 ∨ u.toInt = 4) (hA : ∀ i, i < 9 → bn 12 (A i)) (zA : ∀ i k, i < 3 → k < 3 → (0 ≤ i ∨ 0 ≤ k) → A (3 * i + k) = 0) {k pc : Nat} {ls : Lo} {st : List Value} {Q : Option Value → Hp → Prop} (go : ∀ L' I', (∀ c, c < 66 ∨ 72 < c → L' c = L c) → (∀ c, c ≠ 66 → I' c = I c) → (L' 66 3 = wL (eD true 0 u.toInt A) ∧ ∀ i, i < 3 → L' 72 i = wL (eN true 0 u.toInt A i)) → (I' 66 4 = nI 0 ∧ I' 66 5 = if eD true 0 u.toInt A = 0 then 0 else 1) → Wp k pc ls st (n, sl, C, Z, I', L', R) Q) : Call 1 [some (.ref 66), some (.ref q), none] (n, sl, C, Z, I, L, R) k pc ls st Q := by
  obtain ⟨⟨g0, g1, g2, g3, g4, g5⟩, ⟨r3, r4, r5, r6⟩, ⟨c1, c2, c3, c4, z1, z2, z3, z4⟩, ma, mb1, mc1, md⟩ := id hc
  unfold LayE at hE
  have n0 : nI 0 = 0 := rfl
  have qn : ∀ c, c < 99 → ¬ q = c := fun c h => by omega
  have bD := bn_eD (fl := true) (s := 0) hu hA
  have e0 : wL (eD true 0 u.toInt A) = 0 ↔ eD true 0 u.toInt A = 0 := by unfold bn at bD; exact wL_eq0 (by omega) (by omega)
  obtain ⟨D, hD⟩ : ∃ D, D = eD true 0 u.toInt A := ⟨_, rfl⟩
  have eq0 : dt3 (eC true 0 u.toInt A 0) (eC true 0 u.toInt A 1) (eC true 0 u.toInt A 2) = D := by rw [hD]; rfl
  have m2 : (-2 : Int64) = wL (-2) := rfl
  have p2 : (2 : Int64) = wL 2 := rfl
  have zA0 : A 0 = 0 := zA 0 0 (by omega) (by omega) (by omega)
  have zA1 : A 1 = 0 := zA 0 1 (by omega) (by omega) (by omega)
  have zA3 : A 3 = 0 := zA 1 0 (by omega) (by omega) (by omega)
  have zA4 : A 4 = 0 := zA 1 1 (by omega) (by omega) (by omega)
  simp [S1_0, S1_1, S1_2, S1_3, S1_4, S1_5, S1_6, S2_0, S2_1, S2_2, S3_0, S3_1, S4_0, S5_0, S6_0, Call_in (k2 := 1), Call_in (k2 := 2), Call_in (k2 := 3), Call_in (k2 := 4), Call_in (k2 := 5), Call_in (k2 := 6), BS, ixs, inbs, hE, g0, g1, g4, g5, r3, c1, z1, ma, n0, kf, wL_i2l, wL_mul, wL_add, wL_sub, wL_neg, ← wL_0, ← wL_1, m2, p2, u2_rd, qn, zA0, zA1, zA3, zA4]
  have fin : ∀ L1 I1, (∀ c, c < 66 ∨ 72 < c → L1 c = L c) → (∀ c, c ≠ 66 → I1 c = I c) → ((L1 68 0 = wL (eC true 0 u.toInt A 0 0) ∧ L1 68 1 = wL (eC true 0 u.toInt A 0 1) ∧ L1 68 2 = wL (eC true 0 u.toInt A 0 2)) ∧ (L1 69 0 = wL (eC true 0 u.toInt A 1 0) ∧ L1 69 1 = wL (eC true 0 u.toInt A 1 1) ∧ L1 69 2 = wL (eC true 0 u.toInt A 1 2)) ∧ (L1 70 0 = wL (eC true 0 u.toInt A 2 0) ∧ L1 70 1 = wL (eC true 0 u.toInt A 2 1) ∧ L1 70 2 = wL (eC true 0 u.toInt A 2 2)) ∧ L1 71 0 = wL (eS true 0 u.toInt 0) ∧ L1 71 1 = wL (eS true 0 u.toInt 1) ∧ L1 71 2 = wL (eS true 0 u.toInt 2)) → I1 66 4 = 0 → ∀ l1 l2, Call 41 [some (.ref 68), some (.ref 69), some (.ref 70)] (n, sl, C, Z, I1, L1, R) 1 158 [some (.ref 66), l1, l2] [.ref 66] (fun r h1 => Wp k pc ls (r.toList ++ st) h1 Q) := by
    intro L1 I1 fL fI hv hs l1 l2
    by_cases d0 : D = 0
    · have e1 : wL D = 0 := by rw [d0]; rfl
      simp [S1_0, S1_1, S1_2, S1_3, S1_4, S1_5, S1_6, BS, ixs, inbs, hE, hv, u2_rd, eq0, lg_eq, e1, c_whk (eC true 0 u.toInt A 0) (eC true 0 u.toInt A 1) (eC true 0 u.toInt A 2) 68 69 70, c_whk (eS true 0 u.toInt) (eC true 0 u.toInt A 1) (eC true 0 u.toInt A 2) 71 69 70, c_whk (eC true 0 u.toInt A 0) (eS true 0 u.toInt) (eC true 0 u.toInt A 2) 68 71 70, c_whk (eC true 0 u.toInt A 0) (eC true 0 u.toInt A 1) (eS true 0 u.toInt) 68 69 71]
      refine go _ _ (fun c hc => ?_) (fun c hc => ?_) ⟨?_, fun i hi => ?_⟩ ⟨?_, ?_⟩
      · repeat (first | rw [u2_ne _ _ _ (by omega)])
        exact fL c hc
      · repeat (first | rw [u2_ne _ _ _ (by omega)])
        exact fI c hc
      · simp [u2_rd, ← hD, e1]
      · rcases i3 hi with rfl | rfl | rfl <;> simp [u2_rd, eN]
      · simp [u2_rd, hs, n0]
      · simp [u2_rd, ← hD, d0]
    · have e1 : ¬ wL D = 0 := by rw [hD, e0, ← hD]; exact d0
      simp [S1_0, S1_1, S1_2, S1_3, S1_4, S1_5, S1_6, BS, ixs, inbs, hE, hv, u2_rd, eq0, lg_eq, e1, c_whk (eC true 0 u.toInt A 0) (eC true 0 u.toInt A 1) (eC true 0 u.toInt A 2) 68 69 70, c_whk (eS true 0 u.toInt) (eC true 0 u.toInt A 1) (eC true 0 u.toInt A 2) 71 69 70, c_whk (eC true 0 u.toInt A 0) (eS true 0 u.toInt) (eC true 0 u.toInt A 2) 68 71 70, c_whk (eC true 0 u.toInt A 0) (eC true 0 u.toInt A 1) (eS true 0 u.toInt) 68 69 71]
      refine go _ _ (fun c hc => ?_) (fun c hc => ?_) ⟨?_, fun i hi => ?_⟩ ⟨?_, ?_⟩
      · repeat (first | rw [u2_ne _ _ _ (by omega)])
        exact fL c hc
      · repeat (first | rw [u2_ne _ _ _ (by omega)])
        exact fI c hc
      · simp [u2_rd, ← hD]
      · rcases i3 hi with rfl | rfl | rfl <;> simp [u2_rd, eN]
      · simp [u2_rd, hs, n0]
      · simp [u2_rd, ← hD, d0]
  refine fin _ _ (fun c hc => ?_) (fun c hc => ?_) ?_ ?_ _ _
  · repeat (first | rw [u2_ne _ _ _ (by omega)])
  · repeat (first | rw [u2_ne _ _ _ (by omega)])
  · simp [u2_rd, eC, eS, zA0, zA1, zA3, zA4]
    try grind
  · simp [u2_rd]
set_option maxRecDepth 100000 in
set_option maxHeartbeats 8000000 in
theorem c_eFill_1f {n sl : Nat} {C Z : Nat → Nat} {I : Nat → Nat → Int32} {L : Nat → Nat → Int64} {R : Nat → Nat → Nat} {q : Nat} {u : Int32} {A B K : Nat → Int} {d : Int} (hc : CM C Z I R q 1 u A B K d) (hE : LayE C Z R) (kf : isa (C q) 1 = true)
    (hu : u.toInt = 1 ∨ u.toInt = 2 ∨ u.toInt = 4) (hA : ∀ i, i < 9 → bn 12 (A i)) (zA : ∀ i k, i < 3 → k < 3 → (1 ≤ i ∨ 1 ≤ k) → A (3 * i + k) = 0) {k pc : Nat} {ls : Lo} {st : List Value} {Q : Option Value → Hp → Prop} (go : ∀ L' I', (∀ c, c < 66 ∨ 72 < c → L' c = L c) → (∀ c, c ≠ 66 → I' c = I c) → (L' 66 3 = wL (eD true 1 u.toInt A) ∧ ∀ i, i < 3 → L' 72 i = wL (eN true 1 u.toInt A i)) → (I' 66 4 = nI 1 ∧ I' 66 5 = if eD true 1 u.toInt A = 0 then 0 else 1) → Wp k pc ls st (n, sl, C, Z, I', L', R) Q) : Call 1 [some (.ref 66), some (.ref q), none] (n, sl, C, Z, I, L, R) k pc ls st Q := by
  obtain ⟨⟨g0, g1, g2, g3, g4, g5⟩, ⟨r3, r4, r5, r6⟩, ⟨c1, c2, c3, c4, z1, z2, z3, z4⟩, ma, mb1, mc1, md⟩ := id hc
  unfold LayE at hE
  have n0 : nI 1 = 1 := rfl
  have qn : ∀ c, c < 99 → ¬ q = c := fun c h => by omega
  have bD := bn_eD (fl := true) (s := 1) hu hA
  have e0 : wL (eD true 1 u.toInt A) = 0 ↔ eD true 1 u.toInt A = 0 := by unfold bn at bD; exact wL_eq0 (by omega) (by omega)
  obtain ⟨D, hD⟩ : ∃ D, D = eD true 1 u.toInt A := ⟨_, rfl⟩
  have eq0 : dt3 (eC true 1 u.toInt A 0) (eC true 1 u.toInt A 1) (eC true 1 u.toInt A 2) = D := by rw [hD]; rfl
  have m2 : (-2 : Int64) = wL (-2) := rfl
  have p2 : (2 : Int64) = wL 2 := rfl
  have zA1 : A 1 = 0 := zA 0 1 (by omega) (by omega) (by omega)
  have zA3 : A 3 = 0 := zA 1 0 (by omega) (by omega) (by omega)
  have zA4 : A 4 = 0 := zA 1 1 (by omega) (by omega) (by omega)
  simp [S1_0, S1_1, S1_2, S1_3, S1_4, S1_5, S1_6, S2_0, S2_1, S2_2, S3_0, S3_1, S4_0, S5_0, S6_0, Call_in (k2 := 1), Call_in (k2 := 2), Call_in (k2 := 3), Call_in (k2 := 4), Call_in (k2 := 5), Call_in (k2 := 6), BS, ixs, inbs, hE, g0, g1, g4, g5, r3, c1, z1, ma, n0, kf, wL_i2l, wL_mul, wL_add, wL_sub, wL_neg, ← wL_0, ← wL_1, m2, p2, u2_rd, qn, zA1, zA3, zA4]
  have fin : ∀ L1 I1, (∀ c, c < 66 ∨ 72 < c → L1 c = L c) → (∀ c, c ≠ 66 → I1 c = I c) → ((L1 68 0 = wL (eC true 1 u.toInt A 0 0) ∧ L1 68 1 = wL (eC true 1 u.toInt A 0 1) ∧ L1 68 2 = wL (eC true 1 u.toInt A 0 2)) ∧ (L1 69 0 = wL (eC true 1 u.toInt A 1 0) ∧ L1 69 1 = wL (eC true 1 u.toInt A 1 1) ∧ L1 69 2 = wL (eC true 1 u.toInt A 1 2)) ∧ (L1 70 0 = wL (eC true 1 u.toInt A 2 0) ∧ L1 70 1 = wL (eC true 1 u.toInt A 2 1) ∧ L1 70 2 = wL (eC true 1 u.toInt A 2 2)) ∧ L1 71 0 = wL (eS true 1 u.toInt 0) ∧ L1 71 1 = wL (eS true 1 u.toInt 1) ∧ L1 71 2 = wL (eS true 1 u.toInt 2)) → I1 66 4 = 1 → ∀ l1 l2, Call 41 [some (.ref 68), some (.ref 69), some (.ref 70)] (n, sl, C, Z, I1, L1, R) 1 158 [some (.ref 66), l1, l2] [.ref 66] (fun r h1 => Wp k pc ls (r.toList ++ st) h1 Q) := by
    intro L1 I1 fL fI hv hs l1 l2
    by_cases d0 : D = 0
    · have e1 : wL D = 0 := by rw [d0]; rfl
      simp [S1_0, S1_1, S1_2, S1_3, S1_4, S1_5, S1_6, BS, ixs, inbs, hE, hv, u2_rd, eq0, lg_eq, e1, c_whk (eC true 1 u.toInt A 0) (eC true 1 u.toInt A 1) (eC true 1 u.toInt A 2) 68 69 70, c_whk (eS true 1 u.toInt) (eC true 1 u.toInt A 1) (eC true 1 u.toInt A 2) 71 69 70, c_whk (eC true 1 u.toInt A 0) (eS true 1 u.toInt) (eC true 1 u.toInt A 2) 68 71 70, c_whk (eC true 1 u.toInt A 0) (eC true 1 u.toInt A 1) (eS true 1 u.toInt) 68 69 71]
      refine go _ _ (fun c hc => ?_) (fun c hc => ?_) ⟨?_, fun i hi => ?_⟩ ⟨?_, ?_⟩
      · repeat (first | rw [u2_ne _ _ _ (by omega)])
        exact fL c hc
      · repeat (first | rw [u2_ne _ _ _ (by omega)])
        exact fI c hc
      · simp [u2_rd, ← hD, e1]
      · rcases i3 hi with rfl | rfl | rfl <;> simp [u2_rd, eN]
      · simp [u2_rd, hs, n0]
      · simp [u2_rd, ← hD, d0]
    · have e1 : ¬ wL D = 0 := by rw [hD, e0, ← hD]; exact d0
      simp [S1_0, S1_1, S1_2, S1_3, S1_4, S1_5, S1_6, BS, ixs, inbs, hE, hv, u2_rd, eq0, lg_eq, e1, c_whk (eC true 1 u.toInt A 0) (eC true 1 u.toInt A 1) (eC true 1 u.toInt A 2) 68 69 70, c_whk (eS true 1 u.toInt) (eC true 1 u.toInt A 1) (eC true 1 u.toInt A 2) 71 69 70, c_whk (eC true 1 u.toInt A 0) (eS true 1 u.toInt) (eC true 1 u.toInt A 2) 68 71 70, c_whk (eC true 1 u.toInt A 0) (eC true 1 u.toInt A 1) (eS true 1 u.toInt) 68 69 71]
      refine go _ _ (fun c hc => ?_) (fun c hc => ?_) ⟨?_, fun i hi => ?_⟩ ⟨?_, ?_⟩
      · repeat (first | rw [u2_ne _ _ _ (by omega)])
        exact fL c hc
      · repeat (first | rw [u2_ne _ _ _ (by omega)])
        exact fI c hc
      · simp [u2_rd, ← hD]
      · rcases i3 hi with rfl | rfl | rfl <;> simp [u2_rd, eN]
      · simp [u2_rd, hs, n0]
      · simp [u2_rd, ← hD, d0]
  refine fin _ _ (fun c hc => ?_) (fun c hc => ?_) ?_ ?_ _ _
  · repeat (first | rw [u2_ne _ _ _ (by omega)])
  · repeat (first | rw [u2_ne _ _ _ (by omega)])
  · simp [u2_rd, eC, eS, zA1, zA3, zA4]
    try grind
  · simp [u2_rd]
set_option maxRecDepth 100000 in
set_option maxHeartbeats 8000000 in
theorem c_eFill_2f {n sl : Nat} {C Z : Nat → Nat} {I : Nat → Nat → Int32} {L : Nat → Nat → Int64} {R : Nat → Nat → Nat} {q : Nat} {u : Int32} {A B K : Nat → Int} {d : Int} (hc : CM C Z I R q 2 u A B K d) (hE : LayE C Z R) (kf : isa (C q) 1 = true)
    (hu : u.toInt = 1 ∨ u.toInt = 2 ∨ u.toInt = 4) (hA : ∀ i, i < 9 → bn 12 (A i)) (zA : ∀ i k, i < 3 → k < 3 → (2 ≤ i ∨ 2 ≤ k) → A (3 * i + k) = 0) {k pc : Nat} {ls : Lo} {st : List Value} {Q : Option Value → Hp → Prop} (go : ∀ L' I', (∀ c, c < 66 ∨ 72 < c → L' c = L c) → (∀ c, c ≠ 66 → I' c = I c) → (L' 66 3 = wL (eD true 2 u.toInt A) ∧ ∀ i, i < 3 → L' 72 i = wL (eN true 2 u.toInt A i)) → (I' 66 4 = nI 2 ∧ I' 66 5 = if eD true 2 u.toInt A = 0 then 0 else 1) → Wp k pc ls st (n, sl, C, Z, I', L', R) Q) : Call 1 [some (.ref 66), some (.ref q), none] (n, sl, C, Z, I, L, R) k pc ls st Q := by
  obtain ⟨⟨g0, g1, g2, g3, g4, g5⟩, ⟨r3, r4, r5, r6⟩, ⟨c1, c2, c3, c4, z1, z2, z3, z4⟩, ma, mb1, mc1, md⟩ := id hc
  unfold LayE at hE
  have n0 : nI 2 = 2 := rfl
  have qn : ∀ c, c < 99 → ¬ q = c := fun c h => by omega
  have bD := bn_eD (fl := true) (s := 2) hu hA
  have e0 : wL (eD true 2 u.toInt A) = 0 ↔ eD true 2 u.toInt A = 0 := by unfold bn at bD; exact wL_eq0 (by omega) (by omega)
  obtain ⟨D, hD⟩ : ∃ D, D = eD true 2 u.toInt A := ⟨_, rfl⟩
  have eq0 : dt3 (eC true 2 u.toInt A 0) (eC true 2 u.toInt A 1) (eC true 2 u.toInt A 2) = D := by rw [hD]; rfl
  have m2 : (-2 : Int64) = wL (-2) := rfl
  have p2 : (2 : Int64) = wL 2 := rfl
  simp [S1_0, S1_1, S1_2, S1_3, S1_4, S1_5, S1_6, S2_0, S2_1, S2_2, S3_0, S3_1, S4_0, S5_0, S6_0, Call_in (k2 := 1), Call_in (k2 := 2), Call_in (k2 := 3), Call_in (k2 := 4), Call_in (k2 := 5), Call_in (k2 := 6), BS, ixs, inbs, hE, g0, g1, g4, g5, r3, c1, z1, ma, n0, kf, wL_i2l, wL_mul, wL_add, wL_sub, wL_neg, ← wL_0, ← wL_1, m2, p2, u2_rd, qn]
  have fin : ∀ L1 I1, (∀ c, c < 66 ∨ 72 < c → L1 c = L c) → (∀ c, c ≠ 66 → I1 c = I c) → ((L1 68 0 = wL (eC true 2 u.toInt A 0 0) ∧ L1 68 1 = wL (eC true 2 u.toInt A 0 1) ∧ L1 68 2 = wL (eC true 2 u.toInt A 0 2)) ∧ (L1 69 0 = wL (eC true 2 u.toInt A 1 0) ∧ L1 69 1 = wL (eC true 2 u.toInt A 1 1) ∧ L1 69 2 = wL (eC true 2 u.toInt A 1 2)) ∧ (L1 70 0 = wL (eC true 2 u.toInt A 2 0) ∧ L1 70 1 = wL (eC true 2 u.toInt A 2 1) ∧ L1 70 2 = wL (eC true 2 u.toInt A 2 2)) ∧ L1 71 0 = wL (eS true 2 u.toInt 0) ∧ L1 71 1 = wL (eS true 2 u.toInt 1) ∧ L1 71 2 = wL (eS true 2 u.toInt 2)) → I1 66 4 = 2 → ∀ l1 l2, Call 41 [some (.ref 68), some (.ref 69), some (.ref 70)] (n, sl, C, Z, I1, L1, R) 1 158 [some (.ref 66), l1, l2] [.ref 66] (fun r h1 => Wp k pc ls (r.toList ++ st) h1 Q) := by
    intro L1 I1 fL fI hv hs l1 l2
    by_cases d0 : D = 0
    · have e1 : wL D = 0 := by rw [d0]; rfl
      simp [S1_0, S1_1, S1_2, S1_3, S1_4, S1_5, S1_6, BS, ixs, inbs, hE, hv, u2_rd, eq0, lg_eq, e1, c_whk (eC true 2 u.toInt A 0) (eC true 2 u.toInt A 1) (eC true 2 u.toInt A 2) 68 69 70, c_whk (eS true 2 u.toInt) (eC true 2 u.toInt A 1) (eC true 2 u.toInt A 2) 71 69 70, c_whk (eC true 2 u.toInt A 0) (eS true 2 u.toInt) (eC true 2 u.toInt A 2) 68 71 70, c_whk (eC true 2 u.toInt A 0) (eC true 2 u.toInt A 1) (eS true 2 u.toInt) 68 69 71]
      refine go _ _ (fun c hc => ?_) (fun c hc => ?_) ⟨?_, fun i hi => ?_⟩ ⟨?_, ?_⟩
      · repeat (first | rw [u2_ne _ _ _ (by omega)])
        exact fL c hc
      · repeat (first | rw [u2_ne _ _ _ (by omega)])
        exact fI c hc
      · simp [u2_rd, ← hD, e1]
      · rcases i3 hi with rfl | rfl | rfl <;> simp [u2_rd, eN]
      · simp [u2_rd, hs, n0]
      · simp [u2_rd, ← hD, d0]
    · have e1 : ¬ wL D = 0 := by rw [hD, e0, ← hD]; exact d0
      simp [S1_0, S1_1, S1_2, S1_3, S1_4, S1_5, S1_6, BS, ixs, inbs, hE, hv, u2_rd, eq0, lg_eq, e1, c_whk (eC true 2 u.toInt A 0) (eC true 2 u.toInt A 1) (eC true 2 u.toInt A 2) 68 69 70, c_whk (eS true 2 u.toInt) (eC true 2 u.toInt A 1) (eC true 2 u.toInt A 2) 71 69 70, c_whk (eC true 2 u.toInt A 0) (eS true 2 u.toInt) (eC true 2 u.toInt A 2) 68 71 70, c_whk (eC true 2 u.toInt A 0) (eC true 2 u.toInt A 1) (eS true 2 u.toInt) 68 69 71]
      refine go _ _ (fun c hc => ?_) (fun c hc => ?_) ⟨?_, fun i hi => ?_⟩ ⟨?_, ?_⟩
      · repeat (first | rw [u2_ne _ _ _ (by omega)])
        exact fL c hc
      · repeat (first | rw [u2_ne _ _ _ (by omega)])
        exact fI c hc
      · simp [u2_rd, ← hD]
      · rcases i3 hi with rfl | rfl | rfl <;> simp [u2_rd, eN]
      · simp [u2_rd, hs, n0]
      · simp [u2_rd, ← hD, d0]
  refine fin _ _ (fun c hc => ?_) (fun c hc => ?_) ?_ ?_ _ _
  · repeat (first | rw [u2_ne _ _ _ (by omega)])
  · repeat (first | rw [u2_ne _ _ _ (by omega)])
  · simp [u2_rd, eC, eS]
    try grind
  · simp [u2_rd]
set_option maxRecDepth 100000 in
set_option maxHeartbeats 8000000 in
theorem c_eAt3 {n sl : Nat} {C Z : Nat → Nat} {I : Nat → Nat → Int32} {L : Nat → Nat → Int64} {R : Nat → Nat → Nat} {q : Nat} {u : Int32} {A B K : Nat → Int} {d : Int} (hc : CM C Z I R q 3 u A B K d) (hE : LayE C Z R) {k pc : Nat} {ls : Lo} {st : List Value} {Q : Option Value → Hp → Prop} (go : ∀ I', (∀ c, c ≠ 66 → I' c = I c) → I' 66 4 = 3 → I' 66 5 = 0 → Wp k pc ls st (n, sl, C, Z, I', L, R) Q) : Call 1 [some (.ref 66), some (.ref q), none] (n, sl, C, Z, I, L, R) k pc ls st Q := by
  obtain ⟨⟨g0, g1, g2, g3, g4, g5⟩, -⟩ := id hc
  unfold LayE at hE
  have n0 : nI 3 = 3 := rfl
  simp [S1_0, S1_1, S1_2, S1_3, S1_4, S1_5, S1_6, Call_in (k2 := 1), BS, ixs, inbs, hE, g0, g1, g4, n0, u2_rd]
  refine go _ (fun c hc => ?_) ?_ ?_
  · repeat (first | rw [u2_ne _ _ _ (by omega)])
  · simp [u2_rd]
  · simp [u2_rd]
