/-! gain: Ackermann's rule against the equations solved -/
theorem fn_mul {a b d : Int} (hb : ¬ b = 0) (hd : ¬ d = 0) : fn (a * d) (b * d) = fn a b ∧ fd (a * d) (b * d) = fd a b := by
  rcases Int.lt_trichotomy d 0 with h | h | h
  · have s := fn_scale (a := -(a * d)) (b := -(b * d)) (a2 := a) (b2 := b) (c := -d) (by omega) (by grind) (by grind)
    have g := fn_sg (fl := false) (a := a * d) (b := b * d) (by
      intro e
      rcases Int.mul_eq_zero.mp e with q | q
      · exact hb q
      · exact hd q)
    have e1 : ∀ x : Int, sg false * x = -x := fun x => by simp [sg]
    rw [e1, e1] at g
    exact ⟨by rw [← g.1, s.1], by rw [← g.2, s.2]⟩
  · exact absurd h hd
  · exact fn_scale (c := d) h (by grind) (by grind)
theorem fn_cross {a b c d : Int} (h : a * d = c * b) (hb : ¬ b = 0) (hd : ¬ d = 0) : fn a b = fn c d ∧ fd a b = fd c d := by
  have h1 := fn_mul (a := a) hb hd
  have h2 := fn_mul (a := c) hd hb
  rw [h, Int.mul_comm b d] at h1
  exact ⟨by rw [← h1.1, h2.1], by rw [← h1.2, h2.2]⟩
def ld (s : Nat) (A B : Nat → Int) (c : Nat) : Int :=
  if s = 3 then (if c = 0 then pw A B 0 1 * pw A B 1 2 - pw A B 0 2 * pw A B 1 1 else if c = 1 then pw A B 0 2 * pw A B 1 0 - pw A B 0 0 * pw A B 1 2 else pw A B 0 0 * pw A B 1 1 - pw A B 0 1 * pw A B 1 0)
  else if s = 2 then (if c = 0 then -pw A B 0 1 else if c = 1 then pw A B 0 0 else 0)
  else (if c = 0 then 1 else 0)
def gA (A l w : Nat → Int) (p : Int) (c : Nat) : Int := vm w A c + p * l c
def gn (s : Nat) (A B P : Nat → Int) : Nat → Int :=
  if s = 3 then gA A (ld s A B) (gA A (ld s A B) (gA A (ld s A B) (ld s A B) (P 2)) (P 1)) (P 0)
  else if s = 2 then gA A (ld s A B) (gA A (ld s A B) (ld s A B) (P 1)) (P 0)
  else gA A (ld s A B) (ld s A B) (P 0)
def gl (s : Nat) (A B : Nat → Int) : Int :=
  if s = 3 then ld s A B 0 * pw A B 2 0 + ld s A B 1 * pw A B 2 1 + ld s A B 2 * pw A B 2 2
  else if s = 2 then ld s A B 0 * pw A B 1 0 + ld s A B 1 * pw A B 1 1
  else ld s A B 0 * pw A B 0 0
/-- the reference's equations -/
def gG (s : Nat) (u : Int) (A B : Nat → Int) (j k : Nat) : Int :=
  if s = 3 then (if j = 0 then op A 3 1 * u * pw A B 0 k + op A 3 2 * u * pw A B 1 k + op A 3 3 * u * pw A B 2 k else if j = 1 then op A 3 2 * u * pw A B 0 k + op A 3 3 * u * pw A B 1 k else op A 3 3 * u * pw A B 0 k)
  else if s = 2 then (if j = 0 then op A 2 1 * u * pw A B 0 k + op A 2 2 * u * pw A B 1 k else op A 2 2 * u * pw A B 0 k)
  else op A 1 1 * u * pw A B 0 k
def gv (s : Nat) (A P : Nat → Int) (j : Nat) : Int := P j - op A s j
def gw (s : Nat) (G : Nat → Nat → Int) (v : Nat → Int) (c : Nat) : Int :=
  if s = 3 then dt3 (fun i => if i = c then v 0 else G 0 i) (fun i => if i = c then v 1 else G 1 i) (fun i => if i = c then v 2 else G 2 i)
  else if s = 2 then (if c = 0 then v 0 * G 1 1 - G 0 1 * v 1 else if c = 1 then G 0 0 * v 1 - v 0 * G 1 0 else G 0 0 * G 1 1 - G 0 1 * G 1 0)
  else (if c = 0 then v 0 else G 0 0)
theorem op_top (A : Nat → Int) (s : Nat) : op A s s = 1 := by unfold op; rw [Nat.sub_self]; rfl
/-- the numbers below the line -/
theorem gw_det {s : Nat} {u : Int} {A B : Nat → Int} (hs : s = 1 ∨ s = 2 ∨ s = 3) (v : Nat → Int) : gw s (gG s u A B) v 9 = (if s = 3 then -(u * u * u) else if s = 2 then -(u * u) else u) * gl s A B := by
  rcases hs with rfl | rfl | rfl
  · have t := op_top A 1
    simp [gw, gG, gl, ld, t]
  · have t := op_top A 2
    simp [gw, gG, gl, ld, t]
    generalize op A 2 1 = o
    generalize pw A B 0 = x
    generalize pw A B 1 = y
    grind
  · have t := op_top A 3
    simp [gw, gG, gl, ld, t, dt3]
    generalize op A 3 1 = o
    generalize op A 3 2 = q
    generalize pw A B 0 = x
    generalize pw A B 1 = y
    generalize pw A B 2 = z
    grind
theorem dot_gA (A l w x : Nat → Int) (p : Int) : dot (gA A l w p) x = dot w (mv A x) + p * dot l x := by
  unfold dot gA vm mv
  grind
theorem cramer3 (G : Nat → Nat → Int) (w v : Nat → Int) (t : Int) (h0 : dot (G 0) w = t * v 0) (h1 : dot (G 1) w = t * v 1) (h2 : dot (G 2) w = t * v 2) (c : Nat) (hc : c < 3) : w c * dt3 (G 0) (G 1) (G 2) = dt3 (fun i => if i = c then v 0 else G 0 i) (fun i => if i = c then v 1 else G 1 i) (fun i => if i = c then v 2 else G 2 i) * t := by
  unfold dot at h0 h1 h2
  generalize G 0 = x at *
  generalize G 1 = y at *
  generalize G 2 = z at *
  rcases (by omega : c = 0 ∨ c = 1 ∨ c = 2) with rfl | rfl | rfl
  · simp [dt3]
    have : (v 0 * (y 1 * z 2 - y 2 * z 1) - x 1 * (v 1 * z 2 - y 2 * v 2) + x 2 * (v 1 * z 1 - y 1 * v 2)) * t = (t * v 0) * (y 1 * z 2 - y 2 * z 1) - x 1 * ((t * v 1) * z 2 - y 2 * (t * v 2)) + x 2 * ((t * v 1) * z 1 - y 1 * (t * v 2)) := by grind
    rw [this, ← h0, ← h1, ← h2]
    grind
  · simp [dt3]
    have : (x 0 * (v 1 * z 2 - y 2 * v 2) - v 0 * (y 0 * z 2 - y 2 * z 0) + x 2 * (y 0 * v 2 - v 1 * z 0)) * t = x 0 * ((t * v 1) * z 2 - y 2 * (t * v 2)) - (t * v 0) * (y 0 * z 2 - y 2 * z 0) + x 2 * (y 0 * (t * v 2) - (t * v 1) * z 0) := by grind
    rw [this, ← h0, ← h1, ← h2]
    grind
  · simp [dt3]
    have : (x 0 * (y 1 * v 2 - v 1 * z 1) - x 1 * (y 0 * v 2 - v 1 * z 0) + v 0 * (y 0 * z 1 - y 1 * z 0)) * t = x 0 * (y 1 * (t * v 2) - (t * v 1) * z 1) - x 1 * (y 0 * (t * v 2) - (t * v 1) * z 0) + (t * v 0) * (y 0 * z 1 - y 1 * z 0) := by grind
    rw [this, ← h0, ← h1, ← h2]
    grind
theorem dot_pw_ch (A B l : Nat → Int) (k : Nat) : dot l (pw A B (k + 3)) = -(cf A 1) * dot l (pw A B (k + 2)) - cf A 2 * dot l (pw A B (k + 1)) - cf A 3 * dot l (pw A B k) := by
  unfold dot
  rw [pw_ch A B k 0 (by omega), pw_ch A B k 1 (by omega), pw_ch A B k 2 (by omega)]
  grind
theorem gG3_dot (u : Int) (A B w : Nat → Int) : dot (gG 3 u A B 2) w = u * dot w (pw A B 0) ∧ dot (gG 3 u A B 1) w = u * (cf A 1 * dot w (pw A B 0) + dot w (pw A B 1)) ∧ dot (gG 3 u A B 0) w = u * (cf A 2 * dot w (pw A B 0) + cf A 1 * dot w (pw A B 1) + dot w (pw A B 2)) := by
  have c0 : cf A 0 = 1 := rfl
  simp only [dot, gG, op]
  simp only [if_true, Nat.reduceSub, c0]
  generalize pw A B 0 = x
  generalize pw A B 1 = y
  generalize pw A B 2 = z
  generalize cf A 1 = c
  generalize cf A 2 = d
  refine ⟨?_, ?_, ?_⟩
  · simp; grind
  · simp; grind
  · simp; grind
theorem gain_cross {s : Nat} {u : Int} {A B P : Nat → Int} (hs : s = 1 ∨ s = 2 ∨ s = 3) (zA : ∀ i k, i < 3 → k < 3 → s ≤ i ∨ s ≤ k → A (3 * i + k) = 0) (zB : ∀ i, i < 3 → s ≤ i → B i = 0) {c : Nat} (hc : c < s) : gn s A B P c * gw s (gG s u A B) (gv s A P) 9 = gw s (gG s u A B) (gv s A P) c * (u * gl s A B) := by
  rcases hs with rfl | rfl | rfl
  · have t := op_top A 1
    have t0 : op A 1 0 = -A 0 := by
      have a4 := zA 1 1 (by omega) (by omega) (by omega)
      have a8 := zA 2 2 (by omega) (by omega) (by omega)
      simp at a4 a8
      simp [op, cf, a4, a8]
    rw [show c = 0 by omega]
    simp [gw, gG, gl, ld, t, gn, gv, gA, vm, t0, pw]
    grind
  · have t := op_top A 2
    have a2 := zA 0 2 (by omega) (by omega) (by omega)
    have a5 := zA 1 2 (by omega) (by omega) (by omega)
    have a6 := zA 2 0 (by omega) (by omega) (by omega)
    have a7 := zA 2 1 (by omega) (by omega) (by omega)
    have a8 := zA 2 2 (by omega) (by omega) (by omega)
    have b2 := zB 2 (by omega) (by omega)
    simp at a2 a5 a6 a7 a8
    have t1 : op A 2 1 = -(A 0 + A 4) := by simp [op, cf, a8]
    have t0 : op A 2 0 = A 0 * A 4 - A 1 * A 3 := by simp [op, cf, a2, a5, a6, a7, a8]
    rcases (by omega : c = 0 ∨ c = 1) with rfl | rfl
    · simp [gw, gG, gl, ld, t, gn, gv, gA, vm, t0, t1, pw, mv, a2, a5, a6, a7, a8, b2]
      grind
    · simp [gw, gG, gl, ld, t, gn, gv, gA, vm, t0, t1, pw, mv, a2, a5, a6, a7, a8, b2]
      grind
  · have t := op_top A 3
    obtain ⟨l, hl⟩ : ∃ l, l = ld 3 A B := ⟨_, rfl⟩
    obtain ⟨w, hw⟩ : ∃ w, w = gn 3 A B P := ⟨_, rfl⟩
    have m0 : dot l (pw A B 0) = 0 := by rw [hl]; simp [dot, ld]; grind
    have m1 : dot l (pw A B 1) = 0 := by rw [hl]; simp [dot, ld]; grind
    have m2 : dot l (pw A B 2) = gl 3 A B := by rw [hl]; simp [dot, gl]
    have m3 := dot_pw_ch A B l 0
    have m4 := dot_pw_ch A B l 1
    have m5 := dot_pw_ch A B l 2
    simp only [Nat.zero_add] at m3
    have wk : ∀ k, dot w (pw A B k) = dot l (pw A B (k + 3)) + P 2 * dot l (pw A B (k + 2)) + P 1 * dot l (pw A B (k + 1)) + P 0 * dot l (pw A B k) := fun k => by
      rw [hw]
      simp only [gn, if_true]
      rw [← hl, dot_gA, show mv A (pw A B k) = pw A B (k + 1) from rfl, dot_gA, show mv A (pw A B (k + 1)) = pw A B (k + 2) from rfl, dot_gA, show mv A (pw A B (k + 2)) = pw A B (k + 3) from rfl]
    have w0 := wk 0
    have w1 := wk 1
    have w2 := wk 2
    simp only [Nat.zero_add, Nat.reduceAdd] at w0 w1 w2 m3 m4 m5
    obtain ⟨g, hg⟩ : ∃ g, g = gl 3 A B := ⟨_, rfl⟩
    rw [← hg] at m2
    rw [m0, m1, m2] at m3
    rw [m1, m2, m3] at m4
    rw [m2, m3, m4] at m5
    rw [m0, m1, m2, m3] at w0
    rw [m1, m2, m3, m4] at w1
    rw [m2, m3, m4, m5] at w2
    obtain ⟨d2, d1, d0⟩ := gG3_dot u A B w
    rw [w0] at d2
    rw [w0, w1] at d1
    rw [w0, w1, w2] at d0
    have v0 : gv 3 A P 0 = P 0 - cf A 3 := rfl
    have v1 : gv 3 A P 1 = P 1 - cf A 2 := rfl
    have v2 : gv 3 A P 2 = P 2 - cf A 1 := rfl
    have h2 : dot (gG 3 u A B 2) w = u * g * gv 3 A P 2 := by
      rw [d2, v2]
      clear d0 d1 d2 w0 w1 w2 m0 m1 m2 m3 m4 m5 wk v0 v1 v2
      grind
    have h1 : dot (gG 3 u A B 1) w = u * g * gv 3 A P 1 := by
      rw [d1, v1]
      clear d0 d1 d2 w0 w1 w2 m0 m1 m2 m3 m4 m5 wk v0 v1 v2 h2
      grind
    have h0 : dot (gG 3 u A B 0) w = u * g * gv 3 A P 0 := by
      rw [d0, v0]
      clear d0 d1 d2 w0 w1 w2 m0 m1 m2 m3 m4 m5 wk v0 v1 v2 h2 h1
      grind
    have cr := cramer3 (gG 3 u A B) w (gv 3 A P) (u * g) h0 h1 h2 c hc
    rw [← hw, ← hg]
    have e9 : gw 3 (gG 3 u A B) (gv 3 A P) 9 = dt3 (gG 3 u A B 0) (gG 3 u A B 1) (gG 3 u A B 2) := by simp [gw, dt3]
    rw [e9, cr]
    simp [gw]
theorem rk_le {X : Nat → Nat → Int} {m r : Nat} (h : IsRk X m r) : ((∀ i j k, i < m → j < m → k < m → dt3 (X i) (X j) (X k) = 0) → r ≤ 2) ∧ ((∀ i j, i < m → j < m → ¬ fr2 (X i) (X j)) → r ≤ 1) ∧ ((∀ i, i < m → ¬ fr1 (X i)) → r = 0) := by
  have k := rk_minors (X := X) (m := m)
  have a0 : (∀ i, i < m → ¬ fr1 (X i)) → r = 0 := fun g => h.uniq (k.2.2.2 g)
  have a1 : (∀ i j, i < m → j < m → ¬ fr2 (X i) (X j)) → r ≤ 1 := fun g => by
    by_cases e : ∃ i, i < m ∧ fr1 (X i)
    · have := h.uniq (k.2.2.1 g e); omega
    · have := a0 (fun i hi q => e ⟨i, hi, q⟩); omega
  refine ⟨fun g => ?_, a1, a0⟩
  by_cases e : ∃ i j, i < m ∧ j < m ∧ fr2 (X i) (X j)
  · have := h.uniq (k.2.1 g e); omega
  · have := a1 (fun i j hi hj q => e ⟨i, j, hi, hj, q⟩); omega
theorem gl_ne {s : Nat} {A B : Nat → Int} (hs : s = 1 ∨ s = 2 ∨ s = 3) (zA : ∀ i k, i < 3 → k < 3 → s ≤ i ∨ s ≤ k → A (3 * i + k) = 0) (zB : ∀ i, i < 3 → s ≤ i → B i = 0) (h : IsRk (pw A B) 3 s) : ¬ gl s A B = 0 := by
  intro e
  have zp := pw_zero zA zB
  rcases hs with rfl | rfl | rfl
  · have b0 : B 0 = 0 := by simp [gl, ld, pw] at e; exact e
    have := (rk_le h).2.2 (fun i hi => ?_)
    · omega
    · have p0 : ∀ k, pw A B k 0 = 0 := by
        intro k
        induction k with
        | zero => exact b0
        | succ k ih =>
          show mv A (pw A B k) 0 = 0
          unfold mv
          rw [ih, zp k 1 (by omega) (by omega), zp k 2 (by omega) (by omega)]; simp
      unfold fr1
      rw [p0, zp i 1 (by omega) (by omega), zp i 2 (by omega) (by omega)]
      omega
  · have a2 := zA 0 2 (by omega) (by omega) (by omega)
    have a5 := zA 1 2 (by omega) (by omega) (by omega)
    have b2 := zB 2 (by omega) (by omega)
    simp at a2 a5
    have e1 : B 0 * (A 3 * B 0 + A 4 * B 1) - B 1 * (A 0 * B 0 + A 1 * B 1) = 0 := by
      simp [gl, ld, pw, mv, a2, a5, b2] at e
      grind
    have := (rk_le h).2.1 (fr2_all (fun i j hij hi => ?_))
    · omega
    · unfold fr2
      rw [zp i 2 (by omega) (by omega), zp j 2 (by omega) (by omega)]
      have m01 : pw A B 1 0 * pw A B 0 1 = pw A B 1 1 * pw A B 0 0 := by
        simp [pw, mv, a2, a5, b2]; grind
      have m02 : pw A B 2 0 * pw A B 0 1 = pw A B 2 1 * pw A B 0 0 := by
        simp [pw, mv, a2, a5, b2]
        have : A 0 * (A 0 * B 0 + A 1 * B 1) * B 1 + A 1 * (A 3 * B 0 + A 4 * B 1) * B 1 - (A 3 * (A 0 * B 0 + A 1 * B 1) * B 0 + A 4 * (A 3 * B 0 + A 4 * B 1) * B 0) = -(A 0 + A 4) * (B 0 * (A 3 * B 0 + A 4 * B 1) - B 1 * (A 0 * B 0 + A 1 * B 1)) := by grind
        rw [e1] at this
        grind
      have m12 : pw A B 2 0 * pw A B 1 1 = pw A B 2 1 * pw A B 1 0 := by
        simp [pw, mv, a2, a5, b2]
        have : (A 0 * (A 0 * B 0 + A 1 * B 1) + A 1 * (A 3 * B 0 + A 4 * B 1)) * (A 3 * B 0 + A 4 * B 1) - (A 3 * (A 0 * B 0 + A 1 * B 1) + A 4 * (A 3 * B 0 + A 4 * B 1)) * (A 0 * B 0 + A 1 * B 1) = -(A 1 * A 3 - A 0 * A 4) * (B 0 * (A 3 * B 0 + A 4 * B 1) - B 1 * (A 0 * B 0 + A 1 * B 1)) := by grind
        rw [e1] at this
        grind
      rcases (by omega : (i = 1 ∧ j = 0) ∨ (i = 2 ∧ j = 0) ∨ (i = 2 ∧ j = 1)) with ⟨rfl, rfl⟩ | ⟨rfl, rfl⟩ | ⟨rfl, rfl⟩
      · simp [m01]
      · simp [m02]
      · simp [m12]
  · have d : dt3 (pw A B 0) (pw A B 1) (pw A B 2) = 0 := by
      have : gl 3 A B = dt3 (pw A B 0) (pw A B 1) (pw A B 2) := by
        simp [gl, ld, dt3]
        generalize pw A B 0 = x
        generalize pw A B 1 = y
        generalize pw A B 2 = z
        grind
      rw [← this]; exact e
    have := (rk_le h).1 (fun i j k hi hj hk => ?_)
    · omega
    · rcases dt3_abs (pw A B) hi hj hk with q | q
      · exact q
      · rw [d] at q
        exact Int.natAbs_eq_zero.mp q
theorem bn_ld {s : Nat} {A B : Nat → Int} (hA : ∀ i, i < 9 → bn 12 (A i)) (hB : ∀ i, i < 3 → bn 12 (B i)) (c : Nat) : bn 10368 (ld s A B c) := by
  have p := bn_pw hA hB
  have x := fun i (hi : i < 3) => p 0 i hi
  have y := fun i (hi : i < 3) => p 1 i hi
  have z0 : bn 10368 (0 : Int) := by unfold bn; decide
  have z1 : bn 10368 (1 : Int) := by unfold bn; decide
  unfold ld
  repeat' split
  · exact bn_le (bn_sub (bn_mul (x 1 (by omega)) (y 2 (by omega))) (bn_mul (x 2 (by omega)) (y 1 (by omega)))) (by decide)
  · exact bn_le (bn_sub (bn_mul (x 2 (by omega)) (y 0 (by omega))) (bn_mul (x 0 (by omega)) (y 2 (by omega)))) (by decide)
  · exact bn_le (bn_sub (bn_mul (x 0 (by omega)) (y 1 (by omega))) (bn_mul (x 1 (by omega)) (y 0 (by omega)))) (by decide)
  · exact bn_le (bn_neg (x 1 (by omega))) (by decide)
  · exact bn_le (x 0 (by omega)) (by decide)
  · exact z0
  · exact z1
  · exact z0
theorem bn_gA {A l w : Nat → Int} {p : Int} {X Y : Nat} (hA : ∀ i, i < 9 → bn 12 (A i)) (hl : ∀ c, c < 3 → bn X (l c)) (hw : ∀ c, c < 3 → bn Y (w c)) (hp : bn 100 p) : ∀ c, c < 3 → bn (Y * 12 + Y * 12 + Y * 12 + 100 * X) (gA A l w p c) := fun c hc => bn_add (bn_vm hA hw hc) (bn_mul hp (hl c hc))
theorem bn_gn {s : Nat} {A B P : Nat → Int} (hs : s ≤ 3) (hA : ∀ i, i < 9 → bn 12 (A i)) (hB : ∀ i, i < 3 → bn 12 (B i)) (hP : ∀ k, k < s → bn 100 (P k)) (h1 : 1 ≤ s) (c : Nat) (hc : c < 3) : bn 9223372036854775807 (gn s A B P c) := by
  have l := fun c (_ : c < 3) => bn_ld (s := s) hA hB c
  unfold gn
  rcases (by omega : s = 1 ∨ s = 2 ∨ s = 3) with rfl | rfl | rfl
  · simp only [if_neg (show ¬ (1 : Nat) = 3 by omega), if_neg (show ¬ (1 : Nat) = 2 by omega)]
    exact bn_le (bn_gA hA l l (hP 0 (by omega)) c hc) (by decide)
  · simp only [if_neg (show ¬ (2 : Nat) = 3 by omega), if_pos]
    exact bn_le (bn_gA hA l (bn_gA hA l l (hP 1 (by omega))) (hP 0 (by omega)) c hc) (by decide)
  · simp only [if_pos]
    exact bn_le (bn_gA hA l (bn_gA hA l (bn_gA hA l l (hP 2 (by omega))) (hP 1 (by omega))) (hP 0 (by omega)) c hc) (by decide)
theorem bn_gl {s : Nat} {A B : Nat → Int} (hA : ∀ i, i < 9 → bn 12 (A i)) (hB : ∀ i, i < 3 → bn 12 (B i)) : bn 483729408 (gl s A B) := by
  have l := fun c => bn_ld (s := s) hA hB c
  have p := bn_pw hA hB
  unfold gl
  split
  · exact bn_le (bn_add (bn_add (bn_mul (l 0) (p 2 0 (by omega))) (bn_mul (l 1) (p 2 1 (by omega)))) (bn_mul (l 2) (p 2 2 (by omega)))) (by decide)
  · split
    · exact bn_le (bn_add (bn_mul (l 0) (p 1 0 (by omega))) (bn_mul (l 1) (p 1 1 (by omega)))) (by decide)
    · exact bn_le (bn_mul (l 0) (p 0 0 (by omega))) (by decide)
theorem bn_u4 {u : Int} (hu : u = 1 ∨ u = 2 ∨ u = 4) : bn 4 u ∧ ¬ u = 0 := by
  rcases hu with h | h | h <;> rw [h] <;> unfold bn <;> decide
theorem bn_gG {s : Nat} {u : Int} {A B : Nat → Int} (hu : u = 1 ∨ u = 2 ∨ u = 4) (hA : ∀ i, i < 9 → bn 12 (A i)) (hB : ∀ i, i < 3 → bn 12 (B i)) (j k : Nat) (hk : k < 3) : bn 165888 (gG s u A B j k) := by
  obtain ⟨c0, c1, c2, c3⟩ := bn_cf hA
  have u4 := (bn_u4 hu).1
  have p := bn_pw hA hB
  have o31 : bn 864 (op A 3 1) := c2
  have o32 : bn 36 (op A 3 2) := c1
  have o33 : bn 1 (op A 3 3) := c0
  have o21 : bn 36 (op A 2 1) := c1
  have o22 : bn 1 (op A 2 2) := c0
  have o11 : bn 1 (op A 1 1) := c0
  have t : ∀ {X Y : Nat} {o : Int} (e : Nat), bn X o → bn Y (pw A B e k) → bn (X * 4 * Y) (o * u * pw A B e k) := fun e h1 h2 => bn_mul (bn_mul h1 u4) h2
  have p0 := p 0 k hk
  have p1 := p 1 k hk
  have p2 := p 2 k hk
  unfold gG
  repeat' split
  · exact bn_le (bn_add (bn_add (t 0 o31 p0) (t 1 o32 p1)) (t 2 o33 p2)) (by decide)
  · exact bn_le (bn_add (t 0 o32 p0) (t 1 o33 p1)) (by decide)
  · exact bn_le (t 0 o33 p0) (by decide)
  · exact bn_le (bn_add (t 0 o21 p0) (t 1 o22 p1)) (by decide)
  · exact bn_le (t 0 o22 p0) (by decide)
  · exact bn_le (t 0 o11 p0) (by decide)
theorem bn_gv {s : Nat} {A P : Nat → Int} (hs : s ≤ 3) (hA : ∀ i, i < 9 → bn 12 (A i)) (hP : ∀ k, k < s → bn 100 (P k)) (j : Nat) (hj : j < s) : bn 165888 (gv s A P j) := by
  obtain ⟨c0, c1, c2, c3⟩ := bn_cf hA
  unfold gv op
  have hp := hP j hj
  rcases (by omega : s - j = 1 ∨ s - j = 2 ∨ s - j = 3) with e | e | e <;> rw [e]
  · exact bn_le (bn_sub hp c1) (by decide)
  · exact bn_le (bn_sub hp c2) (by decide)
  · exact bn_le (bn_sub hp c3) (by decide)
theorem bn_gw {s : Nat} {u : Int} {A B P : Nat → Int} (hu : u = 1 ∨ u = 2 ∨ u = 4) (h1 : 1 ≤ s) (hs : s ≤ 3) (hA : ∀ i, i < 9 → bn 12 (A i)) (hB : ∀ i, i < 3 → bn 12 (B i)) (hP : ∀ k, k < s → bn 100 (P k)) (c : Nat) : bn 9223372036854775807 (gw s (gG s u A B) (gv s A P) c) := by
  have g := fun j k (hk : k < 3) => bn_gG (s := s) hu hA hB j k hk
  have v := fun j (hj : j < s) => bn_gv hs hA hP j hj
  unfold gw
  rcases (by omega : s = 1 ∨ s = 2 ∨ s = 3) with rfl | rfl | rfl
  · simp only [if_neg (show ¬ (1 : Nat) = 3 by omega), if_neg (show ¬ (1 : Nat) = 2 by omega)]
    split
    · exact bn_le (v 0 (by omega)) (by decide)
    · exact bn_le (g 0 0 (by omega)) (by decide)
  · simp only [if_neg (show ¬ (2 : Nat) = 3 by omega), if_pos]
    repeat' split
    · exact bn_le (bn_sub (bn_mul (v 0 (by omega)) (g 1 1 (by omega))) (bn_mul (g 0 1 (by omega)) (v 1 (by omega)))) (by decide)
    · exact bn_le (bn_sub (bn_mul (g 0 0 (by omega)) (v 1 (by omega))) (bn_mul (v 0 (by omega)) (g 1 0 (by omega)))) (by decide)
    · exact bn_le (bn_sub (bn_mul (g 0 0 (by omega)) (g 1 1 (by omega))) (bn_mul (g 0 1 (by omega)) (g 1 0 (by omega)))) (by decide)
  · simp only [if_pos]
    have row : ∀ j, j < 3 → ∀ i, i < 3 → bn 165888 (if i = c then gv 3 A P j else gG 3 u A B j i) := fun j hj i hi => by
      split
      · exact v j hj
      · exact g j i hi
    exact bn_le (bn_dt3 (row 0 (by omega)) (row 1 (by omega)) (row 2 (by omega))) (by decide)
/-- both fractions are one -/
theorem gain_frac {s : Nat} {u : Int} {A B P : Nat → Int} (hs : s = 1 ∨ s = 2 ∨ s = 3) (hu : u = 1 ∨ u = 2 ∨ u = 4) (zA : ∀ i k, i < 3 → k < 3 → s ≤ i ∨ s ≤ k → A (3 * i + k) = 0) (zB : ∀ i, i < 3 → s ≤ i → B i = 0) (h : IsRk (pw A B) 3 s) {c : Nat} (hc : c < s) : ¬ u * gl s A B = 0 ∧ ¬ gw s (gG s u A B) (gv s A P) 9 = 0 ∧ fn (gn s A B P c) (u * gl s A B) = fn (gw s (gG s u A B) (gv s A P) c) (gw s (gG s u A B) (gv s A P) 9) ∧ fd (gn s A B P c) (u * gl s A B) = fd (gw s (gG s u A B) (gv s A P) c) (gw s (gG s u A B) (gv s A P) 9) := by
  have g0 := gl_ne hs zA zB h
  have u0 := (bn_u4 hu).2
  have n1 : ¬ u * gl s A B = 0 := fun e => by
    rcases Int.mul_eq_zero.mp e with q | q
    · exact u0 q
    · exact g0 q
  have n2 : ¬ gw s (gG s u A B) (gv s A P) 9 = 0 := by
    rw [gw_det hs]
    intro e
    rcases Int.mul_eq_zero.mp e with q | q
    · rcases hs with rfl | rfl | rfl <;> rcases hu with rfl | rfl | rfl <;> simp at q
    · exact g0 q
  have f := fn_cross (gain_cross (P := P) (u := u) hs zA zB hc) n1 n2
  exact ⟨n1, n2, f.1, f.2⟩
