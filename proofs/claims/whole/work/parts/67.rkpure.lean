/-! bounds for the ranks -/
theorem G2_self {a b : Int} : bn 18446744073709551615 (a * b - a * b) := by
  rw [Int.sub_self]; unfold bn; decide
theorem G2_two {X : Nat → Nat → Int} {m : Nat} (hm : m ≤ 2) : G2 X m := by
  intro p hp h1 h2 i j hi hi2 hj hj2
  rw [show i = j by omega]
  exact G2_self
theorem bn_elB {X : Nat → Nat → Int} {m B : Nat} (hm : 1 ≤ m) (hb : ∀ i c, i < m → c < 3 → bn B (X i c)) : ∀ i c, 1 ≤ i → i < m → c < 3 → bn (B * B + B * B) (el X i c) := by
  intro i c h1 hi hc
  unfold el
  rw [if_neg (by omega)]
  have bx : bn (B * B + B * B) (x3 X i c) := bn_sub (bn_mul (hb i c hi hc) (hb 0 0 (by omega) (by omega))) (bn_mul (hb 0 c (by omega) hc) (hb i 0 hi (by omega)))
  unfold bn at *
  have := Int.natAbs_ediv_le_natAbs (x3 X i c) (g3 X i)
  omega
theorem G2_crude {X : Nat → Nat → Int} {m : Nat} (hb : ∀ i c, i < m → c < 3 → bn 15552 (X i c)) : G2 X m := by
  intro p hp h1 h2 i j hi hi2 hj hj2
  have be := bn_elB (X := sw X 0 p) (m := m) (B := 15552) (by omega) (bn_sw (by omega) hp hb)
  exact bn_le (bn_sub (bn_mul (be i 2 hi hi2 (by omega)) (be j 1 hj hj2 (by omega))) (bn_mul (be j 2 hj hj2 (by omega)) (be i 1 hi hi2 (by omega)))) (by decide)
/-- a row with 0 in column 0 grows no larger -/
theorem el_keep {X : Nat → Nat → Int} {i c B : Nat} (h1 : 1 ≤ i) (hc : c < 3) (p0 : ¬ X 0 0 = 0) (z : X i 0 = 0) (hb : bn B (X i c)) : bn B (el X i c) := by
  unfold el
  rw [if_neg (by omega)]
  have e : ∀ c, x3 X i c = X 0 0 * X i c := fun c => by unfold x3; rw [z]; grind
  have d : X 0 0 ∣ g3 X i := by
    unfold g3
    have f : ∀ c, X 0 0 ∣ x3 X i c := fun c => ⟨X i c, e c⟩
    exact Int.dvd_coe_gcd (Int.dvd_coe_gcd (Int.dvd_coe_gcd (Int.dvd_zero _) (f 0)) (f 1)) (f 2)
  obtain ⟨k, hk⟩ := d
  show bn B (x3 X i c / g3 X i)
  by_cases k0 : k = 0
  · rw [hk, k0]; simp [bn]
  · have q := Int.mul_ediv_cancel' (g3_dvd X i c hc)
    obtain ⟨y, hy⟩ : ∃ y, y = x3 X i c / g3 X i := ⟨_, rfl⟩
    rw [← hy] at q ⊢
    rw [hk, e c, Int.mul_assoc] at q
    have q2 : k * y = X i c := by
      have : X 0 0 * (k * y - X i c) = 0 := by rw [Int.mul_sub]; omega
      have := (Int.mul_eq_zero.mp this).resolve_left p0
      omega
    have := Nat.le_mul_of_pos_left y.natAbs (show 0 < k.natAbs by omega)
    rw [← Int.natAbs_mul, q2] at this
    unfold bn at *
    omega
theorem G2_soon {X : Nat → Nat → Int} (h0 : ∀ c, c < 3 → bn 12 (X 0 c)) (h1 : ∀ c, c < 3 → bn 432 (X 1 c)) (h2 : ∀ c, c < 3 → bn 15552 (X 2 c)) (h3 : ∀ c, c < 3 → bn 419904 (X 3 c)) : G2 X 4 := by
  intro p hp pn pz i j hi hi2 hj hj2
  by_cases e : i = j
  · rw [e]; exact G2_self
  obtain ⟨S, hS⟩ : ∃ S, S = sw X 0 p := ⟨_, rfl⟩
  rw [← hS]
  have s00 : ¬ S 0 0 = 0 := by rw [hS, sw_0]; exact pn
  have fin : ∀ B D : Nat, (∀ c, c < 3 → bn B (el S i c)) → (∀ c, c < 3 → bn D (el S j c)) → B * D + D * B ≤ 18446744073709551615 → bn 18446744073709551615 (el S i 2 * el S j 1 - el S j 2 * el S i 1) := fun B D hB hD hle => bn_le (bn_sub (bn_mul (hB 2 (by omega)) (hD 1 (by omega))) (bn_mul (hD 2 (by omega)) (hB 1 (by omega)))) hle
  have two : ∀ k B D : Nat, 1 ≤ k → (∀ c, c < 3 → bn B (S 0 c)) → (∀ c, c < 3 → bn D (S k c)) → ∀ c, c < 3 → bn (D * B + B * D) (el S k c) := by
    intro k B D hk hB hD c hc
    unfold el
    rw [if_neg (by omega)]
    have bx : bn (D * B + B * D) (x3 S k c) := bn_sub (bn_mul (hD c hc) (hB 0 (by omega))) (bn_mul (hB c hc) (hD 0 (by omega)))
    unfold bn at *
    have := Int.natAbs_ediv_le_natAbs (x3 S k c) (g3 S k)
    omega
  rcases (by omega : p = 0 ∨ p = 1 ∨ p = 2 ∨ p = 3) with rfl | rfl | rfl | rfl
  · -- row 0 is small
    have S0 : S 0 = X 0 := by rw [hS]; rfl
    have sk : ∀ k, 1 ≤ k → k < 4 → ∀ c, c < 3 → bn 10077696 (el S k c) := by
      intro k hk hk4 c hc
      have := two k 12 419904 hk (by rw [S0]; exact h0) (by
        intro c hc
        rcases (by omega : k = 1 ∨ k = 2 ∨ k = 3) with rfl | rfl | rfl
        · rw [show S 1 = X 1 from by rw [hS]; rfl]; exact bn_le (h1 c hc) (by decide)
        · rw [show S 2 = X 2 from by rw [hS]; rfl]; exact bn_le (h2 c hc) (by decide)
        · rw [show S 3 = X 3 from by rw [hS]; rfl]; exact h3 c hc) c hc
      exact bn_le this (by decide)
    exact fin _ _ (sk i hi hi2) (sk j hj hj2) (by decide)
  · have S0 : S 0 = X 1 := by rw [hS]; rfl
    have sk : ∀ k, 1 ≤ k → k < 4 → ∀ c, c < 3 → bn 362797056 (el S k c) := by
      intro k hk hk4 c hc
      have := two k 432 419904 hk (by rw [S0]; exact h1) (by
        intro c hc
        rcases (by omega : k = 1 ∨ k = 2 ∨ k = 3) with rfl | rfl | rfl
        · rw [show S 1 = X 0 from by rw [hS]; rfl]; exact bn_le (h0 c hc) (by decide)
        · rw [show S 2 = X 2 from by rw [hS]; rfl]; exact bn_le (h2 c hc) (by decide)
        · rw [show S 3 = X 3 from by rw [hS]; rfl]; exact h3 c hc) c hc
      exact bn_le this (by decide)
    exact fin _ _ (sk i hi hi2) (sk j hj hj2) (by decide)
  · have S0 : S 0 = X 2 := by rw [hS]; rfl
    have S1 : S 1 = X 1 := by rw [hS]; rfl
    have S2 : S 2 = X 0 := by rw [hS]; rfl
    have k1 : ∀ c, c < 3 → bn 432 (el S 1 c) := fun c hc => el_keep (by omega) hc s00 (by rw [S1]; exact pz 1 (by omega)) (by rw [S1]; exact h1 c hc)
    have k2 : ∀ c, c < 3 → bn 432 (el S 2 c) := fun c hc => el_keep (by omega) hc s00 (by rw [S2]; exact pz 0 (by omega)) (by rw [S2]; exact bn_le (h0 c hc) (by decide))
    have k3 : ∀ c, c < 3 → bn 13060694016 (el S 3 c) := fun c hc => bn_le (two 3 15552 419904 (by omega) (by rw [S0]; exact h2) (by rw [show S 3 = X 3 from by rw [hS]; rfl]; exact h3) c hc) (by decide)
    rcases (by omega : i = 1 ∨ i = 2 ∨ i = 3) with rfl | rfl | rfl <;> rcases (by omega : j = 1 ∨ j = 2 ∨ j = 3) with rfl | rfl | rfl
    · exact absurd rfl e
    · exact fin _ _ k1 k2 (by decide)
    · exact fin _ _ k1 k3 (by decide)
    · exact fin _ _ k2 k1 (by decide)
    · exact absurd rfl e
    · exact fin _ _ k2 k3 (by decide)
    · exact fin _ _ k3 k1 (by decide)
    · exact fin _ _ k3 k2 (by decide)
    · exact absurd rfl e
  · have S1 : S 1 = X 1 := by rw [hS]; rfl
    have S2 : S 2 = X 2 := by rw [hS]; rfl
    have S3 : S 3 = X 0 := by rw [hS]; rfl
    have sk : ∀ k, 1 ≤ k → k < 4 → ∀ c, c < 3 → bn 15552 (el S k c) := by
      intro k hk hk4 c hc
      rcases (by omega : k = 1 ∨ k = 2 ∨ k = 3) with rfl | rfl | rfl
      · exact el_keep (by omega) hc s00 (by rw [S1]; exact pz 1 (by omega)) (by rw [S1]; exact bn_le (h1 c hc) (by decide))
      · exact el_keep (by omega) hc s00 (by rw [S2]; exact pz 2 (by omega)) (by rw [S2]; exact h2 c hc)
      · exact el_keep (by omega) hc s00 (by rw [S3]; exact pz 0 (by omega)) (by rw [S3]; exact bn_le (h0 c hc) (by decide))
    exact fin _ _ (sk i hi hi2) (sk j hj hj2) (by decide)
/-- the minors of the first step -/
theorem minor_el (S : Nat → Nat → Int) : x3 S 1 2 * x3 S 2 1 - x3 S 2 2 * x3 S 1 1 = -(S 0 0 * dt3 (S 0) (S 1) (S 2)) := by
  unfold x3 dt3
  grind
theorem abs_le_mul {a b : Int} (h : ¬ a = 0) : b.natAbs ≤ (a * b).natAbs := by
  rw [Int.natAbs_mul]
  exact Nat.le_mul_of_pos_left _ (by omega)
theorem G2_det {X : Nat → Nat → Int} (b1 : bn 18446744073709551615 (X 0 0 * dt3 (X 0) (X 1) (X 2))) (b2 : bn 18446744073709551615 (dt3 (X 0) (X 1) (X 2))) : G2 X 3 := by
  intro p hp pn pz
  obtain ⟨S, hS⟩ : ∃ S, S = sw X 0 p := ⟨_, rfl⟩
  rw [← hS]
  have s00 : ¬ S 0 0 = 0 := by rw [hS, sw_0]; exact pn
  have ds : (dt3 (S 0) (S 1) (S 2)).natAbs = (dt3 (X 0) (X 1) (X 2)).natAbs := by
    rcases (by omega : p = 0 ∨ p = 1 ∨ p = 2) with rfl | rfl | rfl
    · rw [show S 0 = X 0 from by rw [hS]; rfl, show S 1 = X 1 from by rw [hS]; rfl, show S 2 = X 2 from by rw [hS]; rfl]
    · rw [show S 0 = X 1 from by rw [hS]; rfl, show S 1 = X 0 from by rw [hS]; rfl, show S 2 = X 2 from by rw [hS]; rfl, dt3_s1, Int.natAbs_neg]
    · rw [show S 0 = X 2 from by rw [hS]; rfl, show S 1 = X 1 from by rw [hS]; rfl, show S 2 = X 0 from by rw [hS]; rfl, dt3_s1, dt3_s2, dt3_s1, Int.natAbs_neg, Int.natAbs_neg, Int.natAbs_neg]
  have key : bn 18446744073709551615 (el S 1 2 * el S 2 1 - el S 2 2 * el S 1 1) := by
    by_cases g1 : g3 S 1 = 0
    · have e1 : el S 1 1 = 0 := by show x3 S 1 1 / g3 S 1 = 0; rw [g1]; simp
      have e2 : el S 1 2 = 0 := by show x3 S 1 2 / g3 S 1 = 0; rw [g1]; simp
      rw [e1, e2]; simp [bn]
    by_cases g2 : g3 S 2 = 0
    · have e1 : el S 2 1 = 0 := by show x3 S 2 1 / g3 S 2 = 0; rw [g2]; simp
      have e2 : el S 2 2 = 0 := by show x3 S 2 2 / g3 S 2 = 0; rw [g2]; simp
      rw [e1, e2]; simp [bn]
    have m : ∀ i c, 1 ≤ i → c < 3 → g3 S i * el S i c = x3 S i c := fun i c hi hc => by
      unfold el
      rw [if_neg (by omega)]
      exact Int.mul_ediv_cancel' (g3_dvd S i c hc)
    have id1 : g3 S 1 * (g3 S 2 * (el S 1 2 * el S 2 1 - el S 2 2 * el S 1 1)) = -(S 0 0 * dt3 (S 0) (S 1) (S 2)) := by
      rw [← minor_el, ← m 1 1 (by omega) (by omega), ← m 1 2 (by omega) (by omega), ← m 2 1 (by omega) (by omega), ← m 2 2 (by omega) (by omega)]
      grind
    obtain ⟨v, hv⟩ : ∃ v, v = el S 1 2 * el S 2 1 - el S 2 2 * el S 1 1 := ⟨_, rfl⟩
    rw [← hv] at id1 ⊢
    by_cases p0 : p = 0
    · have S0 : S 0 = X 0 := by rw [hS, p0]; rfl
      have a1 := abs_le_mul (b := v) g2
      have a2 := abs_le_mul (b := g3 S 2 * v) g1
      have hh : (S 0 0 * dt3 (S 0) (S 1) (S 2)).natAbs = (X 0 0 * dt3 (X 0) (X 1) (X 2)).natAbs := by rw [Int.natAbs_mul, ds, S0, ← Int.natAbs_mul]
      rw [id1, Int.natAbs_neg, hh] at a2
      unfold bn at *
      omega
    · -- the row that was row 0 has 0 in column 0
      have z : S p 0 = 0 := by
        rw [hS]; unfold sw
        rw [if_neg p0, if_pos rfl]
        exact pz 0 (by omega)
      have e : ∀ c, x3 S p c = S 0 0 * S p c := fun c => by unfold x3; rw [z]; grind
      have d : S 0 0 ∣ g3 S p := by
        unfold g3
        have f : ∀ c, S 0 0 ∣ x3 S p c := fun c => ⟨S p c, e c⟩
        exact Int.dvd_coe_gcd (Int.dvd_coe_gcd (Int.dvd_coe_gcd (Int.dvd_zero _) (f 0)) (f 1)) (f 2)
      obtain ⟨k, hk⟩ := d
      have cancel : ∀ x y : Int, S 0 0 * x = -(S 0 0 * y) → x = -y := fun x y h => by
        have : S 0 0 * (x + y) = 0 := by rw [Int.mul_add]; omega
        have := (Int.mul_eq_zero.mp this).resolve_left s00
        omega
      rcases (by omega : p = 1 ∨ p = 2) with e1 | e1
      · rw [e1] at hk
        have k0 : ¬ k = 0 := fun h => g1 (by rw [hk, h]; simp)
        rw [hk, Int.mul_assoc] at id1
        have id2 := cancel _ _ id1
        have a1 := abs_le_mul (b := v) g2
        have a2 := abs_le_mul (b := g3 S 2 * v) k0
        rw [id2, Int.natAbs_neg, ds] at a2
        unfold bn at *
        omega
      · rw [e1] at hk
        have k0 : ¬ k = 0 := fun h => g2 (by rw [hk, h]; simp)
        rw [hk] at id1
        have id2 := cancel (g3 S 1 * (k * v)) _ (by rw [← id1]; grind)
        have a1 := abs_le_mul (b := v) k0
        have a2 := abs_le_mul (b := k * v) g1
        rw [id2, Int.natAbs_neg, ds] at a2
        unfold bn at *
        omega
  intro i j hi hi2 hj hj2
  rcases (by omega : i = 1 ∨ i = 2) with rfl | rfl <;> rcases (by omega : j = 1 ∨ j = 2) with rfl | rfl
  · exact G2_self
  · exact key
  · have := bn_neg key
    rw [Int.neg_sub] at this
    exact this
  · exact G2_self
/-- a factor of all numbers goes away in the first step -/
theorem el_scale {X Y : Nat → Nat → Int} {t : Int} (ht : ¬ t = 0) (h : ∀ i c, X i c = t * Y i c) (i c : Nat) (hi : 1 ≤ i) (hc : c < 3) : el X i c = el Y i c := by
  have e : ∀ c, x3 X i c = (t * t) * x3 Y i c := fun c => by unfold x3; rw [h, h, h, h]; grind
  have tp : 0 < t * t := by
    rcases Int.lt_trichotomy t 0 with q | q | q
    · have := Int.mul_pos (show 0 < -t by omega) (show 0 < -t by omega)
      rw [Int.neg_mul_neg] at this
      exact this
    · exact absurd q ht
    · exact Int.mul_pos q q
  have ga : ((t * t).natAbs : Int) = t * t := by omega
  have g : g3 X i = (t * t) * g3 Y i := by
    unfold g3
    rw [e 0, e 1, e 2]
    rw [show (Int.gcd 0 (t * t * x3 Y i 0) : Int) = t * t * (Int.gcd 0 (x3 Y i 0) : Int) from by rw [Int.gcd_zero_left, Int.gcd_zero_left, Int.natAbs_mul, Int.natCast_mul, ga]]
    rw [Int.gcd_mul_left, Int.natCast_mul, ga, Int.gcd_mul_left, Int.natCast_mul, ga]
  unfold el
  rw [if_neg (by omega), if_neg (by omega)]
  show x3 X i c / g3 X i = x3 Y i c / g3 Y i
  rw [e c, g]
  exact Int.mul_ediv_mul_of_pos _ _ tp
theorem G2_scale {X Y : Nat → Nat → Int} {t : Int} {m : Nat} (h : ∀ i c, X i c = t * Y i c) (hY : G2 Y m) : G2 X m := by
  intro p hp pn pz i j hi hi2 hj hj2
  have ht : ¬ t = 0 := fun e => pn (by rw [h, e]; simp)
  have hs : ∀ i c, sw X 0 p i c = t * sw Y 0 p i c := fun i c => by
    unfold sw
    split
    · exact h _ _
    · split
      · exact h _ _
      · exact h _ _
  rw [el_scale ht hs i 2 hi (by omega), el_scale ht hs j 1 hj (by omega), el_scale ht hs j 2 hj (by omega), el_scale ht hs i 1 hi (by omega)]
  refine hY p hp (fun e => pn (by rw [h, e]; simp)) (fun p' hp' => ?_) i j hi hi2 hj hj2
  have := pz p' hp'
  rw [h] at this
  exact (Int.mul_eq_zero.mp this).resolve_left ht
/-! the ranks of a machine: as many rows as STATES are enough -/
theorem dot_lin {x y z v : Nat → Int} {a b : Int} (h : ∀ c, c < 3 → x c = a * y c + b * z c) (hy : dot y v = 0) (hz : dot z v = 0) : dot x v = 0 := by
  have h0 := h 0 (by omega)
  have h1 := h 1 (by omega)
  have h2 := h 2 (by omega)
  have : dot x v = a * dot y v + b * dot z v := by unfold dot; rw [h0, h1, h2]; grind
  rw [this, hy, hz]; simp
theorem pw_zero {A B : Nat → Int} {s : Nat} (zA : ∀ i k, i < 3 → k < 3 → s ≤ i ∨ s ≤ k → A (3 * i + k) = 0) (zB : ∀ i, i < 3 → s ≤ i → B i = 0) : ∀ k i, i < 3 → s ≤ i → pw A B k i = 0 := by
  intro k
  cases k with
  | zero => exact zB
  | succ k =>
    intro i hi hs
    show mv A (pw A B k) i = 0
    unfold mv
    have a0 := zA i 0 hi (by omega) (Or.inl hs)
    have a1 := zA i 1 hi (by omega) (Or.inl hs)
    have a2 := zA i 2 hi (by omega) (Or.inl hs)
    rw [Nat.add_zero] at a0
    rw [a0, a1, a2]; simp
theorem pr_zero {A K : Nat → Int} {s : Nat} (zA : ∀ i k, i < 3 → k < 3 → s ≤ i ∨ s ≤ k → A (3 * i + k) = 0) (zK : ∀ i, i < 3 → s ≤ i → K i = 0) : ∀ k i, i < 3 → s ≤ i → pr A K k i = 0 := by
  intro k
  cases k with
  | zero => exact zK
  | succ k =>
    intro i hi hs
    show vm (pr A K k) A i = 0
    unfold vm
    have a0 := zA 0 i (by omega) hi (Or.inr hs)
    have a1 := zA 1 i (by omega) hi (Or.inr hs)
    have a2 := zA 2 i (by omega) hi (Or.inr hs)
    rw [Nat.mul_zero, Nat.zero_add] at a0
    rw [a0, a1, a2]; simp
theorem Nl_pw {A B : Nat → Int} {s : Nat} (hs : s ≤ 3) (zA : ∀ i k, i < 3 → k < 3 → s ≤ i ∨ s ≤ k → A (3 * i + k) = 0) (zB : ∀ i, i < 3 → s ≤ i → B i = 0) (v : Nat → Int) : Nl (pw A B) 3 v ↔ Nl (pw A B) s v := by
  refine ⟨fun h i hi => h i (by omega), fun h => ?_⟩
  have zp := pw_zero zA zB
  rcases (by omega : s = 0 ∨ s = 1 ∨ s = 2 ∨ s = 3) with rfl | rfl | rfl | rfl
  · intro i hi
    unfold dot
    rw [zp i 0 (by omega) (by omega), zp i 1 (by omega) (by omega), zp i 2 (by omega) (by omega)]
    simp
  · have h0 := h 0 (by omega)
    have e : ∀ k c, c < 3 → pw A B (k + 1) c = A 0 * pw A B k c + 0 * pw A B k c := by
      intro k c hc
      rcases (by omega : c = 0 ∨ c = 1 ∨ c = 2) with rfl | rfl | rfl
      · show mv A (pw A B k) 0 = _
        unfold mv
        rw [zp k 1 (by omega) (by omega), zp k 2 (by omega) (by omega)]; simp
      · rw [zp (k + 1) 1 (by omega) (by omega), zp k 1 (by omega) (by omega)]; simp
      · rw [zp (k + 1) 2 (by omega) (by omega), zp k 2 (by omega) (by omega)]; simp
    have h1 : dot (pw A B 1) v = 0 := dot_lin (e 0) h0 h0
    have h2 : dot (pw A B 2) v = 0 := dot_lin (e 1) h1 h1
    intro i hi
    rcases (by omega : i = 0 ∨ i = 1 ∨ i = 2) with rfl | rfl | rfl
    · exact h0
    · exact h1
    · exact h2
  · have h0 := h 0 (by omega)
    have h1 := h 1 (by omega)
    have e : ∀ c, c < 3 → pw A B 2 c = -(cf A 1) * pw A B 1 c + -(cf A 2) * pw A B 0 c := by
      intro c hc
      have a2 := zA 0 2 (by omega) (by omega) (by omega)
      have a5 := zA 1 2 (by omega) (by omega) (by omega)
      have a6 := zA 2 0 (by omega) (by omega) (by omega)
      have a7 := zA 2 1 (by omega) (by omega) (by omega)
      have a8 := zA 2 2 (by omega) (by omega) (by omega)
      have b2 := zB 2 (by omega) (by omega)
      simp at a2 a5 a6 a7 a8
      rcases (by omega : c = 0 ∨ c = 1 ∨ c = 2) with rfl | rfl | rfl <;> simp [pw, mv, cf, a2, a5, a6, a7, a8, b2] <;> grind
    have h2 : dot (pw A B 2) v = 0 := dot_lin e h1 h0
    intro i hi
    rcases (by omega : i = 0 ∨ i = 1 ∨ i = 2) with rfl | rfl | rfl
    · exact h0
    · exact h1
    · exact h2
  · exact h
theorem Nl_pr {A K : Nat → Int} {s : Nat} (hs : s ≤ 3) (zA : ∀ i k, i < 3 → k < 3 → s ≤ i ∨ s ≤ k → A (3 * i + k) = 0) (zB : ∀ i, i < 3 → s ≤ i → K i = 0) (v : Nat → Int) : Nl (pr A K) 3 v ↔ Nl (pr A K) s v := by
  refine ⟨fun h i hi => h i (by omega), fun h => ?_⟩
  have zp := pr_zero zA zB
  rcases (by omega : s = 0 ∨ s = 1 ∨ s = 2 ∨ s = 3) with rfl | rfl | rfl | rfl
  · intro i hi
    unfold dot
    rw [zp i 0 (by omega) (by omega), zp i 1 (by omega) (by omega), zp i 2 (by omega) (by omega)]
    simp
  · have h0 := h 0 (by omega)
    have e : ∀ k c, c < 3 → pr A K (k + 1) c = A 0 * pr A K k c + 0 * pr A K k c := by
      intro k c hc
      rcases (by omega : c = 0 ∨ c = 1 ∨ c = 2) with rfl | rfl | rfl
      · show vm (pr A K k) A 0 = _
        unfold vm
        rw [zp k 1 (by omega) (by omega), zp k 2 (by omega) (by omega)]; simp; grind
      · rw [zp (k + 1) 1 (by omega) (by omega), zp k 1 (by omega) (by omega)]; simp
      · rw [zp (k + 1) 2 (by omega) (by omega), zp k 2 (by omega) (by omega)]; simp
    have h1 : dot (pr A K 1) v = 0 := dot_lin (e 0) h0 h0
    have h2 : dot (pr A K 2) v = 0 := dot_lin (e 1) h1 h1
    intro i hi
    rcases (by omega : i = 0 ∨ i = 1 ∨ i = 2) with rfl | rfl | rfl
    · exact h0
    · exact h1
    · exact h2
  · have h0 := h 0 (by omega)
    have h1 := h 1 (by omega)
    have e : ∀ c, c < 3 → pr A K 2 c = -(cf A 1) * pr A K 1 c + -(cf A 2) * pr A K 0 c := by
      intro c hc
      have a2 := zA 0 2 (by omega) (by omega) (by omega)
      have a5 := zA 1 2 (by omega) (by omega) (by omega)
      have a6 := zA 2 0 (by omega) (by omega) (by omega)
      have a7 := zA 2 1 (by omega) (by omega) (by omega)
      have a8 := zA 2 2 (by omega) (by omega) (by omega)
      have b2 := zB 2 (by omega) (by omega)
      simp at a2 a5 a6 a7 a8
      rcases (by omega : c = 0 ∨ c = 1 ∨ c = 2) with rfl | rfl | rfl <;> simp [pr, vm, cf, a2, a5, a6, a7, a8, b2] <;> grind
    have h2 : dot (pr A K 2) v = 0 := dot_lin e h1 h0
    intro i hi
    rcases (by omega : i = 0 ∨ i = 1 ∨ i = 2) with rfl | rfl | rfl
    · exact h0
    · exact h1
    · exact h2
  · exact h
/-- a change of columns that can be undone -/
theorem IsRk.cols {X Y : Nat → Nat → Int} {m m' r : Nat} (p q t : Int) (h : IsRk X m r) (e : ∀ v, Nl Y m' v ↔ Nl X m (v3 (v 0 + p * v 1 + q * v 2) (v 1 + t * v 2) (v 2))) : IsRk Y m' r := by
  have tr : ∀ a v : Nat → Int, dot a (v3 (v 0 + p * v 1 + q * v 2) (v 1 + t * v 2) (v 2)) = dot (v3 (a 0) (p * a 0 + a 1) (q * a 0 + t * a 1 + a 2)) v := fun a v => by
    rw [dot_v3]; unfold dot; simp [v3]; grind
  rcases h with ⟨rfl, h⟩ | ⟨rfl, a, ha, h⟩ | ⟨rfl, a, b, ha, h⟩ | ⟨rfl, a, b, c, ha, h⟩
  · exact Or.inl ⟨rfl, fun v => (e v).mpr (h _)⟩
  · refine Or.inr (Or.inl ⟨rfl, v3 (a 0) (p * a 0 + a 1) (q * a 0 + t * a 1 + a 2), ?_, fun v => by rw [e v, h, tr]⟩)
    unfold fr1 at *
    simp only [v3]
    by_cases h0 : a 0 = 0
    · by_cases h1 : a 1 = 0
      · right; right; simp [h0, h1] at ha ⊢; exact ha
      · right; left; simp [h0]; exact h1
    · left; simp; exact h0
  · refine Or.inr (Or.inr (Or.inl ⟨rfl, v3 (a 0) (p * a 0 + a 1) (q * a 0 + t * a 1 + a 2), v3 (b 0) (p * b 0 + b 1) (q * b 0 + t * b 1 + b 2), ?_, fun v => by rw [e v, h, tr, tr]⟩))
    unfold fr2 at *
    simp only [v3]
    by_cases h0 : a 0 * b 1 = a 1 * b 0
    · by_cases h1 : a 0 * b 2 = a 2 * b 0
      · have h2 : ¬ a 1 * b 2 = a 2 * b 1 := by omega
        right; right
        simp
        intro w
        apply h2
        grind
      · right; left
        simp
        intro w
        apply h1
        grind
    · left
      simp
      intro w
      apply h0
      grind
  · refine Or.inr (Or.inr (Or.inr ⟨rfl, v3 (a 0) (p * a 0 + a 1) (q * a 0 + t * a 1 + a 2), v3 (b 0) (p * b 0 + b 1) (q * b 0 + t * b 1 + b 2), v3 (c 0) (p * c 0 + c 1) (q * c 0 + t * c 1 + c 2), ?_, fun v => by rw [e v, h, tr, tr, tr]⟩))
    intro w
    apply ha
    unfold dt3 at *
    simp [v3] at w
    grind
/-- Hankel's table -/
def hk (A B K : Nat → Int) (i c : Nat) : Int := pl A B K (i + c)
def hks (s : Nat) (A B K : Nat → Int) (i c : Nat) : Int := if c < s then pl A B K (i + c) else 0
theorem rk_hk {s r : Nat} {A B K : Nat → Int} (hs : s ≤ 3) (zA : ∀ i k, i < 3 → k < 3 → s ≤ i ∨ s ≤ k → A (3 * i + k) = 0) (zB : ∀ i, i < 3 → s ≤ i → B i = 0 ∧ K i = 0) (h : IsRk (hks s A B K) s r) : IsRk (hk A B K) 3 r := by
  rcases (by omega : s = 0 ∨ s = 1 ∨ s = 2 ∨ s = 3) with rfl | rfl | rfl | rfl
  · refine h.congr (fun v => ⟨fun _ i hi => absurd hi (by omega), fun _ i hi => ?_⟩)
    have k0 := zB 0; have k1 := zB 1; have k2 := zB 2
    simp [dot, hk, pl, k0, k1, k2]
  · have e : ∀ k, pl A B K (k + 1) = A 0 * pl A B K k := fun k => by
      have k1 := zB 1; have k2 := zB 2
      have a1 := zA 0 1 (by omega) (by omega) (by omega)
      have a2 := zA 0 2 (by omega) (by omega) (by omega)
      simp at a1 a2 k1 k2
      simp [pl, k1.2, k2.2, pw, mv, a1, a2]
      grind
    have e1 := e 0; have e2 := e 1; have e3 := e 2; have e4 := e 3
    refine h.cols (A 0) (A 0 * A 0) 0 (fun v => ⟨fun g i hi => ?_, fun g i hi => ?_⟩)
    · have := g 0 (by omega)
      rw [show i = 0 by omega]
      simp [dot, hk, hks, v3] at *
      rw [e2, e1] at this
      grind
    · have := g 0 (by omega)
      simp [dot, hks, v3] at this
      rcases (by omega : i = 0 ∨ i = 1 ∨ i = 2) with rfl | rfl | rfl <;> simp [dot, hk]
      · rw [e2, e1]; grind
      · rw [e3, e2, e1]; grind
      · rw [e4, e3, e2, e1]; grind
  · have e : ∀ k, pl A B K (k + 2) = -(cf A 1) * pl A B K (k + 1) - cf A 2 * pl A B K k := fun k => by
      have k2 := zB 2
      have a2 := zA 0 2 (by omega) (by omega) (by omega)
      have a5 := zA 1 2 (by omega) (by omega) (by omega)
      have a6 := zA 2 0 (by omega) (by omega) (by omega)
      have a7 := zA 2 1 (by omega) (by omega) (by omega)
      have a8 := zA 2 2 (by omega) (by omega) (by omega)
      simp at a2 a5 a6 a7 a8 k2
      simp [pl, k2.2, pw, mv, cf, a2, a5, a6, a7, a8]
      grind
    have e2 := e 0; have e3 := e 1; have e4 := e 2
    refine h.cols 0 (-(cf A 2)) (-(cf A 1)) (fun v => ⟨fun g i hi => ?_, fun g i hi => ?_⟩)
    · have g0 := g 0 (by omega)
      have g1 := g 1 (by omega)
      rcases (by omega : i = 0 ∨ i = 1) with rfl | rfl <;> simp [dot, hk, hks, v3] at *
      · rw [e2] at g0; grind
      · rw [e3] at g1; grind
    · have g0 := g 0 (by omega)
      have g1 := g 1 (by omega)
      simp [dot, hks, v3] at g0 g1
      rcases (by omega : i = 0 ∨ i = 1 ∨ i = 2) with rfl | rfl | rfl <;> simp [dot, hk]
      · rw [e2]; grind
      · rw [e3]; grind
      · rw [e4, e3]; grind
  · refine h.congr (fun v => ?_)
    have : ∀ i, i < 3 → dot (hk A B K i) v = dot (hks 3 A B K i) v := fun i hi => by simp [dot, hk, hks]
    exact ⟨fun g i hi => by rw [← this i hi]; exact g i hi, fun g i hi => by rw [this i hi]; exact g i hi⟩
/-- the determinant of Hankel's table -/
theorem hk_dot (A B K : Nat → Int) : ∀ i k, dot (pr A K i) (pw A B k) = pl A B K (i + k) := by
  intro i
  induction i with
  | zero => intro k; rw [Nat.zero_add]; rfl
  | succ i ih =>
    intro k
    rw [show i + 1 + k = i + (k + 1) by omega, ← ih (k + 1)]
    show dot (vm (pr A K i) A) (pw A B k) = dot (pr A K i) (mv A (pw A B k))
    unfold dot vm mv
    grind
theorem dt3_mul (x y z a b c : Nat → Int) : dt3 (v3 (dot x a) (dot x b) (dot x c)) (v3 (dot y a) (dot y b) (dot y c)) (v3 (dot z a) (dot z b) (dot z c)) = dt3 x y z * dt3 a b c := by
  unfold dt3 dot
  simp only [v3]
  simp
  grind
theorem hk_det (A B K : Nat → Int) : dt3 (hk A B K 0) (hk A B K 1) (hk A B K 2) = dt3 (pr A K 0) (pr A K 1) (pr A K 2) * dt3 (pw A B 0) (pw A B 1) (pw A B 2) := by
  rw [← dt3_mul]
  simp only [hk_dot]
  unfold dt3 hk
  simp [v3]
/-! how large Hankel's table grows -/
theorem bn_dt9 {x y z : Nat → Int} {a b c d e f g h i : Nat} (x0 : bn a (x 0)) (x1 : bn b (x 1)) (x2 : bn c (x 2)) (y0 : bn d (y 0)) (y1 : bn e (y 1)) (y2 : bn f (y 2)) (z0 : bn g (z 0)) (z1 : bn h (z 1)) (z2 : bn i (z 2)) : bn (a * (e * i + f * h) + b * (d * i + f * g) + c * (d * h + e * g)) (dt3 x y z) :=
  bn_add (bn_sub (bn_mul x0 (bn_sub (bn_mul y1 z2) (bn_mul y2 z1))) (bn_mul x1 (bn_sub (bn_mul y0 z2) (bn_mul y2 z0)))) (bn_mul x2 (bn_sub (bn_mul y0 z1) (bn_mul y1 z0)))
theorem dt3_abs (X : Nat → Nat → Int) {i j k : Nat} (hi : i < 3) (hj : j < 3) (hk : k < 3) : dt3 (X i) (X j) (X k) = 0 ∨ (dt3 (X i) (X j) (X k)).natAbs = (dt3 (X 0) (X 1) (X 2)).natAbs := by
  by_cases e1 : i = j
  · subst e1; exact Or.inl (dt3_e1 _ _)
  by_cases e2 : j = k
  · subst e2; exact Or.inl (dt3_e2 _ _)
  by_cases e3 : i = k
  · subst e3; exact Or.inl (dt3_e3 _ _)
  right
  rcases (by omega : (i = 0 ∧ j = 1 ∧ k = 2) ∨ (i = 0 ∧ j = 2 ∧ k = 1) ∨ (i = 1 ∧ j = 0 ∧ k = 2) ∨ (i = 1 ∧ j = 2 ∧ k = 0) ∨ (i = 2 ∧ j = 0 ∧ k = 1) ∨ (i = 2 ∧ j = 1 ∧ k = 0)) with ⟨rfl, rfl, rfl⟩ | ⟨rfl, rfl, rfl⟩ | ⟨rfl, rfl, rfl⟩ | ⟨rfl, rfl, rfl⟩ | ⟨rfl, rfl, rfl⟩ | ⟨rfl, rfl, rfl⟩
  · rfl
  · rw [dt3_s2 (X 0) (X 2) (X 1), Int.natAbs_neg]
  · rw [dt3_s1 (X 1) (X 0) (X 2), Int.natAbs_neg]
  · rw [dt3_s2 (X 1) (X 2) (X 0), Int.natAbs_neg, dt3_s1 (X 1) (X 0) (X 2), Int.natAbs_neg]
  · rw [dt3_s1 (X 2) (X 0) (X 1), Int.natAbs_neg, dt3_s2 (X 0) (X 2) (X 1), Int.natAbs_neg]
  · rw [dt3_s1 (X 2) (X 1) (X 0), Int.natAbs_neg, dt3_s2 (X 1) (X 2) (X 0), Int.natAbs_neg, dt3_s1 (X 1) (X 0) (X 2), Int.natAbs_neg]
theorem bn_hkT {A B K : Nat → Int} {T q : Nat} (h : ∀ k, k ≤ 4 → bn (T * q ^ k) (pl A B K k)) : bn (6 * (T * T * T * q ^ 6)) (dt3 (hk A B K 0) (hk A B K 1) (hk A B K 2)) := by
  have h0 := h 0 (by omega)
  have h1 := h 1 (by omega)
  have h2 := h 2 (by omega)
  have h3 := h 3 (by omega)
  have h4 := h 4 (by omega)
  have := bn_dt9 (x := hk A B K 0) (y := hk A B K 1) (z := hk A B K 2) h0 h1 h2 h1 h2 h3 h2 h3 h4
  refine bn_le this ?_
  simp only [Nat.pow_succ, Nat.pow_zero, Nat.one_mul, Nat.mul_one]
  generalize T = t
  apply Nat.le_of_eq
  grind
theorem bn_pwG {α Y : Nat} {A B : Nat → Int} (hA : ∀ i, i < 9 → bn α (A i)) (hB : ∀ i, i < 3 → bn Y (B i)) : ∀ k i, i < 3 → bn (Y * (3 * α) ^ k) (pw A B k i) := by
  intro k
  induction k with
  | zero => intro i hi; simpa [pw] using hB i hi
  | succ k ih =>
    intro i hi
    refine bn_le (bn_mv hA ih hi) ?_
    rw [Nat.pow_succ]
    apply Nat.le_of_eq
    grind
theorem bn_plG {α Y W : Nat} {A B K : Nat → Int} (hA : ∀ i, i < 9 → bn α (A i)) (hB : ∀ i, i < 3 → bn Y (B i)) (hK : ∀ i, i < 3 → bn W (K i)) (k : Nat) : bn (3 * (W * Y) * (3 * α) ^ k) (pl A B K k) := by
  have h := bn_pwG hA hB k
  refine bn_le (bn_add (bn_add (bn_mul (hK 0 (by omega)) (h 0 (by omega))) (bn_mul (hK 1 (by omega)) (h 1 (by omega)))) (bn_mul (hK 2 (by omega)) (h 2 (by omega)))) ?_
  apply Nat.le_of_eq
  grind
theorem pw_lin {A B b : Nat → Int} {f : Int} (h : ∀ i, i < 3 → B i = f * b i) : ∀ k i, i < 3 → pw A B k i = f * pw A b k i := by
  intro k
  induction k with
  | zero => exact h
  | succ k ih =>
    intro i hi
    show mv A (pw A B k) i = f * mv A (pw A b k) i
    unfold mv
    rw [ih 0 (by omega), ih 1 (by omega), ih 2 (by omega)]
    grind
/-- what a machine of three STATES keeps, for its least one -/
def LB (A B K : Nat → Int) : Prop := ((∀ i, i < 9 → bn 3 (A i)) ∧ (∀ i, i < 3 → bn 3 (B i)) ∧ (∀ i, i < 3 → bn 3 (K i))) ∨ (A 2 = 0 ∧ A 5 = 0) ∨ (A 1 = 0 ∧ A 2 = 0) ∨ ∃ (f g : Int) (b k : Nat → Int), ∀ i, i < 3 → B i = f * b i ∧ K i = g * k i ∧ ∀ i', i' < 3 → -24 ≤ b i * k i' ∧ b i * k i' ≤ 24
theorem det_hk {A B K : Nat → Int} (hA : ∀ i, i < 9 → bn 12 (A i)) (hB : ∀ i, i < 3 → bn 12 (B i)) (hK : ∀ i, i < 3 → bn 12 (K i)) : bn 18446744073709551615 (dt3 (hk A B K 0) (hk A B K 1) (hk A B K 2)) := by
  rw [hk_det]
  have p := bn_pw hA hB
  have q := bn_pr hA hK
  exact bn_le (bn_mul (bn_dt3 (fun i hi => q 0 i hi) (fun i hi => q 1 i hi) (fun i hi => q 2 i hi)) (bn_dt3 (fun i hi => p 0 i hi) (fun i hi => p 1 i hi) (fun i hi => p 2 i hi))) (by decide)
theorem bn_m2 {X Y : Nat} {a b c : Int} {x y z : Int} (hz : a = 0) (hb : bn X b) (hc : bn X c) (hy : bn Y y) (hz2 : bn Y z) : bn (X * Y + X * Y) (a * x + b * y + c * z) := by
  rw [hz, Int.zero_mul, Int.zero_add]
  exact bn_add (bn_mul hb hy) (bn_mul hc hz2)
set_option maxHeartbeats 8000000 in
theorem G2_hk {A B K : Nat → Int} (hA : ∀ i, i < 9 → bn 12 (A i)) (hB : ∀ i, i < 3 → bn 12 (B i)) (hK : ∀ i, i < 3 → bn 12 (K i)) (h : LB A B K) : G2 (hk A B K) 3 := by
  have dd := det_hk hA hB hK
  have h0 : bn 432 (hk A B K 0 0) := bn_le (bn_pl hA hB hK 0) (by decide)
  have a := fun i (hi : i < 9) => hA i hi
  have b0 := hB 0 (by omega)
  have b1 := hB 1 (by omega)
  have b2 := hB 2 (by omega)
  have k0 := hK 0 (by omega)
  have k1 := hK 1 (by omega)
  have k2 := hK 2 (by omega)
  have z : ∀ {X : Nat} {x : Int}, x = 0 → bn X x := fun e => by rw [e]; unfold bn; omega
  rcases h with ⟨sA, sB, sK⟩ | ⟨e2, e5⟩ | ⟨e1, e2⟩ | ⟨f, g, b, k, hf⟩
  · have d := bn_hkT (T := 27) (q := 9) (fun k _ => bn_le (bn_plG sA sB sK k) (Nat.le_refl _))
    exact G2_det (bn_le (bn_mul h0 d) (by decide)) dd
  · -- two blocks, 2 + 1
    have p0 : bn 288 (pw A B 1 0) := by
      show bn 288 (A 0 * B 0 + A 1 * B 1 + A 2 * B 2)
      exact bn_le (bn_add (bn_add (bn_mul (a 0 (by omega)) b0) (bn_mul (a 1 (by omega)) b1)) (bn_mul (z (X := 0) e2) b2)) (by decide)
    have p1 : bn 288 (pw A B 1 1) := by
      show bn 288 (A 3 * B 0 + A 4 * B 1 + A 5 * B 2)
      exact bn_le (bn_add (bn_add (bn_mul (a 3 (by omega)) b0) (bn_mul (a 4 (by omega)) b1)) (bn_mul (z (X := 0) e5) b2)) (by decide)
    have p2 : bn 432 (pw A B 1 2) := bn_le (bn_pw hA hB 1 2 (by omega)) (by decide)
    have q0 : bn 6912 (pw A B 2 0) := by
      show bn 6912 (A 0 * pw A B 1 0 + A 1 * pw A B 1 1 + A 2 * pw A B 1 2)
      exact bn_le (bn_add (bn_add (bn_mul (a 0 (by omega)) p0) (bn_mul (a 1 (by omega)) p1)) (bn_mul (z (X := 0) e2) p2)) (by decide)
    have q1 : bn 6912 (pw A B 2 1) := by
      show bn 6912 (A 3 * pw A B 1 0 + A 4 * pw A B 1 1 + A 5 * pw A B 1 2)
      exact bn_le (bn_add (bn_add (bn_mul (a 3 (by omega)) p0) (bn_mul (a 4 (by omega)) p1)) (bn_mul (z (X := 0) e5) p2)) (by decide)
    have q2 : bn 12096 (pw A B 2 2) := by
      show bn 12096 (A 6 * pw A B 1 0 + A 7 * pw A B 1 1 + A 8 * pw A B 1 2)
      exact bn_le (bn_add (bn_add (bn_mul (a 6 (by omega)) p0) (bn_mul (a 7 (by omega)) p1)) (bn_mul (a 8 (by omega)) p2)) (by decide)
    have r0 : bn 432 (pr A K 1 0) := bn_le (bn_pr hA hK 1 0 (by omega)) (by decide)
    have r1 : bn 432 (pr A K 1 1) := bn_le (bn_pr hA hK 1 1 (by omega)) (by decide)
    have r2 : bn 144 (pr A K 1 2) := by
      show bn 144 (K 0 * A 2 + K 1 * A 5 + K 2 * A 8)
      exact bn_le (bn_add (bn_add (bn_mul k0 (z (X := 0) e2)) (bn_mul k1 (z (X := 0) e5))) (bn_mul k2 (a 8 (by omega)))) (by decide)
    have t0 : bn 12096 (pr A K 2 0) := by
      show bn 12096 (pr A K 1 0 * A 0 + pr A K 1 1 * A 3 + pr A K 1 2 * A 6)
      exact bn_le (bn_add (bn_add (bn_mul r0 (a 0 (by omega))) (bn_mul r1 (a 3 (by omega)))) (bn_mul r2 (a 6 (by omega)))) (by decide)
    have t1 : bn 12096 (pr A K 2 1) := by
      show bn 12096 (pr A K 1 0 * A 1 + pr A K 1 1 * A 4 + pr A K 1 2 * A 7)
      exact bn_le (bn_add (bn_add (bn_mul r0 (a 1 (by omega))) (bn_mul r1 (a 4 (by omega)))) (bn_mul r2 (a 7 (by omega)))) (by decide)
    have t2 : bn 1728 (pr A K 2 2) := by
      show bn 1728 (pr A K 1 0 * A 2 + pr A K 1 1 * A 5 + pr A K 1 2 * A 8)
      exact bn_le (bn_add (bn_add (bn_mul r0 (z (X := 0) e2)) (bn_mul r1 (z (X := 0) e5))) (bn_mul r2 (a 8 (by omega)))) (by decide)
    refine G2_det ?_ dd
    rw [hk_det]
    exact bn_le (bn_mul h0 (bn_mul (bn_dt9 (x := pr A K 0) k0 k1 k2 r0 r1 r2 t0 t1 t2) (bn_dt9 (x := pw A B 0) b0 b1 b2 p0 p1 p2 q0 q1 q2))) (by decide)
  · -- two blocks, 1 + 2
    have p0 : bn 144 (pw A B 1 0) := by
      show bn 144 (A 0 * B 0 + A 1 * B 1 + A 2 * B 2)
      exact bn_le (bn_add (bn_add (bn_mul (a 0 (by omega)) b0) (bn_mul (z (X := 0) e1) b1)) (bn_mul (z (X := 0) e2) b2)) (by decide)
    have p1 : bn 432 (pw A B 1 1) := bn_le (bn_pw hA hB 1 1 (by omega)) (by decide)
    have p2 : bn 432 (pw A B 1 2) := bn_le (bn_pw hA hB 1 2 (by omega)) (by decide)
    have q0 : bn 1728 (pw A B 2 0) := by
      show bn 1728 (A 0 * pw A B 1 0 + A 1 * pw A B 1 1 + A 2 * pw A B 1 2)
      exact bn_le (bn_add (bn_add (bn_mul (a 0 (by omega)) p0) (bn_mul (z (X := 0) e1) p1)) (bn_mul (z (X := 0) e2) p2)) (by decide)
    have q1 : bn 12096 (pw A B 2 1) := by
      show bn 12096 (A 3 * pw A B 1 0 + A 4 * pw A B 1 1 + A 5 * pw A B 1 2)
      exact bn_le (bn_add (bn_add (bn_mul (a 3 (by omega)) p0) (bn_mul (a 4 (by omega)) p1)) (bn_mul (a 5 (by omega)) p2)) (by decide)
    have q2 : bn 12096 (pw A B 2 2) := by
      show bn 12096 (A 6 * pw A B 1 0 + A 7 * pw A B 1 1 + A 8 * pw A B 1 2)
      exact bn_le (bn_add (bn_add (bn_mul (a 6 (by omega)) p0) (bn_mul (a 7 (by omega)) p1)) (bn_mul (a 8 (by omega)) p2)) (by decide)
    have r0 : bn 432 (pr A K 1 0) := bn_le (bn_pr hA hK 1 0 (by omega)) (by decide)
    have r1 : bn 288 (pr A K 1 1) := by
      show bn 288 (K 0 * A 1 + K 1 * A 4 + K 2 * A 7)
      exact bn_le (bn_add (bn_add (bn_mul k0 (z (X := 0) e1)) (bn_mul k1 (a 4 (by omega)))) (bn_mul k2 (a 7 (by omega)))) (by decide)
    have r2 : bn 288 (pr A K 1 2) := by
      show bn 288 (K 0 * A 2 + K 1 * A 5 + K 2 * A 8)
      exact bn_le (bn_add (bn_add (bn_mul k0 (z (X := 0) e2)) (bn_mul k1 (a 5 (by omega)))) (bn_mul k2 (a 8 (by omega)))) (by decide)
    have t0 : bn 12096 (pr A K 2 0) := by
      show bn 12096 (pr A K 1 0 * A 0 + pr A K 1 1 * A 3 + pr A K 1 2 * A 6)
      exact bn_le (bn_add (bn_add (bn_mul r0 (a 0 (by omega))) (bn_mul r1 (a 3 (by omega)))) (bn_mul r2 (a 6 (by omega)))) (by decide)
    have t1 : bn 6912 (pr A K 2 1) := by
      show bn 6912 (pr A K 1 0 * A 1 + pr A K 1 1 * A 4 + pr A K 1 2 * A 7)
      exact bn_le (bn_add (bn_add (bn_mul r0 (z (X := 0) e1)) (bn_mul r1 (a 4 (by omega)))) (bn_mul r2 (a 7 (by omega)))) (by decide)
    have t2 : bn 6912 (pr A K 2 2) := by
      show bn 6912 (pr A K 1 0 * A 2 + pr A K 1 1 * A 5 + pr A K 1 2 * A 8)
      exact bn_le (bn_add (bn_add (bn_mul r0 (z (X := 0) e2)) (bn_mul r1 (a 5 (by omega)))) (bn_mul r2 (a 8 (by omega)))) (by decide)
    refine G2_det ?_ dd
    rw [hk_det]
    exact bn_le (bn_mul h0 (bn_mul (bn_dt9 (x := pr A K 0) k0 k1 k2 r0 r1 r2 t0 t1 t2) (bn_dt9 (x := pw A B 0) b0 b1 b2 p0 p1 p2 q0 q1 q2))) (by decide)
  · -- b and c are multiples of what is small against one another
    have lin : ∀ j, pl A B K j = f * g * pl A b k j := fun j => by
      have p := pw_lin (A := A) (B := B) (b := b) (f := f) (fun i hi => (hf i hi).1) j
      unfold pl
      rw [p 0 (by omega), p 1 (by omega), p 2 (by omega), (hf 0 (by omega)).2.1, (hf 1 (by omega)).2.1, (hf 2 (by omega)).2.1]
      grind
    have sm : ∀ j, bn (72 * 36 ^ j) (pl A b k j) := fun j => by
      have part : ∀ i', i' < 3 → bn (24 * 36 ^ j) (k i' * pw A b j i') := fun i' hi' => by
        have p := pw_lin (A := A) (B := fun i => k i' * b i) (b := b) (f := k i') (fun i hi => rfl) j i' hi'
        rw [← p]
        refine bn_pw hA (Y := 24) (fun i hi => ?_) j i' hi'
        have := (hf i hi).2.2 i' hi'
        show bn 24 (k i' * b i)
        rw [Int.mul_comm]
        unfold bn
        omega
      unfold pl
      refine bn_le (bn_add (bn_add (part 0 (by omega)) (part 1 (by omega))) (part 2 (by omega))) ?_
      omega
    have d := bn_hkT (A := A) (B := b) (K := k) (T := 72) (q := 36) (fun j _ => sm j)
    have h0' : bn 72 (hk A b k 0 0) := sm 0
    refine G2_scale (t := f * g) (Y := hk A b k) (fun i c => lin (i + c)) (G2_det (bn_le (bn_mul h0' d) (by decide)) (bn_le d (by decide)))
