/-! ranks: by the vectors that all rows make 0 -/
def dot (x v : Nat → Int) : Int := x 0 * v 0 + x 1 * v 1 + x 2 * v 2
def Nl (X : Nat → Nat → Int) (m : Nat) (v : Nat → Int) : Prop := ∀ i, i < m → dot (X i) v = 0
def fr1 (x : Nat → Int) : Prop := ¬ x 0 = 0 ∨ ¬ x 1 = 0 ∨ ¬ x 2 = 0
def fr2 (x y : Nat → Int) : Prop := ¬ x 0 * y 1 = x 1 * y 0 ∨ ¬ x 0 * y 2 = x 2 * y 0 ∨ ¬ x 1 * y 2 = x 2 * y 1
def IsRk (X : Nat → Nat → Int) (m r : Nat) : Prop :=
  (r = 0 ∧ ∀ v, Nl X m v) ∨ (r = 1 ∧ ∃ a, fr1 a ∧ ∀ v, Nl X m v ↔ dot a v = 0) ∨
  (r = 2 ∧ ∃ a b, fr2 a b ∧ ∀ v, Nl X m v ↔ (dot a v = 0 ∧ dot b v = 0)) ∨
  (r = 3 ∧ ∃ a b c, ¬ dt3 a b c = 0 ∧ ∀ v, Nl X m v ↔ (dot a v = 0 ∧ dot b v = 0 ∧ dot c v = 0))
def v3 (x y z : Int) (i : Nat) : Int := if i = 0 then x else if i = 1 then y else z
theorem dot_v3 (a : Nat → Int) (x y z : Int) : dot a (v3 x y z) = a 0 * x + a 1 * y + a 2 * z := rfl
theorem fr2_1 {a b : Nat → Int} (h : fr2 a b) : fr1 a := by
  unfold fr2 fr1 at *
  by_cases h0 : a 0 = 0
  · by_cases h1 : a 1 = 0
    · by_cases h2 : a 2 = 0
      · simp [h0, h1, h2] at h
      · exact Or.inr (Or.inr h2)
    · exact Or.inr (Or.inl h1)
  · exact Or.inl h0
theorem dt3_1 {a b c : Nat → Int} (h : ¬ dt3 a b c = 0) : fr1 a := by
  unfold dt3 fr1 at *
  by_cases h0 : a 0 = 0
  · by_cases h1 : a 1 = 0
    · by_cases h2 : a 2 = 0
      · simp [h0, h1, h2] at h
      · exact Or.inr (Or.inr h2)
    · exact Or.inr (Or.inl h1)
  · exact Or.inl h0
theorem sq_pos {a : Nat → Int} (h : fr1 a) : ¬ dot a a = 0 := by
  unfold fr1 dot at *
  have nn : ∀ x : Int, 0 ≤ x * x := fun x => by
    rcases Int.le_total 0 x with h | h
    · exact Int.mul_nonneg h h
    · have := Int.mul_nonneg (show 0 ≤ -x by omega) (show 0 ≤ -x by omega)
      rw [Int.neg_mul_neg] at this
      exact this
  have n0 := nn (a 0)
  have n1 := nn (a 1)
  have n2 := nn (a 2)
  intro e
  have e0 : a 0 * a 0 = 0 := by omega
  have e1 : a 1 * a 1 = 0 := by omega
  have e2 : a 2 * a 2 = 0 := by omega
  have z : ∀ x : Int, x * x = 0 → x = 0 := fun x h => by
    rcases Int.mul_eq_zero.mp h with h | h <;> exact h
  rcases h with h | h | h
  · exact h (z _ e0)
  · exact h (z _ e1)
  · exact h (z _ e2)
theorem dt3_null {a b c v : Nat → Int} (h : ¬ dt3 a b c = 0) (h1 : dot a v = 0) (h2 : dot b v = 0) (h3 : dot c v = 0) : v 0 = 0 ∧ v 1 = 0 ∧ v 2 = 0 := by
  have z : ∀ x : Int, dt3 a b c * x = 0 → x = 0 := fun x e => (Int.mul_eq_zero.mp e).resolve_left h
  unfold dot at h1 h2 h3
  refine ⟨z _ ?_, z _ ?_, z _ ?_⟩
  · have : dt3 a b c * v 0 = (a 0 * v 0 + a 1 * v 1 + a 2 * v 2) * (b 1 * c 2 - b 2 * c 1) - (b 0 * v 0 + b 1 * v 1 + b 2 * v 2) * (a 1 * c 2 - a 2 * c 1) + (c 0 * v 0 + c 1 * v 1 + c 2 * v 2) * (a 1 * b 2 - a 2 * b 1) := by unfold dt3; grind
    rw [this, h1, h2, h3]; simp
  · have : dt3 a b c * v 1 = -(a 0 * v 0 + a 1 * v 1 + a 2 * v 2) * (b 0 * c 2 - b 2 * c 0) + (b 0 * v 0 + b 1 * v 1 + b 2 * v 2) * (a 0 * c 2 - a 2 * c 0) - (c 0 * v 0 + c 1 * v 1 + c 2 * v 2) * (a 0 * b 2 - a 2 * b 0) := by unfold dt3; grind
    rw [this, h1, h2, h3]; simp
  · have : dt3 a b c * v 2 = (a 0 * v 0 + a 1 * v 1 + a 2 * v 2) * (b 0 * c 1 - b 1 * c 0) - (b 0 * v 0 + b 1 * v 1 + b 2 * v 2) * (a 0 * c 1 - a 1 * c 0) + (c 0 * v 0 + c 1 * v 1 + c 2 * v 2) * (a 0 * b 1 - a 1 * b 0) := by unfold dt3; grind
    rw [this, h1, h2, h3]; simp
theorem cross_null (a b : Nat → Int) : dot a (v3 (a 1 * b 2 - a 2 * b 1) (a 2 * b 0 - a 0 * b 2) (a 0 * b 1 - a 1 * b 0)) = 0 ∧ dot b (v3 (a 1 * b 2 - a 2 * b 1) (a 2 * b 0 - a 0 * b 2) (a 0 * b 1 - a 1 * b 0)) = 0 := by
  rw [dot_v3, dot_v3]
  constructor <;> grind
/-- only one number is the rank -/
theorem IsRk.uniq {X : Nat → Nat → Int} {m r r' : Nat} (h : IsRk X m r) (h' : IsRk X m r') : r = r' := by
  have no01 : ∀ a, fr1 a → (∀ v, Nl X m v) → (∀ v, Nl X m v → dot a v = 0) → False := fun a ha h1 h2 => sq_pos ha (h2 a (h1 a))
  have no12 : ∀ a b c, fr1 a → fr2 b c → (∀ v, Nl X m v ↔ dot a v = 0) → (∀ v, Nl X m v → (dot b v = 0 ∧ dot c v = 0)) → False := by
    intro a b c ha hbc h1 h2
    have q1 := h2 (v3 (a 1) (-(a 0)) 0) ((h1 _).mpr (by rw [dot_v3]; grind))
    have q2 := h2 (v3 (a 2) 0 (-(a 0))) ((h1 _).mpr (by rw [dot_v3]; grind))
    have q3 := h2 (v3 0 (a 2) (-(a 1))) ((h1 _).mpr (by rw [dot_v3]; grind))
    simp only [dot_v3] at q1 q2 q3
    have z : ∀ i : Nat, i < 3 → ¬ a i = 0 → False := by
      intro i hi hn
      have k : ∀ x : Int, a i * x = 0 → x = 0 := fun x e => (Int.mul_eq_zero.mp e).resolve_left hn
      have e1 : b 0 * c 1 = b 1 * c 0 := by
        have : a i * (b 0 * c 1 - b 1 * c 0) = 0 := by rcases (by omega : i = 0 ∨ i = 1 ∨ i = 2) with rfl | rfl | rfl <;> grind
        have := k _ this
        omega
      have e2 : b 0 * c 2 = b 2 * c 0 := by
        have : a i * (b 0 * c 2 - b 2 * c 0) = 0 := by rcases (by omega : i = 0 ∨ i = 1 ∨ i = 2) with rfl | rfl | rfl <;> grind
        have := k _ this
        omega
      have e3 : b 1 * c 2 = b 2 * c 1 := by
        have : a i * (b 1 * c 2 - b 2 * c 1) = 0 := by rcases (by omega : i = 0 ∨ i = 1 ∨ i = 2) with rfl | rfl | rfl <;> grind
        have := k _ this
        omega
      unfold fr2 at hbc
      omega
    rcases ha with h | h | h
    · exact z 0 (by omega) h
    · exact z 1 (by omega) h
    · exact z 2 (by omega) h
  have no13 : ∀ a b c d, fr1 a → ¬ dt3 b c d = 0 → (∀ v, Nl X m v ↔ dot a v = 0) → (∀ v, Nl X m v → (dot b v = 0 ∧ dot c v = 0 ∧ dot d v = 0)) → False := by
    intro a b c d ha hd h1 h2
    have q : ∀ v, dot a v = 0 → v 0 = 0 ∧ v 1 = 0 ∧ v 2 = 0 := fun v hv => by
      have := h2 v ((h1 v).mpr hv)
      exact dt3_null hd this.1 this.2.1 this.2.2
    have q1 := q (v3 (a 1) (-(a 0)) 0) (by rw [dot_v3]; grind)
    have q2 := q (v3 (a 2) 0 (-(a 0))) (by rw [dot_v3]; grind)
    simp [v3] at q1 q2
    unfold fr1 at ha
    omega
  have no23 : ∀ a b c d e, fr2 a b → ¬ dt3 c d e = 0 → (∀ v, Nl X m v ↔ (dot a v = 0 ∧ dot b v = 0)) → (∀ v, Nl X m v → (dot c v = 0 ∧ dot d v = 0 ∧ dot e v = 0)) → False := by
    intro a b c d e ha hd h1 h2
    have := h2 _ ((h1 _).mpr (cross_null a b))
    have q := dt3_null hd this.1 this.2.1 this.2.2
    simp [v3] at q
    unfold fr2 at ha
    omega
  rcases h with ⟨rfl, h⟩ | ⟨rfl, a, ha, h⟩ | ⟨rfl, a, b, ha, h⟩ | ⟨rfl, a, b, c, ha, h⟩ <;> rcases h' with ⟨rfl, g⟩ | ⟨rfl, a', ga, g⟩ | ⟨rfl, a', b', ga, g⟩ | ⟨rfl, a', b', c', ga, g⟩
  · rfl
  · exact (no01 a' ga h (fun v => (g v).mp)).elim
  · exact (no01 a' (fr2_1 ga) h (fun v hv => ((g v).mp hv).1)).elim
  · exact (no01 a' (dt3_1 ga) h (fun v hv => ((g v).mp hv).1)).elim
  · exact (no01 a ha g (fun v => (h v).mp)).elim
  · rfl
  · exact (no12 a a' b' ha ga h (fun v => (g v).mp)).elim
  · exact (no13 a a' b' c' ha ga h (fun v => (g v).mp)).elim
  · exact (no01 a (fr2_1 ha) g (fun v hv => ((h v).mp hv).1)).elim
  · exact (no12 a' a b ga ha g (fun v => (h v).mp)).elim
  · rfl
  · exact (no23 a b a' b' c' ha ga h (fun v => (g v).mp)).elim
  · exact (no01 a (dt3_1 ha) g (fun v hv => ((h v).mp hv).1)).elim
  · exact (no13 a' a b c ga ha g (fun v => (h v).mp)).elim
  · exact (no23 a' b' a b c ga ha g (fun v => (h v).mp)).elim
  · rfl
theorem IsRk.congr {X Y : Nat → Nat → Int} {m m' r : Nat} (h : IsRk X m r) (e : ∀ v, Nl Y m' v ↔ Nl X m v) : IsRk Y m' r := by
  unfold IsRk at *
  simp only [e]
  exact h
/-- the minors tell the rank -/
theorem rk_minors {X : Nat → Nat → Int} {m : Nat} :
    ((∃ i j k, i < m ∧ j < m ∧ k < m ∧ ¬ dt3 (X i) (X j) (X k) = 0) → IsRk X m 3) ∧
    ((∀ i j k, i < m → j < m → k < m → dt3 (X i) (X j) (X k) = 0) → (∃ i j, i < m ∧ j < m ∧ fr2 (X i) (X j)) → IsRk X m 2) ∧
    ((∀ i j, i < m → j < m → ¬ fr2 (X i) (X j)) → (∃ i, i < m ∧ fr1 (X i)) → IsRk X m 1) ∧
    ((∀ i, i < m → ¬ fr1 (X i)) → IsRk X m 0) := by
  refine ⟨fun ⟨i, j, k, hi, hj, hk, hd⟩ => ?_, fun h3 ⟨i, j, hi, hj, hf⟩ => ?_, fun h2 ⟨i, hi, hf⟩ => ?_, fun h1 => ?_⟩
  · refine Or.inr (Or.inr (Or.inr ⟨rfl, X i, X j, X k, hd, fun v => ⟨fun h => ⟨h i hi, h j hj, h k hk⟩, fun ⟨a, b, c⟩ l hl => ?_⟩⟩))
    have := dt3_null hd a b c
    unfold dot
    rw [this.1, this.2.1, this.2.2]
    simp
  · refine Or.inr (Or.inr (Or.inl ⟨rfl, X i, X j, hf, fun v => ⟨fun h => ⟨h i hi, h j hj⟩, fun ⟨a, b⟩ l hl => ?_⟩⟩))
    have d := h3 i j l hi hj hl
    unfold dot at *
    unfold dt3 at d
    unfold fr2 at hf
    obtain ⟨x, hx⟩ : ∃ x, x = X i := ⟨_, rfl⟩
    obtain ⟨y, hy⟩ : ∃ y, y = X j := ⟨_, rfl⟩
    obtain ⟨z, hz⟩ : ∃ z, z = X l := ⟨_, rfl⟩
    rw [← hx, ← hy, ← hz] at d
    rw [← hx] at a hf
    rw [← hy] at b hf
    rw [← hz]
    rcases hf with q | q | q
    · have k : (x 0 * y 1 - x 1 * y 0) * (z 0 * v 0 + z 1 * v 1 + z 2 * v 2) = 0 := by
        have e : (x 0 * y 1 - x 1 * y 0) * (z 0 * v 0 + z 1 * v 1 + z 2 * v 2) = v 2 * (x 0 * (y 1 * z 2 - y 2 * z 1) - x 1 * (y 0 * z 2 - y 2 * z 0) + x 2 * (y 0 * z 1 - y 1 * z 0)) + (z 0 * y 1 - z 1 * y 0) * (x 0 * v 0 + x 1 * v 1 + x 2 * v 2) + (z 1 * x 0 - z 0 * x 1) * (y 0 * v 0 + y 1 * v 1 + y 2 * v 2) := by grind
        rw [e, d, a, b]; simp
      exact (Int.mul_eq_zero.mp k).resolve_left (by omega)
    · have k : (x 0 * y 2 - x 2 * y 0) * (z 0 * v 0 + z 1 * v 1 + z 2 * v 2) = 0 := by
        have e : (x 0 * y 2 - x 2 * y 0) * (z 0 * v 0 + z 1 * v 1 + z 2 * v 2) = -v 1 * (x 0 * (y 1 * z 2 - y 2 * z 1) - x 1 * (y 0 * z 2 - y 2 * z 0) + x 2 * (y 0 * z 1 - y 1 * z 0)) + (z 0 * y 2 - z 2 * y 0) * (x 0 * v 0 + x 1 * v 1 + x 2 * v 2) + (z 2 * x 0 - z 0 * x 2) * (y 0 * v 0 + y 1 * v 1 + y 2 * v 2) := by grind
        rw [e, d, a, b]; simp
      exact (Int.mul_eq_zero.mp k).resolve_left (by omega)
    · have k : (x 1 * y 2 - x 2 * y 1) * (z 0 * v 0 + z 1 * v 1 + z 2 * v 2) = 0 := by
        have e : (x 1 * y 2 - x 2 * y 1) * (z 0 * v 0 + z 1 * v 1 + z 2 * v 2) = v 0 * (x 0 * (y 1 * z 2 - y 2 * z 1) - x 1 * (y 0 * z 2 - y 2 * z 0) + x 2 * (y 0 * z 1 - y 1 * z 0)) + (z 1 * y 2 - z 2 * y 1) * (x 0 * v 0 + x 1 * v 1 + x 2 * v 2) + (z 2 * x 1 - z 1 * x 2) * (y 0 * v 0 + y 1 * v 1 + y 2 * v 2) := by grind
        rw [e, d, a, b]; simp
      exact (Int.mul_eq_zero.mp k).resolve_left (by omega)
  · refine Or.inr (Or.inl ⟨rfl, X i, hf, fun v => ⟨fun h => h i hi, fun a l hl => ?_⟩⟩)
    have d := h2 i l hi hl
    unfold dot at *
    unfold fr2 at d
    unfold fr1 at hf
    obtain ⟨x, hx⟩ : ∃ x, x = X i := ⟨_, rfl⟩
    obtain ⟨z, hz⟩ : ∃ z, z = X l := ⟨_, rfl⟩
    rw [← hx, ← hz] at d
    rw [← hx] at a hf
    rw [← hz]
    have d1 : x 0 * z 1 = x 1 * z 0 := by omega
    have d2 : x 0 * z 2 = x 2 * z 0 := by omega
    have d3 : x 1 * z 2 = x 2 * z 1 := by omega
    rcases hf with q | q | q
    · refine (Int.mul_eq_zero.mp (?_ : x 0 * (z 0 * v 0 + z 1 * v 1 + z 2 * v 2) = 0)).resolve_left q
      grind
    · refine (Int.mul_eq_zero.mp (?_ : x 1 * (z 0 * v 0 + z 1 * v 1 + z 2 * v 2) = 0)).resolve_left q
      grind
    · refine (Int.mul_eq_zero.mp (?_ : x 2 * (z 0 * v 0 + z 1 * v 1 + z 2 * v 2) = 0)).resolve_left q
      grind
  · refine Or.inl ⟨rfl, fun v l hl => ?_⟩
    have := h1 l hl
    unfold fr1 at this
    unfold dot
    rw [show X l 0 = 0 by omega, show X l 1 = 0 by omega, show X l 2 = 0 by omega]
    simp
/-! elimination -/
def sw (X : Nat → Nat → Int) (r p i : Nat) : Nat → Int := if i = r then X p else if i = p then X r else X i
theorem Nl_sw {X : Nat → Nat → Int} {m r p : Nat} (hr : r < m) (hp : p < m) (v : Nat → Int) : Nl (sw X r p) m v ↔ Nl X m v := by
  unfold Nl sw
  constructor
  · intro h i hi
    by_cases e : i = r
    · subst e
      by_cases e2 : p = i
      · have := h i hi
        rw [if_pos rfl, e2] at this
        exact this
      · have := h p hp
        rw [if_neg e2, if_pos rfl] at this
        exact this
    · by_cases e2 : i = p
      · have := h r hr
        rw [if_pos rfl] at this
        rw [e2]; exact this
      · have := h i hi
        rw [if_neg e, if_neg e2] at this
        exact this
  · intro h i hi
    split
    · exact h p hp
    · split
      · exact h r hr
      · exact h i hi
theorem Nl_el {X Y : Nat → Nat → Int} {m r : Nat} (hr : r < m) (h0 : ∀ i, i < m → i ≤ r → ∀ c, c < 3 → Y i c = X i c) (h1 : ∀ i, r < i → i < m → ∃ e P b : Int, ¬ e = 0 ∧ ¬ P = 0 ∧ ∀ c, c < 3 → e * Y i c = P * X i c - b * X r c) (v : Nat → Int) : Nl Y m v ↔ Nl X m v := by
  have same : ∀ i, i < m → i ≤ r → dot (Y i) v = dot (X i) v := fun i hi hr => by
    unfold dot
    rw [h0 i hi hr 0 (by omega), h0 i hi hr 1 (by omega), h0 i hi hr 2 (by omega)]
  have key : ∀ i, r < i → i < m → dot (X r) v = 0 → (dot (Y i) v = 0 ↔ dot (X i) v = 0) := by
    intro i hi him hz
    obtain ⟨e, P, b, he, hP, hc⟩ := h1 i hi him
    have c0 := hc 0 (by omega)
    have c1 := hc 1 (by omega)
    have c2 := hc 2 (by omega)
    have t : e * dot (Y i) v = P * dot (X i) v - b * dot (X r) v := by
      unfold dot
      grind
    rw [hz] at t
    constructor
    · intro q
      rw [q] at t
      exact (Int.mul_eq_zero.mp (by omega : P * dot (X i) v = 0)).resolve_left hP
    · intro q
      rw [q] at t
      exact (Int.mul_eq_zero.mp (by omega : e * dot (Y i) v = 0)).resolve_left he
  unfold Nl
  constructor
  · intro h i hi
    have hz : dot (X r) v = 0 := by rw [← same r hr (Nat.le_refl _)]; exact h r hr
    by_cases c : i ≤ r
    · rw [← same i hi c]; exact h i hi
    · exact (key i (by omega) hi hz).mp (h i hi)
  · intro h i hi
    have hz := h r hr
    by_cases c : i ≤ r
    · rw [same i hi c]; exact h i hi
    · exact (key i (by omega) hi hz).mpr (h i hi)
theorem rk1_of {X : Nat → Nat → Int} {m i0 : Nat} (h0 : i0 < m) (hf : fr1 (X i0)) (h : ∀ i, i < m → ∃ γ α : Int, ¬ γ = 0 ∧ ∀ c, c < 3 → γ * X i c = α * X i0 c) : IsRk X m 1 := by
  refine Or.inr (Or.inl ⟨rfl, X i0, hf, fun v => ⟨fun q => q i0 h0, fun q i hi => ?_⟩⟩)
  obtain ⟨γ, α, hg, hc⟩ := h i hi
  have c0 := hc 0 (by omega)
  have c1 := hc 1 (by omega)
  have c2 := hc 2 (by omega)
  have t : γ * dot (X i) v = α * dot (X i0) v := by unfold dot; grind
  rw [q] at t
  exact (Int.mul_eq_zero.mp (by omega : γ * dot (X i) v = 0)).resolve_left hg
theorem rk2_of {X : Nat → Nat → Int} {m i0 i1 : Nat} (h0 : i0 < m) (h1 : i1 < m) (hf : fr2 (X i0) (X i1)) (h : ∀ i, i < m → ∃ γ α β : Int, ¬ γ = 0 ∧ ∀ c, c < 3 → γ * X i c = α * X i0 c + β * X i1 c) : IsRk X m 2 := by
  refine Or.inr (Or.inr (Or.inl ⟨rfl, X i0, X i1, hf, fun v => ⟨fun q => ⟨q i0 h0, q i1 h1⟩, fun q i hi => ?_⟩⟩))
  obtain ⟨γ, α, β, hg, hc⟩ := h i hi
  have c0 := hc 0 (by omega)
  have c1 := hc 1 (by omega)
  have c2 := hc 2 (by omega)
  have t : γ * dot (X i) v = α * dot (X i0) v + β * dot (X i1) v := by unfold dot; grind
  rw [q.1, q.2] at t
  exact (Int.mul_eq_zero.mp (by omega : γ * dot (X i) v = 0)).resolve_left hg
/-- two steps of elimination: the second row's pivot in column 1 -/
theorem ech_011 {X : Nat → Nat → Int} {m : Nat} (hm : 2 ≤ m) (p0 : ¬ X 0 0 = 0) (z : ∀ i, 1 ≤ i → i < m → X i 0 = 0) (p1 : ¬ X 1 1 = 0) : ((∃ i, 2 ≤ i ∧ i < m ∧ ¬ X i 2 * X 1 1 - X 1 2 * X i 1 = 0) → IsRk X m 3) ∧ ((∀ i, 2 ≤ i → i < m → X i 2 * X 1 1 - X 1 2 * X i 1 = 0) → IsRk X m 2) := by
  constructor
  · intro ⟨i, h1, h2, h3⟩
    refine rk_minors.1 ⟨0, 1, i, by omega, by omega, h2, ?_⟩
    unfold dt3
    rw [z 1 (by omega) (by omega), z i (by omega) h2]
    intro e
    have : X 0 0 * (X i 2 * X 1 1 - X 1 2 * X i 1) = 0 := by grind
    rcases Int.mul_eq_zero.mp this with q | q
    · exact p0 q
    · exact h3 q
  · intro h
    refine rk2_of (i0 := 0) (i1 := 1) (by omega) (by omega) ?_ (fun i hi => ?_)
    · refine Or.inl ?_
      rw [z 1 (by omega) (by omega)]
      intro e
      rcases Int.mul_eq_zero.mp (by omega : X 0 0 * X 1 1 = 0) with q | q
      · exact p0 q
      · exact p1 q
    · rcases (by omega : i = 0 ∨ i = 1 ∨ 2 ≤ i) with rfl | rfl | h2
      · exact ⟨1, 1, 0, by decide, fun c _ => by omega⟩
      · exact ⟨1, 0, 1, by decide, fun c _ => by omega⟩
      · refine ⟨X 1 1, 0, X i 1, p1, fun c hc => ?_⟩
        have e := h i h2 hi
        have z1 := z 1 (by omega) (by omega)
        have zi := z i (by omega) hi
        rcases (by omega : c = 0 ∨ c = 1 ∨ c = 2) with rfl | rfl | rfl
        · rw [z1, zi]; simp
        · grind
        · grind
/-- the second pivot in column 2, or none; d is the column of the first -/
theorem ech_0c2 {X : Nat → Nat → Int} {m d : Nat} (hm : 1 ≤ m) (hd : d < 2) (p0 : ¬ X 0 d = 0) (z : ∀ i, 1 ≤ i → i < m → X i 0 = 0 ∧ X i 1 = 0) : ((∃ i, 1 ≤ i ∧ i < m ∧ ¬ X i 2 = 0) → IsRk X m 2) ∧ ((∀ i, 1 ≤ i → i < m → X i 2 = 0) → IsRk X m 1) := by
  constructor
  · intro ⟨i, h1, h2, h3⟩
    have zi := z i h1 h2
    refine rk2_of (i0 := 0) (i1 := i) (by omega) h2 ?_ (fun k hk => ?_)
    · unfold fr2
      rw [zi.1, zi.2]
      rcases (by omega : d = 0 ∨ d = 1) with rfl | rfl
      · refine Or.inr (Or.inl ?_)
        intro e
        rcases Int.mul_eq_zero.mp (by omega : X 0 0 * X i 2 = 0) with q | q
        · exact p0 q
        · exact h3 q
      · refine Or.inr (Or.inr ?_)
        intro e
        rcases Int.mul_eq_zero.mp (by omega : X 0 1 * X i 2 = 0) with q | q
        · exact p0 q
        · exact h3 q
    · by_cases k0 : k = 0
      · subst k0
        exact ⟨1, 1, 0, by decide, fun c _ => by omega⟩
      · have zk := z k (by omega) hk
        refine ⟨X i 2, 0, X k 2, h3, fun c hc => ?_⟩
        rcases (by omega : c = 0 ∨ c = 1 ∨ c = 2) with rfl | rfl | rfl
        · rw [zk.1, zi.1]; simp
        · rw [zk.2, zi.2]; simp
        · grind
  · intro h
    refine rk1_of (i0 := 0) (by omega) ?_ (fun k hk => ?_)
    · rcases (by omega : d = 0 ∨ d = 1) with rfl | rfl
      · exact Or.inl p0
      · exact Or.inr (Or.inl p0)
    · by_cases k0 : k = 0
      · subst k0
        exact ⟨1, 1, by decide, fun c _ => rfl⟩
      · have zk := z k (by omega) hk
        refine ⟨1, 0, by decide, fun c hc => ?_⟩
        rcases (by omega : c = 0 ∨ c = 1 ∨ c = 2) with rfl | rfl | rfl
        · rw [zk.1]; simp
        · rw [zk.2]; simp
        · rw [h k (by omega) hk]; simp
/-- column 2 alone -/
theorem ech_2 {X : Nat → Nat → Int} {m : Nat} (z : ∀ i, i < m → X i 0 = 0 ∧ X i 1 = 0) : ((∃ i, i < m ∧ ¬ X i 2 = 0) → IsRk X m 1) ∧ ((∀ i, i < m → X i 2 = 0) → IsRk X m 0) := by
  constructor
  · intro ⟨i, h2, h3⟩
    refine rk1_of (i0 := i) h2 (Or.inr (Or.inr h3)) (fun k hk => ⟨X i 2, X k 2, h3, fun c hc => ?_⟩)
    have zk := z k hk
    have zi := z i h2
    rcases (by omega : c = 0 ∨ c = 1 ∨ c = 2) with rfl | rfl | rfl
    · rw [zk.1, zi.1]; simp
    · rw [zk.2, zi.2]; simp
    · grind
  · intro h
    refine rk_minors.2.2.2 (fun i hi => ?_)
    have zi := z i hi
    have := h i hi
    unfold fr1
    omega
/-- the first step's numbers -/
def x3 (X : Nat → Nat → Int) (i c : Nat) : Int := X i c * X 0 0 - X 0 c * X i 0
def g3 (X : Nat → Nat → Int) (i : Nat) : Int := (Int.gcd (Int.gcd (Int.gcd 0 (x3 X i 0)) (x3 X i 1)) (x3 X i 2) : Int)
def el (X : Nat → Nat → Int) (i : Nat) : Nat → Int := if i = 0 then X 0 else fun c => x3 X i c / g3 X i
theorem g3_dvd (X : Nat → Nat → Int) (i c : Nat) (hc : c < 3) : g3 X i ∣ x3 X i c := by
  unfold g3
  have d2 := Int.gcd_dvd_right (Int.gcd (Int.gcd 0 (x3 X i 0)) (x3 X i 1) : Int) (x3 X i 2)
  have d1 := Int.gcd_dvd_left (Int.gcd (Int.gcd 0 (x3 X i 0)) (x3 X i 1) : Int) (x3 X i 2)
  have e1 := Int.gcd_dvd_right (Int.gcd 0 (x3 X i 0) : Int) (x3 X i 1)
  have e0 := Int.gcd_dvd_left (Int.gcd 0 (x3 X i 0) : Int) (x3 X i 1)
  have f0 := Int.gcd_dvd_right 0 (x3 X i 0)
  rcases (by omega : c = 0 ∨ c = 1 ∨ c = 2) with rfl | rfl | rfl
  · exact Int.dvd_trans d1 (Int.dvd_trans e0 f0)
  · exact Int.dvd_trans d1 e1
  · exact d2
theorem g3_zero {X : Nat → Nat → Int} {i : Nat} (h : g3 X i = 0) (c : Nat) (hc : c < 3) : x3 X i c = 0 := by
  have := g3_dvd X i c hc
  rw [h] at this
  exact Int.zero_dvd.mp this
theorem el_eq {X : Nat → Nat → Int} {m : Nat} (hm : 1 ≤ m) (p0 : ¬ X 0 0 = 0) (v : Nat → Int) : Nl (el X) m v ↔ Nl X m v := by
  refine Nl_el (r := 0) (by omega) (fun i hi h0 c hc => ?_) (fun i h0 hi => ?_) v
  · rw [show i = 0 by omega]; rfl
  · by_cases g : g3 X i = 0
    · refine ⟨1, X 0 0, X i 0, by decide, p0, fun c hc => ?_⟩
      have := g3_zero g c hc
      unfold el
      rw [if_neg (by omega), this]
      unfold x3 at this
      simp
      grind
    · refine ⟨g3 X i, X 0 0, X i 0, g, p0, fun c hc => ?_⟩
      unfold el
      rw [if_neg (by omega), Int.mul_ediv_cancel' (g3_dvd X i c hc)]
      unfold x3
      grind
theorem el_z {X : Nat → Nat → Int} {i : Nat} (h : 1 ≤ i) : el X i 0 = 0 := by
  unfold el
  rw [if_neg (by omega)]
  have : x3 X i 0 = 0 := by unfold x3; grind
  simp [this]
theorem dt3_s1 (x y z : Nat → Int) : dt3 x y z = -dt3 y x z := by unfold dt3; grind
theorem dt3_s2 (x y z : Nat → Int) : dt3 x y z = -dt3 x z y := by unfold dt3; grind
theorem dt3_e1 (x y : Nat → Int) : dt3 x x y = 0 := by unfold dt3; grind
theorem dt3_e2 (x y : Nat → Int) : dt3 x y y = 0 := by unfold dt3; grind
theorem dt3_e3 (x y : Nat → Int) : dt3 x y x = 0 := by unfold dt3; grind
theorem dt3_all {X : Nat → Nat → Int} {m : Nat} (h : ∀ a b c, c < b → b < a → a < m → dt3 (X a) (X b) (X c) = 0) : ∀ i j k, i < m → j < m → k < m → dt3 (X i) (X j) (X k) = 0 := by
  intro i j k hi hj hk
  rcases Nat.lt_trichotomy i j with a | a | a <;> rcases Nat.lt_trichotomy j k with b | b | b <;> rcases Nat.lt_trichotomy i k with c | c | c
  all_goals first
    | (exfalso; omega)
    | (subst a; exact dt3_e1 _ _)
    | (subst b; exact dt3_e2 _ _)
    | (subst c; exact dt3_e3 _ _)
    | exact h _ _ _ b a hi
    | skip
  · rw [dt3_s1, dt3_s2, dt3_s1, h k j i a b hk]; rfl
  · rw [dt3_s1, dt3_s2, h j k i c b hj]; rfl
  · rw [dt3_s1, h j i k c a hj]; rfl
  · rw [dt3_s2, dt3_s1, h k i j a c hk]; rfl
  · rw [dt3_s2, h i k j b c hi]; rfl
theorem fr2_sym {x y : Nat → Int} (h : fr2 x y) : fr2 y x := by
  unfold fr2 at *
  rcases h with h | h | h
  · exact Or.inl (fun e => h (by rw [Int.mul_comm, ← e, Int.mul_comm]))
  · exact Or.inr (Or.inl (fun e => h (by rw [Int.mul_comm, ← e, Int.mul_comm])))
  · exact Or.inr (Or.inr (fun e => h (by rw [Int.mul_comm, ← e, Int.mul_comm])))
theorem fr2_self (x : Nat → Int) : ¬ fr2 x x := by
  unfold fr2
  rw [Int.mul_comm (x 0) (x 1), Int.mul_comm (x 0) (x 2), Int.mul_comm (x 1) (x 2)]
  omega
theorem fr2_all {X : Nat → Nat → Int} {m : Nat} (h : ∀ a b, b < a → a < m → ¬ fr2 (X a) (X b)) : ∀ i j, i < m → j < m → ¬ fr2 (X i) (X j) := by
  intro i j hi hj
  rcases Nat.lt_trichotomy i j with a | a | a
  · exact fun q => h j i a hj (fr2_sym q)
  · subst a; exact fr2_self _
  · exact h i j a hi
/-- rows of a table of the class -/
def RW (C Z : Nat → Nat) (L : Nat → Nat → Int64) (R : Nat → Nat → Nat) (T zt m : Nat) (P : Nat → Nat) (X : Nat → Nat → Int) : Prop :=
  C T = 23 ∧ Z T = zt ∧ zt < 100 ∧ m ≤ zt ∧ (∀ i, i < m → R T i = P i ∧ C (P i) = 22 ∧ Z (P i) = 3 ∧ L (P i) 0 = wL (X i 0) ∧ L (P i) 1 = wL (X i 1) ∧ L (P i) 2 = wL (X i 2)) ∧
  (∀ i c, i < m → c < 3 → bn 1073741824 (X i c)) ∧ ∀ i j k, i < m → j < m → k < m → bn 18446744073709551615 (dt3 (X i) (X j) (X k))
set_option maxRecDepth 100000 in
set_option maxHeartbeats 8000000 in
theorem c_fr1 {n sl : Nat} {C Z : Nat → Nat} {I : Nat → Nat → Int32} {L : Nat → Nat → Int64} {R : Nat → Nat → Nat} {p : Nat} {x : Nat → Int} (h : C p = 22 ∧ Z p = 3 ∧ L p 0 = wL (x 0) ∧ L p 1 = wL (x 1) ∧ L p 2 = wL (x 2)) (hb : ∀ c, c < 3 → bn 1073741824 (x c)) : (fr1 x → ∀ (k pc : Nat) (ls : Lo) (st : List Value) (Q : Option Value → Hp → Prop), Call 43 [some (.ref p)] (n, sl, C, Z, I, L, R) k pc ls st Q ↔ Wp k pc ls (.int 1 :: st) (n, sl, C, Z, I, L, R) Q) ∧ (¬ fr1 x → ∀ (k pc : Nat) (ls : Lo) (st : List Value) (Q : Option Value → Hp → Prop), Call 43 [some (.ref p)] (n, sl, C, Z, I, L, R) k pc ls st Q ↔ Wp k pc ls (.int 0 :: st) (n, sl, C, Z, I, L, R) Q) := by
  obtain ⟨c, z, l0, l1, l2⟩ := h
  have e : ∀ c, c < 3 → (wL (x c) = 0 ↔ x c = 0) := fun c hc => by have := hb c hc; unfold bn at this; exact wL_eq0 (by omega) (by omega)
  have e0 := e 0 (by omega)
  have e1 := e 1 (by omega)
  have e2 := e 2 (by omega)
  constructor
  · intro f k pc ls st Q
    by_cases h0 : x 0 = 0
    · by_cases h1 : x 1 = 0
      · have h2 : ¬ x 2 = 0 := by unfold fr1 at f; omega
        simp [S43_0, Call_in (k2 := 43), BS, ixs, inbs, c, z, l0, l1, l2, lg_eq, wL_0, e0, e1, e2, h0, h1, h2]
      · simp [S43_0, Call_in (k2 := 43), BS, ixs, inbs, c, z, l0, l1, l2, lg_eq, wL_0, e0, e1, e2, h0, h1]
    · simp [S43_0, Call_in (k2 := 43), BS, ixs, inbs, c, z, l0, l1, l2, lg_eq, wL_0, e0, e1, e2, h0]
  · intro f k pc ls st Q
    unfold fr1 at f
    have h0 : x 0 = 0 := by omega
    have h1 : x 1 = 0 := by omega
    have h2 : x 2 = 0 := by omega
    simp [S43_0, Call_in (k2 := 43), BS, ixs, inbs, c, z, l0, l1, l2, lg_eq, wL_0, e0, e1, e2, h0, h1, h2]
set_option maxRecDepth 100000 in
set_option maxHeartbeats 8000000 in
theorem c_fr2 {n sl : Nat} {C Z : Nat → Nat} {I : Nat → Nat → Int32} {L : Nat → Nat → Int64} {R : Nat → Nat → Nat} {p q : Nat} {x y : Nat → Int} (h : C p = 22 ∧ Z p = 3 ∧ L p 0 = wL (x 0) ∧ L p 1 = wL (x 1) ∧ L p 2 = wL (x 2)) (h' : C q = 22 ∧ Z q = 3 ∧ L q 0 = wL (y 0) ∧ L q 1 = wL (y 1) ∧ L q 2 = wL (y 2)) (hb : ∀ c, c < 3 → bn 1073741824 (x c)) (hb' : ∀ c, c < 3 → bn 1073741824 (y c)) : (fr2 x y → ∀ (k pc : Nat) (ls : Lo) (st : List Value) (Q : Option Value → Hp → Prop), Call 42 [some (.ref p), some (.ref q)] (n, sl, C, Z, I, L, R) k pc ls st Q ↔ Wp k pc ls (.int 1 :: st) (n, sl, C, Z, I, L, R) Q) ∧ (¬ fr2 x y → ∀ (k pc : Nat) (ls : Lo) (st : List Value) (Q : Option Value → Hp → Prop), Call 42 [some (.ref p), some (.ref q)] (n, sl, C, Z, I, L, R) k pc ls st Q ↔ Wp k pc ls (.int 0 :: st) (n, sl, C, Z, I, L, R) Q) := by
  obtain ⟨c, z, l0, l1, l2⟩ := h
  obtain ⟨c', z', m0, m1, m2⟩ := h'
  have e : ∀ a b, a < 3 → b < 3 → (wL (x a * y b) = wL (x b * y a) ↔ x a * y b = x b * y a) := fun a b ha hc => by
    have p1 := bn_mul (hb a ha) (hb' b hc)
    have p2 := bn_mul (hb b hc) (hb' a ha)
    unfold bn at p1 p2
    exact wL_eq (by omega) (by omega)
  have e0 := e 0 1 (by omega) (by omega)
  have e1 := e 0 2 (by omega) (by omega)
  have e2 := e 1 2 (by omega) (by omega)
  constructor
  · intro f k pc ls st Q
    by_cases h0 : x 0 * y 1 = x 1 * y 0
    · by_cases h1 : x 0 * y 2 = x 2 * y 0
      · have h2 : ¬ x 1 * y 2 = x 2 * y 1 := by unfold fr2 at f; omega
        simp [S42_0, S42_1, S42_2, Call_in (k2 := 42), BS, ixs, inbs, c, z, c', z', l0, l1, l2, m0, m1, m2, wL_mul, lg_eq, e0, e1, e2, h0, h1, h2]
      · simp [S42_0, S42_1, S42_2, Call_in (k2 := 42), BS, ixs, inbs, c, z, c', z', l0, l1, l2, m0, m1, m2, wL_mul, lg_eq, e0, e1, e2, h0, h1]
    · simp [S42_0, S42_1, S42_2, Call_in (k2 := 42), BS, ixs, inbs, c, z, c', z', l0, l1, l2, m0, m1, m2, wL_mul, lg_eq, e0, e1, e2, h0]
  · intro f k pc ls st Q
    unfold fr2 at f
    have h0 : x 0 * y 1 = x 1 * y 0 := by omega
    have h1 : x 0 * y 2 = x 2 * y 0 := by omega
    have h2 : x 1 * y 2 = x 2 * y 1 := by omega
    simp [S42_0, S42_1, S42_2, Call_in (k2 := 42), BS, ixs, inbs, c, z, c', z', l0, l1, l2, m0, m1, m2, wL_mul, lg_eq, e0, e1, e2, h0, h1, h2]
set_option maxRecDepth 100000 in
set_option maxHeartbeats 8000000 in
theorem rk_in {n sl : Nat} {C Z : Nat → Nat} {I : Nat → Nat → Int32} {L : Nat → Nat → Int64} {R : Nat → Nat → Nat} {Q : Option Value → Hp → Prop} {T zt m i j : Nat} {ρ : Int32} {P : Nat → Nat} {X : Nat → Nat → Int} (hw : RW C Z L R T zt m P X) (hi : i < m) (hj : j < i) (hit : (∃ k, k < j ∧ ¬ dt3 (X i) (X j) (X k) = 0) → Q (some (.int 3)) (n, sl, C, Z, I, L, R)) (go : (∀ k, k < j → dt3 (X i) (X j) (X k) = 0) → Wp 44 89 [some (.ref T), some (.int (nI m)), some (.int ρ), some (.int (nI i)), some (.int (nI j)), some (.int (nI j))] [] (n, sl, C, Z, I, L, R) Q) : ∀ d k, k + d = j → (∀ k', k' < k → dt3 (X i) (X j) (X k') = 0) → Br 44 89 62 [some (.ref T), some (.int (nI m)), some (.int ρ), some (.int (nI i)), some (.int (nI j)), some (.int (nI k))] [] (n, sl, C, Z, I, L, R) Q (nI j ≤ nI k) := by
  obtain ⟨c1, z1, zs, mz, hr, hb, hd⟩ := hw
  intro d
  induction d with
  | zero =>
    intro k hk hz
    have e : k = j := by omega
    rw [e]
    refine Br_of (fun _ => go (fun k' h => hz k' (by omega))) (fun h => absurd (nI_le (Nat.le_refl j) (by omega)) h)
  | succ d ih =>
    intro k hk hz
    refine Br_of (fun h => absurd h (nI_ge (by omega) (by omega))) (fun _ => ?_)
    obtain ⟨pi, ri⟩ := hr i hi
    obtain ⟨pj, rj⟩ := hr j (by omega)
    obtain ⟨pk, rk⟩ := hr k (by omega)
    have i0 : inb (nI i) zt = true := by rw [inb_nI (by omega)]; simp; omega
    have j0 : inb (nI j) zt = true := by rw [inb_nI (by omega)]; simp; omega
    have k0 : inb (nI k) zt = true := by rw [inb_nI (by omega)]; simp; omega
    have ixi := ix_nI (show i < 2 ^ 31 by omega)
    have ixj := ix_nI (show j < 2 ^ 31 by omega)
    have ixk := ix_nI (show k < 2 ^ 31 by omega)
    have w := c_whk (X i) (X j) (X k) (P i) (P j) (P k) n sl C Z I L R ⟨ri.1, ri.2.1, rj.1, rj.2.1, rk.1, rk.2.1, ri.2.2, rj.2.2, rk.2.2⟩
    have db := hd i j k hi (by omega) (by omega)
    unfold bn at db
    have e := wL_eq0 (a := dt3 (X i) (X j) (X k)) (by omega) (by omega)
    by_cases q : dt3 (X i) (X j) (X k) = 0
    · have q' := e.mpr q
      have := ih (k + 1) (by omega) (fun k' h => by
        by_cases e2 : k' = k
        · rw [e2]; exact q
        · exact hz k' (by omega))
      simp [S44_0, S44_1, S44_2, BS, c1, z1, i0, j0, k0, ixi, ixj, ixk, pi, pj, pk, w, lg_eq, q', nIk]
      exact this
    · have q' : ¬ wL (dt3 (X i) (X j) (X k)) = 0 := fun h => q (e.mp h)
      have := hit ⟨k, by omega, q⟩
      simp [S44_0, S44_1, S44_2, BS, c1, z1, i0, j0, k0, ixi, ixj, ixk, pi, pj, pk, w, lg_eq, q', this]
set_option maxRecDepth 100000 in
set_option maxHeartbeats 8000000 in
theorem rk_mid {n sl : Nat} {C Z : Nat → Nat} {I : Nat → Nat → Int32} {L : Nat → Nat → Int64} {R : Nat → Nat → Nat} {Q : Option Value → Hp → Prop} {T zt m i : Nat} {P : Nat → Nat} {X : Nat → Nat → Int} (hw : RW C Z L R T zt m P X) (hi : i < m) (hit : (∃ j k, k < j ∧ j < i ∧ ¬ dt3 (X i) (X j) (X k) = 0) → Q (some (.int 3)) (n, sl, C, Z, I, L, R)) : ∀ d j (ρ : Int32) l5, j + d = i → (ρ = 0 ∨ ρ = 1 ∨ ρ = 2) → (∀ j' k', k' < j' → j' < j → dt3 (X i) (X j') (X k') = 0) → (∀ (ρ' : Int32) l5', (∀ j' k', k' < j' → j' < i → dt3 (X i) (X j') (X k') = 0) → ((ρ' = 2 ∧ ∃ j', j ≤ j' ∧ j' < i ∧ fr2 (X i) (X j')) ∨ (ρ' = ρ ∧ ∀ j', j ≤ j' → j' < i → ¬ fr2 (X i) (X j'))) → Wp 44 95 [some (.ref T), some (.int (nI m)), some (.int ρ'), some (.int (nI i)), some (.int (nI i)), l5'] [] (n, sl, C, Z, I, L, R) Q) → Br 44 95 33 [some (.ref T), some (.int (nI m)), some (.int ρ), some (.int (nI i)), some (.int (nI j)), l5] [] (n, sl, C, Z, I, L, R) Q (nI i ≤ nI j) := by
  have hw' := hw
  obtain ⟨c1, z1, zs, mz, hr, hb, hd⟩ := hw
  intro d
  induction d with
  | zero =>
    intro j ρ l5 hj hρ hz go
    have e : j = i := by omega
    rw [e] at go hz ⊢
    exact Br_of (fun _ => go ρ l5 hz (Or.inr ⟨rfl, fun j' h1 h2 => absurd h1 (by omega)⟩)) (fun h => absurd (nI_le (Nat.le_refl i) (by omega)) h)
  | succ d ih =>
    intro j ρ l5 hj hρ hz go
    refine Br_of (fun h => absurd h (nI_ge (by omega) (by omega))) (fun _ => ?_)
    obtain ⟨pi, ri⟩ := hr i hi
    obtain ⟨pj, rj⟩ := hr j (by omega)
    have i0 : inb (nI i) zt = true := by rw [inb_nI (by omega)]; simp; omega
    have j0 : inb (nI j) zt = true := by rw [inb_nI (by omega)]; simp; omega
    have ixi := ix_nI (show i < 2 ^ 31 by omega)
    have ixj := ix_nI (show j < 2 ^ 31 by omega)
    have f := c_fr2 (n := n) (sl := sl) (I := I) (R := R) ri rj (fun c hc => hb i c hi hc) (fun c hc => hb j c (by omega) hc)
    -- behind the test: the inner loop, then the next j
    have next : ∀ (ρ2 : Int32) l5, (ρ2 = 0 ∨ ρ2 = 1 ∨ ρ2 = 2) → ((ρ2 = 2 ∧ fr2 (X i) (X j)) ∨ (ρ2 = ρ ∧ ¬ fr2 (X i) (X j))) → Wp 44 53 [some (.ref T), some (.int (nI m)), some (.int ρ2), some (.int (nI i)), some (.int (nI j)), l5] [.int 0] (n, sl, C, Z, I, L, R) Q := by
      intro ρ2 l5 h2 h3
      have inn := rk_in (n := n) (sl := sl) (I := I) (Q := Q) (ρ := ρ2) (j := j) hw' hi (by omega) (fun ⟨k, h4, h5⟩ => hit ⟨j, k, h4, by omega, h5⟩) (fun hz2 => ?_) j 0 (by omega) (fun k' h => absurd h (by omega))
      · rw [nI_0] at inn
        have gen : ∀ x0 : Int32, Wp 44 53 [some (.ref T), some (.int (nI m)), some (.int ρ2), some (.int (nI i)), some (.int (nI j)), l5] [.int x0] (n, sl, C, Z, I, L, R) Q ↔ Br 44 89 62 [some (.ref T), some (.int (nI m)), some (.int ρ2), some (.int (nI i)), some (.int (nI j)), some (.int x0)] [] (n, sl, C, Z, I, L, R) Q (nI j ≤ x0) := fun x0 => by simp [S44_0, S44_1, S44_2, BS]
        exact (gen 0).mpr inn
      · have := ih (j + 1) ρ2 (some (.int (nI j))) (by omega) h2 (fun j' k' h4 h5 => by
          by_cases e : j' = j
          · rw [e]; exact hz2 k' (by omega)
          · exact hz j' k' h4 (by omega)) (fun ρ' l5' hz3 h4 => go ρ' l5' hz3 (by
          rcases h4 with ⟨h4, j', h5, h6, h7⟩ | ⟨h4, h5⟩
          · exact Or.inl ⟨h4, j', by omega, h6, h7⟩
          · rcases h3 with ⟨h6, h7⟩ | ⟨h6, h7⟩
            · exact Or.inl ⟨h4.trans h6, j, by omega, by omega, h7⟩
            · refine Or.inr ⟨h4.trans h6, fun j' h8 h9 => ?_⟩
              by_cases e : j' = j
              · rw [e]; exact h7
              · exact h5 j' (by omega) h9))
        simp [S44_0, S44_1, S44_2, BS, nIk]
        exact this
    by_cases q : fr2 (X i) (X j)
    · have ff := f.1 q
      have nx := next 2 l5 (by simp) (Or.inl ⟨rfl, q⟩)
      rcases hρ with rfl | rfl | rfl
      all_goals simp [S44_0, S44_1, S44_2, BS, c1, z1, i0, j0, ixi, ixj, pi, pj, ff, ↓nx]
    · have ff := f.2 q
      have nx := next ρ l5 hρ (Or.inr ⟨rfl, q⟩)
      simp [S44_0, S44_1, S44_2, BS, c1, z1, i0, j0, ixi, ixj, pi, pj, ff, ↓nx]
set_option maxRecDepth 100000 in
set_option maxHeartbeats 8000000 in
theorem rk_out {n sl : Nat} {C Z : Nat → Nat} {I : Nat → Nat → Int32} {L : Nat → Nat → Int64} {R : Nat → Nat → Nat} {Q : Option Value → Hp → Prop} {T zt m : Nat} {P : Nat → Nat} {X : Nat → Nat → Int} (hw : RW C Z L R T zt m P X) (go : ∀ r, r ≤ 3 → IsRk X m r → Q (some (.int (nI r))) (n, sl, C, Z, I, L, R)) : ∀ d i (ρ : Int32) l4 l5, i + d = m → (∀ a b c, c < b → b < a → a < i → dt3 (X a) (X b) (X c) = 0) → ((ρ = 2 ∧ ∃ a b, b < a ∧ a < i ∧ fr2 (X a) (X b)) ∨ ((∀ a b, b < a → a < i → ¬ fr2 (X a) (X b)) ∧ ((ρ = 1 ∧ ∃ a, a < i ∧ fr1 (X a)) ∨ (ρ = 0 ∧ ∀ a, a < i → ¬ fr1 (X a))))) → Br 44 101 9 [some (.ref T), some (.int (nI m)), some (.int ρ), some (.int (nI i)), l4, l5] [] (n, sl, C, Z, I, L, R) Q (nI m ≤ nI i) := by
  have hw' := hw
  obtain ⟨c1, z1, zs, mz, hr, hb, hd⟩ := hw
  intro d
  induction d with
  | zero =>
    intro i ρ l4 l5 hi hz hρ
    have e : i = m := by omega
    rw [e] at hz hρ ⊢
    have n0 : nI 0 = 0 := rfl
    have n1 : nI 1 = 1 := rfl
    have n2 : nI 2 = 2 := rfl
    refine Br_of (fun _ => ?_) (fun h => absurd (nI_le (Nat.le_refl m) (by omega)) h)
    have r2 := go 2 (by omega)
    have r1 := go 1 (by omega)
    have r0 := go 0 (by omega)
    rw [n0] at r0
    rw [n1] at r1
    rw [n2] at r2
    rcases hρ with ⟨rfl, a, b, h1, h2, h3⟩ | ⟨h4, ⟨rfl, a, h1, h2⟩ | ⟨rfl, h1⟩⟩
    · have := r2 (rk_minors.2.1 (dt3_all hz) ⟨a, b, h2, by omega, h3⟩)
      simp [S44_0, S44_1, S44_2, BS, this]
    · have := r1 (rk_minors.2.2.1 (fr2_all h4) ⟨a, h1, h2⟩)
      simp [S44_0, S44_1, S44_2, BS, this]
    · have := r0 (rk_minors.2.2.2 h1)
      simp [S44_0, S44_1, S44_2, BS, this]
  | succ d ih =>
    intro i ρ l4 l5 hi hz hρ
    refine Br_of (fun h => absurd h (nI_ge (by omega) (by omega))) (fun _ => ?_)
    obtain ⟨pi, ri⟩ := hr i (by omega)
    have i0 : inb (nI i) zt = true := by rw [inb_nI (by omega)]; simp; omega
    have ixi := ix_nI (show i < 2 ^ 31 by omega)
    have f := c_fr1 (n := n) (sl := sl) (I := I) (R := R) ri (fun c hc => hb i c (by omega) hc)
    have next : ∀ (ρ2 : Int32), ((ρ2 = 2 ∧ ∃ a b, b < a ∧ a < i ∧ fr2 (X a) (X b)) ∨ ((∀ a b, b < a → a < i → ¬ fr2 (X a) (X b)) ∧ ((ρ2 = 1 ∧ ∃ a, a < i + 1 ∧ fr1 (X a)) ∨ (ρ2 = 0 ∧ ∀ a, a < i + 1 → ¬ fr1 (X a))))) → ∀ l4 l5, Wp 44 25 [some (.ref T), some (.int (nI m)), some (.int ρ2), some (.int (nI i)), l4, l5] [.int 0] (n, sl, C, Z, I, L, R) Q := by
      intro ρ2 h2 l4 l5
      have mid := rk_mid (n := n) (sl := sl) (I := I) (Q := Q) (i := i) hw' (by omega) (fun ⟨j, k, h3, h4, h5⟩ => by
        have := go 3 (by omega) (rk_minors.1 ⟨i, j, k, by omega, by omega, by omega, h5⟩)
        exact this) i 0 ρ2 l5 (by omega) (by rcases h2 with ⟨h, -⟩ | ⟨-, ⟨h, -⟩ | ⟨h, -⟩⟩ <;> rw [h] <;> simp) (fun j' k' h3 h4 => absurd h4 (by omega)) (fun ρ' l5' hz2 h3 => ?_)
      · rw [nI_0] at mid
        have gen : ∀ x0 : Int32, Wp 44 25 [some (.ref T), some (.int (nI m)), some (.int ρ2), some (.int (nI i)), l4, l5] [.int x0] (n, sl, C, Z, I, L, R) Q ↔ Br 44 95 33 [some (.ref T), some (.int (nI m)), some (.int ρ2), some (.int (nI i)), some (.int x0), l5] [] (n, sl, C, Z, I, L, R) Q (nI i ≤ x0) := fun x0 => by simp [S44_0, S44_1, S44_2, BS]
        exact (gen 0).mpr mid
      · have := ih (i + 1) ρ' (some (.int (nI i))) l5' (by omega) (fun a b c h4 h5 h6 => by
          by_cases e : a = i
          · rw [e]; exact hz2 b c h4 (by omega)
          · exact hz a b c h4 h5 (by omega)) (by
          rcases h3 with ⟨h3, j', -, h4, h5⟩ | ⟨h3, h4⟩
          · exact Or.inl ⟨h3, i, j', h4, by omega, h5⟩
          · rcases h2 with ⟨h5, a, b, h6, h7, h8⟩ | ⟨h5, h6⟩
            · exact Or.inl ⟨h3.trans h5, a, b, h6, by omega, h8⟩
            · refine Or.inr ⟨fun a b h7 h8 => ?_, ?_⟩
              · by_cases e : a = i
                · rw [e]; exact h4 b (by omega) (by omega)
                · exact h5 a b h7 (by omega)
              · rw [h3]; exact h6)
        simp [S44_0, S44_1, S44_2, BS, nIk]
        exact this
    by_cases q : fr1 (X i)
    · have ff := f.1 q
      rcases hρ with ⟨rfl, h1⟩ | ⟨h4, ⟨rfl, a, h1, h2⟩ | ⟨rfl, h1⟩⟩
      · have nx := next 2 (Or.inl ⟨rfl, h1⟩) l4 l5
        simp [S44_0, S44_1, S44_2, BS, c1, z1, i0, ixi, pi, ff, ↓nx]
      · have nx := next 1 (Or.inr ⟨h4, Or.inl ⟨rfl, i, by omega, q⟩⟩) l4 l5
        simp [S44_0, S44_1, S44_2, BS, c1, z1, i0, ixi, pi, ff, ↓nx]
      · have nx := next 1 (Or.inr ⟨h4, Or.inl ⟨rfl, i, by omega, q⟩⟩) l4 l5
        simp [S44_0, S44_1, S44_2, BS, c1, z1, i0, ixi, pi, ff, ↓nx]
    · have ff := f.2 q
      have nx := next ρ (by
        rcases hρ with ⟨h, h1⟩ | ⟨h4, ⟨h, a, h1, h2⟩ | ⟨h, h1⟩⟩
        · exact Or.inl ⟨h, h1⟩
        · exact Or.inr ⟨h4, Or.inl ⟨h, a, by omega, h2⟩⟩
        · refine Or.inr ⟨h4, Or.inr ⟨h, fun a ha => ?_⟩⟩
          by_cases e : a = i
          · rw [e]; exact q
          · exact h1 a (by omega)) l4 l5
      simp [S44_0, S44_1, S44_2, BS, c1, z1, i0, ixi, pi, ff, ↓nx]
set_option maxRecDepth 100000 in
set_option maxHeartbeats 8000000 in
/-- Minors.rank -/
theorem c_rank {n sl : Nat} {C Z : Nat → Nat} {I : Nat → Nat → Int32} {L : Nat → Nat → Int64} {R : Nat → Nat → Nat} {T zt m : Nat} {P : Nat → Nat} {X : Nat → Nat → Int} (hw : RW C Z L R T zt m P X) {k pc : Nat} {ls : Lo} {st : List Value} {Q : Option Value → Hp → Prop} (go : ∀ r, r ≤ 3 → IsRk X m r → Wp k pc ls (.int (nI r) :: st) (n, sl, C, Z, I, L, R) Q) : Call 44 [some (.ref T), some (.int (nI m)), none, none, none, none] (n, sl, C, Z, I, L, R) k pc ls st Q := by
  have out := rk_out (n := n) (sl := sl) (I := I) (Q := fun r h1 => Wp k pc ls (r.toList ++ st) h1 Q) hw (fun r h1 h2 => go r h1 h2) m 0 0 none none (by omega) (fun a b c h1 h2 h3 => absurd h3 (by omega)) (Or.inr ⟨fun a b h1 h2 => absurd h2 (by omega), Or.inr ⟨rfl, fun a h => absurd h (by omega)⟩⟩)
  rw [nI_0] at out
  have gen : ∀ x0 : Int32, Wp 44 3 [some (.ref T), some (.int (nI m)), some (.int 0), none, none, none] [.int x0] (n, sl, C, Z, I, L, R) (fun r h1 => Wp k pc ls (r.toList ++ st) h1 Q) ↔ Br 44 101 9 [some (.ref T), some (.int (nI m)), some (.int 0), some (.int x0), none, none] [] (n, sl, C, Z, I, L, R) (fun r h1 => Wp k pc ls (r.toList ++ st) h1 Q) (nI m ≤ x0) := fun x0 => by simp [S44_0, S44_1, S44_2, BS]
  have gg := (gen 0).mpr out
  simp [S44_0, S44_1, S44_2, Call_in (k2 := 44), BS, ↓gg]
