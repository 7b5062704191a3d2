/-! like: as many pulses as both have STATES are enough -/
def sm : Nat → (Nat → Int) → Int
  | 0, _ => 0
  | n + 1, f => sm n f + f n
theorem sm_add (n : Nat) (f g : Nat → Int) : sm n (fun i => f i + g i) = sm n f + sm n g := by
  induction n with
  | zero => rfl
  | succ n ih => simp only [sm, ih]; omega
theorem sm_mul (n : Nat) (c : Int) (f : Nat → Int) : sm n (fun i => c * f i) = c * sm n f := by
  induction n with
  | zero => simp [sm]
  | succ n ih => simp only [sm, ih, Int.mul_add]
theorem sm_eq (n : Nat) (f g : Nat → Int) (h : ∀ i, i < n → f i = g i) : sm n f = sm n g := by
  induction n with
  | zero => rfl
  | succ n ih => simp only [sm]; rw [ih (fun i hi => h i (by omega)), h n (by omega)]
theorem sm_swap (n m : Nat) (f : Nat → Nat → Int) : sm n (fun i => sm m (fun j => f i j)) = sm m (fun j => sm n (fun i => f i j)) := by
  induction n with
  | zero =>
    simp only [sm]
    induction m with
    | zero => rfl
    | succ m ih => simp only [sm]; omega
  | succ n ih => simp only [sm, ih, ← sm_add]
theorem rec_alike {s t : Nat} {α β x y : Nat → Int} (hx : ∀ k, x (k + s) = sm s (fun i => α i * x (k + i))) (hy : ∀ k, y (k + t) = sm t (fun i => β i * y (k + i))) (h : ∀ k, k < s + t → x k = y k) : ∀ k, x k = y k := by
  intro k
  induction k using Nat.strongRecOn with
  | _ k ih =>
    by_cases c : k < s + t
    · exact h k c
    · obtain ⟨m, rfl⟩ : ∃ m, k = m + s + t := ⟨k - s - t, by omega⟩
      have e1 : x (m + s + t) = sm s (fun i => α i * sm t (fun j => β j * y (m + i + j))) := by
        rw [show m + s + t = (m + t) + s from by omega, hx]
        refine sm_eq _ _ _ (fun i hi => ?_)
        rw [ih (m + t + i) (by omega), show m + t + i = (m + i) + t from by omega, hy]
      have e2 : y (m + s + t) = sm t (fun j => β j * sm s (fun i => α i * x (m + j + i))) := by
        rw [hy]
        refine sm_eq _ _ _ (fun i hi => ?_)
        rw [← ih (m + s + i) (by omega), show m + s + i = (m + i) + s from by omega, hx]
      rw [e1, e2]
      simp only [← sm_mul]
      rw [sm_swap]
      refine sm_eq _ _ _ (fun j hj => sm_eq _ _ _ (fun i hi => ?_))
      rw [ih (m + j + i) (by omega), show m + i + j = m + j + i from by omega]
      grind
theorem pw_ch (A B : Nat → Int) (k i : Nat) (hi : i < 3) : pw A B (k + 3) i = -(cf A 1) * pw A B (k + 2) i - cf A 2 * pw A B (k + 1) i - cf A 3 * pw A B k i := by
  obtain ⟨x, hx⟩ : ∃ x, x = pw A B k := ⟨_, rfl⟩
  rcases (by omega : i = 0 ∨ i = 1 ∨ i = 2) with rfl | rfl | rfl
  all_goals
    simp only [pw, ← hx]
    simp [mv, cf]
    grind
theorem pl_ch (A B K : Nat → Int) (k : Nat) : pl A B K (k + 3) = -(cf A 1) * pl A B K (k + 2) - cf A 2 * pl A B K (k + 1) - cf A 3 * pl A B K k := by
  unfold pl
  rw [pw_ch A B k 0 (by omega), pw_ch A B k 1 (by omega), pw_ch A B k 2 (by omega)]
  grind
/-- a recurrence of as many steps as STATES -/
theorem pl_rec {s : Nat} {A B K : Nat → Int} (hs : s ≤ 3) (zA : ∀ i k, i < 3 → k < 3 → s ≤ i ∨ s ≤ k → A (3 * i + k) = 0) (zB : ∀ i, i < 3 → s ≤ i → B i = 0 ∧ K i = 0) (u : Int) : ∃ α : Nat → Int, ∀ k, pl A B K (k + s) * u ^ (k + s) = sm s (fun i => α i * (pl A B K (k + i) * u ^ (k + i))) := by
  rcases (by omega : s = 0 ∨ s = 1 ∨ s = 2 ∨ s = 3) with rfl | rfl | rfl | rfl
  · refine ⟨fun _ => 0, fun k => ?_⟩
    have k0 := zB 0; have k1 := zB 1; have k2 := zB 2
    simp [sm, pl, k0, k1, k2]
  · refine ⟨fun _ => A 0 * u, fun k => ?_⟩
    have k1 := zB 1; have k2 := zB 2
    have a1 := zA 0 1 (by omega) (by omega) (by omega)
    have a2 := zA 0 2 (by omega) (by omega) (by omega)
    simp at a1 a2 k1 k2
    simp [sm, pl, k1.2, k2.2, pw, mv, a1, a2, Int.pow_succ]
    grind
  · refine ⟨fun i => if i = 0 then -(cf A 2) * u ^ 2 else -(cf A 1) * u, fun k => ?_⟩
    have k2 := zB 2
    have a2 := zA 0 2 (by omega) (by omega) (by omega)
    have a5 := zA 1 2 (by omega) (by omega) (by omega)
    have a6 := zA 2 0 (by omega) (by omega) (by omega)
    have a7 := zA 2 1 (by omega) (by omega) (by omega)
    have a8 := zA 2 2 (by omega) (by omega) (by omega)
    simp at a2 a5 a6 a7 a8 k2
    simp [sm, pl, k2.2, pw, mv, cf, a2, a5, a6, a7, a8, Int.pow_succ]
    grind
  · refine ⟨fun i => if i = 0 then -(cf A 3) * u ^ 3 else if i = 1 then -(cf A 2) * u ^ 2 else -(cf A 1) * u, fun k => ?_⟩
    rw [pl_ch]
    simp [sm, Int.pow_succ]
    grind
