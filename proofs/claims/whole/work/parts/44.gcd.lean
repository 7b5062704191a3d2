/-! the greatest common divisor, both ways -/
theorem lN_0 : lN 0 = 0 := rfl
theorem lN_eq0 {b : Nat} (hb : b < 2 ^ 63) : (lN b = 0) = (b = 0) := by
  rw [← lN_0]
  exact propext (pk_lEQ hb (by omega))
theorem gcd_st (a b : Nat) : Nat.gcd b (a % b) = Nat.gcd a b := by
  rw [Nat.gcd_comm b, ← Nat.gcd_rec b a, Nat.gcd_comm]
set_option maxRecDepth 100000 in
set_option maxHeartbeats 2000000 in
theorem cm_lp {h : Hp} {Q : Option Value → Hp → Prop} {x y : Int64} : ∀ b a l8, a < 2 ^ 63 → b < 2 ^ 63 → (Br 105 53 35 [some (.long x), none, some (.long y), none, some (.long (lN a)), none, some (.long (lN b)), none, l8, none] [] h Q (b = 0) ↔ Q (some (.long (lN (Nat.gcd a b)))) h) := by
  intro b
  induction b using Nat.strongRecOn with
  | _ b ih =>
    intro a l8 ha hb
    by_cases b0 : b = 0
    · subst b0
      simp [S105_0, S105_1, BS, ixs, inbs]
    · have bp : 0 < b := by omega
      have hr := pk_lRem ha bp hb
      have hn : ¬ lN b = 0 := by rw [lN_eq0 hb]; exact b0
      have hm := Nat.mod_lt a bp
      have := ih (a % b) hm b (some (.long (lN (a % b)))) hb (by omega)
      rw [gcd_st] at this
      rw [← this]
      have h63 : a % b < 2 ^ 63 := by omega
      simp [S105_0, S105_1, BS, ixs, inbs, b0, hn, hr, lg_eq, lN_eq0 h63]

theorem lN_wL {a : Int} (h0 : 0 ≤ a) : lN a.natAbs = wL a := by
  have e : ((a.natAbs : Nat) : Int) = a := by omega
  rw [← e]
  exact (Int64.ofInt_eq_ofNat).symm
theorem wL_neg0 {a : Int} (h1 : -9223372036854775808 ≤ a) (h2 : a < 9223372036854775808) : wL a < 0 ↔ a < 0 := by
  rw [← wL_0]
  exact wL_lt h1 h2 (by omega) (by omega)
set_option maxRecDepth 100000 in
set_option maxHeartbeats 2000000 in
/-- common -/
theorem m_common {a b : Int} (ha : bn 9223372036854775807 a) (hb : bn 9223372036854775807 b) (h : Hp) (k pc : Nat) (ls : Lo) (st : List Value) (Q : Option Value → Hp → Prop) : Call 105 [some (.long (wL a)), none, some (.long (wL b)), none, none, none, none, none, none, none] h k pc ls st Q ↔ Wp k pc ls (.long (lN (Int.gcd a b)) :: st) h Q := by
  unfold bn at ha hb
  have sa := wL_neg0 (a := a) (by omega) (by omega)
  have sb := wL_neg0 (a := b) (by omega) (by omega)
  have ea : (¬ a < 0 → wL a = lN a.natAbs) ∧ (a < 0 → wL (-a) = lN a.natAbs) := ⟨fun q => (lN_wL (by omega)).symm, fun q => by rw [← Int.natAbs_neg]; exact (lN_wL (by omega)).symm⟩
  have eb : (¬ b < 0 → wL b = lN b.natAbs) ∧ (b < 0 → wL (-b) = lN b.natAbs) := ⟨fun q => (lN_wL (by omega)).symm, fun q => by rw [← Int.natAbs_neg]; exact (lN_wL (by omega)).symm⟩
  have key := fun x y => cm_lp (h := h) (Q := fun r h1 => Wp k pc ls (r.toList ++ st) h1 Q) (x := x) (y := y) b.natAbs a.natAbs none (by omega) (by omega)
  have g : Nat.gcd a.natAbs b.natAbs = Int.gcd a b := rfl
  rw [g] at key
  have z0 := lN_eq0 (b := b.natAbs) (by omega)
  by_cases a0 : a < 0
  · have e1 := ea.2 a0
    by_cases b0 : b < 0
    · have e2 := eb.2 b0
      simp [S105_0, S105_1, BS, ixs, inbs, Call_in (k2 := 105), lg_ge, sa, sb, a0, b0, wL_neg, e1, e2, lg_eq, z0]
      simpa using key (wL a) (wL b)
    · have e2 := eb.1 b0
      have s2 : ¬ lN b.natAbs < 0 := by rw [← e2, sb]; exact b0
      simp [S105_0, S105_1, BS, ixs, inbs, Call_in (k2 := 105), lg_ge, sa, a0, wL_neg, e1, e2, s2, lg_eq, z0]
      simpa using key (wL a) (lN b.natAbs)
  · have e1 := ea.1 a0
    have s1 : ¬ lN a.natAbs < 0 := by rw [← e1, sa]; exact a0
    by_cases b0 : b < 0
    · have e2 := eb.2 b0
      simp [S105_0, S105_1, BS, ixs, inbs, Call_in (k2 := 105), lg_ge, sb, b0, wL_neg, e1, e2, s1, lg_eq, z0]
      simpa using key (lN a.natAbs) (wL b)
    · have e2 := eb.1 b0
      have s2 : ¬ lN b.natAbs < 0 := by rw [← e2, sb]; exact b0
      simp [S105_0, S105_1, BS, ixs, inbs, Call_in (k2 := 105), lg_ge, wL_neg, e1, e2, s1, s2, lg_eq, z0]
      simpa using key (lN a.natAbs) (lN b.natAbs)

theorem mod_half {b r : Nat} (h : r < b) (hr : 0 < r) {m : Nat} (hb : b < 2 ^ (m + 1)) : b % r < 2 ^ m := by
  have h1 := Nat.mod_lt b hr
  have h2 := Nat.div_add_mod b r
  have h3 : 1 ≤ b / r := (Nat.le_div_iff_mul_le hr).mpr (by omega)
  have h4 : r ≤ r * (b / r) := Nat.le_mul_of_pos_right r (by omega)
  rw [Nat.pow_succ] at hb
  omega
set_option maxRecDepth 100000 in
set_option maxHeartbeats 2000000 in
theorem sd_lp {h : Hp} {Q : Option Value → Hp → Prop} {x y : Int64} : ∀ m i a b l9, a < 2 ^ 63 → b < 2 ^ m → m ≤ 62 → i + 2 * m ≤ 100 → (Br 15 50 22 [some (.long x), none, some (.long y), none, some (.long (lN a)), none, some (.long (lN b)), none, some (.int (nI i)), l9, none] [] h Q ((100 : Int32) ≤ nI i) ↔ Q (some (.long (lN (Nat.gcd a b)))) h) := by
  have one : ∀ i a b l9, a < 2 ^ 63 → b < 2 ^ 63 → 0 < b → i < 100 → (Br 15 50 22 [some (.long x), none, some (.long y), none, some (.long (lN a)), none, some (.long (lN b)), none, some (.int (nI i)), l9, none] [] h Q ((100 : Int32) ≤ nI i) ↔ Br 15 50 22 [some (.long x), none, some (.long y), none, some (.long (lN b)), none, some (.long (lN (a % b))), none, some (.int (nI (i + 1))), some (.long (lN (a % b))), none] [] h Q ((100 : Int32) ≤ nI (i + 1))) := by
    intro i a b l9 ha hb hp hi
    have hr := pk_lRem ha hp hb
    have hn : ¬ lN b = 0 := by rw [lN_eq0 hb]; omega
    have c : ¬ (100 : Int32) ≤ nI i := nI_ge (b := 100) hi (by omega)
    rw [show ((100 : Int32) ≤ nI i) = False from eq_false c]
    simp [S15_0, S15_1, BS, ixs, inbs, hn, hr, lg_eq, nIk]
  have zero : ∀ i a l9, i ≤ 100 → (Br 15 50 22 [some (.long x), none, some (.long y), none, some (.long (lN a)), none, some (.long (lN 0)), none, some (.int (nI i)), l9, none] [] h Q ((100 : Int32) ≤ nI i) ↔ Q (some (.long (lN a))) h) := by
    intro i a l9 hi
    by_cases c : (100 : Int32) ≤ nI i
    · rw [show ((100 : Int32) ≤ nI i) = True from eq_true c]
      simp [S15_0, S15_1, BS, ixs, inbs]
    · rw [show ((100 : Int32) ≤ nI i) = False from eq_false c]
      simp [S15_0, S15_1, BS, ixs, inbs, lN_0, lg_eq]
  intro m
  induction m with
  | zero =>
    intro i a b l9 ha hb hm hi
    have : b = 0 := by omega
    subst this
    rw [Nat.gcd_zero_right]
    exact zero i a l9 (by omega)
  | succ m ih =>
    intro i a b l9 ha hb hm hi
    have p63 : (2 : Nat) ^ (m + 1) ≤ 2 ^ 63 := Nat.pow_le_pow_right (by omega) (by omega)
    by_cases b0 : b = 0
    · subst b0
      rw [Nat.gcd_zero_right]
      exact zero i a l9 (by omega)
    · have bp : 0 < b := by omega
      have hr := Nat.mod_lt a bp
      rw [one i a b l9 ha (by omega) bp (by omega), ← gcd_st]
      by_cases r0 : a % b = 0
      · rw [r0, Nat.gcd_zero_right]
        exact zero (i + 1) b _ (by omega)
      · have rp : 0 < a % b := by omega
        rw [one (i + 1) b (a % b) _ (by omega) (by omega) rp (by omega), ← gcd_st]
        exact ih (i + 2) (a % b) (b % (a % b)) _ (by omega) (mod_half hr rp hb) (by omega) (by omega)

