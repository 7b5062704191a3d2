/-! steady: Schur and Cohn, Routh and Hurwitz -/
def SC : Nat → (Nat → Int) → Prop
  | 0, _ => True
  | g + 1, p => (p 0).natAbs < (p (g + 1)).natAbs ∧ SC g (fun i => p (g + 1) * p (i + 1) - p 0 * p (g - i))
theorem SC_congr : ∀ g {p q : Nat → Int}, (∀ i, i ≤ g → p i = q i) → (SC g p ↔ SC g q) := by
  intro g
  induction g with
  | zero => intro p q _; exact Iff.rfl
  | succ g ih =>
    intro p q h
    unfold SC
    rw [h 0 (by omega), h (g + 1) (by omega)]
    refine and_congr_right (fun _ => ih (fun i hi => ?_))
    rw [h (i + 1) (by omega), h (g - i) (by omega)]
theorem SC_scale : ∀ g {p : Nat → Int} {t : Int}, ¬ t = 0 → (SC g (fun i => t * p i) ↔ SC g p) := by
  intro g
  induction g with
  | zero => intro p t _; exact Iff.rfl
  | succ g ih =>
    intro p t ht
    unfold SC
    have tp : 0 < t.natAbs := by omega
    have e1 : ((t * p 0).natAbs < (t * p (g + 1)).natAbs) ↔ ((p 0).natAbs < (p (g + 1)).natAbs) := by
      rw [Int.natAbs_mul, Int.natAbs_mul]
      exact Nat.mul_lt_mul_left tp
    rw [e1]
    refine and_congr_right (fun _ => ?_)
    have e2 : SC g (fun i => t * p (g + 1) * (t * p (i + 1)) - t * p 0 * (t * p (g - i))) ↔ SC g (fun i => (t * t) * (p (g + 1) * p (i + 1) - p 0 * p (g - i))) := SC_congr g (fun i _ => by grind)
    rw [e2]
    exact ih (fun h => ht (by rcases Int.mul_eq_zero.mp h with q | q <;> exact q))
/-- what is divided by a common divisor -/
theorem SC_div {g : Nat} {p : Nat → Int} {e : Int} (he : ¬ e = 0) (hd : ∀ i, i ≤ g → e ∣ p i) : SC g (fun i => p i / e) ↔ SC g p := by
  rw [← SC_scale g (p := fun i => p i / e) he]
  exact SC_congr g (fun i hi => Int.mul_ediv_cancel' (hd i hi))
/-- the polynomial with (z + 1) by (z - 1) in place of z; p from the bottom -/
def bil (s : Nat) (p : Nat → Int) (k : Nat) : Int :=
  if s = 0 then p 0
  else if s = 1 then (if k = 0 then p 1 - p 0 else p 0 + p 1)
  else if s = 2 then (if k = 0 then p 0 - p 1 + p 2 else if k = 1 then 2 * p 2 - 2 * p 0 else p 0 + p 1 + p 2)
  else (if k = 0 then p 3 - p 2 + p 1 - p 0 else if k = 1 then 3 * p 3 - p 2 - p 1 + 3 * p 0 else if k = 2 then 3 * p 3 + p 2 - p 1 - 3 * p 0 else p 0 + p 1 + p 2 + p 3)
def RH (s : Nat) (p : Nat → Int) : Prop := (∀ i, i < s → 0 < p i) ∧ (s < 3 ∨ p 0 < p 2 * p 1)
theorem abs_lt {x y : Int} : x.natAbs < y.natAbs ↔ 0 < (y - x) * (y + x) := by
  have pos : ∀ {a b : Int}, 0 < a * b ↔ (0 < a ∧ 0 < b) ∨ (a < 0 ∧ b < 0) := fun {a b} => by
    constructor
    · intro h
      rcases Int.lt_trichotomy a 0 with q | q | q
      · rcases Int.lt_trichotomy b 0 with r | r | r
        · exact Or.inr ⟨q, r⟩
        · rw [r] at h; omega
        · have := Int.mul_neg_of_neg_of_pos q r; omega
      · rw [q] at h; omega
      · rcases Int.lt_trichotomy b 0 with r | r | r
        · have := Int.mul_neg_of_pos_of_neg q r; omega
        · rw [r] at h; omega
        · exact Or.inl ⟨q, r⟩
    · rintro (⟨q, r⟩ | ⟨q, r⟩)
      · exact Int.mul_pos q r
      · exact Int.mul_pos_of_neg_of_neg q r
  rw [pos]
  omega
theorem pos_mul {a b : Int} : 0 < a * b ↔ (0 < a ∧ 0 < b) ∨ (a < 0 ∧ b < 0) := by
  constructor
  · intro h
    rcases Int.lt_trichotomy a 0 with q | q | q
    · rcases Int.lt_trichotomy b 0 with r | r | r
      · exact Or.inr ⟨q, r⟩
      · rw [r] at h; omega
      · have := Int.mul_neg_of_neg_of_pos q r; omega
    · rw [q] at h; omega
    · rcases Int.lt_trichotomy b 0 with r | r | r
      · have := Int.mul_neg_of_pos_of_neg q r; omega
      · rw [r] at h; omega
      · exact Or.inl ⟨q, r⟩
  · rintro (⟨q, r⟩ | ⟨q, r⟩)
    · exact Int.mul_pos q r
    · exact Int.mul_pos_of_neg_of_neg q r
theorem RH_SC {s : Nat} {p : Nat → Int} (hs : s ≤ 3) (h1 : p s = 1) : SC s (bil s p) ↔ RH s p := by
  rcases (by omega : s = 0 ∨ s = 1 ∨ s = 2 ∨ s = 3) with rfl | rfl | rfl | rfl
  · unfold RH SC
    simp
  · simp only [SC, and_true, abs_lt]
    simp [bil, h1]
    unfold RH
    rw [pos_mul]
    constructor
    · intro h
      refine ⟨fun i hi => ?_, Or.inl (by omega)⟩
      rw [show i = 0 by omega]; omega
    · intro h
      have := h.1 0 (by omega)
      left; omega
  · simp only [SC, and_true, abs_lt]
    simp [bil, h1]
    unfold RH
    obtain ⟨a, ha⟩ : ∃ a, a = p 0 := ⟨_, rfl⟩
    obtain ⟨b, hb⟩ : ∃ b, b = p 1 := ⟨_, rfl⟩
    rw [← ha, ← hb]
    have e1 : (a + b + 1 - (a - b + 1)) * (a + b + 1 + (a - b + 1)) = 4 * (b * (a + 1)) := by grind
    have e2 : ((a + b + 1) * (a + b + 1) - (a - b + 1) * (a - b + 1) - ((a + b + 1) * (2 - 2 * a) - (a - b + 1) * (2 - 2 * a))) * ((a + b + 1) * (a + b + 1) - (a - b + 1) * (a - b + 1) + ((a + b + 1) * (2 - 2 * a) - (a - b + 1) * (2 - 2 * a))) = 64 * (a * (b * b)) := by grind
    rw [e1, e2]
    constructor
    · intro ⟨g1, g2⟩
      have q1 : 0 < b * (a + 1) := by omega
      have q2 : 0 < a * (b * b) := by omega
      rw [pos_mul] at q1 q2
      have bb : ¬ b * b < 0 := by
        intro h
        rcases Int.le_total 0 b with r | r
        · have := Int.mul_nonneg r r; omega
        · have := Int.mul_nonneg_of_nonpos_of_nonpos r r; omega
      refine ⟨fun i hi => ?_, Or.inl (by omega)⟩
      rcases (by omega : i = 0 ∨ i = 1) with rfl | rfl
      · rw [← ha]; omega
      · rw [← hb]; omega
    · intro h
      have h0 := h.1 0 (by omega)
      have h2 := h.1 1 (by omega)
      rw [← ha] at h0
      rw [← hb] at h2
      have q1 : 0 < b * (a + 1) := Int.mul_pos h2 (by omega)
      have q2 : 0 < a * (b * b) := Int.mul_pos h0 (Int.mul_pos h2 h2)
      omega
  · simp only [SC, and_true, abs_lt]
    simp [bil, h1]
    unfold RH
    obtain ⟨a, ha⟩ : ∃ a, a = p 0 := ⟨_, rfl⟩
    obtain ⟨b, hb⟩ : ∃ b, b = p 1 := ⟨_, rfl⟩
    obtain ⟨c, hc⟩ : ∃ c, c = p 2 := ⟨_, rfl⟩
    rw [← ha, ← hb, ← hc]
    obtain ⟨x0, hx0⟩ : ∃ x, x = 1 - c + b - a := ⟨_, rfl⟩
    obtain ⟨x1, hx1⟩ : ∃ x, x = 3 - c - b + 3 * a := ⟨_, rfl⟩
    obtain ⟨x2, hx2⟩ : ∃ x, x = 3 + c - b - 3 * a := ⟨_, rfl⟩
    obtain ⟨x3, hx3⟩ : ∃ x, x = a + b + c + 1 := ⟨_, rfl⟩
    rw [← hx0, ← hx1, ← hx2, ← hx3]
    obtain ⟨y0, hy0⟩ : ∃ y, y = x3 * x1 - x0 * x2 := ⟨_, rfl⟩
    obtain ⟨y1, hy1⟩ : ∃ y, y = x3 * x2 - x0 * x1 := ⟨_, rfl⟩
    obtain ⟨y2, hy2⟩ : ∃ y, y = x3 * x3 - x0 * x0 := ⟨_, rfl⟩
    rw [← hy0, ← hy1, ← hy2]
    have e1 : (x3 - x0) * (x3 + x0) = 4 * ((a + c) * (b + 1)) := by rw [hx0, hx3]; grind
    have d1 : y2 - y0 = 8 * (b * c - a) := by rw [hy2, hy0, hx0, hx1, hx2, hx3]; grind
    have d2 : y2 + y0 = 8 * (a * b + 2 * a + c) := by rw [hy2, hy0, hx0, hx1, hx2, hx3]; grind
    have d3 : y1 = 8 * (c - a * b) := by rw [hy1, hx0, hx1, hx2, hx3]; grind
    have e2 : (y2 - y0) * (y2 + y0) = 64 * ((b * c - a) * (a * b + 2 * a + c)) := by rw [d1, d2]; grind
    have e3 : (y2 * y2 - y0 * y0 - (y2 * y1 - y0 * y1)) * (y2 * y2 - y0 * y0 + (y2 * y1 - y0 * y1)) = (y2 - y0) * (y2 - y0) * (((y2 + y0) - y1) * ((y2 + y0) + y1)) := by grind
    have e4 : ((y2 + y0) - y1) * ((y2 + y0) + y1) = 256 * (a * ((b + 1) * (a + c))) := by rw [d2, d3]; grind
    rw [e1, e2, e3, e4]
    have sq : ∀ x : Int, ¬ x * x < 0 := by
      intro b h
      rcases Int.le_total 0 b with r | r
      · have := Int.mul_nonneg r r; omega
      · have := Int.mul_nonneg_of_nonpos_of_nonpos r r; omega
    constructor
    · intro ⟨g1, g2, g3⟩
      have q1 : 0 < (a + c) * (b + 1) := by omega
      have q2 : 0 < (b * c - a) * (a * b + 2 * a + c) := by omega
      rw [pos_mul] at g3
      have s0 := sq (y2 - y0)
      have q3 : 0 < a * ((b + 1) * (a + c)) := by omega
      rw [Int.mul_comm (b + 1) (a + c), pos_mul] at q3
      have a0 : 0 < a := by omega
      rw [pos_mul] at q1 q2
      have id : a * b + 2 * a + c = a * (b + 1) + (a + c) := by grind
      rcases q1 with ⟨r1, r2⟩ | ⟨r1, r2⟩
      · have := Int.mul_pos a0 r2
        have bc : a < b * c := by omega
        have bc2 := (pos_mul (a := b) (b := c)).mp (by omega)
        refine ⟨fun i hi => ?_, Or.inr ?_⟩
        · rcases (by omega : i = 0 ∨ i = 1 ∨ i = 2) with rfl | rfl | rfl
          · rw [← ha]; omega
          · rw [← hb]; omega
          · rw [← hc]; omega
        · rw [Int.mul_comm]; omega
      · exfalso
        have := Int.mul_neg_of_pos_of_neg a0 r2
        have n1 : b * c - a < 0 := by omega
        have n2 := Int.mul_pos (show 0 < -b - 1 by omega) (show 0 < -c by omega)
        have n3 : (-b - 1) * (-c) = b * c + c := by grind
        rw [n3] at n2
        omega
    · intro ⟨h, h3⟩
      have h0 := h 0 (by omega)
      have h2 := h 1 (by omega)
      have h4 := h 2 (by omega)
      rw [← ha] at h0
      rw [← hb] at h2
      rw [← hc] at h4
      have h5 : a < c * b := by omega
      rw [Int.mul_comm] at h5
      have q0 := Int.mul_pos h0 h2
      have q1 : 0 < (a + c) * (b + 1) := Int.mul_pos (by omega) (by omega)
      have q2 : 0 < (b * c - a) * (a * b + 2 * a + c) := Int.mul_pos (by omega) (by omega)
      have q3 : 0 < a * ((b + 1) * (a + c)) := Int.mul_pos h0 (Int.mul_pos (by omega) (by omega))
      have q4 : 0 < (y2 - y0) * (y2 - y0) := Int.mul_pos (by omega) (by omega)
      refine ⟨by omega, by omega, Int.mul_pos q4 (by omega)⟩
theorem bn_sqd {T : Nat} {x y : Int} (h : x.natAbs < y.natAbs) (hT : bn T y) : bn (T * T) (y * y - x * x) ∧ ¬ y * y - x * x = 0 := by
  have e : ∀ z : Int, z * z = ((z.natAbs * z.natAbs : Nat) : Int) := fun z => by rw [← Int.natAbs_mul_self]
  rw [e x, e y]
  have h1 : x.natAbs * x.natAbs < y.natAbs * y.natAbs := Nat.mul_self_lt_mul_self h
  unfold bn at hT
  have h2 : y.natAbs * y.natAbs ≤ T * T := Nat.mul_le_mul hT hT
  unfold bn
  constructor <;> omega
theorem lN_ltB {a b : Nat} (ha : a < 9223372036854775808) (hb : b < 9223372036854775808) : lN a < lN b ↔ a < b := by
  have e : ∀ n : Nat, lN n = wL (n : Int) := fun n => (Int64.ofInt_eq_ofNat).symm
  rw [e a, e b, wL_lt (by omega) (by omega) (by omega) (by omega)]
  omega
theorem abs4 {x : Int} {B : Nat} (hb : bn B x) (hB : B ≤ 9223372036854775807) : (x < 0 ∧ wL x < 0 ∧ -wL x = lN x.natAbs) ∨ (¬ x < 0 ∧ ¬ wL x < 0 ∧ wL x = lN x.natAbs) := by
  unfold bn at hb
  have e : wL x < 0 ↔ x < 0 := by rw [← wL_0]; exact wL_lt (by omega) (by omega) (by omega) (by omega)
  by_cases h : x < 0
  · left
    refine ⟨h, e.mpr h, ?_⟩
    rw [wL_neg, ← Int.natAbs_neg]
    exact (lN_wL (by omega)).symm
  · right
    exact ⟨h, fun q => h (e.mp q), (lN_wL (by omega)).symm⟩
set_option maxRecDepth 100000 in
set_option maxHeartbeats 8000000 in
theorem W_0 {n sl : Nat} {C Z : Nat → Nat} {I : Nat → Nat → Int32} {L : Nat → Nat → Int64} {R : Nat → Nat → Nat} {p : Nat → Int} {d1 : Int32} {l3 l4 l5 l6 l7 l8 l9 : Option Value} {Q : Option Value → Hp → Prop} (go : Q (some (.int 1)) (n, sl, C, Z, I, L, R)) : Br 126 199 6 [some (.ref 74), some (.int d1), some (.int (nI 0)), l3, l4, l5, l6, l7, l8, l9] [] (n, sl, C, Z, I, L, R) Q (nI 0 ≤ 0) := by
  have c0 : nI 0 ≤ 0 := by decide +kernel
  simp [S126_0, S126_1, S126_2, S126_3, S126_4, BS, c0, go]
set_option maxRecDepth 100000 in
set_option maxHeartbeats 8000000 in
theorem W_1 {n sl : Nat} {C Z : Nat → Nat} {I : Nat → Nat → Int32} {L : Nat → Nat → Int64} {R : Nat → Nat → Nat} {p : Nat → Int} {d1 : Int32} {l3 l4 l5 l6 l7 l8 l9 : Option Value} {Q : Option Value → Hp → Prop} (hM : LayM C Z R) (hp : ∀ i, i ≤ 1 → L 93 i = wL (p i)) (bM : ∀ i, i ≤ 1 → bn 478718595072 (p i)) (bT : bn 2608757776 (p 1)) (go1 : SC 1 p → ∀ L', (∀ c, c ≠ 93 → c ≠ 94 → L' c = L c) → Q (some (.int 1)) (n, sl, C, Z, I, L', R)) (go0 : ¬ SC 1 p → ∀ L', (∀ c, c ≠ 93 → c ≠ 94 → L' c = L c) → Q (some (.int 0)) (n, sl, C, Z, I, L', R)) : Br 126 199 6 [some (.ref 74), some (.int d1), some (.int (nI 1)), l3, l4, l5, l6, l7, l8, l9] [] (n, sl, C, Z, I, L, R) Q (nI 1 ≤ 0) := by
  have hM' := hM
  unfold LayM at hM
  have c0 : ¬ nI 1 ≤ 0 := by decide +kernel
  have x0 : inb (nI 1) 5 = true ∧ inb (nI 1) 4 = true ∧ ix (nI 1) = 1 := by decide +kernel
  have dm : nI 1 - 1 = 0 := by decide +kernel
  have dc : nI 1 + -1 = nI 0 := by decide +kernel
  have k0 : ¬ nI 1 ≤ 0 := by decide +kernel
  have k1 :  nI 1 ≤ 1 := by decide +kernel
  have mv : ix (nI 1) = 1 ∧ ¬ nI 1 < 0 := by decide +kernel
  have p0 := hp 0 (by omega)
  have p1 := hp 1 (by omega)
  refine Br_of (fun h => absurd h c0) (fun _ => ?_)
  have b0 := bM 0 (by omega)
  have bg := bM 1 (by omega)
  have tst : lN (p 0).natAbs < lN (p 1).natAbs ↔ (p 0).natAbs < (p 1).natAbs := by unfold bn at b0 bg; exact lN_ltB (by omega) (by omega)
  by_cases hlt : (p 0).natAbs < (p 1).natAbs
  · have tt := tst.mpr hlt
    have sq := bn_sqd hlt bT
    have bT0 : bn 2608757776 (p 0) := by unfold bn at *; omega
    have mid : ∀ (a b : Int64) (l7 l8 l9 : Option Value), Wp 126 72 [some (.ref 74), some (.int d1), some (.int (nI 1)), some (.long a), none, some (.long b), none, l7, l8, l9] [] (n, sl, C, Z, I, L, R) Q := by
      intro a b l7 l8 l9
      obtain ⟨y0, hy0⟩ : ∃ y, y = p 1 * p 1 - p 0 * p 0 := ⟨_, rfl⟩
      have by0 : bn 6805617133840466176 y0 := by rw [hy0]; exact sq.1
      have ey0 : wL (p 1 * p 1 - p 0 * p 0) = wL y0 := by rw [hy0]
      have yn : ¬ y0 = 0 := by rw [hy0]; exact sq.2
      obtain ⟨G0, hG0⟩ : ∃ g, g = (Int.gcd 0 y0 : Int) := ⟨_, rfl⟩
      have g0b : bn 9223372036854775807 G0 := by
        rw [hG0, Int.gcd_zero_left]; unfold bn at *; omega
      have m0 := fun h k pc ls st Q => m_common (a := 0) (b := y0) (by unfold bn; decide) (bn_le by0 (by decide)) h k pc ls st Q
      simp only [wL_0, lN_gcd, ← hG0] at m0
      have q0_0 : G0 ∣ y0 := by rw [hG0]; exact Int.gcd_dvd_right 0 y0
      have Gn : ¬ G0 = 0 := fun h => yn (by have := q0_0; rw [h] at this; exact Int.zero_dvd.mp this)
      have Gw : ¬ wL G0 = 0 := by unfold bn at g0b; rw [wL_eq0 (by omega) (by omega)]; exact Gn
      have v0 : wL y0 / wL G0 = wL (y0 / G0) := by rw [wL_div (bn_le by0 (by decide)) g0b, Int.tdiv_eq_ediv_of_dvd q0_0]
      have step : ∀ L2 l3 l4 l5 l6 l7 l8 l9, (∀ c, c ≠ 93 → c ≠ 94 → L2 c = L c) → (L2 93 0 = wL (y0 / G0)) → Br 126 199 6 [some (.ref 74), some (.int d1), some (.int (nI 0)), l3, l4, l5, l6, l7, l8, l9] [] (n, sl, C, Z, I, L2, R) Q (nI 0 ≤ 0) := by
        intro L2 l3 l4 l5 l6 l7 l8 l9 f2 w2
        exact W_0 (p := p) (go1 ⟨hlt, trivial⟩ L2 f2)
      simp [S126_0, S126_1, S126_2, S126_3, S126_4, BS, ixs, inbs, hM, u2_rd, x0, dm, dc, k0, k1, p0, p1, wL_mul, wL_sub, ey0, m0, Gw, v0]
      refine step _ _ _ _ _ _ _ _ (fun c h1 h2 => ?_) ?_
      · repeat (first | rw [u2_ne _ _ _ h1] | rw [u2_ne _ _ _ h2])
      · simp [u2_rd]
    rcases abs4 b0 (by decide) with ⟨-, s0, t0⟩ | ⟨-, s0, t0⟩ <;> rcases abs4 bg (by decide) with ⟨-, s1, t1⟩ | ⟨-, s1, t1⟩
    all_goals
      have s0' := s0
      have s1' := s1
      try rw [t0] at s0'
      try rw [t1] at s1'
      have md := fun a b => mid a b l7 l8 l9
      simp [S126_0, S126_1, S126_2, S126_3, S126_4, BS, ixs, inbs, hM, x0, p0, p1, lg_ge, lg_lt,  s0, s1, s0', s1', t0, t1, tt, ↓md]
  · have tt : ¬ lN (p 0).natAbs < lN (p 1).natAbs := fun h => hlt (tst.mp h)
    have gg := go0 (fun q => hlt q.1) L (fun _ _ _ => rfl)
    rcases abs4 b0 (by decide) with ⟨-, s0, t0⟩ | ⟨-, s0, t0⟩ <;> rcases abs4 bg (by decide) with ⟨-, s1, t1⟩ | ⟨-, s1, t1⟩
    all_goals
      have s0' := s0
      have s1' := s1
      try rw [t0] at s0'
      try rw [t1] at s1'
      simp [S126_0, S126_1, S126_2, S126_3, S126_4, BS, ixs, inbs, hM, x0, p0, p1, lg_ge, lg_lt,  s0, s1, s0', s1', t0, t1, tt, gg]
set_option maxRecDepth 100000 in
set_option maxHeartbeats 8000000 in
theorem W_2 {n sl : Nat} {C Z : Nat → Nat} {I : Nat → Nat → Int32} {L : Nat → Nat → Int64} {R : Nat → Nat → Nat} {p : Nat → Int} {d1 : Int32} {l3 l4 l5 l6 l7 l8 l9 : Option Value} {Q : Option Value → Hp → Prop} (hM : LayM C Z R) (hp : ∀ i, i ≤ 2 → L 93 i = wL (p i)) (bM : ∀ i, i ≤ 2 → bn 4686336 (p i)) (bT : bn 51076 (p 2)) (go1 : SC 2 p → ∀ L', (∀ c, c ≠ 93 → c ≠ 94 → L' c = L c) → Q (some (.int 1)) (n, sl, C, Z, I, L', R)) (go0 : ¬ SC 2 p → ∀ L', (∀ c, c ≠ 93 → c ≠ 94 → L' c = L c) → Q (some (.int 0)) (n, sl, C, Z, I, L', R)) : Br 126 199 6 [some (.ref 74), some (.int d1), some (.int (nI 2)), l3, l4, l5, l6, l7, l8, l9] [] (n, sl, C, Z, I, L, R) Q (nI 2 ≤ 0) := by
  have hM' := hM
  unfold LayM at hM
  have c0 : ¬ nI 2 ≤ 0 := by decide +kernel
  have x0 : inb (nI 2) 5 = true ∧ inb (nI 2) 4 = true ∧ ix (nI 2) = 2 := by decide +kernel
  have dm : nI 2 - 1 = 1 := by decide +kernel
  have dc : nI 2 + -1 = nI 1 := by decide +kernel
  have k0 : ¬ nI 2 ≤ 0 := by decide +kernel
  have k1 : ¬ nI 2 ≤ 1 := by decide +kernel
  have k2 :  nI 2 ≤ 2 := by decide +kernel
  have mv : ix (nI 2) = 2 ∧ ¬ nI 2 < 0 := by decide +kernel
  have p0 := hp 0 (by omega)
  have p1 := hp 1 (by omega)
  have p2 := hp 2 (by omega)
  refine Br_of (fun h => absurd h c0) (fun _ => ?_)
  have b0 := bM 0 (by omega)
  have bg := bM 2 (by omega)
  have tst : lN (p 0).natAbs < lN (p 2).natAbs ↔ (p 0).natAbs < (p 2).natAbs := by unfold bn at b0 bg; exact lN_ltB (by omega) (by omega)
  by_cases hlt : (p 0).natAbs < (p 2).natAbs
  · have tt := tst.mpr hlt
    have sq := bn_sqd hlt bT
    have bT0 : bn 51076 (p 0) := by unfold bn at *; omega
    have mid : ∀ (a b : Int64) (l7 l8 l9 : Option Value), Wp 126 72 [some (.ref 74), some (.int d1), some (.int (nI 2)), some (.long a), none, some (.long b), none, l7, l8, l9] [] (n, sl, C, Z, I, L, R) Q := by
      intro a b l7 l8 l9
      obtain ⟨y0, hy0⟩ : ∃ y, y = p 2 * p 1 - p 0 * p 1 := ⟨_, rfl⟩
      have by0 : bn 478718595072 y0 := by rw [hy0]; exact bn_le (bn_sub (bn_mul bT (bM 1 (by omega))) (bn_mul bT0 (bM 1 (by omega)))) (by decide)
      have ey0 : wL (p 2 * p 1 - p 0 * p 1) = wL y0 := by rw [hy0]
      obtain ⟨y1, hy1⟩ : ∃ y, y = p 2 * p 2 - p 0 * p 0 := ⟨_, rfl⟩
      have by1 : bn 2608757776 y1 := by rw [hy1]; exact sq.1
      have ey1 : wL (p 2 * p 2 - p 0 * p 0) = wL y1 := by rw [hy1]
      have yn : ¬ y1 = 0 := by rw [hy1]; exact sq.2
      obtain ⟨G0, hG0⟩ : ∃ g, g = (Int.gcd 0 y0 : Int) := ⟨_, rfl⟩
      have g0b : bn 9223372036854775807 G0 := by
        rw [hG0, Int.gcd_zero_left]; unfold bn at *; omega
      have m0 := fun h k pc ls st Q => m_common (a := 0) (b := y0) (by unfold bn; decide) (bn_le by0 (by decide)) h k pc ls st Q
      simp only [wL_0, lN_gcd, ← hG0] at m0
      have q0_0 : G0 ∣ y0 := by rw [hG0]; exact Int.gcd_dvd_right 0 y0
      obtain ⟨G1, hG1⟩ : ∃ g, g = (Int.gcd G0 y1 : Int) := ⟨_, rfl⟩
      have g1b : bn 9223372036854775807 G1 := by
        rw [hG1]
        by_cases z : y1 = 0
        · rw [z, Int.gcd_zero_right]; unfold bn at *; omega
        · exact gcd_bn (bn_le by1 (by decide)) z
      have m1 := fun h k pc ls st Q => m_common (a := G0) (b := y1) g0b (bn_le by1 (by decide)) h k pc ls st Q
      simp only [lN_gcd, ← hG1] at m1
      have q1_1 : G1 ∣ y1 := by rw [hG1]; exact Int.gcd_dvd_right G0 y1
      have dv1 : G1 ∣ G0 := by rw [hG1]; exact Int.gcd_dvd_left G0 y1
      have q1_0 : G1 ∣ y0 := Int.dvd_trans dv1 q0_0
      have Gn : ¬ G1 = 0 := fun h => yn (by have := q1_1; rw [h] at this; exact Int.zero_dvd.mp this)
      have Gw : ¬ wL G1 = 0 := by unfold bn at g1b; rw [wL_eq0 (by omega) (by omega)]; exact Gn
      have v0 : wL y0 / wL G1 = wL (y0 / G1) := by rw [wL_div (bn_le by0 (by decide)) g1b, Int.tdiv_eq_ediv_of_dvd q1_0]
      have v1 : wL y1 / wL G1 = wL (y1 / G1) := by rw [wL_div (bn_le by1 (by decide)) g1b, Int.tdiv_eq_ediv_of_dvd q1_1]
      have step : ∀ L2 l3 l4 l5 l6 l7 l8 l9, (∀ c, c ≠ 93 → c ≠ 94 → L2 c = L c) → (L2 93 0 = wL (y0 / G1) ∧ L2 93 1 = wL (y1 / G1)) → Br 126 199 6 [some (.ref 74), some (.int d1), some (.int (nI 1)), l3, l4, l5, l6, l7, l8, l9] [] (n, sl, C, Z, I, L2, R) Q (nI 1 ≤ 0) := by
        intro L2 l3 l4 l5 l6 l7 l8 l9 f2 w2
        have sc : SC 1 (fun i => (if i = 0 then y0 else if i = 1 then y1 else y1) / G1) ↔ SC 1 (fun i => p 2 * p (i + 1) - p 0 * p (1 - i)) := by
          rw [SC_div Gn (p := fun i => if i = 0 then y0 else if i = 1 then y1 else y1) (fun i hi => by
            rcases (by omega : i = 0 ∨ i = 1) with rfl | rfl
            · exact q1_0
            · exact q1_1)]
          exact SC_congr 1 (fun i hi => by
            rcases (by omega : i = 0 ∨ i = 1) with rfl | rfl
            · exact hy0
            · exact hy1)
        refine W_1 (p := fun i => (if i = 0 then y0 else if i = 1 then y1 else y1) / G1) hM' (fun i hi => ?_) (fun i hi => ?_) ?_ (fun h L3 f3 => go1 ⟨hlt, sc.mp h⟩ L3 (fun c h1 h2 => by rw [f3 c h1 h2, f2 c h1 h2])) (fun h L3 f3 => go0 (fun q => h (sc.mpr q.2)) L3 (fun c h1 h2 => by rw [f3 c h1 h2, f2 c h1 h2]))
        · rcases (by omega : i = 0 ∨ i = 1) with rfl | rfl
          · exact w2.1
          · exact w2.2
        · have ed : ∀ (B : Nat) (y : Int), bn B y → bn B (y / G1) := fun B y h => by
            unfold bn at *
            have := Int.natAbs_ediv_le_natAbs y G1
            omega
          rcases (by omega : i = 0 ∨ i = 1) with rfl | rfl
          · exact bn_le (ed _ _ by0) (by decide)
          · exact bn_le (ed _ _ by1) (by decide)
        · have ed : ∀ (B : Nat) (y : Int), bn B y → bn B (y / G1) := fun B y h => by
            unfold bn at *
            have := Int.natAbs_ediv_le_natAbs y G1
            omega
          exact ed _ _ by1
      simp [S126_0, S126_1, S126_2, S126_3, S126_4, BS, ixs, inbs, hM, u2_rd, x0, dm, dc, k0, k1, k2, p0, p1, p2, wL_mul, wL_sub, ey0, ey1, m0, m1, Gw, v0, v1]
      refine step _ _ _ _ _ _ _ _ (fun c h1 h2 => ?_) ?_
      · repeat (first | rw [u2_ne _ _ _ h1] | rw [u2_ne _ _ _ h2])
      · simp [u2_rd]
    rcases abs4 b0 (by decide) with ⟨-, s0, t0⟩ | ⟨-, s0, t0⟩ <;> rcases abs4 bg (by decide) with ⟨-, s1, t1⟩ | ⟨-, s1, t1⟩
    all_goals
      have s0' := s0
      have s1' := s1
      try rw [t0] at s0'
      try rw [t1] at s1'
      have md := fun a b => mid a b l7 l8 l9
      simp [S126_0, S126_1, S126_2, S126_3, S126_4, BS, ixs, inbs, hM, x0, p0, p2, lg_ge, lg_lt,  s0, s1, s0', s1', t0, t1, tt, ↓md]
  · have tt : ¬ lN (p 0).natAbs < lN (p 2).natAbs := fun h => hlt (tst.mp h)
    have gg := go0 (fun q => hlt q.1) L (fun _ _ _ => rfl)
    rcases abs4 b0 (by decide) with ⟨-, s0, t0⟩ | ⟨-, s0, t0⟩ <;> rcases abs4 bg (by decide) with ⟨-, s1, t1⟩ | ⟨-, s1, t1⟩
    all_goals
      have s0' := s0
      have s1' := s1
      try rw [t0] at s0'
      try rw [t1] at s1'
      simp [S126_0, S126_1, S126_2, S126_3, S126_4, BS, ixs, inbs, hM, x0, p0, p2, lg_ge, lg_lt,  s0, s1, s0', s1', t0, t1, tt, gg]
set_option maxRecDepth 100000 in
set_option maxHeartbeats 8000000 in
theorem W_3 {n sl : Nat} {C Z : Nat → Nat} {I : Nat → Nat → Int32} {L : Nat → Nat → Int64} {R : Nat → Nat → Nat} {p : Nat → Int} {d1 : Int32} {l3 l4 l5 l6 l7 l8 l9 : Option Value} {Q : Option Value → Hp → Prop} (hM : LayM C Z R) (hp : ∀ i, i ≤ 3 → L 93 i = wL (p i)) (bM : ∀ i, i ≤ 3 → bn 10368 (p i)) (bT : bn 226 (p 3)) (go1 : SC 3 p → ∀ L', (∀ c, c ≠ 93 → c ≠ 94 → L' c = L c) → Q (some (.int 1)) (n, sl, C, Z, I, L', R)) (go0 : ¬ SC 3 p → ∀ L', (∀ c, c ≠ 93 → c ≠ 94 → L' c = L c) → Q (some (.int 0)) (n, sl, C, Z, I, L', R)) : Br 126 199 6 [some (.ref 74), some (.int d1), some (.int (nI 3)), l3, l4, l5, l6, l7, l8, l9] [] (n, sl, C, Z, I, L, R) Q (nI 3 ≤ 0) := by
  have hM' := hM
  unfold LayM at hM
  have c0 : ¬ nI 3 ≤ 0 := by decide +kernel
  have x0 : inb (nI 3) 5 = true ∧ inb (nI 3) 4 = true ∧ ix (nI 3) = 3 := by decide +kernel
  have dm : nI 3 - 1 = 2 := by decide +kernel
  have dc : nI 3 + -1 = nI 2 := by decide +kernel
  have k0 : ¬ nI 3 ≤ 0 := by decide +kernel
  have k1 : ¬ nI 3 ≤ 1 := by decide +kernel
  have k2 : ¬ nI 3 ≤ 2 := by decide +kernel
  have k3 :  nI 3 ≤ 3 := by decide +kernel
  have mv : ix (nI 3) = 3 ∧ ¬ nI 3 < 0 := by decide +kernel
  have p0 := hp 0 (by omega)
  have p1 := hp 1 (by omega)
  have p2 := hp 2 (by omega)
  have p3 := hp 3 (by omega)
  refine Br_of (fun h => absurd h c0) (fun _ => ?_)
  have b0 := bM 0 (by omega)
  have bg := bM 3 (by omega)
  have tst : lN (p 0).natAbs < lN (p 3).natAbs ↔ (p 0).natAbs < (p 3).natAbs := by unfold bn at b0 bg; exact lN_ltB (by omega) (by omega)
  by_cases hlt : (p 0).natAbs < (p 3).natAbs
  · have tt := tst.mpr hlt
    have sq := bn_sqd hlt bT
    have bT0 : bn 226 (p 0) := by unfold bn at *; omega
    have mid : ∀ (a b : Int64) (l7 l8 l9 : Option Value), Wp 126 72 [some (.ref 74), some (.int d1), some (.int (nI 3)), some (.long a), none, some (.long b), none, l7, l8, l9] [] (n, sl, C, Z, I, L, R) Q := by
      intro a b l7 l8 l9
      obtain ⟨y0, hy0⟩ : ∃ y, y = p 3 * p 1 - p 0 * p 2 := ⟨_, rfl⟩
      have by0 : bn 4686336 y0 := by rw [hy0]; exact bn_le (bn_sub (bn_mul bT (bM 1 (by omega))) (bn_mul bT0 (bM 2 (by omega)))) (by decide)
      have ey0 : wL (p 3 * p 1 - p 0 * p 2) = wL y0 := by rw [hy0]
      obtain ⟨y1, hy1⟩ : ∃ y, y = p 3 * p 2 - p 0 * p 1 := ⟨_, rfl⟩
      have by1 : bn 4686336 y1 := by rw [hy1]; exact bn_le (bn_sub (bn_mul bT (bM 2 (by omega))) (bn_mul bT0 (bM 1 (by omega)))) (by decide)
      have ey1 : wL (p 3 * p 2 - p 0 * p 1) = wL y1 := by rw [hy1]
      obtain ⟨y2, hy2⟩ : ∃ y, y = p 3 * p 3 - p 0 * p 0 := ⟨_, rfl⟩
      have by2 : bn 51076 y2 := by rw [hy2]; exact sq.1
      have ey2 : wL (p 3 * p 3 - p 0 * p 0) = wL y2 := by rw [hy2]
      have yn : ¬ y2 = 0 := by rw [hy2]; exact sq.2
      obtain ⟨G0, hG0⟩ : ∃ g, g = (Int.gcd 0 y0 : Int) := ⟨_, rfl⟩
      have g0b : bn 9223372036854775807 G0 := by
        rw [hG0, Int.gcd_zero_left]; unfold bn at *; omega
      have m0 := fun h k pc ls st Q => m_common (a := 0) (b := y0) (by unfold bn; decide) (bn_le by0 (by decide)) h k pc ls st Q
      simp only [wL_0, lN_gcd, ← hG0] at m0
      have q0_0 : G0 ∣ y0 := by rw [hG0]; exact Int.gcd_dvd_right 0 y0
      obtain ⟨G1, hG1⟩ : ∃ g, g = (Int.gcd G0 y1 : Int) := ⟨_, rfl⟩
      have g1b : bn 9223372036854775807 G1 := by
        rw [hG1]
        by_cases z : y1 = 0
        · rw [z, Int.gcd_zero_right]; unfold bn at *; omega
        · exact gcd_bn (bn_le by1 (by decide)) z
      have m1 := fun h k pc ls st Q => m_common (a := G0) (b := y1) g0b (bn_le by1 (by decide)) h k pc ls st Q
      simp only [lN_gcd, ← hG1] at m1
      have q1_1 : G1 ∣ y1 := by rw [hG1]; exact Int.gcd_dvd_right G0 y1
      have dv1 : G1 ∣ G0 := by rw [hG1]; exact Int.gcd_dvd_left G0 y1
      have q1_0 : G1 ∣ y0 := Int.dvd_trans dv1 q0_0
      obtain ⟨G2, hG2⟩ : ∃ g, g = (Int.gcd G1 y2 : Int) := ⟨_, rfl⟩
      have g2b : bn 9223372036854775807 G2 := by
        rw [hG2]
        by_cases z : y2 = 0
        · rw [z, Int.gcd_zero_right]; unfold bn at *; omega
        · exact gcd_bn (bn_le by2 (by decide)) z
      have m2 := fun h k pc ls st Q => m_common (a := G1) (b := y2) g1b (bn_le by2 (by decide)) h k pc ls st Q
      simp only [lN_gcd, ← hG2] at m2
      have q2_2 : G2 ∣ y2 := by rw [hG2]; exact Int.gcd_dvd_right G1 y2
      have dv2 : G2 ∣ G1 := by rw [hG2]; exact Int.gcd_dvd_left G1 y2
      have q2_0 : G2 ∣ y0 := Int.dvd_trans dv2 q1_0
      have q2_1 : G2 ∣ y1 := Int.dvd_trans dv2 q1_1
      have Gn : ¬ G2 = 0 := fun h => yn (by have := q2_2; rw [h] at this; exact Int.zero_dvd.mp this)
      have Gw : ¬ wL G2 = 0 := by unfold bn at g2b; rw [wL_eq0 (by omega) (by omega)]; exact Gn
      have v0 : wL y0 / wL G2 = wL (y0 / G2) := by rw [wL_div (bn_le by0 (by decide)) g2b, Int.tdiv_eq_ediv_of_dvd q2_0]
      have v1 : wL y1 / wL G2 = wL (y1 / G2) := by rw [wL_div (bn_le by1 (by decide)) g2b, Int.tdiv_eq_ediv_of_dvd q2_1]
      have v2 : wL y2 / wL G2 = wL (y2 / G2) := by rw [wL_div (bn_le by2 (by decide)) g2b, Int.tdiv_eq_ediv_of_dvd q2_2]
      have step : ∀ L2 l3 l4 l5 l6 l7 l8 l9, (∀ c, c ≠ 93 → c ≠ 94 → L2 c = L c) → (L2 93 0 = wL (y0 / G2) ∧ L2 93 1 = wL (y1 / G2) ∧ L2 93 2 = wL (y2 / G2)) → Br 126 199 6 [some (.ref 74), some (.int d1), some (.int (nI 2)), l3, l4, l5, l6, l7, l8, l9] [] (n, sl, C, Z, I, L2, R) Q (nI 2 ≤ 0) := by
        intro L2 l3 l4 l5 l6 l7 l8 l9 f2 w2
        have sc : SC 2 (fun i => (if i = 0 then y0 else if i = 1 then y1 else y2) / G2) ↔ SC 2 (fun i => p 3 * p (i + 1) - p 0 * p (2 - i)) := by
          rw [SC_div Gn (p := fun i => if i = 0 then y0 else if i = 1 then y1 else y2) (fun i hi => by
            rcases (by omega : i = 0 ∨ i = 1 ∨ i = 2) with rfl | rfl | rfl
            · exact q2_0
            · exact q2_1
            · exact q2_2)]
          exact SC_congr 2 (fun i hi => by
            rcases (by omega : i = 0 ∨ i = 1 ∨ i = 2) with rfl | rfl | rfl
            · exact hy0
            · exact hy1
            · exact hy2)
        refine W_2 (p := fun i => (if i = 0 then y0 else if i = 1 then y1 else y2) / G2) hM' (fun i hi => ?_) (fun i hi => ?_) ?_ (fun h L3 f3 => go1 ⟨hlt, sc.mp h⟩ L3 (fun c h1 h2 => by rw [f3 c h1 h2, f2 c h1 h2])) (fun h L3 f3 => go0 (fun q => h (sc.mpr q.2)) L3 (fun c h1 h2 => by rw [f3 c h1 h2, f2 c h1 h2]))
        · rcases (by omega : i = 0 ∨ i = 1 ∨ i = 2) with rfl | rfl | rfl
          · exact w2.1
          · exact w2.2.1
          · exact w2.2.2
        · have ed : ∀ (B : Nat) (y : Int), bn B y → bn B (y / G2) := fun B y h => by
            unfold bn at *
            have := Int.natAbs_ediv_le_natAbs y G2
            omega
          rcases (by omega : i = 0 ∨ i = 1 ∨ i = 2) with rfl | rfl | rfl
          · exact bn_le (ed _ _ by0) (by decide)
          · exact bn_le (ed _ _ by1) (by decide)
          · exact bn_le (ed _ _ by2) (by decide)
        · have ed : ∀ (B : Nat) (y : Int), bn B y → bn B (y / G2) := fun B y h => by
            unfold bn at *
            have := Int.natAbs_ediv_le_natAbs y G2
            omega
          exact ed _ _ by2
      simp [S126_0, S126_1, S126_2, S126_3, S126_4, BS, ixs, inbs, hM, u2_rd, x0, dm, dc, k0, k1, k2, k3, p0, p1, p2, p3, wL_mul, wL_sub, ey0, ey1, ey2, m0, m1, m2, Gw, v0, v1, v2]
      refine step _ _ _ _ _ _ _ _ (fun c h1 h2 => ?_) ?_
      · repeat (first | rw [u2_ne _ _ _ h1] | rw [u2_ne _ _ _ h2])
      · simp [u2_rd]
    rcases abs4 b0 (by decide) with ⟨-, s0, t0⟩ | ⟨-, s0, t0⟩ <;> rcases abs4 bg (by decide) with ⟨-, s1, t1⟩ | ⟨-, s1, t1⟩
    all_goals
      have s0' := s0
      have s1' := s1
      try rw [t0] at s0'
      try rw [t1] at s1'
      have md := fun a b => mid a b l7 l8 l9
      simp [S126_0, S126_1, S126_2, S126_3, S126_4, BS, ixs, inbs, hM, x0, p0, p3, lg_ge, lg_lt,  s0, s1, s0', s1', t0, t1, tt, ↓md]
  · have tt : ¬ lN (p 0).natAbs < lN (p 3).natAbs := fun h => hlt (tst.mp h)
    have gg := go0 (fun q => hlt q.1) L (fun _ _ _ => rfl)
    rcases abs4 b0 (by decide) with ⟨-, s0, t0⟩ | ⟨-, s0, t0⟩ <;> rcases abs4 bg (by decide) with ⟨-, s1, t1⟩ | ⟨-, s1, t1⟩
    all_goals
      have s0' := s0
      have s1' := s1
      try rw [t0] at s0'
      try rw [t1] at s1'
      simp [S126_0, S126_1, S126_2, S126_3, S126_4, BS, ixs, inbs, hM, x0, p0, p3, lg_ge, lg_lt,  s0, s1, s0', s1', t0, t1, tt, gg]
