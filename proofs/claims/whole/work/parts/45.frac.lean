/-! fractions in lowest terms, powers -/
def fn (a b : Int) : Int := if b < 0 then -(a / (Int.gcd a b : Int)) else a / (Int.gcd a b : Int)
def fd (a b : Int) : Int := if b < 0 then -(b / (Int.gcd a b : Int)) else b / (Int.gcd a b : Int)
theorem wL_div {x y : Int} (x1 : bn 9223372036854775807 x) (y1 : bn 9223372036854775807 y) : wL x / wL y = wL (x.tdiv y) := by
  unfold bn at x1 y1
  apply Int64.toInt_inj.mp
  rw [Int64.toInt_div, wL_toInt (by omega) (by omega), wL_toInt (by omega) (by omega)]
  unfold wL
  rw [Int64.toInt_ofInt]
theorem lN_gcd (a b : Int) : lN (Int.gcd a b) = wL (Int.gcd a b : Int) := (Int64.ofInt_eq_ofNat).symm
theorem gcd_bn {a b : Int} {X : Nat} (hb : bn X b) (b0 : ¬ b = 0) : bn X (Int.gcd a b : Int) := by
  unfold bn at *
  have := Int.gcd_le_natAbs_right a (b := b) b0
  omega
theorem gcd_ne {a b : Int} (b0 : ¬ b = 0) : ¬ (Int.gcd a b : Int) = 0 := by
  have := Int.gcd_pos_of_ne_zero_right a (b := b) b0
  omega
theorem td1 {a b : Int} : a.tdiv (Int.gcd a b : Int) = a / (Int.gcd a b : Int) := Int.tdiv_eq_ediv_of_dvd (Int.gcd_dvd_left a b)
theorem td2 {a b : Int} : b.tdiv (Int.gcd a b : Int) = b / (Int.gcd a b : Int) := Int.tdiv_eq_ediv_of_dvd (Int.gcd_dvd_right a b)
theorem absL {a : Int} (ha : bn 9223372036854775807 a) : (if 0 < wL a then wL a else -wL a) = lN a.natAbs := by
  unfold bn at ha
  have e : (0 : Int64) < wL a ↔ 0 < a := by rw [← wL_0]; exact wL_lt (by omega) (by omega) (by omega) (by omega)
  by_cases c : 0 < a
  · rw [if_pos (e.mpr c), lN_wL (by omega)]
  · rw [if_neg (fun h => c (e.mp h)), wL_neg, ← Int.natAbs_neg, lN_wL (by omega)]
set_option maxRecDepth 100000 in
set_option maxHeartbeats 2000000 in
/-- sharedDivisor -/
theorem c_shared {a b : Int} (ha : bn 9223372036854775807 a) (hb : bn 1125899906842623 b) (h : Hp) (k pc : Nat) (ls : Lo) (st : List Value) (Q : Option Value → Hp → Prop) : Call 15 [some (.long (wL a)), none, some (.long (wL b)), none, none, none, none, none, none, none, none] h k pc ls st Q ↔ Wp k pc ls (.long (lN (Int.gcd a b)) :: st) h Q := by
  have hb' : bn 9223372036854775807 b := bn_le hb (by omega)
  have ea := absL ha
  have eb := absL hb'
  unfold bn at ha hb
  have key := sd_lp (h := h) (Q := fun r h1 => Wp k pc ls (r.toList ++ st) h1 Q) (x := wL a) (y := wL b) 50 0 a.natAbs b.natAbs none (by omega) (by omega) (by omega) (by omega)
  have g : Nat.gcd a.natAbs b.natAbs = Int.gcd a b := rfl
  rw [g, nI_0] at key
  have gen : ∀ x0 : Int32, Wp 15 13 [some (.long (wL a)), none, some (.long (wL b)), none, some (.long (lN a.natAbs)), none, some (.long (lN b.natAbs)), none, none, none, none] [.int x0] h (fun r h1 => Wp k pc ls (r.toList ++ st) h1 Q) ↔ Br 15 50 22 [some (.long (wL a)), none, some (.long (wL b)), none, some (.long (lN a.natAbs)), none, some (.long (lN b.natAbs)), none, some (.int x0), none, none] [] h (fun r h1 => Wp k pc ls (r.toList ++ st) h1 Q) ((100 : Int32) ≤ x0) := fun x0 => by simp [S15_0, S15_1, BS, ixs, inbs]
  have k2 := (gen 0).trans key
  simp [S15_0, S15_1, BS, ixs, inbs, Call_in (k2 := 15), ea, eb, ↓k2]

set_option maxRecDepth 100000 in
set_option maxHeartbeats 2000000 in
/-- Fraction.put -/
theorem c_put {n sl : Nat} {C Z : Nat → Nat} {I : Nat → Nat → Int32} {L : Nat → Nat → Int64} {R : Nat → Nat → Nat} {a b : Int} (ha : bn 9223372036854775807 a) (hb : bn 1125899906842623 b) (b0 : ¬ b = 0) (c73 : C 73 = 3) (k pc : Nat) (ls : Lo) (st : List Value) (Q : Option Value → Hp → Prop) : Call 13 [some (.ref 73), some (.long (wL a)), none, some (.long (wL b)), none, none, none, none, none] (n, sl, C, Z, I, L, R) k pc ls st Q ↔ Wp k pc ls st (n, sl, C, Z, I, u2 (u2 L 73 0 (wL (fn a b))) 73 1 (wL (fd a b)), R) Q := by
  have hb' : bn 9223372036854775807 b := bn_le hb (by omega)
  have hg : bn 9223372036854775807 (Int.gcd a b : Int) := gcd_bn hb' b0
  have g0 := gcd_ne (a := a) b0
  have sh := fun k2 pc2 ls2 st2 Q2 => c_shared ha hb (n, sl, C, Z, I, L, R) k2 pc2 ls2 st2 Q2
  have hgn : bn 9223372036854775807 (-(Int.gcd a b : Int)) := bn_neg hg
  have d1 := wL_div ha hg
  have d2 := wL_div hb' hg
  have d3 := wL_div ha hgn
  have d4 := wL_div hb' hgn
  rw [td1] at d1
  rw [td2] at d2
  rw [Int.tdiv_neg, td1] at d3
  rw [Int.tdiv_neg, td2] at d4
  unfold bn at hb' hg
  have e0 : ¬ wL b = 0 := by rw [wL_eq0 (by omega) (by omega)]; exact b0
  have e1 : ¬ wL (Int.gcd a b : Int) = 0 := by rw [wL_eq0 (by omega) (by omega)]; exact g0
  have e1n : ¬ wL (-(Int.gcd a b : Int)) = 0 := by rw [wL_eq0 (by omega) (by omega)]; omega
  have sb := wL_neg0 (a := b) (by omega) (by omega)
  by_cases c : b < 0
  · simp [S13_0, S13_1, BS, ixs, inbs, Call_in (k2 := 13), sh, lN_gcd, lg_eq, lg_ge, e0, e1, e1n, sb, c, wL_neg, d3, d4, c73, fn, fd]
  · simp [S13_0, S13_1, BS, ixs, inbs, Call_in (k2 := 13), sh, lN_gcd, lg_eq, lg_ge, e0, e1, sb, c, d1, d2, c73, fn, fd]

set_option maxRecDepth 100000 in
set_option maxHeartbeats 2000000 in
/-- lowest -/
theorem m_low {n sl : Nat} {C Z : Nat → Nat} {I : Nat → Nat → Int32} {L : Nat → Nat → Int64} {R : Nat → Nat → Nat} {a b : Int} (ha : bn 9223372036854775807 a) (hb : bn 9223372036854775807 b) (b0 : ¬ b = 0) (c74 : C 74 = 11) (k pc : Nat) (ls : Lo) (st : List Value) (Q : Option Value → Hp → Prop) : Call 106 [some (.ref 74), some (.long (wL a)), none, some (.long (wL b)), none, none, none] (n, sl, C, Z, I, L, R) k pc ls st Q ↔ Wp k pc ls st (n, sl, C, Z, I, u2 (u2 L 74 28 (wL (fn a b))) 74 29 (wL (fd a b)), R) Q := by
  have hg : bn 9223372036854775807 (Int.gcd a b : Int) := gcd_bn hb b0
  have g0 := gcd_ne (a := a) b0
  have sh := fun k2 pc2 ls2 st2 Q2 => m_common ha hb (n, sl, C, Z, I, L, R) k2 pc2 ls2 st2 Q2
  have d1 := wL_div ha hg
  have d2 := wL_div hb hg
  have d3 := wL_div (bn_neg ha) hg
  have d4 := wL_div (bn_neg hb) hg
  rw [td1] at d1
  rw [td2] at d2
  rw [Int.neg_tdiv, td1] at d3
  rw [Int.neg_tdiv, td2] at d4
  unfold bn at hb hg
  have e1 : ¬ wL (Int.gcd a b : Int) = 0 := by rw [wL_eq0 (by omega) (by omega)]; exact g0
  have sb := wL_neg0 (a := b) (by omega) (by omega)
  by_cases c : b < 0
  · simp [S106_0, S106_1, BS, ixs, inbs, Call_in (k2 := 106), sh, lN_gcd, lg_eq, lg_ge, e1, sb, c, wL_neg, d3, d4, c74, fn, fd]
  · simp [S106_0, S106_1, BS, ixs, inbs, Call_in (k2 := 106), sh, lN_gcd, lg_eq, lg_ge, e1, sb, c, d1, d2, c74, fn, fd]

set_option maxRecDepth 100000 in
set_option maxHeartbeats 2000000 in
/-- power -/
theorem c_pow (u : Int32) {e : Nat} (he : e < 1000) (h : Hp) (k pc : Nat) (ls : Lo) (st : List Value) (Q : Option Value → Hp → Prop) : Call 89 [some (.int u), some (.int (nI e)), none, none, none] h k pc ls st Q ↔ Wp k pc ls (.long (wL (u.toInt ^ e)) :: st) h Q := by
  have key := loopBr (k := 89) (t := 22) (f := 11) (st := []) (Q := fun r h1 => Wp k pc ls (r.toList ++ st) h1 Q) (fun i => [some (.int u), some (.int (nI e)), some (.long (wL (u.toInt ^ i))), none, some (.int (nI i))]) (fun _ => h) (fun i => nI e ≤ nI i) e (fun i hi => ?_) (fun i hi => nI_ge hi (by omega)) (nI_le (Nat.le_refl _) (by omega)) 0 (by omega)
  · have gen : ∀ x0 : Int32, Wp 89 3 [some (.int u), some (.int (nI e)), some (.long 1), none, none] [.int x0] h (fun r h1 => Wp k pc ls (r.toList ++ st) h1 Q) ↔ Br 89 22 11 [some (.int u), some (.int (nI e)), some (.long 1), none, some (.int x0)] [] h (fun r h1 => Wp k pc ls (r.toList ++ st) h1 Q) (nI e ≤ x0) := fun x0 => by simp [S89_0, BS, ixs, inbs]
    rw [nI_0, Int.pow_zero, wL_1] at key
    have k2 := (gen 0).trans key
    simp [S89_0, BS, ixs, inbs, Call_in (k2 := 89), ↓k2]
  · simp [S89_0, BS, ixs, inbs, nIk, wL_i2l, wL_mul, Int.pow_succ]

set_option maxRecDepth 100000 in
set_option maxHeartbeats 2000000 in
/-- power -/
theorem m_pow (u : Int32) {e : Nat} (he : e < 1000) (h : Hp) (k pc : Nat) (ls : Lo) (st : List Value) (Q : Option Value → Hp → Prop) : Call 135 [some (.long (wL u.toInt)), none, some (.int (nI e)), none, none, none] h k pc ls st Q ↔ Wp k pc ls (.long (wL (u.toInt ^ e)) :: st) h Q := by
  have key := loopBr (k := 135) (t := 21) (f := 11) (st := []) (Q := fun r h1 => Wp k pc ls (r.toList ++ st) h1 Q) (fun i => [some (.long (wL u.toInt)), none, some (.int (nI e)), some (.long (wL (u.toInt ^ i))), none, some (.int (nI i))]) (fun _ => h) (fun i => nI e ≤ nI i) e (fun i hi => ?_) (fun i hi => nI_ge hi (by omega)) (nI_le (Nat.le_refl _) (by omega)) 0 (by omega)
  · have gen : ∀ x0 : Int32, Wp 135 3 [some (.long (wL u.toInt)), none, some (.int (nI e)), some (.long 1), none, none] [.int x0] h (fun r h1 => Wp k pc ls (r.toList ++ st) h1 Q) ↔ Br 135 21 11 [some (.long (wL u.toInt)), none, some (.int (nI e)), some (.long 1), none, some (.int x0)] [] h (fun r h1 => Wp k pc ls (r.toList ++ st) h1 Q) (nI e ≤ x0) := fun x0 => by simp [S135_0, BS, ixs, inbs]
    rw [nI_0, Int.pow_zero, wL_1] at key
    have k2 := (gen 0).trans key
    simp [S135_0, BS, ixs, inbs, Call_in (k2 := 135), ↓k2]
  · simp [S135_0, BS, ixs, inbs, nIk, wL_i2l, wL_mul, Int.pow_succ]

