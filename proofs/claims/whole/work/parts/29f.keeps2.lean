set_option maxRecDepth 100000 in
set_option maxHeartbeats 8000000 in
theorem m_fin0 {n sl : Nat} {C Z : Nat → Nat} {I : Nat → Nat → Int32} {L : Nat → Nat → Int64} {R : Nat → Nat → Nat} {M : Nat} (hM' : LayM C Z R) (hm' : M < 12) (e2 : I 74 0 = nI M) (kd u dd : Int32) (l5 l6 l7 : Option Value) {Q : Option Value → Hp → Prop}
    (good : ∀ I', Kp I I' M 0 kd u dd → Q (some (.int (nI M))) (n, sl, C, Z, I', L, R)) : Wp 115 130 [some (.ref 74), some (.int kd), some (.int (nI 0)), some (.int u), some (.int dd), l5, l6, l7, none] [] (n, sl, C, Z, I, L, R) Q := by
  have hM := hM'
  unfold LayM at hM
  have n0 : nI 0 = 0 := rfl
  have p3 : inb (nI M) 12 = true := by rw [inb_nI (by omega)]; simp; omega
  have p4 := ix_nI (show M < 2 ^ 31 by omega)
  have ia : ∀ k, k < 9 → inb (nI (9 * M + k)) 108 = true ∧ ix (nI (9 * M + k)) = 9 * M + k := fun k hk => ⟨by rw [inb_nI (by omega)]; simp; omega, ix_nI (by omega)⟩
  have ia0 : inb (nI (9 * M)) 108 = true ∧ ix (nI (9 * M)) = 9 * M := ia 0 (by omega)
  have ib : ∀ k, k < 3 → inb (nI (3 * M + k)) 36 = true ∧ ix (nI (3 * M + k)) = 3 * M + k := fun k hk => ⟨by rw [inb_nI (by omega)]; simp; omega, ix_nI (by omega)⟩
  have ib0 : inb (nI (3 * M)) 36 = true ∧ ix (nI (3 * M)) = 3 * M := ib 0 (by omega)
  have mk := fun (s0 : Int32) (k' pc' : Nat) (ls' : Lo) (st' : List Value) (Q' : Option Value → Hp → Prop) => m_makes (n := n) (sl := sl) (L := L) hM' hm' e2 kd s0 u k' pc' ls' st' Q'
  simp [S115_0, S115_1, S115_2, S115_3, S115_4, S115_5, S114_0, BS, ixs, inbs, hM, e2, n0, p3, p4, mul3, mul9, nIk, ia, ia0, ib, ib0, mk, mkI_o, u2_rd, Nat.add_assoc]
  clear hM' hM mk ia ia0 ib ib0 p3 p4 e2
  refine good _ ⟨fun i hi => ?_, ⟨by (simp only [u2_rd, mkI, true_and, and_true, and_self, if_true, true_or, or_true]; repeat (first | rw [if_neg (by omega)] | rw [if_pos (by omega)])), by (simp only [u2_rd, mkI, true_and, and_true, and_self, if_true, true_or, or_true]; repeat (first | rw [if_neg (by omega)] | rw [if_pos (by omega)])), by (simp only [u2_rd, mkI, true_and, and_true, and_self, if_true, true_or, or_true]; repeat (first | rw [if_neg (by omega)] | rw [if_pos (by omega)]))⟩, fun j hj => ⟨⟨by (simp only [u2_rd, mkI, true_and, and_true, and_self, if_true, true_or, or_true]; repeat (first | rw [if_neg (by omega)] | rw [if_pos (by omega)])), by (simp only [u2_rd, mkI, true_and, and_true, and_self, if_true, true_or, or_true]; repeat (first | rw [if_neg (by omega)] | rw [if_pos (by omega)])), by (simp only [u2_rd, mkI, true_and, and_true, and_self, if_true, true_or, or_true]; repeat (first | rw [if_neg (by omega)] | rw [if_pos (by omega)])), by (simp only [u2_rd, mkI, true_and, and_true, and_self, if_true, true_or, or_true]; repeat (first | rw [if_neg (by omega)] | rw [if_pos (by omega)]))⟩, fun i hi => by (simp only [u2_rd, mkI, true_and, and_true, and_self, if_true, true_or, or_true]; repeat (first | rw [if_neg (by omega)] | rw [if_pos (by omega)])), fun i hi => ⟨by (simp only [u2_rd, mkI, true_and, and_true, and_self, if_true, true_or, or_true]; repeat (first | rw [if_neg (by omega)] | rw [if_pos (by omega)])), by (simp only [u2_rd, mkI, true_and, and_true, and_self, if_true, true_or, or_true]; repeat (first | rw [if_neg (by omega)] | rw [if_pos (by omega)]))⟩⟩, ⟨by (simp only [u2_rd, mkI, true_and, and_true, and_self, if_true, true_or, or_true]; repeat (first | rw [if_neg (by omega)] | rw [if_pos (by omega)])), by (try rw [n0]); (simp only [u2_rd, mkI, true_and, and_true, and_self, if_true, true_or, or_true]; repeat (first | rw [if_neg (by omega)] | rw [if_pos (by omega)])), by (simp only [u2_rd, mkI, true_and, and_true, and_self, if_true, true_or, or_true]; repeat (first | rw [if_neg (by omega)] | rw [if_pos (by omega)])), by (simp only [u2_rd, mkI, true_and, and_true, and_self, if_true, true_or, or_true]; repeat (first | rw [if_neg (by omega)] | rw [if_pos (by omega)]))⟩, fun i k hi hk => by rcases i3 hi with rfl | rfl | rfl <;> rcases i3 hk with rfl | rfl | rfl <;> (simp only [u2_rd, mkI, true_and, and_true, and_self, if_true, true_or, or_true]; repeat (first | rw [if_neg (by omega)] | rw [if_pos (by omega)])), fun i hi => ⟨by rcases i3 hi with rfl | rfl | rfl <;> (simp only [u2_rd, mkI, true_and, and_true, and_self, if_true, true_or, or_true]; repeat (first | rw [if_neg (by omega)] | rw [if_pos (by omega)])), by rcases i3 hi with rfl | rfl | rfl <;> (simp only [u2_rd, mkI, true_and, and_true, and_self, if_true, true_or, or_true]; repeat (first | rw [if_neg (by omega)] | rw [if_pos (by omega)]))⟩⟩
  funext k
  simp only [u2_rd]
  repeat rw [if_neg (by omega)]
  rw [mkI_o hi]

set_option maxRecDepth 100000 in
set_option maxHeartbeats 8000000 in
theorem m_fin1 {n sl : Nat} {C Z : Nat → Nat} {I : Nat → Nat → Int32} {L : Nat → Nat → Int64} {R : Nat → Nat → Nat} {M : Nat} (hM' : LayM C Z R) (hm' : M < 12) (e2 : I 74 0 = nI M) (kd u dd : Int32) (l5 l6 l7 : Option Value) {Q : Option Value → Hp → Prop}
    (good : ∀ I', Kp I I' M 1 kd u dd → Q (some (.int (nI M))) (n, sl, C, Z, I', L, R)) : Wp 115 130 [some (.ref 74), some (.int kd), some (.int (nI 1)), some (.int u), some (.int dd), l5, l6, l7, none] [] (n, sl, C, Z, I, L, R) Q := by
  have hM := hM'
  unfold LayM at hM
  have n0 : nI 1 = 1 := rfl
  have p3 : inb (nI M) 12 = true := by rw [inb_nI (by omega)]; simp; omega
  have p4 := ix_nI (show M < 2 ^ 31 by omega)
  have ia : ∀ k, k < 9 → inb (nI (9 * M + k)) 108 = true ∧ ix (nI (9 * M + k)) = 9 * M + k := fun k hk => ⟨by rw [inb_nI (by omega)]; simp; omega, ix_nI (by omega)⟩
  have ia0 : inb (nI (9 * M)) 108 = true ∧ ix (nI (9 * M)) = 9 * M := ia 0 (by omega)
  have ib : ∀ k, k < 3 → inb (nI (3 * M + k)) 36 = true ∧ ix (nI (3 * M + k)) = 3 * M + k := fun k hk => ⟨by rw [inb_nI (by omega)]; simp; omega, ix_nI (by omega)⟩
  have ib0 : inb (nI (3 * M)) 36 = true ∧ ix (nI (3 * M)) = 3 * M := ib 0 (by omega)
  have mk := fun (s0 : Int32) (k' pc' : Nat) (ls' : Lo) (st' : List Value) (Q' : Option Value → Hp → Prop) => m_makes (n := n) (sl := sl) (L := L) hM' hm' e2 kd s0 u k' pc' ls' st' Q'
  simp [S115_0, S115_1, S115_2, S115_3, S115_4, S115_5, S114_0, BS, ixs, inbs, hM, e2, n0, p3, p4, mul3, mul9, nIk, ia, ia0, ib, ib0, mk, mkI_o, u2_rd, Nat.add_assoc]
  clear hM' hM mk ia ia0 ib ib0 p3 p4 e2
  refine good _ ⟨fun i hi => ?_, ⟨by (simp only [u2_rd, mkI, true_and, and_true, and_self, if_true, true_or, or_true]; repeat (first | rw [if_neg (by omega)] | rw [if_pos (by omega)])), by (simp only [u2_rd, mkI, true_and, and_true, and_self, if_true, true_or, or_true]; repeat (first | rw [if_neg (by omega)] | rw [if_pos (by omega)])), by (simp only [u2_rd, mkI, true_and, and_true, and_self, if_true, true_or, or_true]; repeat (first | rw [if_neg (by omega)] | rw [if_pos (by omega)]))⟩, fun j hj => ⟨⟨by (simp only [u2_rd, mkI, true_and, and_true, and_self, if_true, true_or, or_true]; repeat (first | rw [if_neg (by omega)] | rw [if_pos (by omega)])), by (simp only [u2_rd, mkI, true_and, and_true, and_self, if_true, true_or, or_true]; repeat (first | rw [if_neg (by omega)] | rw [if_pos (by omega)])), by (simp only [u2_rd, mkI, true_and, and_true, and_self, if_true, true_or, or_true]; repeat (first | rw [if_neg (by omega)] | rw [if_pos (by omega)])), by (simp only [u2_rd, mkI, true_and, and_true, and_self, if_true, true_or, or_true]; repeat (first | rw [if_neg (by omega)] | rw [if_pos (by omega)]))⟩, fun i hi => by (simp only [u2_rd, mkI, true_and, and_true, and_self, if_true, true_or, or_true]; repeat (first | rw [if_neg (by omega)] | rw [if_pos (by omega)])), fun i hi => ⟨by (simp only [u2_rd, mkI, true_and, and_true, and_self, if_true, true_or, or_true]; repeat (first | rw [if_neg (by omega)] | rw [if_pos (by omega)])), by (simp only [u2_rd, mkI, true_and, and_true, and_self, if_true, true_or, or_true]; repeat (first | rw [if_neg (by omega)] | rw [if_pos (by omega)]))⟩⟩, ⟨by (simp only [u2_rd, mkI, true_and, and_true, and_self, if_true, true_or, or_true]; repeat (first | rw [if_neg (by omega)] | rw [if_pos (by omega)])), by (try rw [n0]); (simp only [u2_rd, mkI, true_and, and_true, and_self, if_true, true_or, or_true]; repeat (first | rw [if_neg (by omega)] | rw [if_pos (by omega)])), by (simp only [u2_rd, mkI, true_and, and_true, and_self, if_true, true_or, or_true]; repeat (first | rw [if_neg (by omega)] | rw [if_pos (by omega)])), by (simp only [u2_rd, mkI, true_and, and_true, and_self, if_true, true_or, or_true]; repeat (first | rw [if_neg (by omega)] | rw [if_pos (by omega)]))⟩, fun i k hi hk => by rcases i3 hi with rfl | rfl | rfl <;> rcases i3 hk with rfl | rfl | rfl <;> (simp only [u2_rd, mkI, true_and, and_true, and_self, if_true, true_or, or_true]; repeat (first | rw [if_neg (by omega)] | rw [if_pos (by omega)])), fun i hi => ⟨by rcases i3 hi with rfl | rfl | rfl <;> (simp only [u2_rd, mkI, true_and, and_true, and_self, if_true, true_or, or_true]; repeat (first | rw [if_neg (by omega)] | rw [if_pos (by omega)])), by rcases i3 hi with rfl | rfl | rfl <;> (simp only [u2_rd, mkI, true_and, and_true, and_self, if_true, true_or, or_true]; repeat (first | rw [if_neg (by omega)] | rw [if_pos (by omega)]))⟩⟩
  funext k
  simp only [u2_rd]
  repeat rw [if_neg (by omega)]
  rw [mkI_o hi]

set_option maxRecDepth 100000 in
set_option maxHeartbeats 8000000 in
theorem m_fin2 {n sl : Nat} {C Z : Nat → Nat} {I : Nat → Nat → Int32} {L : Nat → Nat → Int64} {R : Nat → Nat → Nat} {M : Nat} (hM' : LayM C Z R) (hm' : M < 12) (e2 : I 74 0 = nI M) (kd u dd : Int32) (l5 l6 l7 : Option Value) {Q : Option Value → Hp → Prop}
    (good : ∀ I', Kp I I' M 2 kd u dd → Q (some (.int (nI M))) (n, sl, C, Z, I', L, R)) : Wp 115 130 [some (.ref 74), some (.int kd), some (.int (nI 2)), some (.int u), some (.int dd), l5, l6, l7, none] [] (n, sl, C, Z, I, L, R) Q := by
  have hM := hM'
  unfold LayM at hM
  have n0 : nI 2 = 2 := rfl
  have p3 : inb (nI M) 12 = true := by rw [inb_nI (by omega)]; simp; omega
  have p4 := ix_nI (show M < 2 ^ 31 by omega)
  have ia : ∀ k, k < 9 → inb (nI (9 * M + k)) 108 = true ∧ ix (nI (9 * M + k)) = 9 * M + k := fun k hk => ⟨by rw [inb_nI (by omega)]; simp; omega, ix_nI (by omega)⟩
  have ia0 : inb (nI (9 * M)) 108 = true ∧ ix (nI (9 * M)) = 9 * M := ia 0 (by omega)
  have ib : ∀ k, k < 3 → inb (nI (3 * M + k)) 36 = true ∧ ix (nI (3 * M + k)) = 3 * M + k := fun k hk => ⟨by rw [inb_nI (by omega)]; simp; omega, ix_nI (by omega)⟩
  have ib0 : inb (nI (3 * M)) 36 = true ∧ ix (nI (3 * M)) = 3 * M := ib 0 (by omega)
  have mk := fun (s0 : Int32) (k' pc' : Nat) (ls' : Lo) (st' : List Value) (Q' : Option Value → Hp → Prop) => m_makes (n := n) (sl := sl) (L := L) hM' hm' e2 kd s0 u k' pc' ls' st' Q'
  simp [S115_0, S115_1, S115_2, S115_3, S115_4, S115_5, S114_0, BS, ixs, inbs, hM, e2, n0, p3, p4, mul3, mul9, nIk, ia, ia0, ib, ib0, mk, mkI_o, u2_rd, Nat.add_assoc]
  clear hM' hM mk ia ia0 ib ib0 p3 p4 e2
  refine good _ ⟨fun i hi => ?_, ⟨by (simp only [u2_rd, mkI, true_and, and_true, and_self, if_true, true_or, or_true]; repeat (first | rw [if_neg (by omega)] | rw [if_pos (by omega)])), by (simp only [u2_rd, mkI, true_and, and_true, and_self, if_true, true_or, or_true]; repeat (first | rw [if_neg (by omega)] | rw [if_pos (by omega)])), by (simp only [u2_rd, mkI, true_and, and_true, and_self, if_true, true_or, or_true]; repeat (first | rw [if_neg (by omega)] | rw [if_pos (by omega)]))⟩, fun j hj => ⟨⟨by (simp only [u2_rd, mkI, true_and, and_true, and_self, if_true, true_or, or_true]; repeat (first | rw [if_neg (by omega)] | rw [if_pos (by omega)])), by (simp only [u2_rd, mkI, true_and, and_true, and_self, if_true, true_or, or_true]; repeat (first | rw [if_neg (by omega)] | rw [if_pos (by omega)])), by (simp only [u2_rd, mkI, true_and, and_true, and_self, if_true, true_or, or_true]; repeat (first | rw [if_neg (by omega)] | rw [if_pos (by omega)])), by (simp only [u2_rd, mkI, true_and, and_true, and_self, if_true, true_or, or_true]; repeat (first | rw [if_neg (by omega)] | rw [if_pos (by omega)]))⟩, fun i hi => by (simp only [u2_rd, mkI, true_and, and_true, and_self, if_true, true_or, or_true]; repeat (first | rw [if_neg (by omega)] | rw [if_pos (by omega)])), fun i hi => ⟨by (simp only [u2_rd, mkI, true_and, and_true, and_self, if_true, true_or, or_true]; repeat (first | rw [if_neg (by omega)] | rw [if_pos (by omega)])), by (simp only [u2_rd, mkI, true_and, and_true, and_self, if_true, true_or, or_true]; repeat (first | rw [if_neg (by omega)] | rw [if_pos (by omega)]))⟩⟩, ⟨by (simp only [u2_rd, mkI, true_and, and_true, and_self, if_true, true_or, or_true]; repeat (first | rw [if_neg (by omega)] | rw [if_pos (by omega)])), by (try rw [n0]); (simp only [u2_rd, mkI, true_and, and_true, and_self, if_true, true_or, or_true]; repeat (first | rw [if_neg (by omega)] | rw [if_pos (by omega)])), by (simp only [u2_rd, mkI, true_and, and_true, and_self, if_true, true_or, or_true]; repeat (first | rw [if_neg (by omega)] | rw [if_pos (by omega)])), by (simp only [u2_rd, mkI, true_and, and_true, and_self, if_true, true_or, or_true]; repeat (first | rw [if_neg (by omega)] | rw [if_pos (by omega)]))⟩, fun i k hi hk => by rcases i3 hi with rfl | rfl | rfl <;> rcases i3 hk with rfl | rfl | rfl <;> (simp only [u2_rd, mkI, true_and, and_true, and_self, if_true, true_or, or_true]; repeat (first | rw [if_neg (by omega)] | rw [if_pos (by omega)])), fun i hi => ⟨by rcases i3 hi with rfl | rfl | rfl <;> (simp only [u2_rd, mkI, true_and, and_true, and_self, if_true, true_or, or_true]; repeat (first | rw [if_neg (by omega)] | rw [if_pos (by omega)])), by rcases i3 hi with rfl | rfl | rfl <;> (simp only [u2_rd, mkI, true_and, and_true, and_self, if_true, true_or, or_true]; repeat (first | rw [if_neg (by omega)] | rw [if_pos (by omega)]))⟩⟩
  funext k
  simp only [u2_rd]
  repeat rw [if_neg (by omega)]
  rw [mkI_o hi]

set_option maxRecDepth 100000 in
set_option maxHeartbeats 8000000 in
theorem m_fin3 {n sl : Nat} {C Z : Nat → Nat} {I : Nat → Nat → Int32} {L : Nat → Nat → Int64} {R : Nat → Nat → Nat} {M : Nat} (hM' : LayM C Z R) (hm' : M < 12) (e2 : I 74 0 = nI M) (kd u dd : Int32) (l5 l6 l7 : Option Value) {Q : Option Value → Hp → Prop}
    (good : ∀ I', Kp I I' M 3 kd u dd → Q (some (.int (nI M))) (n, sl, C, Z, I', L, R)) : Wp 115 130 [some (.ref 74), some (.int kd), some (.int (nI 3)), some (.int u), some (.int dd), l5, l6, l7, none] [] (n, sl, C, Z, I, L, R) Q := by
  have hM := hM'
  unfold LayM at hM
  have n0 : nI 3 = 3 := rfl
  have p3 : inb (nI M) 12 = true := by rw [inb_nI (by omega)]; simp; omega
  have p4 := ix_nI (show M < 2 ^ 31 by omega)
  have ia : ∀ k, k < 9 → inb (nI (9 * M + k)) 108 = true ∧ ix (nI (9 * M + k)) = 9 * M + k := fun k hk => ⟨by rw [inb_nI (by omega)]; simp; omega, ix_nI (by omega)⟩
  have ia0 : inb (nI (9 * M)) 108 = true ∧ ix (nI (9 * M)) = 9 * M := ia 0 (by omega)
  have ib : ∀ k, k < 3 → inb (nI (3 * M + k)) 36 = true ∧ ix (nI (3 * M + k)) = 3 * M + k := fun k hk => ⟨by rw [inb_nI (by omega)]; simp; omega, ix_nI (by omega)⟩
  have ib0 : inb (nI (3 * M)) 36 = true ∧ ix (nI (3 * M)) = 3 * M := ib 0 (by omega)
  have mk := fun (s0 : Int32) (k' pc' : Nat) (ls' : Lo) (st' : List Value) (Q' : Option Value → Hp → Prop) => m_makes (n := n) (sl := sl) (L := L) hM' hm' e2 kd s0 u k' pc' ls' st' Q'
  simp [S115_0, S115_1, S115_2, S115_3, S115_4, S115_5, S114_0, BS, ixs, inbs, hM, e2, n0, p3, p4, mul3, mul9, nIk, ia, ia0, ib, ib0, mk, mkI_o, u2_rd, Nat.add_assoc]
  clear hM' hM mk ia ia0 ib ib0 p3 p4 e2
  refine good _ ⟨fun i hi => ?_, ⟨by (simp only [u2_rd, mkI, true_and, and_true, and_self, if_true, true_or, or_true]; repeat (first | rw [if_neg (by omega)] | rw [if_pos (by omega)])), by (simp only [u2_rd, mkI, true_and, and_true, and_self, if_true, true_or, or_true]; repeat (first | rw [if_neg (by omega)] | rw [if_pos (by omega)])), by (simp only [u2_rd, mkI, true_and, and_true, and_self, if_true, true_or, or_true]; repeat (first | rw [if_neg (by omega)] | rw [if_pos (by omega)]))⟩, fun j hj => ⟨⟨by (simp only [u2_rd, mkI, true_and, and_true, and_self, if_true, true_or, or_true]; repeat (first | rw [if_neg (by omega)] | rw [if_pos (by omega)])), by (simp only [u2_rd, mkI, true_and, and_true, and_self, if_true, true_or, or_true]; repeat (first | rw [if_neg (by omega)] | rw [if_pos (by omega)])), by (simp only [u2_rd, mkI, true_and, and_true, and_self, if_true, true_or, or_true]; repeat (first | rw [if_neg (by omega)] | rw [if_pos (by omega)])), by (simp only [u2_rd, mkI, true_and, and_true, and_self, if_true, true_or, or_true]; repeat (first | rw [if_neg (by omega)] | rw [if_pos (by omega)]))⟩, fun i hi => by (simp only [u2_rd, mkI, true_and, and_true, and_self, if_true, true_or, or_true]; repeat (first | rw [if_neg (by omega)] | rw [if_pos (by omega)])), fun i hi => ⟨by (simp only [u2_rd, mkI, true_and, and_true, and_self, if_true, true_or, or_true]; repeat (first | rw [if_neg (by omega)] | rw [if_pos (by omega)])), by (simp only [u2_rd, mkI, true_and, and_true, and_self, if_true, true_or, or_true]; repeat (first | rw [if_neg (by omega)] | rw [if_pos (by omega)]))⟩⟩, ⟨by (simp only [u2_rd, mkI, true_and, and_true, and_self, if_true, true_or, or_true]; repeat (first | rw [if_neg (by omega)] | rw [if_pos (by omega)])), by (try rw [n0]); (simp only [u2_rd, mkI, true_and, and_true, and_self, if_true, true_or, or_true]; repeat (first | rw [if_neg (by omega)] | rw [if_pos (by omega)])), by (simp only [u2_rd, mkI, true_and, and_true, and_self, if_true, true_or, or_true]; repeat (first | rw [if_neg (by omega)] | rw [if_pos (by omega)])), by (simp only [u2_rd, mkI, true_and, and_true, and_self, if_true, true_or, or_true]; repeat (first | rw [if_neg (by omega)] | rw [if_pos (by omega)]))⟩, fun i k hi hk => by rcases i3 hi with rfl | rfl | rfl <;> rcases i3 hk with rfl | rfl | rfl <;> (simp only [u2_rd, mkI, true_and, and_true, and_self, if_true, true_or, or_true]; repeat (first | rw [if_neg (by omega)] | rw [if_pos (by omega)])), fun i hi => ⟨by rcases i3 hi with rfl | rfl | rfl <;> (simp only [u2_rd, mkI, true_and, and_true, and_self, if_true, true_or, or_true]; repeat (first | rw [if_neg (by omega)] | rw [if_pos (by omega)])), by rcases i3 hi with rfl | rfl | rfl <;> (simp only [u2_rd, mkI, true_and, and_true, and_self, if_true, true_or, or_true]; repeat (first | rw [if_neg (by omega)] | rw [if_pos (by omega)]))⟩⟩
  funext k
  simp only [u2_rd]
  repeat rw [if_neg (by omega)]
  rw [mkI_o hi]

set_option maxRecDepth 100000 in
set_option maxHeartbeats 4000000 in
/-- keeps -/
theorem m_keeps {n sl : Nat} {C Z : Nat → Nat} {I : Nat → Nat → Int32} {L : Nat → Nat → Int64} {R : Nat → Nat → Nat} {M s : Nat} (hM' : LayM C Z R) (hs : s ≤ 3) (hm : M ≤ 12) (e2 : I 74 0 = nI M) (kd u dd : Int32) {k pc : Nat} {ls : Lo} {st : List Value} {Q : Option Value → Hp → Prop}
    (good : M < 12 → fit4 s (I 82) (I 83) (I 84) dd → ∀ I', Kp I I' M s kd u dd → Wp k pc ls (.int (nI M) :: st) (n, sl, C, Z, I', L, R) Q) (bad : ¬ (M < 12 ∧ fit4 s (I 82) (I 83) (I 84) dd) → Wp k pc ls (.int (-4) :: st) (n, sl, C, Z, I, L, R) Q) : Call 115 [some (.ref 74), some (.int kd), some (.int (nI s)), some (.int u), some (.int dd), none, none, none, none] (n, sl, C, Z, I, L, R) k pc ls st Q := by
  have hM := hM'
  unfold LayM at hM
  have fin : ∀ b' l7', (b' = 0 ∨ b' = 1) → (b' = 1 ↔ M < 12 ∧ fit4 s (I 82) (I 83) (I 84) dd) → Wp 115 122 [some (.ref 74), some (.int kd), some (.int (nI s)), some (.int u), some (.int dd), some (.int b'), some (.int (nI s)), l7', none] [] (n, sl, C, Z, I, L, R) (fun r h1 => Wp k pc ls (r.toList ++ st) h1 Q) := by
    intro b' l7' hb e
    rcases hb with rfl | rfl
    · have := bad (fun q => absurd (e.mpr q) (by decide))
      simp [S115_0, S115_1, S115_2, S115_3, S115_4, S115_5, S114_0, BS]
      exact this
    · obtain ⟨q1, q2⟩ := e.mp rfl
      have g := good q1 q2
      have go : Wp 115 130 [some (.ref 74), some (.int kd), some (.int (nI s)), some (.int u), some (.int dd), some (.int 1), some (.int (nI s)), l7', none] [] (n, sl, C, Z, I, L, R) (fun r h1 => Wp k pc ls (r.toList ++ st) h1 Q) := by
        rcases (by omega : s = 0 ∨ s = 1 ∨ s = 2 ∨ s = 3) with rfl | rfl | rfl | rfl
        · exact m_fin0 hM' q1 e2 kd u dd _ _ _ g
        · exact m_fin1 hM' q1 e2 kd u dd _ _ _ g
        · exact m_fin2 hM' q1 e2 kd u dd _ _ _ g
        · exact m_fin3 hM' q1 e2 kd u dd _ _ _ g
      have br : Br 115 130 127 [some (.ref 74), some (.int kd), some (.int (nI s)), some (.int u), some (.int dd), some (.int 1), some (.int (nI s)), l7', none] [] (n, sl, C, Z, I, L, R) (fun r h1 => Wp k pc ls (r.toList ++ st) h1 Q) True := Br_t.mpr go
      have e5 : ∀ x : Int32, ¬ x = 0 → (Wp 115 122 [some (.ref 74), some (.int kd), some (.int (nI s)), some (.int u), some (.int dd), some (.int x), some (.int (nI s)), l7', none] [] (n, sl, C, Z, I, L, R) (fun r h1 => Wp k pc ls (r.toList ++ st) h1 Q) ↔ Br 115 130 127 [some (.ref 74), some (.int kd), some (.int (nI s)), some (.int u), some (.int dd), some (.int x), some (.int (nI s)), l7', none] [] (n, sl, C, Z, I, L, R) (fun r h1 => Wp k pc ls (r.toList ++ st) h1 Q) (¬ x = 0)) := fun x hx => by simp only [S115_0, S115_1, S115_2, S115_3, S115_4, S115_5, S114_0]
      rw [e5 1 (by decide), show (¬ (1 : Int32) = 0) = True from by decide]
      exact br
  have start : ∀ b, (b = 0 ∨ b = 1) → (b = 1 ↔ M < 12 ∧ fit dd) → Br 115 122 33 [some (.ref 74), some (.int kd), some (.int (nI s)), some (.int u), some (.int dd), some (.int b), some (.int (nI 0)), none, none] [] (n, sl, C, Z, I, L, R) (fun r h1 => Wp k pc ls (r.toList ++ st) h1 Q) (nI s ≤ nI 0) := fun b hb e => keeps_out hM' hs s 0 b none (by omega) hb (fun b' l7' hb' e' => fin b' l7' hb' (by
    rw [e', e]
    unfold fit4
    constructor
    · intro q
      exact ⟨q.1.1, fun i hi => ⟨(q.2 i (by omega) hi).1, (q.2 i (by omega) hi).2.1⟩, fun i k hi hk => (q.2 i (by omega) hi).2.2 k hk, q.1.2⟩
    · intro q
      exact ⟨⟨q.1, q.2.2.2⟩, fun p _ hp => ⟨(q.2.1 p hp).1, (q.2.1 p hp).2, fun k hk => q.2.2.1 p k hp hk⟩⟩))
  rw [nI_0] at start
  by_cases h12 : M = 12
  · subst h12
    have e12 : nI 12 = 12 := rfl
    have := start 0 (Or.inl rfl) ⟨fun q => absurd q (by decide), fun q => absurd q.1 (by omega)⟩
    by_cases f1 : dd < -12
    · simp [S115_0, S115_1, S115_2, S115_3, S115_4, S115_5, S114_0, Call_in, BS, ixs, inbs, hM, e2, e12, f1]
      exact this
    by_cases f2 : (12 : Int32) < dd
    · simp [S115_0, S115_1, S115_2, S115_3, S115_4, S115_5, S114_0, Call_in, BS, ixs, inbs, hM, e2, e12, f1, f2]
      exact this
    have f3 : (-12 : Int32) ≤ dd := Int32.not_lt.mp f1
    have f4 : dd ≤ 12 := Int32.not_lt.mp f2
    simp [S115_0, S115_1, S115_2, S115_3, S115_4, S115_5, S114_0, Call_in, BS, ixs, inbs, hM, e2, e12, f1, f2, f3, f4]
    exact this
  have p1 : ¬ (12 : Int32) ≤ nI M := nI_ge (b := 12) (by omega) (by omega)
  have p2 : nI M < 12 := nI_lt (b := 12) (by omega) (by omega)
  by_cases f1 : dd < -12
  · have := start 0 (Or.inl rfl) ⟨fun q => absurd q (by decide), fun q => absurd f1 q.2.1⟩
    simp [S115_0, S115_1, S115_2, S115_3, S115_4, S115_5, S114_0, Call_in, BS, ixs, inbs, hM, e2, f1]
    exact this
  by_cases f2 : (12 : Int32) < dd
  · have := start 0 (Or.inl rfl) ⟨fun q => absurd q (by decide), fun q => absurd f2 q.2.2⟩
    simp [S115_0, S115_1, S115_2, S115_3, S115_4, S115_5, S114_0, Call_in, BS, ixs, inbs, hM, e2, f1, f2]
    exact this
  have f3 : (-12 : Int32) ≤ dd := Int32.not_lt.mp f1
  have f4 : dd ≤ 12 := Int32.not_lt.mp f2
  have := start 1 (Or.inr rfl) ⟨fun q => ⟨by omega, f1, f2⟩, fun q => rfl⟩
  simp [S115_0, S115_1, S115_2, S115_3, S115_4, S115_5, S114_0, Call_in, BS, ixs, inbs, hM, e2, p1, p2, f1, f2, f3, f4]
  exact this

