theorem inG_ne {g c : Nat} (h : g ≠ 7) : (inG g c = true) = (c = g + 1) := by simp [inG, h]
theorem clr_i (x : Int32) : clr (some (.int x)) = some (.int x) := rfl
theorem clr_r (x : Nat) : clr (some (.ref x)) = some (.ref x) := rfl
theorem clr_n : clr none = none := rfl
theorem clr_l (x : Int64) : clr (some (.long x)) = none := rfl
theorem ws_0 : wsum [] = 0 := rfl
theorem ws_i (x : Int32) (t : List Value) : wsum (.int x :: t) = 1 + wsum t := by simp [wsum, Value.category]
theorem ws_l (x : Int64) (t : List Value) : wsum (.long x :: t) = 2 + wsum t := by simp [wsum, Value.category]
theorem ws_r (x : Nat) (t : List Value) : wsum (.ref x :: t) = 1 + wsum t := by simp [wsum, Value.category]
theorem ix_nI {j : Nat} (h : j < 2 ^ 31) : ix (nI j) = j := nI_clamp h
theorem inb_nI {j n : Nat} (h : j < 2 ^ 31) : inb (nI j) n = decide (j < n) := by
  simp [inb, ix_nI h, nI_pos h]
theorem ixs : ix (0) = 0 ∧ ix (1) = 1 ∧ ix (2) = 2 ∧ ix (3) = 3 ∧ ix (4) = 4 ∧ ix (5) = 5 ∧ ix (6) = 6 ∧ ix (7) = 7 ∧ ix (8) = 8 ∧ ix (9) = 9 ∧ ix (10) = 10 ∧ ix (11) = 11 ∧ ix (12) = 12 ∧ ix (13) = 13 ∧ ix (14) = 14 ∧ ix (15) = 15 ∧ ix (16) = 16 ∧ ix (17) = 17 ∧ ix (18) = 18 ∧ ix (19) = 19 ∧ ix (20) = 20 ∧ ix (21) = 21 ∧ ix (22) = 22 ∧ ix (23) = 23 ∧ ix (24) = 24 ∧ ix (25) = 25 ∧ ix (26) = 26 ∧ ix (27) = 27 ∧ ix (28) = 28 ∧ ix (29) = 29 ∧ ix (30) = 30 ∧ ix (31) = 31 ∧ ix (32) = 32 ∧ ix (33) = 33 ∧ ix (34) = 34 ∧ ix (35) = 35 ∧ ix (36) = 36 ∧ ix (37) = 37 ∧ ix (38) = 38 ∧ ix (39) = 39 ∧ ix (40) = 40 := by decide
theorem inbs : (∀ n, inb (0) n = decide (0 < n)) ∧ (∀ n, inb (1) n = decide (1 < n)) ∧ (∀ n, inb (2) n = decide (2 < n)) ∧ (∀ n, inb (3) n = decide (3 < n)) ∧ (∀ n, inb (4) n = decide (4 < n)) ∧ (∀ n, inb (5) n = decide (5 < n)) ∧ (∀ n, inb (6) n = decide (6 < n)) ∧ (∀ n, inb (7) n = decide (7 < n)) ∧ (∀ n, inb (8) n = decide (8 < n)) ∧ (∀ n, inb (9) n = decide (9 < n)) ∧ (∀ n, inb (10) n = decide (10 < n)) ∧ (∀ n, inb (11) n = decide (11 < n)) ∧ (∀ n, inb (12) n = decide (12 < n)) ∧ (∀ n, inb (13) n = decide (13 < n)) ∧ (∀ n, inb (14) n = decide (14 < n)) ∧ (∀ n, inb (15) n = decide (15 < n)) ∧ (∀ n, inb (16) n = decide (16 < n)) ∧ (∀ n, inb (17) n = decide (17 < n)) ∧ (∀ n, inb (18) n = decide (18 < n)) ∧ (∀ n, inb (19) n = decide (19 < n)) ∧ (∀ n, inb (20) n = decide (20 < n)) ∧ (∀ n, inb (21) n = decide (21 < n)) ∧ (∀ n, inb (22) n = decide (22 < n)) ∧ (∀ n, inb (23) n = decide (23 < n)) ∧ (∀ n, inb (24) n = decide (24 < n)) ∧ (∀ n, inb (25) n = decide (25 < n)) ∧ (∀ n, inb (26) n = decide (26 < n)) ∧ (∀ n, inb (27) n = decide (27 < n)) ∧ (∀ n, inb (28) n = decide (28 < n)) ∧ (∀ n, inb (29) n = decide (29 < n)) ∧ (∀ n, inb (30) n = decide (30 < n)) ∧ (∀ n, inb (31) n = decide (31 < n)) ∧ (∀ n, inb (32) n = decide (32 < n)) ∧ (∀ n, inb (33) n = decide (33 < n)) ∧ (∀ n, inb (34) n = decide (34 < n)) ∧ (∀ n, inb (35) n = decide (35 < n)) ∧ (∀ n, inb (36) n = decide (36 < n)) ∧ (∀ n, inb (37) n = decide (37 < n)) ∧ (∀ n, inb (38) n = decide (38 < n)) ∧ (∀ n, inb (39) n = decide (39 < n)) ∧ (∀ n, inb (40) n = decide (40 < n)) := by refine ⟨?_, ?_, ?_, ?_, ?_, ?_, ?_, ?_, ?_, ?_, ?_, ?_, ?_, ?_, ?_, ?_, ?_, ?_, ?_, ?_, ?_, ?_, ?_, ?_, ?_, ?_, ?_, ?_, ?_, ?_, ?_, ?_, ?_, ?_, ?_, ?_, ?_, ?_, ?_, ?_, ?_⟩ <;> (intro n; rfl)
theorem e_ts {k pc : Nat} {ls : Lo} {st : List Value} {h : Hp} {Q : Option Value → Hp → Prop} {x : Int32} {d lo hi : Int} {offs : Array Int} {len t : Nat} (hd : decode (byt k) pc = .ok (.tableswitch d lo hi offs, len)) (ht : x_ts pc ls (.int x :: st) h d lo hi offs = go t ls st h) : Wp k pc ls (.int x :: st) h Q ↔ Wp k t ls st h Q := Wp_go ((stp_of hd).trans ht)
theorem ts_out {x : Int32} {n : Nat} (hn : n < 1000) (h : ∀ j, j < n + 1 → ¬ x = Int32.ofNat j) : x.toInt < 0 ∨ (n : Int) < x.toInt := by
  rcases Int.lt_or_le x.toInt 0 with q | q
  · exact Or.inl q
  · rcases Int.lt_or_le (n : Int) x.toInt with q2 | q2
    · exact Or.inr q2
    · refine absurd ?_ (h x.toInt.toNat (by omega))
      apply Int32.toInt_inj.mp
      rw [show (Int32.ofNat x.toInt.toNat).toInt = ((x.toInt.toNat : Nat) : Int) from nI_toInt (by omega)]
      omega
theorem ts_out_jmp {pc : Nat} {ls : Lo} {st : List Value} {h : Hp} {x : Int32} {d : Int} {offs : Array Int} {n t : Nat} (hx : ∀ j, j < n + 1 → ¬ x = Int32.ofNat j) (hn : n < 1000) (ht : (pc : Int) + d = (t : Int)) : x_ts pc ls (.int x :: st) h d 0 (n : Int) offs = go t ls st h := by
  unfold x_ts
  dsimp only
  rw [if_pos (ts_out hn hx), jmp_of ht]
  rfl
