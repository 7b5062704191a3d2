theorem MOK.lb {n : Nat} {C Z : Nat → Nat} {I : Nat → Nat → Int32} {R : Nat → Nat → Nat} {j q : Nat} (h : MOK n C Z I R j q 3) : LB (fun i => (I (q + 1) i).toInt) (fun i => (I (q + 2) i).toInt) (fun i => (I (q + 3) i).toInt) := by
  obtain ⟨a1, a2, a3, a4, ⟨a5, hs3, a6, a7⟩, ⟨a8, a9⟩, r, c, ma, mbb, mcc, ⟨md, mdb⟩, za, zb⟩ := h
  have z0 : (0 : Int32).toInt = 0 := rfl
  have small : (I 75 j = 0 ∨ I 75 j = 1) → LB (fun i => (I (q + 1) i).toInt) (fun i => (I (q + 2) i).toInt) (fun i => (I (q + 3) i).toInt) := fun e => by
    have b3 : ∀ v : Int32, bnd (mb (I 75 j)) v → bn 3 v.toInt := fun v hv => by
      unfold bnd mb at hv
      rw [if_pos e] at hv
      unfold bn; omega
    exact Or.inl ⟨fun i hi => b3 _ (ma i hi).2, fun i hi => b3 _ (mbb i hi).2, fun i hi => b3 _ (mcc i hi).2⟩
  have big : FB 3 (I (q + 1)) (I (q + 2)) (I (q + 3)) → LB (fun i => (I (q + 1) i).toInt) (fun i => (I (q + 2) i).toInt) (fun i => (I (q + 3) i).toInt) := fun e => by
    rcases e rfl with ⟨e1, e2⟩ | ⟨e1, e2⟩ | e1
    · exact Or.inr (Or.inl ⟨by show (I (q + 1) 2).toInt = 0; rw [e1]; exact z0, by show (I (q + 1) 5).toInt = 0; rw [e2]; exact z0⟩)
    · exact Or.inr (Or.inr (Or.inl ⟨by show (I (q + 1) 1).toInt = 0; rw [e1]; exact z0, by show (I (q + 1) 2).toInt = 0; rw [e2]; exact z0⟩))
    · exact Or.inr (Or.inr (Or.inr e1))
  rcases a4 with ⟨-, e⟩ | ⟨-, e⟩ | ⟨-, -, e⟩ | ⟨-, -, e⟩
  · exact small (Or.inl e)
  · exact small (Or.inr e)
  · exact big e
  · exact big e
set_option maxRecDepth 100000 in
set_option maxHeartbeats 8000000 in
theorem c_reached {n sl : Nat} {C Z : Nat → Nat} {I : Nat → Nat → Int32} {L : Nat → Nat → Int64} {R : Nat → Nat → Nat} {q s : Nat} {u : Int32} {A B K : Nat → Int} {d : Int} (hc : CM C Z I R q s u A B K d) (hK : LayK C Z R) (hR : R 8 0 = q) (lk : LK L 8 s A B K) (hA : ∀ i, i < 9 → bn 12 (A i)) (hB : ∀ i, i < 3 → bn 12 (B i)) {k pc : Nat} {ls : Lo} {st : List Value} {Q : Option Value → Hp → Prop} (go : ∀ r, r ≤ 3 → IsRk (pw A B) 3 r → Wp k pc ls (.int (nI r) :: st) (n, sl, C, Z, I, L, R) Q) : Call 28 [some (.ref 8)] (n, sl, C, Z, I, L, R) k pc ls st Q := by
  unfold LayK at hK
  have bX := bn_pw3 hA hB
  simp [S28_0, Call_in (k2 := 28), BS, hK]
  refine c_rank (T := 14) (zt := 8) (m := 3) (P := fun i => 15 + i) (X := pw A B) ⟨by simp [hK], by simp [hK], by omega, by omega, fun i hi => ?_, fun i c hi hc => bn_le (bX i c hi hc) (by decide), fun i j k hi hj hk => bn_le (bn_dt3 (fun c hc => bX i c hi hc) (fun c hc => bX j c hj hc) (fun c hc => bX k c hk hc)) (by decide)⟩ (fun r h1 h2 => ?_)
  · refine ⟨?_, ?_, ?_, lk.1 i 0 (by omega) (by omega), lk.1 i 1 (by omega) (by omega), lk.1 i 2 (by omega) (by omega)⟩
    all_goals rcases i3 hi with rfl | rfl | rfl <;> simp [hK]
  · simp [S28_0, BS]
    exact go r h1 h2
set_option maxRecDepth 100000 in
set_option maxHeartbeats 8000000 in
theorem c_seen {n sl : Nat} {C Z : Nat → Nat} {I : Nat → Nat → Int32} {L : Nat → Nat → Int64} {R : Nat → Nat → Nat} {q s : Nat} {u : Int32} {A B K : Nat → Int} {d : Int} (hc : CM C Z I R q s u A B K d) (hK : LayK C Z R) (hR : R 8 0 = q) (lk : LK L 8 s A B K) (hA : ∀ i, i < 9 → bn 12 (A i)) (hB : ∀ i, i < 3 → bn 12 (K i)) {k pc : Nat} {ls : Lo} {st : List Value} {Q : Option Value → Hp → Prop} (go : ∀ r, r ≤ 3 → IsRk (pr A K) 3 r → Wp k pc ls (.int (nI r) :: st) (n, sl, C, Z, I, L, R) Q) : Call 29 [some (.ref 8)] (n, sl, C, Z, I, L, R) k pc ls st Q := by
  unfold LayK at hK
  have bX := bn_pr3 hA hB
  simp [S29_0, Call_in (k2 := 29), BS, hK]
  refine c_rank (T := 23) (zt := 3) (m := 3) (P := fun i => 24 + i) (X := pr A K) ⟨by simp [hK], by simp [hK], by omega, by omega, fun i hi => ?_, fun i c hi hc => bn_le (bX i c hi hc) (by decide), fun i j k hi hj hk => bn_le (bn_dt3 (fun c hc => bX i c hi hc) (fun c hc => bX j c hj hc) (fun c hc => bX k c hk hc)) (by decide)⟩ (fun r h1 h2 => ?_)
  · refine ⟨?_, ?_, ?_, lk.2.1 i 0 hi (by omega), lk.2.1 i 1 hi (by omega), lk.2.1 i 2 hi (by omega)⟩
    all_goals rcases i3 hi with rfl | rfl | rfl <;> simp [hK]
  · simp [S29_0, BS]
    exact go r h1 h2
set_option maxRecDepth 100000 in
set_option maxHeartbeats 8000000 in
theorem c_least {n sl : Nat} {C Z : Nat → Nat} {I : Nat → Nat → Int32} {L : Nat → Nat → Int64} {R : Nat → Nat → Nat} {q s : Nat} {u : Int32} {A B K : Nat → Int} {d : Int} (hc : CM C Z I R q s u A B K d) (hK : LayK C Z R) (hR : R 8 0 = q) (lk : LK L 8 s A B K) (hA : ∀ i, i < 9 → bn 12 (A i)) (hB : ∀ i, i < 3 → bn 12 (B i)) (hC : ∀ i, i < 3 → bn 12 (K i)) {k pc : Nat} {ls : Lo} {st : List Value} {Q : Option Value → Hp → Prop} (go : ∀ r, r ≤ 3 → IsRk (hk A B K) 3 r → ∀ L', (∀ c, c < 29 ∨ 31 < c → L' c = L c) → Wp k pc ls (.int (nI r) :: st) (n, sl, C, Z, I, L', R) Q) : Call 30 [some (.ref 8), none, none] (n, sl, C, Z, I, L, R) k pc ls st Q := by
  have hK' := hK
  unfold LayK at hK
  have n1 : nI 1 = 1 := rfl
  have n2 : nI 2 = 2 := rfl
  have n3 : nI 3 = 3 := rfl
  have n4 : nI 4 = 4 := rfl
  have pl0 : ∀ (e : Nat) (he : e < 8) (L' : Nat → Nat → Int64) (k pc : Nat) (ls : Lo) (st : List Value) (Q : Option Value → Hp → Prop), (∀ c, 8 ≤ c → c ≤ 27 → L' c = L c) → Wp k pc ls (.long (wL (pl A B K e)) :: st) (n, sl, C, Z, I, L', R) Q → Call 23 [some (.ref 8), some (.int (nI e)), none, none, none] (n, sl, C, Z, I, L', R) k pc ls st Q := fun e he L' k pc ls st Q hL hw => (c_pl8 hc hK' hR (lk.keep (fun c h1 h2 => hL c h1 (by omega))) he k pc ls st Q).mpr hw
  have p0 := pl0 0 (by omega)
  have p1 := pl0 1 (by omega)
  have p2 := pl0 2 (by omega)
  have p3 := pl0 3 (by omega)
  have p4 := pl0 4 (by omega)
  rw [nI_0] at p0
  rw [n1] at p1
  rw [n2] at p2
  rw [n3] at p3
  rw [n4] at p4
  simp [S30_0, S30_1, Call_in (k2 := 30), BS, ixs, inbs, hK]
  refine p0 _ _ _ _ _ _ (fun c h1 h2 => by first | rfl | (repeat (first | rw [u2_ne _ _ _ (by omega)]))) ?_
  simp [S30_0, S30_1, BS, ixs, inbs, hK]
  refine p1 _ _ _ _ _ _ (fun c h1 h2 => by first | rfl | (repeat (first | rw [u2_ne _ _ _ (by omega)]))) ?_
  simp [S30_0, S30_1, BS, ixs, inbs, hK]
  refine p2 _ _ _ _ _ _ (fun c h1 h2 => by first | rfl | (repeat (first | rw [u2_ne _ _ _ (by omega)]))) ?_
  simp [S30_0, S30_1, BS, ixs, inbs, hK]
  refine p1 _ _ _ _ _ _ (fun c h1 h2 => by first | rfl | (repeat (first | rw [u2_ne _ _ _ (by omega)]))) ?_
  simp [S30_0, S30_1, BS, ixs, inbs, hK]
  refine p2 _ _ _ _ _ _ (fun c h1 h2 => by first | rfl | (repeat (first | rw [u2_ne _ _ _ (by omega)]))) ?_
  simp [S30_0, S30_1, BS, ixs, inbs, hK]
  refine p3 _ _ _ _ _ _ (fun c h1 h2 => by first | rfl | (repeat (first | rw [u2_ne _ _ _ (by omega)]))) ?_
  simp [S30_0, S30_1, BS, ixs, inbs, hK]
  refine p2 _ _ _ _ _ _ (fun c h1 h2 => by first | rfl | (repeat (first | rw [u2_ne _ _ _ (by omega)]))) ?_
  simp [S30_0, S30_1, BS, ixs, inbs, hK]
  refine p3 _ _ _ _ _ _ (fun c h1 h2 => by first | rfl | (repeat (first | rw [u2_ne _ _ _ (by omega)]))) ?_
  simp [S30_0, S30_1, BS, ixs, inbs, hK]
  refine p4 _ _ _ _ _ _ (fun c h1 h2 => by first | rfl | (repeat (first | rw [u2_ne _ _ _ (by omega)]))) ?_
  simp [S30_0, S30_1, BS, ixs, inbs, hK]
  have dd := det_hk hA hB hC
  refine c_rank (T := 28) (zt := 4) (m := 3) (P := fun i => 29 + i) (X := hk A B K) ⟨by simp [hK], by simp [hK], by omega, by omega, fun i hi => ?_, fun i c hi hc => ?_, fun i j l hi hj hl => ?_⟩ (fun r h1 h2 => ?_)
  · rcases i3 hi with rfl | rfl | rfl <;> simp [hK, u2_rd, hk]
  · exact bn_le (bn_pl hA hB hC (i + c)) (by
      have : i + c ≤ 4 := by omega
      have : 36 ^ (i + c) ≤ 36 ^ 4 := Nat.pow_le_pow_right (by omega) this
      omega)
  · unfold bn at *
    rcases dt3_abs (fun i c => hk A B K i c) hi hj hl with h | h
    · have h' : dt3 (hk A B K i) (hk A B K j) (hk A B K l) = 0 := h
      rw [h']; decide
    · have h' : (dt3 (hk A B K i) (hk A B K j) (hk A B K l)).natAbs = (dt3 (hk A B K 0) (hk A B K 1) (hk A B K 2)).natAbs := h
      rw [h']; exact dd
  · simp [S30_0, S30_1, BS]
    exact go r h1 h2 _ (fun c hc => by repeat (first | rw [u2_ne _ _ _ (by omega)]))
