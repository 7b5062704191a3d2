/-! from the invariant to the numbers -/
section MKS
variable {n : Nat} {C Z : Nat → Nat} {I : Nat → Nat → Int32} {R : Nat → Nat → Nat} {j q s : Nat}
theorem MOK.cm (h : MOK n C Z I R j q s) : CM C Z I R q s (I q 2) (fun i => (I (q + 1) i).toInt) (fun i => (I (q + 2) i).toInt) (fun i => (I (q + 3) i).toInt) (I (q + 4) 0).toInt := by
  obtain ⟨a1, a2, a3, a4, ⟨a5, hs3, a6, a7⟩, ⟨a8, a9⟩, r, c, ma, mbb, mcc, ⟨md, mdb⟩, za, zb⟩ := h
  have kin : inG 7 (C q) = true := by rcases a4 with ⟨b, -⟩ | ⟨b, -⟩ | ⟨b, -⟩ | ⟨b, -⟩ <;> rw [b] <;> decide
  exact ⟨⟨kin, by omega, a2, hs3, a6, rfl⟩, r, c, fun i _ => wL_i2l _, fun i _ => wL_i2l _, fun i _ => wL_i2l _, wL_i2l _⟩
theorem MOK.rm (h : MOK n C Z I R j q s) (hM : LayM C Z R) (hj : j < 12) : RM C Z I R j s (I q 2) (fun i => (I (q + 1) i).toInt) (fun i => (I (q + 2) i).toInt) (fun i => (I (q + 3) i).toInt) (I (q + 4) 0).toInt := by
  obtain ⟨a1, a2, a3, a4, ⟨a5, hs3, a6, a7⟩, ⟨a8, a9⟩, r, c, ma, mbb, mcc, ⟨md, mdb⟩, za, zb⟩ := h
  have z0 : (0 : Int32).toInt = 0 := rfl
  exact ⟨hM, hj, hs3, a7, a8.symm, fun i hi => by rw [(ma i hi).1]; exact wL_i2l _, fun i hi => by rw [(mbb i hi).1]; exact wL_i2l _, fun i hi => by rw [(mcc i hi).1]; exact wL_i2l _, by rw [md]; exact wL_i2l _, fun i k hi hk hz => by show (I (q + 1) (3 * i + k)).toInt = 0; rw [za i k hi hk hz]; exact z0, fun i hi hz => ⟨by show (I (q + 2) i).toInt = 0; rw [(zb i hi hz).1]; exact z0, by show (I (q + 3) i).toInt = 0; rw [(zb i hi hz).2]; exact z0⟩⟩
theorem MOK.bns (h : MOK n C Z I R j q s) : (∀ i, i < 9 → bn 12 (I (q + 1) i).toInt) ∧ (∀ i, i < 3 → bn 12 (I (q + 2) i).toInt) ∧ (∀ i, i < 3 → bn 12 (I (q + 3) i).toInt) ∧ bn 12 (I (q + 4) 0).toInt := by
  obtain ⟨a1, a2, a3, a4, ⟨a5, hs3, a6, a7⟩, ⟨a8, a9⟩, r, c, ma, mbb, mcc, ⟨md, mdb⟩, za, zb⟩ := h
  have b12 : ∀ (k v : Int32), bnd (mb k) v → bn 12 v.toInt := fun k v hv => by unfold bnd mb at hv; unfold bn; split at hv <;> omega
  exact ⟨fun i hi => b12 _ _ (ma i hi).2, fun i hi => b12 _ _ (mbb i hi).2, fun i hi => b12 _ _ (mcc i hi).2, b12 _ _ mdb⟩
theorem MOK.un (h : MOK n C Z I R j q s) : (I q 2).toInt = 1 ∨ (I q 2).toInt = 2 ∨ (I q 2).toInt = 4 := by
  have a8 := h.2.2.2.2.2.1
  rw [a8.1]
  rcases a8.2 with e | e | e <;> rw [e] <;> decide
end MKS
theorem RM.keep {C Z : Nat → Nat} {I I' : Nat → Nat → Int32} {R R' : Nat → Nat → Nat} {j s : Nat} {u : Int32} {A B K : Nat → Int} {d : Int} (h : RM C Z I R j s u A B K d) (hM : LayM C Z R') (hI : ∀ i, 76 ≤ i → i ≤ 81 → I' i = I i) : RM C Z I' R' j s u A B K d := by
  obtain ⟨-, h2⟩ := h
  unfold RM
  rw [hI 76 (by omega) (by omega), hI 77 (by omega) (by omega), hI 78 (by omega) (by omega), hI 79 (by omega) (by omega), hI 80 (by omega) (by omega), hI 81 (by omega) (by omega)]
  exact ⟨hM, h2⟩
theorem LayM.look {C Z : Nat → Nat} {R : Nat → Nat → Nat} (h : LayM C Z R) (p q : Nat) (hp : p ≤ 73) : LayM C Z (u2 R p 0 q) := by
  unfold LayM at *
  have e : ∀ k, u2 R p 0 q 74 k = R 74 k := fun k => by rw [u2_ne _ _ _ (by omega)]
  simp only [e]
  exact h
theorem c_at8 {n sl : Nat} {C Z : Nat → Nat} {I : Nat → Nat → Int32} {L : Nat → Nat → Int64} {R : Nat → Nat → Nat} {q s : Nat} {u : Int32} {A B K : Nat → Int} {d : Int} (hc : CM C Z I R q s u A B K d) (hK : LayK C Z R) {k pc : Nat} {ls : Lo} {st : List Value} {Q : Option Value → Hp → Prop} (go : ∀ L', (∀ c, c < 14 ∨ 36 < c → L' c = L c) → LK L' 8 s A B K → Wp k pc ls st (n, sl, C, Z, I, L', u2 R 8 0 q) Q) : Call 17 [some (.ref 8), some (.ref q), none] (n, sl, C, Z, I, L, R) k pc ls st Q := by
  have hs := hc.1.2.2.2.1
  rcases (by omega : s = 0 ∨ s = 1 ∨ s = 2 ∨ s = 3) with rfl | rfl | rfl | rfl
  · exact c_at8_0 hc hK go
  · exact c_at8_1 hc hK go
  · exact c_at8_2 hc hK go
  · exact c_at8_3 hc hK go
theorem c_at37 {n sl : Nat} {C Z : Nat → Nat} {I : Nat → Nat → Int32} {L : Nat → Nat → Int64} {R : Nat → Nat → Nat} {q s : Nat} {u : Int32} {A B K : Nat → Int} {d : Int} (hc : CM C Z I R q s u A B K d) (hK : LayO C Z R) {k pc : Nat} {ls : Lo} {st : List Value} {Q : Option Value → Hp → Prop} (go : ∀ L', (∀ c, c < 43 ∨ 65 < c → L' c = L c) → LK L' 37 s A B K → Wp k pc ls st (n, sl, C, Z, I, L', u2 R 37 0 q) Q) : Call 17 [some (.ref 37), some (.ref q), none] (n, sl, C, Z, I, L, R) k pc ls st Q := by
  have hs := hc.1.2.2.2.1
  rcases (by omega : s = 0 ∨ s = 1 ∨ s = 2 ∨ s = 3) with rfl | rfl | rfl | rfl
  · exact c_at37_0 hc hK go
  · exact c_at37_1 hc hK go
  · exact c_at37_2 hc hK go
  · exact c_at37_3 hc hK go
/-- plainPulse of the look at cell 8 -/
theorem c_pl8 {n sl : Nat} {C Z : Nat → Nat} {I : Nat → Nat → Int32} {L : Nat → Nat → Int64} {R : Nat → Nat → Nat} {q s : Nat} {u : Int32} {A B K : Nat → Int} {d : Int} (hc : CM C Z I R q s u A B K d) (hK : LayK C Z R) (hR : R 8 0 = q) (lk : LK L 8 s A B K) {e : Nat} (he : e < 8) (k pc : Nat) (ls : Lo) (st : List Value) (Q : Option Value → Hp → Prop) : Call 23 [some (.ref 8), some (.int (nI e)), none, none, none] (n, sl, C, Z, I, L, R) k pc ls st Q ↔ Wp k pc ls (.long (wL (pl A B K e)) :: st) (n, sl, C, Z, I, L, R) Q := by
  unfold LayK at hK
  refine c_pl (p := 8) hc (by simp [hK]) hR (by simp [hK]) (by simp [hK]) (by simp [hK]) he ?_ ?_ ?_ (fun i hi => lk.1 e i he hi) k pc ls st Q
  · rcases i8 he with rfl | rfl | rfl | rfl | rfl | rfl | rfl | rfl <;> simp [hK]
  · rcases i8 he with rfl | rfl | rfl | rfl | rfl | rfl | rfl | rfl <;> simp [hK]
  · rcases i8 he with rfl | rfl | rfl | rfl | rfl | rfl | rfl | rfl <;> simp [hK]
