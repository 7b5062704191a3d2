set_option maxHeartbeats 8000000 in
set_option maxRecDepth 100000 in
/-- new SteerBenchModel() behind the bench -/
theorem c_modelInit {sl : Nat} {C Z : Nat → Nat} {I : Nat → Nat → Int32} {L : Nat → Nat → Int64} {R : Nat → Nat → Nat} : Wp 102 0 [some (.ref 74), none] [] (nwO (73, sl, C, Z, I, L, R) 10) (fun r h => r = none ∧ h.1 = 98 ∧ h.2.1 ≤ sl + 900 ∧ LayM h.2.2.1 h.2.2.2.1 h.2.2.2.2.2.2 ∧ (∀ s, s < 4 → h.2.2.2.2.1 87 s = -1) ∧ (h.2.2.2.2.1 74 0 = 0 ∧ h.2.2.2.2.1 74 13 = 0 ∧ h.2.2.2.2.1 74 20 = 0) ∧ ∀ i, i ≤ 73 → h.2.2.1 i = C i ∧ h.2.2.2.1 i = Z i ∧ h.2.2.2.2.1 i = I i ∧ h.2.2.2.2.2.1 i = L i ∧ h.2.2.2.2.2.2 i = R i) := by
  have e : nfs 10 = 30 := by decide +kernel
  have x1 : ix 108 = 108 ∧ ix 36 = 36 ∧ ix 160 = 160 ∧ ix 40 = 40 ∧ ix 12 = 12 ∧ ix 9 = 9 := by decide +kernel
  unfold nwO
  rw [e]
  simp [S102_0, S102_1, S102_2, S102_3, S102_4, Call_in, BS, ixs, inbs, inGs, va_up, u2, nwG, LayM, x1]
  refine ⟨fun s hs => ?_, fun i hi => ?_⟩
  · rcases i4 hs with rfl | rfl | rfl | rfl <;> simp
  · have : ∀ c, 74 ≤ c → ¬ i = c := fun c hc => by omega
    simp [this]
