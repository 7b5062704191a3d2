section GO2
variable {k pc len : Nat} {ls : Lo} {st : List Value} {h : Hp} {pc' : Nat} {ls' : Lo} {st' : List Value} {h' : Hp}
theorem g_iadd (hd : decode (byt k) pc = .ok (.iadd, len)) (hs : exec k pc ls st h len .iadd = some (.inl (pc', ls', st', h'))) : GS k pc ls st h pc' ls' st' h' := by
  obtain rfl := (o1_inv hs).1
  replace hs := (o1_inv hs).2
  obtain ⟨x, y, r, rfl, hz, rfl, rfl, rfl, rfl⟩ := ii_inv hs
  exact GS_h fun D dA base p l e R s m args below meth c Q cells slots X H locs lsC hH hL _ _ kk => lv_iadd X.1 X.2.1 hd kk
theorem g_isub (hd : decode (byt k) pc = .ok (.isub, len)) (hs : exec k pc ls st h len .isub = some (.inl (pc', ls', st', h'))) : GS k pc ls st h pc' ls' st' h' := by
  obtain rfl := (o1_inv hs).1
  replace hs := (o1_inv hs).2
  obtain ⟨x, y, r, rfl, hz, rfl, rfl, rfl, rfl⟩ := ii_inv hs
  exact GS_h fun D dA base p l e R s m args below meth c Q cells slots X H locs lsC hH hL _ _ kk => lv_isub X.1 X.2.1 hd kk
theorem g_imul (hd : decode (byt k) pc = .ok (.imul, len)) (hs : exec k pc ls st h len .imul = some (.inl (pc', ls', st', h'))) : GS k pc ls st h pc' ls' st' h' := by
  obtain rfl := (o1_inv hs).1
  replace hs := (o1_inv hs).2
  obtain ⟨x, y, r, rfl, hz, rfl, rfl, rfl, rfl⟩ := ii_inv hs
  exact GS_h fun D dA base p l e R s m args below meth c Q cells slots X H locs lsC hH hL _ _ kk => lv_imul X.1 X.2.1 hd kk
theorem g_iand (hd : decode (byt k) pc = .ok (.iand, len)) (hs : exec k pc ls st h len .iand = some (.inl (pc', ls', st', h'))) : GS k pc ls st h pc' ls' st' h' := by
  obtain rfl := (o1_inv hs).1
  replace hs := (o1_inv hs).2
  obtain ⟨x, y, r, rfl, hz, rfl, rfl, rfl, rfl⟩ := ii_inv hs
  exact GS_h fun D dA base p l e R s m args below meth c Q cells slots X H locs lsC hH hL _ _ kk => lv_iand X.1 X.2.1 hd kk
theorem g_ixor (hd : decode (byt k) pc = .ok (.ixor, len)) (hs : exec k pc ls st h len .ixor = some (.inl (pc', ls', st', h'))) : GS k pc ls st h pc' ls' st' h' := by
  obtain rfl := (o1_inv hs).1
  replace hs := (o1_inv hs).2
  obtain ⟨x, y, r, rfl, hz, rfl, rfl, rfl, rfl⟩ := ii_inv hs
  exact GS_h fun D dA base p l e R s m args below meth c Q cells slots X H locs lsC hH hL _ _ kk => lv_ixor X.1 X.2.1 hd kk
theorem g_idiv (hd : decode (byt k) pc = .ok (.idiv, len)) (hs : exec k pc ls st h len .idiv = some (.inl (pc', ls', st', h'))) : GS k pc ls st h pc' ls' st' h' := by
  obtain rfl := (o1_inv hs).1
  replace hs := (o1_inv hs).2
  obtain ⟨x, y, r, rfl, hz, rfl, rfl, rfl, rfl⟩ := ii_inv hs
  exact GS_h fun D dA base p l e R s m args below meth c Q cells slots X H locs lsC hH hL _ _ kk => lv_idiv X.1 X.2.1 hd (hz rfl) kk
theorem g_irem (hd : decode (byt k) pc = .ok (.irem, len)) (hs : exec k pc ls st h len .irem = some (.inl (pc', ls', st', h'))) : GS k pc ls st h pc' ls' st' h' := by
  obtain rfl := (o1_inv hs).1
  replace hs := (o1_inv hs).2
  obtain ⟨x, y, r, rfl, hz, rfl, rfl, rfl, rfl⟩ := ii_inv hs
  exact GS_h fun D dA base p l e R s m args below meth c Q cells slots X H locs lsC hH hL _ _ kk => lv_irem X.1 X.2.1 hd (hz rfl) kk
theorem g_ishl (hd : decode (byt k) pc = .ok (.ishl, len)) (hs : exec k pc ls st h len .ishl = some (.inl (pc', ls', st', h'))) : GS k pc ls st h pc' ls' st' h' := by
  obtain rfl := (o1_inv hs).1
  replace hs := (o1_inv hs).2
  obtain ⟨x, y, r, rfl, hz, rfl, rfl, rfl, rfl⟩ := ii_inv hs
  exact GS_h fun D dA base p l e R s m args below meth c Q cells slots X H locs lsC hH hL _ _ kk => lv_ishl X.1 X.2.1 hd kk
theorem g_ishr (hd : decode (byt k) pc = .ok (.ishr, len)) (hs : exec k pc ls st h len .ishr = some (.inl (pc', ls', st', h'))) : GS k pc ls st h pc' ls' st' h' := by
  obtain rfl := (o1_inv hs).1
  replace hs := (o1_inv hs).2
  obtain ⟨x, y, r, rfl, hz, rfl, rfl, rfl, rfl⟩ := ii_inv hs
  exact GS_h fun D dA base p l e R s m args below meth c Q cells slots X H locs lsC hH hL _ _ kk => lv_ishr X.1 X.2.1 hd kk
theorem g_iushr (hd : decode (byt k) pc = .ok (.iushr, len)) (hs : exec k pc ls st h len .iushr = some (.inl (pc', ls', st', h'))) : GS k pc ls st h pc' ls' st' h' := by
  obtain rfl := (o1_inv hs).1
  replace hs := (o1_inv hs).2
  obtain ⟨x, y, r, rfl, hz, rfl, rfl, rfl, rfl⟩ := ii_inv hs
  exact GS_h fun D dA base p l e R s m args below meth c Q cells slots X H locs lsC hH hL _ _ kk => lv_iushr X.1 X.2.1 hd rfl kk
theorem g_ladd (hd : decode (byt k) pc = .ok (.ladd, len)) (hs : exec k pc ls st h len .ladd = some (.inl (pc', ls', st', h'))) : GS k pc ls st h pc' ls' st' h' := by
  obtain rfl := (o1_inv hs).1
  replace hs := (o1_inv hs).2
  obtain ⟨x, y, r, rfl, hz, rfl, rfl, rfl, rfl⟩ := ll_inv hs
  exact GS_h fun D dA base p l e R s m args below meth c Q cells slots X H locs lsC hH hL _ _ kk => lv_ladd X.1 X.2.1 hd kk
theorem g_lsub (hd : decode (byt k) pc = .ok (.lsub, len)) (hs : exec k pc ls st h len .lsub = some (.inl (pc', ls', st', h'))) : GS k pc ls st h pc' ls' st' h' := by
  obtain rfl := (o1_inv hs).1
  replace hs := (o1_inv hs).2
  obtain ⟨x, y, r, rfl, hz, rfl, rfl, rfl, rfl⟩ := ll_inv hs
  exact GS_h fun D dA base p l e R s m args below meth c Q cells slots X H locs lsC hH hL _ _ kk => lv_lsub X.1 X.2.1 hd kk
theorem g_lmul (hd : decode (byt k) pc = .ok (.lmul, len)) (hs : exec k pc ls st h len .lmul = some (.inl (pc', ls', st', h'))) : GS k pc ls st h pc' ls' st' h' := by
  obtain rfl := (o1_inv hs).1
  replace hs := (o1_inv hs).2
  obtain ⟨x, y, r, rfl, hz, rfl, rfl, rfl, rfl⟩ := ll_inv hs
  exact GS_h fun D dA base p l e R s m args below meth c Q cells slots X H locs lsC hH hL _ _ kk => lv_lmul X.1 X.2.1 hd kk
theorem g_ldiv (hd : decode (byt k) pc = .ok (.ldiv, len)) (hs : exec k pc ls st h len .ldiv = some (.inl (pc', ls', st', h'))) : GS k pc ls st h pc' ls' st' h' := by
  obtain rfl := (o1_inv hs).1
  replace hs := (o1_inv hs).2
  obtain ⟨x, y, r, rfl, hz, rfl, rfl, rfl, rfl⟩ := ll_inv hs
  exact GS_h fun D dA base p l e R s m args below meth c Q cells slots X H locs lsC hH hL _ _ kk => lv_ldiv X.1 X.2.1 hd (hz rfl) kk
theorem g_lrem (hd : decode (byt k) pc = .ok (.lrem, len)) (hs : exec k pc ls st h len .lrem = some (.inl (pc', ls', st', h'))) : GS k pc ls st h pc' ls' st' h' := by
  obtain rfl := (o1_inv hs).1
  replace hs := (o1_inv hs).2
  obtain ⟨x, y, r, rfl, hz, rfl, rfl, rfl, rfl⟩ := ll_inv hs
  exact GS_h fun D dA base p l e R s m args below meth c Q cells slots X H locs lsC hH hL _ _ kk => lv_lrem X.1 X.2.1 hd (hz rfl) kk
theorem u_inv {pc : Nat} {ls : Lo} {st : List Value} {h : Hp} {fi : Int32 → Option Value} {fl : Int64 → Option Value} {pc' : Nat} {ls' : Lo} {st' : List Value} {h' : Hp} (e : x_u pc ls st h fi fl = some (.inl (pc', ls', st', h'))) : (∃ (x : Int32) (v : Value) (r : List Value), st = .int x :: r ∧ fi x = some v ∧ pc' = pc ∧ ls' = ls ∧ st' = v :: r ∧ h' = h) ∨ ∃ (x : Int64) (v : Value) (r : List Value), st = .long x :: r ∧ fl x = some v ∧ pc' = pc ∧ ls' = ls ∧ st' = v :: r ∧ h' = h := by
  unfold x_u at e
  split at e
  · rename_i x r
    cases hf : fi x with
    | none => rw [hf] at e; cases e
    | some v =>
      rw [hf] at e
      obtain ⟨rfl, rfl, rfl, rfl⟩ := go_inv e
      exact Or.inl ⟨_, _, _, rfl, hf, rfl, rfl, rfl, rfl⟩
  · rename_i x r
    cases hf : fl x with
    | none => rw [hf] at e; cases e
    | some v =>
      rw [hf] at e
      obtain ⟨rfl, rfl, rfl, rfl⟩ := go_inv e
      exact Or.inr ⟨_, _, _, rfl, hf, rfl, rfl, rfl, rfl⟩
  · cases e
theorem g_ineg (hd : decode (byt k) pc = .ok (.ineg, len)) (hs : exec k pc ls st h len .ineg = some (.inl (pc', ls', st', h'))) : GS k pc ls st h pc' ls' st' h' := by
  obtain rfl := (o1_inv hs).1
  replace hs := (o1_inv hs).2
  rcases u_inv hs with ⟨x, v, r, rfl, hv, rfl, rfl, rfl, rfl⟩ | ⟨x, v, r, rfl, hv, rfl, rfl, rfl, rfl⟩
  all_goals first | (cases hv; done) | (cases hv; exact GS_h fun D dA base p l e R s m args below meth c Q cells slots X H locs lsC hH hL _ _ kk => lv_ineg X.1 X.2.1 hd kk)
theorem g_lneg (hd : decode (byt k) pc = .ok (.lneg, len)) (hs : exec k pc ls st h len .lneg = some (.inl (pc', ls', st', h'))) : GS k pc ls st h pc' ls' st' h' := by
  obtain rfl := (o1_inv hs).1
  replace hs := (o1_inv hs).2
  rcases u_inv hs with ⟨x, v, r, rfl, hv, rfl, rfl, rfl, rfl⟩ | ⟨x, v, r, rfl, hv, rfl, rfl, rfl, rfl⟩
  all_goals first | (cases hv; done) | (cases hv; exact GS_h fun D dA base p l e R s m args below meth c Q cells slots X H locs lsC hH hL _ _ kk => lv_lneg X.1 X.2.1 hd kk)
theorem g_i2l (hd : decode (byt k) pc = .ok (.i2l, len)) (hs : exec k pc ls st h len .i2l = some (.inl (pc', ls', st', h'))) : GS k pc ls st h pc' ls' st' h' := by
  obtain rfl := (o1_inv hs).1
  replace hs := (o1_inv hs).2
  rcases u_inv hs with ⟨x, v, r, rfl, hv, rfl, rfl, rfl, rfl⟩ | ⟨x, v, r, rfl, hv, rfl, rfl, rfl, rfl⟩
  all_goals first | (cases hv; done) | (cases hv; exact GS_h fun D dA base p l e R s m args below meth c Q cells slots X H locs lsC hH hL _ _ kk => lv_i2l X.1 X.2.1 hd rfl kk)
theorem g_i2b (hd : decode (byt k) pc = .ok (.i2b, len)) (hs : exec k pc ls st h len .i2b = some (.inl (pc', ls', st', h'))) : GS k pc ls st h pc' ls' st' h' := by
  obtain rfl := (o1_inv hs).1
  replace hs := (o1_inv hs).2
  rcases u_inv hs with ⟨x, v, r, rfl, hv, rfl, rfl, rfl, rfl⟩ | ⟨x, v, r, rfl, hv, rfl, rfl, rfl, rfl⟩
  all_goals first | (cases hv; done) | (cases hv; exact GS_h fun D dA base p l e R s m args below meth c Q cells slots X H locs lsC hH hL _ _ kk => lv_i2b X.1 X.2.1 hd rfl kk)
theorem g_l2i (hd : decode (byt k) pc = .ok (.l2i, len)) (hs : exec k pc ls st h len .l2i = some (.inl (pc', ls', st', h'))) : GS k pc ls st h pc' ls' st' h' := by
  obtain rfl := (o1_inv hs).1
  replace hs := (o1_inv hs).2
  rcases u_inv hs with ⟨x, v, r, rfl, hv, rfl, rfl, rfl, rfl⟩ | ⟨x, v, r, rfl, hv, rfl, rfl, rfl, rfl⟩
  all_goals first | (cases hv; done) | (cases hv; exact GS_h fun D dA base p l e R s m args below meth c Q cells slots X H locs lsC hH hL _ _ kk => lv_l2i X.1 X.2.1 hd rfl kk)
theorem g_lshl (hd : decode (byt k) pc = .ok (.lshl, len)) (hs : exec k pc ls st h len .lshl = some (.inl (pc', ls', st', h'))) : GS k pc ls st h pc' ls' st' h' := by
  obtain rfl := (o1_inv hs).1
  replace hs := (o1_inv hs).2
  unfold x_lsh at hs
  split at hs
  · obtain ⟨rfl, rfl, rfl, rfl⟩ := go_inv hs
    exact GS_h fun D dA base p l e R s m args below meth c Q cells slots X H locs lsC hH hL _ _ kk => lv_lshl X.1 X.2.1 hd rfl kk
  · cases hs
theorem g_lcmp (hd : decode (byt k) pc = .ok (.lcmp, len)) (hs : exec k pc ls st h len .lcmp = some (.inl (pc', ls', st', h'))) : GS k pc ls st h pc' ls' st' h' := by
  obtain rfl := (o1_inv hs).1
  replace hs := (o1_inv hs).2
  unfold x_cmp at hs
  split at hs
  · obtain ⟨rfl, rfl, rfl, rfl⟩ := go_inv hs
    exact GS_h fun D dA base p l e R s m args below meth c Q cells slots X H locs lsC hH hL _ _ kk => W.lcmp X.1 X.2.1 hd kk
  · cases hs
theorem cat_r (base i : Nat) : (cvr base i).category = 1 := by cases i <;> rfl
theorem g_dup (hd : decode (byt k) pc = .ok (.dup, len)) (hs : exec k pc ls st h len .dup = some (.inl (pc', ls', st', h'))) : GS k pc ls st h pc' ls' st' h' := by
  obtain rfl := (o1_inv hs).1
  replace hs := (o1_inv hs).2
  unfold x_dup at hs
  split at hs
  · obtain ⟨rfl, rfl, rfl, rfl⟩ := go_inv hs
    exact GS_h fun D dA base p l e R s m args below meth c Q cells slots X H locs lsC hH hL _ _ kk => lv_dup X.1 X.2.1 hd rfl kk
  · obtain ⟨rfl, rfl, rfl, rfl⟩ := go_inv hs
    exact GS_h fun D dA base p l e R s m args below meth c Q cells slots X H locs lsC hH hL _ _ kk => lv_dup X.1 X.2.1 hd (cat_r _ _) kk
  · cases hs
theorem g_dup2 (hd : decode (byt k) pc = .ok (.dup2, len)) (hs : exec k pc ls st h len .dup2 = some (.inl (pc', ls', st', h'))) : GS k pc ls st h pc' ls' st' h' := by
  obtain rfl := (o1_inv hs).1
  replace hs := (o1_inv hs).2
  unfold x_dup2 at hs
  split at hs
  · obtain ⟨rfl, rfl, rfl, rfl⟩ := go_inv hs
    exact GS_h fun D dA base p l e R s m args below meth c Q cells slots X H locs lsC hH hL _ _ kk => lv_dup2_11 X.1 X.2.1 hd rfl (cat_r _ _) kk
  · obtain ⟨rfl, rfl, rfl, rfl⟩ := go_inv hs
    exact GS_h fun D dA base p l e R s m args below meth c Q cells slots X H locs lsC hH hL _ _ kk => lv_dup2_2 X.1 X.2.1 hd rfl kk
  · cases hs
theorem g_pop (hd : decode (byt k) pc = .ok (.pop, len)) (hs : exec k pc ls st h len .pop = some (.inl (pc', ls', st', h'))) : GS k pc ls st h pc' ls' st' h' := by
  obtain rfl := (o1_inv hs).1
  replace hs := (o1_inv hs).2
  unfold x_pop at hs
  split at hs
  · obtain ⟨rfl, rfl, rfl, rfl⟩ := go_inv hs
    exact GS_h fun D dA base p l e R s m args below meth c Q cells slots X H locs lsC hH hL _ _ kk => lv_pop X.1 X.2.1 hd rfl kk
  · obtain ⟨rfl, rfl, rfl, rfl⟩ := go_inv hs
    exact GS_h fun D dA base p l e R s m args below meth c Q cells slots X H locs lsC hH hL _ _ kk => lv_pop X.1 X.2.1 hd (cat_r _ _) kk
  · cases hs
theorem g_dup_x1 (hd : decode (byt k) pc = .ok (.dup_x1, len)) (hs : exec k pc ls st h len .dup_x1 = some (.inl (pc', ls', st', h'))) : GS k pc ls st h pc' ls' st' h' := by
  obtain rfl := (o1_inv hs).1
  replace hs := (o1_inv hs).2
  unfold x_dx1 at hs
  split at hs
  · split at hs
    · rename_i hc
      obtain ⟨rfl, rfl, rfl, rfl⟩ := go_inv hs
      exact GS_h fun D dA base p l e R s m args below meth c Q cells slots X H locs lsC hH hL _ _ kk => lv_dup_x1 X.1 X.2.1 hd ((cat_cv _ _).trans hc.1) ((cat_cv _ _).trans hc.2) kk
    · cases hs
  · cases hs
theorem g_goto {off : Int} (hd : decode (byt k) pc = .ok (.goto off, len)) (hs : exec k pc ls st h len (.goto off) = some (.inl (pc', ls', st', h'))) : GS k pc ls st h pc' ls' st' h' := by
  obtain rfl := (o1_inv hs).1
  replace hs := (o1_inv hs).2
  obtain ⟨t, ht, rfl, rfl, rfl, rfl⟩ := jmp_inv hs
  exact GS_h fun D dA base p l e R s m args below meth c Q cells slots X H locs lsC hH hL _ _ kk => lv_goto X.1 X.2.1 hd ht kk
theorem g_ifCond {cc : ClassFile.Cond} {off : Int} (hd : decode (byt k) pc = .ok (.ifCond cc off, len)) (hs : exec k pc ls st h len (.ifCond cc off) = some (.inl (pc', ls', st', h'))) : GS k pc ls st h pc' ls' st' h' := by
  obtain rfl := (o1_inv hs).1
  replace hs := (o1_inv hs).2
  unfold x_if at hs
  split at hs
  · obtain ⟨t, ht, rfl, rfl, rfl, rfl⟩ := jmp_inv hs
    cases cc
    · exact GS_h fun D dA base p l e R s m args below meth c Q cells slots X H locs lsC hH hL _ _ kk => lv_if_eq X.1 X.2.1 hd ht (fun q => by rw [if_pos (by simpa [cmpI] using q)] at kk; exact kk) (fun q => by rw [if_neg (by simpa [cmpI] using q)] at kk; exact kk)
    · exact GS_h fun D dA base p l e R s m args below meth c Q cells slots X H locs lsC hH hL _ _ kk => lv_if_ne X.1 X.2.1 hd ht (fun q => by rw [if_pos (by simpa [cmpI] using q)] at kk; exact kk) (fun q => by rw [if_neg (by simpa [cmpI] using q)] at kk; exact kk)
    · exact GS_h fun D dA base p l e R s m args below meth c Q cells slots X H locs lsC hH hL _ _ kk => lv_if_lt X.1 X.2.1 hd ht (fun q => by rw [if_pos (by simpa [cmpI] using q)] at kk; exact kk) (fun q => by rw [if_neg (by simpa [cmpI] using q)] at kk; exact kk)
    · exact GS_h fun D dA base p l e R s m args below meth c Q cells slots X H locs lsC hH hL _ _ kk => lv_if_ge X.1 X.2.1 hd ht (fun q => by rw [if_pos (by simpa [cmpI] using q)] at kk; exact kk) (fun q => by rw [if_neg (by simpa [cmpI] using q)] at kk; exact kk)
    · exact GS_h fun D dA base p l e R s m args below meth c Q cells slots X H locs lsC hH hL _ _ kk => lv_if_gt X.1 X.2.1 hd ht (fun q => by rw [if_pos (by simpa [cmpI] using q)] at kk; exact kk) (fun q => by rw [if_neg (by simpa [cmpI] using q)] at kk; exact kk)
    · exact GS_h fun D dA base p l e R s m args below meth c Q cells slots X H locs lsC hH hL _ _ kk => lv_if_le X.1 X.2.1 hd ht (fun q => by rw [if_pos (by simpa [cmpI] using q)] at kk; exact kk) (fun q => by rw [if_neg (by simpa [cmpI] using q)] at kk; exact kk)
  · cases hs
theorem g_if_icmp {cc : ClassFile.Cond} {off : Int} (hd : decode (byt k) pc = .ok (.if_icmp cc off, len)) (hs : exec k pc ls st h len (.if_icmp cc off) = some (.inl (pc', ls', st', h'))) : GS k pc ls st h pc' ls' st' h' := by
  obtain rfl := (o1_inv hs).1
  replace hs := (o1_inv hs).2
  unfold x_ic at hs
  split at hs
  · obtain ⟨t, ht, rfl, rfl, rfl, rfl⟩ := jmp_inv hs
    cases cc
    · exact GS_h fun D dA base p l e R s m args below meth c Q cells slots X H locs lsC hH hL _ _ kk => lv_icmp_eq X.1 X.2.1 hd ht (fun q => by rw [if_pos (by simpa [cmpI] using q)] at kk; exact kk) (fun q => by rw [if_neg (by simpa [cmpI] using q)] at kk; exact kk)
    · exact GS_h fun D dA base p l e R s m args below meth c Q cells slots X H locs lsC hH hL _ _ kk => lv_icmp_ne X.1 X.2.1 hd ht (fun q => by rw [if_pos (by simpa [cmpI] using q)] at kk; exact kk) (fun q => by rw [if_neg (by simpa [cmpI] using q)] at kk; exact kk)
    · exact GS_h fun D dA base p l e R s m args below meth c Q cells slots X H locs lsC hH hL _ _ kk => lv_icmp_lt X.1 X.2.1 hd ht (fun q => by rw [if_pos (by simpa [cmpI] using q)] at kk; exact kk) (fun q => by rw [if_neg (by simpa [cmpI] using q)] at kk; exact kk)
    · exact GS_h fun D dA base p l e R s m args below meth c Q cells slots X H locs lsC hH hL _ _ kk => lv_icmp_ge X.1 X.2.1 hd ht (fun q => by rw [if_pos (by simpa [cmpI] using q)] at kk; exact kk) (fun q => by rw [if_neg (by simpa [cmpI] using q)] at kk; exact kk)
    · exact GS_h fun D dA base p l e R s m args below meth c Q cells slots X H locs lsC hH hL _ _ kk => lv_icmp_gt X.1 X.2.1 hd ht (fun q => by rw [if_pos (by simpa [cmpI] using q)] at kk; exact kk) (fun q => by rw [if_neg (by simpa [cmpI] using q)] at kk; exact kk)
    · exact GS_h fun D dA base p l e R s m args below meth c Q cells slots X H locs lsC hH hL _ _ kk => lv_icmp_le X.1 X.2.1 hd ht (fun q => by rw [if_pos (by simpa [cmpI] using q)] at kk; exact kk) (fun q => by rw [if_neg (by simpa [cmpI] using q)] at kk; exact kk)
  · cases hs
theorem g_ifnull {off : Int} (hd : decode (byt k) pc = .ok (.ifnull off, len)) (hs : exec k pc ls st h len (.ifnull off) = some (.inl (pc', ls', st', h'))) : GS k pc ls st h pc' ls' st' h' := by
  obtain rfl := (o1_inv hs).1
  replace hs := (o1_inv hs).2
  unfold x_nu at hs
  split at hs
  · rename_i i r
    obtain ⟨t, ht, rfl, rfl, rfl, rfl⟩ := jmp_inv hs
    cases i with
    | zero => exact GS_h fun D dA base p l e R s m args below meth c Q cells slots X H locs lsC hH hL _ _ kk => lv_ifnullN X.1 X.2.1 hd ht (by simpa using kk)
    | succ i => exact GS_h fun D dA base p l e R s m args below meth c Q cells slots X H locs lsC hH hL _ _ kk => lv_ifnull X.1 X.2.1 hd (by simpa using kk)
  · cases hs
theorem g_ifnonnull {off : Int} (hd : decode (byt k) pc = .ok (.ifnonnull off, len)) (hs : exec k pc ls st h len (.ifnonnull off) = some (.inl (pc', ls', st', h'))) : GS k pc ls st h pc' ls' st' h' := by
  obtain rfl := (o1_inv hs).1
  replace hs := (o1_inv hs).2
  unfold x_nu at hs
  split at hs
  · rename_i i r
    obtain ⟨t, ht, rfl, rfl, rfl, rfl⟩ := jmp_inv hs
    cases i with
    | zero => exact GS_h fun D dA base p l e R s m args below meth c Q cells slots X H locs lsC hH hL _ _ kk => lv_ifnonnullN X.1 X.2.1 hd (by simpa using kk)
    | succ i => exact GS_h fun D dA base p l e R s m args below meth c Q cells slots X H locs lsC hH hL _ _ kk => lv_ifnonnull X.1 X.2.1 hd ht (by simpa using kk)
  · cases hs
theorem g_ts {d lo hi : Int} {offs : Array Int} (hd : decode (byt k) pc = .ok (.tableswitch d lo hi offs, len)) (hs : exec k pc ls st h len (.tableswitch d lo hi offs) = some (.inl (pc', ls', st', h'))) : GS k pc ls st h pc' ls' st' h' := by
  replace hs : x_ts pc ls st h d lo hi offs = some (.inl (pc', ls', st', h')) := hs
  unfold x_ts at hs
  split at hs
  · split at hs
    · rename_i hx
      obtain ⟨t, ht, rfl, rfl, rfl, rfl⟩ := jmp_inv hs
      exact GS_h fun D dA base p l e R s m args below meth c Q cells slots X H locs lsC hH hL _ _ kk => lv_tableOut X.1 X.2.1 hd hx ht kk
    · rename_i hx
      split at hs
      · rename_i o ho
        obtain ⟨t, ht, rfl, rfl, rfl, rfl⟩ := jmp_inv hs
        exact GS_h fun D dA base p l e R s m args below meth c Q cells slots X H locs lsC hH hL _ _ kk => lv_tableIn X.1 X.2.1 hd (fun q => hx (Or.inl q)) (fun q => hx (Or.inr q)) ho ht kk
      · cases hs
  · cases hs
end GO2
