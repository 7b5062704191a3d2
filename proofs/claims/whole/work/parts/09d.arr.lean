/-! steps that read, write, make arrays; new objects; instanceof; Object.<init>, arraycopy, Math -/
theorem inb_iff {y : Int32} {n : Nat} (h : inb y n = true) : vp_in y n ∧ ¬ y < 0 ∧ y.toNatClampNeg < n := by
  unfold inb ix at h
  obtain ⟨h1, h2⟩ := (Bool.and_eq_true _ _).mp h
  replace h1 := of_decide_eq_true h1
  replace h2 := of_decide_eq_true h2
  exact ⟨fun q => q.elim h1 (fun q => by omega), h1, h2⟩
theorem tys_at {D : va_G} {dA : Nat → ClassId} {s : State} (h : Stt D dA s) (t : Nat) {q : ClassId × FieldType} (ht : (tysL dA)[t]? = some q) : ArrOfT s q.1 q.2 ∧ va_RA s q.1 q.2 := h.1.2 t q ht
theorem ref_ty (dA : Nat → ClassId) {t : Nat} (ht : t < 3) : ∃ ty : FieldType, (tysL dA)[2 + t]? = some (dA (2 + t), ty) ∧ ty.isReference = true := by
  match t, ht with
  | 0, _ => exact ⟨_, rfl, rfl⟩
  | 1, _ => exact ⟨_, rfl, rfl⟩
  | 2, _ => exact ⟨_, rfl, rfl⟩
section GO4
variable {k pc len : Nat} {ls : Lo} {st : List Value} {h : Hp} {pc' : Nat} {ls' : Lo} {st' : List Value} {h' : Hp}
theorem g_iaload (hd : decode (byt k) pc = .ok (.iaload, len)) (hs : exec k pc ls st h len .iaload = some (.inl (pc', ls', st', h'))) : GS k pc ls st h pc' ls' st' h' := by
  obtain rfl := (o1_inv hs).1
  replace hs := (o1_inv hs).2
  unfold x_ald at hs
  split at hs
  case h_2 => cases hs
  case h_1 y i r =>
    split at hs
    case isFalse => cases hs
    case isTrue hin =>
      rw [if_pos rfl] at hs
      split at hs
      case isFalse => cases hs
      case isTrue hC =>
        obtain ⟨rfl, rfl, rfl, rfl⟩ := go_inv hs
        refine GS_h fun D dA base p l e R s m args below meth c Q cells slots X H locs lsC hH hL _ _ kk => ?_
        obtain ⟨hx, hb, -, -, hown, hts, -, -, hst, -⟩ := X
        obtain ⟨j, rfl⟩ := hH.pos (i := i) (by omega)
        have hc := (hH.2.2.2 j).2.1 hC
        obtain ⟨h1, h2, h3⟩ := inb_iff hin
        exact W.iald hx hb hc ((tys_at hst 0 rfl).1 _ _) (fun q => by cases q) (by rw [arrV_size]; exact h1) (arrV_read _ _ h3) rfl rfl hd kk
theorem g_laload (hd : decode (byt k) pc = .ok (.laload, len)) (hs : exec k pc ls st h len .laload = some (.inl (pc', ls', st', h'))) : GS k pc ls st h pc' ls' st' h' := by
  obtain rfl := (o1_inv hs).1
  replace hs := (o1_inv hs).2
  unfold x_ald at hs
  split at hs
  case h_2 => cases hs
  case h_1 y i r =>
    split at hs
    case isFalse => cases hs
    case isTrue hin =>
      rw [if_neg (by decide), if_pos rfl] at hs
      split at hs
      case isFalse => cases hs
      case isTrue hC =>
        obtain ⟨rfl, rfl, rfl, rfl⟩ := go_inv hs
        refine GS_h fun D dA base p l e R s m args below meth c Q cells slots X H locs lsC hH hL _ _ kk => ?_
        obtain ⟨hx, hb, -, -, hown, hts, -, -, hst, -⟩ := X
        obtain ⟨j, rfl⟩ := hH.pos (i := i) (by omega)
        have hc := (hH.2.2.2 j).2.2.1 hC
        obtain ⟨h1, h2, h3⟩ := inb_iff hin
        exact W.lald hx hb hc ((tys_at hst 1 rfl).1 _ _) (fun q => by cases q) (by rw [arrV_size]; exact h1) (arrV_read _ _ h3) rfl rfl hd kk
theorem g_aaload (hd : decode (byt k) pc = .ok (.aaload, len)) (hs : exec k pc ls st h len .aaload = some (.inl (pc', ls', st', h'))) : GS k pc ls st h pc' ls' st' h' := by
  obtain rfl := (o1_inv hs).1
  replace hs := (o1_inv hs).2
  unfold x_ald at hs
  split at hs
  case h_2 => cases hs
  case h_1 y i r =>
    split at hs
    case isFalse => cases hs
    case isTrue hin =>
      rw [if_neg (by decide), if_neg (by decide)] at hs
      split at hs
      case isFalse => cases hs
      case isTrue hC =>
        obtain ⟨rfl, rfl, rfl, rfl⟩ := go_inv hs
        obtain ⟨t, ht, hC⟩ : ∃ t, t < 3 ∧ h'.2.2.1 i = 23 + t := by
          rcases hC with q | q | q
          · exact ⟨0, by omega, q⟩
          · exact ⟨1, by omega, q⟩
          · exact ⟨2, by omega, q⟩
        refine GS_h fun D dA base p l e R s m args below meth c Q cells slots X H locs lsC hH hL _ _ kk => ?_
        obtain ⟨hx, hb, -, -, hown, hts, -, -, hst, -⟩ := X
        obtain ⟨j, rfl⟩ := hH.pos (i := i) (by omega)
        have hc := (hH.2.2.2 j).2.2.2 t ht hC
        obtain ⟨h1, h2, h3⟩ := inb_iff hin
        obtain ⟨ty, hty, hrf⟩ := ref_ty dA ht
        exact W.aald hx hb hc ((tys_at hst (2 + t) hty).1 _ _) hrf (fun q => by cases q) (by rw [arrV_size]; exact h1) (arrV_read _ _ h3) rfl rfl hd kk
theorem upd_arr {α : Type} (f : Nat → Nat → α) (mk : α → Value) (i j : Nat) (x : α) : updV (fun q => mk (f i q)) j (mk x) = fun q => mk (u2 f i j x i q) := by
  funext q
  by_cases hq : q = j <;> simp [updV, u2_at, hq]
theorem g_iastore (hd : decode (byt k) pc = .ok (.iastore, len)) (hs : exec k pc ls st h len .iastore = some (.inl (pc', ls', st', h'))) : GS k pc ls st h pc' ls' st' h' := by
  obtain rfl := (o1_inv hs).1
  replace hs := (o1_inv hs).2
  unfold x_ast at hs
  split at hs
  case h_4 => cases hs
  case h_2 => simp at hs
  case h_3 => simp at hs
  case h_1 x y i r =>
    split at hs
    case isFalse => cases hs
    case isTrue hin =>
      obtain ⟨-, hin, hC⟩ := hin
      obtain ⟨rfl, rfl, rfl, rfl⟩ := go_inv hs
      cases i with
      | zero => exact ⟨⟨Nat.le_refl _, Nat.le_refl _, rfl⟩, fun D dA base n0 sl0 p l e R s m args below meth c Q X hc hs hV hn hsl hll H locs lsC hH hS hL => absurd hH.2.1 (by have e0 : h.2.2.1 0 = 21 := hC; omega)⟩
      | succ j =>
        replace hC : h.2.2.1 (j + 1) = 21 := hC
        replace hin : inb y (h.2.2.2.1 (j + 1)) = true := hin
        refine GS_w (i := j) rfl rfl rfl rfl (fun j' hj => u2_ne _ _ _ hj) (fun _ _ => rfl) (fun _ _ => rfl) fun D dA base p l e R s m args below meth c Q cells slots X H locs lsC hH kk => ?_
        obtain ⟨hx, hb, -, -, hown, hts, -, -, hst, -⟩ := X
        have hc := (hH.2.2.2 j).2.1 hC
        obtain ⟨h1, h2, h3⟩ := inb_iff hin
        refine W.iast hx hb hc ((tys_at hst 0 rfl).1 _ _) (fun q => by cases q) (by rw [arrV_size]; exact h1) rfl rfl hd fun H' e1 e2 e3 => kk H' _ ⟨fun c2 r2 h5 h6 => ?_, fun _ => ?_, fun h5 => ?_, fun t ht h5 => ?_⟩ e2 e3
        · replace h5 : h.2.2.1 (j + 1) = c2 + 1 := h5
          have := vwCl_lt h6
          omega
        · rw [e1, arrV_store]
          exact congrArg (fun z => some (arrV _ _ z)) (upd_arr h.2.2.2.2.1 (fun z => .int z) (j + 1) (ix y) x)
        · replace h5 : h.2.2.1 (j + 1) = 22 := h5
          omega
        · replace h5 : h.2.2.1 (j + 1) = 23 + t := h5
          omega
theorem g_lastore (hd : decode (byt k) pc = .ok (.lastore, len)) (hs : exec k pc ls st h len .lastore = some (.inl (pc', ls', st', h'))) : GS k pc ls st h pc' ls' st' h' := by
  obtain rfl := (o1_inv hs).1
  replace hs := (o1_inv hs).2
  unfold x_ast at hs
  split at hs
  case h_4 => cases hs
  case h_1 => simp at hs
  case h_3 => simp at hs
  case h_2 x y i r =>
    split at hs
    case isFalse => cases hs
    case isTrue hin =>
      obtain ⟨-, hin, hC⟩ := hin
      obtain ⟨rfl, rfl, rfl, rfl⟩ := go_inv hs
      cases i with
      | zero => exact ⟨⟨Nat.le_refl _, Nat.le_refl _, rfl⟩, fun D dA base n0 sl0 p l e R s m args below meth c Q X hc hs hV hn hsl hll H locs lsC hH hS hL => absurd hH.2.1 (by have e0 : h.2.2.1 0 = 22 := hC; omega)⟩
      | succ j =>
        replace hC : h.2.2.1 (j + 1) = 22 := hC
        replace hin : inb y (h.2.2.2.1 (j + 1)) = true := hin
        refine GS_w (i := j) rfl rfl rfl rfl (fun _ _ => rfl) (fun j' hj => u2_ne _ _ _ hj) (fun _ _ => rfl) fun D dA base p l e R s m args below meth c Q cells slots X H locs lsC hH kk => ?_
        obtain ⟨hx, hb, -, -, hown, hts, -, -, hst, -⟩ := X
        have hc := (hH.2.2.2 j).2.2.1 hC
        obtain ⟨h1, h2, h3⟩ := inb_iff hin
        refine W.last hx hb hc ((tys_at hst 1 rfl).1 _ _) (fun q => by cases q) (by rw [arrV_size]; exact h1) rfl rfl hd fun H' e1 e2 e3 => kk H' _ ⟨fun c2 r2 h5 h6 => ?_, fun h5 => ?_, fun _ => ?_, fun t ht h5 => ?_⟩ e2 e3
        · replace h5 : h.2.2.1 (j + 1) = c2 + 1 := h5
          have := vwCl_lt h6
          omega
        · replace h5 : h.2.2.1 (j + 1) = 21 := h5
          omega
        · rw [e1, arrV_store]
          exact congrArg (fun z => some (arrV _ _ z)) (upd_arr h.2.2.2.2.2.1 (fun z => .long z) (j + 1) (ix y) x)
        · replace h5 : h.2.2.1 (j + 1) = 23 + t := h5
          omega
theorem okS_t {a v : Nat} (h : okS a v = true) : (a = 24 ∧ inG 7 v = true) ∨ (a = 25 ∧ v = 7) := by
  simpa [okS] using h
theorem g_aastore (hd : decode (byt k) pc = .ok (.aastore, len)) (hs : exec k pc ls st h len .aastore = some (.inl (pc', ls', st', h'))) : GS k pc ls st h pc' ls' st' h' := by
  obtain rfl := (o1_inv hs).1
  replace hs := (o1_inv hs).2
  unfold x_ast at hs
  split at hs
  case h_4 => cases hs
  case h_1 => simp at hs
  case h_2 => simp at hs
  case h_3 x y i r =>
    split at hs
    case isFalse => cases hs
    case isTrue hin =>
      obtain ⟨-, hin, hC⟩ := hin
      obtain ⟨rfl, rfl, rfl, rfl⟩ := go_inv hs
      obtain ⟨t, ht, ht0, hCi⟩ : ∃ t, t < 3 ∧ 0 < t ∧ h.2.2.1 i = 23 + t := by
        rcases hC with ⟨-, q | q⟩ | q
        · exact ⟨1, by omega, by omega, q⟩
        · exact ⟨2, by omega, by omega, q⟩
        · rcases okS_t q with q | q
          · exact ⟨1, by omega, by omega, q.1⟩
          · exact ⟨2, by omega, by omega, q.1⟩
      cases i with
      | zero => exact ⟨⟨Nat.le_refl _, Nat.le_refl _, rfl⟩, fun D dA base n0 sl0 p l e R s m args below meth c Q X hc hs hV hn hsl hll H locs lsC hH hS hL => absurd hH.2.1 (by have e0 : h.2.2.1 0 = 23 + t := hCi; omega)⟩
      | succ j =>
        replace hC : (x = 0 ∧ (h.2.2.1 (j + 1) = 24 ∨ h.2.2.1 (j + 1) = 25)) ∨ okS (h.2.2.1 (j + 1)) (h.2.2.1 x) = true := hC
        replace hCi : h.2.2.1 (j + 1) = 23 + t := hCi
        replace hin : inb y (h.2.2.2.1 (j + 1)) = true := hin
        refine GS_w (i := j) rfl rfl rfl rfl (fun _ _ => rfl) (fun _ _ => rfl) (fun j' hj => u2_ne _ _ _ hj) fun D dA base p l e R s m args below meth c Q cells slots X H locs lsC hH kk => ?_
        obtain ⟨hx, hb, -, -, hown, hts, -, -, hst, -⟩ := X
        have hc := (hH.2.2.2 j).2.2.2 t ht hCi
        obtain ⟨h1, h2, h3⟩ := inb_iff hin
        have fin : ∀ H' : Heap, H'[base + j]? = some ((arrV (dA (2 + t)) (h.2.2.2.1 (j + 1)) (fun q => cvr base (h.2.2.2.2.2.2 (j + 1) q))).setSlot y.toNatClampNeg (cvr base x)) → cellOK D dA base (h.1, h.2.1, h.2.2.1, h.2.2.2.1, h.2.2.2.2.1, h.2.2.2.2.2.1, u2 h.2.2.2.2.2.2 (j + 1) (ix y) x) j H' := fun H' e1 => by
          refine ⟨fun c2 r2 h5 h6 => ?_, fun h5 => ?_, fun h5 => ?_, fun t2 ht2 h5 => ?_⟩
          · replace h5 : h.2.2.1 (j + 1) = c2 + 1 := h5
            have := vwCl_lt h6
            omega
          · replace h5 : h.2.2.1 (j + 1) = 21 := h5
            omega
          · replace h5 : h.2.2.1 (j + 1) = 22 := h5
            omega
          · replace h5 : h.2.2.1 (j + 1) = 23 + t2 := h5
            have : t2 = t := by omega
            subst this
            rw [e1, arrV_store]
            exact congrArg (fun z => some (arrV _ _ z)) (upd_arr h.2.2.2.2.2.2 (fun z => cvr base z) (j + 1) (ix y) x)
        obtain ⟨E, hE⟩ : ∃ E : String, (tysL dA)[2 + t]? = some (dA (2 + t), .object E) := by
          match t, ht, ht0 with
          | 1, _, _ => exact ⟨_, rfl⟩
          | 2, _, _ => exact ⟨_, rfl⟩
        cases x with
        | zero => exact va_WaastN (C := E) hx hb hc ((tys_at hst _ hE).1 _ _) (fun q => by cases q) (by rw [arrV_size]; exact h1) rfl rfl hd fun H' e1 e2 e3 => kk H' _ (fin H' e1) e2 e3
        | succ v =>
          have hok : okS (h.2.2.1 (j + 1)) (h.2.2.1 (v + 1)) = true := by
            rcases hC with ⟨q, -⟩ | q
            · exact absurd q (Nat.succ_ne_zero v)
            · exact q
          obtain ⟨kA, comp, k1, k2, k3, -⟩ := (tys_at hst _ hE).2
          obtain ⟨kE, hkE, -⟩ := Vm.findClass_spec k3
          obtain ⟨cc, r2, hr2, hCv, hasg⟩ : ∃ (cc : Nat) (r2 : vw_C), vwCl[cc]? = some r2 ∧ h.2.2.1 (v + 1) = cc + 1 ∧ (r2.1 = E ∨ va_Nw (.castable r2.1 E) s) := by
            rcases okS_t hok with ⟨q1, q2⟩ | ⟨q1, q2⟩
            · have e1 : t = 1 := by omega
              subst e1
              have e2 : E = "SteerBench$Steps" := by simp [tysL] at hE; exact hE.symm
              subst e2
              have hcs := hst.2.2.1
              simp only [inG, if_true, Bool.or_eq_true, beq_iff_eq] at q2
              rcases q2 with ((q2 | q2) | q2) | q2
              · exact ⟨7, _, rfl, by omega, Or.inl rfl⟩
              · exact ⟨1, _, rfl, by omega, Or.inr (hcs _ (List.mem_of_getElem? (i := 1) rfl))⟩
              · exact ⟨4, _, rfl, by omega, Or.inr (hcs _ (List.mem_of_getElem? (i := 2) rfl))⟩
              · exact ⟨5, _, rfl, by omega, Or.inr (hcs _ (List.mem_of_getElem? (i := 3) rfl))⟩
            · have e1 : t = 2 := by omega
              subst e1
              have e2 : E = "SteerBench$Sheet" := by simp [tysL] at hE; exact hE.symm
              subst e2
              exact ⟨6, _, rfl, by omega, Or.inl rfl⟩
          obtain ⟨cellV, g1, g2, g3, -⟩ := (hH.2.2.2 v).1 cc r2 hCv hr2
          have hcls := (hst.1.1 cc r2 hr2).2
          obtain ⟨kC, hkC, -⟩ := hcls.2
          have hassign : s.vm.assignable (D.1 cc) comp = true := by
            rcases hasg with q | q
            · have : comp = D.1 cc := Option.some.inj (k3.symm.trans (by rw [← q]; exact hcls.1))
              rw [this]
              exact va_asg _ _
            · obtain ⟨c0, t1, f1, f2, f3⟩ := Cond.castable_spec (va_Nw.use (A := args) rfl q)
              cases hcls.1.symm.trans f1
              cases k3.symm.trans f2
              exact f3
          exact W.aast hx hb hc (fun q h => by cases h) (fun h => by cases h) k1 k2 rfl hkE ⟨h2, by rw [arrV_size]; exact h3⟩ g1 (fun q h => by rw [g3] at h; cases h) (by rw [g2]; exact hkC) (by rw [g2]; exact hassign) rfl rfl hd fun H' e1 e2 e3 => kk H' _ (fin H' e1) e2 e3
theorem g_alen (hd : decode (byt k) pc = .ok (.arraylength, len)) (hs : exec k pc ls st h len .arraylength = some (.inl (pc', ls', st', h'))) : GS k pc ls st h pc' ls' st' h' := by
  obtain rfl := (o1_inv hs).1
  replace hs := (o1_inv hs).2
  unfold x_len at hs
  split at hs
  case h_2 => cases hs
  case h_1 i r =>
    split at hs
    case isFalse => cases hs
    case isTrue hC =>
      obtain ⟨rfl, rfl, rfl, rfl⟩ := go_inv hs
      refine GS_h fun D dA base p l e R s m args below meth c Q cells slots X H locs lsC hH hL _ _ kk => ?_
      obtain ⟨hx, hb, -, -, hown, hts, -, -, hst, -⟩ := X
      obtain ⟨j, rfl⟩ := hH.pos (i := i) (by omega)
      obtain ⟨o1, o2, o3, o4⟩ := hH.2.2.2 j
      have ok : ∃ (cA : ClassId) (f : Nat → Value) (ty : FieldType), H[base + j]? = some (arrV cA (h'.2.2.2.1 (j + 1)) f) ∧ s.isArrayOf (arrV cA (h'.2.2.2.1 (j + 1)) f) ty := by
        by_cases h1 : h'.2.2.1 (j + 1) = 21
        · exact ⟨_, _, _, o2 h1, (tys_at hst 0 rfl).1 _ _⟩
        · by_cases h2 : h'.2.2.1 (j + 1) = 22
          · exact ⟨_, _, _, o3 h2, (tys_at hst 1 rfl).1 _ _⟩
          · have ht : h'.2.2.1 (j + 1) - 23 < 3 := by omega
            obtain ⟨ty, hty, -⟩ := ref_ty dA ht
            exact ⟨_, _, ty, o4 (h'.2.2.1 (j + 1) - 23) ht (by omega), (tys_at hst _ hty).1 _ _⟩
      obtain ⟨cA, f, ty, hc, ha⟩ := ok
      exact W.alen hx hb hc ha (by rw [arrV_size]) rfl rfl hd kk
end GO4
