/-! one row an instruction: what a run asks at it, and what it asks behind it -/
theorem Wp_no {k pc : Nat} {ls : Lo} {st : List Value} {h : Hp} {Q : Option Value → Hp → Prop} (hs : stp k pc ls st h = none) : ¬ Wp k pc ls st h Q := by
  rintro ⟨f, r, h1, e, -⟩
  cases f with
  | zero => cases e
  | succ f =>
    unfold arun at e
    rw [hs] at e
    cases e
theorem Wp_chk {k pc : Nat} {ls : Lo} {st : List Value} {h : Hp} {pc' : Nat} {ls' : Lo} {st' : List Value} {h' : Hp} {Q : Option Value → Hp → Prop} {c : Prop} [Decidable c] (hs : stp k pc ls st h = if c then go pc' ls' st' h' else none) : Wp k pc ls st h Q ↔ (c ∧ Wp k pc' ls' st' h' Q) := by
  by_cases hc : c
  · rw [if_pos hc] at hs
    rw [Wp_go hs]
    exact ⟨fun a => ⟨hc, a⟩, fun a => a.2⟩
  · rw [if_neg hc] at hs
    exact ⟨fun a => absurd a (Wp_no hs), fun a => absurd a.1 hc⟩
theorem Wp_chkR {k pc : Nat} {ls : Lo} {st : List Value} {h : Hp} {r : Option Value} {Q : Option Value → Hp → Prop} {c : Prop} [Decidable c] (hs : stp k pc ls st h = if c then some (.inr (.inl r)) else none) : Wp k pc ls st h Q ↔ (c ∧ Q r h) := by
  by_cases hc : c
  · rw [if_pos hc] at hs
    rw [Wp_ret hs]
    exact ⟨fun a => ⟨hc, a⟩, fun a => a.2⟩
  · rw [if_neg hc] at hs
    exact ⟨fun a => absurd a (Wp_no hs), fun a => absurd a.1 hc⟩
theorem Wp_chkC {k pc : Nat} {ls : Lo} {st : List Value} {h : Hp} {k2 : Nat} {as rest : List Value} {pc' : Nat} {Q : Option Value → Hp → Prop} (hs : stp k pc ls st h = callA k pc' k2 as rest) (hr : rmOk k k2 = true) (hy : (lay as).length ≤ mxl k2) : Wp k pc ls st h Q ↔ (wsum rest ≤ 8 ∧ Call k2 (pad (mxl k2) (lay as)) h k pc' ls rest Q) := by
  unfold callA at hs
  simp only [hr, hy, and_true] at hs
  by_cases hc : wsum rest ≤ 8
  · rw [if_pos hc] at hs
    rw [Wp_call hs]
    exact ⟨fun a => ⟨hc, a⟩, fun a => a.2⟩
  · rw [if_neg hc] at hs
    exact ⟨fun a => absurd a (Wp_no hs), fun a => absurd a.1 hc⟩
section OPS
variable {k pc : Nat} {ls ls' : Lo} {st : List Value} {h : Hp} {Q : Option Value → Hp → Prop} {n sl : Nat} {C Z : Nat → Nat} {I : Nat → Nat → Int32} {L : Nat → Nat → Int64} {R : Nat → Nat → Nat} {x y v : Int32} {a b w : Int64} {i j : Nat}
theorem stp_of {ins : Instr} {len : Nat} (hd : decode (byt k) pc = .ok (ins, len)) : stp k pc ls st h = exec k pc ls st h len ins := by unfold stp; rw [hd]
theorem e_iconst {z : Int} (hd : decode (byt k) pc = .ok (.iconst z, 1)) (hv : Int32.ofInt z = v) : Wp k pc ls st h Q ↔ Wp k (pc + 1) ls (.int v :: st) h Q := by subst hv; exact Wp_go ((stp_of hd).trans rfl)
theorem e_bipush {z : Int} (hd : decode (byt k) pc = .ok (.bipush z, 2)) (hv : (Int8.ofInt z).toInt32 = v) : Wp k pc ls st h Q ↔ Wp k (pc + 2) ls (.int v :: st) h Q := by subst hv; exact Wp_go ((stp_of hd).trans rfl)
theorem e_sipush {z : Int} (hd : decode (byt k) pc = .ok (.sipush z, 3)) (hv : (Int16.ofInt z).toInt32 = v) : Wp k pc ls st h Q ↔ Wp k (pc + 3) ls (.int v :: st) h Q := by subst hv; exact Wp_go ((stp_of hd).trans rfl)
theorem e_lconst {z : Fin 2} (hd : decode (byt k) pc = .ok (.lconst z, 1)) (hv : Int64.ofNat (z : Nat) = w) : Wp k pc ls st h Q ↔ Wp k (pc + 1) ls (.long w :: st) h Q := by subst hv; exact Wp_go ((stp_of hd).trans rfl)
theorem e_null (hd : decode (byt k) pc = .ok (.aconst_null, 1)) : Wp k pc ls st h Q ↔ Wp k (pc + 1) ls (.ref 0 :: st) h Q := Wp_go ((stp_of hd).trans rfl)
theorem e_ldc {z p : Nat} (hd : decode (byt k) pc = .ok (.ldc z, 2)) (hv : look (itb (mOw k)) z = some (v, p)) : Wp k pc ls st h Q ↔ Wp k (pc + 2) ls (.int v :: st) h Q := Wp_go ((stp_of hd).trans (by simp only [exec, o1, hv, if_true]; rfl))
theorem e_ldc_w {z p : Nat} (hd : decode (byt k) pc = .ok (.ldc_w z, 3)) (hv : look (itb (mOw k)) z = some (v, p)) : Wp k pc ls st h Q ↔ Wp k (pc + 3) ls (.int v :: st) h Q := Wp_go ((stp_of hd).trans (by simp only [exec, o1, hv, if_true]; rfl))
theorem e_ldc2 {z p : Nat} (hd : decode (byt k) pc = .ok (.ldc2_w z, 3)) (hv : look (ltb (mOw k)) z = some (w, p)) : Wp k pc ls st h Q ↔ Wp k (pc + 3) ls (.long w :: st) h Q := Wp_go ((stp_of hd).trans (by simp only [exec, o1, hv, if_true]; rfl))
theorem e_iload {z : Nat} (hd : decode (byt k) pc = .ok (.iload z, 2)) (hl : ldl ls z = some (.int x)) : Wp k pc ls st h Q ↔ Wp k (pc + 2) ls (.int x :: st) h Q := Wp_go ((stp_of hd).trans (by simp only [exec, o1, x_lo, hl, if_true]; rfl))
theorem e_iload_n {z : Fin 4} (hd : decode (byt k) pc = .ok (.iload_n z, 1)) (hl : ldl ls z = some (.int x)) : Wp k pc ls st h Q ↔ Wp k (pc + 1) ls (.int x :: st) h Q := Wp_go ((stp_of hd).trans (by simp only [exec, o1, x_lo, hl, if_true]; rfl))
theorem e_lload {z : Nat} (hd : decode (byt k) pc = .ok (.lload z, 2)) (hl : ldl ls z = some (.long a)) : Wp k pc ls st h Q ↔ Wp k (pc + 2) ls (.long a :: st) h Q := Wp_go ((stp_of hd).trans (by simp only [exec, o1, x_lo, hl, if_true]; rfl))
theorem e_lload_n {z : Fin 4} (hd : decode (byt k) pc = .ok (.lload_n z, 1)) (hl : ldl ls z = some (.long a)) : Wp k pc ls st h Q ↔ Wp k (pc + 1) ls (.long a :: st) h Q := Wp_go ((stp_of hd).trans (by simp only [exec, o1, x_lo, hl, if_true]; rfl))
theorem e_aload {z : Nat} (hd : decode (byt k) pc = .ok (.aload z, 2)) (hl : ldl ls z = some (.ref i)) : Wp k pc ls st h Q ↔ Wp k (pc + 2) ls (.ref i :: st) h Q := Wp_go ((stp_of hd).trans (by simp only [exec, o1, x_lo, hl, if_true]; rfl))
theorem e_aload_n {z : Fin 4} (hd : decode (byt k) pc = .ok (.aload_n z, 1)) (hl : ldl ls z = some (.ref i)) : Wp k pc ls st h Q ↔ Wp k (pc + 1) ls (.ref i :: st) h Q := Wp_go ((stp_of hd).trans (by simp only [exec, o1, x_lo, hl, if_true]; rfl))
theorem e_istore {z : Nat} (hd : decode (byt k) pc = .ok (.istore z, 2)) (hl : st1 ls z (.int x) = some ls') : Wp k pc ls (.int x :: st) h Q ↔ Wp k (pc + 2) ls' st h Q := Wp_go ((stp_of hd).trans (by simp only [exec, o1, x_st, hl, if_true]; rfl))
theorem e_istore_n {z : Fin 4} (hd : decode (byt k) pc = .ok (.istore_n z, 1)) (hl : st1 ls z (.int x) = some ls') : Wp k pc ls (.int x :: st) h Q ↔ Wp k (pc + 1) ls' st h Q := Wp_go ((stp_of hd).trans (by simp only [exec, o1, x_st, hl, if_true]; rfl))
theorem e_lstore {z : Nat} (hd : decode (byt k) pc = .ok (.lstore z, 2)) (hl : st2 ls z (.long a) = some ls') : Wp k pc ls (.long a :: st) h Q ↔ Wp k (pc + 2) ls' st h Q := Wp_go ((stp_of hd).trans (by simp only [exec, o1, x_st, hl, if_true]; rfl))
theorem e_lstore_n {z : Fin 4} (hd : decode (byt k) pc = .ok (.lstore_n z, 1)) (hl : st2 ls z (.long a) = some ls') : Wp k pc ls (.long a :: st) h Q ↔ Wp k (pc + 1) ls' st h Q := Wp_go ((stp_of hd).trans (by simp only [exec, o1, x_st, hl, if_true]; rfl))
theorem e_astore {z : Nat} (hd : decode (byt k) pc = .ok (.astore z, 2)) (hl : st1 ls z (.ref i) = some ls') : Wp k pc ls (.ref i :: st) h Q ↔ Wp k (pc + 2) ls' st h Q := Wp_go ((stp_of hd).trans (by simp only [exec, o1, x_st, hl, if_true]; rfl))
theorem e_astore_n {z : Fin 4} (hd : decode (byt k) pc = .ok (.astore_n z, 1)) (hl : st1 ls z (.ref i) = some ls') : Wp k pc ls (.ref i :: st) h Q ↔ Wp k (pc + 1) ls' st h Q := Wp_go ((stp_of hd).trans (by simp only [exec, o1, x_st, hl, if_true]; rfl))
theorem e_iinc {z : Nat} {q : Int} (hd : decode (byt k) pc = .ok (.iinc z q, 3)) (hl : ldl ls z = some (.int x)) (hv : Int32.ofInt q = v) (hs : st1 ls z (.int (x + v)) = some ls') : Wp k pc ls st h Q ↔ Wp k (pc + 3) ls' st h Q := by subst hv; exact Wp_go ((stp_of hd).trans (by simp only [exec, o1, x_inc, hl, hs, if_true]; rfl))
theorem e_iadd (hd : decode (byt k) pc = .ok (.iadd, 1)) : Wp k pc ls (.int y :: .int x :: st) h Q ↔ Wp k (pc + 1) ls (.int (x + y) :: st) h Q := Wp_go ((stp_of hd).trans (by simp [exec, o1, x_ii, go]))
theorem e_isub (hd : decode (byt k) pc = .ok (.isub, 1)) : Wp k pc ls (.int y :: .int x :: st) h Q ↔ Wp k (pc + 1) ls (.int (x - y) :: st) h Q := Wp_go ((stp_of hd).trans (by simp [exec, o1, x_ii, go]))
theorem e_imul (hd : decode (byt k) pc = .ok (.imul, 1)) : Wp k pc ls (.int y :: .int x :: st) h Q ↔ Wp k (pc + 1) ls (.int (x * y) :: st) h Q := Wp_go ((stp_of hd).trans (by simp [exec, o1, x_ii, go]))
theorem e_iand (hd : decode (byt k) pc = .ok (.iand, 1)) : Wp k pc ls (.int y :: .int x :: st) h Q ↔ Wp k (pc + 1) ls (.int (x &&& y) :: st) h Q := Wp_go ((stp_of hd).trans (by simp [exec, o1, x_ii, go]))
theorem e_ixor (hd : decode (byt k) pc = .ok (.ixor, 1)) : Wp k pc ls (.int y :: .int x :: st) h Q ↔ Wp k (pc + 1) ls (.int (x ^^^ y) :: st) h Q := Wp_go ((stp_of hd).trans (by simp [exec, o1, x_ii, go]))
theorem e_ishl (hd : decode (byt k) pc = .ok (.ishl, 1)) : Wp k pc ls (.int y :: .int x :: st) h Q ↔ Wp k (pc + 1) ls (.int (x <<< (y &&& 31)) :: st) h Q := Wp_go ((stp_of hd).trans (by simp [exec, o1, x_ii, go]))
theorem e_ishr (hd : decode (byt k) pc = .ok (.ishr, 1)) : Wp k pc ls (.int y :: .int x :: st) h Q ↔ Wp k (pc + 1) ls (.int (x >>> (y &&& 31)) :: st) h Q := Wp_go ((stp_of hd).trans (by simp [exec, o1, x_ii, go]))
theorem e_iushr (hd : decode (byt k) pc = .ok (.iushr, 1)) : Wp k pc ls (.int y :: .int x :: st) h Q ↔ Wp k (pc + 1) ls (.int ((x.toUInt32 >>> (y.toUInt32 &&& Int32.toUInt32 31)).toInt32) :: st) h Q := Wp_go ((stp_of hd).trans (by simp [exec, o1, x_ii, go]))
theorem e_idiv (hd : decode (byt k) pc = .ok (.idiv, 1)) : Wp k pc ls (.int y :: .int x :: st) h Q ↔ (¬ y = 0 ∧ Wp k (pc + 1) ls (.int (x / y) :: st) h Q) := Wp_chk ((stp_of hd).trans (by by_cases e : y = 0 <;> simp [exec, o1, x_ii, e]))
theorem e_irem (hd : decode (byt k) pc = .ok (.irem, 1)) : Wp k pc ls (.int y :: .int x :: st) h Q ↔ (¬ y = 0 ∧ Wp k (pc + 1) ls (.int (x - x / y * y) :: st) h Q) := Wp_chk ((stp_of hd).trans (by by_cases e : y = 0 <;> simp [exec, o1, x_ii, e]))
theorem e_ladd (hd : decode (byt k) pc = .ok (.ladd, 1)) : Wp k pc ls (.long b :: .long a :: st) h Q ↔ Wp k (pc + 1) ls (.long (a + b) :: st) h Q := Wp_go ((stp_of hd).trans (by simp [exec, o1, x_ll, go]))
theorem e_lsub (hd : decode (byt k) pc = .ok (.lsub, 1)) : Wp k pc ls (.long b :: .long a :: st) h Q ↔ Wp k (pc + 1) ls (.long (a - b) :: st) h Q := Wp_go ((stp_of hd).trans (by simp [exec, o1, x_ll, go]))
theorem e_lmul (hd : decode (byt k) pc = .ok (.lmul, 1)) : Wp k pc ls (.long b :: .long a :: st) h Q ↔ Wp k (pc + 1) ls (.long (a * b) :: st) h Q := Wp_go ((stp_of hd).trans (by simp [exec, o1, x_ll, go]))
theorem e_ldiv (hd : decode (byt k) pc = .ok (.ldiv, 1)) : Wp k pc ls (.long b :: .long a :: st) h Q ↔ (¬ b = 0 ∧ Wp k (pc + 1) ls (.long (a / b) :: st) h Q) := Wp_chk ((stp_of hd).trans (by by_cases e : b = 0 <;> simp [exec, o1, x_ll, e]))
theorem e_lrem (hd : decode (byt k) pc = .ok (.lrem, 1)) : Wp k pc ls (.long b :: .long a :: st) h Q ↔ (¬ b = 0 ∧ Wp k (pc + 1) ls (.long (a - a / b * b) :: st) h Q) := Wp_chk ((stp_of hd).trans (by by_cases e : b = 0 <;> simp [exec, o1, x_ll, e]))
theorem e_lshl (hd : decode (byt k) pc = .ok (.lshl, 1)) : Wp k pc ls (.int y :: .long a :: st) h Q ↔ Wp k (pc + 1) ls (.long (a <<< (y.toInt64 &&& 63)) :: st) h Q := Wp_go ((stp_of hd).trans rfl)
theorem e_ineg (hd : decode (byt k) pc = .ok (.ineg, 1)) : Wp k pc ls (.int x :: st) h Q ↔ Wp k (pc + 1) ls (.int (-x) :: st) h Q := Wp_go ((stp_of hd).trans rfl)
theorem e_lneg (hd : decode (byt k) pc = .ok (.lneg, 1)) : Wp k pc ls (.long a :: st) h Q ↔ Wp k (pc + 1) ls (.long (-a) :: st) h Q := Wp_go ((stp_of hd).trans rfl)
theorem e_i2l (hd : decode (byt k) pc = .ok (.i2l, 1)) : Wp k pc ls (.int x :: st) h Q ↔ Wp k (pc + 1) ls (.long x.toInt64 :: st) h Q := Wp_go ((stp_of hd).trans rfl)
theorem e_i2b (hd : decode (byt k) pc = .ok (.i2b, 1)) : Wp k pc ls (.int x :: st) h Q ↔ Wp k (pc + 1) ls (.int x.toInt8.toInt32 :: st) h Q := Wp_go ((stp_of hd).trans rfl)
theorem e_l2i (hd : decode (byt k) pc = .ok (.l2i, 1)) : Wp k pc ls (.long a :: st) h Q ↔ Wp k (pc + 1) ls (.int a.toInt32 :: st) h Q := Wp_go ((stp_of hd).trans rfl)
theorem e_lcmp (hd : decode (byt k) pc = .ok (.lcmp, 1)) : Wp k pc ls (.long b :: .long a :: st) h Q ↔ Wp k (pc + 1) ls (.int (lg_cmp a b) :: st) h Q := Wp_go ((stp_of hd).trans rfl)
theorem e_dupI (hd : decode (byt k) pc = .ok (.dup, 1)) : Wp k pc ls (.int x :: st) h Q ↔ Wp k (pc + 1) ls (.int x :: .int x :: st) h Q := Wp_go ((stp_of hd).trans rfl)
theorem e_dupR (hd : decode (byt k) pc = .ok (.dup, 1)) : Wp k pc ls (.ref i :: st) h Q ↔ Wp k (pc + 1) ls (.ref i :: .ref i :: st) h Q := Wp_go ((stp_of hd).trans rfl)
theorem e_dx1 (hd : decode (byt k) pc = .ok (.dup_x1, 1)) : Wp k pc ls (.int x :: .ref i :: st) h Q ↔ Wp k (pc + 1) ls (.int x :: .ref i :: .int x :: st) h Q := Wp_go ((stp_of hd).trans rfl)
theorem e_dup2R (hd : decode (byt k) pc = .ok (.dup2, 1)) : Wp k pc ls (.int x :: .ref i :: st) h Q ↔ Wp k (pc + 1) ls (.int x :: .ref i :: .int x :: .ref i :: st) h Q := Wp_go ((stp_of hd).trans rfl)
theorem e_dup2L (hd : decode (byt k) pc = .ok (.dup2, 1)) : Wp k pc ls (.long a :: st) h Q ↔ Wp k (pc + 1) ls (.long a :: .long a :: st) h Q := Wp_go ((stp_of hd).trans rfl)
theorem e_popI (hd : decode (byt k) pc = .ok (.pop, 1)) : Wp k pc ls (.int x :: st) h Q ↔ Wp k (pc + 1) ls st h Q := Wp_go ((stp_of hd).trans rfl)
theorem e_popR (hd : decode (byt k) pc = .ok (.pop, 1)) : Wp k pc ls (.ref i :: st) h Q ↔ Wp k (pc + 1) ls st h Q := Wp_go ((stp_of hd).trans rfl)
theorem jmp_of {off : Int} {t nx : Nat} {c : Bool} (ht : (pc : Int) + off = (t : Int)) : jmp pc off ls st h c nx = go (if c = true then t else nx) ls st h := by
  unfold jmp
  rw [ht, if_pos (by omega)]
  simp
theorem e_goto {off : Int} {t : Nat} (hd : decode (byt k) pc = .ok (.goto off, 3)) (ht : (pc : Int) + off = (t : Int)) : Wp k pc ls st h Q ↔ Wp k t ls st h Q := Wp_go ((stp_of hd).trans (by simp only [exec, o1, jmp_of ht, if_true]; rfl))
theorem e_br {t f : Nat} {c : Bool} {p : Prop} (hp : (c = true) = p) (hs : stp k pc ls st h = go (if c = true then t else f) ls' st h) : Wp k pc ls st h Q ↔ Br k t f ls' st h Q p := by
  rw [Wp_go hs, Br_if, hp]
theorem e_brs {t f : Nat} {c : Bool} {p : Prop} {st' : List Value} (hp : (c = true) = p) (hs : stp k pc ls st h = go (if c = true then t else f) ls st' h) : Wp k pc ls st h Q ↔ Br k t f ls st' h Q p := by
  rw [Wp_go hs, Br_if, hp]
theorem e_if {c : ClassFile.Cond} {off : Int} {t : Nat} {p : Prop} (hd : decode (byt k) pc = .ok (.ifCond c off, 3)) (ht : (pc : Int) + off = (t : Int)) (hp : (cmpI c x 0 = true) = p) : Wp k pc ls (.int x :: st) h Q ↔ Br k t (pc + 3) ls st h Q p := e_brs hp ((stp_of hd).trans (by simp only [exec, o1, x_if, jmp_of ht, if_true]))
theorem e_ic {c : ClassFile.Cond} {off : Int} {t : Nat} {p : Prop} (hd : decode (byt k) pc = .ok (.if_icmp c off, 3)) (ht : (pc : Int) + off = (t : Int)) (hp : (cmpI c x y = true) = p) : Wp k pc ls (.int y :: .int x :: st) h Q ↔ Br k t (pc + 3) ls st h Q p := e_brs hp ((stp_of hd).trans (by simp only [exec, o1, x_ic, jmp_of ht, if_true]))
theorem e_ifnull {off : Int} {t : Nat} (hd : decode (byt k) pc = .ok (.ifnull off, 3)) (ht : (pc : Int) + off = (t : Int)) : Wp k pc ls (.ref i :: st) h Q ↔ Br k t (pc + 3) ls st h Q (i = 0) := e_brs (c := decide (i = 0) == true) (by simp) ((stp_of hd).trans (by simp only [exec, o1, x_nu, jmp_of ht, if_true]))
theorem e_ifnn {off : Int} {t : Nat} (hd : decode (byt k) pc = .ok (.ifnonnull off, 3)) (ht : (pc : Int) + off = (t : Int)) : Wp k pc ls (.ref i :: st) h Q ↔ Br k t (pc + 3) ls st h Q (¬ i = 0) := e_brs (c := decide (i = 0) == false) (by simp) ((stp_of hd).trans (by simp only [exec, o1, x_nu, jmp_of ht, if_true]))
theorem c_eq : (cmpI .eq x y = true) = (x = y) := by simp [cmpI]
theorem c_ne : (cmpI .ne x y = true) = (¬ x = y) := by simp [cmpI]
theorem c_lt : (cmpI .lt x y = true) = (x < y) := by simp [cmpI]
theorem c_ge : (cmpI .ge x y = true) = (y ≤ x) := by simp [cmpI]
theorem c_gt : (cmpI .gt x y = true) = (y < x) := by simp [cmpI]
theorem c_le : (cmpI .le x y = true) = (x ≤ y) := by simp [cmpI]
theorem e_get {z g s ty : Nat} {q : Bool × String × Nat × Nat} (hd : decode (byt k) pc = .ok (.getfield z, 3)) (hf : look (ftb (mOw k)) z = some (g, s, ty, q)) {vv : Value} (hv : fva ty (n, sl, C, Z, I, L, R) i s = vv) {p : Prop} (hp : (inG g (C i) = true) = p) : Wp k pc ls (.ref i :: st) (n, sl, C, Z, I, L, R) Q ↔ (p ∧ Wp k (pc + 3) ls (vv :: st) (n, sl, C, Z, I, L, R) Q) := by
  subst hv
  subst hp
  exact Wp_chk ((stp_of hd).trans (by simp only [exec, o1, x_get, hf, if_true]))
theorem e_putI {z g s : Nat} {fin : Bool} {ref : String} {q : Nat × Nat} (hd : decode (byt k) pc = .ok (.putfield z, 3)) (hf : look (ftb (mOw k)) z = some (g, s, 0, fin, ref, q)) (hfin : fin = false ∨ (isIni k = true ∧ ref = ow (mOw k) ∧ q.2 = 0)) {p : Prop} (hp : (inG g (C i) = true) = p) : Wp k pc ls (.int x :: .ref i :: st) (n, sl, C, Z, I, L, R) Q ↔ (p ∧ Wp k (pc + 3) ls st (n, sl, C, Z, u2 I i s x, L, R) Q) := by
  subst hp
  exact Wp_chk ((stp_of hd).trans (by simp only [exec, o1, x_put, hf, if_true, hfin, and_true, true_or]))
theorem e_putZ {z g s : Nat} {fin : Bool} {ref : String} {q : Nat × Nat} (hd : decode (byt k) pc = .ok (.putfield z, 3)) (hf : look (ftb (mOw k)) z = some (g, s, 3, fin, ref, q)) (hfin : fin = false ∨ (isIni k = true ∧ ref = ow (mOw k) ∧ q.2 = 0)) {p : Prop} (hp : (inG g (C i) = true) = p) : Wp k pc ls (.int x :: .ref i :: st) (n, sl, C, Z, I, L, R) Q ↔ ((p ∧ (x = 0 ∨ x = 1)) ∧ Wp k (pc + 3) ls st (n, sl, C, Z, u2 I i s x, L, R) Q) := by
  subst hp
  refine Wp_chk ((stp_of hd).trans ?_)
  simp only [exec, o1, x_put, hf, if_true, hfin, and_true]
  by_cases h1 : inG g (C i) = true <;> by_cases h2 : x = 0 ∨ x = 1 <;> simp [h1, h2]
theorem e_putL {z g s : Nat} {fin : Bool} {ref : String} {q : Nat × Nat} (hd : decode (byt k) pc = .ok (.putfield z, 3)) (hf : look (ftb (mOw k)) z = some (g, s, 1, fin, ref, q)) (hfin : fin = false ∨ (isIni k = true ∧ ref = ow (mOw k) ∧ q.2 = 0)) {p : Prop} (hp : (inG g (C i) = true) = p) : Wp k pc ls (.long a :: .ref i :: st) (n, sl, C, Z, I, L, R) Q ↔ (p ∧ Wp k (pc + 3) ls st (n, sl, C, Z, I, u2 L i s a, R) Q) := by
  subst hp
  exact Wp_chk ((stp_of hd).trans (by simp only [exec, o1, x_put, hf, if_true, hfin, and_true]))
theorem e_putR {z g s : Nat} {fin : Bool} {ref : String} {q : Nat × Nat} (hd : decode (byt k) pc = .ok (.putfield z, 3)) (hf : look (ftb (mOw k)) z = some (g, s, 2, fin, ref, q)) (hfin : fin = false ∨ (isIni k = true ∧ ref = ow (mOw k) ∧ q.2 = 0)) {p : Prop} (hp : (inG g (C i) = true) = p) : Wp k pc ls (.ref j :: .ref i :: st) (n, sl, C, Z, I, L, R) Q ↔ (p ∧ Wp k (pc + 3) ls st (n, sl, C, Z, I, L, u2 R i s j) Q) := by
  subst hp
  exact Wp_chk ((stp_of hd).trans (by simp only [exec, o1, x_put, hf, if_true, hfin, and_true]))
theorem e_iald (hd : decode (byt k) pc = .ok (.iaload, 1)) : Wp k pc ls (.int y :: .ref i :: st) (n, sl, C, Z, I, L, R) Q ↔ ((inb y (Z i) = true ∧ C i = 21) ∧ Wp k (pc + 1) ls (.int (I i (ix y)) :: st) (n, sl, C, Z, I, L, R) Q) := Wp_chk ((stp_of hd).trans (by by_cases h1 : inb y (Z i) = true <;> by_cases h2 : C i = 21 <;> simp [exec, o1, x_ald, h1, h2]))
theorem e_lald (hd : decode (byt k) pc = .ok (.laload, 1)) : Wp k pc ls (.int y :: .ref i :: st) (n, sl, C, Z, I, L, R) Q ↔ ((inb y (Z i) = true ∧ C i = 22) ∧ Wp k (pc + 1) ls (.long (L i (ix y)) :: st) (n, sl, C, Z, I, L, R) Q) := Wp_chk ((stp_of hd).trans (by by_cases h1 : inb y (Z i) = true <;> by_cases h2 : C i = 22 <;> simp [exec, o1, x_ald, h1, h2]))
theorem e_aald (hd : decode (byt k) pc = .ok (.aaload, 1)) : Wp k pc ls (.int y :: .ref i :: st) (n, sl, C, Z, I, L, R) Q ↔ ((inb y (Z i) = true ∧ (C i = 23 ∨ C i = 24 ∨ C i = 25)) ∧ Wp k (pc + 1) ls (.ref (R i (ix y)) :: st) (n, sl, C, Z, I, L, R) Q) := Wp_chk ((stp_of hd).trans (by by_cases h1 : inb y (Z i) = true <;> by_cases h2 : C i = 23 ∨ C i = 24 ∨ C i = 25 <;> simp [exec, o1, x_ald, h1, h2]))
theorem e_iast (hd : decode (byt k) pc = .ok (.iastore, 1)) : Wp k pc ls (.int x :: .int y :: .ref i :: st) (n, sl, C, Z, I, L, R) Q ↔ ((inb y (Z i) = true ∧ C i = 21) ∧ Wp k (pc + 1) ls st (n, sl, C, Z, u2 I i (ix y) x, L, R) Q) := Wp_chk ((stp_of hd).trans (by simp [exec, o1, x_ast]))
theorem e_last (hd : decode (byt k) pc = .ok (.lastore, 1)) : Wp k pc ls (.long a :: .int y :: .ref i :: st) (n, sl, C, Z, I, L, R) Q ↔ ((inb y (Z i) = true ∧ C i = 22) ∧ Wp k (pc + 1) ls st (n, sl, C, Z, I, u2 L i (ix y) a, R) Q) := Wp_chk ((stp_of hd).trans (by simp [exec, o1, x_ast]))
theorem e_aast (hd : decode (byt k) pc = .ok (.aastore, 1)) : Wp k pc ls (.ref j :: .int y :: .ref i :: st) (n, sl, C, Z, I, L, R) Q ↔ ((inb y (Z i) = true ∧ ((j = 0 ∧ (C i = 24 ∨ C i = 25)) ∨ okS (C i) (C j) = true)) ∧ Wp k (pc + 1) ls st (n, sl, C, Z, I, L, u2 R i (ix y) j) Q) := Wp_chk ((stp_of hd).trans (by simp [exec, o1, x_ast]))
theorem e_alen (hd : decode (byt k) pc = .ok (.arraylength, 1)) : Wp k pc ls (.ref i :: st) (n, sl, C, Z, I, L, R) Q ↔ ((21 ≤ C i ∧ C i ≤ 25) ∧ Wp k (pc + 1) ls (.int (Int32.ofNat (Z i)) :: st) (n, sl, C, Z, I, L, R) Q) := Wp_chk ((stp_of hd).trans (by simp [exec, o1, x_len]))
theorem e_newI (hd : decode (byt k) pc = .ok (.newarray .int, 2)) : Wp k pc ls (.int x :: st) (n, sl, C, Z, I, L, R) Q ↔ ((¬ x < 0 ∧ ix x ≤ 1000) ∧ Wp k (pc + 2) ls (.ref (n + 1) :: st) (n + 1, sl + ix x, va_up C (n + 1) 21, va_up Z (n + 1) (ix x), va_up I (n + 1) (fun _ => 0), va_up L (n + 1) (fun _ => 0), va_up R (n + 1) (fun _ => 0)) Q) := Wp_chk ((stp_of hd).trans (by simp [exec, o1, x_newa, nwA]))
theorem e_newL (hd : decode (byt k) pc = .ok (.newarray .long, 2)) : Wp k pc ls (.int x :: st) (n, sl, C, Z, I, L, R) Q ↔ ((¬ x < 0 ∧ ix x ≤ 1000) ∧ Wp k (pc + 2) ls (.ref (n + 1) :: st) (n + 1, sl + ix x, va_up C (n + 1) 22, va_up Z (n + 1) (ix x), va_up I (n + 1) (fun _ => 0), va_up L (n + 1) (fun _ => 0), va_up R (n + 1) (fun _ => 0)) Q) := Wp_chk ((stp_of hd).trans (by simp [exec, o1, x_newa, nwA]))
theorem e_anewS {z p : Nat} (hd : decode (byt k) pc = .ok (.anewarray z, 3)) (hf : look (ctb (mOw k)) z = some (7, p)) : Wp k pc ls (.int x :: st) (n, sl, C, Z, I, L, R) Q ↔ ((¬ x < 0 ∧ ix x ≤ 1000) ∧ Wp k (pc + 3) ls (.ref (n + 1) :: st) (n + 1, sl + ix x, va_up C (n + 1) 24, va_up Z (n + 1) (ix x), va_up I (n + 1) (fun _ => 0), va_up L (n + 1) (fun _ => 0), va_up R (n + 1) (fun _ => 0)) Q) := Wp_chk ((stp_of hd).trans (by simp [exec, o1, x_anew, hf, x_newa, nwA]))
theorem e_anewT {z p : Nat} (hd : decode (byt k) pc = .ok (.anewarray z, 3)) (hf : look (ctb (mOw k)) z = some (6, p)) : Wp k pc ls (.int x :: st) (n, sl, C, Z, I, L, R) Q ↔ ((¬ x < 0 ∧ ix x ≤ 1000) ∧ Wp k (pc + 3) ls (.ref (n + 1) :: st) (n + 1, sl + ix x, va_up C (n + 1) 25, va_up Z (n + 1) (ix x), va_up I (n + 1) (fun _ => 0), va_up L (n + 1) (fun _ => 0), va_up R (n + 1) (fun _ => 0)) Q) := Wp_chk ((stp_of hd).trans (by simp [exec, o1, x_anew, hf, x_newa, nwA]))
theorem e_mna {z p : Nat} (hd : decode (byt k) pc = .ok (.multianewarray z 2, 4)) (hf : look (ctb (mOw k)) z = some (23, p)) : Wp k pc ls (.int y :: .int x :: st) h Q ↔ ((¬ x < 0 ∧ ix x ≤ 1000 ∧ ¬ y < 0 ∧ ix y ≤ 1000) ∧ Wp k (pc + 4) ls (.ref (h.1 + 1) :: st) (nwG h (ix x) (ix y)) Q) := Wp_chk ((stp_of hd).trans (by simp [exec, o1, x_mna, hf]))
theorem e_new {z p c : Nat} (hd : decode (byt k) pc = .ok (.new z, 3)) (hf : look (ctb (mOw k)) z = some (c, p)) (hc : c < 11) {nf : Nat} (hn : nfs c = nf) : Wp k pc ls st (n, sl, C, Z, I, L, R) Q ↔ Wp k (pc + 3) ls (.ref (n + 1) :: st) (n + 1, sl + nf, va_up C (n + 1) (c + 1), Z, va_up I (n + 1) (fun _ => 0), va_up L (n + 1) (fun _ => 0), va_up R (n + 1) (fun _ => 0)) Q := by
  subst hn
  exact Wp_go ((stp_of hd).trans (by simp [exec, o1, x_new, hf, hc, nwO, go]))
theorem e_io {z p c : Nat} (hd : decode (byt k) pc = .ok (.instanceof z, 3)) (hf : look (ctb (mOw k)) z = some (c, p)) (hc : c = 1 ∨ c = 4 ∨ c = 5) : Wp k pc ls (.ref i :: st) (n, sl, C, Z, I, L, R) Q ↔ (inG 7 (C i) = true ∧ Wp k (pc + 3) ls (.int (if isa (C i) c = true then 1 else 0) :: st) (n, sl, C, Z, I, L, R) Q) := Wp_chk ((stp_of hd).trans (by simp only [exec, o1, x_io, hf, hc, and_true, if_true]))
theorem e_rI {p : Prop} (hd : decode (byt k) pc = .ok (.ireturn, 1)) (hr : mRt k = some .int) : Wp k pc ls [.int x] h Q ↔ Q (some (.int x)) h := Wp_ret ((stp_of hd).trans (by simp [exec, o1, x_ret, hr]))
theorem e_rZ (hd : decode (byt k) pc = .ok (.ireturn, 1)) (hr : mRt k = some .boolean) : Wp k pc ls [.int x] h Q ↔ ((x = 0 ∨ x = 1) ∧ Q (some (.int x)) h) := Wp_chkR ((stp_of hd).trans (by simp [exec, o1, x_ret, hr]))
theorem e_rL (hd : decode (byt k) pc = .ok (.lreturn, 1)) (hr : mRt k = some .long) : Wp k pc ls [.long a] h Q ↔ Q (some (.long a)) h := Wp_ret ((stp_of hd).trans (by simp [exec, o1, x_ret, hr]))
theorem e_rR (hd : decode (byt k) pc = .ok (.areturn, 1)) (hr : mRt k = some (.object "SteerBench$Steps") ∨ mRt k = some (.array .int)) : Wp k pc ls [.ref i] h Q ↔ Q (some (.ref i)) h := Wp_ret ((stp_of hd).trans (by simp [exec, o1, x_ret, hr]))
theorem e_rV (hd : decode (byt k) pc = .ok (.return_, 1)) (hr : mRt k = none) : Wp k pc ls [] h Q ↔ Q none h := Wp_ret ((stp_of hd).trans (by simp [exec, o1, x_ret, hr]))
theorem e_is {z kd na k2 : Nat} {m : MethodName} {s : String} {al : List (Nat × Nat × List Nat)} {q : List Nat} {as : List Value} {as' : Lo} (hd : decode (byt k) pc = .ok (.invokestatic z, 3)) (hf : look (vtb (mOw k)) z = some (kd, na, m, s, al, q)) (hk : kd = 0 ∨ kd = 7) (ha : alt al 0 = some k2) (hn : as.length = na) (hr : rmOk k k2 = true) (hy : (lay as).length ≤ mxl k2) (hl : pad (mxl k2) (lay as) = as') : Wp k pc ls (as.reverse ++ st) h Q ↔ (wsum st ≤ 8 ∧ Call k2 as' h k (pc + 3) ls st Q) := by
  subst hl
  subst hn
  refine Wp_chkC ((stp_of hd).trans ?_) hr hy
  have e1 : (as.reverse ++ st).take as.length = as.reverse := by rw [List.take_append_of_le_length (by simp), List.take_of_length_le (by simp)]
  have e2 : (as.reverse ++ st).drop as.length = st := by rw [List.drop_append_of_le_length (by simp), List.drop_of_length_le (by simp), List.nil_append]
  simp only [exec, o1, x_is, hf, hk, ha, if_true, e1, e2, List.length_reverse, List.reverse_reverse]
theorem e_iv {z kd na k2 c : Nat} {m : MethodName} {s : String} {al : List (Nat × Nat × List Nat)} {q : List Nat} {as : List Value} {as' : Lo} (hd : decode (byt k) pc = .ok (.invokevirtual z, 3)) (hf : look (vtb (mOw k)) z = some (kd, na, m, s, al, q)) (hk : kd = 2 ∨ kd = 3) (ha : alt al c = some k2) (hn : as.length = na) (hr : rmOk k k2 = true) (hy : (lay (.ref i :: as)).length ≤ mxl k2) (hl : pad (mxl k2) (lay (.ref i :: as)) = as') (hC : C i = c) : Wp k pc ls (as.reverse ++ .ref i :: st) (n, sl, C, Z, I, L, R) Q ↔ (wsum st ≤ 8 ∧ Call k2 as' (n, sl, C, Z, I, L, R) k (pc + 3) ls st Q) := by
  subst hl
  subst hn
  refine Wp_chkC ((stp_of hd).trans ?_) hr hy
  have e1 : (as.reverse ++ .ref i :: st).take as.length = as.reverse := by rw [List.take_append_of_le_length (by simp), List.take_of_length_le (by simp)]
  have e2 : (as.reverse ++ .ref i :: st).drop as.length = .ref i :: st := by rw [List.drop_append_of_le_length (by simp), List.drop_of_length_le (by simp), List.nil_append]
  simp only [exec, o1, x_iv, hf, hk, ha, if_true, e1, e2, List.length_reverse, List.reverse_reverse, hC, and_self]
theorem e_ip {z kd na k2 : Nat} {m : MethodName} {s : String} {al : List (Nat × Nat × List Nat)} {q : List Nat} {as : List Value} {as' : Lo} (hd : decode (byt k) pc = .ok (.invokespecial z, 3)) (hf : look (vtb (mOw k)) z = some (kd, na, m, s, al, q)) (hk : kd = 1 ∨ kd = 8) (ha : alt al 0 = some k2) (hn : as.length = na) (hr : rmOk k k2 = true) (hy : (lay (.ref i :: as)).length ≤ mxl k2) (hl : pad (mxl k2) (lay (.ref i :: as)) = as') (hi : i ≠ 0) : Wp k pc ls (as.reverse ++ .ref i :: st) h Q ↔ (wsum st ≤ 8 ∧ Call k2 as' h k (pc + 3) ls st Q) := by
  subst hl
  subst hn
  refine Wp_chkC ((stp_of hd).trans ?_) hr hy
  have e1 : (as.reverse ++ .ref i :: st).take as.length = as.reverse := by rw [List.take_append_of_le_length (by simp), List.take_of_length_le (by simp)]
  have e2 : (as.reverse ++ .ref i :: st).drop as.length = .ref i :: st := by rw [List.drop_append_of_le_length (by simp), List.drop_of_length_le (by simp), List.nil_append]
  have e3 : ¬ kd = 5 := by omega
  simp only [exec, o1, x_ip, hf, if_true, e1, e2, List.length_reverse, List.reverse_reverse, e3, if_false, hk, ha, hi, ne_eq, not_false_eq_true, and_self]
theorem e_isu {z kd na k2 : Nat} {m : MethodName} {s : String} {al : List (Nat × Nat × List Nat)} {q : List Nat} {as : List Value} {as' : Lo} (hd : decode (byt k) pc = .ok (.invokespecial z, 3)) (hf : look (vtb (mOw k)) z = some (kd, na, m, s, al, q)) (hk : kd = 4 ∨ kd = 9) (ha : alt al 0 = some k2) (hn : as.length = na) (hr : rmOk k k2 = true) (hy : (lay (.ref i :: as)).length ≤ mxl k2) (hl : pad (mxl k2) (lay (.ref i :: as)) = as') (hC : inG 7 (C i) = true) : Wp k pc ls (as.reverse ++ .ref i :: st) (n, sl, C, Z, I, L, R) Q ↔ (wsum st ≤ 8 ∧ Call k2 as' (n, sl, C, Z, I, L, R) k (pc + 3) ls st Q) := by
  subst hl
  subst hn
  refine Wp_chkC ((stp_of hd).trans ?_) hr hy
  have e1 : (as.reverse ++ .ref i :: st).take as.length = as.reverse := by rw [List.take_append_of_le_length (by simp), List.take_of_length_le (by simp)]
  have e2 : (as.reverse ++ .ref i :: st).drop as.length = .ref i :: st := by rw [List.drop_append_of_le_length (by simp), List.drop_of_length_le (by simp), List.nil_append]
  have e3 : ¬ kd = 5 := by omega
  have e4 : ¬ (kd = 1 ∨ kd = 8) := by omega
  simp only [exec, o1, x_ip, hf, if_true, e1, e2, List.length_reverse, List.reverse_reverse, e3, if_false, hk, ha, e4, false_and, hC, and_self]
theorem e_oi {z na : Nat} {m : MethodName} {s : String} {al : List (Nat × Nat × List Nat)} {q : List Nat} (hd : decode (byt k) pc = .ok (.invokespecial z, 3)) (hf : look (vtb (mOw k)) z = some (5, 0, m, s, al, q)) (hr : rmL k 20 = true) : Wp k pc ls (.ref i :: st) h Q ↔ ((wsum st ≤ 8 ∧ i ≠ 0) ∧ Wp k (pc + 3) ls st h Q) := Wp_chk ((stp_of hd).trans (by simp [exec, o1, x_ip, hf, hr]))
theorem e_cpy {z na : Nat} {m : MethodName} {s : String} {al : List (Nat × Nat × List Nat)} {q : List Nat} (hd : decode (byt k) pc = .ok (.invokestatic z, 3)) (hf : look (vtb (mOw k)) z = some (6, na, m, s, al, q)) (hr : rmL k 48 = true) : Wp k pc ls (.int v :: .int y :: .ref j :: .int x :: .ref i :: st) (n, sl, C, Z, I, L, R) Q ↔ ((wsum st ≤ 8 ∧ C i = 22 ∧ C j = 22 ∧ ¬ x < 0 ∧ ¬ y < 0 ∧ ¬ v < 0 ∧ ix x + ix v ≤ Z i ∧ ix y + ix v ≤ Z j) ∧ Wp k (pc + 3) ls st (n, sl, C, Z, I, va_up L j (va_cpy (L i) (L j) (ix x) (ix y) (ix v)), R) Q) := Wp_chk ((stp_of hd).trans (by simp [exec, o1, x_is, hf, cpyL, hr]))
theorem e_max {z na : Nat} {m : MethodName} {s : String} {al : List (Nat × Nat × List Nat)} {q : List Nat} (hd : decode (byt k) pc = .ok (.invokestatic z, 3)) (hf : look (vtb (mOw k)) z = some (10, na, m, s, al, q)) (hr : rmL k 21 = true) : Wp k pc ls (.int y :: .int x :: st) h Q ↔ (wsum st ≤ 8 ∧ Wp k (pc + 3) ls (.int (if x < y then y else x) :: st) h Q) := Wp_chk ((stp_of hd).trans (by simp [exec, o1, x_is, hf, hr]))
theorem e_min {z na : Nat} {m : MethodName} {s : String} {al : List (Nat × Nat × List Nat)} {q : List Nat} (hd : decode (byt k) pc = .ok (.invokestatic z, 3)) (hf : look (vtb (mOw k)) z = some (11, na, m, s, al, q)) (hr : rmL k 21 = true) : Wp k pc ls (.int y :: .int x :: st) h Q ↔ (wsum st ≤ 8 ∧ Wp k (pc + 3) ls (.int (if y < x then y else x) :: st) h Q) := Wp_chk ((stp_of hd).trans (by simp [exec, o1, x_is, hf, hr]))
theorem e_abs {z na : Nat} {m : MethodName} {s : String} {al : List (Nat × Nat × List Nat)} {q : List Nat} (hd : decode (byt k) pc = .ok (.invokestatic z, 3)) (hf : look (vtb (mOw k)) z = some (12, na, m, s, al, q)) (hr : rmL k 21 = true) : Wp k pc ls (.long a :: st) h Q ↔ (wsum st ≤ 8 ∧ Wp k (pc + 3) ls (.long (if 0 < a then a else -a) :: st) h Q) := Wp_chk ((stp_of hd).trans (by simp [exec, o1, x_is, hf, hr]))
end OPS
