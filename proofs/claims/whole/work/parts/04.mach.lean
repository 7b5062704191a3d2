/-! an abstract machine: cells by numbers (0 is null), fields and elements as functions; a step, a run, what a run gives -/
abbrev Hp : Type := Nat × Nat × (Nat → Nat) × (Nat → Nat) × (Nat → Nat → Int32) × (Nat → Nat → Int64) × (Nat → Nat → Nat)
abbrev Lo : Type := List (Option Value)
abbrev Ac : Type := (Nat × Lo × List Value × Hp) ⊕ (Option Value ⊕ (Nat × Lo × Nat × List Value))
def ix (j : Int32) : Nat := j.toNatClampNeg
def inb (j : Int32) (n : Nat) : Bool := decide (¬ j < 0) && decide (ix j < n)
def u2 {α : Type} (f : Nat → Nat → α) (i k : Nat) (v : α) : Nat → Nat → α := va_up f i (va_up (f i) k v)
def ldl (ls : Lo) (i : Nat) : Option Value := match ls[i]? with | some (some v) => some v | _ => none
def clr (v : Option Value) : Option Value := match v with | some (.long _) => none | some (.double _) => none | v => v
def st1 : Lo → Nat → Value → Option Lo
  | _ :: t, 0, v => some (some v :: t)
  | a :: _ :: t, 1, v => some (clr a :: some v :: t)
  | a :: t, i + 2, v => (st1 t (i + 1) v).map (a :: ·)
  | _, _, _ => none
def st2 : Lo → Nat → Value → Option Lo
  | _ :: _ :: t, 0, v => some (some v :: none :: t)
  | a :: _ :: _ :: t, 1, v => some (clr a :: some v :: none :: t)
  | a :: t, i + 2, v => (st2 t (i + 1) v).map (a :: ·)
  | _, _, _ => none
def go (pc : Nat) (ls : Lo) (st : List Value) (h : Hp) : Option Ac := some (.inl (pc, ls, st, h))
def o1 (len e : Nat) (x : Option Ac) : Option Ac := if len = e then x else none
def lay : List Value → Lo
  | [] => []
  | v :: t => if v.category = 2 then some v :: none :: lay t else some v :: lay t
def pad (n : Nat) (l : Lo) : Lo := l ++ List.replicate (n - l.length) none
def wsum (st : List Value) : Nat := (st.map fun v => v.category).sum
/-- a jump -/
def jmp (pc : Nat) (off : Int) (ls : Lo) (st : List Value) (h : Hp) (c : Bool) (nx : Nat) : Option Ac :=
  if 0 ≤ (pc : Int) + off then go (if c then ((pc : Int) + off).toNat else nx) ls st h else none
def cmpI (c : ClassFile.Cond) (x y : Int32) : Bool := match c with
  | .eq => decide (x = y) | .ne => decide (¬ x = y) | .lt => decide (x < y) | .ge => decide (y ≤ x) | .gt => decide (y < x) | .le => decide (x ≤ y)
def x_lo (pc : Nat) (ls : Lo) (st : List Value) (h : Hp) (i : Nat) (ty : Nat) : Option Ac := match ldl ls i with
  | some (.int x) => if ty = 0 then go pc ls (.int x :: st) h else none
  | some (.long x) => if ty = 1 then go pc ls (.long x :: st) h else none
  | some (.ref x) => if ty = 2 then go pc ls (.ref x :: st) h else none
  | _ => none
def x_st (pc : Nat) (ls : Lo) (st : List Value) (h : Hp) (i : Nat) (ty : Nat) : Option Ac := match st with
  | .int x :: r => if ty = 0 then (st1 ls i (.int x)).bind (fun l => go pc l r h) else none
  | .long x :: r => if ty = 1 then (st2 ls i (.long x)).bind (fun l => go pc l r h) else none
  | .ref x :: r => if ty = 2 then (st1 ls i (.ref x)).bind (fun l => go pc l r h) else none
  | _ => none
def x_ii (f : Int32 → Int32 → Int32) (z : Bool) (pc : Nat) (ls : Lo) (st : List Value) (h : Hp) : Option Ac := match st with
  | .int y :: .int x :: r => if z = true ∧ y = 0 then none else go pc ls (.int (f x y) :: r) h
  | _ => none
def x_ll (f : Int64 → Int64 → Int64) (z : Bool) (pc : Nat) (ls : Lo) (st : List Value) (h : Hp) : Option Ac := match st with
  | .long y :: .long x :: r => if z = true ∧ y = 0 then none else go pc ls (.long (f x y) :: r) h
  | _ => none
def x_u (pc : Nat) (ls : Lo) (st : List Value) (h : Hp) (fi : Int32 → Option Value) (fl : Int64 → Option Value) : Option Ac := match st with
  | .int x :: r => (fi x).bind (fun v => go pc ls (v :: r) h)
  | .long x :: r => (fl x).bind (fun v => go pc ls (v :: r) h)
  | _ => none
def fva (ty : Nat) (h : Hp) (i k : Nat) : Value := if ty = 1 then .long (h.2.2.2.2.2.1 i k) else if ty = 2 then .ref (h.2.2.2.2.2.2 i k) else .int (h.2.2.2.2.1 i k)
def x_get (k pc : Nat) (ls : Lo) (st : List Value) (h : Hp) (idx : Nat) : Option Ac := match st with
  | .ref i :: r => (match look (ftb (mOw k)) idx with
    | some (g, s, ty, _) => if inG g (h.2.2.1 i) = true then go pc ls (fva ty h i s :: r) h else none
    | none => none)
  | _ => none
def isIni (k : Nat) : Bool := (mNm k).name == "<init>"
def x_put (k pc : Nat) (ls : Lo) (st : List Value) (h : Hp) (idx : Nat) : Option Ac := match st with
  | v :: .ref i :: r => (match look (ftb (mOw k)) idx with
    | some (g, s, ty, fin, ref, q) => if inG g (h.2.2.1 i) = true ∧ (fin = false ∨ (isIni k = true ∧ ref = ow (mOw k) ∧ q.2 = 0)) then
        (match v with
        | .int x => if ty = 0 ∨ (ty = 3 ∧ (x = 0 ∨ x = 1)) then go pc ls r (h.1, h.2.1, h.2.2.1, h.2.2.2.1, u2 h.2.2.2.2.1 i s x, h.2.2.2.2.2.1, h.2.2.2.2.2.2) else none
        | .long x => if ty = 1 then go pc ls r (h.1, h.2.1, h.2.2.1, h.2.2.2.1, h.2.2.2.2.1, u2 h.2.2.2.2.2.1 i s x, h.2.2.2.2.2.2) else none
        | .ref x => if ty = 2 then go pc ls r (h.1, h.2.1, h.2.2.1, h.2.2.2.1, h.2.2.2.2.1, h.2.2.2.2.2.1, u2 h.2.2.2.2.2.2 i s x) else none
        | _ => none) else none
    | none => none)
  | _ => none
def x_ald (pc : Nat) (ls : Lo) (st : List Value) (h : Hp) (ty : Nat) : Option Ac := match st with
  | .int j :: .ref i :: r => if inb j (h.2.2.2.1 i) = true then
      (if ty = 0 then (if h.2.2.1 i = 21 then go pc ls (.int (h.2.2.2.2.1 i (ix j)) :: r) h else none)
       else if ty = 1 then (if h.2.2.1 i = 22 then go pc ls (.long (h.2.2.2.2.2.1 i (ix j)) :: r) h else none)
       else (if h.2.2.1 i = 23 ∨ h.2.2.1 i = 24 ∨ h.2.2.1 i = 25 then go pc ls (.ref (h.2.2.2.2.2.2 i (ix j)) :: r) h else none)) else none
  | _ => none
def okS (a v : Nat) : Bool := (a == 24 && inG 7 v) || (a == 25 && v == 7)
def x_ast (pc : Nat) (ls : Lo) (st : List Value) (h : Hp) (ty : Nat) : Option Ac := match st with
  | .int x :: .int j :: .ref i :: r => if ty = 0 ∧ inb j (h.2.2.2.1 i) = true ∧ h.2.2.1 i = 21 then go pc ls r (h.1, h.2.1, h.2.2.1, h.2.2.2.1, u2 h.2.2.2.2.1 i (ix j) x, h.2.2.2.2.2.1, h.2.2.2.2.2.2) else none
  | .long x :: .int j :: .ref i :: r => if ty = 1 ∧ inb j (h.2.2.2.1 i) = true ∧ h.2.2.1 i = 22 then go pc ls r (h.1, h.2.1, h.2.2.1, h.2.2.2.1, h.2.2.2.2.1, u2 h.2.2.2.2.2.1 i (ix j) x, h.2.2.2.2.2.2) else none
  | .ref x :: .int j :: .ref i :: r => if ty = 2 ∧ inb j (h.2.2.2.1 i) = true ∧ ((x = 0 ∧ (h.2.2.1 i = 24 ∨ h.2.2.1 i = 25)) ∨ okS (h.2.2.1 i) (h.2.2.1 x) = true) then go pc ls r (h.1, h.2.1, h.2.2.1, h.2.2.2.1, h.2.2.2.2.1, h.2.2.2.2.2.1, u2 h.2.2.2.2.2.2 i (ix j) x) else none
  | _ => none
def x_len (pc : Nat) (ls : Lo) (st : List Value) (h : Hp) : Option Ac := match st with
  | .ref i :: r => if 21 ≤ h.2.2.1 i ∧ h.2.2.1 i ≤ 25 then go pc ls (.int (Int32.ofNat (h.2.2.2.1 i)) :: r) h else none
  | _ => none
/-- a new array: kind c, length n -/
def nwA (h : Hp) (c n : Nat) : Hp := (h.1 + 1, h.2.1 + n, va_up h.2.2.1 (h.1 + 1) c, va_up h.2.2.2.1 (h.1 + 1) n, va_up h.2.2.2.2.1 (h.1 + 1) (fun _ => 0), va_up h.2.2.2.2.2.1 (h.1 + 1) (fun _ => 0), va_up h.2.2.2.2.2.2 (h.1 + 1) (fun _ => 0))
def x_newa (pc : Nat) (ls : Lo) (st : List Value) (h : Hp) (c : Nat) : Option Ac := match st with
  | .int n :: r => if ¬ n < 0 ∧ ix n ≤ 1000 then go pc ls (.ref (h.1 + 1) :: r) (nwA h c (ix n)) else none
  | _ => none
/-- a new grid of longs: n rows of k -/
def nwG (h : Hp) (n k : Nat) : Hp := (h.1 + 1 + n, h.2.1 + n + n * k, fun i => if i = h.1 + 1 then 23 else if h.1 + 1 < i ∧ i ≤ h.1 + 1 + n then 22 else h.2.2.1 i, fun i => if i = h.1 + 1 then n else if h.1 + 1 < i ∧ i ≤ h.1 + 1 + n then k else h.2.2.2.1 i, h.2.2.2.2.1, fun i => if h.1 + 1 < i ∧ i ≤ h.1 + 1 + n then (fun _ => 0) else h.2.2.2.2.2.1 i, fun i => if i = h.1 + 1 then (fun j => if j < n then h.1 + 2 + j else 0) else h.2.2.2.2.2.2 i)
def x_mna (k pc : Nat) (ls : Lo) (st : List Value) (h : Hp) (idx : Nat) : Option Ac := match st with
  | .int q :: .int n :: r => (match look (ctb (mOw k)) idx with
    | some (c, _) => if c = 23 ∧ ¬ n < 0 ∧ ix n ≤ 1000 ∧ ¬ q < 0 ∧ ix q ≤ 1000 then go pc ls (.ref (h.1 + 1) :: r) (nwG h (ix n) (ix q)) else none
    | none => none)
  | _ => none
def nfs (c : Nat) : Nat := match vwCl[c]? with | some r => r.2.2 | none => 0
def nwO (h : Hp) (c : Nat) : Hp := (h.1 + 1, h.2.1 + nfs c, va_up h.2.2.1 (h.1 + 1) (c + 1), h.2.2.2.1, va_up h.2.2.2.2.1 (h.1 + 1) (fun _ => 0), va_up h.2.2.2.2.2.1 (h.1 + 1) (fun _ => 0), va_up h.2.2.2.2.2.2 (h.1 + 1) (fun _ => 0))
def x_new (k pc : Nat) (ls : Lo) (st : List Value) (h : Hp) (idx : Nat) : Option Ac := match look (ctb (mOw k)) idx with
  | some (c, _) => if c < 11 then go pc ls (.ref (h.1 + 1) :: st) (nwO h c) else none
  | none => none
def x_anew (k pc : Nat) (ls : Lo) (st : List Value) (h : Hp) (idx : Nat) : Option Ac := match look (ctb (mOw k)) idx with
  | some (c, _) => if c = 7 then x_newa pc ls st h 24 else if c = 6 then x_newa pc ls st h 25 else none
  | none => none
/-- whether an object of kind c (a number of inG 7) is one of class t -/
def isa (c t : Nat) : Bool := (c == t + 1) || (c == 6 && t == 4)
def x_io (k pc : Nat) (ls : Lo) (st : List Value) (h : Hp) (idx : Nat) : Option Ac := match st with
  | .ref i :: r => (match look (ctb (mOw k)) idx with
    | some (c, _) => if inG 7 (h.2.2.1 i) = true ∧ (c = 1 ∨ c = 4 ∨ c = 5) then go pc ls (.int (if isa (h.2.2.1 i) c then 1 else 0) :: r) h else none
    | none => none)
  | _ => none
def cpyL (h : Hp) (a b sp dp n : Nat) : Hp := (h.1, h.2.1, h.2.2.1, h.2.2.2.1, h.2.2.2.2.1, va_up h.2.2.2.2.2.1 b (va_cpy (h.2.2.2.2.2.1 a) (h.2.2.2.2.2.1 b) sp dp n), h.2.2.2.2.2.2)
def alt (l : List (Nat × Nat × List Nat)) (c : Nat) : Option Nat := (look l c).map (fun q => q.1)
def rmOk (k k2 : Nat) : Bool := decide (mFr k2 + 1 ≤ mFr k) && decide (8 + (mxl k2 + 11) + mLo k2 ≤ mLo k)
def rmL (k n : Nat) : Bool := decide (1 ≤ mFr k) && decide (n ≤ mLo k)
def callA (k pc : Nat) (k2 : Nat) (as rest : List Value) : Option Ac := if wsum rest ≤ 8 ∧ (rmOk k k2 = true ∧ (lay as).length ≤ mxl k2) then some (.inr (.inr (k2, pad (mxl k2) (lay as), pc, rest))) else none
def x_is (k pc : Nat) (ls : Lo) (st : List Value) (h : Hp) (idx : Nat) : Option Ac := match look (vtb (mOw k)) idx with
  | some (kd, na, _, _, al, _) =>
    if kd = 0 ∨ kd = 7 then (if (st.take na).length = na then (match alt al 0 with | some k2 => callA k pc k2 (st.take na).reverse (st.drop na) | none => none) else none)
    else if kd = 6 then (match st with
      | .int n :: .int dp :: .ref b :: .int sp :: .ref a :: r => if rmL k 48 = true ∧ wsum r ≤ 8 ∧ h.2.2.1 a = 22 ∧ h.2.2.1 b = 22 ∧ ¬ sp < 0 ∧ ¬ dp < 0 ∧ ¬ n < 0 ∧ ix sp + ix n ≤ h.2.2.2.1 a ∧ ix dp + ix n ≤ h.2.2.2.1 b then go pc ls r (cpyL h a b (ix sp) (ix dp) (ix n)) else none
      | _ => none)
    else if kd = 10 then (match st with | .int y :: .int x :: r => if rmL k 21 = true ∧ wsum r ≤ 8 then go pc ls (.int (if x < y then y else x) :: r) h else none | _ => none)
    else if kd = 11 then (match st with | .int y :: .int x :: r => if rmL k 21 = true ∧ wsum r ≤ 8 then go pc ls (.int (if y < x then y else x) :: r) h else none | _ => none)
    else if kd = 12 then (match st with | .long x :: r => if rmL k 21 = true ∧ wsum r ≤ 8 then go pc ls (.long (if 0 < x then x else -x) :: r) h else none | _ => none)
    else none
  | none => none
def x_iv (k pc : Nat) (st : List Value) (h : Hp) (idx : Nat) : Option Ac := match look (vtb (mOw k)) idx with
  | some (kd, na, _, _, al, _) =>
    if (kd = 2 ∨ kd = 3) ∧ (st.take na).length = na then (match st.drop na with
      | .ref i :: r => (match alt al (h.2.2.1 i) with | some k2 => callA k pc k2 (.ref i :: (st.take na).reverse) r | none => none)
      | _ => none) else none
  | none => none
def x_ip (k pc : Nat) (ls : Lo) (st : List Value) (h : Hp) (idx : Nat) : Option Ac := match look (vtb (mOw k)) idx with
  | some (kd, na, _, _, al, _) =>
    if (st.take na).length = na then (match st.drop na with
      | .ref i :: r =>
        if kd = 5 then (if rmL k 20 = true ∧ wsum r ≤ 8 ∧ i ≠ 0 then go pc ls r h else none)
        else if (kd = 1 ∨ kd = 8) ∧ i ≠ 0 then (match alt al 0 with | some k2 => callA k pc k2 (.ref i :: (st.take na).reverse) r | none => none)
        else if (kd = 4 ∨ kd = 9) ∧ inG 7 (h.2.2.1 i) = true then (match alt al 0 with | some k2 => callA k pc k2 (.ref i :: (st.take na).reverse) r | none => none)
        else none
      | _ => none) else none
  | none => none
def x_ret (k : Nat) (st : List Value) (ty : Nat) : Option Ac := match st with
  | [] => if ty = 9 ∧ mRt k = none then some (.inr (.inl none)) else none
  | [.int v] => if ty = 0 ∧ (mRt k = some .int ∨ (mRt k = some .boolean ∧ (v = 0 ∨ v = 1))) then some (.inr (.inl (some (.int v)))) else none
  | [.long v] => if ty = 1 ∧ mRt k = some .long then some (.inr (.inl (some (.long v)))) else none
  | [.ref v] => if ty = 2 ∧ (mRt k = some (.object "SteerBench$Steps") ∨ mRt k = some (.array .int)) then some (.inr (.inl (some (.ref v)))) else none
  | _ => none
def x_ts (pc : Nat) (ls : Lo) (st : List Value) (h : Hp) (dflt lo hi : Int) (offs : Array Int) : Option Ac := match st with
  | .int x :: r => if x.toInt < lo ∨ hi < x.toInt then jmp pc dflt ls r h true 0 else (match offs[(x.toInt - lo).toNat]? with | some o => jmp pc o ls r h true 0 | none => none)
  | _ => none
def x_dup (pc : Nat) (ls : Lo) (st : List Value) (h : Hp) : Option Ac := match st with
  | .int x :: r => go pc ls (.int x :: .int x :: r) h
  | .ref x :: r => go pc ls (.ref x :: .ref x :: r) h
  | _ => none
def x_dx1 (pc : Nat) (ls : Lo) (st : List Value) (h : Hp) : Option Ac := match st with
  | a :: b :: r => if a.category = 1 ∧ b.category = 1 then go pc ls (a :: b :: a :: r) h else none
  | _ => none
def x_dup2 (pc : Nat) (ls : Lo) (st : List Value) (h : Hp) : Option Ac := match st with
  | .int a :: .ref b :: r => go pc ls (.int a :: .ref b :: .int a :: .ref b :: r) h
  | .long a :: r => go pc ls (.long a :: .long a :: r) h
  | _ => none
def x_if (pc : Nat) (ls : Lo) (st : List Value) (h : Hp) (c : ClassFile.Cond) (off : Int) : Option Ac := match st with
  | .int x :: r => jmp pc off ls r h (cmpI c x 0) (pc + 3)
  | _ => none
def x_ic (pc : Nat) (ls : Lo) (st : List Value) (h : Hp) (c : ClassFile.Cond) (off : Int) : Option Ac := match st with
  | .int y :: .int x :: r => jmp pc off ls r h (cmpI c x y) (pc + 3)
  | _ => none
def x_nu (pc : Nat) (ls : Lo) (st : List Value) (h : Hp) (b : Bool) (off : Int) : Option Ac := match st with
  | .ref i :: r => jmp pc off ls r h (decide (i = 0) == b) (pc + 3)
  | _ => none
def x_inc (pc : Nat) (ls : Lo) (st : List Value) (h : Hp) (i : Nat) (n : Int) : Option Ac := match ldl ls i with
  | some (.int x) => (st1 ls i (.int (x + Int32.ofInt n))).bind (fun l => go pc l st h)
  | _ => none
def x_cmp (pc : Nat) (ls : Lo) (st : List Value) (h : Hp) : Option Ac := match st with
  | .long y :: .long x :: r => go pc ls (.int (lg_cmp x y) :: r) h
  | _ => none
def x_lsh (pc : Nat) (ls : Lo) (st : List Value) (h : Hp) : Option Ac := match st with
  | .int y :: .long x :: r => go pc ls (.long (x <<< (y.toInt64 &&& 63)) :: r) h
  | _ => none
def x_pop (pc : Nat) (ls : Lo) (st : List Value) (h : Hp) : Option Ac := match st with
  | .int _ :: r => go pc ls r h
  | .ref _ :: r => go pc ls r h
  | _ => none
def exec (k pc : Nat) (ls : Lo) (st : List Value) (h : Hp) (len : Nat) (ins : Instr) : Option Ac := match ins with
  | .iconst n => o1 len 1 (go (pc + 1) ls (.int (Int32.ofInt n) :: st) h)
  | .bipush n => o1 len 2 (go (pc + 2) ls (.int (Int8.ofInt n).toInt32 :: st) h)
  | .sipush n => o1 len 3 (go (pc + 3) ls (.int (Int16.ofInt n).toInt32 :: st) h)
  | .lconst n => o1 len 1 (go (pc + 1) ls (.long (Int64.ofNat (n : Nat)) :: st) h)
  | .aconst_null => o1 len 1 (go (pc + 1) ls (.ref 0 :: st) h)
  | .ldc i => o1 len 2 (match look (itb (mOw k)) i with | some (v, _) => go (pc + 2) ls (.int v :: st) h | none => none)
  | .ldc_w i => o1 len 3 (match look (itb (mOw k)) i with | some (v, _) => go (pc + 3) ls (.int v :: st) h | none => none)
  | .ldc2_w i => o1 len 3 (match look (ltb (mOw k)) i with | some (v, _) => go (pc + 3) ls (.long v :: st) h | none => none)
  | .iload i => o1 len 2 (x_lo (pc + 2) ls st h i 0)
  | .iload_n i => o1 len 1 (x_lo (pc + 1) ls st h i 0)
  | .lload i => o1 len 2 (x_lo (pc + 2) ls st h i 1)
  | .lload_n i => o1 len 1 (x_lo (pc + 1) ls st h i 1)
  | .aload i => o1 len 2 (x_lo (pc + 2) ls st h i 2)
  | .aload_n i => o1 len 1 (x_lo (pc + 1) ls st h i 2)
  | .istore i => o1 len 2 (x_st (pc + 2) ls st h i 0)
  | .istore_n i => o1 len 1 (x_st (pc + 1) ls st h i 0)
  | .lstore i => o1 len 2 (x_st (pc + 2) ls st h i 1)
  | .lstore_n i => o1 len 1 (x_st (pc + 1) ls st h i 1)
  | .astore i => o1 len 2 (x_st (pc + 2) ls st h i 2)
  | .astore_n i => o1 len 1 (x_st (pc + 1) ls st h i 2)
  | .iinc i n => o1 len 3 (x_inc (pc + 3) ls st h i n)
  | .iadd => o1 len 1 (x_ii (fun x y => x + y) false (pc + 1) ls st h)
  | .isub => o1 len 1 (x_ii (fun x y => x - y) false (pc + 1) ls st h)
  | .imul => o1 len 1 (x_ii (fun x y => x * y) false (pc + 1) ls st h)
  | .iand => o1 len 1 (x_ii (fun x y => x &&& y) false (pc + 1) ls st h)
  | .ixor => o1 len 1 (x_ii (fun x y => x ^^^ y) false (pc + 1) ls st h)
  | .idiv => o1 len 1 (x_ii (fun x y => x / y) true (pc + 1) ls st h)
  | .irem => o1 len 1 (x_ii (fun x y => x - x / y * y) true (pc + 1) ls st h)
  | .ishl => o1 len 1 (x_ii (fun x y => x <<< (y &&& 31)) false (pc + 1) ls st h)
  | .ishr => o1 len 1 (x_ii (fun x y => x >>> (y &&& 31)) false (pc + 1) ls st h)
  | .iushr => o1 len 1 (x_ii (fun x y => (x.toUInt32 >>> (y.toUInt32 &&& Int32.toUInt32 31)).toInt32) false (pc + 1) ls st h)
  | .ladd => o1 len 1 (x_ll (fun x y => x + y) false (pc + 1) ls st h)
  | .lsub => o1 len 1 (x_ll (fun x y => x - y) false (pc + 1) ls st h)
  | .lmul => o1 len 1 (x_ll (fun x y => x * y) false (pc + 1) ls st h)
  | .ldiv => o1 len 1 (x_ll (fun x y => x / y) true (pc + 1) ls st h)
  | .lrem => o1 len 1 (x_ll (fun x y => x - x / y * y) true (pc + 1) ls st h)
  | .lshl => o1 len 1 (x_lsh (pc + 1) ls st h)
  | .ineg => o1 len 1 (x_u (pc + 1) ls st h (fun x => some (.int (-x))) (fun _ => none))
  | .lneg => o1 len 1 (x_u (pc + 1) ls st h (fun _ => none) (fun x => some (.long (-x))))
  | .i2l => o1 len 1 (x_u (pc + 1) ls st h (fun x => some (.long x.toInt64)) (fun _ => none))
  | .i2b => o1 len 1 (x_u (pc + 1) ls st h (fun x => some (.int x.toInt8.toInt32)) (fun _ => none))
  | .l2i => o1 len 1 (x_u (pc + 1) ls st h (fun _ => none) (fun x => some (.int x.toInt32)))
  | .lcmp => o1 len 1 (x_cmp (pc + 1) ls st h)
  | .dup => o1 len 1 (x_dup (pc + 1) ls st h)
  | .dup_x1 => o1 len 1 (x_dx1 (pc + 1) ls st h)
  | .dup2 => o1 len 1 (x_dup2 (pc + 1) ls st h)
  | .pop => o1 len 1 (x_pop (pc + 1) ls st h)
  | .goto off => o1 len 3 (jmp pc off ls st h true 0)
  | .ifCond c off => o1 len 3 (x_if pc ls st h c off)
  | .if_icmp c off => o1 len 3 (x_ic pc ls st h c off)
  | .ifnull off => o1 len 3 (x_nu pc ls st h true off)
  | .ifnonnull off => o1 len 3 (x_nu pc ls st h false off)
  | .tableswitch d lo hi offs => x_ts pc ls st h d lo hi offs
  | .getfield i => o1 len 3 (x_get k (pc + 3) ls st h i)
  | .putfield i => o1 len 3 (x_put k (pc + 3) ls st h i)
  | .iaload => o1 len 1 (x_ald (pc + 1) ls st h 0)
  | .laload => o1 len 1 (x_ald (pc + 1) ls st h 1)
  | .aaload => o1 len 1 (x_ald (pc + 1) ls st h 2)
  | .iastore => o1 len 1 (x_ast (pc + 1) ls st h 0)
  | .lastore => o1 len 1 (x_ast (pc + 1) ls st h 1)
  | .aastore => o1 len 1 (x_ast (pc + 1) ls st h 2)
  | .arraylength => o1 len 1 (x_len (pc + 1) ls st h)
  | .newarray a => o1 len 2 (match a with | .int => x_newa (pc + 2) ls st h 21 | .long => x_newa (pc + 2) ls st h 22 | _ => none)
  | .anewarray i => o1 len 3 (x_anew k (pc + 3) ls st h i)
  | .multianewarray i d => o1 len 4 (if d = 2 then x_mna k (pc + 4) ls st h i else none)
  | .new i => o1 len 3 (x_new k (pc + 3) ls st h i)
  | .instanceof i => o1 len 3 (x_io k (pc + 3) ls st h i)
  | .invokestatic i => o1 len 3 (x_is k (pc + 3) ls st h i)
  | .invokevirtual i => o1 len 3 (x_iv k (pc + 3) st h i)
  | .invokespecial i => o1 len 3 (x_ip k (pc + 3) ls st h i)
  | .ireturn => o1 len 1 (x_ret k st 0)
  | .lreturn => o1 len 1 (x_ret k st 1)
  | .areturn => o1 len 1 (x_ret k st 2)
  | .return_ => o1 len 1 (x_ret k st 9)
  | _ => none
def stp (k pc : Nat) (ls : Lo) (st : List Value) (h : Hp) : Option Ac := match decode (byt k) pc with
  | .ok (ins, len) => exec k pc ls st h len ins
  | _ => none
def arun : Nat → Nat → Nat → Lo → List Value → Hp → Option (Option Value × Hp)
  | 0, _, _, _, _, _ => none
  | f + 1, k, pc, ls, st, h => match stp k pc ls st h with
    | none => none
    | some (.inl (pc', ls', st', h')) => arun f k pc' ls' st' h'
    | some (.inr (.inl r)) => some (r, h)
    | some (.inr (.inr (k2, as, pc', st'))) => (match arun f k2 0 as [] h with
      | none => none
      | some (r, h1) => arun f k pc' ls (r.toList ++ st') h1)
theorem arun_more : ∀ {f k pc : Nat} {ls : Lo} {st : List Value} {h : Hp} {o : Option Value × Hp}, arun f k pc ls st h = some o → arun (f + 1) k pc ls st h = some o
  | 0, _, _, _, _, _, _, e => by cases e
  | f + 1, k, pc, ls, st, h, o, e => by
    unfold arun at e ⊢
    cases hs : stp k pc ls st h with
    | none => rw [hs] at e; cases e
    | some a =>
      rw [hs] at e
      match a, e with
      | .inl (pc', ls', st', h'), e => exact arun_more e
      | .inr (.inl r), e => exact e
      | .inr (.inr (k2, as, pc', st')), e =>
        dsimp only at e ⊢
        cases hc : arun f k2 0 as [] h with
        | none => rw [hc] at e; cases e
        | some q =>
          rw [hc] at e
          rw [arun_more hc]
          obtain ⟨r, h1⟩ := q
          exact arun_more e
theorem arun_le {f g k pc : Nat} {ls : Lo} {st : List Value} {h : Hp} {o : Option Value × Hp} (hfg : f ≤ g) (e : arun f k pc ls st h = some o) : arun g k pc ls st h = some o := by
  induction hfg with
  | refl => exact e
  | step _ ih => exact arun_more ih
def Wp (k pc : Nat) (ls : Lo) (st : List Value) (h : Hp) (Q : Option Value → Hp → Prop) : Prop := ∃ (f : Nat) (r : Option Value) (h' : Hp), arun f k pc ls st h = some (r, h') ∧ Q r h'
theorem Wp_go {k pc : Nat} {ls : Lo} {st : List Value} {h : Hp} {pc' : Nat} {ls' : Lo} {st' : List Value} {h' : Hp} {Q : Option Value → Hp → Prop} (hs : stp k pc ls st h = some (.inl (pc', ls', st', h'))) : Wp k pc ls st h Q ↔ Wp k pc' ls' st' h' Q := by
  constructor
  · rintro ⟨f, r, h1, e, q⟩
    cases f with
    | zero => cases e
    | succ f =>
      unfold arun at e
      rw [hs] at e
      exact ⟨f, r, h1, e, q⟩
  · rintro ⟨f, r, h1, e, q⟩
    refine ⟨f + 1, r, h1, ?_, q⟩
    unfold arun
    rw [hs]
    exact e
theorem Wp_ret {k pc : Nat} {ls : Lo} {st : List Value} {h : Hp} {r : Option Value} {Q : Option Value → Hp → Prop} (hs : stp k pc ls st h = some (.inr (.inl r))) : Wp k pc ls st h Q ↔ Q r h := by
  constructor
  · rintro ⟨f, r', h1, e, q⟩
    cases f with
    | zero => cases e
    | succ f =>
      unfold arun at e
      rw [hs] at e
      cases e
      exact q
  · intro q
    refine ⟨1, r, h, ?_, q⟩
    unfold arun
    rw [hs]
/-- a call that stands before its callee's contract -/
def Call (k2 : Nat) (as : Lo) (h : Hp) (k pc : Nat) (ls : Lo) (st : List Value) (Q : Option Value → Hp → Prop) : Prop := Wp k2 0 as [] h (fun r h1 => Wp k pc ls (r.toList ++ st) h1 Q)
theorem Wp_call {k pc : Nat} {ls : Lo} {st : List Value} {h : Hp} {k2 : Nat} {as : Lo} {pc' : Nat} {st' : List Value} {Q : Option Value → Hp → Prop} (hs : stp k pc ls st h = some (.inr (.inr (k2, as, pc', st')))) : Wp k pc ls st h Q ↔ Call k2 as h k pc' ls st' Q := by
  constructor
  · rintro ⟨f, r, h1, e, q⟩
    cases f with
    | zero => cases e
    | succ f =>
      unfold arun at e
      rw [hs] at e
      dsimp only at e
      cases hc : arun f k2 0 as [] h with
      | none => rw [hc] at e; cases e
      | some w =>
        rw [hc] at e
        obtain ⟨r2, h2⟩ := w
        exact ⟨f, r2, h2, hc, f, r, h1, e, q⟩
  · rintro ⟨f, r2, h2, hc, g, r, h1, e, q⟩
    refine ⟨max f g + 1, r, h1, ?_, q⟩
    unfold arun
    rw [hs]
    dsimp only
    rw [arun_le (Nat.le_max_left f g) hc]
    exact arun_le (Nat.le_max_right f g) e
theorem Wp.mono {k pc : Nat} {ls : Lo} {st : List Value} {h : Hp} {Q Q' : Option Value → Hp → Prop} (hq : ∀ r h', Q r h' → Q' r h') (w : Wp k pc ls st h Q) : Wp k pc ls st h Q' := by
  obtain ⟨f, r, h', e, q⟩ := w
  exact ⟨f, r, h', e, hq r h' q⟩
/-- a branch on a condition -/
def Br (k t f : Nat) (ls : Lo) (st : List Value) (h : Hp) (Q : Option Value → Hp → Prop) (c : Prop) : Prop := (c → Wp k t ls st h Q) ∧ (¬ c → Wp k f ls st h Q)
theorem Br_t {k t f : Nat} {ls : Lo} {st : List Value} {h : Hp} {Q : Option Value → Hp → Prop} : Br k t f ls st h Q True ↔ Wp k t ls st h Q := by simp [Br]
theorem Br_f {k t f : Nat} {ls : Lo} {st : List Value} {h : Hp} {Q : Option Value → Hp → Prop} : Br k t f ls st h Q False ↔ Wp k f ls st h Q := by simp [Br]
theorem Br_of {k t f : Nat} {ls : Lo} {st : List Value} {h : Hp} {Q : Option Value → Hp → Prop} {c : Prop} (ht : c → Wp k t ls st h Q) (hf : ¬ c → Wp k f ls st h Q) : Br k t f ls st h Q c := ⟨ht, hf⟩
theorem Br_if {k t f : Nat} {ls : Lo} {st : List Value} {h : Hp} {Q : Option Value → Hp → Prop} (c : Bool) : Wp k (if c = true then t else f) ls st h Q ↔ Br k t f ls st h Q (c = true) := by
  cases c <;> simp [Br]
