/-! The abstract machine: ints are Int (kept in range by w32), objects are numbers, the memory three functions. -/
abbrev AV : Type := Int ⊕ Value
abbrev Ent : Type := Nat × Instr × Nat × Nat × Int
abbrev Mem : Type := (Nat → Nat × Int) × (Nat → Int → Int) × (Nat → Int → Value) × (Nat × Nat)
def w32 (n : Int) : Int := Int.bmod n 4294967296
def b32 (f : Int32 → Int32 → Int32) (a b : Int) : Int := (f (Int32.ofInt a) (Int32.ofInt b)).toInt
def iand (a b : Int) : Int := b32 (fun x y => x &&& y) a b
def ior (a b : Int) : Int := b32 (fun x y => x ||| y) a b
def ixor (a b : Int) : Int := b32 (fun x y => x ^^^ y) a b
def ishl (a b : Int) : Int := b32 (fun x y => x <<< (y &&& 31)) a b
def ishr (a b : Int) : Int := b32 (fun x y => x >>> (y &&& 31)) a b
def iushr (a b : Int) : Int := b32 (fun x y => (x.toUInt32 >>> (y.toUInt32 &&& Int32.toUInt32 31)).toInt32) a b
def idiv (a b : Int) : Int := b32 (fun x y => x / y) a b
def irem (a b : Int) : Int := b32 (fun x y => x - x / y * y) a b
def ub8 (a : Int) : Int := (Int32.ofInt a).toInt8.toInt32.toInt
def uc16 (a : Int) : Int := ((Int32.ofInt a).toUInt32 % 65536).toInt32.toInt
def M_sh (m : Mem) : Nat → Nat × Int := m.1
def M_i (m : Mem) : Nat → Int → Int := m.2.1
def M_r (m : Mem) : Nat → Int → Value := m.2.2.1
def M_n (m : Mem) : Nat := m.2.2.2.1
def M_s (m : Mem) : Nat := m.2.2.2.2
def upI (f : Int → Int) (k v : Int) : Int → Int := fun j => if j = k then v else f j
def upR (f : Int → Value) (k : Int) (v : Value) : Int → Value := fun j => if j = k then v else f j
def setA (m : Mem) (o : Nat) (f : Int → Int) : Mem := (m.1, (fun a => if a = o then f else m.2.1 a), m.2.2)
def setB (m : Mem) (o : Nat) (f : Int → Value) : Mem := (m.1, m.2.1, (fun a => if a = o then f else m.2.2.1 a), m.2.2.2)
def setI (m : Mem) (o : Nat) (k v : Int) : Mem := setA m o (upI (M_i m o) k v)
def setR (m : Mem) (o : Nat) (k : Int) (v : Value) : Mem := setB m o (upR (M_r m o) k v)
def newM (m : Mem) (κ : Nat) (n : Int) : Mem :=
  ((fun a => if a = M_n m then (κ, n) else m.1 a), (fun a => if a = M_n m then fun _ => 0 else m.2.1 a), (fun a => if a = M_n m then fun _ => .null else m.2.2.1 a), (M_n m + 1, M_s m + n.toNat))
def xcM (m : Mem) : Mem := (m.1, m.2.1, m.2.2.1, (M_n m + 1, M_s m + 6))
def cpy (f g : Int → Int) (sp dp n : Int) : Int → Int := fun k => if dp ≤ k ∧ k < dp + n then f (sp + (k - dp)) else g k
def cat2 : AV → Bool
  | .inr (.double _) => true
  | .inr (.long _) => true
  | _ => false
def clr : Option AV → Option AV
  | some (.inl n) => some (.inl n)
  | some (.inr (.ref a)) => some (.inr (.ref a))
  | some (.inr .null) => some (.inr .null)
  | _ => none
def lget : List (Option AV) → Nat → Option AV
  | [], _ => none
  | x :: _, 0 => x
  | _ :: l, i + 1 => lget l i
def lset : List (Option AV) → Nat → AV → List (Option AV)
  | [], _, _ => []
  | _ :: l, 0, v => some v :: l
  | x :: l, 1, v => clr x :: lset l 0 v
  | x :: l, i + 2, v => x :: lset l (i + 1) v
def lcl : List (Option AV) → List (Option AV)
  | [] => []
  | _ :: l => none :: l
def lset2 : List (Option AV) → Nat → AV → List (Option AV)
  | [], _, _ => []
  | _ :: l, 0, v => some v :: lcl l
  | x :: l, 1, v => clr x :: lset2 l 0 v
  | x :: l, i + 2, v => x :: lset2 l (i + 1) v
def entL : Nat → List AV → List (Option AV)
  | 0, _ => []
  | n + 1, [] => none :: entL n []
  | n + 1, a :: l => some a :: entL n l
def tswT : List Int → Int → Option Int
  | [], _ => none
  | x :: l, i => if i = 0 then some x else tswT l (i - 1)
def tsw (pc : Nat) (dflt lo hi : Int) (offs : Array Int) (n : Int) : Nat :=
  if n < lo ∨ hi < n then ((pc : Int) + dflt).toNat else match tswT offs.toList (n - lo) with
  | some o => ((pc : Int) + o).toNat
  | none => 0
def akOf : ArrayType → Nat
  | .int => 1
  | .boolean => 2
  | .byte => 3
  | .long => 4
  | _ => 0
def ekOf (κ : Nat) : Nat := if κ = 5 then 22 else if κ = 7 then 14 else if κ = 8 then 13 else 0
def icc : Jvm.ClassFile.Cond → Int → Int → Bool
  | .eq, a, b => decide (a = b)
  | .ne, a, b => decide (¬ a = b)
  | .lt, a, b => decide (a < b)
  | .ge, a, b => decide (b ≤ a)
  | .gt, a, b => decide (b < a)
  | .le, a, b => decide (a ≤ b)
/-- what one instruction does: goes on (perhaps at a label), calls, returns, throws -/
abbrev Act : Type := (Option Nat × List (Option AV) × List AV × Mem) ⊕ (Nat × List AV × List AV) ⊕ (Option AV) ⊕ Nat
def goN (ls : List (Option AV)) (st : List AV) (m : Mem) : Option Act := some (.inl (none, ls, st, m))
def goL (t : Nat) (ls : List (Option AV)) (st : List AV) (m : Mem) : Option Act := some (.inl (some t, ls, st, m))
def i2 (f : Int → Int → Int) (ls : List (Option AV)) (st : List AV) (m : Mem) : Option Act := match st with
  | .inl y :: .inl x :: r => goN ls (.inl (f x y) :: r) m
  | _ => none
def i1 (f : Int → AV) (ls : List (Option AV)) (st : List AV) (m : Mem) : Option Act := match st with
  | .inl x :: r => goN ls (f x :: r) m
  | _ => none
def inb (i : Int) (n : Int) : Bool := decide (0 ≤ i ∧ i < n)
def takeA : Nat → List AV → List AV → Option (List AV × List AV)
  | 0, st, acc => some (acc, st)
  | _ + 1, [], _ => none
  | n + 1, x :: st, acc => takeA n st (x :: acc)
def okrecv (κ : Nat) (as : List AV) (m : Mem) : Bool := match as with
  | .inr (.ref o) :: _ => decide ((M_sh m o).1 = κ)
  | _ => false
def retOk (f : Nat) (x : AV) : Bool := match x with
  | .inl n => if f = 1 then decide (n = 0 ∨ n = 1) else if f = 2 then decide (-128 ≤ n ∧ n < 128) else if f = 3 then decide (0 ≤ n ∧ n < 65536) else decide (f = 0)
  | .inr (.ref _) => decide (f = 9)
  | .inr .null => decide (f = 9)
  | .inr (.float _) => decide (f = 8)
  | .inr (.double _) => decide (f = 7)
  | _ => false
def putOk (fl : Nat) (x : AV) : Bool := match x with
  | .inl n => if fl = 2 then decide (n = 0 ∨ n = 1) else decide (fl = 0)
  | .inr .null => decide (fl = 1)
  | .inr (.ref _) => decide (fl = 1)
  | _ => false
def put (m : Mem) (o : Nat) (k : Int) (x : AV) : Mem := match x with
  | .inl n => setI m o k n
  | .inr v => setR m o k v
def step (e : Ent) (ls : List (Option AV)) (st : List AV) (m : Mem) : Option Act :=
  match e.2.1 with
  | .iconst _ => goN ls (.inl e.2.2.2.2 :: st) m
  | .aconst_null => goN ls (.inr (.retAddr 0) :: st) m
  | .ldc _ => goN ls (.inr (.ref e.2.2.1) :: st) m
  | .lconst i => goN ls (.inr (.long (Int64.ofNat i.val)) :: st) m
  | .dconst i => if i.val = 0 then goN ls (.inr (.double 0) :: st) m else none
  | .fconst i => if i.val = 1 then goN ls (.inr (.float 0x3f800000) :: st) m else none
  | .iload _ => match lget ls e.2.2.1 with
    | some (.inl n) => goN ls (.inl n :: st) m
    | _ => none
  | .aload _ => match lget ls e.2.2.1 with
    | some (.inr (.ref a)) => goN ls (.inr (.ref a) :: st) m
    | _ => none
  | .dload _ => match lget ls e.2.2.1 with
    | some (.inr (.double d)) => goN ls (.inr (.double d) :: st) m
    | _ => none
  | .istore _ => match st with
    | .inl n :: r => if e.2.2.1 < ls.length then goN (lset ls e.2.2.1 (.inl n)) r m else none
    | _ => none
  | .astore _ => match st with
    | .inr (.ref a) :: r => if e.2.2.1 < ls.length then goN (lset ls e.2.2.1 (.inr (.ref a))) r m else none
    | _ => none
  | .dstore _ => match st with
    | .inr (.double d) :: r => if e.2.2.1 + 1 < ls.length then goN (lset2 ls e.2.2.1 (.inr (.double d))) r m else none
    | _ => none
  | .iinc _ _ => match lget ls e.2.2.1 with
    | some (.inl n) => goN (lset ls e.2.2.1 (.inl (w32 (n + e.2.2.2.2)))) st m
    | _ => none
  | .iadd => i2 (fun x y => w32 (x + y)) ls st m
  | .isub => i2 (fun x y => w32 (x - y)) ls st m
  | .imul => i2 (fun x y => w32 (x * y)) ls st m
  | .idiv => match st with
    | .inl y :: .inl x :: r => if y = 0 then none else goN ls (.inl (idiv x y) :: r) m
    | _ => none
  | .irem => match st with
    | .inl y :: .inl x :: r => if y = 0 then none else goN ls (.inl (irem x y) :: r) m
    | _ => none
  | .iand => i2 iand ls st m
  | .ior => i2 ior ls st m
  | .ixor => i2 ixor ls st m
  | .ishl => i2 ishl ls st m
  | .ishr => i2 ishr ls st m
  | .iushr => i2 iushr ls st m
  | .ladd => match st with
    | .inl y :: .inl x :: r => if r.length ≤ 4 then goN ls (.inl (if y < x then y else x) :: r) m else none
    | _ => none
  | .land => match st with
    | .inl y :: .inl x :: r => if r.length ≤ 4 then goN ls (.inl (if x < y then y else x) :: r) m else none
    | _ => none
  | .i2b => i1 (fun x => .inl (ub8 x)) ls st m
  | .i2c => i1 (fun x => .inl (uc16 x)) ls st m
  | .i2l => i1 (fun x => .inr (.long (Int32.ofInt x).toInt64)) ls st m
  | .i2d => i1 (fun x => .inr (.double (FP.i2d (Int32.ofInt x)))) ls st m
  | .i2f => i1 (fun x => .inr (.float (FP.i2f (Int32.ofInt x)))) ls st m
  | .ddiv => match st with
    | .inr (.double y) :: .inr (.double x) :: r => if FP.ddiv x y &&& 0x7fffffffffffffff ≤ 0x7ff0000000000000 then goN ls (.inr (.double (FP.ddiv x y)) :: r) m else none
    | _ => none
  | .fdiv => match st with
    | .inr (.float y) :: .inr (.float x) :: r => if FP.fdiv x y &&& 0x7fffffff ≤ 0x7f800000 then goN ls (.inr (.float (FP.fdiv x y)) :: r) m else none
    | _ => none
  | .f2d => match st with
    | .inr (.float x) :: r => if FP.f2d x &&& 0x7fffffffffffffff ≤ 0x7ff0000000000000 then goN ls (.inr (.double (FP.f2d x)) :: r) m else none
    | _ => none
  | .dcmp op => match st with
    | .inr (.double y) :: .inr (.double x) :: r => goN ls (.inl (Op.cmpValue (FP.dcmp x y) op).toInt :: r) m
    | _ => none
  | .lcmp => match st with
    | .inr (.long y) :: .inr (.long x) :: r => goN ls (.inl (lg_cmp x y).toInt :: r) m
    | _ => none
  | .dup => match st with
    | .inl n :: r => goN ls (.inl n :: .inl n :: r) m
    | .inr (.ref a) :: r => goN ls (.inr (.ref a) :: .inr (.ref a) :: r) m
    | _ => none
  | .dup2 => match st with
    | .inl n :: .inr (.ref a) :: r => goN ls (.inl n :: .inr (.ref a) :: .inl n :: .inr (.ref a) :: r) m
    | _ => none
  | .pop => match st with
    | .inl _ :: r => goN ls r m
    | _ => none
  | .checkcast _ => match st with
    | .inr (.ref _) :: r => if r.length ≤ 4 then goN ls r m else none
    | _ => none
  | .ifCond c _ => match st with
    | .inl x :: r => if icc c x 0 then goL e.2.2.1 ls r m else goN ls r m
    | _ => none
  | .if_icmp c _ => match st with
    | .inl y :: .inl x :: r => if icc c x y then goL e.2.2.1 ls r m else goN ls r m
    | _ => none
  | .ifnull _ => match st with
    | .inr (.ref _) :: r => goN ls r m
    | .inr .null :: r => goL e.2.2.1 ls r m
    | _ => none
  | .ifnonnull _ => match st with
    | .inr (.ref _) :: r => goL e.2.2.1 ls r m
    | .inr .null :: r => goN ls r m
    | _ => none
  | .goto _ => goL e.2.2.1 ls st m
  | .goto_w _ => goL e.2.2.1 ls st m
  | .tableswitch d lo hi offs => match st with
    | .inl n :: r => goL (tsw e.1 d lo hi offs n) ls r m
    | _ => none
  | .getfield _ => match st with
    | .inr (.ref o) :: r => if (M_sh m o).1 = e.2.2.1 then (if e.2.2.2.1 = 1 then goN ls (.inr (M_r m o e.2.2.2.2) :: r) m else goN ls (.inl (M_i m o e.2.2.2.2) :: r) m) else none
    | _ => none
  | .putfield _ => match st with
    | x :: .inr (.ref o) :: r => if (M_sh m o).1 = e.2.2.1 ∧ putOk e.2.2.2.1 x = true then goN ls r (put m o e.2.2.2.2 x) else none
    | _ => none
  | .arraylength => match st with
    | .inr (.ref o) :: r => if 1 ≤ (M_sh m o).1 ∧ (M_sh m o).1 ≤ 8 then goN ls (.inl (M_sh m o).2 :: r) m else none
    | _ => none
  | .iaload => match st with
    | .inl i :: .inr (.ref o) :: r => if (M_sh m o).1 = 1 ∧ inb i (M_sh m o).2 = true then goN ls (.inl (M_i m o i) :: r) m else none
    | _ => none
  | .baload => match st with
    | .inl i :: .inr (.ref o) :: r => if ((M_sh m o).1 = 2 ∨ (M_sh m o).1 = 3) ∧ inb i (M_sh m o).2 = true then goN ls (.inl (M_i m o i) :: r) m else none
    | _ => none
  | .laload => match st with
    | .inl i :: .inr (.ref o) :: r => if (M_sh m o).1 = 4 ∧ inb i (M_sh m o).2 = true then goN ls (.inr (.long (Int32.ofInt (M_i m o i)).toInt64) :: r) m else none
    | _ => none
  | .aaload => match st with
    | .inl i :: .inr (.ref o) :: r => if (5 ≤ (M_sh m o).1 ∧ (M_sh m o).1 ≤ 8) ∧ inb i (M_sh m o).2 = true then goN ls (.inr (M_r m o i) :: r) m else none
    | _ => none
  | .iastore => match st with
    | .inl x :: .inl i :: .inr (.ref o) :: r => if (64 ≤ o ∧ (M_sh m o).1 = 1) ∧ inb i (M_sh m o).2 = true then goN ls r (setI m o i x) else none
    | _ => none
  | .bastore => match st with
    | .inl x :: .inl i :: .inr (.ref o) :: r => if (64 ≤ o ∧ (((M_sh m o).1 = 2 ∧ (x = 0 ∨ x = 1)) ∨ ((M_sh m o).1 = 3 ∧ -128 ≤ x ∧ x < 128))) ∧ inb i (M_sh m o).2 = true then goN ls r (setI m o i x) else none
    | _ => none
  | .lastore => match st with
    | .inr (.long x) :: .inl i :: .inr (.ref o) :: r => if (64 ≤ o ∧ (M_sh m o).1 = 4) ∧ inb i (M_sh m o).2 = true ∧ x.toInt32.toInt64 = x then goN ls r (setI m o i x.toInt32.toInt) else none
    | _ => none
  | .aastore => match st with
    | .inr (.ref x) :: .inl i :: .inr (.ref o) :: r => if (64 ≤ o ∧ ((M_sh m o).1 = 5 ∨ (M_sh m o).1 = 7 ∨ (M_sh m o).1 = 8)) ∧ inb i (M_sh m o).2 = true ∧ (M_sh m x).1 = ekOf (M_sh m o).1 then goN ls r (setR m o i (.ref x)) else none
    | .inr .null :: .inl i :: .inr (.ref o) :: r => if (64 ≤ o ∧ (M_sh m o).1 = 7) ∧ inb i (M_sh m o).2 = true then goN ls r (setR m o i .null) else none
    | _ => none
  | .newarray t => match st with
    | .inl n :: r => if 1 ≤ akOf t ∧ 0 ≤ n ∧ n ≤ 100000 then goN ls (.inr (.ref (M_n m)) :: r) (newM m (akOf t) n) else none
    | _ => none
  | .anewarray _ => match st with
    | .inl n :: r => if 0 ≤ n ∧ n ≤ 100000 then goN ls (.inr (.ref (M_n m)) :: r) (newM m e.2.2.1 n) else none
    | _ => none
  | .new _ => goN ls (.inr (.ref (M_n m)) :: st) (newM m e.2.2.1 e.2.2.2.1)
  | .invokedynamic _ => match st with
    | .inl n :: .inl dp :: .inr (.ref d) :: .inl sp :: .inr (.ref s) :: r => if (r.length ≤ 4 ∧ 64 ≤ d) ∧ ((M_sh m s).1 = 1 ∨ (M_sh m s).1 = 2) ∧ (M_sh m d).1 = (M_sh m s).1 ∧ 0 ≤ n ∧ 0 ≤ sp ∧ 0 ≤ dp ∧ sp + n ≤ (M_sh m s).2 ∧ dp + n ≤ (M_sh m d).2 then goN ls r (setA m d (cpy (M_i m s) (M_i m d) sp dp n)) else none
    | _ => none
  | .invokevirtual _ => match takeA e.2.2.2.1 st [] with
    | some (as, r) => if okrecv e.2.2.2.2.toNat as m = true ∧ r.length ≤ 4 then some (.inr (.inl (e.2.2.1, as, r))) else none
    | none => none
  | .invokespecial _ => match takeA e.2.2.2.1 st [] with
    | some (as, r) => if okrecv e.2.2.2.2.toNat as m = true ∧ r.length ≤ 4 then some (.inr (.inl (e.2.2.1, as, r))) else none
    | none => none
  | .invokestatic _ => match takeA e.2.2.2.1 st [] with
    | some (as, r) => if r.length ≤ 4 then some (.inr (.inl (e.2.2.1, as, r))) else none
    | none => none
  | .ireturn => match st with
    | x :: [] => if retOk e.2.2.2.1 x = true then some (.inr (.inr (.inl (some x)))) else none
    | _ => none
  | .return_ => match st with
    | [] => some (.inr (.inr (.inl none)))
    | _ => none
  | .athrow => if st.length ≤ 4 then some (.inr (.inr (.inr e.2.2.1))) else none
  | _ => none
