noncomputable section
/-! An evaluator over ranges: one run of the machine for all values of a script that lie in a box. Written for the kernel: small definitions, recursors, forced values. -/
abbrev IV : Type := Int ⊕ ((Int × Int) ⊕ Nat)
abbrev Tr (α : Type) : Type := Std.DTreeMap.Internal.Impl Unit (fun _ => α)
def tget {α : Type} (d : α) (t : Tr α) : Nat → α := Std.DTreeMap.Internal.Impl.rec (motive := fun _ => Nat → α) (fun _ _ v _ _ il ir k => bif Nat.beq k (nat_lit 0) then v else bif Nat.beq (Nat.mod k (nat_lit 2)) (nat_lit 1) then il (Nat.div k (nat_lit 2)) else ir (Nat.sub (Nat.div k (nat_lit 2)) (nat_lit 1))) (fun _ => d) t
abbrev nd {α : Type} (v : α) (l r : Tr α) : Tr α := .inner (nat_lit 0) () v l r
def mpL {α : Type} (w : α) (r : Tr α) : Option (Tr α) → Option (Tr α)
  | some t => some (nd w t r)
  | none => none
def mpR {α : Type} (w : α) (l : Tr α) : Option (Tr α) → Option (Tr α)
  | some t => some (nd w l t)
  | none => none
def tsetN {α : Type} (v : α) (ih : Tr α → Nat → Option (Tr α)) (w : α) (l r : Tr α) (k : Nat) : Option (Tr α) :=
  bif Nat.beq k (nat_lit 0) then some (nd v l r) else bif Nat.beq (Nat.mod k (nat_lit 2)) (nat_lit 1) then mpL w r (ih l (Nat.div k (nat_lit 2))) else mpR w l (ih r (Nat.sub (Nat.div k (nat_lit 2)) (nat_lit 1)))
def tsetT {α : Type} (d v : α) (ih : Tr α → Nat → Option (Tr α)) (t : Tr α) (k : Nat) : Option (Tr α) := match t with
  | .leaf => tsetN v ih d .leaf .leaf k
  | .inner _ _ w l r => tsetN v ih w l r k
def tset {α : Type} (d v : α) (f : Nat) : Tr α → Nat → Option (Tr α) := Nat.rec (fun _ _ => none) (fun _ ih => tsetT d v ih) f
def tcp {α : Type} (ds d : α) (src dst : Tr α) (sp dp : Nat) : Nat → Tr α
  | 0 => dst
  | c + 1 => match tset d (tget ds src (sp + c)) 24 (tcp ds d src dst sp dp c) (dp + c) with
    | some t => t
    | none => dst
def tof {α : Type} (g : Nat → α) : Nat → Tr α
  | 0 => .leaf
  | f + 1 => nd (g 0) (tof (fun i => g (2 * i + 1)) f) (tof (fun i => g (2 * i + 2)) f)
def tol {α : Type} (d : α) (l : List α) (f : Nat) : Tr α := tof (fun i => l.getD i d) f
/-- an object: kind, length, what stands where nothing is told, ints, references -/
abbrev Ob : Type := Nat × IV × IV × Tr IV × Tr Value
abbrev AM : Type := Tr Ob × Nat × Nat
abbrev AB : Type := IV ⊕ Value
abbrev ALs : Type := List (Option AB)
abbrev AAct : Type := (ALs × List AB × AM) ⊕ ((Nat × ALs × List AB × AM) ⊕ ((Nat × List AB × List AB) ⊕ (Option AB ⊕ Nat)))
def oo : Ob := (nat_lit 0, (.inl (.ofNat (nat_lit 0))), (.inl (.ofNat (nat_lit 0))), .leaf, .leaf)
def fn (n : Nat) : Option Nat := Nat.rec (some (nat_lit 0)) (fun m _ => some (Nat.succ m)) n
def fz (x : Int) : Option Int := match x with
  | .ofNat n => Nat.rec (some (.ofNat (nat_lit 0))) (fun m _ => some (.ofNat (Nat.succ m))) n
  | .negSucc n => Nat.rec (some (.negSucc (nat_lit 0))) (fun m _ => some (.negSucc (Nat.succ m))) n
def ltI (x y : Int) : Bool := match x, y with
  | .ofNat a, .ofNat b => Nat.ble (Nat.succ a) b
  | .negSucc _, .ofNat _ => true
  | .ofNat _, .negSucc _ => false
  | .negSucc a, .negSucc b => Nat.ble (Nat.succ b) a
def eqI (x y : Int) : Bool := match x, y with
  | .ofNat a, .ofNat b => Nat.beq a b
  | .negSucc a, .negSucc b => Nat.beq a b
  | .ofNat _, .negSucc _ => false
  | .negSucc _, .ofNat _ => false
def ngI (x : Int) : Bool := match x with
  | .ofNat _ => false
  | .negSucc _ => true
def okRg (n : Int) : Bool := match n with
  | .ofNat a => Nat.ble a 2147483647
  | .negSucc a => Nat.ble a 2147483647
def w32a (n : Int) : Int := bif okRg n then n else w32 n
/-- a comparison of two ranges -/
def acmp (c : Jvm.ClassFile.Cond) (p q u v : Int) : Option Bool := match c with
  | .lt => bif ltI q u then some true else bif ltI p v then none else some false
  | .ge => bif ltI q u then some false else bif ltI p v then none else some true
  | .gt => bif ltI v p then some true else bif ltI u q then none else some false
  | .le => bif ltI v p then some false else bif ltI u q then none else some true
  | .eq => bif ltI q u then some false else bif ltI v p then some false else bif eqI p q && eqI u v then some true else none
  | .ne => bif ltI q u then some true else bif ltI v p then some true else bif eqI p q && eqI u v then some false else none
def acc1 (c : Jvm.ClassFile.Cond) (p u : Int) : Bool := match c with
  | .lt => ltI p u
  | .ge => !ltI p u
  | .gt => ltI u p
  | .le => !ltI u p
  | .eq => eqI p u
  | .ne => !eqI p u
def aicc (c : Jvm.ClassFile.Cond) (a b : IV) : Option Bool := match a, b with
  | (.inl p), (.inl u) => some (acc1 c p u)
  | (.inl p), (.inr (.inl (u, v))) => acmp c p p u v
  | (.inr (.inl (p, q))), (.inl u) => acmp c p q u u
  | (.inr (.inl (p, q))), (.inr (.inl (u, v))) => acmp c p q u v
  | _, _ => none
def topV : IV := (.inr (.inl ((-2147483648), 2147483647)))
abbrev Hn : Type := ALs → List AB → AM → Option AAct
def mkI (ls : ALs) (r : List AB) (m : AM) (z : Int) : Option AAct := match fz z with
  | some z => some ((.inl (ls, ((.inl ((.inl z))) :: r), m)))
  | none => none
def h_i2 (f : Int → Int → Int) : Hn := fun ls st m => match st with
  | (.inl ((.inl y))) :: (.inl ((.inl x))) :: r => mkI ls r m (f x y)
  | (.inl _) :: (.inl _) :: r => some ((.inl (ls, ((.inl topV) :: r), m)))
  | _ => none
def a_rng (ls : ALs) (r : List AB) (m : AM) (a b : Int) : Option AAct := bif okRg a && okRg b then some ((.inl (ls, ((.inl ((.inr (.inl (a, b))))) :: r), m))) else some ((.inl (ls, ((.inl topV) :: r), m)))
def h_add : Hn := fun ls st m => match st with
  | (.inl ((.inl y))) :: (.inl ((.inl x))) :: r => mkI ls r m (w32a (Int.add x y))
  | (.inl ((.inl y))) :: (.inl ((.inr (.inl (a, b))))) :: r => a_rng ls r m (Int.add a y) (Int.add b y)
  | (.inl _) :: (.inl _) :: r => some ((.inl (ls, ((.inl topV) :: r), m)))
  | _ => none
def h_sub : Hn := fun ls st m => match st with
  | (.inl ((.inl y))) :: (.inl ((.inl x))) :: r => mkI ls r m (w32a (Int.sub x y))
  | (.inl _) :: (.inl _) :: r => some ((.inl (ls, ((.inl topV) :: r), m)))
  | _ => none
def mulA (x y : Int) : Int := w32a (Int.mul x y)
def andA (x y : Int) : Int := match x, y with
  | .ofNat a, .ofNat b => bif Nat.ble a 2147483647 && Nat.ble b 2147483647 then .ofNat (Nat.land a b) else iand x y
  | _, _ => iand x y
def shrA (x y : Int) : Int := match x, y with
  | .ofNat a, .ofNat b => bif Nat.ble a 2147483647 && Nat.ble b 31 then .ofNat (Nat.shiftRight a b) else ishr x y
  | _, _ => ishr x y
def shlA (x y : Int) : Int := match x, y with
  | .ofNat a, .ofNat b => bif Nat.beq a 1 && Nat.ble b 30 then .ofNat (Nat.shiftLeft 1 b) else ishl x y
  | _, _ => ishl x y
def h_and (sel : Option Int) : Hn := fun ls st m => match st with
  | (.inl ((.inl y))) :: (.inl ((.inl x))) :: r => mkI ls r m (andA x y)
  | (.inl ((.inl y))) :: (.inl ((.inr (.inr j)))) :: r => bif eqI y 63 && Nat.beq j 0 then (match sel with
    | some z => mkI ls r m z
    | none => none) else none
  | (.inl _) :: (.inl _) :: r => some ((.inl (ls, ((.inl topV) :: r), m)))
  | _ => none
def alget (l : ALs) : Nat → Option AB := List.rec (fun _ => none) (fun x _ ih k => Nat.rec x (fun k' _ => ih k') k) l
def aclr : Option AB → Option AB
  | some ((.inl n)) => some ((.inl n))
  | some ((.inr (.ref a))) => some ((.inr (.ref a)))
  | some ((.inr .null)) => some ((.inr .null))
  | _ => none
def alsC (x : Option AB) : Option ALs → Option ALs
  | some l => some (x :: l)
  | none => none
/-- the place ahead of the one that is set -/
def alsD (x : Option AB) (l : Option ALs) : Option ALs := match aclr x with
  | some a => alsC (some a) l
  | none => alsC none l
def alset (v : AB) (l : ALs) : Nat → Option ALs := List.rec (fun _ => none) (fun x l ih k => Nat.rec (some (some v :: l)) (fun k' _ => bif Nat.beq k' (nat_lit 0) then alsD x (ih k') else alsC x (ih k')) k) l
def alcl : ALs → ALs
  | [] => []
  | _ :: l => none :: l
def alset2 (v : AB) (l : ALs) : Nat → Option ALs := List.rec (fun _ => none) (fun x l ih k => Nat.rec (some (some v :: alcl l)) (fun k' _ => bif Nat.beq k' (nat_lit 0) then alsD x (ih k') else alsC x (ih k')) k) l
def aent (n : Nat) : List AB → ALs := Nat.rec (fun _ => []) (fun _ ih l => match l with
  | [] => none :: ih []
  | a :: l => some a :: ih l) n
/-- an int of an object set -/
def a_put (ls : ALs) (r : List AB) (n s : Nat) : Option (Tr Ob) → Option AAct
  | some t => some ((.inl (ls, r, ⟨t, n, s⟩)))
  | none => none
def a_seti (ls : ALs) (r : List AB) (t : Tr Ob) (n s a κ : Nat) (l d : IV) (tr : Tr Value) : Option (Tr IV) → Option AAct
  | some ti => a_put ls r n s (tset oo ⟨κ, l, d, ti, tr⟩ 24 t a)
  | none => none
def a_setr (ls : ALs) (r : List AB) (t : Tr Ob) (n s a κ : Nat) (l d : IV) (ti : Tr IV) : Option (Tr Value) → Option AAct
  | some tr => a_put ls r n s (tset oo ⟨κ, l, d, ti, tr⟩ 24 t a)
  | none => none
def sameV (v w : IV) : Bool := match v with
  | (.inl a) => (match w with
    | (.inl b) => eqI a b
    | _ => false)
  | _ => false
def a_wr (ls : ALs) (r : List AB) (m : AM) (a κ : Nat) (l d : IV) (ti : Tr IV) (tr : Tr Value) (k : Nat) (v : IV) : Option AAct :=
  bif sameV v (tget d ti k) then some ((.inl (ls, r, m))) else match m with
  | ⟨t, n, s⟩ => a_seti ls r t n s a κ l d tr (tset d v 24 ti k)
def a_wrr (ls : ALs) (r : List AB) (m : AM) (a κ : Nat) (l d : IV) (ti : Tr IV) (tr : Tr Value) (k : Nat) (v : Value) : Option AAct := match m with
  | ⟨t, n, s⟩ => a_setr ls r t n s a κ l d ti (tset .null v 24 tr k)
def a_new (ls : ALs) (r : List AB) (m : AM) (κ : Nat) (len : Int) : Option AAct := match m with
  | ⟨t, n, s⟩ => match fn n with
    | some n => a_put ls ((.inr (.ref n)) :: r) (Nat.succ n) (s + len.toNat) (tset oo ⟨κ, (.inl len), (.inl (.ofNat (nat_lit 0))), .leaf, .leaf⟩ 24 t n)
    | none => none
def ainb (i : Int) (n : IV) : Bool := match n with
  | (.inl n) => bif ngI i then false else ltI i n
  | _ => false
def atake (n : Nat) : List AB → List AB → Option (List AB × List AB) := Nat.rec (fun st acc => some (acc, st)) (fun _ ih st acc => match st with
  | [] => none
  | x :: st => ih st (x :: acc)) n
def aokrecv (κ : Nat) (as : List AB) (m : AM) : Bool := match as with
  | (.inr (.ref o)) :: _ => Nat.beq (tget oo m.1 o).1 κ
  | _ => false
def aret (f : Nat) (x : AB) : Bool := match x with
  | (.inl ((.inl n))) => bif Nat.beq f 1 then eqI n 0 || eqI n 1 else bif Nat.beq f 2 then ltI (-129) n && ltI n 128 else bif Nat.beq f 3 then ltI (-1) n && ltI n 65536 else Nat.beq f 0
  | (.inl _) => Nat.beq f 0
  | (.inr (.ref _)) => Nat.beq f 9
  | (.inr .null) => Nat.beq f 9
  | (.inr (.float _)) => Nat.beq f 8
  | (.inr (.double _)) => Nat.beq f 7
  | _ => false
def tall (v : Int) (d : IV) (t : Tr IV) (lo : Nat) : Nat → Bool
  | 0 => true
  | c + 1 => (match tget d t (lo + c) with | (.inl w) => eqI w v | _ => false) && tall v d t lo c
/-- a place of an array of ints -/
def a_ld (ls : ALs) (r : List AB) (m : AM) (n d : IV) (t : Tr IV) (i : IV) : Option AAct := match i with
  | (.inl i) => bif ainb i n then some ((.inl (ls, ((.inl (tget d t i.toNat)) :: r), m))) else none
  | (.inr (.inl (lo, hi))) => bif ainb lo n && ainb hi n then (match tget d t lo.toNat with
      | (.inl v) => bif tall v d t lo.toNat (hi - lo + 1).toNat then some ((.inl (ls, ((.inl ((.inl v))) :: r), m))) else none
      | _ => none) else none
  | (.inr (.inr _)) => none
def shortS (r : List AB) : Bool := match r with
  | _ :: _ :: _ :: _ :: _ :: _ => false
  | _ => true
def h_psh (a : AB) : Hn := fun ls st m => some ((.inl (ls, (a :: st), m)))
def h_iload (k : Nat) : Hn := fun ls st m => match alget ls k with
  | some ((.inl n)) => some ((.inl (ls, ((.inl n) :: st), m)))
  | _ => none
def h_aload (k : Nat) : Hn := fun ls st m => match alget ls k with
  | some ((.inr (.ref a))) => some ((.inl (ls, ((.inr (.ref a)) :: st), m)))
  | _ => none
def h_dload (k : Nat) : Hn := fun ls st m => match alget ls k with
  | some ((.inr (.double d))) => some ((.inl (ls, ((.inr (.double d)) :: st), m)))
  | _ => none
def a_sl (st : List AB) (m : AM) : Option ALs → Option AAct
  | some ls => some ((.inl (ls, st, m)))
  | none => none
def h_istore (k : Nat) : Hn := fun ls st m => match st with
  | (.inl n) :: r => a_sl r m (alset ((.inl n)) ls k)
  | _ => none
def h_astore (k : Nat) : Hn := fun ls st m => match st with
  | (.inr (.ref a)) :: r => a_sl r m (alset ((.inr (.ref a))) ls k)
  | _ => none
def h_dstore (k : Nat) : Hn := fun ls st m => match st with
  | (.inr (.double d)) :: r => bif Nat.ble (k + 2) ls.length then a_sl r m (alset2 ((.inr (.double d))) ls k) else none
  | _ => none
def a_inc (ls : ALs) (st : List AB) (m : AM) (k : Nat) : Option Int → Option AAct
  | some z => a_sl st m (alset ((.inl ((.inl z)))) ls k)
  | none => none
def h_iinc (k : Nat) (d : Int) : Hn := fun ls st m => match alget ls k with
  | some ((.inl ((.inl n)))) => a_inc ls st m k (fz (w32a (Int.add n d)))
  | _ => none
def h_idiv : Hn := fun ls st m => match st with
  | (.inl ((.inl y))) :: (.inl ((.inl x))) :: r => bif eqI y 0 then none else mkI ls r m (idiv x y)
  | _ => none
def h_irem : Hn := fun ls st m => match st with
  | (.inl ((.inl y))) :: (.inl ((.inl x))) :: r => bif eqI y 0 then none else mkI ls r m (irem x y)
  | _ => none
def h_min : Hn := fun ls st m => match st with
  | (.inl ((.inl y))) :: (.inl ((.inl x))) :: r => bif shortS r then mkI ls r m (bif ltI y x then y else x) else none
  | _ => none
def h_max : Hn := fun ls st m => match st with
  | (.inl ((.inl y))) :: (.inl ((.inl x))) :: r => bif shortS r then mkI ls r m (bif ltI x y then y else x) else none
  | _ => none
def h_i2b : Hn := fun ls st m => match st with
  | (.inl ((.inl x))) :: r => mkI ls r m (ub8 x)
  | (.inl _) :: r => some ((.inl (ls, ((.inl ((.inr (.inl ((-128), 127))))) :: r), m)))
  | _ => none
def h_i1 (f : Int → AB) : Hn := fun ls st m => match st with
  | (.inl ((.inl x))) :: r => some ((.inl (ls, (f x :: r), m)))
  | _ => none
def h_i2c : Hn := fun ls st m => match st with
  | (.inl ((.inl x))) :: r => mkI ls r m (uc16 x)
  | _ => none
def h_ddiv : Hn := fun ls st m => match st with
  | (.inr (.double y)) :: (.inr (.double x)) :: r => if FP.ddiv x y &&& 0x7fffffffffffffff ≤ 0x7ff0000000000000 then some ((.inl (ls, ((.inr (.double (FP.ddiv x y))) :: r), m))) else none
  | _ => none
def h_fdiv : Hn := fun ls st m => match st with
  | (.inr (.float y)) :: (.inr (.float x)) :: r => if FP.fdiv x y &&& 0x7fffffff ≤ 0x7f800000 then some ((.inl (ls, ((.inr (.float (FP.fdiv x y))) :: r), m))) else none
  | _ => none
def h_f2d : Hn := fun ls st m => match st with
  | (.inr (.float x)) :: r => if FP.f2d x &&& 0x7fffffffffffffff ≤ 0x7ff0000000000000 then some ((.inl (ls, ((.inr (.double (FP.f2d x))) :: r), m))) else none
  | _ => none
def h_dcmp (op : CmpOp) : Hn := fun ls st m => match st with
  | (.inr (.double y)) :: (.inr (.double x)) :: r => mkI ls r m (Op.cmpValue (FP.dcmp x y) op).toInt
  | _ => none
def h_lcmp : Hn := fun ls st m => match st with
  | (.inr (.long y)) :: (.inr (.long x)) :: r => mkI ls r m (lg_cmp x y).toInt
  | _ => none
def h_dup : Hn := fun ls st m => match st with
  | (.inl n) :: r => some ((.inl (ls, ((.inl n) :: (.inl n) :: r), m)))
  | (.inr (.ref a)) :: r => some ((.inl (ls, ((.inr (.ref a)) :: (.inr (.ref a)) :: r), m)))
  | _ => none
def h_dup2 : Hn := fun ls st m => match st with
  | (.inl n) :: (.inr (.ref a)) :: r => some ((.inl (ls, ((.inl n) :: (.inr (.ref a)) :: (.inl n) :: (.inr (.ref a)) :: r), m)))
  | _ => none
def h_pop : Hn := fun ls st m => match st with
  | (.inl _) :: r => some ((.inl (ls, r, m)))
  | _ => none
def h_chk : Hn := fun ls st m => match st with
  | (.inr (.ref _)) :: r => bif shortS r then some ((.inl (ls, r, m))) else none
  | _ => none
def a_br (t : Nat) (ls : ALs) (r : List AB) (m : AM) : Option Bool → Option AAct
  | some b => bif b then some ((.inr (.inl (t, ls, r, m)))) else some ((.inl (ls, r, m)))
  | none => none
def h_if1 (c : Jvm.ClassFile.Cond) (t : Nat) : Hn := fun ls st m => match st with
  | (.inl x) :: r => a_br t ls r m (aicc c x ((.inl 0)))
  | _ => none
def h_if2 (c : Jvm.ClassFile.Cond) (t : Nat) : Hn := fun ls st m => match st with
  | (.inl y) :: (.inl x) :: r => a_br t ls r m (aicc c x y)
  | _ => none
def h_nul (t : Nat) : Hn := fun ls st m => match st with
  | (.inr (.ref _)) :: r => some ((.inl (ls, r, m)))
  | (.inr .null) :: r => some ((.inr (.inl (t, ls, r, m))))
  | _ => none
def h_nnl (t : Nat) : Hn := fun ls st m => match st with
  | (.inr (.ref _)) :: r => some ((.inr (.inl (t, ls, r, m))))
  | (.inr .null) :: r => some ((.inl (ls, r, m)))
  | _ => none
def h_goto (t : Nat) : Hn := fun ls st m => some ((.inr (.inl (t, ls, st, m))))
def h_tsw (pc : Nat) (d lo hi : Int) (offs : Array Int) : Hn := fun ls st m => match st with
  | (.inl ((.inl n))) :: r => (match fn (tsw pc d lo hi offs n) with
    | some t => some ((.inr (.inl (t, ls, r, m))))
    | none => none)
  | (.inl ((.inr (.inl (a, b))))) :: r => bif ltI b lo || ltI hi a then (match fn (Int.add pc d).toNat with
    | some t => some ((.inr (.inl (t, ls, r, m))))
    | none => none) else none
  | _ => none
def h_gfi (κ k : Nat) : Hn := fun ls st m => match st with
  | (.inr (.ref o)) :: r => (match tget oo m.1 o with
    | ⟨κ', _, d, ti, _⟩ => bif Nat.beq κ' κ then some ((.inl (ls, ((.inl (tget d ti k)) :: r), m))) else none)
  | _ => none
def h_gfr (κ k : Nat) : Hn := fun ls st m => match st with
  | (.inr (.ref o)) :: r => (match tget oo m.1 o with
    | ⟨κ', _, _, _, tr⟩ => bif Nat.beq κ' κ then some ((.inl (ls, ((.inr (tget .null tr k)) :: r), m))) else none)
  | _ => none
def okPut (fl : Nat) (x : IV) : Bool := bif Nat.beq fl 2 then (match x with | (.inl x) => eqI x 0 || eqI x 1 | _ => false) else Nat.beq fl 0
def isRf (x : Value) : Bool := match x with
  | .null => true
  | .ref _ => true
  | _ => false
def h_put (κ fl k : Nat) : Hn := fun ls st m => match st with
  | (.inl x) :: (.inr (.ref o)) :: r => (match tget oo m.1 o with
    | ⟨κ', n, d, ti, tr⟩ => bif Nat.beq κ' κ && okPut fl x then a_wr ls r m o κ' n d ti tr k x else none)
  | (.inr x) :: (.inr (.ref o)) :: r => (match tget oo m.1 o with
    | ⟨κ', n, d, ti, tr⟩ => bif Nat.beq κ' κ && Nat.beq fl 1 && isRf x then a_wrr ls r m o κ' n d ti tr k x else none)
  | _ => none
def h_len : Hn := fun ls st m => match st with
  | (.inr (.ref o)) :: r => (match tget oo m.1 o with
    | ⟨κ, n, _, _, _⟩ => bif Nat.ble 1 κ && Nat.ble κ 8 then some ((.inl (ls, ((.inl n) :: r), m))) else none)
  | _ => none
def h_iald : Hn := fun ls st m => match st with
  | (.inl i) :: (.inr (.ref o)) :: r => (match tget oo m.1 o with
    | ⟨κ, n, d, ti, _⟩ => bif Nat.beq κ 1 then a_ld ls r m n d ti i else none)
  | _ => none
def h_bald : Hn := fun ls st m => match st with
  | (.inl i) :: (.inr (.ref o)) :: r => (match tget oo m.1 o with
    | ⟨κ, n, d, ti, _⟩ => bif Nat.beq κ 2 || Nat.beq κ 3 then a_ld ls r m n d ti i else none)
  | _ => none
def h_lald : Hn := fun ls st m => match st with
  | (.inl ((.inl i))) :: (.inr (.ref o)) :: r => (match tget oo m.1 o with
    | ⟨κ, n, d, ti, _⟩ => bif Nat.beq κ 4 && ainb i n then (match tget d ti i.toNat with
      | (.inl w) => some ((.inl (ls, ((.inr (.long (Int32.ofInt w).toInt64)) :: r), m)))
      | _ => none) else none)
  | _ => none
def h_aald : Hn := fun ls st m => match st with
  | (.inl ((.inl i))) :: (.inr (.ref o)) :: r => (match tget oo m.1 o with
    | ⟨κ, n, _, _, tr⟩ => bif Nat.ble 5 κ && Nat.ble κ 8 && ainb i n then some ((.inl (ls, ((.inr (tget .null tr i.toNat)) :: r), m))) else none)
  | _ => none
def h_iast : Hn := fun ls st m => match st with
  | (.inl x) :: (.inl ((.inl i))) :: (.inr (.ref o)) :: r => (match tget oo m.1 o with
    | ⟨κ, n, d, ti, tr⟩ => bif Nat.ble 64 o && Nat.beq κ 1 && ainb i n then a_wr ls r m o κ n d ti tr i.toNat x else none)
  | _ => none
def okB8 (κ : Nat) (x : IV) : Bool := match x with
  | (.inl a) => (Nat.beq κ 2 && (eqI a 0 || eqI a 1)) || (Nat.beq κ 3 && ltI (-129) a && ltI a 128)
  | (.inr (.inl (a, b))) => Nat.beq κ 3 && ltI (-129) a && ltI b 128
  | (.inr (.inr _)) => false
def h_bast : Hn := fun ls st m => match st with
  | (.inl x) :: (.inl ((.inl i))) :: (.inr (.ref o)) :: r => (match tget oo m.1 o with
    | ⟨κ, n, d, ti, tr⟩ => bif Nat.ble 64 o && okB8 κ x && ainb i n then a_wr ls r m o κ n d ti tr i.toNat x else none)
  | _ => none
def h_last : Hn := fun ls st m => match st with
  | (.inr (.long x)) :: (.inl ((.inl i))) :: (.inr (.ref o)) :: r => (match tget oo m.1 o with
    | ⟨κ, n, d, ti, tr⟩ => bif Nat.ble 64 o && Nat.beq κ 4 && ainb i n && decide (x.toInt32.toInt64 = x) then (match fz x.toInt32.toInt with
      | some z => a_wr ls r m o κ n d ti tr i.toNat ((.inl z))
      | none => none) else none)
  | _ => none
def okAa (κ κx : Nat) : Bool := (Nat.beq κ 5 || Nat.beq κ 7 || Nat.beq κ 8) && Nat.beq κx (ekOf κ)
def h_aast : Hn := fun ls st m => match st with
  | (.inr (.ref x)) :: (.inl ((.inl i))) :: (.inr (.ref o)) :: r => (match tget oo m.1 o with
    | ⟨κ, n, d, ti, tr⟩ => bif Nat.ble 64 o && okAa κ (tget oo m.1 x).1 && ainb i n then a_wrr ls r m o κ n d ti tr i.toNat (.ref x) else none)
  | (.inr .null) :: (.inl ((.inl i))) :: (.inr (.ref o)) :: r => (match tget oo m.1 o with
    | ⟨κ, n, d, ti, tr⟩ => bif Nat.ble 64 o && Nat.beq κ 7 && ainb i n then a_wrr ls r m o κ n d ti tr i.toNat .null else none)
  | _ => none
def h_newa (κ : Nat) : Hn := fun ls st m => match st with
  | (.inl ((.inl n))) :: r => bif Nat.ble 1 κ && !ngI n && ltI n 100001 then a_new ls r m κ n else none
  | _ => none
def h_anew (κ : Nat) : Hn := fun ls st m => match st with
  | (.inl ((.inl n))) :: r => bif !ngI n && ltI n 100001 then a_new ls r m κ n else none
  | _ => none
def h_new (κ : Nat) (n : Int) : Hn := fun ls st m => a_new ls st m κ n
def okCp (κs κd d : Nat) (ns nl n sp dp : Int) : Bool := Nat.ble 64 d && (Nat.beq κs 1 || Nat.beq κs 2) && Nat.beq κd κs && !ngI n && !ngI sp && !ngI dp && !ltI ns (Int.add sp n) && !ltI nl (Int.add dp n) && ltI (Int.add dp n) 1000000
def h_cpy : Hn := fun ls st m => match st with
  | (.inl ((.inl n))) :: (.inl ((.inl dp))) :: (.inr (.ref d)) :: (.inl ((.inl sp))) :: (.inr (.ref s)) :: r => (match tget oo m.1 s with
    | ⟨κs, (.inl ns), ds, ts, _⟩ => (match tget oo m.1 d with
      | ⟨κd, (.inl nl), dd, td, rd⟩ => bif shortS r && okCp κs κd d ns nl n sp dp then (match m with
        | ⟨t, n', s'⟩ => a_put ls r n' s' (tset oo ⟨κd, (.inl nl), dd, tcp ds dd ts td sp.toNat dp.toNat n.toNat, rd⟩ 24 t d)) else none
      | _ => none)
    | _ => none)
  | _ => none
def a_cl (y : Nat) (κ : Option Nat) (m : AM) : Option (List AB × List AB) → Option AAct
  | some (as, r) => bif shortS r && (match κ with
      | none => true
      | some κ => aokrecv κ as m) then some ((.inr (.inr (.inl (y, as, r))))) else none
  | none => none
def h_call (y n : Nat) (κ : Option Nat) : Hn := fun _ st m => a_cl y κ m (atake n st [])
def h_iret (f : Nat) : Hn := fun _ st _ => match st with
  | x :: [] => bif aret f x then some ((.inr (.inr (.inr (.inl (some x)))))) else none
  | _ => none
def h_ret : Hn := fun _ st _ => match st with
  | [] => some ((.inr (.inr (.inr (.inl none)))))
  | _ => none
def h_thr (E : Nat) : Hn := fun _ st _ => bif shortS st then some ((.inr (.inr (.inr (.inr E))))) else none
def o1 (f : Nat → Hn) : Option Nat → Option Hn
  | some k => some (f k)
  | none => none
def oz (f : Int → Hn) : Option Int → Option Hn
  | some k => some (f k)
  | none => none
def hn1 (sel : Option Int) (e : Ent) : Option Hn :=
  match e.2.1 with
  | .iconst _ => oz (fun z => h_psh ((.inl ((.inl z))))) (fz e.2.2.2.2)
  | .aconst_null => some (h_psh ((.inr (.retAddr 0))))
  | .ldc _ => o1 (fun a => h_psh ((.inr (.ref a)))) (fn e.2.2.1)
  | .lconst i => some (h_psh ((.inr (.long (Int64.ofNat i.val)))))
  | .dconst i => bif Nat.beq i.val 0 then some (h_psh ((.inr (.double 0)))) else none
  | .fconst i => bif Nat.beq i.val 1 then some (h_psh ((.inr (.float 0x3f800000)))) else none
  | .iload _ => o1 h_iload (fn e.2.2.1)
  | .aload _ => o1 h_aload (fn e.2.2.1)
  | .dload _ => o1 h_dload (fn e.2.2.1)
  | .istore _ => o1 h_istore (fn e.2.2.1)
  | .astore _ => o1 h_astore (fn e.2.2.1)
  | .dstore _ => o1 h_dstore (fn e.2.2.1)
  | .iinc _ _ => match fn e.2.2.1 with
    | some k => oz (h_iinc k) (fz e.2.2.2.2)
    | none => none
  | .iadd => some h_add
  | .isub => some h_sub
  | .imul => some (h_i2 mulA)
  | .idiv => some h_idiv
  | .irem => some h_irem
  | .iand => some (h_and sel)
  | .ior => some (h_i2 ior)
  | .ixor => some (h_i2 ixor)
  | .ishl => some (h_i2 shlA)
  | .ishr => some (h_i2 shrA)
  | .iushr => some (h_i2 iushr)
  | .ladd => some h_min
  | .land => some h_max
  | .i2b => some h_i2b
  | .i2c => some h_i2c
  | .i2l => some (h_i1 (fun x => (.inr (.long (Int32.ofInt x).toInt64))))
  | .i2d => some (h_i1 (fun x => (.inr (.double (FP.i2d (Int32.ofInt x))))))
  | .i2f => some (h_i1 (fun x => (.inr (.float (FP.i2f (Int32.ofInt x))))))
  | .ddiv => some h_ddiv
  | .fdiv => some h_fdiv
  | .f2d => some h_f2d
  | .dcmp op => some (h_dcmp op)
  | .lcmp => some h_lcmp
  | .dup => some h_dup
  | .dup2 => some h_dup2
  | .pop => some h_pop
  | .checkcast _ => some h_chk
  | .ifCond c _ => o1 (h_if1 c) (fn e.2.2.1)
  | .if_icmp c _ => o1 (h_if2 c) (fn e.2.2.1)
  | .ifnull _ => o1 h_nul (fn e.2.2.1)
  | .ifnonnull _ => o1 h_nnl (fn e.2.2.1)
  | .goto _ => o1 h_goto (fn e.2.2.1)
  | .goto_w _ => o1 h_goto (fn e.2.2.1)
  | .tableswitch d lo hi offs => some (h_tsw e.1 d lo hi offs)
  | .getfield _ => match fn e.2.2.1, ngI e.2.2.2.2, fn e.2.2.2.2.toNat with
    | some κ, false, some k => bif Nat.beq e.2.2.2.1 1 then some (h_gfr κ k) else some (h_gfi κ k)
    | _, _, _ => none
  | .putfield _ => match fn e.2.2.1, ngI e.2.2.2.2, fn e.2.2.2.2.toNat, fn e.2.2.2.1 with
    | some κ, false, some k, some fl => some (h_put κ fl k)
    | _, _, _, _ => none
  | .arraylength => some h_len
  | .iaload => some h_iald
  | .baload => some h_bald
  | .laload => some h_lald
  | .aaload => some h_aald
  | .iastore => some h_iast
  | .bastore => some h_bast
  | .lastore => some h_last
  | .aastore => some h_aast
  | .newarray t => o1 h_newa (fn (akOf t))
  | .anewarray _ => o1 h_anew (fn e.2.2.1)
  | .new _ => match fn e.2.2.1, fn e.2.2.2.1 with
    | some κ, some n => some (h_new κ n)
    | _, _ => none
  | .invokedynamic _ => some h_cpy
  | .invokevirtual _ => match fn e.2.2.1, fn e.2.2.2.1, fn e.2.2.2.2.toNat with
    | some y, some n, some κ => some (h_call y n (some κ))
    | _, _, _ => none
  | .invokespecial _ => match fn e.2.2.1, fn e.2.2.2.1, fn e.2.2.2.2.toNat with
    | some y, some n, some κ => some (h_call y n (some κ))
    | _, _, _ => none
  | .invokestatic _ => match fn e.2.2.1, fn e.2.2.2.1 with
    | some y, some n => some (h_call y n none)
    | _, _ => none
  | .ireturn => o1 h_iret (fn e.2.2.2.1)
  | .return_ => some h_ret
  | .athrow => o1 h_thr (fn e.2.2.1)
  | _ => none
abbrev AOut : Type := Option AB ⊕ Nat
abbrev ARes : Type := (AOut × AM) ⊕ (ALs × List AB × AM)
def labT : Tr (List (Nat × List Ent)) := tol [] lb_all 9
def mLT : Tr Nat := tol 0 mL_all 9
def alk : List (Nat × List Ent) → Nat → List Ent
  | [], _ => []
  | x :: l, t => bif Nat.beq t x.1 then x.2 else alk l t
def alab (y t : Nat) : List Ent := alk (tget [] labT y) t
def amL (y : Nat) : Option Nat := fn (tget 0 mLT y)
def ac1 : List AB → Bool
  | [] => true
  | (.inl _) :: l => ac1 l
  | (.inr (.ref _)) :: l => ac1 l
  | (.inr .null) :: l => ac1 l
  | (.inr (.retAddr _)) :: l => ac1 l
  | _ => false
abbrev Rn : Type := Nat → Nat → List Ent → ALs → List AB → AM → Option ARes
/-- behind a call -/
def aret1 (ih : Rn) (k y : Nat) (is : List Ent) (ls : ALs) (r : List AB) : Option ARes → Option ARes
  | some ((.inl ((.inl none), m'))) => ih k y is ls r m'
  | some ((.inl ((.inl (some x)), m'))) => ih k y is ls (x :: r) m'
  | some ((.inl ((.inr E), m'))) => (match hnd y E with
    | some j => some ((.inl ((.inl (some ((.inl ((.inl j)))))), m')))
    | none => some ((.inl ((.inr E), m'))))
  | _ => none
def acall (ih : Rn) (k y : Nat) (is : List Ent) (ls : ALs) (m : AM) (y' : Nat) (as r : List AB) : Option Nat → Option ARes
  | none => none
  | some L => Nat.rec none (fun k' _ => bif Nat.ble as.length L && ac1 as then aret1 ih (Nat.succ k') y is ls r (ih k' y' (alab y' 0) (aent L as) [] m) else none) k
def aact (stp : Nat) (ih : Rn) (k y : Nat) (is : List Ent) (ls : ALs) (m : AM) : Option AAct → Option ARes
  | none => none
  | some ((.inl (ls', st', m'))) => ih k y is ls' st' m'
  | some ((.inr (.inl (t, ls', st', m')))) => bif Nat.beq t stp && Nat.beq y 353 then some ((.inr (ls', st', m'))) else ih k y (alab y t) ls' st' m'
  | some ((.inr (.inr (.inl (y', as, r))))) => acall ih k y is ls m y' as r (amL y')
  | some ((.inr (.inr (.inr (.inl v))))) => some ((.inl ((.inl v), m)))
  | some ((.inr (.inr (.inr (.inr E))))) => (match m with
    | ⟨t, n, s⟩ => some ((.inl ((.inr E), ⟨t, n + 1, s + 6⟩))))
def astp (ls : ALs) (st : List AB) (m : AM) : Option Hn → Option AAct
  | some f => f ls st m
  | none => none
def arunS (sel : Option Int) (stp : Nat) (ih : Rn) : Rn := fun k y is ls st m => match is with
  | [] => none
  | e :: is => aact stp ih k y is ls m (astp ls st m (hn1 sel e))
def arun (sel : Option Int) (stp n : Nat) : Rn := Nat.rec (fun _ _ _ _ _ _ => none) (fun _ ih => arunS sel stp ih) n
/-- the start: the words, the strings, the script by its values' names -/
def bI (l : List Int32) : List IV := l.map (fun z => (.inl z.toInt))
def ob0 (o : Nat) : Ob :=
  if o = 46 then ⟨1, (.inr (.inr 6)), topV, tol topV [(.inr (.inr 0)), (.inr (.inr 1)), (.inr (.inr 2)), (.inr (.inr 3)), (.inr (.inr 4)), (.inr (.inr 5))] 3, .leaf⟩
  else if o < 15 then ⟨(SH o).1, (.inl (SH o).2), (.inl 0), tol ((.inl 0)) [(.inl (keyI o))] 1, .leaf⟩
  else if o = 15 then ⟨(SH o).1, (.inl (SH o).2), (.inl 0), .leaf, tol .null ((List.range 15).map .ref) 4⟩
  else if o < 31 then ⟨(SH o).1, (.inl (SH o).2), (.inl 0), .leaf, tol .null [.ref (o + 15)] 1⟩
  else ⟨(SH o).1, (.inl (SH o).2), (.inl 0), tol ((.inl 0)) (bI (bytS.getD (o - 31) [])) 3, .leaf⟩
def am0 : AM := ⟨tol oo ((List.range 47).map ob0) 6, 64, 0⟩
end
