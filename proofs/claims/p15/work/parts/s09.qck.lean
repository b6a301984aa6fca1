/-! The check of an entry by its opcode: few steps; it says the same as chkE. -/
def pkB : List UInt8 → Nat
  | [] => 0
  | b :: r => b.toNat + 256 * pkB r
theorem pkB_get : ∀ (l : List UInt8) (p : Nat) (h : p < l.length), pkB l / 256 ^ p % 256 = l[p].toNat := by
  intro l
  induction l with
  | nil => intro p h; exact absurd h (Nat.not_lt_zero p)
  | cons b r ih =>
    intro p h
    have hb : b.toNat < 256 := b.toNat_lt
    cases p with
    | zero =>
      rw [Nat.pow_zero, Nat.div_one]
      show (b.toNat + 256 * pkB r) % 256 = b.toNat
      omega
    | succ p =>
      have h2 : p < r.length := Nat.lt_of_succ_lt_succ h
      rw [Nat.pow_succ, Nat.mul_comm, ← Nat.div_div_eq_div_mul, show pkB (b :: r) / 256 = pkB r from by show (b.toNat + 256 * pkB r) / 256 = pkB r; omega, ih p h2]
      rfl
def gB (y p : Nat) : Option Nat := if Nat.ble (mB y).size p then none else some (pkB (mB y).data.toList / 256 ^ p % 256)
theorem gB_eq (y : Nat) : gB y = bytN (mB y) := by
  funext p
  unfold gB bytN
  by_cases h : p < (mB y).size
  · rw [dif_pos h, if_neg (by rw [Nat.ble_eq]; omega), pkB_get _ p (show p < (mB y).data.toList.length from h)]
    rfl
  · rw [dif_neg h, if_pos (by rw [Nat.ble_eq]; omega)]
def ic : Instr → Nat
  | .nop => 1
  | .goto_w i => if i = 0 then 2 else 0
  | .iconst i => if i = 0 then 3 else 0
  | .iload i => if i = 0 then 4 else 0
  | .aload i => if i = 0 then 5 else 0
  | .istore i => if i = 0 then 6 else 0
  | .astore i => if i = 0 then 7 else 0
  | .iinc i j => if i = 0 ∧ j = 0 then 8 else 0
  | .goto i => if i = 0 then 9 else 0
  | .getfield i => if i = 0 then 10 else 0
  | .putfield i => if i = 0 then 11 else 0
  | .invokevirtual i => if i = 0 then 12 else 0
  | .invokestatic i => if i = 0 then 13 else 0
  | .iadd => 20
  | .isub => 21
  | .imul => 22
  | .idiv => 23
  | .irem => 24
  | .iand => 25
  | .ior => 26
  | .ixor => 27
  | .ishl => 28
  | .ishr => 29
  | .iushr => 30
  | .iaload => 31
  | .iastore => 32
  | .baload => 33
  | .bastore => 34
  | .aaload => 35
  | .aastore => 36
  | .lastore => 37
  | .arraylength => 38
  | .dup => 39
  | .dup2 => 40
  | .pop => 41
  | .i2l => 42
  | .ireturn => 43
  | .return_ => 44
  | .ifCond .eq i => if i = 0 then 50 else 0
  | .ifCond .ne i => if i = 0 then 51 else 0
  | .ifCond .lt i => if i = 0 then 52 else 0
  | .ifCond .ge i => if i = 0 then 53 else 0
  | .ifCond .gt i => if i = 0 then 54 else 0
  | .ifCond .le i => if i = 0 then 55 else 0
  | .if_icmp .eq i => if i = 0 then 60 else 0
  | .if_icmp .ne i => if i = 0 then 61 else 0
  | .if_icmp .lt i => if i = 0 then 62 else 0
  | .if_icmp .ge i => if i = 0 then 63 else 0
  | .if_icmp .gt i => if i = 0 then 64 else 0
  | .if_icmp .le i => if i = 0 then 65 else 0
  | _ => 0
def di (n : Nat) : Instr := match n with
  | 1 => .nop
  | 2 => .goto_w 0
  | 3 => .iconst 0
  | 4 => .iload 0
  | 5 => .aload 0
  | 6 => .istore 0
  | 7 => .astore 0
  | 8 => .iinc 0 0
  | 9 => .goto 0
  | 10 => .getfield 0
  | 11 => .putfield 0
  | 12 => .invokevirtual 0
  | 13 => .invokestatic 0
  | 20 => .iadd
  | 21 => .isub
  | 22 => .imul
  | 23 => .idiv
  | 24 => .irem
  | 25 => .iand
  | 26 => .ior
  | 27 => .ixor
  | 28 => .ishl
  | 29 => .ishr
  | 30 => .iushr
  | 31 => .iaload
  | 32 => .iastore
  | 33 => .baload
  | 34 => .bastore
  | 35 => .aaload
  | 36 => .aastore
  | 37 => .lastore
  | 38 => .arraylength
  | 39 => .dup
  | 40 => .dup2
  | 41 => .pop
  | 42 => .i2l
  | 43 => .ireturn
  | 44 => .return_
  | 50 => .ifCond .eq 0
  | 51 => .ifCond .ne 0
  | 52 => .ifCond .lt 0
  | 53 => .ifCond .ge 0
  | 54 => .ifCond .gt 0
  | 55 => .ifCond .le 0
  | 60 => .if_icmp .eq 0
  | 61 => .if_icmp .ne 0
  | 62 => .if_icmp .lt 0
  | 63 => .if_icmp .ge 0
  | 64 => .if_icmp .gt 0
  | 65 => .if_icmp .le 0
  | _ => .nop
theorem di_ic : ∀ I : Instr, ic I ≠ 0 → di (ic I) = I := by
  intro I h
  cases I
  case goto_w i =>
    by_cases e : i = 0
    · subst e; rfl
    · exact absurd (if_neg e) h
  case iconst i =>
    by_cases e : i = 0
    · subst e; rfl
    · exact absurd (if_neg e) h
  case iload i =>
    by_cases e : i = 0
    · subst e; rfl
    · exact absurd (if_neg e) h
  case aload i =>
    by_cases e : i = 0
    · subst e; rfl
    · exact absurd (if_neg e) h
  case istore i =>
    by_cases e : i = 0
    · subst e; rfl
    · exact absurd (if_neg e) h
  case astore i =>
    by_cases e : i = 0
    · subst e; rfl
    · exact absurd (if_neg e) h
  case goto i =>
    by_cases e : i = 0
    · subst e; rfl
    · exact absurd (if_neg e) h
  case getfield i =>
    by_cases e : i = 0
    · subst e; rfl
    · exact absurd (if_neg e) h
  case putfield i =>
    by_cases e : i = 0
    · subst e; rfl
    · exact absurd (if_neg e) h
  case invokevirtual i =>
    by_cases e : i = 0
    · subst e; rfl
    · exact absurd (if_neg e) h
  case invokestatic i =>
    by_cases e : i = 0
    · subst e; rfl
    · exact absurd (if_neg e) h
  case iinc i j =>
    by_cases e : i = 0 ∧ j = 0
    · obtain ⟨rfl, rfl⟩ := e; rfl
    · exact absurd (if_neg e) h
  case ifCond c i =>
    by_cases e : i = 0
    · subst e; cases c <;> rfl
    · cases c <;> exact absurd (if_neg e) h
  case if_icmp c i =>
    by_cases e : i = 0
    · subst e; cases c <;> rfl
    · cases c <;> exact absurd (if_neg e) h
  all_goals first | rfl | exact absurd rfl h
def eqE (K a b : Nat) (v : Int) (e : Ent) : Bool := Nat.beq (ic e.2.1) K && Nat.beq e.2.2.1 a && Nat.beq e.2.2.2.1 b && decide (e.2.2.2.2 = v)
theorem eqE_ok {K a b : Nat} {v : Int} {e : Ent} (hK : K ≠ 0) (h : eqE K a b v e = true) : e.2 = (di K, a, b, v) := by
  obtain ⟨p, J, x, z, w⟩ := e
  unfold eqE at h
  simp only [Bool.and_eq_true, decide_eq_true_eq] at h
  obtain ⟨⟨⟨h1, h2⟩, h3⟩, h4⟩ := h
  have g1 : ic J = K := Nat.eq_of_beq_eq_true h1
  have g2 : x = a := Nat.eq_of_beq_eq_true h2
  have g3 : z = b := Nat.eq_of_beq_eq_true h3
  subst g1 g2 g3 h4
  show (J, x, z, w) = _
  rw [di_ic J hK]
def nxB (t : Nat) (nx : Option Nat) : Bool := match nx with
  | some q => Nat.beq q t
  | none => false
theorem nxB_ok {t : Nat} {nx : Option Nat} (h : nxB t nx = true) : nx = some t := by
  unfold nxB at h
  split at h
  · rw [Nat.eq_of_beq_eq_true h]
  · cases h
theorem lfA {y K len a b : Nat} {v : Int} {e : Ent} {nx : Option Nat} {I J : Instr} (hd : decode (mB y) e.1 = .ok (I, len)) (hK : K ≠ 0) (hdi : di K = J) (hc : canon y e.1 I = some (J, a, b, v)) (h1 : J ≠ .nop) (h2 : J ≠ .goto_w 0) (hj : jmpOK y (e.1, J, a, b, v) = true)
    (hl : len = ilen len I) (hs : J ≠ .invokestatic 0 ∨ y < 323 ∨ y = 353) (h : eqE K a b v e = true) (ht : isTerm J = true ∨ nx = some (e.1 + len)) : chkE y e nx = true := by
  have he := eqE_ok hK h
  rw [hdi] at he
  obtain ⟨p, r⟩ := e
  have he' : r = (J, a, b, v) := he
  subst he'
  have ht' : (isTerm J || decide (nx = some (p + len))) = true := by
    rcases ht with h | h
    · rw [h]; rfl
    · rw [decide_eq_true h, Bool.or_true]
  unfold chkE
  show (if J = .nop then true else if J = .goto_w 0 then decide (a = p) && hasL y p else match decode (mB y) p with
    | .ok (I, len) => decide (canon y p I = some (J, a, b, v)) && jmpOK y (p, J, a, b, v) && (isTerm J || decide (nx = some (p + len))) && decide (len = ilen len I) && decide (J ≠ .invokestatic 0 ∨ y < 323 ∨ y = 353)
    | .error _ => false) = true
  rw [if_neg h1, if_neg h2, show decode (mB y) p = .ok (I, len) from hd]
  show (decide (canon y p I = some (J, a, b, v)) && jmpOK y (p, J, a, b, v) && (isTerm J || decide (nx = some (p + len))) && decide (len = ilen len I) && decide (J ≠ .invokestatic 0 ∨ y < 323 ∨ y = 353)) = true
  rw [decide_eq_true (show canon y p I = some (J, a, b, v) from hc), show jmpOK y (p, J, a, b, v) = true from hj, ht', decide_eq_true hl, decide_eq_true hs]
  rfl
theorem and2 {a b : Bool} (h : (a && b) = true) : a = true ∧ b = true := (Bool.and_eq_true a b).mp h
def tgB (pc : Nat) (a b : Nat) : Int := Reader.signed 16 (a * 256 + b)
/-- constructors' and fields' bits -/
theorem lk9 {β : Type} : ∀ (l : List ((Nat × Nat) × β)) (a : Nat × Nat) (b : β), l.lookup a = some b → (a, b) ∈ l
  | [], _, _, h => by cases h
  | (k, v) :: l, a, b, h => by
    rw [List.lookup_cons] at h
    by_cases e : (a == k) = true
    · rw [e] at h
      rw [eq_of_beq e]
      cases h
      exact List.mem_cons_self
    · rw [Bool.not_eq_true] at e
      rw [e] at h
      exact List.mem_cons_of_mem _ (lk9 l a b h)
def iniM : Nat := 95780971304118053668165955897891256645063341443645952
theorem ini_all : (List.range 353).all (fun y => isIni y == iniM.testBit y) = true := by decide +kernel
theorem ini_eq {y : Nat} (h : y < 353) : isIni y = iniM.testBit y := by
  have h9 : (isIni y == iniM.testBit y) = true := List.all_eq_true.mp ini_all y (List.mem_range.mpr h)
  exact eq_of_beq h9
def fFb : List Nat := [21, 37, 169045, 85, 21, 21, 85, 21504, 5377, 33903957, 89478465, 368934900257448285525, 1, 0]
def fFt (ci k : Nat) : Nat := fFb.getD ci 0 / 4 ^ k % 4
theorem fFt_all : cpF.all (fun e => fFl e.2.1 e.2.2.1 == fFt e.2.1 e.2.2.1) = true := by decide +kernel
theorem fFt_eq {y i ci k : Nat} {p : Nat × Nat} (h : lkzF (oI y) i = some (ci, k, p)) : fFl ci k = fFt ci k := by
  rw [lkzF_eq] at h
  have h9 : (fFl ci k == fFt ci k) = true := List.all_eq_true.mp fFt_all ((oI y, i), (ci, k, p)) (lk9 _ _ _ h)
  exact eq_of_beq h9
def lf_2 (g : Nat → Option Nat) (y : Nat) (e : Ent) (nx : Option Nat) : Bool := eqE 3 0 0 (-1) e && nxB (e.1 + 1) nx
theorem lf_2_ok {y : Nat} {e : Ent} {nx : Option Nat} (hb : bytN (mB y) e.1 = some 2) (h : lf_2 (bytN (mB y)) y e nx = true) : chkE y e nx = true := by
  unfold lf_2 at h
  obtain ⟨h1, h2⟩ := and2 h
  exact lfA (y := y) (J := .iconst 0) (I := .iconst (-1)) (dq_2 hb) (by decide) rfl (show some (Instr.iconst 0, 0, 0, (Int32.ofInt (-1)).toInt) = _ from by rw [show (Int32.ofInt (-1)).toInt = (-1) from by decide]) nofun nofun rfl rfl (Or.inl nofun) h1 (Or.inr (nxB_ok h2))
def lf_3 (g : Nat → Option Nat) (y : Nat) (e : Ent) (nx : Option Nat) : Bool := eqE 3 0 0 0 e && nxB (e.1 + 1) nx
theorem lf_3_ok {y : Nat} {e : Ent} {nx : Option Nat} (hb : bytN (mB y) e.1 = some 3) (h : lf_3 (bytN (mB y)) y e nx = true) : chkE y e nx = true := by
  unfold lf_3 at h
  obtain ⟨h1, h2⟩ := and2 h
  exact lfA (y := y) (J := .iconst 0) (I := .iconst (0)) (dq_3 hb) (by decide) rfl (show some (Instr.iconst 0, 0, 0, (Int32.ofInt (0)).toInt) = _ from by rw [show (Int32.ofInt (0)).toInt = 0 from by decide]) nofun nofun rfl rfl (Or.inl nofun) h1 (Or.inr (nxB_ok h2))
def lf_4 (g : Nat → Option Nat) (y : Nat) (e : Ent) (nx : Option Nat) : Bool := eqE 3 0 0 1 e && nxB (e.1 + 1) nx
theorem lf_4_ok {y : Nat} {e : Ent} {nx : Option Nat} (hb : bytN (mB y) e.1 = some 4) (h : lf_4 (bytN (mB y)) y e nx = true) : chkE y e nx = true := by
  unfold lf_4 at h
  obtain ⟨h1, h2⟩ := and2 h
  exact lfA (y := y) (J := .iconst 0) (I := .iconst (1)) (dq_4 hb) (by decide) rfl (show some (Instr.iconst 0, 0, 0, (Int32.ofInt (1)).toInt) = _ from by rw [show (Int32.ofInt (1)).toInt = 1 from by decide]) nofun nofun rfl rfl (Or.inl nofun) h1 (Or.inr (nxB_ok h2))
def lf_5 (g : Nat → Option Nat) (y : Nat) (e : Ent) (nx : Option Nat) : Bool := eqE 3 0 0 2 e && nxB (e.1 + 1) nx
theorem lf_5_ok {y : Nat} {e : Ent} {nx : Option Nat} (hb : bytN (mB y) e.1 = some 5) (h : lf_5 (bytN (mB y)) y e nx = true) : chkE y e nx = true := by
  unfold lf_5 at h
  obtain ⟨h1, h2⟩ := and2 h
  exact lfA (y := y) (J := .iconst 0) (I := .iconst (2)) (dq_5 hb) (by decide) rfl (show some (Instr.iconst 0, 0, 0, (Int32.ofInt (2)).toInt) = _ from by rw [show (Int32.ofInt (2)).toInt = 2 from by decide]) nofun nofun rfl rfl (Or.inl nofun) h1 (Or.inr (nxB_ok h2))
def lf_6 (g : Nat → Option Nat) (y : Nat) (e : Ent) (nx : Option Nat) : Bool := eqE 3 0 0 3 e && nxB (e.1 + 1) nx
theorem lf_6_ok {y : Nat} {e : Ent} {nx : Option Nat} (hb : bytN (mB y) e.1 = some 6) (h : lf_6 (bytN (mB y)) y e nx = true) : chkE y e nx = true := by
  unfold lf_6 at h
  obtain ⟨h1, h2⟩ := and2 h
  exact lfA (y := y) (J := .iconst 0) (I := .iconst (3)) (dq_6 hb) (by decide) rfl (show some (Instr.iconst 0, 0, 0, (Int32.ofInt (3)).toInt) = _ from by rw [show (Int32.ofInt (3)).toInt = 3 from by decide]) nofun nofun rfl rfl (Or.inl nofun) h1 (Or.inr (nxB_ok h2))
def lf_7 (g : Nat → Option Nat) (y : Nat) (e : Ent) (nx : Option Nat) : Bool := eqE 3 0 0 4 e && nxB (e.1 + 1) nx
theorem lf_7_ok {y : Nat} {e : Ent} {nx : Option Nat} (hb : bytN (mB y) e.1 = some 7) (h : lf_7 (bytN (mB y)) y e nx = true) : chkE y e nx = true := by
  unfold lf_7 at h
  obtain ⟨h1, h2⟩ := and2 h
  exact lfA (y := y) (J := .iconst 0) (I := .iconst (4)) (dq_7 hb) (by decide) rfl (show some (Instr.iconst 0, 0, 0, (Int32.ofInt (4)).toInt) = _ from by rw [show (Int32.ofInt (4)).toInt = 4 from by decide]) nofun nofun rfl rfl (Or.inl nofun) h1 (Or.inr (nxB_ok h2))
def lf_8 (g : Nat → Option Nat) (y : Nat) (e : Ent) (nx : Option Nat) : Bool := eqE 3 0 0 5 e && nxB (e.1 + 1) nx
theorem lf_8_ok {y : Nat} {e : Ent} {nx : Option Nat} (hb : bytN (mB y) e.1 = some 8) (h : lf_8 (bytN (mB y)) y e nx = true) : chkE y e nx = true := by
  unfold lf_8 at h
  obtain ⟨h1, h2⟩ := and2 h
  exact lfA (y := y) (J := .iconst 0) (I := .iconst (5)) (dq_8 hb) (by decide) rfl (show some (Instr.iconst 0, 0, 0, (Int32.ofInt (5)).toInt) = _ from by rw [show (Int32.ofInt (5)).toInt = 5 from by decide]) nofun nofun rfl rfl (Or.inl nofun) h1 (Or.inr (nxB_ok h2))
def lf_16 (g : Nat → Option Nat) (y : Nat) (e : Ent) (nx : Option Nat) : Bool := match g (e.1 + 1) with
    | some a => eqE 3 0 0 (Int8.ofInt (Reader.signed 8 a)).toInt32.toInt e && nxB (e.1 + 2) nx
    | none => false
theorem lf_16_ok {y : Nat} {e : Ent} {nx : Option Nat} (hb : bytN (mB y) e.1 = some 16) (h : lf_16 (bytN (mB y)) y e nx = true) : chkE y e nx = true := by
  unfold lf_16 at h
  split at h
  · rename_i a ha
    obtain ⟨h1, h2⟩ := and2 h
    exact lfA (y := y) (J := .iconst 0) (I := .bipush (Reader.signed 8 a)) (dq_16 hb ha) (by decide) rfl rfl nofun nofun rfl rfl (Or.inl nofun) h1 (Or.inr (nxB_ok h2))
  · cases h
def lf_17 (g : Nat → Option Nat) (y : Nat) (e : Ent) (nx : Option Nat) : Bool := match g (e.1 + 1), g (e.1 + 1 + 1) with
    | some a, some b => eqE 3 0 0 (Int16.ofInt (Reader.signed 16 (a * 256 + b))).toInt32.toInt e && nxB (e.1 + 3) nx
    | _, _ => false
theorem lf_17_ok {y : Nat} {e : Ent} {nx : Option Nat} (hb : bytN (mB y) e.1 = some 17) (h : lf_17 (bytN (mB y)) y e nx = true) : chkE y e nx = true := by
  unfold lf_17 at h
  split at h
  · rename_i a b ha hb2
    obtain ⟨h1, h2⟩ := and2 h
    exact lfA (y := y) (J := .iconst 0) (I := .sipush (Reader.signed 16 (a * 256 + b))) (dq_17 hb ha hb2) (by decide) rfl rfl nofun nofun rfl rfl (Or.inl nofun) h1 (Or.inr (nxB_ok h2))
  · cases h
def lf_21 (g : Nat → Option Nat) (y : Nat) (e : Ent) (nx : Option Nat) : Bool := match g (e.1 + 1) with
    | some a => eqE 4 a 0 0 e && nxB (e.1 + 2) nx
    | none => false
theorem lf_21_ok {y : Nat} {e : Ent} {nx : Option Nat} (hb : bytN (mB y) e.1 = some 21) (h : lf_21 (bytN (mB y)) y e nx = true) : chkE y e nx = true := by
  unfold lf_21 at h
  split at h
  · rename_i a ha
    obtain ⟨h1, h2⟩ := and2 h
    exact lfA (y := y) (J := .iload 0) (I := .iload a) (dq_21 hb ha) (by decide) rfl rfl nofun nofun rfl rfl (Or.inl nofun) h1 (Or.inr (nxB_ok h2))
  · cases h
def lf_25 (g : Nat → Option Nat) (y : Nat) (e : Ent) (nx : Option Nat) : Bool := match g (e.1 + 1) with
    | some a => eqE 5 a 0 0 e && nxB (e.1 + 2) nx
    | none => false
theorem lf_25_ok {y : Nat} {e : Ent} {nx : Option Nat} (hb : bytN (mB y) e.1 = some 25) (h : lf_25 (bytN (mB y)) y e nx = true) : chkE y e nx = true := by
  unfold lf_25 at h
  split at h
  · rename_i a ha
    obtain ⟨h1, h2⟩ := and2 h
    exact lfA (y := y) (J := .aload 0) (I := .aload a) (dq_25 hb ha) (by decide) rfl rfl nofun nofun rfl rfl (Or.inl nofun) h1 (Or.inr (nxB_ok h2))
  · cases h
def lf_26 (g : Nat → Option Nat) (y : Nat) (e : Ent) (nx : Option Nat) : Bool := eqE 4 0 0 0 e && nxB (e.1 + 1) nx
theorem lf_26_ok {y : Nat} {e : Ent} {nx : Option Nat} (hb : bytN (mB y) e.1 = some 26) (h : lf_26 (bytN (mB y)) y e nx = true) : chkE y e nx = true := by
  unfold lf_26 at h
  obtain ⟨h1, h2⟩ := and2 h
  exact lfA (y := y) (J := .iload 0) (I := .iload_n 0) (dq_26 hb) (by decide) rfl (rfl) nofun nofun rfl rfl (Or.inl nofun) h1 (Or.inr (nxB_ok h2))
def lf_27 (g : Nat → Option Nat) (y : Nat) (e : Ent) (nx : Option Nat) : Bool := eqE 4 1 0 0 e && nxB (e.1 + 1) nx
theorem lf_27_ok {y : Nat} {e : Ent} {nx : Option Nat} (hb : bytN (mB y) e.1 = some 27) (h : lf_27 (bytN (mB y)) y e nx = true) : chkE y e nx = true := by
  unfold lf_27 at h
  obtain ⟨h1, h2⟩ := and2 h
  exact lfA (y := y) (J := .iload 0) (I := .iload_n 1) (dq_27 hb) (by decide) rfl (rfl) nofun nofun rfl rfl (Or.inl nofun) h1 (Or.inr (nxB_ok h2))
def lf_28 (g : Nat → Option Nat) (y : Nat) (e : Ent) (nx : Option Nat) : Bool := eqE 4 2 0 0 e && nxB (e.1 + 1) nx
theorem lf_28_ok {y : Nat} {e : Ent} {nx : Option Nat} (hb : bytN (mB y) e.1 = some 28) (h : lf_28 (bytN (mB y)) y e nx = true) : chkE y e nx = true := by
  unfold lf_28 at h
  obtain ⟨h1, h2⟩ := and2 h
  exact lfA (y := y) (J := .iload 0) (I := .iload_n 2) (dq_28 hb) (by decide) rfl (rfl) nofun nofun rfl rfl (Or.inl nofun) h1 (Or.inr (nxB_ok h2))
def lf_29 (g : Nat → Option Nat) (y : Nat) (e : Ent) (nx : Option Nat) : Bool := eqE 4 3 0 0 e && nxB (e.1 + 1) nx
theorem lf_29_ok {y : Nat} {e : Ent} {nx : Option Nat} (hb : bytN (mB y) e.1 = some 29) (h : lf_29 (bytN (mB y)) y e nx = true) : chkE y e nx = true := by
  unfold lf_29 at h
  obtain ⟨h1, h2⟩ := and2 h
  exact lfA (y := y) (J := .iload 0) (I := .iload_n 3) (dq_29 hb) (by decide) rfl (rfl) nofun nofun rfl rfl (Or.inl nofun) h1 (Or.inr (nxB_ok h2))
def lf_42 (g : Nat → Option Nat) (y : Nat) (e : Ent) (nx : Option Nat) : Bool := eqE 5 0 0 0 e && nxB (e.1 + 1) nx
theorem lf_42_ok {y : Nat} {e : Ent} {nx : Option Nat} (hb : bytN (mB y) e.1 = some 42) (h : lf_42 (bytN (mB y)) y e nx = true) : chkE y e nx = true := by
  unfold lf_42 at h
  obtain ⟨h1, h2⟩ := and2 h
  exact lfA (y := y) (J := .aload 0) (I := .aload_n 0) (dq_42 hb) (by decide) rfl (rfl) nofun nofun rfl rfl (Or.inl nofun) h1 (Or.inr (nxB_ok h2))
def lf_43 (g : Nat → Option Nat) (y : Nat) (e : Ent) (nx : Option Nat) : Bool := eqE 5 1 0 0 e && nxB (e.1 + 1) nx
theorem lf_43_ok {y : Nat} {e : Ent} {nx : Option Nat} (hb : bytN (mB y) e.1 = some 43) (h : lf_43 (bytN (mB y)) y e nx = true) : chkE y e nx = true := by
  unfold lf_43 at h
  obtain ⟨h1, h2⟩ := and2 h
  exact lfA (y := y) (J := .aload 0) (I := .aload_n 1) (dq_43 hb) (by decide) rfl (rfl) nofun nofun rfl rfl (Or.inl nofun) h1 (Or.inr (nxB_ok h2))
def lf_44 (g : Nat → Option Nat) (y : Nat) (e : Ent) (nx : Option Nat) : Bool := eqE 5 2 0 0 e && nxB (e.1 + 1) nx
theorem lf_44_ok {y : Nat} {e : Ent} {nx : Option Nat} (hb : bytN (mB y) e.1 = some 44) (h : lf_44 (bytN (mB y)) y e nx = true) : chkE y e nx = true := by
  unfold lf_44 at h
  obtain ⟨h1, h2⟩ := and2 h
  exact lfA (y := y) (J := .aload 0) (I := .aload_n 2) (dq_44 hb) (by decide) rfl (rfl) nofun nofun rfl rfl (Or.inl nofun) h1 (Or.inr (nxB_ok h2))
def lf_45 (g : Nat → Option Nat) (y : Nat) (e : Ent) (nx : Option Nat) : Bool := eqE 5 3 0 0 e && nxB (e.1 + 1) nx
theorem lf_45_ok {y : Nat} {e : Ent} {nx : Option Nat} (hb : bytN (mB y) e.1 = some 45) (h : lf_45 (bytN (mB y)) y e nx = true) : chkE y e nx = true := by
  unfold lf_45 at h
  obtain ⟨h1, h2⟩ := and2 h
  exact lfA (y := y) (J := .aload 0) (I := .aload_n 3) (dq_45 hb) (by decide) rfl (rfl) nofun nofun rfl rfl (Or.inl nofun) h1 (Or.inr (nxB_ok h2))
def lf_46 (g : Nat → Option Nat) (y : Nat) (e : Ent) (nx : Option Nat) : Bool := eqE 31 0 0 0 e && nxB (e.1 + 1) nx
theorem lf_46_ok {y : Nat} {e : Ent} {nx : Option Nat} (hb : bytN (mB y) e.1 = some 46) (h : lf_46 (bytN (mB y)) y e nx = true) : chkE y e nx = true := by
  unfold lf_46 at h
  obtain ⟨h1, h2⟩ := and2 h
  exact lfA (y := y) (J := .iaload) (I := .iaload) (dq_46 hb) (by decide) rfl (rfl) nofun nofun rfl rfl (Or.inl nofun) h1 (Or.inr (nxB_ok h2))
def lf_50 (g : Nat → Option Nat) (y : Nat) (e : Ent) (nx : Option Nat) : Bool := eqE 35 0 0 0 e && nxB (e.1 + 1) nx
theorem lf_50_ok {y : Nat} {e : Ent} {nx : Option Nat} (hb : bytN (mB y) e.1 = some 50) (h : lf_50 (bytN (mB y)) y e nx = true) : chkE y e nx = true := by
  unfold lf_50 at h
  obtain ⟨h1, h2⟩ := and2 h
  exact lfA (y := y) (J := .aaload) (I := .aaload) (dq_50 hb) (by decide) rfl (rfl) nofun nofun rfl rfl (Or.inl nofun) h1 (Or.inr (nxB_ok h2))
def lf_51 (g : Nat → Option Nat) (y : Nat) (e : Ent) (nx : Option Nat) : Bool := eqE 33 0 0 0 e && nxB (e.1 + 1) nx
theorem lf_51_ok {y : Nat} {e : Ent} {nx : Option Nat} (hb : bytN (mB y) e.1 = some 51) (h : lf_51 (bytN (mB y)) y e nx = true) : chkE y e nx = true := by
  unfold lf_51 at h
  obtain ⟨h1, h2⟩ := and2 h
  exact lfA (y := y) (J := .baload) (I := .baload) (dq_51 hb) (by decide) rfl (rfl) nofun nofun rfl rfl (Or.inl nofun) h1 (Or.inr (nxB_ok h2))
def lf_54 (g : Nat → Option Nat) (y : Nat) (e : Ent) (nx : Option Nat) : Bool := match g (e.1 + 1) with
    | some a => eqE 6 a 0 0 e && nxB (e.1 + 2) nx
    | none => false
theorem lf_54_ok {y : Nat} {e : Ent} {nx : Option Nat} (hb : bytN (mB y) e.1 = some 54) (h : lf_54 (bytN (mB y)) y e nx = true) : chkE y e nx = true := by
  unfold lf_54 at h
  split at h
  · rename_i a ha
    obtain ⟨h1, h2⟩ := and2 h
    exact lfA (y := y) (J := .istore 0) (I := .istore a) (dq_54 hb ha) (by decide) rfl rfl nofun nofun rfl rfl (Or.inl nofun) h1 (Or.inr (nxB_ok h2))
  · cases h
def lf_58 (g : Nat → Option Nat) (y : Nat) (e : Ent) (nx : Option Nat) : Bool := match g (e.1 + 1) with
    | some a => eqE 7 a 0 0 e && nxB (e.1 + 2) nx
    | none => false
theorem lf_58_ok {y : Nat} {e : Ent} {nx : Option Nat} (hb : bytN (mB y) e.1 = some 58) (h : lf_58 (bytN (mB y)) y e nx = true) : chkE y e nx = true := by
  unfold lf_58 at h
  split at h
  · rename_i a ha
    obtain ⟨h1, h2⟩ := and2 h
    exact lfA (y := y) (J := .astore 0) (I := .astore a) (dq_58 hb ha) (by decide) rfl rfl nofun nofun rfl rfl (Or.inl nofun) h1 (Or.inr (nxB_ok h2))
  · cases h
def lf_59 (g : Nat → Option Nat) (y : Nat) (e : Ent) (nx : Option Nat) : Bool := eqE 6 0 0 0 e && nxB (e.1 + 1) nx
theorem lf_59_ok {y : Nat} {e : Ent} {nx : Option Nat} (hb : bytN (mB y) e.1 = some 59) (h : lf_59 (bytN (mB y)) y e nx = true) : chkE y e nx = true := by
  unfold lf_59 at h
  obtain ⟨h1, h2⟩ := and2 h
  exact lfA (y := y) (J := .istore 0) (I := .istore_n 0) (dq_59 hb) (by decide) rfl (rfl) nofun nofun rfl rfl (Or.inl nofun) h1 (Or.inr (nxB_ok h2))
def lf_60 (g : Nat → Option Nat) (y : Nat) (e : Ent) (nx : Option Nat) : Bool := eqE 6 1 0 0 e && nxB (e.1 + 1) nx
theorem lf_60_ok {y : Nat} {e : Ent} {nx : Option Nat} (hb : bytN (mB y) e.1 = some 60) (h : lf_60 (bytN (mB y)) y e nx = true) : chkE y e nx = true := by
  unfold lf_60 at h
  obtain ⟨h1, h2⟩ := and2 h
  exact lfA (y := y) (J := .istore 0) (I := .istore_n 1) (dq_60 hb) (by decide) rfl (rfl) nofun nofun rfl rfl (Or.inl nofun) h1 (Or.inr (nxB_ok h2))
def lf_61 (g : Nat → Option Nat) (y : Nat) (e : Ent) (nx : Option Nat) : Bool := eqE 6 2 0 0 e && nxB (e.1 + 1) nx
theorem lf_61_ok {y : Nat} {e : Ent} {nx : Option Nat} (hb : bytN (mB y) e.1 = some 61) (h : lf_61 (bytN (mB y)) y e nx = true) : chkE y e nx = true := by
  unfold lf_61 at h
  obtain ⟨h1, h2⟩ := and2 h
  exact lfA (y := y) (J := .istore 0) (I := .istore_n 2) (dq_61 hb) (by decide) rfl (rfl) nofun nofun rfl rfl (Or.inl nofun) h1 (Or.inr (nxB_ok h2))
def lf_62 (g : Nat → Option Nat) (y : Nat) (e : Ent) (nx : Option Nat) : Bool := eqE 6 3 0 0 e && nxB (e.1 + 1) nx
theorem lf_62_ok {y : Nat} {e : Ent} {nx : Option Nat} (hb : bytN (mB y) e.1 = some 62) (h : lf_62 (bytN (mB y)) y e nx = true) : chkE y e nx = true := by
  unfold lf_62 at h
  obtain ⟨h1, h2⟩ := and2 h
  exact lfA (y := y) (J := .istore 0) (I := .istore_n 3) (dq_62 hb) (by decide) rfl (rfl) nofun nofun rfl rfl (Or.inl nofun) h1 (Or.inr (nxB_ok h2))
def lf_75 (g : Nat → Option Nat) (y : Nat) (e : Ent) (nx : Option Nat) : Bool := eqE 7 0 0 0 e && nxB (e.1 + 1) nx
theorem lf_75_ok {y : Nat} {e : Ent} {nx : Option Nat} (hb : bytN (mB y) e.1 = some 75) (h : lf_75 (bytN (mB y)) y e nx = true) : chkE y e nx = true := by
  unfold lf_75 at h
  obtain ⟨h1, h2⟩ := and2 h
  exact lfA (y := y) (J := .astore 0) (I := .astore_n 0) (dq_75 hb) (by decide) rfl (rfl) nofun nofun rfl rfl (Or.inl nofun) h1 (Or.inr (nxB_ok h2))
def lf_76 (g : Nat → Option Nat) (y : Nat) (e : Ent) (nx : Option Nat) : Bool := eqE 7 1 0 0 e && nxB (e.1 + 1) nx
theorem lf_76_ok {y : Nat} {e : Ent} {nx : Option Nat} (hb : bytN (mB y) e.1 = some 76) (h : lf_76 (bytN (mB y)) y e nx = true) : chkE y e nx = true := by
  unfold lf_76 at h
  obtain ⟨h1, h2⟩ := and2 h
  exact lfA (y := y) (J := .astore 0) (I := .astore_n 1) (dq_76 hb) (by decide) rfl (rfl) nofun nofun rfl rfl (Or.inl nofun) h1 (Or.inr (nxB_ok h2))
def lf_77 (g : Nat → Option Nat) (y : Nat) (e : Ent) (nx : Option Nat) : Bool := eqE 7 2 0 0 e && nxB (e.1 + 1) nx
theorem lf_77_ok {y : Nat} {e : Ent} {nx : Option Nat} (hb : bytN (mB y) e.1 = some 77) (h : lf_77 (bytN (mB y)) y e nx = true) : chkE y e nx = true := by
  unfold lf_77 at h
  obtain ⟨h1, h2⟩ := and2 h
  exact lfA (y := y) (J := .astore 0) (I := .astore_n 2) (dq_77 hb) (by decide) rfl (rfl) nofun nofun rfl rfl (Or.inl nofun) h1 (Or.inr (nxB_ok h2))
def lf_78 (g : Nat → Option Nat) (y : Nat) (e : Ent) (nx : Option Nat) : Bool := eqE 7 3 0 0 e && nxB (e.1 + 1) nx
theorem lf_78_ok {y : Nat} {e : Ent} {nx : Option Nat} (hb : bytN (mB y) e.1 = some 78) (h : lf_78 (bytN (mB y)) y e nx = true) : chkE y e nx = true := by
  unfold lf_78 at h
  obtain ⟨h1, h2⟩ := and2 h
  exact lfA (y := y) (J := .astore 0) (I := .astore_n 3) (dq_78 hb) (by decide) rfl (rfl) nofun nofun rfl rfl (Or.inl nofun) h1 (Or.inr (nxB_ok h2))
def lf_79 (g : Nat → Option Nat) (y : Nat) (e : Ent) (nx : Option Nat) : Bool := eqE 32 0 0 0 e && nxB (e.1 + 1) nx
theorem lf_79_ok {y : Nat} {e : Ent} {nx : Option Nat} (hb : bytN (mB y) e.1 = some 79) (h : lf_79 (bytN (mB y)) y e nx = true) : chkE y e nx = true := by
  unfold lf_79 at h
  obtain ⟨h1, h2⟩ := and2 h
  exact lfA (y := y) (J := .iastore) (I := .iastore) (dq_79 hb) (by decide) rfl (rfl) nofun nofun rfl rfl (Or.inl nofun) h1 (Or.inr (nxB_ok h2))
def lf_80 (g : Nat → Option Nat) (y : Nat) (e : Ent) (nx : Option Nat) : Bool := eqE 37 0 0 0 e && nxB (e.1 + 1) nx
theorem lf_80_ok {y : Nat} {e : Ent} {nx : Option Nat} (hb : bytN (mB y) e.1 = some 80) (h : lf_80 (bytN (mB y)) y e nx = true) : chkE y e nx = true := by
  unfold lf_80 at h
  obtain ⟨h1, h2⟩ := and2 h
  exact lfA (y := y) (J := .lastore) (I := .lastore) (dq_80 hb) (by decide) rfl (rfl) nofun nofun rfl rfl (Or.inl nofun) h1 (Or.inr (nxB_ok h2))
def lf_83 (g : Nat → Option Nat) (y : Nat) (e : Ent) (nx : Option Nat) : Bool := eqE 36 0 0 0 e && nxB (e.1 + 1) nx
theorem lf_83_ok {y : Nat} {e : Ent} {nx : Option Nat} (hb : bytN (mB y) e.1 = some 83) (h : lf_83 (bytN (mB y)) y e nx = true) : chkE y e nx = true := by
  unfold lf_83 at h
  obtain ⟨h1, h2⟩ := and2 h
  exact lfA (y := y) (J := .aastore) (I := .aastore) (dq_83 hb) (by decide) rfl (rfl) nofun nofun rfl rfl (Or.inl nofun) h1 (Or.inr (nxB_ok h2))
def lf_84 (g : Nat → Option Nat) (y : Nat) (e : Ent) (nx : Option Nat) : Bool := eqE 34 0 0 0 e && nxB (e.1 + 1) nx
theorem lf_84_ok {y : Nat} {e : Ent} {nx : Option Nat} (hb : bytN (mB y) e.1 = some 84) (h : lf_84 (bytN (mB y)) y e nx = true) : chkE y e nx = true := by
  unfold lf_84 at h
  obtain ⟨h1, h2⟩ := and2 h
  exact lfA (y := y) (J := .bastore) (I := .bastore) (dq_84 hb) (by decide) rfl (rfl) nofun nofun rfl rfl (Or.inl nofun) h1 (Or.inr (nxB_ok h2))
def lf_87 (g : Nat → Option Nat) (y : Nat) (e : Ent) (nx : Option Nat) : Bool := eqE 41 0 0 0 e && nxB (e.1 + 1) nx
theorem lf_87_ok {y : Nat} {e : Ent} {nx : Option Nat} (hb : bytN (mB y) e.1 = some 87) (h : lf_87 (bytN (mB y)) y e nx = true) : chkE y e nx = true := by
  unfold lf_87 at h
  obtain ⟨h1, h2⟩ := and2 h
  exact lfA (y := y) (J := .pop) (I := .pop) (dq_87 hb) (by decide) rfl (rfl) nofun nofun rfl rfl (Or.inl nofun) h1 (Or.inr (nxB_ok h2))
def lf_89 (g : Nat → Option Nat) (y : Nat) (e : Ent) (nx : Option Nat) : Bool := eqE 39 0 0 0 e && nxB (e.1 + 1) nx
theorem lf_89_ok {y : Nat} {e : Ent} {nx : Option Nat} (hb : bytN (mB y) e.1 = some 89) (h : lf_89 (bytN (mB y)) y e nx = true) : chkE y e nx = true := by
  unfold lf_89 at h
  obtain ⟨h1, h2⟩ := and2 h
  exact lfA (y := y) (J := .dup) (I := .dup) (dq_89 hb) (by decide) rfl (rfl) nofun nofun rfl rfl (Or.inl nofun) h1 (Or.inr (nxB_ok h2))
def lf_92 (g : Nat → Option Nat) (y : Nat) (e : Ent) (nx : Option Nat) : Bool := eqE 40 0 0 0 e && nxB (e.1 + 1) nx
theorem lf_92_ok {y : Nat} {e : Ent} {nx : Option Nat} (hb : bytN (mB y) e.1 = some 92) (h : lf_92 (bytN (mB y)) y e nx = true) : chkE y e nx = true := by
  unfold lf_92 at h
  obtain ⟨h1, h2⟩ := and2 h
  exact lfA (y := y) (J := .dup2) (I := .dup2) (dq_92 hb) (by decide) rfl (rfl) nofun nofun rfl rfl (Or.inl nofun) h1 (Or.inr (nxB_ok h2))
def lf_96 (g : Nat → Option Nat) (y : Nat) (e : Ent) (nx : Option Nat) : Bool := eqE 20 0 0 0 e && nxB (e.1 + 1) nx
theorem lf_96_ok {y : Nat} {e : Ent} {nx : Option Nat} (hb : bytN (mB y) e.1 = some 96) (h : lf_96 (bytN (mB y)) y e nx = true) : chkE y e nx = true := by
  unfold lf_96 at h
  obtain ⟨h1, h2⟩ := and2 h
  exact lfA (y := y) (J := .iadd) (I := .iadd) (dq_96 hb) (by decide) rfl (rfl) nofun nofun rfl rfl (Or.inl nofun) h1 (Or.inr (nxB_ok h2))
def lf_100 (g : Nat → Option Nat) (y : Nat) (e : Ent) (nx : Option Nat) : Bool := eqE 21 0 0 0 e && nxB (e.1 + 1) nx
theorem lf_100_ok {y : Nat} {e : Ent} {nx : Option Nat} (hb : bytN (mB y) e.1 = some 100) (h : lf_100 (bytN (mB y)) y e nx = true) : chkE y e nx = true := by
  unfold lf_100 at h
  obtain ⟨h1, h2⟩ := and2 h
  exact lfA (y := y) (J := .isub) (I := .isub) (dq_100 hb) (by decide) rfl (rfl) nofun nofun rfl rfl (Or.inl nofun) h1 (Or.inr (nxB_ok h2))
def lf_104 (g : Nat → Option Nat) (y : Nat) (e : Ent) (nx : Option Nat) : Bool := eqE 22 0 0 0 e && nxB (e.1 + 1) nx
theorem lf_104_ok {y : Nat} {e : Ent} {nx : Option Nat} (hb : bytN (mB y) e.1 = some 104) (h : lf_104 (bytN (mB y)) y e nx = true) : chkE y e nx = true := by
  unfold lf_104 at h
  obtain ⟨h1, h2⟩ := and2 h
  exact lfA (y := y) (J := .imul) (I := .imul) (dq_104 hb) (by decide) rfl (rfl) nofun nofun rfl rfl (Or.inl nofun) h1 (Or.inr (nxB_ok h2))
def lf_108 (g : Nat → Option Nat) (y : Nat) (e : Ent) (nx : Option Nat) : Bool := eqE 23 0 0 0 e && nxB (e.1 + 1) nx
theorem lf_108_ok {y : Nat} {e : Ent} {nx : Option Nat} (hb : bytN (mB y) e.1 = some 108) (h : lf_108 (bytN (mB y)) y e nx = true) : chkE y e nx = true := by
  unfold lf_108 at h
  obtain ⟨h1, h2⟩ := and2 h
  exact lfA (y := y) (J := .idiv) (I := .idiv) (dq_108 hb) (by decide) rfl (rfl) nofun nofun rfl rfl (Or.inl nofun) h1 (Or.inr (nxB_ok h2))
def lf_112 (g : Nat → Option Nat) (y : Nat) (e : Ent) (nx : Option Nat) : Bool := eqE 24 0 0 0 e && nxB (e.1 + 1) nx
theorem lf_112_ok {y : Nat} {e : Ent} {nx : Option Nat} (hb : bytN (mB y) e.1 = some 112) (h : lf_112 (bytN (mB y)) y e nx = true) : chkE y e nx = true := by
  unfold lf_112 at h
  obtain ⟨h1, h2⟩ := and2 h
  exact lfA (y := y) (J := .irem) (I := .irem) (dq_112 hb) (by decide) rfl (rfl) nofun nofun rfl rfl (Or.inl nofun) h1 (Or.inr (nxB_ok h2))
def lf_120 (g : Nat → Option Nat) (y : Nat) (e : Ent) (nx : Option Nat) : Bool := eqE 28 0 0 0 e && nxB (e.1 + 1) nx
theorem lf_120_ok {y : Nat} {e : Ent} {nx : Option Nat} (hb : bytN (mB y) e.1 = some 120) (h : lf_120 (bytN (mB y)) y e nx = true) : chkE y e nx = true := by
  unfold lf_120 at h
  obtain ⟨h1, h2⟩ := and2 h
  exact lfA (y := y) (J := .ishl) (I := .ishl) (dq_120 hb) (by decide) rfl (rfl) nofun nofun rfl rfl (Or.inl nofun) h1 (Or.inr (nxB_ok h2))
def lf_122 (g : Nat → Option Nat) (y : Nat) (e : Ent) (nx : Option Nat) : Bool := eqE 29 0 0 0 e && nxB (e.1 + 1) nx
theorem lf_122_ok {y : Nat} {e : Ent} {nx : Option Nat} (hb : bytN (mB y) e.1 = some 122) (h : lf_122 (bytN (mB y)) y e nx = true) : chkE y e nx = true := by
  unfold lf_122 at h
  obtain ⟨h1, h2⟩ := and2 h
  exact lfA (y := y) (J := .ishr) (I := .ishr) (dq_122 hb) (by decide) rfl (rfl) nofun nofun rfl rfl (Or.inl nofun) h1 (Or.inr (nxB_ok h2))
def lf_124 (g : Nat → Option Nat) (y : Nat) (e : Ent) (nx : Option Nat) : Bool := eqE 30 0 0 0 e && nxB (e.1 + 1) nx
theorem lf_124_ok {y : Nat} {e : Ent} {nx : Option Nat} (hb : bytN (mB y) e.1 = some 124) (h : lf_124 (bytN (mB y)) y e nx = true) : chkE y e nx = true := by
  unfold lf_124 at h
  obtain ⟨h1, h2⟩ := and2 h
  exact lfA (y := y) (J := .iushr) (I := .iushr) (dq_124 hb) (by decide) rfl (rfl) nofun nofun rfl rfl (Or.inl nofun) h1 (Or.inr (nxB_ok h2))
def lf_126 (g : Nat → Option Nat) (y : Nat) (e : Ent) (nx : Option Nat) : Bool := eqE 25 0 0 0 e && nxB (e.1 + 1) nx
theorem lf_126_ok {y : Nat} {e : Ent} {nx : Option Nat} (hb : bytN (mB y) e.1 = some 126) (h : lf_126 (bytN (mB y)) y e nx = true) : chkE y e nx = true := by
  unfold lf_126 at h
  obtain ⟨h1, h2⟩ := and2 h
  exact lfA (y := y) (J := .iand) (I := .iand) (dq_126 hb) (by decide) rfl (rfl) nofun nofun rfl rfl (Or.inl nofun) h1 (Or.inr (nxB_ok h2))
def lf_128 (g : Nat → Option Nat) (y : Nat) (e : Ent) (nx : Option Nat) : Bool := eqE 26 0 0 0 e && nxB (e.1 + 1) nx
theorem lf_128_ok {y : Nat} {e : Ent} {nx : Option Nat} (hb : bytN (mB y) e.1 = some 128) (h : lf_128 (bytN (mB y)) y e nx = true) : chkE y e nx = true := by
  unfold lf_128 at h
  obtain ⟨h1, h2⟩ := and2 h
  exact lfA (y := y) (J := .ior) (I := .ior) (dq_128 hb) (by decide) rfl (rfl) nofun nofun rfl rfl (Or.inl nofun) h1 (Or.inr (nxB_ok h2))
def lf_130 (g : Nat → Option Nat) (y : Nat) (e : Ent) (nx : Option Nat) : Bool := eqE 27 0 0 0 e && nxB (e.1 + 1) nx
theorem lf_130_ok {y : Nat} {e : Ent} {nx : Option Nat} (hb : bytN (mB y) e.1 = some 130) (h : lf_130 (bytN (mB y)) y e nx = true) : chkE y e nx = true := by
  unfold lf_130 at h
  obtain ⟨h1, h2⟩ := and2 h
  exact lfA (y := y) (J := .ixor) (I := .ixor) (dq_130 hb) (by decide) rfl (rfl) nofun nofun rfl rfl (Or.inl nofun) h1 (Or.inr (nxB_ok h2))
def lf_132 (g : Nat → Option Nat) (y : Nat) (e : Ent) (nx : Option Nat) : Bool := match g (e.1 + 1), g (e.1 + 1 + 1) with
    | some a, some b => eqE 8 a 0 (Int32.ofInt (Reader.signed 8 b)).toInt e && nxB (e.1 + 3) nx
    | _, _ => false
theorem lf_132_ok {y : Nat} {e : Ent} {nx : Option Nat} (hb : bytN (mB y) e.1 = some 132) (h : lf_132 (bytN (mB y)) y e nx = true) : chkE y e nx = true := by
  unfold lf_132 at h
  split at h
  · rename_i a b ha hb2
    obtain ⟨h1, h2⟩ := and2 h
    exact lfA (y := y) (J := .iinc 0 0) (I := .iinc a (Reader.signed 8 b)) (dq_132 hb ha hb2) (by decide) rfl rfl nofun nofun rfl rfl (Or.inl nofun) h1 (Or.inr (nxB_ok h2))
  · cases h
def lf_133 (g : Nat → Option Nat) (y : Nat) (e : Ent) (nx : Option Nat) : Bool := eqE 42 0 0 0 e && nxB (e.1 + 1) nx
theorem lf_133_ok {y : Nat} {e : Ent} {nx : Option Nat} (hb : bytN (mB y) e.1 = some 133) (h : lf_133 (bytN (mB y)) y e nx = true) : chkE y e nx = true := by
  unfold lf_133 at h
  obtain ⟨h1, h2⟩ := and2 h
  exact lfA (y := y) (J := .i2l) (I := .i2l) (dq_133 hb) (by decide) rfl (rfl) nofun nofun rfl rfl (Or.inl nofun) h1 (Or.inr (nxB_ok h2))
def lf_153 (g : Nat → Option Nat) (y : Nat) (e : Ent) (nx : Option Nat) : Bool := match g (e.1 + 1), g (e.1 + 1 + 1) with
    | some a, some b => decide (0 ≤ (e.1 : Int) + Reader.signed 16 (a * 256 + b)) && eqE 50 (tg e.1 (Reader.signed 16 (a * 256 + b))) 0 0 e && hasL y e.2.2.1 && nxB (e.1 + 3) nx
    | _, _ => false
theorem lf_153_ok {y : Nat} {e : Ent} {nx : Option Nat} (hb : bytN (mB y) e.1 = some 153) (h : lf_153 (bytN (mB y)) y e nx = true) : chkE y e nx = true := by
  unfold lf_153 at h
  split at h
  · rename_i a b ha hb2
    obtain ⟨h, h4⟩ := and2 h
    obtain ⟨h, h3⟩ := and2 h
    obtain ⟨h1, h2⟩ := and2 h
    have ht : e.2.2.1 = tg e.1 (Reader.signed 16 (a * 256 + b)) := by rw [eqE_ok (by decide) h2]
    rw [ht] at h3
    exact lfA (y := y) (J := .ifCond .eq 0) (I := .ifCond .eq (Reader.signed 16 (a * 256 + b))) (dq_153 hb ha hb2) (by decide) rfl (if_pos (of_decide_eq_true h1)) nofun nofun h3 rfl (Or.inl nofun) h2 (Or.inr (nxB_ok h4))
  · cases h
def lf_154 (g : Nat → Option Nat) (y : Nat) (e : Ent) (nx : Option Nat) : Bool := match g (e.1 + 1), g (e.1 + 1 + 1) with
    | some a, some b => decide (0 ≤ (e.1 : Int) + Reader.signed 16 (a * 256 + b)) && eqE 51 (tg e.1 (Reader.signed 16 (a * 256 + b))) 0 0 e && hasL y e.2.2.1 && nxB (e.1 + 3) nx
    | _, _ => false
theorem lf_154_ok {y : Nat} {e : Ent} {nx : Option Nat} (hb : bytN (mB y) e.1 = some 154) (h : lf_154 (bytN (mB y)) y e nx = true) : chkE y e nx = true := by
  unfold lf_154 at h
  split at h
  · rename_i a b ha hb2
    obtain ⟨h, h4⟩ := and2 h
    obtain ⟨h, h3⟩ := and2 h
    obtain ⟨h1, h2⟩ := and2 h
    have ht : e.2.2.1 = tg e.1 (Reader.signed 16 (a * 256 + b)) := by rw [eqE_ok (by decide) h2]
    rw [ht] at h3
    exact lfA (y := y) (J := .ifCond .ne 0) (I := .ifCond .ne (Reader.signed 16 (a * 256 + b))) (dq_154 hb ha hb2) (by decide) rfl (if_pos (of_decide_eq_true h1)) nofun nofun h3 rfl (Or.inl nofun) h2 (Or.inr (nxB_ok h4))
  · cases h
def lf_155 (g : Nat → Option Nat) (y : Nat) (e : Ent) (nx : Option Nat) : Bool := match g (e.1 + 1), g (e.1 + 1 + 1) with
    | some a, some b => decide (0 ≤ (e.1 : Int) + Reader.signed 16 (a * 256 + b)) && eqE 52 (tg e.1 (Reader.signed 16 (a * 256 + b))) 0 0 e && hasL y e.2.2.1 && nxB (e.1 + 3) nx
    | _, _ => false
theorem lf_155_ok {y : Nat} {e : Ent} {nx : Option Nat} (hb : bytN (mB y) e.1 = some 155) (h : lf_155 (bytN (mB y)) y e nx = true) : chkE y e nx = true := by
  unfold lf_155 at h
  split at h
  · rename_i a b ha hb2
    obtain ⟨h, h4⟩ := and2 h
    obtain ⟨h, h3⟩ := and2 h
    obtain ⟨h1, h2⟩ := and2 h
    have ht : e.2.2.1 = tg e.1 (Reader.signed 16 (a * 256 + b)) := by rw [eqE_ok (by decide) h2]
    rw [ht] at h3
    exact lfA (y := y) (J := .ifCond .lt 0) (I := .ifCond .lt (Reader.signed 16 (a * 256 + b))) (dq_155 hb ha hb2) (by decide) rfl (if_pos (of_decide_eq_true h1)) nofun nofun h3 rfl (Or.inl nofun) h2 (Or.inr (nxB_ok h4))
  · cases h
def lf_156 (g : Nat → Option Nat) (y : Nat) (e : Ent) (nx : Option Nat) : Bool := match g (e.1 + 1), g (e.1 + 1 + 1) with
    | some a, some b => decide (0 ≤ (e.1 : Int) + Reader.signed 16 (a * 256 + b)) && eqE 53 (tg e.1 (Reader.signed 16 (a * 256 + b))) 0 0 e && hasL y e.2.2.1 && nxB (e.1 + 3) nx
    | _, _ => false
theorem lf_156_ok {y : Nat} {e : Ent} {nx : Option Nat} (hb : bytN (mB y) e.1 = some 156) (h : lf_156 (bytN (mB y)) y e nx = true) : chkE y e nx = true := by
  unfold lf_156 at h
  split at h
  · rename_i a b ha hb2
    obtain ⟨h, h4⟩ := and2 h
    obtain ⟨h, h3⟩ := and2 h
    obtain ⟨h1, h2⟩ := and2 h
    have ht : e.2.2.1 = tg e.1 (Reader.signed 16 (a * 256 + b)) := by rw [eqE_ok (by decide) h2]
    rw [ht] at h3
    exact lfA (y := y) (J := .ifCond .ge 0) (I := .ifCond .ge (Reader.signed 16 (a * 256 + b))) (dq_156 hb ha hb2) (by decide) rfl (if_pos (of_decide_eq_true h1)) nofun nofun h3 rfl (Or.inl nofun) h2 (Or.inr (nxB_ok h4))
  · cases h
def lf_157 (g : Nat → Option Nat) (y : Nat) (e : Ent) (nx : Option Nat) : Bool := match g (e.1 + 1), g (e.1 + 1 + 1) with
    | some a, some b => decide (0 ≤ (e.1 : Int) + Reader.signed 16 (a * 256 + b)) && eqE 54 (tg e.1 (Reader.signed 16 (a * 256 + b))) 0 0 e && hasL y e.2.2.1 && nxB (e.1 + 3) nx
    | _, _ => false
theorem lf_157_ok {y : Nat} {e : Ent} {nx : Option Nat} (hb : bytN (mB y) e.1 = some 157) (h : lf_157 (bytN (mB y)) y e nx = true) : chkE y e nx = true := by
  unfold lf_157 at h
  split at h
  · rename_i a b ha hb2
    obtain ⟨h, h4⟩ := and2 h
    obtain ⟨h, h3⟩ := and2 h
    obtain ⟨h1, h2⟩ := and2 h
    have ht : e.2.2.1 = tg e.1 (Reader.signed 16 (a * 256 + b)) := by rw [eqE_ok (by decide) h2]
    rw [ht] at h3
    exact lfA (y := y) (J := .ifCond .gt 0) (I := .ifCond .gt (Reader.signed 16 (a * 256 + b))) (dq_157 hb ha hb2) (by decide) rfl (if_pos (of_decide_eq_true h1)) nofun nofun h3 rfl (Or.inl nofun) h2 (Or.inr (nxB_ok h4))
  · cases h
def lf_158 (g : Nat → Option Nat) (y : Nat) (e : Ent) (nx : Option Nat) : Bool := match g (e.1 + 1), g (e.1 + 1 + 1) with
    | some a, some b => decide (0 ≤ (e.1 : Int) + Reader.signed 16 (a * 256 + b)) && eqE 55 (tg e.1 (Reader.signed 16 (a * 256 + b))) 0 0 e && hasL y e.2.2.1 && nxB (e.1 + 3) nx
    | _, _ => false
theorem lf_158_ok {y : Nat} {e : Ent} {nx : Option Nat} (hb : bytN (mB y) e.1 = some 158) (h : lf_158 (bytN (mB y)) y e nx = true) : chkE y e nx = true := by
  unfold lf_158 at h
  split at h
  · rename_i a b ha hb2
    obtain ⟨h, h4⟩ := and2 h
    obtain ⟨h, h3⟩ := and2 h
    obtain ⟨h1, h2⟩ := and2 h
    have ht : e.2.2.1 = tg e.1 (Reader.signed 16 (a * 256 + b)) := by rw [eqE_ok (by decide) h2]
    rw [ht] at h3
    exact lfA (y := y) (J := .ifCond .le 0) (I := .ifCond .le (Reader.signed 16 (a * 256 + b))) (dq_158 hb ha hb2) (by decide) rfl (if_pos (of_decide_eq_true h1)) nofun nofun h3 rfl (Or.inl nofun) h2 (Or.inr (nxB_ok h4))
  · cases h
def lf_159 (g : Nat → Option Nat) (y : Nat) (e : Ent) (nx : Option Nat) : Bool := match g (e.1 + 1), g (e.1 + 1 + 1) with
    | some a, some b => decide (0 ≤ (e.1 : Int) + Reader.signed 16 (a * 256 + b)) && eqE 60 (tg e.1 (Reader.signed 16 (a * 256 + b))) 0 0 e && hasL y e.2.2.1 && nxB (e.1 + 3) nx
    | _, _ => false
theorem lf_159_ok {y : Nat} {e : Ent} {nx : Option Nat} (hb : bytN (mB y) e.1 = some 159) (h : lf_159 (bytN (mB y)) y e nx = true) : chkE y e nx = true := by
  unfold lf_159 at h
  split at h
  · rename_i a b ha hb2
    obtain ⟨h, h4⟩ := and2 h
    obtain ⟨h, h3⟩ := and2 h
    obtain ⟨h1, h2⟩ := and2 h
    have ht : e.2.2.1 = tg e.1 (Reader.signed 16 (a * 256 + b)) := by rw [eqE_ok (by decide) h2]
    rw [ht] at h3
    exact lfA (y := y) (J := .if_icmp .eq 0) (I := .if_icmp .eq (Reader.signed 16 (a * 256 + b))) (dq_159 hb ha hb2) (by decide) rfl (if_pos (of_decide_eq_true h1)) nofun nofun h3 rfl (Or.inl nofun) h2 (Or.inr (nxB_ok h4))
  · cases h
def lf_160 (g : Nat → Option Nat) (y : Nat) (e : Ent) (nx : Option Nat) : Bool := match g (e.1 + 1), g (e.1 + 1 + 1) with
    | some a, some b => decide (0 ≤ (e.1 : Int) + Reader.signed 16 (a * 256 + b)) && eqE 61 (tg e.1 (Reader.signed 16 (a * 256 + b))) 0 0 e && hasL y e.2.2.1 && nxB (e.1 + 3) nx
    | _, _ => false
theorem lf_160_ok {y : Nat} {e : Ent} {nx : Option Nat} (hb : bytN (mB y) e.1 = some 160) (h : lf_160 (bytN (mB y)) y e nx = true) : chkE y e nx = true := by
  unfold lf_160 at h
  split at h
  · rename_i a b ha hb2
    obtain ⟨h, h4⟩ := and2 h
    obtain ⟨h, h3⟩ := and2 h
    obtain ⟨h1, h2⟩ := and2 h
    have ht : e.2.2.1 = tg e.1 (Reader.signed 16 (a * 256 + b)) := by rw [eqE_ok (by decide) h2]
    rw [ht] at h3
    exact lfA (y := y) (J := .if_icmp .ne 0) (I := .if_icmp .ne (Reader.signed 16 (a * 256 + b))) (dq_160 hb ha hb2) (by decide) rfl (if_pos (of_decide_eq_true h1)) nofun nofun h3 rfl (Or.inl nofun) h2 (Or.inr (nxB_ok h4))
  · cases h
def lf_161 (g : Nat → Option Nat) (y : Nat) (e : Ent) (nx : Option Nat) : Bool := match g (e.1 + 1), g (e.1 + 1 + 1) with
    | some a, some b => decide (0 ≤ (e.1 : Int) + Reader.signed 16 (a * 256 + b)) && eqE 62 (tg e.1 (Reader.signed 16 (a * 256 + b))) 0 0 e && hasL y e.2.2.1 && nxB (e.1 + 3) nx
    | _, _ => false
theorem lf_161_ok {y : Nat} {e : Ent} {nx : Option Nat} (hb : bytN (mB y) e.1 = some 161) (h : lf_161 (bytN (mB y)) y e nx = true) : chkE y e nx = true := by
  unfold lf_161 at h
  split at h
  · rename_i a b ha hb2
    obtain ⟨h, h4⟩ := and2 h
    obtain ⟨h, h3⟩ := and2 h
    obtain ⟨h1, h2⟩ := and2 h
    have ht : e.2.2.1 = tg e.1 (Reader.signed 16 (a * 256 + b)) := by rw [eqE_ok (by decide) h2]
    rw [ht] at h3
    exact lfA (y := y) (J := .if_icmp .lt 0) (I := .if_icmp .lt (Reader.signed 16 (a * 256 + b))) (dq_161 hb ha hb2) (by decide) rfl (if_pos (of_decide_eq_true h1)) nofun nofun h3 rfl (Or.inl nofun) h2 (Or.inr (nxB_ok h4))
  · cases h
def lf_162 (g : Nat → Option Nat) (y : Nat) (e : Ent) (nx : Option Nat) : Bool := match g (e.1 + 1), g (e.1 + 1 + 1) with
    | some a, some b => decide (0 ≤ (e.1 : Int) + Reader.signed 16 (a * 256 + b)) && eqE 63 (tg e.1 (Reader.signed 16 (a * 256 + b))) 0 0 e && hasL y e.2.2.1 && nxB (e.1 + 3) nx
    | _, _ => false
theorem lf_162_ok {y : Nat} {e : Ent} {nx : Option Nat} (hb : bytN (mB y) e.1 = some 162) (h : lf_162 (bytN (mB y)) y e nx = true) : chkE y e nx = true := by
  unfold lf_162 at h
  split at h
  · rename_i a b ha hb2
    obtain ⟨h, h4⟩ := and2 h
    obtain ⟨h, h3⟩ := and2 h
    obtain ⟨h1, h2⟩ := and2 h
    have ht : e.2.2.1 = tg e.1 (Reader.signed 16 (a * 256 + b)) := by rw [eqE_ok (by decide) h2]
    rw [ht] at h3
    exact lfA (y := y) (J := .if_icmp .ge 0) (I := .if_icmp .ge (Reader.signed 16 (a * 256 + b))) (dq_162 hb ha hb2) (by decide) rfl (if_pos (of_decide_eq_true h1)) nofun nofun h3 rfl (Or.inl nofun) h2 (Or.inr (nxB_ok h4))
  · cases h
def lf_163 (g : Nat → Option Nat) (y : Nat) (e : Ent) (nx : Option Nat) : Bool := match g (e.1 + 1), g (e.1 + 1 + 1) with
    | some a, some b => decide (0 ≤ (e.1 : Int) + Reader.signed 16 (a * 256 + b)) && eqE 64 (tg e.1 (Reader.signed 16 (a * 256 + b))) 0 0 e && hasL y e.2.2.1 && nxB (e.1 + 3) nx
    | _, _ => false
theorem lf_163_ok {y : Nat} {e : Ent} {nx : Option Nat} (hb : bytN (mB y) e.1 = some 163) (h : lf_163 (bytN (mB y)) y e nx = true) : chkE y e nx = true := by
  unfold lf_163 at h
  split at h
  · rename_i a b ha hb2
    obtain ⟨h, h4⟩ := and2 h
    obtain ⟨h, h3⟩ := and2 h
    obtain ⟨h1, h2⟩ := and2 h
    have ht : e.2.2.1 = tg e.1 (Reader.signed 16 (a * 256 + b)) := by rw [eqE_ok (by decide) h2]
    rw [ht] at h3
    exact lfA (y := y) (J := .if_icmp .gt 0) (I := .if_icmp .gt (Reader.signed 16 (a * 256 + b))) (dq_163 hb ha hb2) (by decide) rfl (if_pos (of_decide_eq_true h1)) nofun nofun h3 rfl (Or.inl nofun) h2 (Or.inr (nxB_ok h4))
  · cases h
def lf_164 (g : Nat → Option Nat) (y : Nat) (e : Ent) (nx : Option Nat) : Bool := match g (e.1 + 1), g (e.1 + 1 + 1) with
    | some a, some b => decide (0 ≤ (e.1 : Int) + Reader.signed 16 (a * 256 + b)) && eqE 65 (tg e.1 (Reader.signed 16 (a * 256 + b))) 0 0 e && hasL y e.2.2.1 && nxB (e.1 + 3) nx
    | _, _ => false
theorem lf_164_ok {y : Nat} {e : Ent} {nx : Option Nat} (hb : bytN (mB y) e.1 = some 164) (h : lf_164 (bytN (mB y)) y e nx = true) : chkE y e nx = true := by
  unfold lf_164 at h
  split at h
  · rename_i a b ha hb2
    obtain ⟨h, h4⟩ := and2 h
    obtain ⟨h, h3⟩ := and2 h
    obtain ⟨h1, h2⟩ := and2 h
    have ht : e.2.2.1 = tg e.1 (Reader.signed 16 (a * 256 + b)) := by rw [eqE_ok (by decide) h2]
    rw [ht] at h3
    exact lfA (y := y) (J := .if_icmp .le 0) (I := .if_icmp .le (Reader.signed 16 (a * 256 + b))) (dq_164 hb ha hb2) (by decide) rfl (if_pos (of_decide_eq_true h1)) nofun nofun h3 rfl (Or.inl nofun) h2 (Or.inr (nxB_ok h4))
  · cases h
def lf_167 (g : Nat → Option Nat) (y : Nat) (e : Ent) (nx : Option Nat) : Bool := match g (e.1 + 1), g (e.1 + 1 + 1) with
    | some a, some b => decide (0 ≤ (e.1 : Int) + Reader.signed 16 (a * 256 + b)) && eqE 9 (tg e.1 (Reader.signed 16 (a * 256 + b))) 0 0 e && hasL y e.2.2.1
    | _, _ => false
theorem lf_167_ok {y : Nat} {e : Ent} {nx : Option Nat} (hb : bytN (mB y) e.1 = some 167) (h : lf_167 (bytN (mB y)) y e nx = true) : chkE y e nx = true := by
  unfold lf_167 at h
  split at h
  · rename_i a b ha hb2
    obtain ⟨h, h3⟩ := and2 h
    obtain ⟨h1, h2⟩ := and2 h
    have ht : e.2.2.1 = tg e.1 (Reader.signed 16 (a * 256 + b)) := by rw [eqE_ok (by decide) h2]
    rw [ht] at h3
    exact lfA (y := y) (J := .goto 0) (I := .goto (Reader.signed 16 (a * 256 + b))) (dq_167 hb ha hb2) (by decide) rfl (if_pos (of_decide_eq_true h1)) nofun nofun h3 rfl (Or.inl nofun) h2 (Or.inl rfl)
  · cases h
def lf_172 (g : Nat → Option Nat) (y : Nat) (e : Ent) (nx : Option Nat) : Bool := Nat.blt (retF y) 4 && eqE 43 0 (retF y) 0 e
theorem lf_172_ok {y : Nat} {e : Ent} {nx : Option Nat} (hb : bytN (mB y) e.1 = some 172) (h : lf_172 (bytN (mB y)) y e nx = true) : chkE y e nx = true := by
  unfold lf_172 at h
  obtain ⟨h1, h2⟩ := and2 h
  exact lfA (y := y) (J := .ireturn) (I := .ireturn) (dq_172 hb) (by decide) rfl (if_pos (Nat.le_of_ble_eq_true h1)) nofun nofun rfl rfl (Or.inl nofun) h2 (Or.inl rfl)
def lf_177 (g : Nat → Option Nat) (y : Nat) (e : Ent) (nx : Option Nat) : Bool := decide (mR y = none) && eqE 44 0 0 0 e
theorem lf_177_ok {y : Nat} {e : Ent} {nx : Option Nat} (hb : bytN (mB y) e.1 = some 177) (h : lf_177 (bytN (mB y)) y e nx = true) : chkE y e nx = true := by
  unfold lf_177 at h
  obtain ⟨h1, h2⟩ := and2 h
  exact lfA (y := y) (J := .return_) (I := .return_) (dq_177 hb) (by decide) rfl (if_pos (of_decide_eq_true h1)) nofun nofun rfl rfl (Or.inl nofun) h2 (Or.inl rfl)
def lf_180 (g : Nat → Option Nat) (y : Nat) (e : Ent) (nx : Option Nat) : Bool := match g (e.1 + 1), g (e.1 + 1 + 1) with
    | some a, some b => (match lkzF (oI y) (a * 256 + b) with
      | some (ci, k, _) => eqE 10 (10 + ci) (fFt ci k) (k : Int) e
      | none => false) && nxB (e.1 + 3) nx
    | _, _ => false
theorem lf_180_ok {y : Nat} {e : Ent} {nx : Option Nat} (hb : bytN (mB y) e.1 = some 180) (h : lf_180 (bytN (mB y)) y e nx = true) : chkE y e nx = true := by
  unfold lf_180 at h
  split at h
  · rename_i a b ha hb2
    obtain ⟨h, h4⟩ := and2 h
    split at h
    · rename_i ci k p hq
      exact lfA (y := y) (J := .getfield 0) (I := .getfield (a * 256 + b)) (dq_180 hb ha hb2) (by decide) rfl (by show (match cpF.lookup (oI y, a * 256 + b) with | some (ci, k, _) => some (Instr.getfield 0, 10 + ci, fFl ci k, (k : Int)) | none => none) = _; rw [← lkzF_eq, hq]; show some (Instr.getfield 0, 10 + ci, fFl ci k, (k : Int)) = _; rw [fFt_eq hq]) nofun nofun rfl rfl (Or.inl nofun) h (Or.inr (nxB_ok h4))
    · cases h
  · cases h
def lf_181 (g : Nat → Option Nat) (y : Nat) (e : Ent) (nx : Option Nat) : Bool := match g (e.1 + 1), g (e.1 + 1 + 1) with
    | some a, some b => (match lkzF (oI y) (a * 256 + b) with
      | some (ci, k, _) => (Nat.blt ci 12 && finOK y ci k) && eqE 11 (10 + ci) (fFt ci k) (k : Int) e
      | none => false) && nxB (e.1 + 3) nx
    | _, _ => false
theorem lf_181_ok {y : Nat} {e : Ent} {nx : Option Nat} (hb : bytN (mB y) e.1 = some 181) (h : lf_181 (bytN (mB y)) y e nx = true) : chkE y e nx = true := by
  unfold lf_181 at h
  split at h
  · rename_i a b ha hb2
    obtain ⟨h, h4⟩ := and2 h
    split at h
    · rename_i ci k p hq
      obtain ⟨h, h5⟩ := and2 h
      obtain ⟨h1, h2⟩ := and2 h
      exact lfA (y := y) (J := .putfield 0) (I := .putfield (a * 256 + b)) (dq_181 hb ha hb2) (by decide) rfl (by show (match cpF.lookup (oI y, a * 256 + b) with | some (ci, k, _) => if ci < 12 ∧ finOK y ci k = true then some (Instr.putfield 0, 10 + ci, fFl ci k, (k : Int)) else none | none => none) = _; rw [← lkzF_eq, hq]; show (if ci < 12 ∧ finOK y ci k = true then some (Instr.putfield 0, 10 + ci, fFl ci k, (k : Int)) else none) = _; rw [if_pos ⟨Nat.le_of_ble_eq_true h1, h2⟩, fFt_eq hq]) nofun nofun rfl rfl (Or.inl nofun) h5 (Or.inr (nxB_ok h4))
    · cases h
  · cases h
def lf_182 (g : Nat → Option Nat) (y : Nat) (e : Ent) (nx : Option Nat) : Bool := match g (e.1 + 1), g (e.1 + 1 + 1) with
    | some a, some b => (match lkzM (oI y) (a * 256 + b) with
      | some (y', _, 0) => Nat.blt y' 323 && !mS y' && !iniM.testBit y' && eqE 12 y' (mP y' + 1) ((10 + oI y' : Nat) : Int) e
      | _ => false) && nxB (e.1 + 3) nx
    | _, _ => false
theorem lf_182_ok {y : Nat} {e : Ent} {nx : Option Nat} (hb : bytN (mB y) e.1 = some 182) (h : lf_182 (bytN (mB y)) y e nx = true) : chkE y e nx = true := by
  unfold lf_182 at h
  split at h
  · rename_i a b ha hb2
    obtain ⟨h, h4⟩ := and2 h
    split at h
    · rename_i y' p hq
      obtain ⟨h, h5⟩ := and2 h
      obtain ⟨h, h3⟩ := and2 h
      obtain ⟨h1, h2⟩ := and2 h
      rw [Bool.not_eq_true'] at h2 h3
      have h1' : y' < 323 := Nat.le_of_ble_eq_true h1
      rw [← ini_eq (by omega)] at h3
      exact lfA (y := y) (J := .invokevirtual 0) (I := .invokevirtual (a * 256 + b)) (dq_182 hb ha hb2) (by decide) rfl (by show (match cpM.lookup (oI y, a * 256 + b) with | some (y', _, 0) => if y' < 353 ∧ mS y' = false ∧ isIni y' = false ∧ (mHl.lookup y').isSome = false then some (Instr.invokevirtual 0, y', mP y' + 1, ((10 + oI y' : Nat) : Int)) else none | _ => none) = _; rw [← lkzM_eq, hq]; show (if y' < 353 ∧ mS y' = false ∧ isIni y' = false ∧ (mHl.lookup y').isSome = false then some (Instr.invokevirtual 0, y', mP y' + 1, ((10 + oI y' : Nat) : Int)) else none) = _; rw [if_pos ⟨by omega, h2, h3, mHn h1'⟩]) nofun nofun rfl rfl (Or.inl nofun) h5 (Or.inr (nxB_ok h4))
    · cases h
  · cases h
def lf_184 (g : Nat → Option Nat) (y : Nat) (e : Ent) (nx : Option Nat) : Bool := match g (e.1 + 1), g (e.1 + 1 + 1) with
    | some a, some b => (match lkzM (oI y) (a * 256 + b) with
      | some (y', _, 0) => Nat.blt y' 353 && mS y' && eqE 13 y' (mP y') 0 e && (Nat.blt y 323 || Nat.beq y 353)
      | _ => false) && nxB (e.1 + 3) nx
    | _, _ => false
theorem lf_184_ok {y : Nat} {e : Ent} {nx : Option Nat} (hb : bytN (mB y) e.1 = some 184) (h : lf_184 (bytN (mB y)) y e nx = true) : chkE y e nx = true := by
  unfold lf_184 at h
  split at h
  · rename_i a b ha hb2
    obtain ⟨h, h4⟩ := and2 h
    split at h
    · rename_i y' p hq
      obtain ⟨h, h6⟩ := and2 h
      obtain ⟨h, h5⟩ := and2 h
      obtain ⟨h1, h2⟩ := and2 h
      have h1' : y' < 353 := Nat.le_of_ble_eq_true h1
      have h6' : y < 323 ∨ y = 353 := by
        rw [Bool.or_eq_true] at h6
        rcases h6 with h | h
        · exact Or.inl (Nat.le_of_ble_eq_true h)
        · exact Or.inr (Nat.eq_of_beq_eq_true h)
      exact lfA (y := y) (J := .invokestatic 0) (I := .invokestatic (a * 256 + b)) (dq_184 hb ha hb2) (by decide) rfl (by show (match cpM.lookup (oI y, a * 256 + b) with | some (y', _, 0) => if y' = 998 then some (Instr.invokedynamic 0, 0, 0, (0 : Int)) else if y' = 996 then some (Instr.ladd, 0, 0, (0 : Int)) else if y' = 995 then some (Instr.land, 0, 0, (0 : Int)) else if y' < 353 ∧ mS y' = true then some (Instr.invokestatic 0, y', mP y', (0 : Int)) else none | _ => none) = _; rw [← lkzM_eq, hq]; show (if y' = 998 then some (Instr.invokedynamic 0, 0, 0, (0 : Int)) else if y' = 996 then some (Instr.ladd, 0, 0, (0 : Int)) else if y' = 995 then some (Instr.land, 0, 0, (0 : Int)) else if y' < 353 ∧ mS y' = true then some (Instr.invokestatic 0, y', mP y', (0 : Int)) else none) = _; rw [if_neg (by omega), if_neg (by omega), if_neg (by omega), if_pos ⟨h1', h2⟩]) nofun nofun rfl rfl (Or.inr h6') h5 (Or.inr (nxB_ok h4))
    · cases h
  · cases h
def lf_190 (g : Nat → Option Nat) (y : Nat) (e : Ent) (nx : Option Nat) : Bool := eqE 38 0 0 0 e && nxB (e.1 + 1) nx
theorem lf_190_ok {y : Nat} {e : Ent} {nx : Option Nat} (hb : bytN (mB y) e.1 = some 190) (h : lf_190 (bytN (mB y)) y e nx = true) : chkE y e nx = true := by
  unfold lf_190 at h
  obtain ⟨h1, h2⟩ := and2 h
  exact lfA (y := y) (J := .arraylength) (I := .arraylength) (dq_190 hb) (by decide) rfl (rfl) nofun nofun rfl rfl (Or.inl nofun) h1 (Or.inr (nxB_ok h2))
def tr_0 (g : Nat → Option Nat) (y : Nat) (e : Ent) (nx : Option Nat) (n : Nat) : Bool := (if Nat.blt n 6 then (if Nat.blt n 4 then (if Nat.blt n 3 then (if Nat.beq n 2 then lf_2 g y e nx else false) else (if Nat.beq n 3 then lf_3 g y e nx else false)) else (if Nat.blt n 5 then (if Nat.beq n 4 then lf_4 g y e nx else false) else (if Nat.beq n 5 then lf_5 g y e nx else false))) else (if Nat.blt n 8 then (if Nat.blt n 7 then (if Nat.beq n 6 then lf_6 g y e nx else false) else (if Nat.beq n 7 then lf_7 g y e nx else false)) else (if Nat.blt n 16 then (if Nat.beq n 8 then lf_8 g y e nx else false) else (if Nat.blt n 17 then (if Nat.beq n 16 then lf_16 g y e nx else false) else (if Nat.beq n 17 then lf_17 g y e nx else false)))))
theorem tr_0_ok {y n : Nat} {e : Ent} {nx : Option Nat} (hb : bytN (mB y) e.1 = some n) (h : tr_0 (bytN (mB y)) y e nx n = true) : chkE y e nx = true := by
  unfold tr_0 at h
  by_cases c1 : Nat.blt n 6 = true
  · rw [if_pos c1] at h
    by_cases c2 : Nat.blt n 4 = true
    · rw [if_pos c2] at h
      by_cases c3 : Nat.blt n 3 = true
      · rw [if_pos c3] at h
        by_cases c : Nat.beq n 2 = true
        · rw [if_pos c] at h; have e9 := Nat.eq_of_beq_eq_true c; subst e9; exact lf_2_ok hb h
        · rw [if_neg c] at h; cases h
      · rw [if_neg c3] at h
        by_cases c : Nat.beq n 3 = true
        · rw [if_pos c] at h; have e9 := Nat.eq_of_beq_eq_true c; subst e9; exact lf_3_ok hb h
        · rw [if_neg c] at h; cases h
    · rw [if_neg c2] at h
      by_cases c3 : Nat.blt n 5 = true
      · rw [if_pos c3] at h
        by_cases c : Nat.beq n 4 = true
        · rw [if_pos c] at h; have e9 := Nat.eq_of_beq_eq_true c; subst e9; exact lf_4_ok hb h
        · rw [if_neg c] at h; cases h
      · rw [if_neg c3] at h
        by_cases c : Nat.beq n 5 = true
        · rw [if_pos c] at h; have e9 := Nat.eq_of_beq_eq_true c; subst e9; exact lf_5_ok hb h
        · rw [if_neg c] at h; cases h
  · rw [if_neg c1] at h
    by_cases c2 : Nat.blt n 8 = true
    · rw [if_pos c2] at h
      by_cases c3 : Nat.blt n 7 = true
      · rw [if_pos c3] at h
        by_cases c : Nat.beq n 6 = true
        · rw [if_pos c] at h; have e9 := Nat.eq_of_beq_eq_true c; subst e9; exact lf_6_ok hb h
        · rw [if_neg c] at h; cases h
      · rw [if_neg c3] at h
        by_cases c : Nat.beq n 7 = true
        · rw [if_pos c] at h; have e9 := Nat.eq_of_beq_eq_true c; subst e9; exact lf_7_ok hb h
        · rw [if_neg c] at h; cases h
    · rw [if_neg c2] at h
      by_cases c3 : Nat.blt n 16 = true
      · rw [if_pos c3] at h
        by_cases c : Nat.beq n 8 = true
        · rw [if_pos c] at h; have e9 := Nat.eq_of_beq_eq_true c; subst e9; exact lf_8_ok hb h
        · rw [if_neg c] at h; cases h
      · rw [if_neg c3] at h
        by_cases c4 : Nat.blt n 17 = true
        · rw [if_pos c4] at h
          by_cases c : Nat.beq n 16 = true
          · rw [if_pos c] at h; have e9 := Nat.eq_of_beq_eq_true c; subst e9; exact lf_16_ok hb h
          · rw [if_neg c] at h; cases h
        · rw [if_neg c4] at h
          by_cases c : Nat.beq n 17 = true
          · rw [if_pos c] at h; have e9 := Nat.eq_of_beq_eq_true c; subst e9; exact lf_17_ok hb h
          · rw [if_neg c] at h; cases h
def tr_1 (g : Nat → Option Nat) (y : Nat) (e : Ent) (nx : Option Nat) (n : Nat) : Bool := (if Nat.blt n 28 then (if Nat.blt n 26 then (if Nat.blt n 25 then (if Nat.beq n 21 then lf_21 g y e nx else false) else (if Nat.beq n 25 then lf_25 g y e nx else false)) else (if Nat.blt n 27 then (if Nat.beq n 26 then lf_26 g y e nx else false) else (if Nat.beq n 27 then lf_27 g y e nx else false))) else (if Nat.blt n 42 then (if Nat.blt n 29 then (if Nat.beq n 28 then lf_28 g y e nx else false) else (if Nat.beq n 29 then lf_29 g y e nx else false)) else (if Nat.blt n 43 then (if Nat.beq n 42 then lf_42 g y e nx else false) else (if Nat.blt n 44 then (if Nat.beq n 43 then lf_43 g y e nx else false) else (if Nat.beq n 44 then lf_44 g y e nx else false)))))
theorem tr_1_ok {y n : Nat} {e : Ent} {nx : Option Nat} (hb : bytN (mB y) e.1 = some n) (h : tr_1 (bytN (mB y)) y e nx n = true) : chkE y e nx = true := by
  unfold tr_1 at h
  by_cases c1 : Nat.blt n 28 = true
  · rw [if_pos c1] at h
    by_cases c2 : Nat.blt n 26 = true
    · rw [if_pos c2] at h
      by_cases c3 : Nat.blt n 25 = true
      · rw [if_pos c3] at h
        by_cases c : Nat.beq n 21 = true
        · rw [if_pos c] at h; have e9 := Nat.eq_of_beq_eq_true c; subst e9; exact lf_21_ok hb h
        · rw [if_neg c] at h; cases h
      · rw [if_neg c3] at h
        by_cases c : Nat.beq n 25 = true
        · rw [if_pos c] at h; have e9 := Nat.eq_of_beq_eq_true c; subst e9; exact lf_25_ok hb h
        · rw [if_neg c] at h; cases h
    · rw [if_neg c2] at h
      by_cases c3 : Nat.blt n 27 = true
      · rw [if_pos c3] at h
        by_cases c : Nat.beq n 26 = true
        · rw [if_pos c] at h; have e9 := Nat.eq_of_beq_eq_true c; subst e9; exact lf_26_ok hb h
        · rw [if_neg c] at h; cases h
      · rw [if_neg c3] at h
        by_cases c : Nat.beq n 27 = true
        · rw [if_pos c] at h; have e9 := Nat.eq_of_beq_eq_true c; subst e9; exact lf_27_ok hb h
        · rw [if_neg c] at h; cases h
  · rw [if_neg c1] at h
    by_cases c2 : Nat.blt n 42 = true
    · rw [if_pos c2] at h
      by_cases c3 : Nat.blt n 29 = true
      · rw [if_pos c3] at h
        by_cases c : Nat.beq n 28 = true
        · rw [if_pos c] at h; have e9 := Nat.eq_of_beq_eq_true c; subst e9; exact lf_28_ok hb h
        · rw [if_neg c] at h; cases h
      · rw [if_neg c3] at h
        by_cases c : Nat.beq n 29 = true
        · rw [if_pos c] at h; have e9 := Nat.eq_of_beq_eq_true c; subst e9; exact lf_29_ok hb h
        · rw [if_neg c] at h; cases h
    · rw [if_neg c2] at h
      by_cases c3 : Nat.blt n 43 = true
      · rw [if_pos c3] at h
        by_cases c : Nat.beq n 42 = true
        · rw [if_pos c] at h; have e9 := Nat.eq_of_beq_eq_true c; subst e9; exact lf_42_ok hb h
        · rw [if_neg c] at h; cases h
      · rw [if_neg c3] at h
        by_cases c4 : Nat.blt n 44 = true
        · rw [if_pos c4] at h
          by_cases c : Nat.beq n 43 = true
          · rw [if_pos c] at h; have e9 := Nat.eq_of_beq_eq_true c; subst e9; exact lf_43_ok hb h
          · rw [if_neg c] at h; cases h
        · rw [if_neg c4] at h
          by_cases c : Nat.beq n 44 = true
          · rw [if_pos c] at h; have e9 := Nat.eq_of_beq_eq_true c; subst e9; exact lf_44_ok hb h
          · rw [if_neg c] at h; cases h
def tr_2 (g : Nat → Option Nat) (y : Nat) (e : Ent) (nx : Option Nat) (n : Nat) : Bool := (if Nat.blt n 54 then (if Nat.blt n 50 then (if Nat.blt n 46 then (if Nat.beq n 45 then lf_45 g y e nx else false) else (if Nat.beq n 46 then lf_46 g y e nx else false)) else (if Nat.blt n 51 then (if Nat.beq n 50 then lf_50 g y e nx else false) else (if Nat.beq n 51 then lf_51 g y e nx else false))) else (if Nat.blt n 59 then (if Nat.blt n 58 then (if Nat.beq n 54 then lf_54 g y e nx else false) else (if Nat.beq n 58 then lf_58 g y e nx else false)) else (if Nat.blt n 60 then (if Nat.beq n 59 then lf_59 g y e nx else false) else (if Nat.blt n 61 then (if Nat.beq n 60 then lf_60 g y e nx else false) else (if Nat.beq n 61 then lf_61 g y e nx else false)))))
theorem tr_2_ok {y n : Nat} {e : Ent} {nx : Option Nat} (hb : bytN (mB y) e.1 = some n) (h : tr_2 (bytN (mB y)) y e nx n = true) : chkE y e nx = true := by
  unfold tr_2 at h
  by_cases c1 : Nat.blt n 54 = true
  · rw [if_pos c1] at h
    by_cases c2 : Nat.blt n 50 = true
    · rw [if_pos c2] at h
      by_cases c3 : Nat.blt n 46 = true
      · rw [if_pos c3] at h
        by_cases c : Nat.beq n 45 = true
        · rw [if_pos c] at h; have e9 := Nat.eq_of_beq_eq_true c; subst e9; exact lf_45_ok hb h
        · rw [if_neg c] at h; cases h
      · rw [if_neg c3] at h
        by_cases c : Nat.beq n 46 = true
        · rw [if_pos c] at h; have e9 := Nat.eq_of_beq_eq_true c; subst e9; exact lf_46_ok hb h
        · rw [if_neg c] at h; cases h
    · rw [if_neg c2] at h
      by_cases c3 : Nat.blt n 51 = true
      · rw [if_pos c3] at h
        by_cases c : Nat.beq n 50 = true
        · rw [if_pos c] at h; have e9 := Nat.eq_of_beq_eq_true c; subst e9; exact lf_50_ok hb h
        · rw [if_neg c] at h; cases h
      · rw [if_neg c3] at h
        by_cases c : Nat.beq n 51 = true
        · rw [if_pos c] at h; have e9 := Nat.eq_of_beq_eq_true c; subst e9; exact lf_51_ok hb h
        · rw [if_neg c] at h; cases h
  · rw [if_neg c1] at h
    by_cases c2 : Nat.blt n 59 = true
    · rw [if_pos c2] at h
      by_cases c3 : Nat.blt n 58 = true
      · rw [if_pos c3] at h
        by_cases c : Nat.beq n 54 = true
        · rw [if_pos c] at h; have e9 := Nat.eq_of_beq_eq_true c; subst e9; exact lf_54_ok hb h
        · rw [if_neg c] at h; cases h
      · rw [if_neg c3] at h
        by_cases c : Nat.beq n 58 = true
        · rw [if_pos c] at h; have e9 := Nat.eq_of_beq_eq_true c; subst e9; exact lf_58_ok hb h
        · rw [if_neg c] at h; cases h
    · rw [if_neg c2] at h
      by_cases c3 : Nat.blt n 60 = true
      · rw [if_pos c3] at h
        by_cases c : Nat.beq n 59 = true
        · rw [if_pos c] at h; have e9 := Nat.eq_of_beq_eq_true c; subst e9; exact lf_59_ok hb h
        · rw [if_neg c] at h; cases h
      · rw [if_neg c3] at h
        by_cases c4 : Nat.blt n 61 = true
        · rw [if_pos c4] at h
          by_cases c : Nat.beq n 60 = true
          · rw [if_pos c] at h; have e9 := Nat.eq_of_beq_eq_true c; subst e9; exact lf_60_ok hb h
          · rw [if_neg c] at h; cases h
        · rw [if_neg c4] at h
          by_cases c : Nat.beq n 61 = true
          · rw [if_pos c] at h; have e9 := Nat.eq_of_beq_eq_true c; subst e9; exact lf_61_ok hb h
          · rw [if_neg c] at h; cases h
def tr_3 (g : Nat → Option Nat) (y : Nat) (e : Ent) (nx : Option Nat) (n : Nat) : Bool := (if Nat.blt n 78 then (if Nat.blt n 76 then (if Nat.blt n 75 then (if Nat.beq n 62 then lf_62 g y e nx else false) else (if Nat.beq n 75 then lf_75 g y e nx else false)) else (if Nat.blt n 77 then (if Nat.beq n 76 then lf_76 g y e nx else false) else (if Nat.beq n 77 then lf_77 g y e nx else false))) else (if Nat.blt n 80 then (if Nat.blt n 79 then (if Nat.beq n 78 then lf_78 g y e nx else false) else (if Nat.beq n 79 then lf_79 g y e nx else false)) else (if Nat.blt n 83 then (if Nat.beq n 80 then lf_80 g y e nx else false) else (if Nat.blt n 84 then (if Nat.beq n 83 then lf_83 g y e nx else false) else (if Nat.beq n 84 then lf_84 g y e nx else false)))))
theorem tr_3_ok {y n : Nat} {e : Ent} {nx : Option Nat} (hb : bytN (mB y) e.1 = some n) (h : tr_3 (bytN (mB y)) y e nx n = true) : chkE y e nx = true := by
  unfold tr_3 at h
  by_cases c1 : Nat.blt n 78 = true
  · rw [if_pos c1] at h
    by_cases c2 : Nat.blt n 76 = true
    · rw [if_pos c2] at h
      by_cases c3 : Nat.blt n 75 = true
      · rw [if_pos c3] at h
        by_cases c : Nat.beq n 62 = true
        · rw [if_pos c] at h; have e9 := Nat.eq_of_beq_eq_true c; subst e9; exact lf_62_ok hb h
        · rw [if_neg c] at h; cases h
      · rw [if_neg c3] at h
        by_cases c : Nat.beq n 75 = true
        · rw [if_pos c] at h; have e9 := Nat.eq_of_beq_eq_true c; subst e9; exact lf_75_ok hb h
        · rw [if_neg c] at h; cases h
    · rw [if_neg c2] at h
      by_cases c3 : Nat.blt n 77 = true
      · rw [if_pos c3] at h
        by_cases c : Nat.beq n 76 = true
        · rw [if_pos c] at h; have e9 := Nat.eq_of_beq_eq_true c; subst e9; exact lf_76_ok hb h
        · rw [if_neg c] at h; cases h
      · rw [if_neg c3] at h
        by_cases c : Nat.beq n 77 = true
        · rw [if_pos c] at h; have e9 := Nat.eq_of_beq_eq_true c; subst e9; exact lf_77_ok hb h
        · rw [if_neg c] at h; cases h
  · rw [if_neg c1] at h
    by_cases c2 : Nat.blt n 80 = true
    · rw [if_pos c2] at h
      by_cases c3 : Nat.blt n 79 = true
      · rw [if_pos c3] at h
        by_cases c : Nat.beq n 78 = true
        · rw [if_pos c] at h; have e9 := Nat.eq_of_beq_eq_true c; subst e9; exact lf_78_ok hb h
        · rw [if_neg c] at h; cases h
      · rw [if_neg c3] at h
        by_cases c : Nat.beq n 79 = true
        · rw [if_pos c] at h; have e9 := Nat.eq_of_beq_eq_true c; subst e9; exact lf_79_ok hb h
        · rw [if_neg c] at h; cases h
    · rw [if_neg c2] at h
      by_cases c3 : Nat.blt n 83 = true
      · rw [if_pos c3] at h
        by_cases c : Nat.beq n 80 = true
        · rw [if_pos c] at h; have e9 := Nat.eq_of_beq_eq_true c; subst e9; exact lf_80_ok hb h
        · rw [if_neg c] at h; cases h
      · rw [if_neg c3] at h
        by_cases c4 : Nat.blt n 84 = true
        · rw [if_pos c4] at h
          by_cases c : Nat.beq n 83 = true
          · rw [if_pos c] at h; have e9 := Nat.eq_of_beq_eq_true c; subst e9; exact lf_83_ok hb h
          · rw [if_neg c] at h; cases h
        · rw [if_neg c4] at h
          by_cases c : Nat.beq n 84 = true
          · rw [if_pos c] at h; have e9 := Nat.eq_of_beq_eq_true c; subst e9; exact lf_84_ok hb h
          · rw [if_neg c] at h; cases h
def tr_4 (g : Nat → Option Nat) (y : Nat) (e : Ent) (nx : Option Nat) (n : Nat) : Bool := (if Nat.blt n 100 then (if Nat.blt n 92 then (if Nat.blt n 89 then (if Nat.beq n 87 then lf_87 g y e nx else false) else (if Nat.beq n 89 then lf_89 g y e nx else false)) else (if Nat.blt n 96 then (if Nat.beq n 92 then lf_92 g y e nx else false) else (if Nat.beq n 96 then lf_96 g y e nx else false))) else (if Nat.blt n 108 then (if Nat.blt n 104 then (if Nat.beq n 100 then lf_100 g y e nx else false) else (if Nat.beq n 104 then lf_104 g y e nx else false)) else (if Nat.blt n 112 then (if Nat.beq n 108 then lf_108 g y e nx else false) else (if Nat.blt n 120 then (if Nat.beq n 112 then lf_112 g y e nx else false) else (if Nat.beq n 120 then lf_120 g y e nx else false)))))
theorem tr_4_ok {y n : Nat} {e : Ent} {nx : Option Nat} (hb : bytN (mB y) e.1 = some n) (h : tr_4 (bytN (mB y)) y e nx n = true) : chkE y e nx = true := by
  unfold tr_4 at h
  by_cases c1 : Nat.blt n 100 = true
  · rw [if_pos c1] at h
    by_cases c2 : Nat.blt n 92 = true
    · rw [if_pos c2] at h
      by_cases c3 : Nat.blt n 89 = true
      · rw [if_pos c3] at h
        by_cases c : Nat.beq n 87 = true
        · rw [if_pos c] at h; have e9 := Nat.eq_of_beq_eq_true c; subst e9; exact lf_87_ok hb h
        · rw [if_neg c] at h; cases h
      · rw [if_neg c3] at h
        by_cases c : Nat.beq n 89 = true
        · rw [if_pos c] at h; have e9 := Nat.eq_of_beq_eq_true c; subst e9; exact lf_89_ok hb h
        · rw [if_neg c] at h; cases h
    · rw [if_neg c2] at h
      by_cases c3 : Nat.blt n 96 = true
      · rw [if_pos c3] at h
        by_cases c : Nat.beq n 92 = true
        · rw [if_pos c] at h; have e9 := Nat.eq_of_beq_eq_true c; subst e9; exact lf_92_ok hb h
        · rw [if_neg c] at h; cases h
      · rw [if_neg c3] at h
        by_cases c : Nat.beq n 96 = true
        · rw [if_pos c] at h; have e9 := Nat.eq_of_beq_eq_true c; subst e9; exact lf_96_ok hb h
        · rw [if_neg c] at h; cases h
  · rw [if_neg c1] at h
    by_cases c2 : Nat.blt n 108 = true
    · rw [if_pos c2] at h
      by_cases c3 : Nat.blt n 104 = true
      · rw [if_pos c3] at h
        by_cases c : Nat.beq n 100 = true
        · rw [if_pos c] at h; have e9 := Nat.eq_of_beq_eq_true c; subst e9; exact lf_100_ok hb h
        · rw [if_neg c] at h; cases h
      · rw [if_neg c3] at h
        by_cases c : Nat.beq n 104 = true
        · rw [if_pos c] at h; have e9 := Nat.eq_of_beq_eq_true c; subst e9; exact lf_104_ok hb h
        · rw [if_neg c] at h; cases h
    · rw [if_neg c2] at h
      by_cases c3 : Nat.blt n 112 = true
      · rw [if_pos c3] at h
        by_cases c : Nat.beq n 108 = true
        · rw [if_pos c] at h; have e9 := Nat.eq_of_beq_eq_true c; subst e9; exact lf_108_ok hb h
        · rw [if_neg c] at h; cases h
      · rw [if_neg c3] at h
        by_cases c4 : Nat.blt n 120 = true
        · rw [if_pos c4] at h
          by_cases c : Nat.beq n 112 = true
          · rw [if_pos c] at h; have e9 := Nat.eq_of_beq_eq_true c; subst e9; exact lf_112_ok hb h
          · rw [if_neg c] at h; cases h
        · rw [if_neg c4] at h
          by_cases c : Nat.beq n 120 = true
          · rw [if_pos c] at h; have e9 := Nat.eq_of_beq_eq_true c; subst e9; exact lf_120_ok hb h
          · rw [if_neg c] at h; cases h
def tr_5 (g : Nat → Option Nat) (y : Nat) (e : Ent) (nx : Option Nat) (n : Nat) : Bool := (if Nat.blt n 130 then (if Nat.blt n 126 then (if Nat.blt n 124 then (if Nat.beq n 122 then lf_122 g y e nx else false) else (if Nat.beq n 124 then lf_124 g y e nx else false)) else (if Nat.blt n 128 then (if Nat.beq n 126 then lf_126 g y e nx else false) else (if Nat.beq n 128 then lf_128 g y e nx else false))) else (if Nat.blt n 133 then (if Nat.blt n 132 then (if Nat.beq n 130 then lf_130 g y e nx else false) else (if Nat.beq n 132 then lf_132 g y e nx else false)) else (if Nat.blt n 153 then (if Nat.beq n 133 then lf_133 g y e nx else false) else (if Nat.blt n 154 then (if Nat.beq n 153 then lf_153 g y e nx else false) else (if Nat.beq n 154 then lf_154 g y e nx else false)))))
theorem tr_5_ok {y n : Nat} {e : Ent} {nx : Option Nat} (hb : bytN (mB y) e.1 = some n) (h : tr_5 (bytN (mB y)) y e nx n = true) : chkE y e nx = true := by
  unfold tr_5 at h
  by_cases c1 : Nat.blt n 130 = true
  · rw [if_pos c1] at h
    by_cases c2 : Nat.blt n 126 = true
    · rw [if_pos c2] at h
      by_cases c3 : Nat.blt n 124 = true
      · rw [if_pos c3] at h
        by_cases c : Nat.beq n 122 = true
        · rw [if_pos c] at h; have e9 := Nat.eq_of_beq_eq_true c; subst e9; exact lf_122_ok hb h
        · rw [if_neg c] at h; cases h
      · rw [if_neg c3] at h
        by_cases c : Nat.beq n 124 = true
        · rw [if_pos c] at h; have e9 := Nat.eq_of_beq_eq_true c; subst e9; exact lf_124_ok hb h
        · rw [if_neg c] at h; cases h
    · rw [if_neg c2] at h
      by_cases c3 : Nat.blt n 128 = true
      · rw [if_pos c3] at h
        by_cases c : Nat.beq n 126 = true
        · rw [if_pos c] at h; have e9 := Nat.eq_of_beq_eq_true c; subst e9; exact lf_126_ok hb h
        · rw [if_neg c] at h; cases h
      · rw [if_neg c3] at h
        by_cases c : Nat.beq n 128 = true
        · rw [if_pos c] at h; have e9 := Nat.eq_of_beq_eq_true c; subst e9; exact lf_128_ok hb h
        · rw [if_neg c] at h; cases h
  · rw [if_neg c1] at h
    by_cases c2 : Nat.blt n 133 = true
    · rw [if_pos c2] at h
      by_cases c3 : Nat.blt n 132 = true
      · rw [if_pos c3] at h
        by_cases c : Nat.beq n 130 = true
        · rw [if_pos c] at h; have e9 := Nat.eq_of_beq_eq_true c; subst e9; exact lf_130_ok hb h
        · rw [if_neg c] at h; cases h
      · rw [if_neg c3] at h
        by_cases c : Nat.beq n 132 = true
        · rw [if_pos c] at h; have e9 := Nat.eq_of_beq_eq_true c; subst e9; exact lf_132_ok hb h
        · rw [if_neg c] at h; cases h
    · rw [if_neg c2] at h
      by_cases c3 : Nat.blt n 153 = true
      · rw [if_pos c3] at h
        by_cases c : Nat.beq n 133 = true
        · rw [if_pos c] at h; have e9 := Nat.eq_of_beq_eq_true c; subst e9; exact lf_133_ok hb h
        · rw [if_neg c] at h; cases h
      · rw [if_neg c3] at h
        by_cases c4 : Nat.blt n 154 = true
        · rw [if_pos c4] at h
          by_cases c : Nat.beq n 153 = true
          · rw [if_pos c] at h; have e9 := Nat.eq_of_beq_eq_true c; subst e9; exact lf_153_ok hb h
          · rw [if_neg c] at h; cases h
        · rw [if_neg c4] at h
          by_cases c : Nat.beq n 154 = true
          · rw [if_pos c] at h; have e9 := Nat.eq_of_beq_eq_true c; subst e9; exact lf_154_ok hb h
          · rw [if_neg c] at h; cases h
def tr_6 (g : Nat → Option Nat) (y : Nat) (e : Ent) (nx : Option Nat) (n : Nat) : Bool := (if Nat.blt n 159 then (if Nat.blt n 157 then (if Nat.blt n 156 then (if Nat.beq n 155 then lf_155 g y e nx else false) else (if Nat.beq n 156 then lf_156 g y e nx else false)) else (if Nat.blt n 158 then (if Nat.beq n 157 then lf_157 g y e nx else false) else (if Nat.beq n 158 then lf_158 g y e nx else false))) else (if Nat.blt n 161 then (if Nat.blt n 160 then (if Nat.beq n 159 then lf_159 g y e nx else false) else (if Nat.beq n 160 then lf_160 g y e nx else false)) else (if Nat.blt n 162 then (if Nat.beq n 161 then lf_161 g y e nx else false) else (if Nat.blt n 163 then (if Nat.beq n 162 then lf_162 g y e nx else false) else (if Nat.beq n 163 then lf_163 g y e nx else false)))))
theorem tr_6_ok {y n : Nat} {e : Ent} {nx : Option Nat} (hb : bytN (mB y) e.1 = some n) (h : tr_6 (bytN (mB y)) y e nx n = true) : chkE y e nx = true := by
  unfold tr_6 at h
  by_cases c1 : Nat.blt n 159 = true
  · rw [if_pos c1] at h
    by_cases c2 : Nat.blt n 157 = true
    · rw [if_pos c2] at h
      by_cases c3 : Nat.blt n 156 = true
      · rw [if_pos c3] at h
        by_cases c : Nat.beq n 155 = true
        · rw [if_pos c] at h; have e9 := Nat.eq_of_beq_eq_true c; subst e9; exact lf_155_ok hb h
        · rw [if_neg c] at h; cases h
      · rw [if_neg c3] at h
        by_cases c : Nat.beq n 156 = true
        · rw [if_pos c] at h; have e9 := Nat.eq_of_beq_eq_true c; subst e9; exact lf_156_ok hb h
        · rw [if_neg c] at h; cases h
    · rw [if_neg c2] at h
      by_cases c3 : Nat.blt n 158 = true
      · rw [if_pos c3] at h
        by_cases c : Nat.beq n 157 = true
        · rw [if_pos c] at h; have e9 := Nat.eq_of_beq_eq_true c; subst e9; exact lf_157_ok hb h
        · rw [if_neg c] at h; cases h
      · rw [if_neg c3] at h
        by_cases c : Nat.beq n 158 = true
        · rw [if_pos c] at h; have e9 := Nat.eq_of_beq_eq_true c; subst e9; exact lf_158_ok hb h
        · rw [if_neg c] at h; cases h
  · rw [if_neg c1] at h
    by_cases c2 : Nat.blt n 161 = true
    · rw [if_pos c2] at h
      by_cases c3 : Nat.blt n 160 = true
      · rw [if_pos c3] at h
        by_cases c : Nat.beq n 159 = true
        · rw [if_pos c] at h; have e9 := Nat.eq_of_beq_eq_true c; subst e9; exact lf_159_ok hb h
        · rw [if_neg c] at h; cases h
      · rw [if_neg c3] at h
        by_cases c : Nat.beq n 160 = true
        · rw [if_pos c] at h; have e9 := Nat.eq_of_beq_eq_true c; subst e9; exact lf_160_ok hb h
        · rw [if_neg c] at h; cases h
    · rw [if_neg c2] at h
      by_cases c3 : Nat.blt n 162 = true
      · rw [if_pos c3] at h
        by_cases c : Nat.beq n 161 = true
        · rw [if_pos c] at h; have e9 := Nat.eq_of_beq_eq_true c; subst e9; exact lf_161_ok hb h
        · rw [if_neg c] at h; cases h
      · rw [if_neg c3] at h
        by_cases c4 : Nat.blt n 163 = true
        · rw [if_pos c4] at h
          by_cases c : Nat.beq n 162 = true
          · rw [if_pos c] at h; have e9 := Nat.eq_of_beq_eq_true c; subst e9; exact lf_162_ok hb h
          · rw [if_neg c] at h; cases h
        · rw [if_neg c4] at h
          by_cases c : Nat.beq n 163 = true
          · rw [if_pos c] at h; have e9 := Nat.eq_of_beq_eq_true c; subst e9; exact lf_163_ok hb h
          · rw [if_neg c] at h; cases h
def tr_7 (g : Nat → Option Nat) (y : Nat) (e : Ent) (nx : Option Nat) (n : Nat) : Bool := (if Nat.blt n 180 then (if Nat.blt n 172 then (if Nat.blt n 167 then (if Nat.beq n 164 then lf_164 g y e nx else false) else (if Nat.beq n 167 then lf_167 g y e nx else false)) else (if Nat.blt n 177 then (if Nat.beq n 172 then lf_172 g y e nx else false) else (if Nat.beq n 177 then lf_177 g y e nx else false))) else (if Nat.blt n 182 then (if Nat.blt n 181 then (if Nat.beq n 180 then lf_180 g y e nx else false) else (if Nat.beq n 181 then lf_181 g y e nx else false)) else (if Nat.blt n 184 then (if Nat.beq n 182 then lf_182 g y e nx else false) else (if Nat.blt n 190 then (if Nat.beq n 184 then lf_184 g y e nx else false) else (if Nat.beq n 190 then lf_190 g y e nx else false)))))
theorem tr_7_ok {y n : Nat} {e : Ent} {nx : Option Nat} (hb : bytN (mB y) e.1 = some n) (h : tr_7 (bytN (mB y)) y e nx n = true) : chkE y e nx = true := by
  unfold tr_7 at h
  by_cases c1 : Nat.blt n 180 = true
  · rw [if_pos c1] at h
    by_cases c2 : Nat.blt n 172 = true
    · rw [if_pos c2] at h
      by_cases c3 : Nat.blt n 167 = true
      · rw [if_pos c3] at h
        by_cases c : Nat.beq n 164 = true
        · rw [if_pos c] at h; have e9 := Nat.eq_of_beq_eq_true c; subst e9; exact lf_164_ok hb h
        · rw [if_neg c] at h; cases h
      · rw [if_neg c3] at h
        by_cases c : Nat.beq n 167 = true
        · rw [if_pos c] at h; have e9 := Nat.eq_of_beq_eq_true c; subst e9; exact lf_167_ok hb h
        · rw [if_neg c] at h; cases h
    · rw [if_neg c2] at h
      by_cases c3 : Nat.blt n 177 = true
      · rw [if_pos c3] at h
        by_cases c : Nat.beq n 172 = true
        · rw [if_pos c] at h; have e9 := Nat.eq_of_beq_eq_true c; subst e9; exact lf_172_ok hb h
        · rw [if_neg c] at h; cases h
      · rw [if_neg c3] at h
        by_cases c : Nat.beq n 177 = true
        · rw [if_pos c] at h; have e9 := Nat.eq_of_beq_eq_true c; subst e9; exact lf_177_ok hb h
        · rw [if_neg c] at h; cases h
  · rw [if_neg c1] at h
    by_cases c2 : Nat.blt n 182 = true
    · rw [if_pos c2] at h
      by_cases c3 : Nat.blt n 181 = true
      · rw [if_pos c3] at h
        by_cases c : Nat.beq n 180 = true
        · rw [if_pos c] at h; have e9 := Nat.eq_of_beq_eq_true c; subst e9; exact lf_180_ok hb h
        · rw [if_neg c] at h; cases h
      · rw [if_neg c3] at h
        by_cases c : Nat.beq n 181 = true
        · rw [if_pos c] at h; have e9 := Nat.eq_of_beq_eq_true c; subst e9; exact lf_181_ok hb h
        · rw [if_neg c] at h; cases h
    · rw [if_neg c2] at h
      by_cases c3 : Nat.blt n 184 = true
      · rw [if_pos c3] at h
        by_cases c : Nat.beq n 182 = true
        · rw [if_pos c] at h; have e9 := Nat.eq_of_beq_eq_true c; subst e9; exact lf_182_ok hb h
        · rw [if_neg c] at h; cases h
      · rw [if_neg c3] at h
        by_cases c4 : Nat.blt n 190 = true
        · rw [if_pos c4] at h
          by_cases c : Nat.beq n 184 = true
          · rw [if_pos c] at h; have e9 := Nat.eq_of_beq_eq_true c; subst e9; exact lf_184_ok hb h
          · rw [if_neg c] at h; cases h
        · rw [if_neg c4] at h
          by_cases c : Nat.beq n 190 = true
          · rw [if_pos c] at h; have e9 := Nat.eq_of_beq_eq_true c; subst e9; exact lf_190_ok hb h
          · rw [if_neg c] at h; cases h
def trA (g : Nat → Option Nat) (y : Nat) (e : Ent) (nx : Option Nat) (n : Nat) : Bool := (if Nat.blt n 87 then (if Nat.blt n 45 then (if Nat.blt n 21 then tr_0 g y e nx n else tr_1 g y e nx n) else (if Nat.blt n 62 then tr_2 g y e nx n else tr_3 g y e nx n)) else (if Nat.blt n 155 then (if Nat.blt n 122 then tr_4 g y e nx n else tr_5 g y e nx n) else (if Nat.blt n 164 then tr_6 g y e nx n else tr_7 g y e nx n)))
theorem trA_ok {y n : Nat} {e : Ent} {nx : Option Nat} (hb : bytN (mB y) e.1 = some n) (h : trA (bytN (mB y)) y e nx n = true) : chkE y e nx = true := by
  unfold trA at h
  by_cases c1 : Nat.blt n 87 = true
  · rw [if_pos c1] at h
    by_cases c2 : Nat.blt n 45 = true
    · rw [if_pos c2] at h
      by_cases c3 : Nat.blt n 21 = true
      · rw [if_pos c3] at h
        exact tr_0_ok hb h
      · rw [if_neg c3] at h
        exact tr_1_ok hb h
    · rw [if_neg c2] at h
      by_cases c3 : Nat.blt n 62 = true
      · rw [if_pos c3] at h
        exact tr_2_ok hb h
      · rw [if_neg c3] at h
        exact tr_3_ok hb h
  · rw [if_neg c1] at h
    by_cases c2 : Nat.blt n 155 = true
    · rw [if_pos c2] at h
      by_cases c3 : Nat.blt n 122 = true
      · rw [if_pos c3] at h
        exact tr_4_ok hb h
      · rw [if_neg c3] at h
        exact tr_5_ok hb h
    · rw [if_neg c2] at h
      by_cases c3 : Nat.blt n 164 = true
      · rw [if_pos c3] at h
        exact tr_6_ok hb h
      · rw [if_neg c3] at h
        exact tr_7_ok hb h
def chk4 (g : Nat → Option Nat) (y : Nat) (e : Ent) (nx : Option Nat) : Bool :=
  if Nat.beq (ic e.2.1) 1 then true else if Nat.beq (ic e.2.1) 2 then Nat.beq e.2.2.1 e.1 && hasL y e.1 else (match g e.1 with
    | some n => trA g y e nx n
    | none => false) || chkE2 g y e nx
theorem chk4_ok {g : Nat → Option Nat} {y : Nat} {e : Ent} {nx : Option Nat} (hg : g = bytN (mB y)) (h : chk4 g y e nx = true) : chkE y e nx = true := by
  unfold chk4 at h
  by_cases c1 : Nat.beq (ic e.2.1) 1 = true
  · have e1 := Nat.eq_of_beq_eq_true c1
    have e2 := di_ic e.2.1 (by rw [e1]; decide)
    rw [e1] at e2
    unfold chkE
    rw [if_pos (show e.2.1 = .nop from e2.symm)]
  · rw [if_neg c1] at h
    by_cases c2 : Nat.beq (ic e.2.1) 2 = true
    · rw [if_pos c2] at h
      have e1 := Nat.eq_of_beq_eq_true c2
      have e2 := di_ic e.2.1 (by rw [e1]; decide)
      rw [e1] at e2
      have e3 : e.2.1 = .goto_w 0 := e2.symm
      obtain ⟨h1, h2⟩ := and2 h
      unfold chkE
      rw [if_neg (by rw [e3]; nofun), if_pos e3, decide_eq_true (Nat.eq_of_beq_eq_true h1), h2]
      rfl
    · rw [if_neg c2, Bool.or_eq_true] at h
      rcases h with h | h
      · subst hg
        split at h
        · rename_i n hn; exact trA_ok hn h
        · cases h
      · exact chkE2_ok hg h
def chkL4 (g : Nat → Option Nat) (y : Nat) : List Ent → Bool
  | [] => true
  | e :: is => chk4 g y e (hdpc is) && chkL4 g y is
theorem chkL4_ok {g : Nat → Option Nat} {y : Nat} (hg : g = bytN (mB y)) : ∀ {is : List Ent}, chkL4 g y is = true → chkL y is = true := by
  intro is
  induction is with
  | nil => intro _; rfl
  | cons e is ih =>
    intro h
    simp only [chkL4, chkL, Bool.and_eq_true] at h ⊢
    exact ⟨chk4_ok hg h.1, ih h.2⟩
def hdB (p : Nat) : List Ent → Bool
  | [] => false
  | e :: _ => Nat.beq e.1 p
theorem hdB_ok {p : Nat} {l : List Ent} (h : hdB p l = true) : hdpc l = some p := by
  cases l with
  | nil => cases h
  | cons e r => show some e.1 = some p; rw [Nat.eq_of_beq_eq_true h]
def okB4 (y : Nat) : Bool := (lbs y).all (fun p => hdB p.1 p.2 && chkL4 (gB y) y p.2) && hasL y 0
theorem okB4_ok {y : Nat} (h : okB4 y = true) : okB y = true := by
  unfold okB4 at h
  unfold okB
  simp only [Bool.and_eq_true, List.all_eq_true] at h ⊢
  exact ⟨fun p hp => ⟨decide_eq_true (hdB_ok (h.1 p hp).1), chkL4_ok (gB_eq y) (h.1 p hp).2⟩, h.2⟩
