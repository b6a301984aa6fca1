/-! A frame of the machine and a state of the abstract one: every instruction's row (locals, constants, arithmetic, branches). -/
def nstL : List (Nat × Nat × Nat) := [(1, 17, 38), (6, 11, 9), (6, 20, 38), (10, 22, 9), (10, 29, 38), (10, 70, 73)]
def Stt (base : Nat) (ad : Nat → Nat) (U : State) (H : Heap) : Prop :=
  va_Z "java/lang/String" "COMPACT_STRINGS" "Z" (.int 1) (Ab base) U H ∧ (∀ v, v ≤ 15 → va_Z (sF 1 v).1 (sF 1 v).2.1 (sF 1 v).2.2 (.ref (ad v)) (Ab base) U H) ∧
  va_Zq "jdk/internal/util/Preconditions" "SIOOBE_FORMATTER" "Ljava/util/function/BiFunction;" (Ab base) U H ∧
  vx_Zq Bundle.tN "UNASSIGNED_STACK" Bundle.steD (Ab base) U H ∧ vx_Zq Bundle.tN "SUPPRESSED_SENTINEL" Bundle.listD (Ab base) U H
def Sts (ad : Nat → Nat) (U : State) : Prop :=
  (∀ i, i < 15 → vk_R "SwapChoicesModel" (stI.getD i 0) (stT.getD i "") (ad (16 + i)) U) ∧ (∀ q ∈ nstL, va_Nw (.methodLinkNest (ownN q.1) q.2.1 (yN q.2.2) "SwapChoices") U) ∧
  va_Nw (.fieldLinkNest "SwapChoices$Word" 89 "SwapChoices" "WORDS" "[LSwapChoices$Word;" "SwapChoices") U ∧ (∀ w ∈ fcW, va_Nw w U) ∧
  (va_AO "java/lang/String" U ∧ va_AO "SwapChoices$Test" U ∧ va_AO "SwapChoices$State" U) ∧ va_Nc "java/lang/IllegalArgumentException" "java/util/NoSuchElementException" U
abbrev Fr : Type := Program × Launch × Env × Room × State × MethodId × Array Value × List Frame × Method × Code × va_G × Nat × (State → Prop) × Nat × Nat × Nat × (Nat → Nat)
def Ctx (F : Fr) (k : Nat) : Prop := match F with
  | (p, l, e, R, s, m, args, below, meth, c, D, base, Q, y, n0, s0, ad0) =>
    (p.tables.exec = Jvm.exec ∧ c.code = mB y ∧ c.maxLocals = mL y ∧ s.vm.findClass (ownN (oI y)) = some m.cls ∧ y < 354) ∧ (∀ w ∈ gw, w.before args s = true) ∧
    (meth.sig.returnType = mR y ∧ meth.locks = false ∧ ((yN y).name = "<init>" → meth.name = "<init>") ∧ (y < 353 → c.exceptionTable.toList = tableOf (mH y)) ∧ l.stackTraces = false) ∧
    va_K D vwCl [] s ∧ Stt base ad0 s s.heap ∧ Sts ad0 s ∧ (base ≤ s.heap.size ∧ 64 ≤ n0) ∧ 10 + k ≤ R.frames ∧ 200 + 59 * k ≤ R.locals
def Wa (F : Fr) (mem : Mem) (pc : Nat) (ls : List (Option AV)) (st : List AV) : Prop := match F with
  | (p, l, e, R, s, m, args, below, meth, c, D, base, Q, y, n0, s0, ad0) =>
    ∀ (H : Heap) (locs : List Loc) (ad : Nat → Nat) (lsA : Array Slot) (stA : List Value) (cells slots : Nat),
      Rep D base ad mem s H → lvr ad (M_n mem) (mL y) ls lsA → str ad (M_n mem) st stA → va_S (Ab base) s.heap H locs → (∀ a, a < n0 → ad a = ad0 a) → n0 + cells = M_n mem → s0 + slots = M_s mem →
      W p l e R s m args below meth c H locs cells slots Q (F0 m pc lsA stA)
theorem i_ok (z : Int32) : okI z.toInt := ⟨Int32.le_toInt z, Int32.toInt_lt z⟩
theorem i_of (z : Int32) : Int32.ofInt z.toInt = z := Int32.ofInt_toInt z
theorem w32_eq (n : Int) : w32 n = (Int32.ofInt n).toInt := by rw [Int32.toInt_ofInt]; rfl
theorem w32_of (n : Int) : Int32.ofInt (w32 n) = Int32.ofInt n := by rw [w32_eq, i_of]
theorem w32_ok (n : Int) : okI (w32 n) := by rw [w32_eq]; exact i_ok _
theorem b32_of (f : Int32 → Int32 → Int32) (a b : Int) : Int32.ofInt (b32 f a b) = f (Int32.ofInt a) (Int32.ofInt b) := i_of _
theorem b32_ok (f : Int32 → Int32 → Int32) (a b : Int) : okI (b32 f a b) := i_ok _
theorem i_eq {a b : Int} (ha : okI a) (hb : okI b) : (Int32.ofInt a = Int32.ofInt b) ↔ a = b := ⟨fun h => by rw [← i_to ha, ← i_to hb, h], fun h => by rw [h]⟩
theorem i_lt {a b : Int} (ha : okI a) (hb : okI b) : (Int32.ofInt a < Int32.ofInt b) ↔ a < b := by rw [Int32.lt_iff_toInt_lt, i_to ha, i_to hb]
theorem i_le {a b : Int} (ha : okI a) (hb : okI b) : (Int32.ofInt a ≤ Int32.ofInt b) ↔ a ≤ b := by rw [Int32.le_iff_toInt_le, i_to ha, i_to hb]
theorem i_0 : Int32.ofInt 0 = 0 := rfl
theorem ok_0 : okI 0 := ⟨by decide, by decide⟩
theorem vr_i {ad : Nat → Nat} {N : Nat} {n : Int} {z : Int32} (h : Int32.ofInt n = z) (o : okI n) : vr ad N (.inl n) (.int z) := ⟨by rw [h], o⟩
theorem vr_r {ad : Nat → Nat} {N a : Nat} (h : a < N) : vr ad N (.inr (.ref a)) (.ref (ad a)) := ⟨rfl, h⟩
-- locals
theorem lget_lset : ∀ (ls : List (Option AV)) (i j : Nat) (x : AV), i < ls.length → lget (lset ls i x) j = if j = i then some x else if j + 1 = i then clr (lget ls j) else lget ls j
  | [], _, _, _, h => absurd h (Nat.not_lt_zero _)
  | a :: l, 0, 0, x, _ => rfl
  | a :: l, 0, j + 1, x, _ => by simp [lset, lget]
  | a :: l, 1, 0, x, _ => rfl
  | a :: l, 1, j + 1, x, h => by
    have h' : 0 < l.length := by simpa using h
    have := lget_lset l 0 j x h'
    simp only [lset, lget, this]
    by_cases hj : j = 0
    · subst hj; simp
    · rw [if_neg hj, if_neg (by omega), if_neg (by omega), if_neg (by omega)]
  | a :: l, i + 2, 0, x, h => by simp [lset, lget]
  | a :: l, i + 2, j + 1, x, h => by
    have h' : i + 1 < l.length := by simp only [List.length_cons] at h; omega
    have := lget_lset l (i + 1) j x h'
    simp only [lset, lget, this, Nat.add_right_cancel_iff]
theorem len_lset : ∀ (ls : List (Option AV)) (i : Nat) (x : AV), (lset ls i x).length = ls.length
  | [], _, _ => rfl
  | _ :: _, 0, _ => rfl
  | _ :: l, 1, x => by simp [lset, len_lset l 0 x]
  | _ :: l, i + 2, x => by simp [lset, len_lset l (i + 1) x]
theorem clr_some {o : Option AV} {y : AV} (h : clr o = some y) : o = some y ∧ ((∃ n, y = .inl n) ∨ (∃ a, y = .inr (.ref a)) ∨ y = .inr .null) := by
  match o, h with
  | some (.inl n), h => simp only [clr, Option.some.injEq] at h; subst h; exact ⟨rfl, Or.inl ⟨_, rfl⟩⟩
  | some (.inr (.ref a)), h => simp only [clr, Option.some.injEq] at h; subst h; exact ⟨rfl, Or.inr (Or.inl ⟨_, rfl⟩)⟩
  | some (.inr .null), h => simp only [clr, Option.some.injEq] at h; subst h; exact ⟨rfl, Or.inr (Or.inr rfl)⟩
theorem vr_cat1 {ad : Nat → Nat} {N : Nat} {y : AV} {v : Value} (h : (∃ n, y = .inl n) ∨ (∃ a, y = .inr (.ref a)) ∨ y = .inr .null) (hv : vr ad N y v) : v.category = 1 := by
  rcases h with ⟨n, rfl⟩ | ⟨a, rfl⟩ | rfl
  · rw [hv.1]; rfl
  · rw [hv.1]; rfl
  · rw [show v = .null from hv]; rfl
def lvs (ls : Array Slot) : List (Nat × Value) := (List.range ls.size).filterMap fun j => match (ls[j]? : Option Slot) with
  | some (.val v) => some (j, v)
  | _ => none
theorem lvs_in {ls : Array Slot} {j : Nat} {v : Value} : (j, v) ∈ lvs ls ↔ ls[j]? = some (.val v) := by
  unfold lvs
  rw [List.mem_filterMap]
  constructor
  · rintro ⟨a, -, h⟩
    split at h
    · rename_i w hw
      cases h; exact hw
    · cases h
  · intro h
    refine ⟨j, List.mem_range.mpr (lv_lt h), ?_⟩
    rw [h]
theorem lvs_has {ls : Array Slot} {n : Nat} (hz : ls.size = n) (hw : lv_wf ls) : lv_has ls n (lvs ls) := ⟨hz, hw, fun q hq => lvs_in.mp (by obtain ⟨a, b⟩ := q; exact hq)⟩
theorem lvr_store {ad : Nat → Nat} {N n : Nat} {ls : List (Option AV)} {lsA ls' : Array Slot} {i : Nat} {x : AV} {v : Value} (h : lvr ad N n ls lsA) (hi : i < ls.length) (hx : vr ad N x v)
    (h' : lv_has ls' n ((i, v) :: (lvs lsA).filter (fun q => !(q.1 == i) && !(q.1 + 1 == i && q.2.category == 2)))) : lvr ad N n (lset ls i x) ls' := by
  refine ⟨by rw [len_lset]; exact h.1, h'.1, h'.2.1, fun j z hz => ?_⟩
  rw [lget_lset _ _ _ _ hi] at hz
  split at hz
  · rename_i hj
    subst hj
    cases hz
    exact ⟨v, h'.2.2 _ List.mem_cons_self, hx⟩
  · rename_i hj
    split at hz
    · rename_i hj2
      obtain ⟨hz, hc⟩ := clr_some hz
      obtain ⟨w, hw, hv⟩ := h.2.2.2 _ _ hz
      refine ⟨w, h'.2.2 (j, w) (List.mem_cons_of_mem _ (List.mem_filter.mpr ⟨lvs_in.mpr hw, ?_⟩)), hv⟩
      have := vr_cat1 hc hv
      simp [hj, this]
    · rename_i hj2
      obtain ⟨w, hw, hv⟩ := h.2.2.2 _ _ hz
      refine ⟨w, h'.2.2 (j, w) (List.mem_cons_of_mem _ (List.mem_filter.mpr ⟨lvs_in.mpr hw, ?_⟩)), hv⟩
      simp [hj, hj2]
theorem lget_lcl : ∀ (ls : List (Option AV)) (j : Nat), lget (lcl ls) j = if j = 0 then none else lget ls j
  | [], j => by cases j <;> rfl
  | _ :: _, 0 => rfl
  | _ :: l, j + 1 => by simp [lcl, lget]
theorem len_lcl (ls : List (Option AV)) : (lcl ls).length = ls.length := by cases ls <;> rfl
theorem len_lset2 : ∀ (ls : List (Option AV)) (i : Nat) (x : AV), (lset2 ls i x).length = ls.length
  | [], _, _ => rfl
  | _ :: l, 0, _ => by simp [lset2, len_lcl]
  | _ :: l, 1, x => by simp [lset2, len_lset2 l 0 x]
  | _ :: l, i + 2, x => by simp [lset2, len_lset2 l (i + 1) x]
theorem lget_lset2 : ∀ (ls : List (Option AV)) (i j : Nat) (x : AV), i < ls.length → lget (lset2 ls i x) j = if j = i then some x else if j = i + 1 then none else if j + 1 = i then clr (lget ls j) else lget ls j
  | [], _, _, _, h => absurd h (Nat.not_lt_zero _)
  | a :: l, 0, 0, x, _ => rfl
  | a :: l, 0, j + 1, x, _ => by
    simp only [lset2, lget, lget_lcl]
    by_cases hj : j = 0
    · subst hj; simp
    · rw [if_neg hj, if_neg (by omega), if_neg (by omega), if_neg (by omega)]
  | a :: l, 1, 0, x, _ => rfl
  | a :: l, 1, j + 1, x, h => by
    have h' : 0 < l.length := by simpa using h
    have := lget_lset2 l 0 j x h'
    simp only [lset2, lget, this]
    by_cases hj : j = 0
    · subst hj; simp
    · by_cases hj1 : j = 1
      · subst hj1; simp
      · rw [if_neg hj, if_neg (by omega), if_neg (by omega), if_neg (by omega), if_neg (by omega), if_neg (by omega)]
  | a :: l, i + 2, 0, x, h => by simp [lset2, lget]
  | a :: l, i + 2, j + 1, x, h => by
    have h' : i + 1 < l.length := by simp only [List.length_cons] at h; omega
    have := lget_lset2 l (i + 1) j x h'
    simp only [lset2, lget, this, Nat.add_right_cancel_iff]
theorem lvr_store2 {ad : Nat → Nat} {N n : Nat} {ls : List (Option AV)} {lsA ls' : Array Slot} {i : Nat} {x : AV} {v : Value} (h : lvr ad N n ls lsA) (hi : i < ls.length) (hx : vr ad N x v)
    (h' : lv_has ls' n ((i, v) :: (lvs lsA).filter (fun q => !(q.1 == i) && (!(q.1 == i + 1) && !(q.1 + 1 == i && q.2.category == 2))))) : lvr ad N n (lset2 ls i x) ls' := by
  refine ⟨by rw [len_lset2]; exact h.1, h'.1, h'.2.1, fun j z hz => ?_⟩
  rw [lget_lset2 _ _ _ _ hi] at hz
  split at hz
  · rename_i hj
    subst hj
    cases hz
    exact ⟨v, h'.2.2 _ List.mem_cons_self, hx⟩
  · rename_i hj
    split at hz
    · cases hz
    · rename_i hj1
      split at hz
      · rename_i hj2
        obtain ⟨hz, hc⟩ := clr_some hz
        obtain ⟨w, hw, hv⟩ := h.2.2.2 _ _ hz
        refine ⟨w, h'.2.2 (j, w) (List.mem_cons_of_mem _ (List.mem_filter.mpr ⟨lvs_in.mpr hw, ?_⟩)), hv⟩
        have := vr_cat1 hc hv
        simp [hj, hj1, this]
      · rename_i hj2
        obtain ⟨w, hw, hv⟩ := h.2.2.2 _ _ hz
        refine ⟨w, h'.2.2 (j, w) (List.mem_cons_of_mem _ (List.mem_filter.mpr ⟨lvs_in.mpr hw, ?_⟩)), hv⟩
        simp [hj, hj1, hj2]
section
variable {p : Program} {l : Launch} {e : Env} {R : Room} {s : State} {m : MethodId} {args : Array Value} {below : List Frame} {meth : Method} {c : Code} {D : va_G} {base : Nat} {Q : State → Prop} {y n0 s0 : Nat} {ad0 : Nat → Nat} {k : Nat}
variable {mem : Mem} {pc : Nat} {ls : List (Option AV)} {st : List AV}
-- constants
theorem sd_iconst (C : Ctx (p, l, e, R, s, m, args, below, meth, c, D, base, Q, y, n0, s0, ad0) k) {n : Int} (hd : decode (mB y) pc = .ok (.iconst n, 1)) (K : Wa (p, l, e, R, s, m, args, below, meth, c, D, base, Q, y, n0, s0, ad0) mem (pc + 1) ls (.inl (Int32.ofInt n).toInt :: st)) : Wa (p, l, e, R, s, m, args, below, meth, c, D, base, Q, y, n0, s0, ad0) mem pc ls st := by
  intro H locs ad lsA stA cells slots hR hl hs hS ha h1 h2
  exact lv_iconst C.1.1 C.1.2.1 hd rfl (K H locs ad lsA _ cells slots hR hl ⟨vr_i (i_of _) (i_ok _), hs⟩ hS ha h1 h2)
theorem sd_bipush (C : Ctx (p, l, e, R, s, m, args, below, meth, c, D, base, Q, y, n0, s0, ad0) k) {n : Int} (hd : decode (mB y) pc = .ok (.bipush n, 2)) (K : Wa (p, l, e, R, s, m, args, below, meth, c, D, base, Q, y, n0, s0, ad0) mem (pc + 2) ls (.inl (Int8.ofInt n).toInt32.toInt :: st)) : Wa (p, l, e, R, s, m, args, below, meth, c, D, base, Q, y, n0, s0, ad0) mem pc ls st := by
  intro H locs ad lsA stA cells slots hR hl hs hS ha h1 h2
  exact lv_bipush C.1.1 C.1.2.1 hd rfl (K H locs ad lsA _ cells slots hR hl ⟨vr_i (i_of _) (i_ok _), hs⟩ hS ha h1 h2)
theorem sd_sipush (C : Ctx (p, l, e, R, s, m, args, below, meth, c, D, base, Q, y, n0, s0, ad0) k) {n : Int} (hd : decode (mB y) pc = .ok (.sipush n, 3)) (K : Wa (p, l, e, R, s, m, args, below, meth, c, D, base, Q, y, n0, s0, ad0) mem (pc + 3) ls (.inl (Int16.ofInt n).toInt32.toInt :: st)) : Wa (p, l, e, R, s, m, args, below, meth, c, D, base, Q, y, n0, s0, ad0) mem pc ls st := by
  intro H locs ad lsA stA cells slots hR hl hs hS ha h1 h2
  exact lv_sipush C.1.1 C.1.2.1 hd rfl (K H locs ad lsA _ cells slots hR hl ⟨vr_i (i_of _) (i_ok _), hs⟩ hS ha h1 h2)
theorem sd_ldc (C : Ctx (p, l, e, R, s, m, args, below, meth, c, D, base, Q, y, n0, s0, ad0) k) {i : Nat} {v : Int} (o : okI v) (hw : Cond.constant (ownN (oI y)) i (Int32.ofInt v) ∈ gw) (hd : decode (mB y) pc = .ok (.ldc i, 2)) (K : Wa (p, l, e, R, s, m, args, below, meth, c, D, base, Q, y, n0, s0, ad0) mem (pc + 2) ls (.inl v :: st)) : Wa (p, l, e, R, s, m, args, below, meth, c, D, base, Q, y, n0, s0, ad0) mem pc ls st := by
  intro H locs ad lsA stA cells slots hR hl hs hS ha h1 h2
  exact lv_ldc C.1.1 C.1.2.1 C.1.2.2.2.1 (C.2.1 _ hw) hd (K H locs ad lsA _ cells slots hR hl ⟨vr_i rfl o, hs⟩ hS ha h1 h2)
theorem sd_ldcw (C : Ctx (p, l, e, R, s, m, args, below, meth, c, D, base, Q, y, n0, s0, ad0) k) {i : Nat} {v : Int} (o : okI v) (hw : Cond.constant (ownN (oI y)) i (Int32.ofInt v) ∈ gw) (hd : decode (mB y) pc = .ok (.ldc_w i, 3)) (K : Wa (p, l, e, R, s, m, args, below, meth, c, D, base, Q, y, n0, s0, ad0) mem (pc + 3) ls (.inl v :: st)) : Wa (p, l, e, R, s, m, args, below, meth, c, D, base, Q, y, n0, s0, ad0) mem pc ls st := by
  intro H locs ad lsA stA cells slots hR hl hs hS ha h1 h2
  exact lv_ldcw C.1.1 C.1.2.1 C.1.2.2.2.1 (C.2.1 _ hw) hd (K H locs ad lsA _ cells slots hR hl ⟨vr_i rfl o, hs⟩ hS ha h1 h2)
theorem sd_ldcS (C : Ctx (p, l, e, R, s, m, args, below, meth, c, D, base, Q, y, n0, s0, ad0) k) {i j : Nat} (hj : j < 15) (hi : stI.getD j 0 = i) (hy : ownN (oI y) = "SwapChoicesModel") (hd : decode (mB y) pc = .ok (.ldc i, 2)) (K : Wa (p, l, e, R, s, m, args, below, meth, c, D, base, Q, y, n0, s0, ad0) mem (pc + 2) ls (.inr (.ref (16 + j)) :: st)) : Wa (p, l, e, R, s, m, args, below, meth, c, D, base, Q, y, n0, s0, ad0) mem pc ls st := by
  intro H locs ad lsA stA cells slots hR hl hs hS ha h1 h2
  have hr := C.2.2.2.2.2.1.1 j hj
  have hn : 16 + j < n0 := by have := C.2.2.2.2.2.2.1.2; omega
  rw [hi, ← ha _ hn] at hr
  exact va_ldcS C.1.1 C.1.2.1 (own := "SwapChoicesModel") (by rw [← hy]; exact C.1.2.2.2.1) hr hd (K H locs ad lsA _ cells slots hR hl ⟨vr_r (by omega), hs⟩ hS ha h1 h2)
theorem sd_lconst (C : Ctx (p, l, e, R, s, m, args, below, meth, c, D, base, Q, y, n0, s0, ad0) k) {i : Fin 2} (hd : decode (mB y) pc = .ok (.lconst i, 1)) (K : Wa (p, l, e, R, s, m, args, below, meth, c, D, base, Q, y, n0, s0, ad0) mem (pc + 1) ls (.inr (.long (Int64.ofNat i.val)) :: st)) : Wa (p, l, e, R, s, m, args, below, meth, c, D, base, Q, y, n0, s0, ad0) mem pc ls st := by
  intro H locs ad lsA stA cells slots hR hl hs hS ha h1 h2
  exact lv_lconst C.1.1 C.1.2.1 hd rfl (K H locs ad lsA _ cells slots hR hl ⟨rfl, hs⟩ hS ha h1 h2)
theorem sd_dconst (C : Ctx (p, l, e, R, s, m, args, below, meth, c, D, base, Q, y, n0, s0, ad0) k) (hd : decode (mB y) pc = .ok (.dconst 0, 1)) (K : Wa (p, l, e, R, s, m, args, below, meth, c, D, base, Q, y, n0, s0, ad0) mem (pc + 1) ls (.inr (.double 0) :: st)) : Wa (p, l, e, R, s, m, args, below, meth, c, D, base, Q, y, n0, s0, ad0) mem pc ls st := by
  intro H locs ad lsA stA cells slots hR hl hs hS ha h1 h2
  exact lv_dconst0 C.1.1 C.1.2.1 hd (K H locs ad lsA _ cells slots hR hl ⟨rfl, hs⟩ hS ha h1 h2)
theorem sd_fconst (C : Ctx (p, l, e, R, s, m, args, below, meth, c, D, base, Q, y, n0, s0, ad0) k) (hd : decode (mB y) pc = .ok (.fconst 1, 1)) (K : Wa (p, l, e, R, s, m, args, below, meth, c, D, base, Q, y, n0, s0, ad0) mem (pc + 1) ls (.inr (.float 0x3f800000) :: st)) : Wa (p, l, e, R, s, m, args, below, meth, c, D, base, Q, y, n0, s0, ad0) mem pc ls st := by
  intro H locs ad lsA stA cells slots hR hl hs hS ha h1 h2
  exact lv_fconst1 C.1.1 C.1.2.1 hd (K H locs ad lsA _ cells slots hR hl ⟨rfl, hs⟩ hS ha h1 h2)
-- locals
theorem sd_iload (C : Ctx (p, l, e, R, s, m, args, below, meth, c, D, base, Q, y, n0, s0, ad0) k) {i : Nat} {n : Int} (hg : lget ls i = some (.inl n)) (hd : decode (mB y) pc = .ok (.iload i, 2)) (K : Wa (p, l, e, R, s, m, args, below, meth, c, D, base, Q, y, n0, s0, ad0) mem (pc + 2) ls (.inl n :: st)) : Wa (p, l, e, R, s, m, args, below, meth, c, D, base, Q, y, n0, s0, ad0) mem pc ls st := by
  intro H locs ad lsA stA cells slots hR hl hs hS ha h1 h2
  obtain ⟨v, hv, hr⟩ := hl.2.2.2 _ _ hg
  rw [hr.1] at hv
  exact lv_iload C.1.1 C.1.2.1 hd hv (K H locs ad lsA _ cells slots hR hl ⟨⟨rfl, hr.2⟩, hs⟩ hS ha h1 h2)
theorem sd_iloadn (C : Ctx (p, l, e, R, s, m, args, below, meth, c, D, base, Q, y, n0, s0, ad0) k) {i : Fin 4} {n : Int} (hg : lget ls i.val = some (.inl n)) (hd : decode (mB y) pc = .ok (.iload_n i, 1)) (K : Wa (p, l, e, R, s, m, args, below, meth, c, D, base, Q, y, n0, s0, ad0) mem (pc + 1) ls (.inl n :: st)) : Wa (p, l, e, R, s, m, args, below, meth, c, D, base, Q, y, n0, s0, ad0) mem pc ls st := by
  intro H locs ad lsA stA cells slots hR hl hs hS ha h1 h2
  obtain ⟨v, hv, hr⟩ := hl.2.2.2 _ _ hg
  rw [hr.1] at hv
  exact lv_iload_n C.1.1 C.1.2.1 hd rfl hv (K H locs ad lsA _ cells slots hR hl ⟨⟨rfl, hr.2⟩, hs⟩ hS ha h1 h2)
theorem sd_aload (C : Ctx (p, l, e, R, s, m, args, below, meth, c, D, base, Q, y, n0, s0, ad0) k) {i a : Nat} (hg : lget ls i = some (.inr (.ref a))) (hd : decode (mB y) pc = .ok (.aload i, 2)) (K : Wa (p, l, e, R, s, m, args, below, meth, c, D, base, Q, y, n0, s0, ad0) mem (pc + 2) ls (.inr (.ref a) :: st)) : Wa (p, l, e, R, s, m, args, below, meth, c, D, base, Q, y, n0, s0, ad0) mem pc ls st := by
  intro H locs ad lsA stA cells slots hR hl hs hS ha h1 h2
  obtain ⟨v, hv, hr⟩ := hl.2.2.2 _ _ hg
  rw [hr.1] at hv
  exact lv_aload C.1.1 C.1.2.1 hd hv (K H locs ad lsA _ cells slots hR hl ⟨vr_r hr.2, hs⟩ hS ha h1 h2)
theorem sd_aloadn (C : Ctx (p, l, e, R, s, m, args, below, meth, c, D, base, Q, y, n0, s0, ad0) k) {i : Fin 4} {a : Nat} (hg : lget ls i.val = some (.inr (.ref a))) (hd : decode (mB y) pc = .ok (.aload_n i, 1)) (K : Wa (p, l, e, R, s, m, args, below, meth, c, D, base, Q, y, n0, s0, ad0) mem (pc + 1) ls (.inr (.ref a) :: st)) : Wa (p, l, e, R, s, m, args, below, meth, c, D, base, Q, y, n0, s0, ad0) mem pc ls st := by
  intro H locs ad lsA stA cells slots hR hl hs hS ha h1 h2
  obtain ⟨v, hv, hr⟩ := hl.2.2.2 _ _ hg
  rw [hr.1] at hv
  exact lv_aload_n C.1.1 C.1.2.1 hd rfl hv (K H locs ad lsA _ cells slots hR hl ⟨vr_r hr.2, hs⟩ hS ha h1 h2)
theorem sd_dload (C : Ctx (p, l, e, R, s, m, args, below, meth, c, D, base, Q, y, n0, s0, ad0) k) {i : Nat} {d : UInt64} (hg : lget ls i = some (.inr (.double d))) (hd : decode (mB y) pc = .ok (.dload i, 2)) (K : Wa (p, l, e, R, s, m, args, below, meth, c, D, base, Q, y, n0, s0, ad0) mem (pc + 2) ls (.inr (.double d) :: st)) : Wa (p, l, e, R, s, m, args, below, meth, c, D, base, Q, y, n0, s0, ad0) mem pc ls st := by
  intro H locs ad lsA stA cells slots hR hl hs hS ha h1 h2
  obtain ⟨v, hv, hr⟩ := hl.2.2.2 _ _ hg
  rw [show v = .double d from hr] at hv
  exact lv_dload C.1.1 C.1.2.1 hd hv (K H locs ad lsA _ cells slots hR hl ⟨rfl, hs⟩ hS ha h1 h2)
theorem sd_istore (C : Ctx (p, l, e, R, s, m, args, below, meth, c, D, base, Q, y, n0, s0, ad0) k) {i : Nat} {n : Int} (hi : i < ls.length) (hd : decode (mB y) pc = .ok (.istore i, 2)) (K : Wa (p, l, e, R, s, m, args, below, meth, c, D, base, Q, y, n0, s0, ad0) mem (pc + 2) (lset ls i (.inl n)) st) : Wa (p, l, e, R, s, m, args, below, meth, c, D, base, Q, y, n0, s0, ad0) mem pc ls (.inl n :: st) := by
  intro H locs ad lsA stA cells slots hR hl hs hS ha h1 h2
  obtain ⟨v, r, rfl⟩ : ∃ v r, stA = v :: r := by cases stA; exact hs.elim; exact ⟨_, _, rfl⟩
  obtain ⟨hv, hs⟩ := hs
  obtain ⟨rfl, ho⟩ := id hv
  exact lv_istore C.1.1 C.1.2.1 hd (lvs_has hl.2.1 hl.2.2.1) (by rw [← hl.1]; exact hi) rfl (fun ls' h' => K H locs ad ls' _ cells slots hR (lvr_store hl hi hv h') hs hS ha h1 h2)
theorem sd_istoren (C : Ctx (p, l, e, R, s, m, args, below, meth, c, D, base, Q, y, n0, s0, ad0) k) {i : Fin 4} {n : Int} (hi : i.val < ls.length) (hd : decode (mB y) pc = .ok (.istore_n i, 1)) (K : Wa (p, l, e, R, s, m, args, below, meth, c, D, base, Q, y, n0, s0, ad0) mem (pc + 1) (lset ls i.val (.inl n)) st) : Wa (p, l, e, R, s, m, args, below, meth, c, D, base, Q, y, n0, s0, ad0) mem pc ls (.inl n :: st) := by
  intro H locs ad lsA stA cells slots hR hl hs hS ha h1 h2
  obtain ⟨v, r, rfl⟩ : ∃ v r, stA = v :: r := by cases stA; exact hs.elim; exact ⟨_, _, rfl⟩
  obtain ⟨hv, hs⟩ := hs
  obtain ⟨rfl, ho⟩ := id hv
  exact lv_istore_n C.1.1 C.1.2.1 hd rfl (lvs_has hl.2.1 hl.2.2.1) (by rw [← hl.1]; exact hi) rfl (fun ls' h' => K H locs ad ls' _ cells slots hR (lvr_store hl hi hv h') hs hS ha h1 h2)
theorem sd_astore (C : Ctx (p, l, e, R, s, m, args, below, meth, c, D, base, Q, y, n0, s0, ad0) k) {i a : Nat} (hi : i < ls.length) (hd : decode (mB y) pc = .ok (.astore i, 2)) (K : Wa (p, l, e, R, s, m, args, below, meth, c, D, base, Q, y, n0, s0, ad0) mem (pc + 2) (lset ls i (.inr (.ref a))) st) : Wa (p, l, e, R, s, m, args, below, meth, c, D, base, Q, y, n0, s0, ad0) mem pc ls (.inr (.ref a) :: st) := by
  intro H locs ad lsA stA cells slots hR hl hs hS ha h1 h2
  obtain ⟨v, r, rfl⟩ : ∃ v r, stA = v :: r := by cases stA; exact hs.elim; exact ⟨_, _, rfl⟩
  obtain ⟨hv, hs⟩ := hs
  obtain ⟨rfl, ho⟩ := id hv
  exact lv_astore C.1.1 C.1.2.1 hd (lvs_has hl.2.1 hl.2.2.1) (by rw [← hl.1]; exact hi) rfl (fun ls' h' => K H locs ad ls' _ cells slots hR (lvr_store hl hi hv h') hs hS ha h1 h2)
theorem sd_astoren (C : Ctx (p, l, e, R, s, m, args, below, meth, c, D, base, Q, y, n0, s0, ad0) k) {i : Fin 4} {a : Nat} (hi : i.val < ls.length) (hd : decode (mB y) pc = .ok (.astore_n i, 1)) (K : Wa (p, l, e, R, s, m, args, below, meth, c, D, base, Q, y, n0, s0, ad0) mem (pc + 1) (lset ls i.val (.inr (.ref a))) st) : Wa (p, l, e, R, s, m, args, below, meth, c, D, base, Q, y, n0, s0, ad0) mem pc ls (.inr (.ref a) :: st) := by
  intro H locs ad lsA stA cells slots hR hl hs hS ha h1 h2
  obtain ⟨v, r, rfl⟩ : ∃ v r, stA = v :: r := by cases stA; exact hs.elim; exact ⟨_, _, rfl⟩
  obtain ⟨hv, hs⟩ := hs
  obtain ⟨rfl, ho⟩ := id hv
  exact lv_astore_n C.1.1 C.1.2.1 hd rfl (lvs_has hl.2.1 hl.2.2.1) (by rw [← hl.1]; exact hi) rfl (fun ls' h' => K H locs ad ls' _ cells slots hR (lvr_store hl hi hv h') hs hS ha h1 h2)
theorem sd_dstore (C : Ctx (p, l, e, R, s, m, args, below, meth, c, D, base, Q, y, n0, s0, ad0) k) {i : Nat} {d : UInt64} (hi : i + 1 < ls.length) (hd : decode (mB y) pc = .ok (.dstore i, 2)) (K : Wa (p, l, e, R, s, m, args, below, meth, c, D, base, Q, y, n0, s0, ad0) mem (pc + 2) (lset2 ls i (.inr (.double d))) st) : Wa (p, l, e, R, s, m, args, below, meth, c, D, base, Q, y, n0, s0, ad0) mem pc ls (.inr (.double d) :: st) := by
  intro H locs ad lsA stA cells slots hR hl hs hS ha h1 h2
  obtain ⟨v, r, rfl⟩ : ∃ v r, stA = v :: r := by cases stA; exact hs.elim; exact ⟨_, _, rfl⟩
  obtain ⟨hv, hs⟩ := hs
  have hv' : v = .double d := hv
  subst hv'
  exact lv_dstore C.1.1 C.1.2.1 hd (lvs_has hl.2.1 hl.2.2.1) (by rw [← hl.1]; exact hi) rfl (fun ls' h' => K H locs ad ls' _ cells slots hR (lvr_store2 hl (by omega) hv h') hs hS ha h1 h2)
theorem sd_iinc (C : Ctx (p, l, e, R, s, m, args, below, meth, c, D, base, Q, y, n0, s0, ad0) k) {i : Nat} {n v : Int} (hg : lget ls i = some (.inl v)) (hi : i < ls.length) (hd : decode (mB y) pc = .ok (.iinc i n, 3)) (K : Wa (p, l, e, R, s, m, args, below, meth, c, D, base, Q, y, n0, s0, ad0) mem (pc + 3) (lset ls i (.inl (w32 (v + (Int32.ofInt n).toInt)))) st) : Wa (p, l, e, R, s, m, args, below, meth, c, D, base, Q, y, n0, s0, ad0) mem pc ls st := by
  intro H locs ad lsA stA cells slots hR hl hs hS ha h1 h2
  obtain ⟨w, hw, hr⟩ := hl.2.2.2 _ _ hg
  rw [hr.1] at hw
  obtain ⟨q, hq⟩ := List.getElem?_of_mem (lvs_in.mpr hw)
  exact lv_iinc (v := Int32.ofInt (w32 (v + (Int32.ofInt n).toInt))) C.1.1 C.1.2.1 hd (lvs_has hl.2.1 hl.2.2.1) hq (by rw [w32_of, Int32.ofInt_add, i_of]) (by rw [← hl.1]; exact hi) rfl (fun ls' h' => K H locs ad ls' _ cells slots hR (lvr_store hl hi (vr_i rfl (w32_ok _)) h') hs hS ha h1 h2)
theorem sd_iadd (C : Ctx (p, l, e, R, s, m, args, below, meth, c, D, base, Q, y, n0, s0, ad0) k) {x z : Int} (hd : decode (mB y) pc = .ok (.iadd, 1)) (K : Wa (p, l, e, R, s, m, args, below, meth, c, D, base, Q, y, n0, s0, ad0) mem (pc + 1) ls (.inl (w32 (x + z)) :: st)) : Wa (p, l, e, R, s, m, args, below, meth, c, D, base, Q, y, n0, s0, ad0) mem pc ls (.inl z :: .inl x :: st) := by
  intro H locs ad lsA stA cells slots hR hl hs hS ha h1 h2
  obtain ⟨v1, v2, r, rfl⟩ : ∃ v1 v2 r, stA = v1 :: v2 :: r := by match stA, hs with | _ :: _ :: _, _ => exact ⟨_, _, _, rfl⟩ | [_], ⟨_, h⟩ => exact h.elim
  obtain ⟨⟨rfl, oz⟩, ⟨rfl, ox⟩, hs⟩ := hs
  exact lv_iadd C.1.1 C.1.2.1 hd (K H locs ad lsA _ cells slots hR hl ⟨vr_i ((w32_of _).trans (Int32.ofInt_add _ _)) (w32_ok _), hs⟩ hS ha h1 h2)
theorem sd_isub (C : Ctx (p, l, e, R, s, m, args, below, meth, c, D, base, Q, y, n0, s0, ad0) k) {x z : Int} (hd : decode (mB y) pc = .ok (.isub, 1)) (K : Wa (p, l, e, R, s, m, args, below, meth, c, D, base, Q, y, n0, s0, ad0) mem (pc + 1) ls (.inl (w32 (x - z)) :: st)) : Wa (p, l, e, R, s, m, args, below, meth, c, D, base, Q, y, n0, s0, ad0) mem pc ls (.inl z :: .inl x :: st) := by
  intro H locs ad lsA stA cells slots hR hl hs hS ha h1 h2
  obtain ⟨v1, v2, r, rfl⟩ : ∃ v1 v2 r, stA = v1 :: v2 :: r := by match stA, hs with | _ :: _ :: _, _ => exact ⟨_, _, _, rfl⟩ | [_], ⟨_, h⟩ => exact h.elim
  obtain ⟨⟨rfl, oz⟩, ⟨rfl, ox⟩, hs⟩ := hs
  exact lv_isub C.1.1 C.1.2.1 hd (K H locs ad lsA _ cells slots hR hl ⟨vr_i ((w32_of _).trans (Int32.ofInt_sub _ _)) (w32_ok _), hs⟩ hS ha h1 h2)
theorem sd_imul (C : Ctx (p, l, e, R, s, m, args, below, meth, c, D, base, Q, y, n0, s0, ad0) k) {x z : Int} (hd : decode (mB y) pc = .ok (.imul, 1)) (K : Wa (p, l, e, R, s, m, args, below, meth, c, D, base, Q, y, n0, s0, ad0) mem (pc + 1) ls (.inl (w32 (x * z)) :: st)) : Wa (p, l, e, R, s, m, args, below, meth, c, D, base, Q, y, n0, s0, ad0) mem pc ls (.inl z :: .inl x :: st) := by
  intro H locs ad lsA stA cells slots hR hl hs hS ha h1 h2
  obtain ⟨v1, v2, r, rfl⟩ : ∃ v1 v2 r, stA = v1 :: v2 :: r := by match stA, hs with | _ :: _ :: _, _ => exact ⟨_, _, _, rfl⟩ | [_], ⟨_, h⟩ => exact h.elim
  obtain ⟨⟨rfl, oz⟩, ⟨rfl, ox⟩, hs⟩ := hs
  exact lv_imul C.1.1 C.1.2.1 hd (K H locs ad lsA _ cells slots hR hl ⟨vr_i ((w32_of _).trans (Int32.ofInt_mul _ _)) (w32_ok _), hs⟩ hS ha h1 h2)
theorem sd_iand (C : Ctx (p, l, e, R, s, m, args, below, meth, c, D, base, Q, y, n0, s0, ad0) k) {x z : Int} (hd : decode (mB y) pc = .ok (.iand, 1)) (K : Wa (p, l, e, R, s, m, args, below, meth, c, D, base, Q, y, n0, s0, ad0) mem (pc + 1) ls (.inl (iand x z) :: st)) : Wa (p, l, e, R, s, m, args, below, meth, c, D, base, Q, y, n0, s0, ad0) mem pc ls (.inl z :: .inl x :: st) := by
  intro H locs ad lsA stA cells slots hR hl hs hS ha h1 h2
  obtain ⟨v1, v2, r, rfl⟩ : ∃ v1 v2 r, stA = v1 :: v2 :: r := by match stA, hs with | _ :: _ :: _, _ => exact ⟨_, _, _, rfl⟩ | [_], ⟨_, h⟩ => exact h.elim
  obtain ⟨⟨rfl, oz⟩, ⟨rfl, ox⟩, hs⟩ := hs
  exact lv_iand C.1.1 C.1.2.1 hd (K H locs ad lsA _ cells slots hR hl ⟨vr_i (b32_of _ _ _) (b32_ok _ _ _), hs⟩ hS ha h1 h2)
theorem sd_ior (C : Ctx (p, l, e, R, s, m, args, below, meth, c, D, base, Q, y, n0, s0, ad0) k) {x z : Int} (hd : decode (mB y) pc = .ok (.ior, 1)) (K : Wa (p, l, e, R, s, m, args, below, meth, c, D, base, Q, y, n0, s0, ad0) mem (pc + 1) ls (.inl (ior x z) :: st)) : Wa (p, l, e, R, s, m, args, below, meth, c, D, base, Q, y, n0, s0, ad0) mem pc ls (.inl z :: .inl x :: st) := by
  intro H locs ad lsA stA cells slots hR hl hs hS ha h1 h2
  obtain ⟨v1, v2, r, rfl⟩ : ∃ v1 v2 r, stA = v1 :: v2 :: r := by match stA, hs with | _ :: _ :: _, _ => exact ⟨_, _, _, rfl⟩ | [_], ⟨_, h⟩ => exact h.elim
  obtain ⟨⟨rfl, oz⟩, ⟨rfl, ox⟩, hs⟩ := hs
  exact lv_ior C.1.1 C.1.2.1 hd (K H locs ad lsA _ cells slots hR hl ⟨vr_i (b32_of _ _ _) (b32_ok _ _ _), hs⟩ hS ha h1 h2)
theorem sd_ixor (C : Ctx (p, l, e, R, s, m, args, below, meth, c, D, base, Q, y, n0, s0, ad0) k) {x z : Int} (hd : decode (mB y) pc = .ok (.ixor, 1)) (K : Wa (p, l, e, R, s, m, args, below, meth, c, D, base, Q, y, n0, s0, ad0) mem (pc + 1) ls (.inl (ixor x z) :: st)) : Wa (p, l, e, R, s, m, args, below, meth, c, D, base, Q, y, n0, s0, ad0) mem pc ls (.inl z :: .inl x :: st) := by
  intro H locs ad lsA stA cells slots hR hl hs hS ha h1 h2
  obtain ⟨v1, v2, r, rfl⟩ : ∃ v1 v2 r, stA = v1 :: v2 :: r := by match stA, hs with | _ :: _ :: _, _ => exact ⟨_, _, _, rfl⟩ | [_], ⟨_, h⟩ => exact h.elim
  obtain ⟨⟨rfl, oz⟩, ⟨rfl, ox⟩, hs⟩ := hs
  exact lv_ixor C.1.1 C.1.2.1 hd (K H locs ad lsA _ cells slots hR hl ⟨vr_i (b32_of _ _ _) (b32_ok _ _ _), hs⟩ hS ha h1 h2)
theorem sd_ishl (C : Ctx (p, l, e, R, s, m, args, below, meth, c, D, base, Q, y, n0, s0, ad0) k) {x z : Int} (hd : decode (mB y) pc = .ok (.ishl, 1)) (K : Wa (p, l, e, R, s, m, args, below, meth, c, D, base, Q, y, n0, s0, ad0) mem (pc + 1) ls (.inl (ishl x z) :: st)) : Wa (p, l, e, R, s, m, args, below, meth, c, D, base, Q, y, n0, s0, ad0) mem pc ls (.inl z :: .inl x :: st) := by
  intro H locs ad lsA stA cells slots hR hl hs hS ha h1 h2
  obtain ⟨v1, v2, r, rfl⟩ : ∃ v1 v2 r, stA = v1 :: v2 :: r := by match stA, hs with | _ :: _ :: _, _ => exact ⟨_, _, _, rfl⟩ | [_], ⟨_, h⟩ => exact h.elim
  obtain ⟨⟨rfl, oz⟩, ⟨rfl, ox⟩, hs⟩ := hs
  exact lv_ishl C.1.1 C.1.2.1 hd (K H locs ad lsA _ cells slots hR hl ⟨vr_i (b32_of _ _ _) (b32_ok _ _ _), hs⟩ hS ha h1 h2)
theorem sd_ishr (C : Ctx (p, l, e, R, s, m, args, below, meth, c, D, base, Q, y, n0, s0, ad0) k) {x z : Int} (hd : decode (mB y) pc = .ok (.ishr, 1)) (K : Wa (p, l, e, R, s, m, args, below, meth, c, D, base, Q, y, n0, s0, ad0) mem (pc + 1) ls (.inl (ishr x z) :: st)) : Wa (p, l, e, R, s, m, args, below, meth, c, D, base, Q, y, n0, s0, ad0) mem pc ls (.inl z :: .inl x :: st) := by
  intro H locs ad lsA stA cells slots hR hl hs hS ha h1 h2
  obtain ⟨v1, v2, r, rfl⟩ : ∃ v1 v2 r, stA = v1 :: v2 :: r := by match stA, hs with | _ :: _ :: _, _ => exact ⟨_, _, _, rfl⟩ | [_], ⟨_, h⟩ => exact h.elim
  obtain ⟨⟨rfl, oz⟩, ⟨rfl, ox⟩, hs⟩ := hs
  exact lv_ishr C.1.1 C.1.2.1 hd (K H locs ad lsA _ cells slots hR hl ⟨vr_i (b32_of _ _ _) (b32_ok _ _ _), hs⟩ hS ha h1 h2)
theorem sd_iushr (C : Ctx (p, l, e, R, s, m, args, below, meth, c, D, base, Q, y, n0, s0, ad0) k) {x z : Int} (hd : decode (mB y) pc = .ok (.iushr, 1)) (K : Wa (p, l, e, R, s, m, args, below, meth, c, D, base, Q, y, n0, s0, ad0) mem (pc + 1) ls (.inl (iushr x z) :: st)) : Wa (p, l, e, R, s, m, args, below, meth, c, D, base, Q, y, n0, s0, ad0) mem pc ls (.inl z :: .inl x :: st) := by
  intro H locs ad lsA stA cells slots hR hl hs hS ha h1 h2
  obtain ⟨v1, v2, r, rfl⟩ : ∃ v1 v2 r, stA = v1 :: v2 :: r := by match stA, hs with | _ :: _ :: _, _ => exact ⟨_, _, _, rfl⟩ | [_], ⟨_, h⟩ => exact h.elim
  obtain ⟨⟨rfl, oz⟩, ⟨rfl, ox⟩, hs⟩ := hs
  exact lv_iushr C.1.1 C.1.2.1 hd rfl (K H locs ad lsA _ cells slots hR hl ⟨vr_i (b32_of _ _ _) (b32_ok _ _ _), hs⟩ hS ha h1 h2)
theorem sd_idiv (C : Ctx (p, l, e, R, s, m, args, below, meth, c, D, base, Q, y, n0, s0, ad0) k) {x z : Int} (h0 : ¬ z = 0) (hd : decode (mB y) pc = .ok (.idiv, 1)) (K : Wa (p, l, e, R, s, m, args, below, meth, c, D, base, Q, y, n0, s0, ad0) mem (pc + 1) ls (.inl (idiv x z) :: st)) : Wa (p, l, e, R, s, m, args, below, meth, c, D, base, Q, y, n0, s0, ad0) mem pc ls (.inl z :: .inl x :: st) := by
  intro H locs ad lsA stA cells slots hR hl hs hS ha h1 h2
  obtain ⟨v1, v2, r, rfl⟩ : ∃ v1 v2 r, stA = v1 :: v2 :: r := by match stA, hs with | _ :: _ :: _, _ => exact ⟨_, _, _, rfl⟩ | [_], ⟨_, h⟩ => exact h.elim
  obtain ⟨⟨rfl, oz⟩, ⟨rfl, ox⟩, hs⟩ := hs
  exact lv_idiv C.1.1 C.1.2.1 hd (fun h => h0 ((i_eq oz ok_0).mp h)) (K H locs ad lsA _ cells slots hR hl ⟨vr_i (b32_of _ _ _) (b32_ok _ _ _), hs⟩ hS ha h1 h2)
theorem sd_irem (C : Ctx (p, l, e, R, s, m, args, below, meth, c, D, base, Q, y, n0, s0, ad0) k) {x z : Int} (h0 : ¬ z = 0) (hd : decode (mB y) pc = .ok (.irem, 1)) (K : Wa (p, l, e, R, s, m, args, below, meth, c, D, base, Q, y, n0, s0, ad0) mem (pc + 1) ls (.inl (irem x z) :: st)) : Wa (p, l, e, R, s, m, args, below, meth, c, D, base, Q, y, n0, s0, ad0) mem pc ls (.inl z :: .inl x :: st) := by
  intro H locs ad lsA stA cells slots hR hl hs hS ha h1 h2
  obtain ⟨v1, v2, r, rfl⟩ : ∃ v1 v2 r, stA = v1 :: v2 :: r := by match stA, hs with | _ :: _ :: _, _ => exact ⟨_, _, _, rfl⟩ | [_], ⟨_, h⟩ => exact h.elim
  obtain ⟨⟨rfl, oz⟩, ⟨rfl, ox⟩, hs⟩ := hs
  exact lv_irem C.1.1 C.1.2.1 hd (fun h => h0 ((i_eq oz ok_0).mp h)) (K H locs ad lsA _ cells slots hR hl ⟨vr_i (b32_of _ _ _) (b32_ok _ _ _), hs⟩ hS ha h1 h2)
theorem sd_i2b (C : Ctx (p, l, e, R, s, m, args, below, meth, c, D, base, Q, y, n0, s0, ad0) k) {x : Int} (hd : decode (mB y) pc = .ok (.i2b, 1)) (K : Wa (p, l, e, R, s, m, args, below, meth, c, D, base, Q, y, n0, s0, ad0) mem (pc + 1) ls (.inl (ub8 x) :: st)) : Wa (p, l, e, R, s, m, args, below, meth, c, D, base, Q, y, n0, s0, ad0) mem pc ls (.inl x :: st) := by
  intro H locs ad lsA stA cells slots hR hl hs hS ha h1 h2
  obtain ⟨v1, r, rfl⟩ : ∃ v1 r, stA = v1 :: r := by cases stA; exact hs.elim; exact ⟨_, _, rfl⟩
  obtain ⟨⟨rfl, ox⟩, hs⟩ := hs
  exact lv_i2b C.1.1 C.1.2.1 hd rfl (K H locs ad lsA _ cells slots hR hl ⟨vr_i (i_of _) (i_ok _), hs⟩ hS ha h1 h2)
theorem sd_i2c (C : Ctx (p, l, e, R, s, m, args, below, meth, c, D, base, Q, y, n0, s0, ad0) k) {x : Int} (hd : decode (mB y) pc = .ok (.i2c, 1)) (K : Wa (p, l, e, R, s, m, args, below, meth, c, D, base, Q, y, n0, s0, ad0) mem (pc + 1) ls (.inl (uc16 x) :: st)) : Wa (p, l, e, R, s, m, args, below, meth, c, D, base, Q, y, n0, s0, ad0) mem pc ls (.inl x :: st) := by
  intro H locs ad lsA stA cells slots hR hl hs hS ha h1 h2
  obtain ⟨v1, r, rfl⟩ : ∃ v1 r, stA = v1 :: r := by cases stA; exact hs.elim; exact ⟨_, _, rfl⟩
  obtain ⟨⟨rfl, ox⟩, hs⟩ := hs
  exact lv_i2c C.1.1 C.1.2.1 hd rfl (K H locs ad lsA _ cells slots hR hl ⟨vr_i (i_of _) (i_ok _), hs⟩ hS ha h1 h2)
theorem sd_i2l (C : Ctx (p, l, e, R, s, m, args, below, meth, c, D, base, Q, y, n0, s0, ad0) k) {x : Int} (hd : decode (mB y) pc = .ok (.i2l, 1)) (K : Wa (p, l, e, R, s, m, args, below, meth, c, D, base, Q, y, n0, s0, ad0) mem (pc + 1) ls (.inr (.long (Int32.ofInt x).toInt64) :: st)) : Wa (p, l, e, R, s, m, args, below, meth, c, D, base, Q, y, n0, s0, ad0) mem pc ls (.inl x :: st) := by
  intro H locs ad lsA stA cells slots hR hl hs hS ha h1 h2
  obtain ⟨v1, r, rfl⟩ : ∃ v1 r, stA = v1 :: r := by cases stA; exact hs.elim; exact ⟨_, _, rfl⟩
  obtain ⟨⟨rfl, ox⟩, hs⟩ := hs
  exact lv_i2l C.1.1 C.1.2.1 hd rfl (K H locs ad lsA _ cells slots hR hl ⟨rfl, hs⟩ hS ha h1 h2)
theorem sd_i2d (C : Ctx (p, l, e, R, s, m, args, below, meth, c, D, base, Q, y, n0, s0, ad0) k) {x : Int} (hd : decode (mB y) pc = .ok (.i2d, 1)) (K : Wa (p, l, e, R, s, m, args, below, meth, c, D, base, Q, y, n0, s0, ad0) mem (pc + 1) ls (.inr (.double (FP.i2d (Int32.ofInt x))) :: st)) : Wa (p, l, e, R, s, m, args, below, meth, c, D, base, Q, y, n0, s0, ad0) mem pc ls (.inl x :: st) := by
  intro H locs ad lsA stA cells slots hR hl hs hS ha h1 h2
  obtain ⟨v1, r, rfl⟩ : ∃ v1 r, stA = v1 :: r := by cases stA; exact hs.elim; exact ⟨_, _, rfl⟩
  obtain ⟨⟨rfl, ox⟩, hs⟩ := hs
  exact lv_i2d C.1.1 C.1.2.1 hd (K H locs ad lsA _ cells slots hR hl ⟨rfl, hs⟩ hS ha h1 h2)
theorem sd_i2f (C : Ctx (p, l, e, R, s, m, args, below, meth, c, D, base, Q, y, n0, s0, ad0) k) {x : Int} (hd : decode (mB y) pc = .ok (.i2f, 1)) (K : Wa (p, l, e, R, s, m, args, below, meth, c, D, base, Q, y, n0, s0, ad0) mem (pc + 1) ls (.inr (.float (FP.i2f (Int32.ofInt x))) :: st)) : Wa (p, l, e, R, s, m, args, below, meth, c, D, base, Q, y, n0, s0, ad0) mem pc ls (.inl x :: st) := by
  intro H locs ad lsA stA cells slots hR hl hs hS ha h1 h2
  obtain ⟨v1, r, rfl⟩ : ∃ v1 r, stA = v1 :: r := by cases stA; exact hs.elim; exact ⟨_, _, rfl⟩
  obtain ⟨⟨rfl, ox⟩, hs⟩ := hs
  exact lv_i2f C.1.1 C.1.2.1 hd (K H locs ad lsA _ cells slots hR hl ⟨rfl, hs⟩ hS ha h1 h2)
theorem sd_ddiv (C : Ctx (p, l, e, R, s, m, args, below, meth, c, D, base, Q, y, n0, s0, ad0) k) {x z : UInt64} (hn : FP.ddiv x z &&& 0x7fffffffffffffff ≤ 0x7ff0000000000000) (hd : decode (mB y) pc = .ok (.ddiv, 1)) (K : Wa (p, l, e, R, s, m, args, below, meth, c, D, base, Q, y, n0, s0, ad0) mem (pc + 1) ls (.inr (.double (FP.ddiv x z)) :: st)) : Wa (p, l, e, R, s, m, args, below, meth, c, D, base, Q, y, n0, s0, ad0) mem pc ls (.inr (.double z) :: .inr (.double x) :: st) := by
  intro H locs ad lsA stA cells slots hR hl hs hS ha h1 h2
  obtain ⟨v1, v2, r, rfl⟩ : ∃ v1 v2 r, stA = v1 :: v2 :: r := by match stA, hs with | _ :: _ :: _, _ => exact ⟨_, _, _, rfl⟩ | [_], ⟨_, h⟩ => exact h.elim
  obtain ⟨e1, e2, hs⟩ := hs
  have e1' : v1 = .double z := e1
  have e2' : v2 = .double x := e2
  subst e1'; subst e2'
  exact lv_ddiv C.1.1 C.1.2.1 hd hn (K H locs ad lsA _ cells slots hR hl ⟨rfl, hs⟩ hS ha h1 h2)
theorem sd_fdiv (C : Ctx (p, l, e, R, s, m, args, below, meth, c, D, base, Q, y, n0, s0, ad0) k) {x z : UInt32} (hn : FP.fdiv x z &&& 0x7fffffff ≤ 0x7f800000) (hd : decode (mB y) pc = .ok (.fdiv, 1)) (K : Wa (p, l, e, R, s, m, args, below, meth, c, D, base, Q, y, n0, s0, ad0) mem (pc + 1) ls (.inr (.float (FP.fdiv x z)) :: st)) : Wa (p, l, e, R, s, m, args, below, meth, c, D, base, Q, y, n0, s0, ad0) mem pc ls (.inr (.float z) :: .inr (.float x) :: st) := by
  intro H locs ad lsA stA cells slots hR hl hs hS ha h1 h2
  obtain ⟨v1, v2, r, rfl⟩ : ∃ v1 v2 r, stA = v1 :: v2 :: r := by match stA, hs with | _ :: _ :: _, _ => exact ⟨_, _, _, rfl⟩ | [_], ⟨_, h⟩ => exact h.elim
  obtain ⟨e1, e2, hs⟩ := hs
  have e1' : v1 = .float z := e1
  have e2' : v2 = .float x := e2
  subst e1'; subst e2'
  exact lv_fdiv C.1.1 C.1.2.1 hd hn (K H locs ad lsA _ cells slots hR hl ⟨rfl, hs⟩ hS ha h1 h2)
theorem sd_f2d (C : Ctx (p, l, e, R, s, m, args, below, meth, c, D, base, Q, y, n0, s0, ad0) k) {x : UInt32} (hn : FP.f2d x &&& 0x7fffffffffffffff ≤ 0x7ff0000000000000) (hd : decode (mB y) pc = .ok (.f2d, 1)) (K : Wa (p, l, e, R, s, m, args, below, meth, c, D, base, Q, y, n0, s0, ad0) mem (pc + 1) ls (.inr (.double (FP.f2d x)) :: st)) : Wa (p, l, e, R, s, m, args, below, meth, c, D, base, Q, y, n0, s0, ad0) mem pc ls (.inr (.float x) :: st) := by
  intro H locs ad lsA stA cells slots hR hl hs hS ha h1 h2
  obtain ⟨v1, r, rfl⟩ : ∃ v1 r, stA = v1 :: r := by cases stA; exact hs.elim; exact ⟨_, _, rfl⟩
  obtain ⟨e1, hs⟩ := hs
  have e1' : v1 = .float x := e1
  subst e1'
  exact lv_f2d C.1.1 C.1.2.1 hd hn (K H locs ad lsA _ cells slots hR hl ⟨rfl, hs⟩ hS ha h1 h2)
theorem sd_dcmp (C : Ctx (p, l, e, R, s, m, args, below, meth, c, D, base, Q, y, n0, s0, ad0) k) {x z : UInt64} {op : CmpOp} (hd : decode (mB y) pc = .ok (.dcmp op, 1)) (K : Wa (p, l, e, R, s, m, args, below, meth, c, D, base, Q, y, n0, s0, ad0) mem (pc + 1) ls (.inl (Op.cmpValue (FP.dcmp x z) op).toInt :: st)) : Wa (p, l, e, R, s, m, args, below, meth, c, D, base, Q, y, n0, s0, ad0) mem pc ls (.inr (.double z) :: .inr (.double x) :: st) := by
  intro H locs ad lsA stA cells slots hR hl hs hS ha h1 h2
  obtain ⟨v1, v2, r, rfl⟩ : ∃ v1 v2 r, stA = v1 :: v2 :: r := by match stA, hs with | _ :: _ :: _, _ => exact ⟨_, _, _, rfl⟩ | [_], ⟨_, h⟩ => exact h.elim
  obtain ⟨e1, e2, hs⟩ := hs
  have e1' : v1 = .double z := e1
  have e2' : v2 = .double x := e2
  subst e1'; subst e2'
  exact lv_dcmp C.1.1 C.1.2.1 hd (K H locs ad lsA _ cells slots hR hl ⟨vr_i (i_of _) (i_ok _), hs⟩ hS ha h1 h2)
theorem sd_lcmp (C : Ctx (p, l, e, R, s, m, args, below, meth, c, D, base, Q, y, n0, s0, ad0) k) {x z : Int64} (hd : decode (mB y) pc = .ok (.lcmp, 1)) (K : Wa (p, l, e, R, s, m, args, below, meth, c, D, base, Q, y, n0, s0, ad0) mem (pc + 1) ls (.inl (lg_cmp x z).toInt :: st)) : Wa (p, l, e, R, s, m, args, below, meth, c, D, base, Q, y, n0, s0, ad0) mem pc ls (.inr (.long z) :: .inr (.long x) :: st) := by
  intro H locs ad lsA stA cells slots hR hl hs hS ha h1 h2
  obtain ⟨v1, v2, r, rfl⟩ : ∃ v1 v2 r, stA = v1 :: v2 :: r := by match stA, hs with | _ :: _ :: _, _ => exact ⟨_, _, _, rfl⟩ | [_], ⟨_, h⟩ => exact h.elim
  obtain ⟨e1, e2, hs⟩ := hs
  have e1' : v1 = .long z := e1
  have e2' : v2 = .long x := e2
  subst e1'; subst e2'
  exact W.lcmp C.1.1 C.1.2.1 hd (K H locs ad lsA _ cells slots hR hl ⟨vr_i (i_of _) (i_ok _), hs⟩ hS ha h1 h2)
theorem sd_dupi (C : Ctx (p, l, e, R, s, m, args, below, meth, c, D, base, Q, y, n0, s0, ad0) k) {x : Int} (hd : decode (mB y) pc = .ok (.dup, 1)) (K : Wa (p, l, e, R, s, m, args, below, meth, c, D, base, Q, y, n0, s0, ad0) mem (pc + 1) ls (.inl x :: .inl x :: st)) : Wa (p, l, e, R, s, m, args, below, meth, c, D, base, Q, y, n0, s0, ad0) mem pc ls (.inl x :: st) := by
  intro H locs ad lsA stA cells slots hR hl hs hS ha h1 h2
  obtain ⟨v1, r, rfl⟩ : ∃ v1 r, stA = v1 :: r := by cases stA; exact hs.elim; exact ⟨_, _, rfl⟩
  obtain ⟨⟨rfl, ox⟩, hs⟩ := hs
  exact lv_dup C.1.1 C.1.2.1 hd rfl (K H locs ad lsA _ cells slots hR hl ⟨⟨rfl, ox⟩, ⟨rfl, ox⟩, hs⟩ hS ha h1 h2)
theorem sd_dupr (C : Ctx (p, l, e, R, s, m, args, below, meth, c, D, base, Q, y, n0, s0, ad0) k) {x : Nat} (hd : decode (mB y) pc = .ok (.dup, 1)) (K : Wa (p, l, e, R, s, m, args, below, meth, c, D, base, Q, y, n0, s0, ad0) mem (pc + 1) ls (.inr (.ref x) :: .inr (.ref x) :: st)) : Wa (p, l, e, R, s, m, args, below, meth, c, D, base, Q, y, n0, s0, ad0) mem pc ls (.inr (.ref x) :: st) := by
  intro H locs ad lsA stA cells slots hR hl hs hS ha h1 h2
  obtain ⟨v1, r, rfl⟩ : ∃ v1 r, stA = v1 :: r := by cases stA; exact hs.elim; exact ⟨_, _, rfl⟩
  obtain ⟨⟨rfl, ox⟩, hs⟩ := hs
  exact lv_dup C.1.1 C.1.2.1 hd rfl (K H locs ad lsA _ cells slots hR hl ⟨⟨rfl, ox⟩, ⟨rfl, ox⟩, hs⟩ hS ha h1 h2)
theorem sd_dup2 (C : Ctx (p, l, e, R, s, m, args, below, meth, c, D, base, Q, y, n0, s0, ad0) k) {x : Nat} {z : Int} (hd : decode (mB y) pc = .ok (.dup2, 1)) (K : Wa (p, l, e, R, s, m, args, below, meth, c, D, base, Q, y, n0, s0, ad0) mem (pc + 1) ls (.inl z :: .inr (.ref x) :: .inl z :: .inr (.ref x) :: st)) : Wa (p, l, e, R, s, m, args, below, meth, c, D, base, Q, y, n0, s0, ad0) mem pc ls (.inl z :: .inr (.ref x) :: st) := by
  intro H locs ad lsA stA cells slots hR hl hs hS ha h1 h2
  obtain ⟨v1, v2, r, rfl⟩ : ∃ v1 v2 r, stA = v1 :: v2 :: r := by match stA, hs with | _ :: _ :: _, _ => exact ⟨_, _, _, rfl⟩ | [_], ⟨_, h⟩ => exact h.elim
  obtain ⟨⟨rfl, oz⟩, ⟨rfl, ox⟩, hs⟩ := hs
  exact lv_dup2_11 C.1.1 C.1.2.1 hd rfl rfl (K H locs ad lsA _ cells slots hR hl ⟨⟨rfl, oz⟩, ⟨rfl, ox⟩, ⟨rfl, oz⟩, ⟨rfl, ox⟩, hs⟩ hS ha h1 h2)
theorem sd_pop (C : Ctx (p, l, e, R, s, m, args, below, meth, c, D, base, Q, y, n0, s0, ad0) k) {x : Int} (hd : decode (mB y) pc = .ok (.pop, 1)) (K : Wa (p, l, e, R, s, m, args, below, meth, c, D, base, Q, y, n0, s0, ad0) mem (pc + 1) ls st) : Wa (p, l, e, R, s, m, args, below, meth, c, D, base, Q, y, n0, s0, ad0) mem pc ls (.inl x :: st) := by
  intro H locs ad lsA stA cells slots hR hl hs hS ha h1 h2
  obtain ⟨v1, r, rfl⟩ : ∃ v1 r, stA = v1 :: r := by cases stA; exact hs.elim; exact ⟨_, _, rfl⟩
  obtain ⟨⟨rfl, ox⟩, hs⟩ := hs
  exact lv_pop C.1.1 C.1.2.1 hd rfl (K H locs ad lsA _ cells slots hR hl hs hS ha h1 h2)
theorem tg_eq {pc : Nat} {off : Int} (h : 0 ≤ (pc : Int) + off) : (pc : Int) + off = (tg pc off : Int) := by unfold tg; omega
theorem sd_goto (C : Ctx (p, l, e, R, s, m, args, below, meth, c, D, base, Q, y, n0, s0, ad0) k) {off : Int} (hd : decode (mB y) pc = .ok (.goto off, 3)) (ht : 0 ≤ (pc : Int) + off) (K : Wa (p, l, e, R, s, m, args, below, meth, c, D, base, Q, y, n0, s0, ad0) mem (tg pc off) ls st) : Wa (p, l, e, R, s, m, args, below, meth, c, D, base, Q, y, n0, s0, ad0) mem pc ls st := by
  intro H locs ad lsA stA cells slots hR hl hs hS ha h1 h2
  exact lv_goto C.1.1 C.1.2.1 hd (tg_eq ht) (K H locs ad lsA _ cells slots hR hl hs hS ha h1 h2)
theorem sd_ifnull_r (C : Ctx (p, l, e, R, s, m, args, below, meth, c, D, base, Q, y, n0, s0, ad0) k) {x : Nat} {off : Int} (hd : decode (mB y) pc = .ok (.ifnull off, 3)) (K : Wa (p, l, e, R, s, m, args, below, meth, c, D, base, Q, y, n0, s0, ad0) mem (pc + 3) ls st) : Wa (p, l, e, R, s, m, args, below, meth, c, D, base, Q, y, n0, s0, ad0) mem pc ls (.inr (.ref x) :: st) := by
  intro H locs ad lsA stA cells slots hR hl hs hS ha h1 h2
  obtain ⟨v1, r, rfl⟩ : ∃ v1 r, stA = v1 :: r := by cases stA; exact hs.elim; exact ⟨_, _, rfl⟩
  obtain ⟨⟨rfl, ox⟩, hs⟩ := hs
  exact lv_ifnull C.1.1 C.1.2.1 hd (K H locs ad lsA _ cells slots hR hl hs hS ha h1 h2)
theorem sd_ifnull_n (C : Ctx (p, l, e, R, s, m, args, below, meth, c, D, base, Q, y, n0, s0, ad0) k) {off : Int} (hd : decode (mB y) pc = .ok (.ifnull off, 3)) (ht : 0 ≤ (pc : Int) + off) (K : Wa (p, l, e, R, s, m, args, below, meth, c, D, base, Q, y, n0, s0, ad0) mem (tg pc off) ls st) : Wa (p, l, e, R, s, m, args, below, meth, c, D, base, Q, y, n0, s0, ad0) mem pc ls (.inr .null :: st) := by
  intro H locs ad lsA stA cells slots hR hl hs hS ha h1 h2
  obtain ⟨v1, r, rfl⟩ : ∃ v1 r, stA = v1 :: r := by cases stA; exact hs.elim; exact ⟨_, _, rfl⟩
  obtain ⟨e1, hs⟩ := hs
  have e1' : v1 = .null := e1
  subst e1'
  exact lv_ifnullN C.1.1 C.1.2.1 hd (tg_eq ht) (K H locs ad lsA _ cells slots hR hl hs hS ha h1 h2)
theorem sd_ifnn_r (C : Ctx (p, l, e, R, s, m, args, below, meth, c, D, base, Q, y, n0, s0, ad0) k) {x : Nat} {off : Int} (hd : decode (mB y) pc = .ok (.ifnonnull off, 3)) (ht : 0 ≤ (pc : Int) + off) (K : Wa (p, l, e, R, s, m, args, below, meth, c, D, base, Q, y, n0, s0, ad0) mem (tg pc off) ls st) : Wa (p, l, e, R, s, m, args, below, meth, c, D, base, Q, y, n0, s0, ad0) mem pc ls (.inr (.ref x) :: st) := by
  intro H locs ad lsA stA cells slots hR hl hs hS ha h1 h2
  obtain ⟨v1, r, rfl⟩ : ∃ v1 r, stA = v1 :: r := by cases stA; exact hs.elim; exact ⟨_, _, rfl⟩
  obtain ⟨⟨rfl, ox⟩, hs⟩ := hs
  exact lv_ifnonnull C.1.1 C.1.2.1 hd (tg_eq ht) (K H locs ad lsA _ cells slots hR hl hs hS ha h1 h2)
theorem sd_ifnn_n (C : Ctx (p, l, e, R, s, m, args, below, meth, c, D, base, Q, y, n0, s0, ad0) k) {off : Int} (hd : decode (mB y) pc = .ok (.ifnonnull off, 3)) (K : Wa (p, l, e, R, s, m, args, below, meth, c, D, base, Q, y, n0, s0, ad0) mem (pc + 3) ls st) : Wa (p, l, e, R, s, m, args, below, meth, c, D, base, Q, y, n0, s0, ad0) mem pc ls (.inr .null :: st) := by
  intro H locs ad lsA stA cells slots hR hl hs hS ha h1 h2
  obtain ⟨v1, r, rfl⟩ : ∃ v1 r, stA = v1 :: r := by cases stA; exact hs.elim; exact ⟨_, _, rfl⟩
  obtain ⟨e1, hs⟩ := hs
  have e1' : v1 = .null := e1
  subst e1'
  exact lv_ifnonnullN C.1.1 C.1.2.1 hd (K H locs ad lsA _ cells slots hR hl hs hS ha h1 h2)
theorem sd_if_eq (C : Ctx (p, l, e, R, s, m, args, below, meth, c, D, base, Q, y, n0, s0, ad0) k) {x : Int} {off : Int} (hd : decode (mB y) pc = .ok (.ifCond .eq off, 3)) (ht : 0 ≤ (pc : Int) + off) (Kt : x = 0 → Wa (p, l, e, R, s, m, args, below, meth, c, D, base, Q, y, n0, s0, ad0) mem (tg pc off) ls st) (Kf : ¬ (x = 0) → Wa (p, l, e, R, s, m, args, below, meth, c, D, base, Q, y, n0, s0, ad0) mem (pc + 3) ls st) : Wa (p, l, e, R, s, m, args, below, meth, c, D, base, Q, y, n0, s0, ad0) mem pc ls (.inl x :: st) := by
  intro H locs ad lsA stA cells slots hR hl hs hS ha h1 h2
  obtain ⟨v1, r, rfl⟩ : ∃ v1 r, stA = v1 :: r := by cases stA; exact hs.elim; exact ⟨_, _, rfl⟩
  obtain ⟨⟨rfl, ox⟩, hs⟩ := hs
  exact lv_if_eq C.1.1 C.1.2.1 hd (tg_eq ht) (fun h => Kt ((i_eq ox ok_0).mp h) H locs ad lsA _ cells slots hR hl hs hS ha h1 h2) (fun h => Kf (fun h9 => h ((i_eq ox ok_0).mpr h9)) H locs ad lsA _ cells slots hR hl hs hS ha h1 h2)
theorem sd_icmp_eq (C : Ctx (p, l, e, R, s, m, args, below, meth, c, D, base, Q, y, n0, s0, ad0) k) {x z : Int} {off : Int} (hd : decode (mB y) pc = .ok (.if_icmp .eq off, 3)) (ht : 0 ≤ (pc : Int) + off) (Kt : x = z → Wa (p, l, e, R, s, m, args, below, meth, c, D, base, Q, y, n0, s0, ad0) mem (tg pc off) ls st) (Kf : ¬ (x = z) → Wa (p, l, e, R, s, m, args, below, meth, c, D, base, Q, y, n0, s0, ad0) mem (pc + 3) ls st) : Wa (p, l, e, R, s, m, args, below, meth, c, D, base, Q, y, n0, s0, ad0) mem pc ls (.inl z :: .inl x :: st) := by
  intro H locs ad lsA stA cells slots hR hl hs hS ha h1 h2
  obtain ⟨v1, v2, r, rfl⟩ : ∃ v1 v2 r, stA = v1 :: v2 :: r := by match stA, hs with | _ :: _ :: _, _ => exact ⟨_, _, _, rfl⟩ | [_], ⟨_, h⟩ => exact h.elim
  obtain ⟨⟨rfl, oz⟩, ⟨rfl, ox⟩, hs⟩ := hs
  exact lv_icmp_eq C.1.1 C.1.2.1 hd (tg_eq ht) (fun h => Kt ((i_eq ox oz).mp h) H locs ad lsA _ cells slots hR hl hs hS ha h1 h2) (fun h => Kf (fun h9 => h ((i_eq ox oz).mpr h9)) H locs ad lsA _ cells slots hR hl hs hS ha h1 h2)
theorem sd_if_ne (C : Ctx (p, l, e, R, s, m, args, below, meth, c, D, base, Q, y, n0, s0, ad0) k) {x : Int} {off : Int} (hd : decode (mB y) pc = .ok (.ifCond .ne off, 3)) (ht : 0 ≤ (pc : Int) + off) (Kt : ¬ x = 0 → Wa (p, l, e, R, s, m, args, below, meth, c, D, base, Q, y, n0, s0, ad0) mem (tg pc off) ls st) (Kf : ¬ (¬ x = 0) → Wa (p, l, e, R, s, m, args, below, meth, c, D, base, Q, y, n0, s0, ad0) mem (pc + 3) ls st) : Wa (p, l, e, R, s, m, args, below, meth, c, D, base, Q, y, n0, s0, ad0) mem pc ls (.inl x :: st) := by
  intro H locs ad lsA stA cells slots hR hl hs hS ha h1 h2
  obtain ⟨v1, r, rfl⟩ : ∃ v1 r, stA = v1 :: r := by cases stA; exact hs.elim; exact ⟨_, _, rfl⟩
  obtain ⟨⟨rfl, ox⟩, hs⟩ := hs
  exact lv_if_ne C.1.1 C.1.2.1 hd (tg_eq ht) (fun h => Kt (fun h9 => h ((i_eq ox ok_0).mpr h9)) H locs ad lsA _ cells slots hR hl hs hS ha h1 h2) (fun h => Kf (fun h9 => h9 ((i_eq ox ok_0).mp h)) H locs ad lsA _ cells slots hR hl hs hS ha h1 h2)
theorem sd_icmp_ne (C : Ctx (p, l, e, R, s, m, args, below, meth, c, D, base, Q, y, n0, s0, ad0) k) {x z : Int} {off : Int} (hd : decode (mB y) pc = .ok (.if_icmp .ne off, 3)) (ht : 0 ≤ (pc : Int) + off) (Kt : ¬ x = z → Wa (p, l, e, R, s, m, args, below, meth, c, D, base, Q, y, n0, s0, ad0) mem (tg pc off) ls st) (Kf : ¬ (¬ x = z) → Wa (p, l, e, R, s, m, args, below, meth, c, D, base, Q, y, n0, s0, ad0) mem (pc + 3) ls st) : Wa (p, l, e, R, s, m, args, below, meth, c, D, base, Q, y, n0, s0, ad0) mem pc ls (.inl z :: .inl x :: st) := by
  intro H locs ad lsA stA cells slots hR hl hs hS ha h1 h2
  obtain ⟨v1, v2, r, rfl⟩ : ∃ v1 v2 r, stA = v1 :: v2 :: r := by match stA, hs with | _ :: _ :: _, _ => exact ⟨_, _, _, rfl⟩ | [_], ⟨_, h⟩ => exact h.elim
  obtain ⟨⟨rfl, oz⟩, ⟨rfl, ox⟩, hs⟩ := hs
  exact lv_icmp_ne C.1.1 C.1.2.1 hd (tg_eq ht) (fun h => Kt (fun h9 => h ((i_eq ox oz).mpr h9)) H locs ad lsA _ cells slots hR hl hs hS ha h1 h2) (fun h => Kf (fun h9 => h9 ((i_eq ox oz).mp h)) H locs ad lsA _ cells slots hR hl hs hS ha h1 h2)
theorem sd_if_lt (C : Ctx (p, l, e, R, s, m, args, below, meth, c, D, base, Q, y, n0, s0, ad0) k) {x : Int} {off : Int} (hd : decode (mB y) pc = .ok (.ifCond .lt off, 3)) (ht : 0 ≤ (pc : Int) + off) (Kt : x < 0 → Wa (p, l, e, R, s, m, args, below, meth, c, D, base, Q, y, n0, s0, ad0) mem (tg pc off) ls st) (Kf : ¬ (x < 0) → Wa (p, l, e, R, s, m, args, below, meth, c, D, base, Q, y, n0, s0, ad0) mem (pc + 3) ls st) : Wa (p, l, e, R, s, m, args, below, meth, c, D, base, Q, y, n0, s0, ad0) mem pc ls (.inl x :: st) := by
  intro H locs ad lsA stA cells slots hR hl hs hS ha h1 h2
  obtain ⟨v1, r, rfl⟩ : ∃ v1 r, stA = v1 :: r := by cases stA; exact hs.elim; exact ⟨_, _, rfl⟩
  obtain ⟨⟨rfl, ox⟩, hs⟩ := hs
  exact lv_if_lt C.1.1 C.1.2.1 hd (tg_eq ht) (fun h => Kt ((i_lt ox ok_0).mp h) H locs ad lsA _ cells slots hR hl hs hS ha h1 h2) (fun h => Kf (fun h9 => h ((i_lt ox ok_0).mpr h9)) H locs ad lsA _ cells slots hR hl hs hS ha h1 h2)
theorem sd_icmp_lt (C : Ctx (p, l, e, R, s, m, args, below, meth, c, D, base, Q, y, n0, s0, ad0) k) {x z : Int} {off : Int} (hd : decode (mB y) pc = .ok (.if_icmp .lt off, 3)) (ht : 0 ≤ (pc : Int) + off) (Kt : x < z → Wa (p, l, e, R, s, m, args, below, meth, c, D, base, Q, y, n0, s0, ad0) mem (tg pc off) ls st) (Kf : ¬ (x < z) → Wa (p, l, e, R, s, m, args, below, meth, c, D, base, Q, y, n0, s0, ad0) mem (pc + 3) ls st) : Wa (p, l, e, R, s, m, args, below, meth, c, D, base, Q, y, n0, s0, ad0) mem pc ls (.inl z :: .inl x :: st) := by
  intro H locs ad lsA stA cells slots hR hl hs hS ha h1 h2
  obtain ⟨v1, v2, r, rfl⟩ : ∃ v1 v2 r, stA = v1 :: v2 :: r := by match stA, hs with | _ :: _ :: _, _ => exact ⟨_, _, _, rfl⟩ | [_], ⟨_, h⟩ => exact h.elim
  obtain ⟨⟨rfl, oz⟩, ⟨rfl, ox⟩, hs⟩ := hs
  exact lv_icmp_lt C.1.1 C.1.2.1 hd (tg_eq ht) (fun h => Kt ((i_lt ox oz).mp h) H locs ad lsA _ cells slots hR hl hs hS ha h1 h2) (fun h => Kf (fun h9 => h ((i_lt ox oz).mpr h9)) H locs ad lsA _ cells slots hR hl hs hS ha h1 h2)
theorem sd_if_ge (C : Ctx (p, l, e, R, s, m, args, below, meth, c, D, base, Q, y, n0, s0, ad0) k) {x : Int} {off : Int} (hd : decode (mB y) pc = .ok (.ifCond .ge off, 3)) (ht : 0 ≤ (pc : Int) + off) (Kt : 0 ≤ x → Wa (p, l, e, R, s, m, args, below, meth, c, D, base, Q, y, n0, s0, ad0) mem (tg pc off) ls st) (Kf : ¬ (0 ≤ x) → Wa (p, l, e, R, s, m, args, below, meth, c, D, base, Q, y, n0, s0, ad0) mem (pc + 3) ls st) : Wa (p, l, e, R, s, m, args, below, meth, c, D, base, Q, y, n0, s0, ad0) mem pc ls (.inl x :: st) := by
  intro H locs ad lsA stA cells slots hR hl hs hS ha h1 h2
  obtain ⟨v1, r, rfl⟩ : ∃ v1 r, stA = v1 :: r := by cases stA; exact hs.elim; exact ⟨_, _, rfl⟩
  obtain ⟨⟨rfl, ox⟩, hs⟩ := hs
  exact lv_if_ge C.1.1 C.1.2.1 hd (tg_eq ht) (fun h => Kt ((i_le ok_0 ox).mp h) H locs ad lsA _ cells slots hR hl hs hS ha h1 h2) (fun h => Kf (fun h9 => h ((i_le ok_0 ox).mpr h9)) H locs ad lsA _ cells slots hR hl hs hS ha h1 h2)
theorem sd_icmp_ge (C : Ctx (p, l, e, R, s, m, args, below, meth, c, D, base, Q, y, n0, s0, ad0) k) {x z : Int} {off : Int} (hd : decode (mB y) pc = .ok (.if_icmp .ge off, 3)) (ht : 0 ≤ (pc : Int) + off) (Kt : z ≤ x → Wa (p, l, e, R, s, m, args, below, meth, c, D, base, Q, y, n0, s0, ad0) mem (tg pc off) ls st) (Kf : ¬ (z ≤ x) → Wa (p, l, e, R, s, m, args, below, meth, c, D, base, Q, y, n0, s0, ad0) mem (pc + 3) ls st) : Wa (p, l, e, R, s, m, args, below, meth, c, D, base, Q, y, n0, s0, ad0) mem pc ls (.inl z :: .inl x :: st) := by
  intro H locs ad lsA stA cells slots hR hl hs hS ha h1 h2
  obtain ⟨v1, v2, r, rfl⟩ : ∃ v1 v2 r, stA = v1 :: v2 :: r := by match stA, hs with | _ :: _ :: _, _ => exact ⟨_, _, _, rfl⟩ | [_], ⟨_, h⟩ => exact h.elim
  obtain ⟨⟨rfl, oz⟩, ⟨rfl, ox⟩, hs⟩ := hs
  exact lv_icmp_ge C.1.1 C.1.2.1 hd (tg_eq ht) (fun h => Kt ((i_le oz ox).mp h) H locs ad lsA _ cells slots hR hl hs hS ha h1 h2) (fun h => Kf (fun h9 => h ((i_le oz ox).mpr h9)) H locs ad lsA _ cells slots hR hl hs hS ha h1 h2)
theorem sd_if_gt (C : Ctx (p, l, e, R, s, m, args, below, meth, c, D, base, Q, y, n0, s0, ad0) k) {x : Int} {off : Int} (hd : decode (mB y) pc = .ok (.ifCond .gt off, 3)) (ht : 0 ≤ (pc : Int) + off) (Kt : 0 < x → Wa (p, l, e, R, s, m, args, below, meth, c, D, base, Q, y, n0, s0, ad0) mem (tg pc off) ls st) (Kf : ¬ (0 < x) → Wa (p, l, e, R, s, m, args, below, meth, c, D, base, Q, y, n0, s0, ad0) mem (pc + 3) ls st) : Wa (p, l, e, R, s, m, args, below, meth, c, D, base, Q, y, n0, s0, ad0) mem pc ls (.inl x :: st) := by
  intro H locs ad lsA stA cells slots hR hl hs hS ha h1 h2
  obtain ⟨v1, r, rfl⟩ : ∃ v1 r, stA = v1 :: r := by cases stA; exact hs.elim; exact ⟨_, _, rfl⟩
  obtain ⟨⟨rfl, ox⟩, hs⟩ := hs
  exact lv_if_gt C.1.1 C.1.2.1 hd (tg_eq ht) (fun h => Kt ((i_lt ok_0 ox).mp h) H locs ad lsA _ cells slots hR hl hs hS ha h1 h2) (fun h => Kf (fun h9 => h ((i_lt ok_0 ox).mpr h9)) H locs ad lsA _ cells slots hR hl hs hS ha h1 h2)
theorem sd_icmp_gt (C : Ctx (p, l, e, R, s, m, args, below, meth, c, D, base, Q, y, n0, s0, ad0) k) {x z : Int} {off : Int} (hd : decode (mB y) pc = .ok (.if_icmp .gt off, 3)) (ht : 0 ≤ (pc : Int) + off) (Kt : z < x → Wa (p, l, e, R, s, m, args, below, meth, c, D, base, Q, y, n0, s0, ad0) mem (tg pc off) ls st) (Kf : ¬ (z < x) → Wa (p, l, e, R, s, m, args, below, meth, c, D, base, Q, y, n0, s0, ad0) mem (pc + 3) ls st) : Wa (p, l, e, R, s, m, args, below, meth, c, D, base, Q, y, n0, s0, ad0) mem pc ls (.inl z :: .inl x :: st) := by
  intro H locs ad lsA stA cells slots hR hl hs hS ha h1 h2
  obtain ⟨v1, v2, r, rfl⟩ : ∃ v1 v2 r, stA = v1 :: v2 :: r := by match stA, hs with | _ :: _ :: _, _ => exact ⟨_, _, _, rfl⟩ | [_], ⟨_, h⟩ => exact h.elim
  obtain ⟨⟨rfl, oz⟩, ⟨rfl, ox⟩, hs⟩ := hs
  exact lv_icmp_gt C.1.1 C.1.2.1 hd (tg_eq ht) (fun h => Kt ((i_lt oz ox).mp h) H locs ad lsA _ cells slots hR hl hs hS ha h1 h2) (fun h => Kf (fun h9 => h ((i_lt oz ox).mpr h9)) H locs ad lsA _ cells slots hR hl hs hS ha h1 h2)
theorem sd_if_le (C : Ctx (p, l, e, R, s, m, args, below, meth, c, D, base, Q, y, n0, s0, ad0) k) {x : Int} {off : Int} (hd : decode (mB y) pc = .ok (.ifCond .le off, 3)) (ht : 0 ≤ (pc : Int) + off) (Kt : x ≤ 0 → Wa (p, l, e, R, s, m, args, below, meth, c, D, base, Q, y, n0, s0, ad0) mem (tg pc off) ls st) (Kf : ¬ (x ≤ 0) → Wa (p, l, e, R, s, m, args, below, meth, c, D, base, Q, y, n0, s0, ad0) mem (pc + 3) ls st) : Wa (p, l, e, R, s, m, args, below, meth, c, D, base, Q, y, n0, s0, ad0) mem pc ls (.inl x :: st) := by
  intro H locs ad lsA stA cells slots hR hl hs hS ha h1 h2
  obtain ⟨v1, r, rfl⟩ : ∃ v1 r, stA = v1 :: r := by cases stA; exact hs.elim; exact ⟨_, _, rfl⟩
  obtain ⟨⟨rfl, ox⟩, hs⟩ := hs
  exact lv_if_le C.1.1 C.1.2.1 hd (tg_eq ht) (fun h => Kt ((i_le ox ok_0).mp h) H locs ad lsA _ cells slots hR hl hs hS ha h1 h2) (fun h => Kf (fun h9 => h ((i_le ox ok_0).mpr h9)) H locs ad lsA _ cells slots hR hl hs hS ha h1 h2)
theorem sd_icmp_le (C : Ctx (p, l, e, R, s, m, args, below, meth, c, D, base, Q, y, n0, s0, ad0) k) {x z : Int} {off : Int} (hd : decode (mB y) pc = .ok (.if_icmp .le off, 3)) (ht : 0 ≤ (pc : Int) + off) (Kt : x ≤ z → Wa (p, l, e, R, s, m, args, below, meth, c, D, base, Q, y, n0, s0, ad0) mem (tg pc off) ls st) (Kf : ¬ (x ≤ z) → Wa (p, l, e, R, s, m, args, below, meth, c, D, base, Q, y, n0, s0, ad0) mem (pc + 3) ls st) : Wa (p, l, e, R, s, m, args, below, meth, c, D, base, Q, y, n0, s0, ad0) mem pc ls (.inl z :: .inl x :: st) := by
  intro H locs ad lsA stA cells slots hR hl hs hS ha h1 h2
  obtain ⟨v1, v2, r, rfl⟩ : ∃ v1 v2 r, stA = v1 :: v2 :: r := by match stA, hs with | _ :: _ :: _, _ => exact ⟨_, _, _, rfl⟩ | [_], ⟨_, h⟩ => exact h.elim
  obtain ⟨⟨rfl, oz⟩, ⟨rfl, ox⟩, hs⟩ := hs
  exact lv_icmp_le C.1.1 C.1.2.1 hd (tg_eq ht) (fun h => Kt ((i_le ox oz).mp h) H locs ad lsA _ cells slots hR hl hs hS ha h1 h2) (fun h => Kf (fun h9 => h ((i_le ox oz).mpr h9)) H locs ad lsA _ cells slots hR hl hs hS ha h1 h2)
end
