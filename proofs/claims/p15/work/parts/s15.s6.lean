/-! Calls, and the theorem: what the abstract machine runs, the machine runs. -/
def rmk (k mc ms : Nat) : Room := { frames := 10 + k, cells := mc, slots := ms, locals := 200 + 59 * k }
theorem mH_none : (List.range 323).all (fun y => (mHl.lookup y).isSome == false) = true := by decide +kernel
theorem mH_some : (List.range 30).all (fun j => (mHl.lookup (323 + j)).isSome) = true := by decide +kernel
theorem oI_lt : (List.range 323).all (fun y => decide (oI y ≠ 19)) = true := by decide +kernel
theorem oI_ge : (List.range 31).all (fun j => decide (oI (323 + j) = 19)) = true := by decide +kernel
theorem cM_help : cpM.all (fun e => decide (e.2.1 < 323) || decide (e.1.1 = 19) || decide (353 ≤ e.2.1)) = true := by decide +kernel
theorem cM_prv : cpM.all (fun e => decide (e.2.2.2 ≠ 1) || decide ((e.1.1, e.1.2, e.2.1) ∈ nstL)) = true := by decide +kernel
theorem vw_own : (List.range 12).all (fun ci => match vwCl[ci]? with
  | some q => decide (q.1 = ownN ci)
  | none => false) = true := by decide +kernel
theorem mHl_lt {y : Nat} (h : y < 323) : mHl.lookup y = none := by
  have := List.all_eq_true.mp mH_none y (List.mem_range.mpr h)
  cases hh : mHl.lookup y with
  | none => rfl
  | some _ => rw [hh] at this; cases this
theorem cw_lt {y : Nat} (h : (mHl.lookup y).isSome = false) : cw y = .code (yN y) (mB y) (mL y) (mR y) := by unfold cw; rw [if_neg (by rw [h]; decide)]
theorem mH_lt {y : Nat} (h : (mHl.lookup y).isSome = false) : mH y = [] := by
  unfold mH
  cases hh : mHl.lookup y with
  | none => rfl
  | some _ => rw [hh] at h; cases h
/-- what is known of a method -/
theorem mOK_in {y : Nat} (h : y < 353) : (mS y = true → Cond.static (yN y) ∈ gw) ∧ (mS y = false → Cond.instanceMethod (yN y) ∈ gw) ∧ (mS y = false → isIni y = false → Cond.selects (yN y).cls (yN y) (yN y) ∈ gw) ∧ Cond.initialized (yN y).cls ∈ gw ∧ (yN y).cls = ownN (oI y) ∧
    ((yN y).cls ≠ "java/lang/invoke/MethodHandle" ∧ (yN y).cls ≠ "java/lang/invoke/VarHandle") ∧ (∀ sig, parseMethodDescriptor (yN y).desc = some sig → mP y = sig.parameters.length) ∧ plainName (yN y).cls = true ∧ mL y ≤ 40 := by
  have h0 := mOK_at h
  unfold mOK at h0
  simp only [Bool.and_eq_true, decide_eq_true_eq, Bool.or_eq_true] at h0
  obtain ⟨⟨⟨⟨⟨⟨g1, g2⟩, g3⟩, g4⟩, g5⟩, g6⟩, g7⟩ := h0
  refine ⟨fun hs => ?_, fun hs => ?_, fun hs hi => ?_, at_in g3, g4, ⟨g5.1, g5.2.1⟩, fun sig hsig => ?_, g6, g7⟩
  · rw [if_pos hs] at g1; exact at_in g1
  · rw [if_neg (by rw [hs]; decide)] at g1; exact at_in g1
  · rcases g2 with (g2 | g2) | g2
    · rw [hs] at g2; cases g2
    · rw [hi] at g2; cases g2
    · exact at_in g2
  · have := g5.2.2
    rw [hsig] at this
    exact (Option.some.inj this).symm
theorem gw_good {w : Cond} (h : w ∈ gw) : (w.onTables && w.keeps) = true ∨ ∃ ty, w = .arrayClass ty := good_of_word (List.mem_filter.mp h).2
theorem ws_pay {args : Array Value} {s : State} {y : Nat} (hts : ∀ w ∈ gw, w.before args s = true) (hy : y < 353) : ∀ w ∈ cw y :: gw, ∀ (a' : Array Value) (U : State), s.WarmedH U.vm → w.before a' U = true :=
  pay_in hts (fun w hw => by
    have hg : w ∈ gw := by
      rcases List.mem_cons.mp hw with rfl | hw
      · exact cwT_at hy
      · exact hw
    exact ⟨hg, gw_good hg⟩)
theorem takeA_spec {ad : Nat → Nat} {N : Nat} : ∀ (n : Nat) (st acc as r : List AV) (stA accA : List Value), takeA n st acc = some (as, r) → str ad N st stA → str ad N acc accA →
    ∃ ws rest, stA = ws ++ rest ∧ ws.length = n ∧ str ad N as (ws.reverse ++ accA) ∧ str ad N r rest
  | 0, st, acc, as, r, stA, accA, h, hs, ha => by
    simp only [takeA, Option.some.injEq, Prod.mk.injEq] at h
    obtain ⟨rfl, rfl⟩ := h
    exact ⟨[], stA, rfl, rfl, ha, hs⟩
  | n + 1, [], acc, as, r, stA, accA, h, hs, ha => by cases h
  | n + 1, x :: st, acc, as, r, v :: stA, accA, h, hs, ha => by
    obtain ⟨ws, rest, e1, e2, e3, e4⟩ := takeA_spec n st (x :: acc) as r stA (v :: accA) h hs.2 ⟨hs.1, ha⟩
    exact ⟨v :: ws, rest, by rw [e1]; rfl, by simp [e2], by simpa using e3, e4⟩
theorem takeA_len : ∀ (n : Nat) (st acc as r : List AV), takeA n st acc = some (as, r) → as.length = n + acc.length
  | 0, st, acc, as, r, h => by
    simp only [takeA, Option.some.injEq, Prod.mk.injEq] at h
    obtain ⟨rfl, rfl⟩ := h
    simp
  | n + 1, [], acc, as, r, h => by cases h
  | n + 1, x :: st, acc, as, r, h => by
    have := takeA_len n st (x :: acc) as r h
    simp only [List.length_cons] at this
    omega
def MetAt (l : Launch) (k y : Nat) (as : List AV) (mem mem1 : Mem) (out1 : Out) : Prop := ∀ (D : va_G) (base : Nat) (ad : Nat → Nat) (vals : List Value), 64 ≤ M_n mem → str ad (M_n mem) as vals →
  vx_Met l (yN y) (cw y :: gw) (rmk k (M_n mem1 - M_n mem) (M_s mem1 - M_s mem)) (PcA D base ad mem vals) (QcA D base ad (M_n mem) mem1 out1) (XcA D base ad (M_n mem) mem1 out1) (M_n mem1 - M_n mem) (M_s mem1 - M_s mem) (Ab base)
section
variable {p : Program} {l : Launch} {e : Env} {R : Room} {s : State} {m : MethodId} {args : Array Value} {below : List Frame} {meth : Method} {c : Code} {D : va_G} {base : Nat} {Q : State → Prop} {y n0 s0 : Nat} {ad0 : Nat → Nat} {k : Nat}
variable {mem mem1 : Mem} {ls : List (Option AV)} {st : List AV}
theorem callee_pre (C : Ctx (p, l, e, R, s, m, args, below, meth, c, D, base, Q, y, n0, s0, ad0) k) {H : Heap} {locs : List Loc} {ad : Nat → Nat} (hR : Rep D base ad mem s H) (hS : va_S (Ab base) s.heap H locs) (ha : ∀ a, a < n0 → ad a = ad0 a) (vals : List Value) (U : State) (hU : U.heap = H) (hW : s.WarmedH U.vm) : PcA D base ad mem vals vals.toArray U := by
  have h64 : ∀ a, a < 64 → ad a = ad0 a := fun a h => ha a (by have := C.2.2.2.2.2.2.1.2; omega)
  refine ⟨rfl, by rw [hU]; exact hR.moved hW.alike, C.2.2.2.1.moved hW.alike, ?_, (C.2.2.2.2.2.1.ext h64).warm hW, by rw [hU]; exact Nat.le_trans C.2.2.2.2.2.2.1.1 hS.1⟩
  rw [hU]
  exact ((C.2.2.2.2.1.kept (fun a g1 g2 => hS.2.1 a g1 g2)).ext h64).moved hW.alike
theorem call_b (C : Ctx (p, l, e, R, s, m, args, below, meth, c, D, base, Q, y, n0, s0, ad0) (k + 1)) {i y' : Nat} {out1 : Out} {mc ms : Nat} (hy : y' < 353) (hh : (mHl.lookup y').isSome = false) (hw : Cond.methodLink (ownN (oI y)) i (yN y') ∈ gw) :
    CallB R s args (ownN (oI y)) i (yN y') (mB y') (mL y') (mR y') (cw y' :: gw) (rmk k mc ms) mc ms (mP y') := by
  obtain ⟨g1, g2, g3, g4, g5, g6, g7, g8, g9⟩ := mOK_in hy
  have hR9 := C.2.2.2.2.2.2.2
  have hcw := cw_lt hh
  refine ⟨rfl, rfl, ?_, ?_, ws_pay C.2.1 hy, by rw [hcw]; exact List.mem_cons_self, ?_, C.2.1 _ g4, g6, fun sig h => g7 sig h, C.2.1 _ hw⟩
  · show 10 + k + 1 ≤ R.frames; omega
  · show 8 + (mL y' + 11) + (200 + 59 * k) ≤ R.locals; omega
  · have := C.2.1 _ (cwT_at hy); rwa [hcw] at this
theorem sd_recv (C : Ctx (p, l, e, R, s, m, args, below, meth, c, D, base, Q, y, n0, s0, ad0) k) {H : Heap} {ad : Nat → Nat} {o κ : Nat} (hR : Rep D base ad mem s H) (hk : κ < 14) (hsh : (M_sh mem o).1 = 10 + κ) : ∃ cellB : Cell, H[ad o]? = some cellB ∧ cellB.vm.isStatics = false ∧ s.vm.findClass (ownN κ) = some cellB.cls := by
  have ho := (hR.1 o (by omega)).2
  unfold ora at ho
  rw [if_neg (by omega), hsh] at ho
  by_cases h12 : κ < 12
  · rw [if_pos (by omega), show 10 + κ - 10 = κ by omega] at ho
    obtain ⟨q, hq, cell, c1, c2, c3, -⟩ := ho
    refine ⟨cell, c1, by rw [c3]; rfl, ?_⟩
    have hn : q.1 = ownN κ := by
      have := List.all_eq_true.mp vw_own κ (List.mem_range.mpr h12)
      rw [hq] at this
      simpa using this
    rw [c2, ← hn]
    exact (C.2.2.2.1.1 κ _ hq).2.1
  · rw [if_neg (by omega)] at ho
    unfold cst at ho
    have h2 : κ = 12 ∨ κ = 13 := by omega
    rcases h2 with rfl | rfl
    · rw [if_pos (by omega)] at ho
      obtain ⟨⟨cell, w1, w2, w3, -⟩, -⟩ := ho
      exact ⟨cell, w1, w2, w3⟩
    · rw [if_neg (by omega)] at ho
      obtain ⟨-, ⟨cell, w1, w2, w3, -⟩, -⟩ := ho
      exact ⟨cell, w1, w2, w3⟩
theorem ws_split {ws rest : List Value} {b : Nat} {As : List Value} (h : ws.reverse = .ref b :: As) : ws ++ rest = As.reverse ++ .ref b :: rest := by
  have : ws = (Value.ref b :: As).reverse := by rw [← h, List.reverse_reverse]
  rw [this]; simp
theorem call_v (C : Ctx (p, l, e, R, s, m, args, below, meth, c, D, base, Q, y, n0, s0, ad0) (k + 1)) {i y' : Nat} {out1 : Out} {as r : List AV} {pc : Nat} (hy : y' < 353) (hst : mS y' = false) (hin : isIni y' = false) (hh : (mHl.lookup y').isSome = false) (hw : Cond.methodLink (ownN (oI y)) i (yN y') ∈ gw) (hoI : oI y' < 14)
    (ht : takeA (mP y' + 1) st [] = some (as, r)) (hrc : okrecv (10 + oI y') as mem = true) (hr : r.length ≤ 4) (hM : MetAt l k y' as mem mem1 out1) (hn : M_n mem ≤ M_n mem1) (hz : M_s mem ≤ M_s mem1) (hroom : M_n mem1 ≤ n0 + R.cells ∧ M_s mem1 ≤ s0 + R.slots) (hn0 : n0 ≤ M_n mem)
    (hd : decode (mB y) pc = .ok (.invokevirtual i, 3)) : RunOK (p, l, e, R, s, m, args, below, meth, c, D, base, Q, y, n0, s0, ad0) mem mem1 out1 pc ls st r := by
  intro H locs ad lsA stA cells slots hR hl hs hS ha h1 h2
  obtain ⟨ws, rest, rfl, hwl, has, hrest⟩ := takeA_spec _ _ _ _ _ _ [] ht hs trivial
  rw [List.append_nil] at has
  have hct := str_cat hrest
  obtain ⟨g1, g2, g3, g4, g5, g6, g7, g8, g9⟩ := mOK_in hy
  match as, hrc, has with
  | .inr (.ref o) :: as', hrc, has =>
    obtain ⟨w, As, hwr⟩ : ∃ w As, ws.reverse = w :: As := by
      cases hc : ws.reverse with
      | nil => rw [hc] at has; exact has.elim
      | cons a b => exact ⟨a, b, rfl⟩
    rw [hwr] at has
    obtain ⟨⟨rfl, hoN⟩, has'⟩ := id has
    have hsh : (M_sh mem o).1 = 10 + oI y' := by simpa [okrecv] using hrc
    refine ⟨rest, (Value.ref (ad o) :: As).toArray, hrest, ?_⟩
    have hlen : As.length = mP y' := by have h9 : ws.reverse.length = mP y' + 1 := by rw [List.length_reverse, hwl]
                                        rw [hwr] at h9; simpa using h9
    have hrecv := sd_recv C hR hoI hsh
    rw [← g5] at hrecv
    exact vx_runV (C := (yN y').cls) ⟨C.1.1, C.1.2.1, C.1.2.2.1, C.1.2.2.2.1, C.2.1⟩ (hM D base ad (.ref (ad o) :: As) (Nat.le_trans C.2.2.2.2.2.2.1.2 hn0) has) ⟨call_b (out1 := out1) C hy hh hw, C.2.1 _ (g2 hst), C.2.1 _ (g3 hst hin)⟩ ⟨PcA.blind, hrecv, fun U hU hW => callee_pre C hR hS ha _ U hU hW⟩
      rfl hlen hl.2.1 (ws_split hwr) (by show 2 * 0 + _ ≤ 8; omega) hd (by omega)
theorem call_s (C : Ctx (p, l, e, R, s, m, args, below, meth, c, D, base, Q, y, n0, s0, ad0) (k + 1)) {i y' : Nat} {out1 : Out} {as r : List AV} {pc : Nat} (hy : y' < 353) (hst : mS y' = true) (hh : (mHl.lookup y').isSome = false) (hw : Cond.methodLink (ownN (oI y)) i (yN y') ∈ gw)
    (ht : takeA (mP y') st [] = some (as, r)) (hr : r.length ≤ 4) (hM : MetAt l k y' as mem mem1 out1) (hn : M_n mem ≤ M_n mem1) (hz : M_s mem ≤ M_s mem1) (hroom : M_n mem1 ≤ n0 + R.cells ∧ M_s mem1 ≤ s0 + R.slots) (hn0 : n0 ≤ M_n mem)
    (hd : decode (mB y) pc = .ok (.invokestatic i, 3)) : RunOK (p, l, e, R, s, m, args, below, meth, c, D, base, Q, y, n0, s0, ad0) mem mem1 out1 pc ls st r := by
  intro H locs ad lsA stA cells slots hR hl hs hS ha h1 h2
  obtain ⟨ws, rest, rfl, hwl, has, hrest⟩ := takeA_spec _ _ _ _ _ _ [] ht hs trivial
  rw [List.append_nil] at has
  have hct := str_cat hrest
  obtain ⟨g1, g2, g3, g4, g5, g6, g7, g8, g9⟩ := mOK_in hy
  refine ⟨rest, ws.reverse.toArray, hrest, ?_⟩
  exact vx_runS ⟨C.1.1, C.1.2.1, C.1.2.2.1, C.1.2.2.2.1, C.2.1⟩ (hM D base ad ws.reverse (Nat.le_trans C.2.2.2.2.2.2.1.2 hn0) has) ⟨call_b (out1 := out1) C hy hh hw, C.2.1 _ (g1 hst)⟩ ⟨PcA.blind, fun U hU hW => callee_pre C hR hS ha _ U hU hW⟩
      rfl (by rw [List.length_reverse, hwl]) hl.2.1 (by rw [List.reverse_reverse]) (by show 2 * 0 + _ ≤ 8; omega) hd (by omega)
theorem call_sx (C : Ctx (p, l, e, R, s, m, args, below, meth, c, D, base, Q, y, n0, s0, ad0) (k + 1)) {i y' : Nat} {out1 : Out} {as r : List AV} {pc : Nat} (hy : y' < 353) (hst : mS y' = true) (hh : (mHl.lookup y').isSome = true) (hw : Cond.methodLink (ownN (oI y)) i (yN y') ∈ gw)
    (ht : takeA (mP y') st [] = some (as, r)) (hr : r.length ≤ 4) (hM : MetAt l k y' as mem mem1 out1) (hn : M_n mem ≤ M_n mem1) (hz : M_s mem ≤ M_s mem1) (hroom : M_n mem1 ≤ n0 + R.cells ∧ M_s mem1 ≤ s0 + R.slots) (hn0 : n0 ≤ M_n mem)
    (hd : decode (mB y) pc = .ok (.invokestatic i, 3)) : RunOK (p, l, e, R, s, m, args, below, meth, c, D, base, Q, y, n0, s0, ad0) mem mem1 out1 pc ls st r := by
  intro H locs ad lsA stA cells slots hR hl hs hS ha h1 h2
  obtain ⟨ws, rest, rfl, hwl, has, hrest⟩ := takeA_spec _ _ _ _ _ _ [] ht hs trivial
  rw [List.append_nil] at has
  have hct := str_cat hrest
  obtain ⟨g1, g2, g3, g4, g5, g6, g7, g8, g9⟩ := mOK_in hy
  have hR9 := C.2.2.2.2.2.2.2
  have hcw : cw y' = .codeWith (yN y') (mB y') (mL y') (mR y') (mH y') := by unfold cw; rw [if_pos hh]
  refine ⟨rest, ws.reverse.toArray, hrest, ?_⟩
  refine vx_runSX (hh := mH y') (bytes := mB y') (maxL := mL y') (ret := mR y') ⟨C.1.1, C.1.2.1, C.1.2.2.1, C.1.2.2.2.1, C.2.1⟩ (hM D base ad ws.reverse (Nat.le_trans C.2.2.2.2.2.2.1.2 hn0) has) ⟨⟨rfl, rfl, ?_, ?_, ws_pay C.2.1 hy, by rw [hcw]; exact List.mem_cons_self⟩, ?_, C.2.1 _ g4, g6, fun sig h => g7 sig h, C.2.1 _ hw, C.2.1 _ (g1 hst)⟩ ⟨PcA.blind, fun U hU hW => callee_pre C hR hS ha _ U hU hW⟩
      rfl (by rw [List.length_reverse, hwl]) hl.2.1 (by rw [List.reverse_reverse]) (by show 2 * 0 + _ ≤ 8; omega) hd (by omega)
  · show 10 + k + 1 ≤ R.frames; omega
  · show 8 + (mL y' + 11) + (200 + 59 * k) ≤ R.locals; omega
  · have := C.2.1 _ (cwT_at hy); rwa [hcw] at this
theorem call_i (C : Ctx (p, l, e, R, s, m, args, below, meth, c, D, base, Q, y, n0, s0, ad0) (k + 1)) {i y' : Nat} {out1 : Out} {as r : List AV} {pc : Nat} (hy : y' < 353) (hst : mS y' = false) (hin : isIni y' = true) (hh : (mHl.lookup y').isSome = false) (hret : mR y' = none) (hw : Cond.methodLink (ownN (oI y)) i (yN y') ∈ gw ∨ (oI y, i, y') ∈ nstL)
    (ht : takeA (mP y' + 1) st [] = some (as, r)) (hrc : okrecv (10 + oI y') as mem = true) (hr : r.length ≤ 4) (hM : MetAt l k y' as mem mem1 out1) (hn : M_n mem ≤ M_n mem1) (hz : M_s mem ≤ M_s mem1) (hroom : M_n mem1 ≤ n0 + R.cells ∧ M_s mem1 ≤ s0 + R.slots) (hn0 : n0 ≤ M_n mem)
    (hd : decode (mB y) pc = .ok (.invokespecial i, 3)) : RunOK (p, l, e, R, s, m, args, below, meth, c, D, base, Q, y, n0, s0, ad0) mem mem1 out1 pc ls st r := by
  intro H locs ad lsA stA cells slots hR hl hs hS ha h1 h2
  obtain ⟨ws, rest, rfl, hwl, has, hrest⟩ := takeA_spec _ _ _ _ _ _ [] ht hs trivial
  rw [List.append_nil] at has
  have hct := str_cat hrest
  obtain ⟨g1, g2, g3, g4, g5, g6, g7, g8, g9⟩ := mOK_in hy
  have hR9 := C.2.2.2.2.2.2.2
  have hcw := cw_lt hh
  have hini : (yN y').name = "<init>" := by unfold isIni at hin; simpa using hin
  match as, hrc, has with
  | .inr (.ref o) :: as', hrc, has =>
    obtain ⟨w, As, hwr⟩ : ∃ w As, ws.reverse = w :: As := by
      cases hc : ws.reverse with
      | nil => rw [hc] at has; exact has.elim
      | cons a b => exact ⟨a, b, rfl⟩
    rw [hwr] at has
    obtain ⟨⟨rfl, hoN⟩, has'⟩ := id has
    refine ⟨rest, (Value.ref (ad o) :: As).toArray, hrest, ?_⟩
    have hlen : As.length = mP y' := by have h9 : ws.reverse.length = mP y' + 1 := by rw [List.length_reverse, hwl]
                                        rw [hwr] at h9; simpa using h9
    have hMet := hM D base ad (.ref (ad o) :: As) (Nat.le_trans C.2.2.2.2.2.2.1.2 hn0) has
    rcases hw with hw | hw
    · have hcb := call_b (out1 := out1) (mc := M_n mem1 - M_n mem) (ms := M_s mem1 - M_s mem) C hy hh hw
      rw [hret] at hcb
      exact vx_runI ⟨C.1.1, C.1.2.1, C.1.2.2.1, C.1.2.2.2.1, C.2.1⟩ hMet ⟨hcb, hini, C.2.1 _ (g2 hst)⟩ ⟨PcA.blind, fun U hU hW => callee_pre C hR hS ha _ U hU hW⟩
        rfl hlen hl.2.1 (ws_split hwr) (by show 2 * 0 + _ ≤ 8; omega) hd (by omega)
    · have hcode : (Cond.code (yN y') (mB y') (mL y') none).before args s = true := by have := C.2.1 _ (cwT_at hy); rw [hcw, hret] at this; exact this
      have hnest : (Cond.methodLinkNest (ownN (oI y)) i (yN y') "SwapChoices").before args s = true := va_Nw.use (w := .methodLinkNest (ownN (oI y)) i (yN y') "SwapChoices") rfl (C.2.2.2.2.2.1.2.1 (oI y, i, y') hw)
      exact vx_runIN (host := "SwapChoices") (bytes := mB y') (maxL := mL y') ⟨C.1.1, C.1.2.1, C.1.2.2.1, C.1.2.2.2.1, C.2.1⟩ hMet ⟨⟨⟨rfl, rfl, by show 10 + k + 1 ≤ R.frames; omega, by show 8 + (mL y' + 11) + (200 + 59 * k) ≤ R.locals; omega, ws_pay C.2.1 hy, by rw [hcw, hret]; exact List.mem_cons_self⟩, hcode, C.2.1 _ g4, g6, fun sig h => g7 sig h, hnest⟩, hini, C.2.1 _ (g2 hst)⟩ ⟨PcA.blind, fun U hU hW => callee_pre C hR hS ha _ U hU hW⟩
        rfl hlen hl.2.1 (ws_split hwr) (by show 2 * 0 + _ ≤ 8; omega) hd (by omega)
end
